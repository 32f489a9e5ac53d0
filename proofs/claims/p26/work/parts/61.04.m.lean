-- TensorForgeModel form (II)I
abbrev zr_form_14_71 : Room := { frames := 2, cells := 0, slots := 0, locals := 32 }
def zp_form_14_71 (p0 : Int) (p1 : Int) (S0 : zz_S) : Int → zz_S → Prop := fun r S => zz_G S ∧ zz_fr [(1079, 0)] [] (fun _ _ => False) S0 S ∧ ((-2147483648) ≤ r ∧ r ≤ 2147483647) ∧ (∀ v : zn_T, zn_M S0 v → (S 1079 0 = 1 ∧ ¬ (0 ≤ p0 ∧ p0 < v 15 0)) ∨ (S 1079 0 = 2 ∧ (0 ≤ p0 ∧ p0 < v 15 0) ∧ (p1 < 0 ∨ 3 < p1)) ∨ (S 1079 0 = 0 ∧ (0 ≤ p0 ∧ p0 < v 15 0) ∧ (0 ≤ p1 ∧ p1 ≤ 3) ∧ r = zn_fo v p0 p1))
theorem zc_form_14_71 {g : mm_G} {l : Launch} (p0 : Int) (p1 : Int) (S0 : zz_S) (n : Nat) (hn : zz_end ≤ n) (G_S0 : zz_G S0) (hp0 : (-2147483648) ≤ p0 ∧ p0 ≤ 2147483647) (hp1 : (-2147483648) ≤ p1 ∧ p1 ≤ 2147483647) : mm_Met g l zy_form_14_71 zr_form_14_71 [.ref 1079, zi p0, zi p1] (zz_M S0 n) n (zz_QI n (zp_form_14_71 p0 p1 S0)) := by
  refine zz_enter (by decide) (Nat.le_of_ble_eq_true rfl) (zz_less (ls1 := [some (.ref 1079), some (zi p0), some (zi p1)]) ⟨rfl, ⟨rfl, ⟨rfl, trivial⟩⟩⟩ ?_)
  have F_S0 : zz_fr [(1079, 0)] [] (fun _ _ => False) S0 S0 := zz_fr.refl
  refine zz_aload_n (x := 1079) rfl zd_14_71_0 ?_
  refine zz_aload_n (x := 1079) rfl zd_14_71_1 ?_
  refine zz_iload_n (x := p0) rfl zd_14_71_2 ?_
  have g1 := zz_G.r G_S0 1079 36 0 11 rfl rfl
  refine zz_callVI [zi p0] zd_14_71_3 zk_Md_411 zT_1079 (zz_ltn hn rfl) rfl rfl ⟨Nat.le_of_ble_eq_true rfl, Nat.le_of_ble_eq_true rfl⟩ ⟨rfl, rfl⟩ (Nat.zero_le _) (Nat.zero_le _) (zc_isTensor_14_66 p0 S0 n hn G_S0 (by omega)) (fun v3 S2 hP => ?_)
  obtain ⟨rfl, o4, o5⟩ := hP
  rcases (by omega : v3 = 0 ∨ v3 = 1) with rfl | rfl
  · refine zz_if_ne (by omega) zd_14_71_6 (fun c6 => ?_) (fun c6 => ?_)
    · exfalso; omega
    · refine zz_iconst zd_14_71_9 ?_
      refine zz_goto zd_14_71_10 ?_
      refine zz_aload_n (x := 1079) rfl zd_14_71_14 ?_
      refine zz_iload_n (x := p0) rfl zd_14_71_15 ?_
      refine zz_callVI [zi p0] zd_14_71_16 zk_Md_411 zT_1079 (zz_ltn hn rfl) rfl rfl ⟨Nat.le_of_ble_eq_true rfl, Nat.le_of_ble_eq_true rfl⟩ ⟨rfl, rfl⟩ (Nat.zero_le _) (Nat.zero_le _) (zc_isTensor_14_66 p0 S0 n hn G_S0 (by omega)) (fun v8 S7 hP => ?_)
      obtain ⟨rfl, o9, o10⟩ := hP
      rcases (by omega : v8 = 0 ∨ v8 = 1) with rfl | rfl
      · refine zz_if_eq (by omega) zd_14_71_19 (fun c11 => ?_) (fun c11 => ?_)
        · refine zz_iconst zd_14_71_38 ?_
          refine zz_iconst zd_14_71_39 ?_
          refine zz_callVI [zi 1, zi 0, zi 0] zd_14_71_40 zk_Md_196 zT_1079 (zz_ltn hn rfl) rfl rfl ⟨Nat.le_of_ble_eq_true rfl, Nat.le_of_ble_eq_true rfl⟩ ⟨rfl, rfl⟩ (Nat.zero_le _) (Nat.zero_le _) (zc_refuse_14_3 1 0 0 S0 n hn G_S0 (by omega) (by omega) (by omega)) (fun v13 S12 hP => ?_)
          obtain ⟨G_S12, fS12, o14, o15⟩ := hP
          have F_S12 := zz_fr.trans F_S0 fS12 rfl zz_nv
          rcases (by omega : v13 = 0 ∨ v13 = 1) with rfl | rfl
          · exfalso; omega
          · have e16 : S12 1079 0 = 1 := by omega
            clear o15
            refine zz_if_eq (by omega) zd_14_71_43 (fun c17 => ?_) (fun c17 => ?_)
            · exfalso; omega
            · refine zz_iconst zd_14_71_46 ?_
              exact zz_iret zd_14_71_47 rfl (Nat.zero_le _) (Nat.zero_le _) ⟨_, _, rfl, G_S12, F_S12, by omega, (fun v hM => by have h9 := hM.1; omega)⟩
        · exfalso; omega
      · refine zz_if_eq (by omega) zd_14_71_19 (fun c18 => ?_) (fun c18 => ?_)
        · exfalso; omega
        · refine zz_iload_n (x := p1) rfl zd_14_71_22 ?_
          refine zz_i2l (by omega) zd_14_71_23 ?_
          refine zz_lconst (z := 0) (by decide) zd_14_71_24 ?_
          refine zz_ldc2 (z := 3) zq_Md_416 (by decide) zd_14_71_25 ?_
          refine zz_callSI [zl p1, zl 0, zl 3] zd_14_71_28 zk_Md_192 rfl rfl ⟨Nat.le_of_ble_eq_true rfl, Nat.le_of_ble_eq_true rfl⟩ ⟨rfl, rfl⟩ (Nat.zero_le _) (Nat.zero_le _) (zc_in_14_4 p1 0 3 S0 n hn G_S0 (by omega) (by omega) (by omega)) (fun v20 S19 hP => ?_)
          obtain ⟨rfl, o21, o22⟩ := hP
          rcases (by omega : v20 = 0 ∨ v20 = 1) with rfl | rfl
          · have n23 : p1 < 0 ∨ 3 < p1 := by omega
            clear o22
            refine zz_if_ne (by omega) zd_14_71_31 (fun c24 => ?_) (fun c24 => ?_)
            · exfalso; omega
            · refine zz_iconst zd_14_71_34 ?_
              refine zz_goto zd_14_71_35 ?_
              refine zz_iconst zd_14_71_39 ?_
              refine zz_callVI [zi 1, zi 1, zi 0] zd_14_71_40 zk_Md_196 zT_1079 (zz_ltn hn rfl) rfl rfl ⟨Nat.le_of_ble_eq_true rfl, Nat.le_of_ble_eq_true rfl⟩ ⟨rfl, rfl⟩ (Nat.zero_le _) (Nat.zero_le _) (zc_refuse_14_3 1 1 0 S0 n hn G_S0 (by omega) (by omega) (by omega)) (fun v26 S25 hP => ?_)
              obtain ⟨G_S25, fS25, o27, o28⟩ := hP
              have F_S25 := zz_fr.trans F_S0 fS25 rfl zz_nv
              rcases (by omega : v26 = 0 ∨ v26 = 1) with rfl | rfl
              · exfalso; omega
              · have e29 : S25 1079 0 = 1 := by omega
                clear o28
                refine zz_if_eq (by omega) zd_14_71_43 (fun c30 => ?_) (fun c30 => ?_)
                · exfalso; omega
                · refine zz_iconst zd_14_71_46 ?_
                  exact zz_iret zd_14_71_47 rfl (Nat.zero_le _) (Nat.zero_le _) ⟨_, _, rfl, G_S25, F_S25, by omega, (fun v hM => by have h9 := hM.1; omega)⟩
          · have n31 : 0 ≤ p1 ∧ p1 ≤ 3 := by omega
            clear o22
            refine zz_if_ne (by omega) zd_14_71_31 (fun c32 => ?_) (fun c32 => ?_)
            · refine zz_iconst zd_14_71_38 ?_
              refine zz_iconst zd_14_71_39 ?_
              refine zz_callVI [zi 1, zi 0, zi 0] zd_14_71_40 zk_Md_196 zT_1079 (zz_ltn hn rfl) rfl rfl ⟨Nat.le_of_ble_eq_true rfl, Nat.le_of_ble_eq_true rfl⟩ ⟨rfl, rfl⟩ (Nat.zero_le _) (Nat.zero_le _) (zc_refuse_14_3 1 0 0 S0 n hn G_S0 (by omega) (by omega) (by omega)) (fun v34 S33 hP => ?_)
              obtain ⟨G_S33, fS33, o35, o36⟩ := hP
              have F_S33 := zz_fr.trans F_S0 fS33 rfl zz_nv
              rcases (by omega : v34 = 0 ∨ v34 = 1) with rfl | rfl
              · exfalso; omega
              · have e37 : S33 1079 0 = 1 := by omega
                clear o36
                refine zz_if_eq (by omega) zd_14_71_43 (fun c38 => ?_) (fun c38 => ?_)
                · exfalso; omega
                · refine zz_iconst zd_14_71_46 ?_
                  exact zz_iret zd_14_71_47 rfl (Nat.zero_le _) (Nat.zero_le _) ⟨_, _, rfl, G_S33, F_S33, by omega, (fun v hM => by have h9 := hM.1; omega)⟩
            · exfalso; omega
  · refine zz_if_ne (by omega) zd_14_71_6 (fun c39 => ?_) (fun c39 => ?_)
    · refine zz_iconst zd_14_71_13 ?_
      refine zz_aload_n (x := 1079) rfl zd_14_71_14 ?_
      refine zz_iload_n (x := p0) rfl zd_14_71_15 ?_
      refine zz_callVI [zi p0] zd_14_71_16 zk_Md_411 zT_1079 (zz_ltn hn rfl) rfl rfl ⟨Nat.le_of_ble_eq_true rfl, Nat.le_of_ble_eq_true rfl⟩ ⟨rfl, rfl⟩ (Nat.zero_le _) (Nat.zero_le _) (zc_isTensor_14_66 p0 S0 n hn G_S0 (by omega)) (fun v41 S40 hP => ?_)
      obtain ⟨rfl, o42, o43⟩ := hP
      rcases (by omega : v41 = 0 ∨ v41 = 1) with rfl | rfl
      · refine zz_if_eq (by omega) zd_14_71_19 (fun c44 => ?_) (fun c44 => ?_)
        · refine zz_iconst zd_14_71_38 ?_
          refine zz_iconst zd_14_71_39 ?_
          refine zz_callVI [zi 0, zi 0, zi 0] zd_14_71_40 zk_Md_196 zT_1079 (zz_ltn hn rfl) rfl rfl ⟨Nat.le_of_ble_eq_true rfl, Nat.le_of_ble_eq_true rfl⟩ ⟨rfl, rfl⟩ (Nat.zero_le _) (Nat.zero_le _) (zc_refuse_14_3 0 0 0 S0 n hn G_S0 (by omega) (by omega) (by omega)) (fun v46 S45 hP => ?_)
          obtain ⟨G_S45, fS45, o47, o48⟩ := hP
          have F_S45 := zz_fr.trans F_S0 fS45 rfl zz_nv
          rcases (by omega : v46 = 0 ∨ v46 = 1) with rfl | rfl
          · have e49 : S45 1079 0 = 0 := by omega
            clear o48
            refine zz_if_eq (by omega) zd_14_71_43 (fun c50 => ?_) (fun c50 => ?_)
            · refine zz_iload_n (x := p1) rfl zd_14_71_48 ?_
              refine zz_if_ne (by omega) zd_14_71_49 (fun c51 => ?_) (fun c51 => ?_)
              · refine zz_iload_n (x := p1) rfl zd_14_71_61 ?_
                refine zz_iconst zd_14_71_62 ?_
                refine zz_icmp_ne (by omega) (by omega) zd_14_71_63 (fun c52 => ?_) (fun c52 => ?_)
                · refine zz_iload_n (x := p1) rfl zd_14_71_75 ?_
                  refine zz_iconst zd_14_71_76 ?_
                  refine zz_icmp_ne (by omega) (by omega) zd_14_71_77 (fun c53 => ?_) (fun c53 => ?_)
                  · refine zz_aload_n (x := 1079) rfl zd_14_71_89 ?_
                    refine zz_getr (kd := 0) (z := 1105) zd_14_71_90 zf_Md_97 zT_1079 rfl (zz_ltn hn rfl) (zz_G.eq G_S45 1079 40 1105 rfl rfl) (by decide) 1105 rfl ?_
                    refine zz_iload_n (x := p0) rfl zd_14_71_93 ?_
                    have g54 := zz_G.r G_S0 1105 p0.toNat (0) (if p0.toNat = 0 then 0 else 10000000) rfl rfl
                    refine zz_iald (z := S0 1105 p0.toNat) zd_14_71_94 zT_1105 rfl (zz_ltn hn rfl) (by decide) (by omega) (zz_rc fS45 (zz_nc1 rfl) rfl (fun h => h) rfl) ?_
                    exact zz_iret zd_14_71_95 rfl (Nat.zero_le _) (Nat.zero_le _) ⟨_, _, rfl, G_S45, F_S45, by omega, (fun v hM => by have h9 := hM.1; have c9 := (zn_Ms hM (a := p0) (by omega) (by omega)).2.2.2; exact Or.inr (Or.inr ⟨by omega, by omega, by omega, by unfold zn_fo; rw [if_neg (by omega), if_neg (by omega), if_neg (by omega)]; exact c9⟩))⟩
                  · refine zz_aload_n (x := 1079) rfl zd_14_71_80 ?_
                    refine zz_getr (kd := 0) (z := 1104) zd_14_71_81 zf_Md_94 zT_1079 rfl (zz_ltn hn rfl) (zz_G.eq G_S45 1079 39 1104 rfl rfl) (by decide) 1104 rfl ?_
                    refine zz_iload_n (x := p0) rfl zd_14_71_84 ?_
                    have g55 := zz_G.r G_S0 1104 p0.toNat 0 63 rfl rfl
                    refine zz_iald (z := S0 1104 p0.toNat) zd_14_71_85 zT_1104 rfl (zz_ltn hn rfl) (by decide) (by omega) (zz_rc fS45 (zz_nc1 rfl) rfl (fun h => h) rfl) ?_
                    refine zz_goto zd_14_71_86 ?_
                    exact zz_iret zd_14_71_95 rfl (Nat.zero_le _) (Nat.zero_le _) ⟨_, _, rfl, G_S45, F_S45, by omega, (fun v hM => by have h9 := hM.1; have c9 := (zn_Ms hM (a := p0) (by omega) (by omega)).2.2.1; exact Or.inr (Or.inr ⟨by omega, by omega, by omega, by unfold zn_fo; rw [if_neg (by omega), if_neg (by omega), if_pos (by omega)]; exact c9⟩))⟩
                · refine zz_aload_n (x := 1079) rfl zd_14_71_66 ?_
                  refine zz_getr (kd := 0) (z := 1103) zd_14_71_67 zf_Md_91 zT_1079 rfl (zz_ltn hn rfl) (zz_G.eq G_S45 1079 38 1103 rfl rfl) (by decide) 1103 rfl ?_
                  refine zz_iload_n (x := p0) rfl zd_14_71_70 ?_
                  have g56 := zz_G.r G_S0 1103 p0.toNat 0 63 rfl rfl
                  refine zz_iald (z := S0 1103 p0.toNat) zd_14_71_71 zT_1103 rfl (zz_ltn hn rfl) (by decide) (by omega) (zz_rc fS45 (zz_nc1 rfl) rfl (fun h => h) rfl) ?_
                  refine zz_goto zd_14_71_72 ?_
                  exact zz_iret zd_14_71_95 rfl (Nat.zero_le _) (Nat.zero_le _) ⟨_, _, rfl, G_S45, F_S45, by omega, (fun v hM => by have h9 := hM.1; have c9 := (zn_Ms hM (a := p0) (by omega) (by omega)).2.1; exact Or.inr (Or.inr ⟨by omega, by omega, by omega, by unfold zn_fo; rw [if_neg (by omega), if_pos (by omega)]; exact c9⟩))⟩
              · refine zz_aload_n (x := 1079) rfl zd_14_71_52 ?_
                refine zz_getr (kd := 0) (z := 1102) zd_14_71_53 zf_Md_88 zT_1079 rfl (zz_ltn hn rfl) (zz_G.eq G_S45 1079 37 1102 rfl rfl) (by decide) 1102 rfl ?_
                refine zz_iload_n (x := p0) rfl zd_14_71_56 ?_
                have g57 := zz_G.r G_S0 1102 p0.toNat 0 63 rfl rfl
                refine zz_iald (z := S0 1102 p0.toNat) zd_14_71_57 zT_1102 rfl (zz_ltn hn rfl) (by decide) (by omega) (zz_rc fS45 (zz_nc1 rfl) rfl (fun h => h) rfl) ?_
                refine zz_goto zd_14_71_58 ?_
                exact zz_iret zd_14_71_95 rfl (Nat.zero_le _) (Nat.zero_le _) ⟨_, _, rfl, G_S45, F_S45, by omega, (fun v hM => by have h9 := hM.1; have c9 := (zn_Ms hM (a := p0) (by omega) (by omega)).1; exact Or.inr (Or.inr ⟨by omega, by omega, by omega, by unfold zn_fo; rw [if_pos (by omega)]; exact c9⟩))⟩
            · exfalso; omega
          · exfalso; omega
        · exfalso; omega
      · refine zz_if_eq (by omega) zd_14_71_19 (fun c58 => ?_) (fun c58 => ?_)
        · exfalso; omega
        · refine zz_iload_n (x := p1) rfl zd_14_71_22 ?_
          refine zz_i2l (by omega) zd_14_71_23 ?_
          refine zz_lconst (z := 0) (by decide) zd_14_71_24 ?_
          refine zz_ldc2 (z := 3) zq_Md_416 (by decide) zd_14_71_25 ?_
          refine zz_callSI [zl p1, zl 0, zl 3] zd_14_71_28 zk_Md_192 rfl rfl ⟨Nat.le_of_ble_eq_true rfl, Nat.le_of_ble_eq_true rfl⟩ ⟨rfl, rfl⟩ (Nat.zero_le _) (Nat.zero_le _) (zc_in_14_4 p1 0 3 S0 n hn G_S0 (by omega) (by omega) (by omega)) (fun v60 S59 hP => ?_)
          obtain ⟨rfl, o61, o62⟩ := hP
          rcases (by omega : v60 = 0 ∨ v60 = 1) with rfl | rfl
          · have n63 : p1 < 0 ∨ 3 < p1 := by omega
            clear o62
            refine zz_if_ne (by omega) zd_14_71_31 (fun c64 => ?_) (fun c64 => ?_)
            · exfalso; omega
            · refine zz_iconst zd_14_71_34 ?_
              refine zz_goto zd_14_71_35 ?_
              refine zz_iconst zd_14_71_39 ?_
              refine zz_callVI [zi 0, zi 1, zi 0] zd_14_71_40 zk_Md_196 zT_1079 (zz_ltn hn rfl) rfl rfl ⟨Nat.le_of_ble_eq_true rfl, Nat.le_of_ble_eq_true rfl⟩ ⟨rfl, rfl⟩ (Nat.zero_le _) (Nat.zero_le _) (zc_refuse_14_3 0 1 0 S0 n hn G_S0 (by omega) (by omega) (by omega)) (fun v66 S65 hP => ?_)
              obtain ⟨G_S65, fS65, o67, o68⟩ := hP
              have F_S65 := zz_fr.trans F_S0 fS65 rfl zz_nv
              rcases (by omega : v66 = 0 ∨ v66 = 1) with rfl | rfl
              · exfalso; omega
              · have e69 : S65 1079 0 = 2 := by omega
                clear o68
                refine zz_if_eq (by omega) zd_14_71_43 (fun c70 => ?_) (fun c70 => ?_)
                · exfalso; omega
                · refine zz_iconst zd_14_71_46 ?_
                  exact zz_iret zd_14_71_47 rfl (Nat.zero_le _) (Nat.zero_le _) ⟨_, _, rfl, G_S65, F_S65, by omega, (fun v hM => by have h9 := hM.1; omega)⟩
          · have n71 : 0 ≤ p1 ∧ p1 ≤ 3 := by omega
            clear o62
            refine zz_if_ne (by omega) zd_14_71_31 (fun c72 => ?_) (fun c72 => ?_)
            · refine zz_iconst zd_14_71_38 ?_
              refine zz_iconst zd_14_71_39 ?_
              refine zz_callVI [zi 0, zi 0, zi 0] zd_14_71_40 zk_Md_196 zT_1079 (zz_ltn hn rfl) rfl rfl ⟨Nat.le_of_ble_eq_true rfl, Nat.le_of_ble_eq_true rfl⟩ ⟨rfl, rfl⟩ (Nat.zero_le _) (Nat.zero_le _) (zc_refuse_14_3 0 0 0 S0 n hn G_S0 (by omega) (by omega) (by omega)) (fun v74 S73 hP => ?_)
              obtain ⟨G_S73, fS73, o75, o76⟩ := hP
              have F_S73 := zz_fr.trans F_S0 fS73 rfl zz_nv
              rcases (by omega : v74 = 0 ∨ v74 = 1) with rfl | rfl
              · have e77 : S73 1079 0 = 0 := by omega
                clear o76
                refine zz_if_eq (by omega) zd_14_71_43 (fun c78 => ?_) (fun c78 => ?_)
                · refine zz_iload_n (x := p1) rfl zd_14_71_48 ?_
                  refine zz_if_ne (by omega) zd_14_71_49 (fun c79 => ?_) (fun c79 => ?_)
                  · refine zz_iload_n (x := p1) rfl zd_14_71_61 ?_
                    refine zz_iconst zd_14_71_62 ?_
                    refine zz_icmp_ne (by omega) (by omega) zd_14_71_63 (fun c80 => ?_) (fun c80 => ?_)
                    · refine zz_iload_n (x := p1) rfl zd_14_71_75 ?_
                      refine zz_iconst zd_14_71_76 ?_
                      refine zz_icmp_ne (by omega) (by omega) zd_14_71_77 (fun c81 => ?_) (fun c81 => ?_)
                      · refine zz_aload_n (x := 1079) rfl zd_14_71_89 ?_
                        refine zz_getr (kd := 0) (z := 1105) zd_14_71_90 zf_Md_97 zT_1079 rfl (zz_ltn hn rfl) (zz_G.eq G_S73 1079 40 1105 rfl rfl) (by decide) 1105 rfl ?_
                        refine zz_iload_n (x := p0) rfl zd_14_71_93 ?_
                        have g82 := zz_G.r G_S0 1105 p0.toNat (0) (if p0.toNat = 0 then 0 else 10000000) rfl rfl
                        refine zz_iald (z := S0 1105 p0.toNat) zd_14_71_94 zT_1105 rfl (zz_ltn hn rfl) (by decide) (by omega) (zz_rc fS73 (zz_nc1 rfl) rfl (fun h => h) rfl) ?_
                        exact zz_iret zd_14_71_95 rfl (Nat.zero_le _) (Nat.zero_le _) ⟨_, _, rfl, G_S73, F_S73, by omega, (fun v hM => by have h9 := hM.1; have c9 := (zn_Ms hM (a := p0) (by omega) (by omega)).2.2.2; exact Or.inr (Or.inr ⟨by omega, by omega, by omega, by unfold zn_fo; rw [if_neg (by omega), if_neg (by omega), if_neg (by omega)]; exact c9⟩))⟩
                      · refine zz_aload_n (x := 1079) rfl zd_14_71_80 ?_
                        refine zz_getr (kd := 0) (z := 1104) zd_14_71_81 zf_Md_94 zT_1079 rfl (zz_ltn hn rfl) (zz_G.eq G_S73 1079 39 1104 rfl rfl) (by decide) 1104 rfl ?_
                        refine zz_iload_n (x := p0) rfl zd_14_71_84 ?_
                        have g83 := zz_G.r G_S0 1104 p0.toNat 0 63 rfl rfl
                        refine zz_iald (z := S0 1104 p0.toNat) zd_14_71_85 zT_1104 rfl (zz_ltn hn rfl) (by decide) (by omega) (zz_rc fS73 (zz_nc1 rfl) rfl (fun h => h) rfl) ?_
                        refine zz_goto zd_14_71_86 ?_
                        exact zz_iret zd_14_71_95 rfl (Nat.zero_le _) (Nat.zero_le _) ⟨_, _, rfl, G_S73, F_S73, by omega, (fun v hM => by have h9 := hM.1; have c9 := (zn_Ms hM (a := p0) (by omega) (by omega)).2.2.1; exact Or.inr (Or.inr ⟨by omega, by omega, by omega, by unfold zn_fo; rw [if_neg (by omega), if_neg (by omega), if_pos (by omega)]; exact c9⟩))⟩
                    · refine zz_aload_n (x := 1079) rfl zd_14_71_66 ?_
                      refine zz_getr (kd := 0) (z := 1103) zd_14_71_67 zf_Md_91 zT_1079 rfl (zz_ltn hn rfl) (zz_G.eq G_S73 1079 38 1103 rfl rfl) (by decide) 1103 rfl ?_
                      refine zz_iload_n (x := p0) rfl zd_14_71_70 ?_
                      have g84 := zz_G.r G_S0 1103 p0.toNat 0 63 rfl rfl
                      refine zz_iald (z := S0 1103 p0.toNat) zd_14_71_71 zT_1103 rfl (zz_ltn hn rfl) (by decide) (by omega) (zz_rc fS73 (zz_nc1 rfl) rfl (fun h => h) rfl) ?_
                      refine zz_goto zd_14_71_72 ?_
                      exact zz_iret zd_14_71_95 rfl (Nat.zero_le _) (Nat.zero_le _) ⟨_, _, rfl, G_S73, F_S73, by omega, (fun v hM => by have h9 := hM.1; have c9 := (zn_Ms hM (a := p0) (by omega) (by omega)).2.1; exact Or.inr (Or.inr ⟨by omega, by omega, by omega, by unfold zn_fo; rw [if_neg (by omega), if_pos (by omega)]; exact c9⟩))⟩
                  · refine zz_aload_n (x := 1079) rfl zd_14_71_52 ?_
                    refine zz_getr (kd := 0) (z := 1102) zd_14_71_53 zf_Md_88 zT_1079 rfl (zz_ltn hn rfl) (zz_G.eq G_S73 1079 37 1102 rfl rfl) (by decide) 1102 rfl ?_
                    refine zz_iload_n (x := p0) rfl zd_14_71_56 ?_
                    have g85 := zz_G.r G_S0 1102 p0.toNat 0 63 rfl rfl
                    refine zz_iald (z := S0 1102 p0.toNat) zd_14_71_57 zT_1102 rfl (zz_ltn hn rfl) (by decide) (by omega) (zz_rc fS73 (zz_nc1 rfl) rfl (fun h => h) rfl) ?_
                    refine zz_goto zd_14_71_58 ?_
                    exact zz_iret zd_14_71_95 rfl (Nat.zero_le _) (Nat.zero_le _) ⟨_, _, rfl, G_S73, F_S73, by omega, (fun v hM => by have h9 := hM.1; have c9 := (zn_Ms hM (a := p0) (by omega) (by omega)).1; exact Or.inr (Or.inr ⟨by omega, by omega, by omega, by unfold zn_fo; rw [if_pos (by omega)]; exact c9⟩))⟩
                · exfalso; omega
              · exfalso; omega
            · exfalso; omega
    · exfalso; omega
abbrev zy_isThere_14_72 : mm_Y := (⟨"TensorForgeModel", "isThere", "(III)Z"⟩, prog_14_method_72_code, 4, (some .boolean))
theorem zyw_isThere_14_72 : mm_Yw zy_isThere_14_72 3 := ⟨mm_tb_1 2124 (by decide +kernel) rfl, mm_tb_1 12 (by decide +kernel) rfl, ⟨by decide, by decide⟩, by decide +kernel⟩
theorem zg_14_72_0 : zq_at zy_isThere_14_72.2.1 0 28 ∧ zq_at zy_isThere_14_72.2.1 1 133 ∧ zq_at zy_isThere_14_72.2.1 2 9 ∧ zq_at zy_isThere_14_72.2.1 3 42 ∧ zq_at zy_isThere_14_72.2.1 4 180 ∧ zq_at zy_isThere_14_72.2.1 5 0 ∧ zq_at zy_isThere_14_72.2.1 6 88 ∧ zq_at zy_isThere_14_72.2.1 7 27 ∧ zq_at zy_isThere_14_72.2.1 8 46 ∧ zq_at zy_isThere_14_72.2.1 9 4 ∧ zq_at zy_isThere_14_72.2.1 10 100 ∧ zq_at zy_isThere_14_72.2.1 11 133 ∧ zq_at zy_isThere_14_72.2.1 12 184 ∧ zq_at zy_isThere_14_72.2.1 13 0 ∧ zq_at zy_isThere_14_72.2.1 14 192 ∧ zq_at zy_isThere_14_72.2.1 15 153 ∧ zq_at zy_isThere_14_72.2.1 16 0 ∧ zq_at zy_isThere_14_72.2.1 17 25 ∧ zq_at zy_isThere_14_72.2.1 40 3 ∧ zq_at zy_isThere_14_72.2.1 41 172 ∧ zq_at zy_isThere_14_72.2.1 18 29 ∧ zq_at zy_isThere_14_72.2.1 19 133 ∧ zq_at zy_isThere_14_72.2.1 20 9 ∧ zq_at zy_isThere_14_72.2.1 21 42 := by decide +kernel
theorem zd_14_72_0 : zz_D zy_isThere_14_72 0 (.iload_n 2) 1 1 := ⟨zq_28 zg_14_72_0.1, rfl⟩
theorem zd_14_72_1 : zz_D zy_isThere_14_72 1 (.i2l) 1 2 := ⟨zq_133 zg_14_72_0.2.1, rfl⟩
theorem zd_14_72_2 : zz_D zy_isThere_14_72 2 (.lconst 0) 1 3 := ⟨zq_9 zg_14_72_0.2.2.1, rfl⟩
theorem zd_14_72_3 : zz_D zy_isThere_14_72 3 (.aload_n 0) 1 4 := ⟨zq_42 zg_14_72_0.2.2.2.1, rfl⟩
theorem zd_14_72_4 : zz_D zy_isThere_14_72 4 (.getfield 88) 3 7 := ⟨zq_180 zg_14_72_0.2.2.2.2.1 zg_14_72_0.2.2.2.2.2.1 zg_14_72_0.2.2.2.2.2.2.1 rfl, rfl⟩
theorem zd_14_72_7 : zz_D zy_isThere_14_72 7 (.iload_n 1) 1 8 := ⟨zq_27 zg_14_72_0.2.2.2.2.2.2.2.1, rfl⟩
theorem zd_14_72_8 : zz_D zy_isThere_14_72 8 (.iaload) 1 9 := ⟨zq_46 zg_14_72_0.2.2.2.2.2.2.2.2.1, rfl⟩
theorem zd_14_72_9 : zz_D zy_isThere_14_72 9 (.iconst 1) 1 10 := ⟨zq_4 zg_14_72_0.2.2.2.2.2.2.2.2.2.1, rfl⟩
theorem zd_14_72_10 : zz_D zy_isThere_14_72 10 (.isub) 1 11 := ⟨zq_100 zg_14_72_0.2.2.2.2.2.2.2.2.2.2.1, rfl⟩
theorem zd_14_72_11 : zz_D zy_isThere_14_72 11 (.i2l) 1 12 := ⟨zq_133 zg_14_72_0.2.2.2.2.2.2.2.2.2.2.2.1, rfl⟩
theorem zd_14_72_12 : zz_D zy_isThere_14_72 12 (.invokestatic 192) 3 15 := ⟨zq_184 zg_14_72_0.2.2.2.2.2.2.2.2.2.2.2.2.1 zg_14_72_0.2.2.2.2.2.2.2.2.2.2.2.2.2.1 zg_14_72_0.2.2.2.2.2.2.2.2.2.2.2.2.2.2.1 rfl, rfl⟩
theorem zd_14_72_15 : zz_B zy_isThere_14_72 15 (Instr.ifCond .eq) 40 18 := ⟨25, zq_153 zg_14_72_0.2.2.2.2.2.2.2.2.2.2.2.2.2.2.2.1 zg_14_72_0.2.2.2.2.2.2.2.2.2.2.2.2.2.2.2.2.1 zg_14_72_0.2.2.2.2.2.2.2.2.2.2.2.2.2.2.2.2.2.1 (by decide), rfl, rfl⟩
theorem zd_14_72_40 : zz_D zy_isThere_14_72 40 (.iconst 0) 1 41 := ⟨zq_3 zg_14_72_0.2.2.2.2.2.2.2.2.2.2.2.2.2.2.2.2.2.2.1, rfl⟩
theorem zd_14_72_41 : zz_D zy_isThere_14_72 41 (.ireturn) 1 42 := ⟨zq_172 zg_14_72_0.2.2.2.2.2.2.2.2.2.2.2.2.2.2.2.2.2.2.2.1, rfl⟩
theorem zd_14_72_18 : zz_D zy_isThere_14_72 18 (.iload_n 3) 1 19 := ⟨zq_29 zg_14_72_0.2.2.2.2.2.2.2.2.2.2.2.2.2.2.2.2.2.2.2.2.1, rfl⟩
theorem zd_14_72_19 : zz_D zy_isThere_14_72 19 (.i2l) 1 20 := ⟨zq_133 zg_14_72_0.2.2.2.2.2.2.2.2.2.2.2.2.2.2.2.2.2.2.2.2.2.1, rfl⟩
theorem zd_14_72_20 : zz_D zy_isThere_14_72 20 (.lconst 0) 1 21 := ⟨zq_9 zg_14_72_0.2.2.2.2.2.2.2.2.2.2.2.2.2.2.2.2.2.2.2.2.2.2.1, rfl⟩
theorem zd_14_72_21 : zz_D zy_isThere_14_72 21 (.aload_n 0) 1 22 := ⟨zq_42 zg_14_72_0.2.2.2.2.2.2.2.2.2.2.2.2.2.2.2.2.2.2.2.2.2.2.2, rfl⟩
theorem zg_14_72_22 : zq_at zy_isThere_14_72.2.1 22 180 ∧ zq_at zy_isThere_14_72.2.1 23 0 ∧ zq_at zy_isThere_14_72.2.1 24 91 ∧ zq_at zy_isThere_14_72.2.1 25 27 ∧ zq_at zy_isThere_14_72.2.1 26 46 ∧ zq_at zy_isThere_14_72.2.1 27 4 ∧ zq_at zy_isThere_14_72.2.1 28 100 ∧ zq_at zy_isThere_14_72.2.1 29 133 ∧ zq_at zy_isThere_14_72.2.1 30 184 ∧ zq_at zy_isThere_14_72.2.1 31 0 ∧ zq_at zy_isThere_14_72.2.1 32 192 ∧ zq_at zy_isThere_14_72.2.1 33 153 ∧ zq_at zy_isThere_14_72.2.1 34 0 ∧ zq_at zy_isThere_14_72.2.1 35 7 ∧ zq_at zy_isThere_14_72.2.1 36 4 ∧ zq_at zy_isThere_14_72.2.1 37 167 ∧ zq_at zy_isThere_14_72.2.1 38 0 ∧ zq_at zy_isThere_14_72.2.1 39 4 := by decide +kernel
theorem zd_14_72_22 : zz_D zy_isThere_14_72 22 (.getfield 91) 3 25 := ⟨zq_180 zg_14_72_22.1 zg_14_72_22.2.1 zg_14_72_22.2.2.1 rfl, rfl⟩
theorem zd_14_72_25 : zz_D zy_isThere_14_72 25 (.iload_n 1) 1 26 := ⟨zq_27 zg_14_72_22.2.2.2.1, rfl⟩
theorem zd_14_72_26 : zz_D zy_isThere_14_72 26 (.iaload) 1 27 := ⟨zq_46 zg_14_72_22.2.2.2.2.1, rfl⟩
theorem zd_14_72_27 : zz_D zy_isThere_14_72 27 (.iconst 1) 1 28 := ⟨zq_4 zg_14_72_22.2.2.2.2.2.1, rfl⟩
theorem zd_14_72_28 : zz_D zy_isThere_14_72 28 (.isub) 1 29 := ⟨zq_100 zg_14_72_22.2.2.2.2.2.2.1, rfl⟩
theorem zd_14_72_29 : zz_D zy_isThere_14_72 29 (.i2l) 1 30 := ⟨zq_133 zg_14_72_22.2.2.2.2.2.2.2.1, rfl⟩
theorem zd_14_72_30 : zz_D zy_isThere_14_72 30 (.invokestatic 192) 3 33 := ⟨zq_184 zg_14_72_22.2.2.2.2.2.2.2.2.1 zg_14_72_22.2.2.2.2.2.2.2.2.2.1 zg_14_72_22.2.2.2.2.2.2.2.2.2.2.1 rfl, rfl⟩
theorem zd_14_72_33 : zz_B zy_isThere_14_72 33 (Instr.ifCond .eq) 40 36 := ⟨7, zq_153 zg_14_72_22.2.2.2.2.2.2.2.2.2.2.2.1 zg_14_72_22.2.2.2.2.2.2.2.2.2.2.2.2.1 zg_14_72_22.2.2.2.2.2.2.2.2.2.2.2.2.2.1 (by decide), rfl, rfl⟩
theorem zd_14_72_36 : zz_D zy_isThere_14_72 36 (.iconst 1) 1 37 := ⟨zq_4 zg_14_72_22.2.2.2.2.2.2.2.2.2.2.2.2.2.2.1, rfl⟩
theorem zd_14_72_37 : zz_B zy_isThere_14_72 37 Instr.goto 41 40 := ⟨4, zq_167 zg_14_72_22.2.2.2.2.2.2.2.2.2.2.2.2.2.2.2.1 zg_14_72_22.2.2.2.2.2.2.2.2.2.2.2.2.2.2.2.2.1 zg_14_72_22.2.2.2.2.2.2.2.2.2.2.2.2.2.2.2.2.2 (by decide), rfl, rfl⟩
-- TensorForgeModel isThere (III)Z
abbrev zr_isThere_14_72 : Room := { frames := 1, cells := 0, slots := 0, locals := 17 }
def zp_isThere_14_72 (p0 : Int) (p1 : Int) (p2 : Int) (S0 : zz_S) : Int → zz_S → Prop := fun r S => S0 = S ∧ (0 ≤ r ∧ r ≤ 1) ∧ ((r = 1 ∧ 0 ≤ p1 ∧ p1 ≤ S0 1102 p0.toNat - 1 ∧ 0 ≤ p2 ∧ p2 ≤ S0 1103 p0.toNat - 1) ∨ r = 0)
theorem zc_isThere_14_72 {g : mm_G} {l : Launch} (p0 : Int) (p1 : Int) (p2 : Int) (S0 : zz_S) (n : Nat) (hn : zz_end ≤ n) (G_S0 : zz_G S0) (hp0 : 0 ≤ p0 ∧ p0 ≤ 10) (hp1 : (-2147483648) ≤ p1 ∧ p1 ≤ 2147483647) (hp2 : (-2147483648) ≤ p2 ∧ p2 ≤ 2147483647) : mm_Met g l zy_isThere_14_72 zr_isThere_14_72 [.ref 1079, zi p0, zi p1, zi p2] (zz_M S0 n) n (zz_QI n (zp_isThere_14_72 p0 p1 p2 S0)) := by
  refine zz_enter (by decide) (Nat.le_of_ble_eq_true rfl) (zz_less (ls1 := [some (.ref 1079), some (zi p0), some (zi p1), some (zi p2)]) ⟨rfl, ⟨rfl, ⟨rfl, ⟨rfl, trivial⟩⟩⟩⟩ ?_)
  refine zz_iload_n (x := p1) rfl zd_14_72_0 ?_
  refine zz_i2l (by omega) zd_14_72_1 ?_
  refine zz_lconst (z := 0) (by decide) zd_14_72_2 ?_
  refine zz_aload_n (x := 1079) rfl zd_14_72_3 ?_
  refine zz_getr (kd := 0) (z := 1102) zd_14_72_4 zf_Md_88 zT_1079 rfl (zz_ltn hn rfl) (zz_G.eq G_S0 1079 37 1102 rfl rfl) (by decide) 1102 rfl ?_
  refine zz_iload_n (x := p0) rfl zd_14_72_7 ?_
  have g1 := zz_G.r G_S0 1102 p0.toNat 0 63 rfl rfl
  refine zz_iald (z := S0 1102 p0.toNat) zd_14_72_8 zT_1102 rfl (zz_ltn hn rfl) (by decide) (by omega) rfl ?_
  refine zz_iconst zd_14_72_9 ?_
  refine zz_isub zd_14_72_10 ?_
  refine zz_i2l (by omega) zd_14_72_11 ?_
  refine zz_callSI [zl p1, zl 0, zl ((S0 1102 p0.toNat) - 1)] zd_14_72_12 zk_Md_192 rfl rfl ⟨Nat.le_of_ble_eq_true rfl, Nat.le_of_ble_eq_true rfl⟩ ⟨rfl, rfl⟩ (Nat.zero_le _) (Nat.zero_le _) (zc_in_14_4 p1 0 ((S0 1102 p0.toNat) - 1) S0 n hn G_S0 (by omega) (by omega) (by omega)) (fun v3 S2 hP => ?_)
  obtain ⟨rfl, o4, o5⟩ := hP
  rcases (by omega : v3 = 0 ∨ v3 = 1) with rfl | rfl
  · have n6 : p1 < 0 ∨ (S0 1102 p0.toNat) - 1 < p1 := by omega
    clear o5
    refine zz_if_eq (by omega) zd_14_72_15 (fun c7 => ?_) (fun c7 => ?_)
    · refine zz_iconst zd_14_72_40 ?_
      exact zz_zret zd_14_72_41 rfl (by omega) (Nat.zero_le _) (Nat.zero_le _) ⟨_, _, rfl, rfl, by omega, by omega⟩
    · exfalso; omega
  · have n8 : 0 ≤ p1 ∧ p1 ≤ (S0 1102 p0.toNat) - 1 := by omega
    clear o5
    refine zz_if_eq (by omega) zd_14_72_15 (fun c9 => ?_) (fun c9 => ?_)
    · exfalso; omega
    · refine zz_iload_n (x := p2) rfl zd_14_72_18 ?_
      refine zz_i2l (by omega) zd_14_72_19 ?_
      refine zz_lconst (z := 0) (by decide) zd_14_72_20 ?_
      refine zz_aload_n (x := 1079) rfl zd_14_72_21 ?_
      refine zz_getr (kd := 0) (z := 1103) zd_14_72_22 zf_Md_91 zT_1079 rfl (zz_ltn hn rfl) (zz_G.eq G_S0 1079 38 1103 rfl rfl) (by decide) 1103 rfl ?_
      refine zz_iload_n (x := p0) rfl zd_14_72_25 ?_
      have g10 := zz_G.r G_S0 1103 p0.toNat 0 63 rfl rfl
      refine zz_iald (z := S0 1103 p0.toNat) zd_14_72_26 zT_1103 rfl (zz_ltn hn rfl) (by decide) (by omega) rfl ?_
      refine zz_iconst zd_14_72_27 ?_
      refine zz_isub zd_14_72_28 ?_
      refine zz_i2l (by omega) zd_14_72_29 ?_
      refine zz_callSI [zl p2, zl 0, zl ((S0 1103 p0.toNat) - 1)] zd_14_72_30 zk_Md_192 rfl rfl ⟨Nat.le_of_ble_eq_true rfl, Nat.le_of_ble_eq_true rfl⟩ ⟨rfl, rfl⟩ (Nat.zero_le _) (Nat.zero_le _) (zc_in_14_4 p2 0 ((S0 1103 p0.toNat) - 1) S0 n hn G_S0 (by omega) (by omega) (by omega)) (fun v12 S11 hP => ?_)
      obtain ⟨rfl, o13, o14⟩ := hP
      rcases (by omega : v12 = 0 ∨ v12 = 1) with rfl | rfl
      · have n15 : p2 < 0 ∨ (S0 1103 p0.toNat) - 1 < p2 := by omega
        clear o14
        refine zz_if_eq (by omega) zd_14_72_33 (fun c16 => ?_) (fun c16 => ?_)
        · refine zz_iconst zd_14_72_40 ?_
          exact zz_zret zd_14_72_41 rfl (by omega) (Nat.zero_le _) (Nat.zero_le _) ⟨_, _, rfl, rfl, by omega, by omega⟩
        · exfalso; omega
      · have n17 : 0 ≤ p2 ∧ p2 ≤ (S0 1103 p0.toNat) - 1 := by omega
        clear o14
        refine zz_if_eq (by omega) zd_14_72_33 (fun c18 => ?_) (fun c18 => ?_)
        · exfalso; omega
        · refine zz_iconst zd_14_72_36 ?_
          refine zz_goto zd_14_72_37 ?_
          exact zz_zret zd_14_72_41 rfl (by omega) (Nat.zero_le _) (Nat.zero_le _) ⟨_, _, rfl, rfl, by omega, by omega⟩
abbrev zy_cellAt_14_73 : mm_Y := (⟨"TensorForgeModel", "cellAt", "(IIII)I"⟩, prog_14_method_73_code, 5, (some .int))
theorem zyw_cellAt_14_73 : mm_Yw zy_cellAt_14_73 4 := ⟨mm_tb_1 2128 (by decide +kernel) rfl, mm_tb_1 12 (by decide +kernel) rfl, ⟨by decide, by decide⟩, by decide +kernel⟩
theorem zg_14_73_0 : zq_at zy_cellAt_14_73.2.1 0 42 ∧ zq_at zy_cellAt_14_73.2.1 1 180 ∧ zq_at zy_cellAt_14_73.2.1 2 0 ∧ zq_at zy_cellAt_14_73.2.1 3 13 ∧ zq_at zy_cellAt_14_73.2.1 4 42 ∧ zq_at zy_cellAt_14_73.2.1 5 180 ∧ zq_at zy_cellAt_14_73.2.1 6 0 ∧ zq_at zy_cellAt_14_73.2.1 7 97 ∧ zq_at zy_cellAt_14_73.2.1 8 27 ∧ zq_at zy_cellAt_14_73.2.1 9 46 ∧ zq_at zy_cellAt_14_73.2.1 10 28 ∧ zq_at zy_cellAt_14_73.2.1 11 42 ∧ zq_at zy_cellAt_14_73.2.1 12 180 ∧ zq_at zy_cellAt_14_73.2.1 13 0 ∧ zq_at zy_cellAt_14_73.2.1 14 91 ∧ zq_at zy_cellAt_14_73.2.1 15 27 ∧ zq_at zy_cellAt_14_73.2.1 16 46 ∧ zq_at zy_cellAt_14_73.2.1 17 104 ∧ zq_at zy_cellAt_14_73.2.1 18 29 ∧ zq_at zy_cellAt_14_73.2.1 19 96 ∧ zq_at zy_cellAt_14_73.2.1 20 42 ∧ zq_at zy_cellAt_14_73.2.1 21 180 ∧ zq_at zy_cellAt_14_73.2.1 22 0 ∧ zq_at zy_cellAt_14_73.2.1 23 94 := by decide +kernel
theorem zd_14_73_0 : zz_D zy_cellAt_14_73 0 (.aload_n 0) 1 1 := ⟨zq_42 zg_14_73_0.1, rfl⟩
theorem zd_14_73_1 : zz_D zy_cellAt_14_73 1 (.getfield 13) 3 4 := ⟨zq_180 zg_14_73_0.2.1 zg_14_73_0.2.2.1 zg_14_73_0.2.2.2.1 rfl, rfl⟩
theorem zd_14_73_4 : zz_D zy_cellAt_14_73 4 (.aload_n 0) 1 5 := ⟨zq_42 zg_14_73_0.2.2.2.2.1, rfl⟩
theorem zd_14_73_5 : zz_D zy_cellAt_14_73 5 (.getfield 97) 3 8 := ⟨zq_180 zg_14_73_0.2.2.2.2.2.1 zg_14_73_0.2.2.2.2.2.2.1 zg_14_73_0.2.2.2.2.2.2.2.1 rfl, rfl⟩
theorem zd_14_73_8 : zz_D zy_cellAt_14_73 8 (.iload_n 1) 1 9 := ⟨zq_27 zg_14_73_0.2.2.2.2.2.2.2.2.1, rfl⟩
theorem zd_14_73_9 : zz_D zy_cellAt_14_73 9 (.iaload) 1 10 := ⟨zq_46 zg_14_73_0.2.2.2.2.2.2.2.2.2.1, rfl⟩
theorem zd_14_73_10 : zz_D zy_cellAt_14_73 10 (.iload_n 2) 1 11 := ⟨zq_28 zg_14_73_0.2.2.2.2.2.2.2.2.2.2.1, rfl⟩
theorem zd_14_73_11 : zz_D zy_cellAt_14_73 11 (.aload_n 0) 1 12 := ⟨zq_42 zg_14_73_0.2.2.2.2.2.2.2.2.2.2.2.1, rfl⟩
theorem zd_14_73_12 : zz_D zy_cellAt_14_73 12 (.getfield 91) 3 15 := ⟨zq_180 zg_14_73_0.2.2.2.2.2.2.2.2.2.2.2.2.1 zg_14_73_0.2.2.2.2.2.2.2.2.2.2.2.2.2.1 zg_14_73_0.2.2.2.2.2.2.2.2.2.2.2.2.2.2.1 rfl, rfl⟩
theorem zd_14_73_15 : zz_D zy_cellAt_14_73 15 (.iload_n 1) 1 16 := ⟨zq_27 zg_14_73_0.2.2.2.2.2.2.2.2.2.2.2.2.2.2.2.1, rfl⟩
theorem zd_14_73_16 : zz_D zy_cellAt_14_73 16 (.iaload) 1 17 := ⟨zq_46 zg_14_73_0.2.2.2.2.2.2.2.2.2.2.2.2.2.2.2.2.1, rfl⟩
theorem zd_14_73_17 : zz_D zy_cellAt_14_73 17 (.imul) 1 18 := ⟨zq_104 zg_14_73_0.2.2.2.2.2.2.2.2.2.2.2.2.2.2.2.2.2.1, rfl⟩
theorem zd_14_73_18 : zz_D zy_cellAt_14_73 18 (.iload_n 3) 1 19 := ⟨zq_29 zg_14_73_0.2.2.2.2.2.2.2.2.2.2.2.2.2.2.2.2.2.2.1, rfl⟩
theorem zd_14_73_19 : zz_D zy_cellAt_14_73 19 (.iadd) 1 20 := ⟨zq_96 zg_14_73_0.2.2.2.2.2.2.2.2.2.2.2.2.2.2.2.2.2.2.2.1, rfl⟩
theorem zd_14_73_20 : zz_D zy_cellAt_14_73 20 (.aload_n 0) 1 21 := ⟨zq_42 zg_14_73_0.2.2.2.2.2.2.2.2.2.2.2.2.2.2.2.2.2.2.2.2.1, rfl⟩
theorem zd_14_73_21 : zz_D zy_cellAt_14_73 21 (.getfield 94) 3 24 := ⟨zq_180 zg_14_73_0.2.2.2.2.2.2.2.2.2.2.2.2.2.2.2.2.2.2.2.2.2.1 zg_14_73_0.2.2.2.2.2.2.2.2.2.2.2.2.2.2.2.2.2.2.2.2.2.2.1 zg_14_73_0.2.2.2.2.2.2.2.2.2.2.2.2.2.2.2.2.2.2.2.2.2.2.2 rfl, rfl⟩
theorem zg_14_73_24 : zq_at zy_cellAt_14_73.2.1 24 27 ∧ zq_at zy_cellAt_14_73.2.1 25 46 ∧ zq_at zy_cellAt_14_73.2.1 26 104 ∧ zq_at zy_cellAt_14_73.2.1 27 96 ∧ zq_at zy_cellAt_14_73.2.1 28 21 ∧ zq_at zy_cellAt_14_73.2.1 29 4 ∧ zq_at zy_cellAt_14_73.2.1 30 96 ∧ zq_at zy_cellAt_14_73.2.1 31 46 ∧ zq_at zy_cellAt_14_73.2.1 32 172 := by decide +kernel
theorem zd_14_73_24 : zz_D zy_cellAt_14_73 24 (.iload_n 1) 1 25 := ⟨zq_27 zg_14_73_24.1, rfl⟩
theorem zd_14_73_25 : zz_D zy_cellAt_14_73 25 (.iaload) 1 26 := ⟨zq_46 zg_14_73_24.2.1, rfl⟩
theorem zd_14_73_26 : zz_D zy_cellAt_14_73 26 (.imul) 1 27 := ⟨zq_104 zg_14_73_24.2.2.1, rfl⟩
theorem zd_14_73_27 : zz_D zy_cellAt_14_73 27 (.iadd) 1 28 := ⟨zq_96 zg_14_73_24.2.2.2.1, rfl⟩
theorem zd_14_73_28 : zz_D zy_cellAt_14_73 28 (.iload 4) 2 30 := ⟨zq_21 zg_14_73_24.2.2.2.2.1 zg_14_73_24.2.2.2.2.2.1, rfl⟩
theorem zd_14_73_30 : zz_D zy_cellAt_14_73 30 (.iadd) 1 31 := ⟨zq_96 zg_14_73_24.2.2.2.2.2.2.1, rfl⟩
theorem zd_14_73_31 : zz_D zy_cellAt_14_73 31 (.iaload) 1 32 := ⟨zq_46 zg_14_73_24.2.2.2.2.2.2.2.1, rfl⟩
theorem zd_14_73_32 : zz_D zy_cellAt_14_73 32 (.ireturn) 1 33 := ⟨zq_172 zg_14_73_24.2.2.2.2.2.2.2.2, rfl⟩
-- TensorForgeModel cellAt (IIII)I
abbrev zr_cellAt_14_73 : Room := { frames := 0, cells := 0, slots := 0, locals := 0 }
def zp_cellAt_14_73 (p0 : Int) (p1 : Int) (p2 : Int) (p3 : Int) (S0 : zz_S) : Int → zz_S → Prop := fun r S => S0 = S ∧ ((-2147483648) ≤ r ∧ r ≤ 2147483647)
theorem zc_cellAt_14_73 {g : mm_G} {l : Launch} (p0 : Int) (p1 : Int) (p2 : Int) (p3 : Int) (S0 : zz_S) (n : Nat) (hn : zz_end ≤ n) (G_S0 : zz_G S0) (hp0 : 0 ≤ p0 ∧ p0 ≤ 10) (hp1 : 0 ≤ p1 ∧ p1 ≤ 62) (hp2 : 0 ≤ p2 ∧ p2 ≤ 62) (hp3 : 0 ≤ p3 ∧ p3 ≤ 62) (hq1 : zz_tn S0 p0.toNat) (hy : p1 < S0 1102 p0.toNat) (hx : p2 < S0 1103 p0.toNat) (hc : p3 < S0 1104 p0.toNat) : mm_Met g l zy_cellAt_14_73 zr_cellAt_14_73 [.ref 1079, zi p0, zi p1, zi p2, zi p3] (zz_M S0 n) n (zz_QI n (zp_cellAt_14_73 p0 p1 p2 p3 S0)) := by
  refine zz_enter (by decide) (Nat.le_of_ble_eq_true rfl) (zz_less (ls1 := [some (.ref 1079), some (zi p0), some (zi p1), some (zi p2), some (zi p3)]) ⟨rfl, ⟨rfl, ⟨rfl, ⟨rfl, ⟨rfl, trivial⟩⟩⟩⟩⟩ ?_)
  refine zz_aload_n (x := 1079) rfl zd_14_73_0 ?_
  refine zz_getr (kd := 0) (z := 1080) zd_14_73_1 zf_Md_13 zT_1079 rfl (zz_ltn hn rfl) (zz_G.eq G_S0 1079 2 1080 rfl rfl) (by decide) 1080 rfl ?_
  refine zz_aload_n (x := 1079) rfl zd_14_73_4 ?_
  refine zz_getr (kd := 0) (z := 1105) zd_14_73_5 zf_Md_97 zT_1079 rfl (zz_ltn hn rfl) (zz_G.eq G_S0 1079 40 1105 rfl rfl) (by decide) 1105 rfl ?_
  refine zz_iload_n (x := p0) rfl zd_14_73_8 ?_
  have g1 := zz_G.r G_S0 1105 p0.toNat (0) (if p0.toNat = 0 then 0 else 10000000) rfl rfl
  refine zz_iald (z := S0 1105 p0.toNat) zd_14_73_9 zT_1105 rfl (zz_ltn hn rfl) (by decide) (by omega) rfl ?_
  refine zz_iload_n (x := p1) rfl zd_14_73_10 ?_
  refine zz_aload_n (x := 1079) rfl zd_14_73_11 ?_
  refine zz_getr (kd := 0) (z := 1103) zd_14_73_12 zf_Md_91 zT_1079 rfl (zz_ltn hn rfl) (zz_G.eq G_S0 1079 38 1103 rfl rfl) (by decide) 1103 rfl ?_
  refine zz_iload_n (x := p0) rfl zd_14_73_15 ?_
  have g2 := zz_G.r G_S0 1103 p0.toNat 0 63 rfl rfl
  refine zz_iald (z := S0 1103 p0.toNat) zd_14_73_16 zT_1103 rfl (zz_ltn hn rfl) (by decide) (by omega) rfl ?_
  refine zz_imul zd_14_73_17 ?_
  have m3 := zz_mulb (a := p1) (b := S0 1103 p0.toNat) 62 63 3906 (by omega) (by omega) (by decide)
  refine zz_iload_n (x := p2) rfl zd_14_73_18 ?_
  refine zz_iadd zd_14_73_19 ?_
  refine zz_aload_n (x := 1079) rfl zd_14_73_20 ?_
  refine zz_getr (kd := 0) (z := 1104) zd_14_73_21 zf_Md_94 zT_1079 rfl (zz_ltn hn rfl) (zz_G.eq G_S0 1079 39 1104 rfl rfl) (by decide) 1104 rfl ?_
  refine zz_iload_n (x := p0) rfl zd_14_73_24 ?_
  have g4 := zz_G.r G_S0 1104 p0.toNat 0 63 rfl rfl
  refine zz_iald (z := S0 1104 p0.toNat) zd_14_73_25 zT_1104 rfl (zz_ltn hn rfl) (by decide) (by omega) rfl ?_
  refine zz_imul zd_14_73_26 ?_
  have m5 := zz_mulb (a := (p1 * (S0 1103 p0.toNat)) + p2) (b := S0 1104 p0.toNat) 3968 63 249984 (by omega) (by omega) (by decide)
  refine zz_nme (fun v6 ev6 => ?_)
  refine zz_iadd zd_14_73_27 ?_
  refine zz_iload (x := p3) rfl zd_14_73_28 ?_
  refine zz_iadd zd_14_73_30 ?_
  have hn9 := hq1
  unfold zz_tn zz_sz at hn9
  have hx9 := zz_ix (h := S0 1102 p0.toNat) (w := S0 1103 p0.toNat) (c := S0 1104 p0.toNat) (y := p1) (x := p2) (k := p3) (F := S0 1105 p0.toNat) (B := 2048) (by omega) (by omega) (by omega) (by omega)
  have gf9 := zz_G.r G_S0 1105 p0.toNat (0) (if p0.toNat = 0 then 0 else 10000000) rfl rfl
  have g7 := zz_G.r G_S0 1080 ((((S0 1105 p0.toNat) + v6) + p3).toNat) (-2147483648) 2147483647 rfl rfl
  refine zz_iald (z := S0 1080 ((((S0 1105 p0.toNat) + v6) + p3).toNat)) zd_14_73_31 zT_1080 rfl (zz_ltn hn rfl) (by decide) (by omega) rfl ?_
  exact zz_iret zd_14_73_32 rfl (Nat.zero_le _) (Nat.zero_le _) ⟨_, _, rfl, rfl, by omega⟩
abbrev zy_convolved_14_74 : mm_Y := (⟨"TensorForgeModel", "convolved", "(IIII)I"⟩, prog_14_method_74_code, 13, (some .int))
theorem zyw_convolved_14_74 : mm_Yw zy_convolved_14_74 4 := ⟨mm_tb_1 2120 (by decide +kernel) rfl, mm_tb_1 12 (by decide +kernel) rfl, ⟨by decide, by decide⟩, by decide +kernel⟩
theorem zk_Md_434 : mm_Vl "TensorForgeModel" 434 11 3 zy_isThere_14_72 := ⟨zyw_isThere_14_72, (R_Md, F_Md, 69), rfl, mm_tb_1 2121 (by decide +kernel) rfl, mm_tb_1 2123 (by decide +kernel) rfl, mm_tb_s 124 (by decide +kernel) rfl⟩
theorem zk_Md_438 : mm_Vl "TensorForgeModel" 438 11 4 zy_cellAt_14_73 := ⟨zyw_cellAt_14_73, (R_Md, F_Md, 69), rfl, mm_tb_1 2125 (by decide +kernel) rfl, mm_tb_1 2127 (by decide +kernel) rfl, mm_tb_s 125 (by decide +kernel) rfl⟩
theorem zg_14_74_0 : zq_at zy_convolved_14_74.2.1 0 42 ∧ zq_at zy_convolved_14_74.2.1 1 180 ∧ zq_at zy_convolved_14_74.2.1 2 0 ∧ zq_at zy_convolved_14_74.2.1 3 103 ∧ zq_at zy_convolved_14_74.2.1 4 27 ∧ zq_at zy_convolved_14_74.2.1 5 46 ∧ zq_at zy_convolved_14_74.2.1 6 54 ∧ zq_at zy_convolved_14_74.2.1 7 5 ∧ zq_at zy_convolved_14_74.2.1 8 42 ∧ zq_at zy_convolved_14_74.2.1 9 180 ∧ zq_at zy_convolved_14_74.2.1 10 0 ∧ zq_at zy_convolved_14_74.2.1 11 94 ∧ zq_at zy_convolved_14_74.2.1 12 27 ∧ zq_at zy_convolved_14_74.2.1 13 4 ∧ zq_at zy_convolved_14_74.2.1 14 96 ∧ zq_at zy_convolved_14_74.2.1 15 46 ∧ zq_at zy_convolved_14_74.2.1 16 54 ∧ zq_at zy_convolved_14_74.2.1 17 6 ∧ zq_at zy_convolved_14_74.2.1 18 42 ∧ zq_at zy_convolved_14_74.2.1 19 42 ∧ zq_at zy_convolved_14_74.2.1 20 180 ∧ zq_at zy_convolved_14_74.2.1 21 0 ∧ zq_at zy_convolved_14_74.2.1 22 124 ∧ zq_at zy_convolved_14_74.2.1 23 27 := by decide +kernel
theorem zd_14_74_0 : zz_D zy_convolved_14_74 0 (.aload_n 0) 1 1 := ⟨zq_42 zg_14_74_0.1, rfl⟩
theorem zd_14_74_1 : zz_D zy_convolved_14_74 1 (.getfield 103) 3 4 := ⟨zq_180 zg_14_74_0.2.1 zg_14_74_0.2.2.1 zg_14_74_0.2.2.2.1 rfl, rfl⟩
theorem zd_14_74_4 : zz_D zy_convolved_14_74 4 (.iload_n 1) 1 5 := ⟨zq_27 zg_14_74_0.2.2.2.2.1, rfl⟩
theorem zd_14_74_5 : zz_D zy_convolved_14_74 5 (.iaload) 1 6 := ⟨zq_46 zg_14_74_0.2.2.2.2.2.1, rfl⟩
theorem zd_14_74_6 : zz_D zy_convolved_14_74 6 (.istore 5) 2 8 := ⟨zq_54 zg_14_74_0.2.2.2.2.2.2.1 zg_14_74_0.2.2.2.2.2.2.2.1, rfl⟩
theorem zd_14_74_8 : zz_D zy_convolved_14_74 8 (.aload_n 0) 1 9 := ⟨zq_42 zg_14_74_0.2.2.2.2.2.2.2.2.1, rfl⟩
theorem zd_14_74_9 : zz_D zy_convolved_14_74 9 (.getfield 94) 3 12 := ⟨zq_180 zg_14_74_0.2.2.2.2.2.2.2.2.2.1 zg_14_74_0.2.2.2.2.2.2.2.2.2.2.1 zg_14_74_0.2.2.2.2.2.2.2.2.2.2.2.1 rfl, rfl⟩
theorem zd_14_74_12 : zz_D zy_convolved_14_74 12 (.iload_n 1) 1 13 := ⟨zq_27 zg_14_74_0.2.2.2.2.2.2.2.2.2.2.2.2.1, rfl⟩
theorem zd_14_74_13 : zz_D zy_convolved_14_74 13 (.iconst 1) 1 14 := ⟨zq_4 zg_14_74_0.2.2.2.2.2.2.2.2.2.2.2.2.2.1, rfl⟩
theorem zd_14_74_14 : zz_D zy_convolved_14_74 14 (.iadd) 1 15 := ⟨zq_96 zg_14_74_0.2.2.2.2.2.2.2.2.2.2.2.2.2.2.1, rfl⟩
theorem zd_14_74_15 : zz_D zy_convolved_14_74 15 (.iaload) 1 16 := ⟨zq_46 zg_14_74_0.2.2.2.2.2.2.2.2.2.2.2.2.2.2.2.1, rfl⟩
theorem zd_14_74_16 : zz_D zy_convolved_14_74 16 (.istore 6) 2 18 := ⟨zq_54 zg_14_74_0.2.2.2.2.2.2.2.2.2.2.2.2.2.2.2.2.1 zg_14_74_0.2.2.2.2.2.2.2.2.2.2.2.2.2.2.2.2.2.1, rfl⟩
theorem zd_14_74_18 : zz_D zy_convolved_14_74 18 (.aload_n 0) 1 19 := ⟨zq_42 zg_14_74_0.2.2.2.2.2.2.2.2.2.2.2.2.2.2.2.2.2.2.1, rfl⟩
theorem zd_14_74_19 : zz_D zy_convolved_14_74 19 (.aload_n 0) 1 20 := ⟨zq_42 zg_14_74_0.2.2.2.2.2.2.2.2.2.2.2.2.2.2.2.2.2.2.2.1, rfl⟩
theorem zd_14_74_20 : zz_D zy_convolved_14_74 20 (.getfield 124) 3 23 := ⟨zq_180 zg_14_74_0.2.2.2.2.2.2.2.2.2.2.2.2.2.2.2.2.2.2.2.2.1 zg_14_74_0.2.2.2.2.2.2.2.2.2.2.2.2.2.2.2.2.2.2.2.2.2.1 zg_14_74_0.2.2.2.2.2.2.2.2.2.2.2.2.2.2.2.2.2.2.2.2.2.2.1 rfl, rfl⟩
theorem zd_14_74_23 : zz_D zy_convolved_14_74 23 (.iload_n 1) 1 24 := ⟨zq_27 zg_14_74_0.2.2.2.2.2.2.2.2.2.2.2.2.2.2.2.2.2.2.2.2.2.2.2, rfl⟩
theorem zg_14_74_24 : zq_at zy_convolved_14_74.2.1 24 46 ∧ zq_at zy_convolved_14_74.2.1 25 7 ∧ zq_at zy_convolved_14_74.2.1 26 21 ∧ zq_at zy_convolved_14_74.2.1 27 4 ∧ zq_at zy_convolved_14_74.2.1 28 104 ∧ zq_at zy_convolved_14_74.2.1 29 96 ∧ zq_at zy_convolved_14_74.2.1 30 182 ∧ zq_at zy_convolved_14_74.2.1 31 1 ∧ zq_at zy_convolved_14_74.2.1 32 2 ∧ zq_at zy_convolved_14_74.2.1 33 54 ∧ zq_at zy_convolved_14_74.2.1 34 7 ∧ zq_at zy_convolved_14_74.2.1 35 42 ∧ zq_at zy_convolved_14_74.2.1 36 180 ∧ zq_at zy_convolved_14_74.2.1 37 0 ∧ zq_at zy_convolved_14_74.2.1 38 109 ∧ zq_at zy_convolved_14_74.2.1 39 27 ∧ zq_at zy_convolved_14_74.2.1 40 46 ∧ zq_at zy_convolved_14_74.2.1 41 42 ∧ zq_at zy_convolved_14_74.2.1 42 180 ∧ zq_at zy_convolved_14_74.2.1 43 0 ∧ zq_at zy_convolved_14_74.2.1 44 112 ∧ zq_at zy_convolved_14_74.2.1 45 27 ∧ zq_at zy_convolved_14_74.2.1 46 46 ∧ zq_at zy_convolved_14_74.2.1 47 104 := by decide +kernel
theorem zd_14_74_24 : zz_D zy_convolved_14_74 24 (.iaload) 1 25 := ⟨zq_46 zg_14_74_24.1, rfl⟩
theorem zd_14_74_25 : zz_D zy_convolved_14_74 25 (.iconst 4) 1 26 := ⟨zq_7 zg_14_74_24.2.1, rfl⟩
theorem zd_14_74_26 : zz_D zy_convolved_14_74 26 (.iload 4) 2 28 := ⟨zq_21 zg_14_74_24.2.2.1 zg_14_74_24.2.2.2.1, rfl⟩
theorem zd_14_74_28 : zz_D zy_convolved_14_74 28 (.imul) 1 29 := ⟨zq_104 zg_14_74_24.2.2.2.2.1, rfl⟩
theorem zd_14_74_29 : zz_D zy_convolved_14_74 29 (.iadd) 1 30 := ⟨zq_96 zg_14_74_24.2.2.2.2.2.1, rfl⟩
theorem zd_14_74_30 : zz_D zy_convolved_14_74 30 (.invokevirtual 258) 3 33 := ⟨zq_182 zg_14_74_24.2.2.2.2.2.2.1 zg_14_74_24.2.2.2.2.2.2.2.1 zg_14_74_24.2.2.2.2.2.2.2.2.1 rfl, rfl⟩
theorem zd_14_74_33 : zz_D zy_convolved_14_74 33 (.istore 7) 2 35 := ⟨zq_54 zg_14_74_24.2.2.2.2.2.2.2.2.2.1 zg_14_74_24.2.2.2.2.2.2.2.2.2.2.1, rfl⟩
theorem zd_14_74_35 : zz_D zy_convolved_14_74 35 (.aload_n 0) 1 36 := ⟨zq_42 zg_14_74_24.2.2.2.2.2.2.2.2.2.2.2.1, rfl⟩
theorem zd_14_74_36 : zz_D zy_convolved_14_74 36 (.getfield 109) 3 39 := ⟨zq_180 zg_14_74_24.2.2.2.2.2.2.2.2.2.2.2.2.1 zg_14_74_24.2.2.2.2.2.2.2.2.2.2.2.2.2.1 zg_14_74_24.2.2.2.2.2.2.2.2.2.2.2.2.2.2.1 rfl, rfl⟩
theorem zd_14_74_39 : zz_D zy_convolved_14_74 39 (.iload_n 1) 1 40 := ⟨zq_27 zg_14_74_24.2.2.2.2.2.2.2.2.2.2.2.2.2.2.2.1, rfl⟩
theorem zd_14_74_40 : zz_D zy_convolved_14_74 40 (.iaload) 1 41 := ⟨zq_46 zg_14_74_24.2.2.2.2.2.2.2.2.2.2.2.2.2.2.2.2.1, rfl⟩
theorem zd_14_74_41 : zz_D zy_convolved_14_74 41 (.aload_n 0) 1 42 := ⟨zq_42 zg_14_74_24.2.2.2.2.2.2.2.2.2.2.2.2.2.2.2.2.2.1, rfl⟩
theorem zd_14_74_42 : zz_D zy_convolved_14_74 42 (.getfield 112) 3 45 := ⟨zq_180 zg_14_74_24.2.2.2.2.2.2.2.2.2.2.2.2.2.2.2.2.2.2.1 zg_14_74_24.2.2.2.2.2.2.2.2.2.2.2.2.2.2.2.2.2.2.2.1 zg_14_74_24.2.2.2.2.2.2.2.2.2.2.2.2.2.2.2.2.2.2.2.2.1 rfl, rfl⟩
theorem zd_14_74_45 : zz_D zy_convolved_14_74 45 (.iload_n 1) 1 46 := ⟨zq_27 zg_14_74_24.2.2.2.2.2.2.2.2.2.2.2.2.2.2.2.2.2.2.2.2.2.1, rfl⟩
theorem zd_14_74_46 : zz_D zy_convolved_14_74 46 (.iaload) 1 47 := ⟨zq_46 zg_14_74_24.2.2.2.2.2.2.2.2.2.2.2.2.2.2.2.2.2.2.2.2.2.2.1, rfl⟩
theorem zd_14_74_47 : zz_D zy_convolved_14_74 47 (.imul) 1 48 := ⟨zq_104 zg_14_74_24.2.2.2.2.2.2.2.2.2.2.2.2.2.2.2.2.2.2.2.2.2.2.2, rfl⟩
theorem zg_14_74_48 : zq_at zy_convolved_14_74.2.1 48 42 ∧ zq_at zy_convolved_14_74.2.1 49 180 ∧ zq_at zy_convolved_14_74.2.1 50 0 ∧ zq_at zy_convolved_14_74.2.1 51 94 ∧ zq_at zy_convolved_14_74.2.1 52 21 ∧ zq_at zy_convolved_14_74.2.1 53 5 ∧ zq_at zy_convolved_14_74.2.1 54 46 ∧ zq_at zy_convolved_14_74.2.1 55 104 ∧ zq_at zy_convolved_14_74.2.1 56 54 ∧ zq_at zy_convolved_14_74.2.1 57 8 ∧ zq_at zy_convolved_14_74.2.1 58 3 ∧ zq_at zy_convolved_14_74.2.1 59 54 ∧ zq_at zy_convolved_14_74.2.1 60 9 ∧ zq_at zy_convolved_14_74.2.1 61 21 ∧ zq_at zy_convolved_14_74.2.1 62 9 ∧ zq_at zy_convolved_14_74.2.1 63 21 ∧ zq_at zy_convolved_14_74.2.1 64 8 ∧ zq_at zy_convolved_14_74.2.1 65 162 ∧ zq_at zy_convolved_14_74.2.1 66 0 ∧ zq_at zy_convolved_14_74.2.1 67 147 ∧ zq_at zy_convolved_14_74.2.1 212 21 ∧ zq_at zy_convolved_14_74.2.1 213 7 ∧ zq_at zy_convolved_14_74.2.1 214 42 := by decide +kernel
theorem zd_14_74_48 : zz_D zy_convolved_14_74 48 (.aload_n 0) 1 49 := ⟨zq_42 zg_14_74_48.1, rfl⟩
theorem zd_14_74_49 : zz_D zy_convolved_14_74 49 (.getfield 94) 3 52 := ⟨zq_180 zg_14_74_48.2.1 zg_14_74_48.2.2.1 zg_14_74_48.2.2.2.1 rfl, rfl⟩
theorem zd_14_74_52 : zz_D zy_convolved_14_74 52 (.iload 5) 2 54 := ⟨zq_21 zg_14_74_48.2.2.2.2.1 zg_14_74_48.2.2.2.2.2.1, rfl⟩
theorem zd_14_74_54 : zz_D zy_convolved_14_74 54 (.iaload) 1 55 := ⟨zq_46 zg_14_74_48.2.2.2.2.2.2.1, rfl⟩
theorem zd_14_74_55 : zz_D zy_convolved_14_74 55 (.imul) 1 56 := ⟨zq_104 zg_14_74_48.2.2.2.2.2.2.2.1, rfl⟩
theorem zd_14_74_56 : zz_D zy_convolved_14_74 56 (.istore 8) 2 58 := ⟨zq_54 zg_14_74_48.2.2.2.2.2.2.2.2.1 zg_14_74_48.2.2.2.2.2.2.2.2.2.1, rfl⟩
theorem zd_14_74_58 : zz_D zy_convolved_14_74 58 (.iconst 0) 1 59 := ⟨zq_3 zg_14_74_48.2.2.2.2.2.2.2.2.2.2.1, rfl⟩
theorem zd_14_74_59 : zz_D zy_convolved_14_74 59 (.istore 9) 2 61 := ⟨zq_54 zg_14_74_48.2.2.2.2.2.2.2.2.2.2.2.1 zg_14_74_48.2.2.2.2.2.2.2.2.2.2.2.2.1, rfl⟩
theorem zd_14_74_61 : zz_D zy_convolved_14_74 61 (.iload 9) 2 63 := ⟨zq_21 zg_14_74_48.2.2.2.2.2.2.2.2.2.2.2.2.2.1 zg_14_74_48.2.2.2.2.2.2.2.2.2.2.2.2.2.2.1, rfl⟩
theorem zd_14_74_63 : zz_D zy_convolved_14_74 63 (.iload 8) 2 65 := ⟨zq_21 zg_14_74_48.2.2.2.2.2.2.2.2.2.2.2.2.2.2.2.1 zg_14_74_48.2.2.2.2.2.2.2.2.2.2.2.2.2.2.2.2.1, rfl⟩
theorem zd_14_74_65 : zz_B zy_convolved_14_74 65 (Instr.if_icmp .ge) 212 68 := ⟨147, zq_162 zg_14_74_48.2.2.2.2.2.2.2.2.2.2.2.2.2.2.2.2.2.1 zg_14_74_48.2.2.2.2.2.2.2.2.2.2.2.2.2.2.2.2.2.2.1 zg_14_74_48.2.2.2.2.2.2.2.2.2.2.2.2.2.2.2.2.2.2.2.1 (by decide), rfl, rfl⟩
theorem zd_14_74_212 : zz_D zy_convolved_14_74 212 (.iload 7) 2 214 := ⟨zq_21 zg_14_74_48.2.2.2.2.2.2.2.2.2.2.2.2.2.2.2.2.2.2.2.2.1 zg_14_74_48.2.2.2.2.2.2.2.2.2.2.2.2.2.2.2.2.2.2.2.2.2.1, rfl⟩
theorem zd_14_74_214 : zz_D zy_convolved_14_74 214 (.aload_n 0) 1 215 := ⟨zq_42 zg_14_74_48.2.2.2.2.2.2.2.2.2.2.2.2.2.2.2.2.2.2.2.2.2.2, rfl⟩
theorem zg_14_74_215 : zq_at zy_convolved_14_74.2.1 215 180 ∧ zq_at zy_convolved_14_74.2.1 216 0 ∧ zq_at zy_convolved_14_74.2.1 217 121 ∧ zq_at zy_convolved_14_74.2.1 218 27 ∧ zq_at zy_convolved_14_74.2.1 219 46 ∧ zq_at zy_convolved_14_74.2.1 220 184 ∧ zq_at zy_convolved_14_74.2.1 221 1 ∧ zq_at zy_convolved_14_74.2.1 222 5 ∧ zq_at zy_convolved_14_74.2.1 223 172 ∧ zq_at zy_convolved_14_74.2.1 68 21 ∧ zq_at zy_convolved_14_74.2.1 69 9 ∧ zq_at zy_convolved_14_74.2.1 70 42 ∧ zq_at zy_convolved_14_74.2.1 71 180 ∧ zq_at zy_convolved_14_74.2.1 72 0 ∧ zq_at zy_convolved_14_74.2.1 73 94 ∧ zq_at zy_convolved_14_74.2.1 74 21 ∧ zq_at zy_convolved_14_74.2.1 75 5 ∧ zq_at zy_convolved_14_74.2.1 76 46 ∧ zq_at zy_convolved_14_74.2.1 77 112 ∧ zq_at zy_convolved_14_74.2.1 78 54 ∧ zq_at zy_convolved_14_74.2.1 79 10 ∧ zq_at zy_convolved_14_74.2.1 80 42 := by decide +kernel
theorem zd_14_74_215 : zz_D zy_convolved_14_74 215 (.getfield 121) 3 218 := ⟨zq_180 zg_14_74_215.1 zg_14_74_215.2.1 zg_14_74_215.2.2.1 rfl, rfl⟩
theorem zd_14_74_218 : zz_D zy_convolved_14_74 218 (.iload_n 1) 1 219 := ⟨zq_27 zg_14_74_215.2.2.2.1, rfl⟩
theorem zd_14_74_219 : zz_D zy_convolved_14_74 219 (.iaload) 1 220 := ⟨zq_46 zg_14_74_215.2.2.2.2.1, rfl⟩
theorem zd_14_74_220 : zz_D zy_convolved_14_74 220 (.invokestatic 261) 3 223 := ⟨zq_184 zg_14_74_215.2.2.2.2.2.1 zg_14_74_215.2.2.2.2.2.2.1 zg_14_74_215.2.2.2.2.2.2.2.1 rfl, rfl⟩
theorem zd_14_74_223 : zz_D zy_convolved_14_74 223 (.ireturn) 1 224 := ⟨zq_172 zg_14_74_215.2.2.2.2.2.2.2.2.1, rfl⟩
theorem zd_14_74_68 : zz_D zy_convolved_14_74 68 (.iload 9) 2 70 := ⟨zq_21 zg_14_74_215.2.2.2.2.2.2.2.2.2.1 zg_14_74_215.2.2.2.2.2.2.2.2.2.2.1, rfl⟩
theorem zd_14_74_70 : zz_D zy_convolved_14_74 70 (.aload_n 0) 1 71 := ⟨zq_42 zg_14_74_215.2.2.2.2.2.2.2.2.2.2.2.1, rfl⟩
theorem zd_14_74_71 : zz_D zy_convolved_14_74 71 (.getfield 94) 3 74 := ⟨zq_180 zg_14_74_215.2.2.2.2.2.2.2.2.2.2.2.2.1 zg_14_74_215.2.2.2.2.2.2.2.2.2.2.2.2.2.1 zg_14_74_215.2.2.2.2.2.2.2.2.2.2.2.2.2.2.1 rfl, rfl⟩
theorem zd_14_74_74 : zz_D zy_convolved_14_74 74 (.iload 5) 2 76 := ⟨zq_21 zg_14_74_215.2.2.2.2.2.2.2.2.2.2.2.2.2.2.2.1 zg_14_74_215.2.2.2.2.2.2.2.2.2.2.2.2.2.2.2.2.1, rfl⟩
theorem zd_14_74_76 : zz_D zy_convolved_14_74 76 (.iaload) 1 77 := ⟨zq_46 zg_14_74_215.2.2.2.2.2.2.2.2.2.2.2.2.2.2.2.2.2.1, rfl⟩
theorem zd_14_74_77 : zz_D zy_convolved_14_74 77 (.irem) 1 78 := ⟨zq_112 zg_14_74_215.2.2.2.2.2.2.2.2.2.2.2.2.2.2.2.2.2.2.1, rfl⟩
theorem zd_14_74_78 : zz_D zy_convolved_14_74 78 (.istore 10) 2 80 := ⟨zq_54 zg_14_74_215.2.2.2.2.2.2.2.2.2.2.2.2.2.2.2.2.2.2.2.1 zg_14_74_215.2.2.2.2.2.2.2.2.2.2.2.2.2.2.2.2.2.2.2.2.1, rfl⟩
theorem zd_14_74_80 : zz_D zy_convolved_14_74 80 (.aload_n 0) 1 81 := ⟨zq_42 zg_14_74_215.2.2.2.2.2.2.2.2.2.2.2.2.2.2.2.2.2.2.2.2.2, rfl⟩
theorem zg_14_74_81 : zq_at zy_convolved_14_74.2.1 81 180 ∧ zq_at zy_convolved_14_74.2.1 82 0 ∧ zq_at zy_convolved_14_74.2.1 83 115 ∧ zq_at zy_convolved_14_74.2.1 84 27 ∧ zq_at zy_convolved_14_74.2.1 85 46 ∧ zq_at zy_convolved_14_74.2.1 86 28 ∧ zq_at zy_convolved_14_74.2.1 87 104 ∧ zq_at zy_convolved_14_74.2.1 88 21 ∧ zq_at zy_convolved_14_74.2.1 89 9 ∧ zq_at zy_convolved_14_74.2.1 90 42 ∧ zq_at zy_convolved_14_74.2.1 91 180 ∧ zq_at zy_convolved_14_74.2.1 92 0 ∧ zq_at zy_convolved_14_74.2.1 93 94 ∧ zq_at zy_convolved_14_74.2.1 94 21 ∧ zq_at zy_convolved_14_74.2.1 95 5 ∧ zq_at zy_convolved_14_74.2.1 96 46 ∧ zq_at zy_convolved_14_74.2.1 97 108 ∧ zq_at zy_convolved_14_74.2.1 98 42 ∧ zq_at zy_convolved_14_74.2.1 99 180 ∧ zq_at zy_convolved_14_74.2.1 100 0 ∧ zq_at zy_convolved_14_74.2.1 101 112 ∧ zq_at zy_convolved_14_74.2.1 102 27 ∧ zq_at zy_convolved_14_74.2.1 103 46 ∧ zq_at zy_convolved_14_74.2.1 104 108 := by decide +kernel
theorem zd_14_74_81 : zz_D zy_convolved_14_74 81 (.getfield 115) 3 84 := ⟨zq_180 zg_14_74_81.1 zg_14_74_81.2.1 zg_14_74_81.2.2.1 rfl, rfl⟩
theorem zd_14_74_84 : zz_D zy_convolved_14_74 84 (.iload_n 1) 1 85 := ⟨zq_27 zg_14_74_81.2.2.2.1, rfl⟩
theorem zd_14_74_85 : zz_D zy_convolved_14_74 85 (.iaload) 1 86 := ⟨zq_46 zg_14_74_81.2.2.2.2.1, rfl⟩
theorem zd_14_74_86 : zz_D zy_convolved_14_74 86 (.iload_n 2) 1 87 := ⟨zq_28 zg_14_74_81.2.2.2.2.2.1, rfl⟩
theorem zd_14_74_87 : zz_D zy_convolved_14_74 87 (.imul) 1 88 := ⟨zq_104 zg_14_74_81.2.2.2.2.2.2.1, rfl⟩
theorem zd_14_74_88 : zz_D zy_convolved_14_74 88 (.iload 9) 2 90 := ⟨zq_21 zg_14_74_81.2.2.2.2.2.2.2.1 zg_14_74_81.2.2.2.2.2.2.2.2.1, rfl⟩
theorem zd_14_74_90 : zz_D zy_convolved_14_74 90 (.aload_n 0) 1 91 := ⟨zq_42 zg_14_74_81.2.2.2.2.2.2.2.2.2.1, rfl⟩
theorem zd_14_74_91 : zz_D zy_convolved_14_74 91 (.getfield 94) 3 94 := ⟨zq_180 zg_14_74_81.2.2.2.2.2.2.2.2.2.2.1 zg_14_74_81.2.2.2.2.2.2.2.2.2.2.2.1 zg_14_74_81.2.2.2.2.2.2.2.2.2.2.2.2.1 rfl, rfl⟩
theorem zd_14_74_94 : zz_D zy_convolved_14_74 94 (.iload 5) 2 96 := ⟨zq_21 zg_14_74_81.2.2.2.2.2.2.2.2.2.2.2.2.2.1 zg_14_74_81.2.2.2.2.2.2.2.2.2.2.2.2.2.2.1, rfl⟩
theorem zd_14_74_96 : zz_D zy_convolved_14_74 96 (.iaload) 1 97 := ⟨zq_46 zg_14_74_81.2.2.2.2.2.2.2.2.2.2.2.2.2.2.2.1, rfl⟩
theorem zd_14_74_97 : zz_D zy_convolved_14_74 97 (.idiv) 1 98 := ⟨zq_108 zg_14_74_81.2.2.2.2.2.2.2.2.2.2.2.2.2.2.2.2.1, rfl⟩
theorem zd_14_74_98 : zz_D zy_convolved_14_74 98 (.aload_n 0) 1 99 := ⟨zq_42 zg_14_74_81.2.2.2.2.2.2.2.2.2.2.2.2.2.2.2.2.2.1, rfl⟩
theorem zd_14_74_99 : zz_D zy_convolved_14_74 99 (.getfield 112) 3 102 := ⟨zq_180 zg_14_74_81.2.2.2.2.2.2.2.2.2.2.2.2.2.2.2.2.2.2.1 zg_14_74_81.2.2.2.2.2.2.2.2.2.2.2.2.2.2.2.2.2.2.2.1 zg_14_74_81.2.2.2.2.2.2.2.2.2.2.2.2.2.2.2.2.2.2.2.2.1 rfl, rfl⟩
theorem zd_14_74_102 : zz_D zy_convolved_14_74 102 (.iload_n 1) 1 103 := ⟨zq_27 zg_14_74_81.2.2.2.2.2.2.2.2.2.2.2.2.2.2.2.2.2.2.2.2.2.1, rfl⟩
theorem zd_14_74_103 : zz_D zy_convolved_14_74 103 (.iaload) 1 104 := ⟨zq_46 zg_14_74_81.2.2.2.2.2.2.2.2.2.2.2.2.2.2.2.2.2.2.2.2.2.2.1, rfl⟩
theorem zd_14_74_104 : zz_D zy_convolved_14_74 104 (.idiv) 1 105 := ⟨zq_108 zg_14_74_81.2.2.2.2.2.2.2.2.2.2.2.2.2.2.2.2.2.2.2.2.2.2.2, rfl⟩
theorem zg_14_74_105 : zq_at zy_convolved_14_74.2.1 105 96 ∧ zq_at zy_convolved_14_74.2.1 106 42 ∧ zq_at zy_convolved_14_74.2.1 107 180 ∧ zq_at zy_convolved_14_74.2.1 108 0 ∧ zq_at zy_convolved_14_74.2.1 109 118 ∧ zq_at zy_convolved_14_74.2.1 110 27 ∧ zq_at zy_convolved_14_74.2.1 111 46 ∧ zq_at zy_convolved_14_74.2.1 112 100 ∧ zq_at zy_convolved_14_74.2.1 113 54 ∧ zq_at zy_convolved_14_74.2.1 114 11 ∧ zq_at zy_convolved_14_74.2.1 115 42 ∧ zq_at zy_convolved_14_74.2.1 116 180 ∧ zq_at zy_convolved_14_74.2.1 117 0 ∧ zq_at zy_convolved_14_74.2.1 118 115 ∧ zq_at zy_convolved_14_74.2.1 119 27 ∧ zq_at zy_convolved_14_74.2.1 120 46 ∧ zq_at zy_convolved_14_74.2.1 121 29 ∧ zq_at zy_convolved_14_74.2.1 122 104 ∧ zq_at zy_convolved_14_74.2.1 123 21 ∧ zq_at zy_convolved_14_74.2.1 124 9 ∧ zq_at zy_convolved_14_74.2.1 125 42 ∧ zq_at zy_convolved_14_74.2.1 126 180 ∧ zq_at zy_convolved_14_74.2.1 127 0 ∧ zq_at zy_convolved_14_74.2.1 128 94 := by decide +kernel
theorem zd_14_74_105 : zz_D zy_convolved_14_74 105 (.iadd) 1 106 := ⟨zq_96 zg_14_74_105.1, rfl⟩
theorem zd_14_74_106 : zz_D zy_convolved_14_74 106 (.aload_n 0) 1 107 := ⟨zq_42 zg_14_74_105.2.1, rfl⟩
theorem zd_14_74_107 : zz_D zy_convolved_14_74 107 (.getfield 118) 3 110 := ⟨zq_180 zg_14_74_105.2.2.1 zg_14_74_105.2.2.2.1 zg_14_74_105.2.2.2.2.1 rfl, rfl⟩
theorem zd_14_74_110 : zz_D zy_convolved_14_74 110 (.iload_n 1) 1 111 := ⟨zq_27 zg_14_74_105.2.2.2.2.2.1, rfl⟩
theorem zd_14_74_111 : zz_D zy_convolved_14_74 111 (.iaload) 1 112 := ⟨zq_46 zg_14_74_105.2.2.2.2.2.2.1, rfl⟩
theorem zd_14_74_112 : zz_D zy_convolved_14_74 112 (.isub) 1 113 := ⟨zq_100 zg_14_74_105.2.2.2.2.2.2.2.1, rfl⟩
theorem zd_14_74_113 : zz_D zy_convolved_14_74 113 (.istore 11) 2 115 := ⟨zq_54 zg_14_74_105.2.2.2.2.2.2.2.2.1 zg_14_74_105.2.2.2.2.2.2.2.2.2.1, rfl⟩
theorem zd_14_74_115 : zz_D zy_convolved_14_74 115 (.aload_n 0) 1 116 := ⟨zq_42 zg_14_74_105.2.2.2.2.2.2.2.2.2.2.1, rfl⟩
theorem zd_14_74_116 : zz_D zy_convolved_14_74 116 (.getfield 115) 3 119 := ⟨zq_180 zg_14_74_105.2.2.2.2.2.2.2.2.2.2.2.1 zg_14_74_105.2.2.2.2.2.2.2.2.2.2.2.2.1 zg_14_74_105.2.2.2.2.2.2.2.2.2.2.2.2.2.1 rfl, rfl⟩
theorem zd_14_74_119 : zz_D zy_convolved_14_74 119 (.iload_n 1) 1 120 := ⟨zq_27 zg_14_74_105.2.2.2.2.2.2.2.2.2.2.2.2.2.2.1, rfl⟩
theorem zd_14_74_120 : zz_D zy_convolved_14_74 120 (.iaload) 1 121 := ⟨zq_46 zg_14_74_105.2.2.2.2.2.2.2.2.2.2.2.2.2.2.2.1, rfl⟩
theorem zd_14_74_121 : zz_D zy_convolved_14_74 121 (.iload_n 3) 1 122 := ⟨zq_29 zg_14_74_105.2.2.2.2.2.2.2.2.2.2.2.2.2.2.2.2.1, rfl⟩
theorem zd_14_74_122 : zz_D zy_convolved_14_74 122 (.imul) 1 123 := ⟨zq_104 zg_14_74_105.2.2.2.2.2.2.2.2.2.2.2.2.2.2.2.2.2.1, rfl⟩
theorem zd_14_74_123 : zz_D zy_convolved_14_74 123 (.iload 9) 2 125 := ⟨zq_21 zg_14_74_105.2.2.2.2.2.2.2.2.2.2.2.2.2.2.2.2.2.2.1 zg_14_74_105.2.2.2.2.2.2.2.2.2.2.2.2.2.2.2.2.2.2.2.1, rfl⟩
theorem zd_14_74_125 : zz_D zy_convolved_14_74 125 (.aload_n 0) 1 126 := ⟨zq_42 zg_14_74_105.2.2.2.2.2.2.2.2.2.2.2.2.2.2.2.2.2.2.2.2.1, rfl⟩
theorem zd_14_74_126 : zz_D zy_convolved_14_74 126 (.getfield 94) 3 129 := ⟨zq_180 zg_14_74_105.2.2.2.2.2.2.2.2.2.2.2.2.2.2.2.2.2.2.2.2.2.1 zg_14_74_105.2.2.2.2.2.2.2.2.2.2.2.2.2.2.2.2.2.2.2.2.2.2.1 zg_14_74_105.2.2.2.2.2.2.2.2.2.2.2.2.2.2.2.2.2.2.2.2.2.2.2 rfl, rfl⟩
theorem zg_14_74_129 : zq_at zy_convolved_14_74.2.1 129 21 ∧ zq_at zy_convolved_14_74.2.1 130 5 ∧ zq_at zy_convolved_14_74.2.1 131 46 ∧ zq_at zy_convolved_14_74.2.1 132 108 ∧ zq_at zy_convolved_14_74.2.1 133 42 ∧ zq_at zy_convolved_14_74.2.1 134 180 ∧ zq_at zy_convolved_14_74.2.1 135 0 ∧ zq_at zy_convolved_14_74.2.1 136 112 ∧ zq_at zy_convolved_14_74.2.1 137 27 ∧ zq_at zy_convolved_14_74.2.1 138 46 ∧ zq_at zy_convolved_14_74.2.1 139 112 ∧ zq_at zy_convolved_14_74.2.1 140 96 ∧ zq_at zy_convolved_14_74.2.1 141 42 ∧ zq_at zy_convolved_14_74.2.1 142 180 ∧ zq_at zy_convolved_14_74.2.1 143 0 ∧ zq_at zy_convolved_14_74.2.1 144 118 ∧ zq_at zy_convolved_14_74.2.1 145 27 ∧ zq_at zy_convolved_14_74.2.1 146 46 ∧ zq_at zy_convolved_14_74.2.1 147 100 ∧ zq_at zy_convolved_14_74.2.1 148 54 ∧ zq_at zy_convolved_14_74.2.1 149 12 ∧ zq_at zy_convolved_14_74.2.1 150 42 ∧ zq_at zy_convolved_14_74.2.1 151 21 ∧ zq_at zy_convolved_14_74.2.1 152 5 := by decide +kernel
theorem zd_14_74_129 : zz_D zy_convolved_14_74 129 (.iload 5) 2 131 := ⟨zq_21 zg_14_74_129.1 zg_14_74_129.2.1, rfl⟩
theorem zd_14_74_131 : zz_D zy_convolved_14_74 131 (.iaload) 1 132 := ⟨zq_46 zg_14_74_129.2.2.1, rfl⟩
theorem zd_14_74_132 : zz_D zy_convolved_14_74 132 (.idiv) 1 133 := ⟨zq_108 zg_14_74_129.2.2.2.1, rfl⟩
theorem zd_14_74_133 : zz_D zy_convolved_14_74 133 (.aload_n 0) 1 134 := ⟨zq_42 zg_14_74_129.2.2.2.2.1, rfl⟩
theorem zd_14_74_134 : zz_D zy_convolved_14_74 134 (.getfield 112) 3 137 := ⟨zq_180 zg_14_74_129.2.2.2.2.2.1 zg_14_74_129.2.2.2.2.2.2.1 zg_14_74_129.2.2.2.2.2.2.2.1 rfl, rfl⟩
theorem zd_14_74_137 : zz_D zy_convolved_14_74 137 (.iload_n 1) 1 138 := ⟨zq_27 zg_14_74_129.2.2.2.2.2.2.2.2.1, rfl⟩
theorem zd_14_74_138 : zz_D zy_convolved_14_74 138 (.iaload) 1 139 := ⟨zq_46 zg_14_74_129.2.2.2.2.2.2.2.2.2.1, rfl⟩
theorem zd_14_74_139 : zz_D zy_convolved_14_74 139 (.irem) 1 140 := ⟨zq_112 zg_14_74_129.2.2.2.2.2.2.2.2.2.2.1, rfl⟩
theorem zd_14_74_140 : zz_D zy_convolved_14_74 140 (.iadd) 1 141 := ⟨zq_96 zg_14_74_129.2.2.2.2.2.2.2.2.2.2.2.1, rfl⟩
theorem zd_14_74_141 : zz_D zy_convolved_14_74 141 (.aload_n 0) 1 142 := ⟨zq_42 zg_14_74_129.2.2.2.2.2.2.2.2.2.2.2.2.1, rfl⟩
theorem zd_14_74_142 : zz_D zy_convolved_14_74 142 (.getfield 118) 3 145 := ⟨zq_180 zg_14_74_129.2.2.2.2.2.2.2.2.2.2.2.2.2.1 zg_14_74_129.2.2.2.2.2.2.2.2.2.2.2.2.2.2.1 zg_14_74_129.2.2.2.2.2.2.2.2.2.2.2.2.2.2.2.1 rfl, rfl⟩
theorem zd_14_74_145 : zz_D zy_convolved_14_74 145 (.iload_n 1) 1 146 := ⟨zq_27 zg_14_74_129.2.2.2.2.2.2.2.2.2.2.2.2.2.2.2.2.1, rfl⟩
theorem zd_14_74_146 : zz_D zy_convolved_14_74 146 (.iaload) 1 147 := ⟨zq_46 zg_14_74_129.2.2.2.2.2.2.2.2.2.2.2.2.2.2.2.2.2.1, rfl⟩
theorem zd_14_74_147 : zz_D zy_convolved_14_74 147 (.isub) 1 148 := ⟨zq_100 zg_14_74_129.2.2.2.2.2.2.2.2.2.2.2.2.2.2.2.2.2.2.1, rfl⟩
theorem zd_14_74_148 : zz_D zy_convolved_14_74 148 (.istore 12) 2 150 := ⟨zq_54 zg_14_74_129.2.2.2.2.2.2.2.2.2.2.2.2.2.2.2.2.2.2.2.1 zg_14_74_129.2.2.2.2.2.2.2.2.2.2.2.2.2.2.2.2.2.2.2.2.1, rfl⟩
theorem zd_14_74_150 : zz_D zy_convolved_14_74 150 (.aload_n 0) 1 151 := ⟨zq_42 zg_14_74_129.2.2.2.2.2.2.2.2.2.2.2.2.2.2.2.2.2.2.2.2.2.1, rfl⟩
theorem zd_14_74_151 : zz_D zy_convolved_14_74 151 (.iload 5) 2 153 := ⟨zq_21 zg_14_74_129.2.2.2.2.2.2.2.2.2.2.2.2.2.2.2.2.2.2.2.2.2.2.1 zg_14_74_129.2.2.2.2.2.2.2.2.2.2.2.2.2.2.2.2.2.2.2.2.2.2.2, rfl⟩
theorem zg_14_74_153 : zq_at zy_convolved_14_74.2.1 153 21 ∧ zq_at zy_convolved_14_74.2.1 154 11 ∧ zq_at zy_convolved_14_74.2.1 155 21 ∧ zq_at zy_convolved_14_74.2.1 156 12 ∧ zq_at zy_convolved_14_74.2.1 157 182 ∧ zq_at zy_convolved_14_74.2.1 158 1 ∧ zq_at zy_convolved_14_74.2.1 159 178 ∧ zq_at zy_convolved_14_74.2.1 160 153 ∧ zq_at zy_convolved_14_74.2.1 161 0 ∧ zq_at zy_convolved_14_74.2.1 162 46 ∧ zq_at zy_convolved_14_74.2.1 206 132 ∧ zq_at zy_convolved_14_74.2.1 207 9 ∧ zq_at zy_convolved_14_74.2.1 208 1 ∧ zq_at zy_convolved_14_74.2.1 209 167 ∧ zq_at zy_convolved_14_74.2.1 210 255 ∧ zq_at zy_convolved_14_74.2.1 211 108 ∧ zq_at zy_convolved_14_74.2.1 163 21 ∧ zq_at zy_convolved_14_74.2.1 164 7 ∧ zq_at zy_convolved_14_74.2.1 165 42 ∧ zq_at zy_convolved_14_74.2.1 166 180 ∧ zq_at zy_convolved_14_74.2.1 167 0 ∧ zq_at zy_convolved_14_74.2.1 168 13 ∧ zq_at zy_convolved_14_74.2.1 169 42 := by decide +kernel
theorem zd_14_74_153 : zz_D zy_convolved_14_74 153 (.iload 11) 2 155 := ⟨zq_21 zg_14_74_153.1 zg_14_74_153.2.1, rfl⟩
theorem zd_14_74_155 : zz_D zy_convolved_14_74 155 (.iload 12) 2 157 := ⟨zq_21 zg_14_74_153.2.2.1 zg_14_74_153.2.2.2.1, rfl⟩
theorem zd_14_74_157 : zz_D zy_convolved_14_74 157 (.invokevirtual 434) 3 160 := ⟨zq_182 zg_14_74_153.2.2.2.2.1 zg_14_74_153.2.2.2.2.2.1 zg_14_74_153.2.2.2.2.2.2.1 rfl, rfl⟩
theorem zd_14_74_160 : zz_B zy_convolved_14_74 160 (Instr.ifCond .eq) 206 163 := ⟨46, zq_153 zg_14_74_153.2.2.2.2.2.2.2.1 zg_14_74_153.2.2.2.2.2.2.2.2.1 zg_14_74_153.2.2.2.2.2.2.2.2.2.1 (by decide), rfl, rfl⟩
theorem zd_14_74_206 : zz_D zy_convolved_14_74 206 (.iinc 9 1) 3 209 := ⟨zq_132 zg_14_74_153.2.2.2.2.2.2.2.2.2.2.1 zg_14_74_153.2.2.2.2.2.2.2.2.2.2.2.1 zg_14_74_153.2.2.2.2.2.2.2.2.2.2.2.2.1 (by decide), rfl⟩
theorem zd_14_74_209 : zz_B zy_convolved_14_74 209 Instr.goto 61 212 := ⟨(-148), zq_167 zg_14_74_153.2.2.2.2.2.2.2.2.2.2.2.2.2.1 zg_14_74_153.2.2.2.2.2.2.2.2.2.2.2.2.2.2.1 zg_14_74_153.2.2.2.2.2.2.2.2.2.2.2.2.2.2.2.1 (by decide), rfl, rfl⟩
theorem zd_14_74_163 : zz_D zy_convolved_14_74 163 (.iload 7) 2 165 := ⟨zq_21 zg_14_74_153.2.2.2.2.2.2.2.2.2.2.2.2.2.2.2.2.1 zg_14_74_153.2.2.2.2.2.2.2.2.2.2.2.2.2.2.2.2.2.1, rfl⟩
theorem zd_14_74_165 : zz_D zy_convolved_14_74 165 (.aload_n 0) 1 166 := ⟨zq_42 zg_14_74_153.2.2.2.2.2.2.2.2.2.2.2.2.2.2.2.2.2.2.1, rfl⟩
theorem zd_14_74_166 : zz_D zy_convolved_14_74 166 (.getfield 13) 3 169 := ⟨zq_180 zg_14_74_153.2.2.2.2.2.2.2.2.2.2.2.2.2.2.2.2.2.2.2.1 zg_14_74_153.2.2.2.2.2.2.2.2.2.2.2.2.2.2.2.2.2.2.2.2.1 zg_14_74_153.2.2.2.2.2.2.2.2.2.2.2.2.2.2.2.2.2.2.2.2.2.1 rfl, rfl⟩
theorem zd_14_74_169 : zz_D zy_convolved_14_74 169 (.aload_n 0) 1 170 := ⟨zq_42 zg_14_74_153.2.2.2.2.2.2.2.2.2.2.2.2.2.2.2.2.2.2.2.2.2.2, rfl⟩
theorem zg_14_74_170 : zq_at zy_convolved_14_74.2.1 170 180 ∧ zq_at zy_convolved_14_74.2.1 171 0 ∧ zq_at zy_convolved_14_74.2.1 172 124 ∧ zq_at zy_convolved_14_74.2.1 173 27 ∧ zq_at zy_convolved_14_74.2.1 174 46 ∧ zq_at zy_convolved_14_74.2.1 175 7 ∧ zq_at zy_convolved_14_74.2.1 176 21 ∧ zq_at zy_convolved_14_74.2.1 177 6 ∧ zq_at zy_convolved_14_74.2.1 178 104 ∧ zq_at zy_convolved_14_74.2.1 179 96 ∧ zq_at zy_convolved_14_74.2.1 180 21 ∧ zq_at zy_convolved_14_74.2.1 181 9 ∧ zq_at zy_convolved_14_74.2.1 182 21 ∧ zq_at zy_convolved_14_74.2.1 183 6 ∧ zq_at zy_convolved_14_74.2.1 184 104 ∧ zq_at zy_convolved_14_74.2.1 185 96 ∧ zq_at zy_convolved_14_74.2.1 186 21 ∧ zq_at zy_convolved_14_74.2.1 187 4 ∧ zq_at zy_convolved_14_74.2.1 188 96 ∧ zq_at zy_convolved_14_74.2.1 189 46 ∧ zq_at zy_convolved_14_74.2.1 190 42 ∧ zq_at zy_convolved_14_74.2.1 191 21 ∧ zq_at zy_convolved_14_74.2.1 192 5 := by decide +kernel
theorem zd_14_74_170 : zz_D zy_convolved_14_74 170 (.getfield 124) 3 173 := ⟨zq_180 zg_14_74_170.1 zg_14_74_170.2.1 zg_14_74_170.2.2.1 rfl, rfl⟩
theorem zd_14_74_173 : zz_D zy_convolved_14_74 173 (.iload_n 1) 1 174 := ⟨zq_27 zg_14_74_170.2.2.2.1, rfl⟩
theorem zd_14_74_174 : zz_D zy_convolved_14_74 174 (.iaload) 1 175 := ⟨zq_46 zg_14_74_170.2.2.2.2.1, rfl⟩
theorem zd_14_74_175 : zz_D zy_convolved_14_74 175 (.iconst 4) 1 176 := ⟨zq_7 zg_14_74_170.2.2.2.2.2.1, rfl⟩
theorem zd_14_74_176 : zz_D zy_convolved_14_74 176 (.iload 6) 2 178 := ⟨zq_21 zg_14_74_170.2.2.2.2.2.2.1 zg_14_74_170.2.2.2.2.2.2.2.1, rfl⟩
theorem zd_14_74_178 : zz_D zy_convolved_14_74 178 (.imul) 1 179 := ⟨zq_104 zg_14_74_170.2.2.2.2.2.2.2.2.1, rfl⟩
theorem zd_14_74_179 : zz_D zy_convolved_14_74 179 (.iadd) 1 180 := ⟨zq_96 zg_14_74_170.2.2.2.2.2.2.2.2.2.1, rfl⟩
theorem zd_14_74_180 : zz_D zy_convolved_14_74 180 (.iload 9) 2 182 := ⟨zq_21 zg_14_74_170.2.2.2.2.2.2.2.2.2.2.1 zg_14_74_170.2.2.2.2.2.2.2.2.2.2.2.1, rfl⟩
theorem zd_14_74_182 : zz_D zy_convolved_14_74 182 (.iload 6) 2 184 := ⟨zq_21 zg_14_74_170.2.2.2.2.2.2.2.2.2.2.2.2.1 zg_14_74_170.2.2.2.2.2.2.2.2.2.2.2.2.2.1, rfl⟩
theorem zd_14_74_184 : zz_D zy_convolved_14_74 184 (.imul) 1 185 := ⟨zq_104 zg_14_74_170.2.2.2.2.2.2.2.2.2.2.2.2.2.2.1, rfl⟩
theorem zd_14_74_185 : zz_D zy_convolved_14_74 185 (.iadd) 1 186 := ⟨zq_96 zg_14_74_170.2.2.2.2.2.2.2.2.2.2.2.2.2.2.2.1, rfl⟩
theorem zd_14_74_186 : zz_D zy_convolved_14_74 186 (.iload 4) 2 188 := ⟨zq_21 zg_14_74_170.2.2.2.2.2.2.2.2.2.2.2.2.2.2.2.2.1 zg_14_74_170.2.2.2.2.2.2.2.2.2.2.2.2.2.2.2.2.2.1, rfl⟩
theorem zd_14_74_188 : zz_D zy_convolved_14_74 188 (.iadd) 1 189 := ⟨zq_96 zg_14_74_170.2.2.2.2.2.2.2.2.2.2.2.2.2.2.2.2.2.2.1, rfl⟩
theorem zd_14_74_189 : zz_D zy_convolved_14_74 189 (.iaload) 1 190 := ⟨zq_46 zg_14_74_170.2.2.2.2.2.2.2.2.2.2.2.2.2.2.2.2.2.2.2.1, rfl⟩
theorem zd_14_74_190 : zz_D zy_convolved_14_74 190 (.aload_n 0) 1 191 := ⟨zq_42 zg_14_74_170.2.2.2.2.2.2.2.2.2.2.2.2.2.2.2.2.2.2.2.2.1, rfl⟩
theorem zd_14_74_191 : zz_D zy_convolved_14_74 191 (.iload 5) 2 193 := ⟨zq_21 zg_14_74_170.2.2.2.2.2.2.2.2.2.2.2.2.2.2.2.2.2.2.2.2.2.1 zg_14_74_170.2.2.2.2.2.2.2.2.2.2.2.2.2.2.2.2.2.2.2.2.2.2, rfl⟩
theorem zg_14_74_193 : zq_at zy_convolved_14_74.2.1 193 21 ∧ zq_at zy_convolved_14_74.2.1 194 11 ∧ zq_at zy_convolved_14_74.2.1 195 21 ∧ zq_at zy_convolved_14_74.2.1 196 12 ∧ zq_at zy_convolved_14_74.2.1 197 21 ∧ zq_at zy_convolved_14_74.2.1 198 10 ∧ zq_at zy_convolved_14_74.2.1 199 182 ∧ zq_at zy_convolved_14_74.2.1 200 1 ∧ zq_at zy_convolved_14_74.2.1 201 182 ∧ zq_at zy_convolved_14_74.2.1 202 104 ∧ zq_at zy_convolved_14_74.2.1 203 96 ∧ zq_at zy_convolved_14_74.2.1 204 54 ∧ zq_at zy_convolved_14_74.2.1 205 7 := by decide +kernel
theorem zd_14_74_193 : zz_D zy_convolved_14_74 193 (.iload 11) 2 195 := ⟨zq_21 zg_14_74_193.1 zg_14_74_193.2.1, rfl⟩
theorem zd_14_74_195 : zz_D zy_convolved_14_74 195 (.iload 12) 2 197 := ⟨zq_21 zg_14_74_193.2.2.1 zg_14_74_193.2.2.2.1, rfl⟩
theorem zd_14_74_197 : zz_D zy_convolved_14_74 197 (.iload 10) 2 199 := ⟨zq_21 zg_14_74_193.2.2.2.2.1 zg_14_74_193.2.2.2.2.2.1, rfl⟩
theorem zd_14_74_199 : zz_D zy_convolved_14_74 199 (.invokevirtual 438) 3 202 := ⟨zq_182 zg_14_74_193.2.2.2.2.2.2.1 zg_14_74_193.2.2.2.2.2.2.2.1 zg_14_74_193.2.2.2.2.2.2.2.2.1 rfl, rfl⟩
theorem zd_14_74_202 : zz_D zy_convolved_14_74 202 (.imul) 1 203 := ⟨zq_104 zg_14_74_193.2.2.2.2.2.2.2.2.2.1, rfl⟩
theorem zd_14_74_203 : zz_D zy_convolved_14_74 203 (.iadd) 1 204 := ⟨zq_96 zg_14_74_193.2.2.2.2.2.2.2.2.2.2.1, rfl⟩
theorem zd_14_74_204 : zz_D zy_convolved_14_74 204 (.istore 7) 2 206 := ⟨zq_54 zg_14_74_193.2.2.2.2.2.2.2.2.2.2.2.1 zg_14_74_193.2.2.2.2.2.2.2.2.2.2.2.2, rfl⟩

-- TensorForgeModel addition (III)I
abbrev zr_addition_14_70 : Room := { frames := 2, cells := 0, slots := 0, locals := 33 }
def zp_addition_14_70 (p0 : Int) (p1 : Int) (p2 : Int) (S0 : zz_S) : Int → zz_S → Prop := fun r S => zz_G S ∧ zz_fr [(1079, 0), (1079, 36)] [] (fun a i => (a = 1102 ∧ i = (S0 1079 36).toNat) ∨ (a = 1103 ∧ i = (S0 1079 36).toNat) ∨ (a = 1104 ∧ i = (S0 1079 36).toNat) ∨ (a = 1105 ∧ i = ((S0 1079 36) + 1).toNat) ∨ (a = 1106 ∧ i = ((S0 1079 36) - 1).toNat) ∨ (a = 1107 ∧ i = ((S0 1079 36) - 1).toNat) ∨ (a = 1108 ∧ i = ((S0 1079 36) - 1).toNat) ∨ (a = 1109 ∧ i = ((S0 1079 36) - 1).toNat) ∨ (a = 1110 ∧ i = ((S0 1079 36) - 1).toNat) ∨ (a = 1111 ∧ i = ((S0 1079 36) - 1).toNat) ∨ (a = 1112 ∧ i = ((S0 1079 36) - 1).toNat) ∨ (a = 1113 ∧ i = ((S0 1079 36) - 1).toNat)) S0 S ∧ (0 ≤ r ∧ r ≤ 10) ∧ (S 1079 36 ≥ S0 1079 36) ∧ (zz_Hr S)
theorem zc_addition_14_70 {g : mm_G} {l : Launch} (p0 : Int) (p1 : Int) (p2 : Int) (S0 : zz_S) (n : Nat) (hn : zz_end ≤ n) (G_S0 : zz_G S0) (hp0 : (-2147483648) ≤ p0 ∧ p0 ≤ 2147483647) (hp1 : (-2147483648) ≤ p1 ∧ p1 ≤ 2147483647) (hp2 : (-2147483648) ≤ p2 ∧ p2 ≤ 2147483647) (R_S0 : zz_Hr S0) : mm_Met g l zy_addition_14_70 zr_addition_14_70 [.ref 1079, zi p0, zi p1, zi p2] (zz_M S0 n) n (zz_QI n (zp_addition_14_70 p0 p1 p2 S0)) := by
  refine zz_enter (by decide) (Nat.le_of_ble_eq_true rfl) (zz_less (ls1 := [some (.ref 1079), some (zi p0), some (zi p1), some (zi p2)]) ⟨rfl, ⟨rfl, ⟨rfl, ⟨rfl, trivial⟩⟩⟩⟩ ?_)
  have F_S0 : zz_fr [(1079, 0), (1079, 36)] [] (fun a i => (a = 1102 ∧ i = (S0 1079 36).toNat) ∨ (a = 1103 ∧ i = (S0 1079 36).toNat) ∨ (a = 1104 ∧ i = (S0 1079 36).toNat) ∨ (a = 1105 ∧ i = ((S0 1079 36) + 1).toNat) ∨ (a = 1106 ∧ i = ((S0 1079 36) - 1).toNat) ∨ (a = 1107 ∧ i = ((S0 1079 36) - 1).toNat) ∨ (a = 1108 ∧ i = ((S0 1079 36) - 1).toNat) ∨ (a = 1109 ∧ i = ((S0 1079 36) - 1).toNat) ∨ (a = 1110 ∧ i = ((S0 1079 36) - 1).toNat) ∨ (a = 1111 ∧ i = ((S0 1079 36) - 1).toNat) ∨ (a = 1112 ∧ i = ((S0 1079 36) - 1).toNat) ∨ (a = 1113 ∧ i = ((S0 1079 36) - 1).toNat)) S0 S0 := zz_fr.refl
  refine zz_aload_n (x := 1079) rfl zd_14_70_0 ?_
  refine zz_iload_n (x := p0) rfl zd_14_70_1 ?_
  have g1 := zz_G.r G_S0 1079 36 0 11 rfl rfl
  refine zz_callVI [zi p0] zd_14_70_2 zk_Md_411 zT_1079 (zz_ltn hn rfl) rfl rfl ⟨Nat.le_of_ble_eq_true rfl, Nat.le_of_ble_eq_true rfl⟩ ⟨rfl, rfl⟩ (Nat.zero_le _) (Nat.zero_le _) (zc_isTensor_14_66 p0 S0 n hn G_S0 (by omega)) (fun v3 S2 hP => ?_)
  obtain ⟨rfl, o4, o5⟩ := hP
  rcases (by omega : v3 = 0 ∨ v3 = 1) with rfl | rfl
  · refine zz_if_eq (by omega) zd_14_70_5 (fun c6 => ?_) (fun c6 => ?_)
    · refine zz_aload_n (x := 1079) rfl zd_14_70_16 ?_
      refine zz_iconst zd_14_70_17 ?_
      refine zz_iconst zd_14_70_18 ?_
      refine zz_iconst zd_14_70_19 ?_
      refine zz_callVI [zi 1, zi 0, zi 0] zd_14_70_20 zk_Md_196 zT_1079 (zz_ltn hn rfl) rfl rfl ⟨Nat.le_of_ble_eq_true rfl, Nat.le_of_ble_eq_true rfl⟩ ⟨rfl, rfl⟩ (Nat.zero_le _) (Nat.zero_le _) (zc_refuse_14_3 1 0 0 S0 n hn G_S0 (by omega) (by omega) (by omega)) (fun v8 S7 hP => ?_)
      obtain ⟨G_S7, fS7, o9, o10⟩ := hP
      have F_S7 := zz_fr.trans F_S0 fS7 rfl zz_nv
      have R_S7 : zz_Hr S7 := zz_Hr.fr fS7 rfl rfl (fun b j h => h.elim) R_S0
      rcases (by omega : v8 = 0 ∨ v8 = 1) with rfl | rfl
      · exfalso; omega
      · have e11 : S7 1079 0 = 1 := by omega
        clear o10
        refine zz_pop rfl zd_14_70_23 ?_
        refine zz_iconst zd_14_70_24 ?_
        have e12 : S7 1079 36 = S0 1079 36 := (zz_rc fS7 rfl rfl (fun h => h) rfl)
        exact zz_iret zd_14_70_25 rfl (Nat.zero_le _) (Nat.zero_le _) ⟨_, _, rfl, G_S7, F_S7, by omega, by omega, R_S7⟩
    · exfalso; omega
  · refine zz_if_eq (by omega) zd_14_70_5 (fun c13 => ?_) (fun c13 => ?_)
    · exfalso; omega
    · refine zz_aload_n (x := 1079) rfl zd_14_70_8 ?_
      refine zz_iload_n (x := p1) rfl zd_14_70_9 ?_
      refine zz_callVI [zi p1] zd_14_70_10 zk_Md_411 zT_1079 (zz_ltn hn rfl) rfl rfl ⟨Nat.le_of_ble_eq_true rfl, Nat.le_of_ble_eq_true rfl⟩ ⟨rfl, rfl⟩ (Nat.zero_le _) (Nat.zero_le _) (zc_isTensor_14_66 p1 S0 n hn G_S0 (by omega)) (fun v15 S14 hP => ?_)
      obtain ⟨rfl, o16, o17⟩ := hP
      rcases (by omega : v15 = 0 ∨ v15 = 1) with rfl | rfl
      · refine zz_if_ne (by omega) zd_14_70_13 (fun c18 => ?_) (fun c18 => ?_)
        · exfalso; omega
        · refine zz_aload_n (x := 1079) rfl zd_14_70_16 ?_
          refine zz_iconst zd_14_70_17 ?_
          refine zz_iconst zd_14_70_18 ?_
          refine zz_iconst zd_14_70_19 ?_
          refine zz_callVI [zi 1, zi 0, zi 0] zd_14_70_20 zk_Md_196 zT_1079 (zz_ltn hn rfl) rfl rfl ⟨Nat.le_of_ble_eq_true rfl, Nat.le_of_ble_eq_true rfl⟩ ⟨rfl, rfl⟩ (Nat.zero_le _) (Nat.zero_le _) (zc_refuse_14_3 1 0 0 S0 n hn G_S0 (by omega) (by omega) (by omega)) (fun v20 S19 hP => ?_)
          obtain ⟨G_S19, fS19, o21, o22⟩ := hP
          have F_S19 := zz_fr.trans F_S0 fS19 rfl zz_nv
          have R_S19 : zz_Hr S19 := zz_Hr.fr fS19 rfl rfl (fun b j h => h.elim) R_S0
          rcases (by omega : v20 = 0 ∨ v20 = 1) with rfl | rfl
          · exfalso; omega
          · have e23 : S19 1079 0 = 1 := by omega
            clear o22
            refine zz_pop rfl zd_14_70_23 ?_
            refine zz_iconst zd_14_70_24 ?_
            have e24 : S19 1079 36 = S0 1079 36 := (zz_rc fS19 rfl rfl (fun h => h) rfl)
            exact zz_iret zd_14_70_25 rfl (Nat.zero_le _) (Nat.zero_le _) ⟨_, _, rfl, G_S19, F_S19, by omega, by omega, R_S19⟩
      · refine zz_if_ne (by omega) zd_14_70_13 (fun c25 => ?_) (fun c25 => ?_)
        · refine zz_aload_n (x := 1079) rfl zd_14_70_26 ?_
          refine zz_getr (kd := 0) (z := 1102) zd_14_70_27 zf_Md_88 zT_1079 rfl (zz_ltn hn rfl) (zz_G.eq G_S0 1079 37 1102 rfl rfl) (by decide) 1102 rfl ?_
          refine zz_iload_n (x := p0) rfl zd_14_70_30 ?_
          have g26 := zz_G.r G_S0 1102 p0.toNat 0 63 rfl rfl
          refine zz_iald (z := S0 1102 p0.toNat) zd_14_70_31 zT_1102 rfl (zz_ltn hn rfl) (by decide) (by omega) rfl ?_
          refine zz_aload_n (x := 1079) rfl zd_14_70_32 ?_
          refine zz_getr (kd := 0) (z := 1102) zd_14_70_33 zf_Md_88 zT_1079 rfl (zz_ltn hn rfl) (zz_G.eq G_S0 1079 37 1102 rfl rfl) (by decide) 1102 rfl ?_
          refine zz_iload_n (x := p1) rfl zd_14_70_36 ?_
          have g27 := zz_G.r G_S0 1102 p1.toNat 0 63 rfl rfl
          refine zz_iald (z := S0 1102 p1.toNat) zd_14_70_37 zT_1102 rfl (zz_ltn hn rfl) (by decide) (by omega) rfl ?_
          refine zz_icmp_ne (by omega) (by omega) zd_14_70_38 (fun c28 => ?_) (fun c28 => ?_)
          · refine zz_iconst zd_14_70_75 ?_
            refine zz_istore [some (.ref 1079), some (zi p0), some (zi p1), some (zi p2), some (zi 0)] zd_14_70_76 (by decide) rfl ?_
            refine zz_aload_n (x := 1079) rfl zd_14_70_78 ?_
            refine zz_iconst zd_14_70_79 ?_
            refine zz_iload (x := 0) rfl zd_14_70_80 ?_
            refine zz_if_eq (by omega) zd_14_70_82 (fun c29 => ?_) (fun c29 => ?_)
            · refine zz_iconst zd_14_70_97 ?_
              refine zz_goto zd_14_70_98 ?_
              refine zz_iconst zd_14_70_102 ?_
              refine zz_callVI [zi 0, zi 1, zi 0] zd_14_70_103 zk_Md_196 zT_1079 (zz_ltn hn rfl) rfl rfl ⟨Nat.le_of_ble_eq_true rfl, Nat.le_of_ble_eq_true rfl⟩ ⟨rfl, rfl⟩ (Nat.zero_le _) (Nat.zero_le _) (zc_refuse_14_3 0 1 0 S0 n hn G_S0 (by omega) (by omega) (by omega)) (fun v31 S30 hP => ?_)
              obtain ⟨G_S30, fS30, o32, o33⟩ := hP
              have F_S30 := zz_fr.trans F_S0 fS30 rfl zz_nv
              have R_S30 : zz_Hr S30 := zz_Hr.fr fS30 rfl rfl (fun b j h => h.elim) R_S0
              rcases (by omega : v31 = 0 ∨ v31 = 1) with rfl | rfl
              · exfalso; omega
              · have e34 : S30 1079 0 = 2 := by omega
                clear o33
                refine zz_if_eq (by omega) zd_14_70_106 (fun c35 => ?_) (fun c35 => ?_)
                · exfalso; omega
                · refine zz_iconst zd_14_70_109 ?_
                  have e36 : S30 1079 36 = S0 1079 36 := (zz_rc fS30 rfl rfl (fun h => h) rfl)
                  exact zz_iret zd_14_70_110 rfl (Nat.zero_le _) (Nat.zero_le _) ⟨_, _, rfl, G_S30, F_S30, by omega, by omega, R_S30⟩
            · exfalso; omega
          · refine zz_aload_n (x := 1079) rfl zd_14_70_41 ?_
            refine zz_getr (kd := 0) (z := 1103) zd_14_70_42 zf_Md_91 zT_1079 rfl (zz_ltn hn rfl) (zz_G.eq G_S0 1079 38 1103 rfl rfl) (by decide) 1103 rfl ?_
            refine zz_iload_n (x := p0) rfl zd_14_70_45 ?_
            have g37 := zz_G.r G_S0 1103 p0.toNat 0 63 rfl rfl
            refine zz_iald (z := S0 1103 p0.toNat) zd_14_70_46 zT_1103 rfl (zz_ltn hn rfl) (by decide) (by omega) rfl ?_
            refine zz_aload_n (x := 1079) rfl zd_14_70_47 ?_
            refine zz_getr (kd := 0) (z := 1103) zd_14_70_48 zf_Md_91 zT_1079 rfl (zz_ltn hn rfl) (zz_G.eq G_S0 1079 38 1103 rfl rfl) (by decide) 1103 rfl ?_
            refine zz_iload_n (x := p1) rfl zd_14_70_51 ?_
            have g38 := zz_G.r G_S0 1103 p1.toNat 0 63 rfl rfl
            refine zz_iald (z := S0 1103 p1.toNat) zd_14_70_52 zT_1103 rfl (zz_ltn hn rfl) (by decide) (by omega) rfl ?_
            refine zz_icmp_ne (by omega) (by omega) zd_14_70_53 (fun c39 => ?_) (fun c39 => ?_)
            · refine zz_iconst zd_14_70_75 ?_
              refine zz_istore [some (.ref 1079), some (zi p0), some (zi p1), some (zi p2), some (zi 0)] zd_14_70_76 (by decide) rfl ?_
              refine zz_aload_n (x := 1079) rfl zd_14_70_78 ?_
              refine zz_iconst zd_14_70_79 ?_
              refine zz_iload (x := 0) rfl zd_14_70_80 ?_
              refine zz_if_eq (by omega) zd_14_70_82 (fun c40 => ?_) (fun c40 => ?_)
              · refine zz_iconst zd_14_70_97 ?_
                refine zz_goto zd_14_70_98 ?_
                refine zz_iconst zd_14_70_102 ?_
                refine zz_callVI [zi 0, zi 1, zi 0] zd_14_70_103 zk_Md_196 zT_1079 (zz_ltn hn rfl) rfl rfl ⟨Nat.le_of_ble_eq_true rfl, Nat.le_of_ble_eq_true rfl⟩ ⟨rfl, rfl⟩ (Nat.zero_le _) (Nat.zero_le _) (zc_refuse_14_3 0 1 0 S0 n hn G_S0 (by omega) (by omega) (by omega)) (fun v42 S41 hP => ?_)
                obtain ⟨G_S41, fS41, o43, o44⟩ := hP
                have F_S41 := zz_fr.trans F_S0 fS41 rfl zz_nv
                have R_S41 : zz_Hr S41 := zz_Hr.fr fS41 rfl rfl (fun b j h => h.elim) R_S0
                rcases (by omega : v42 = 0 ∨ v42 = 1) with rfl | rfl
                · exfalso; omega
                · have e45 : S41 1079 0 = 2 := by omega
                  clear o44
                  refine zz_if_eq (by omega) zd_14_70_106 (fun c46 => ?_) (fun c46 => ?_)
                  · exfalso; omega
                  · refine zz_iconst zd_14_70_109 ?_
                    have e47 : S41 1079 36 = S0 1079 36 := (zz_rc fS41 rfl rfl (fun h => h) rfl)
                    exact zz_iret zd_14_70_110 rfl (Nat.zero_le _) (Nat.zero_le _) ⟨_, _, rfl, G_S41, F_S41, by omega, by omega, R_S41⟩
              · exfalso; omega
            · refine zz_aload_n (x := 1079) rfl zd_14_70_56 ?_
              refine zz_getr (kd := 0) (z := 1104) zd_14_70_57 zf_Md_94 zT_1079 rfl (zz_ltn hn rfl) (zz_G.eq G_S0 1079 39 1104 rfl rfl) (by decide) 1104 rfl ?_
              refine zz_iload_n (x := p0) rfl zd_14_70_60 ?_
              have g48 := zz_G.r G_S0 1104 p0.toNat 0 63 rfl rfl
              refine zz_iald (z := S0 1104 p0.toNat) zd_14_70_61 zT_1104 rfl (zz_ltn hn rfl) (by decide) (by omega) rfl ?_
              refine zz_aload_n (x := 1079) rfl zd_14_70_62 ?_
              refine zz_getr (kd := 0) (z := 1104) zd_14_70_63 zf_Md_94 zT_1079 rfl (zz_ltn hn rfl) (zz_G.eq G_S0 1079 39 1104 rfl rfl) (by decide) 1104 rfl ?_
              refine zz_iload_n (x := p1) rfl zd_14_70_66 ?_
              have g49 := zz_G.r G_S0 1104 p1.toNat 0 63 rfl rfl
              refine zz_iald (z := S0 1104 p1.toNat) zd_14_70_67 zT_1104 rfl (zz_ltn hn rfl) (by decide) (by omega) rfl ?_
              refine zz_icmp_ne (by omega) (by omega) zd_14_70_68 (fun c50 => ?_) (fun c50 => ?_)
              · refine zz_iconst zd_14_70_75 ?_
                refine zz_istore [some (.ref 1079), some (zi p0), some (zi p1), some (zi p2), some (zi 0)] zd_14_70_76 (by decide) rfl ?_
                refine zz_aload_n (x := 1079) rfl zd_14_70_78 ?_
                refine zz_iconst zd_14_70_79 ?_
                refine zz_iload (x := 0) rfl zd_14_70_80 ?_
                refine zz_if_eq (by omega) zd_14_70_82 (fun c51 => ?_) (fun c51 => ?_)
                · refine zz_iconst zd_14_70_97 ?_
                  refine zz_goto zd_14_70_98 ?_
                  refine zz_iconst zd_14_70_102 ?_
                  refine zz_callVI [zi 0, zi 1, zi 0] zd_14_70_103 zk_Md_196 zT_1079 (zz_ltn hn rfl) rfl rfl ⟨Nat.le_of_ble_eq_true rfl, Nat.le_of_ble_eq_true rfl⟩ ⟨rfl, rfl⟩ (Nat.zero_le _) (Nat.zero_le _) (zc_refuse_14_3 0 1 0 S0 n hn G_S0 (by omega) (by omega) (by omega)) (fun v53 S52 hP => ?_)
                  obtain ⟨G_S52, fS52, o54, o55⟩ := hP
                  have F_S52 := zz_fr.trans F_S0 fS52 rfl zz_nv
                  have R_S52 : zz_Hr S52 := zz_Hr.fr fS52 rfl rfl (fun b j h => h.elim) R_S0
                  rcases (by omega : v53 = 0 ∨ v53 = 1) with rfl | rfl
                  · exfalso; omega
                  · have e56 : S52 1079 0 = 2 := by omega
                    clear o55
                    refine zz_if_eq (by omega) zd_14_70_106 (fun c57 => ?_) (fun c57 => ?_)
                    · exfalso; omega
                    · refine zz_iconst zd_14_70_109 ?_
                      have e58 : S52 1079 36 = S0 1079 36 := (zz_rc fS52 rfl rfl (fun h => h) rfl)
                      exact zz_iret zd_14_70_110 rfl (Nat.zero_le _) (Nat.zero_le _) ⟨_, _, rfl, G_S52, F_S52, by omega, by omega, R_S52⟩
                · exfalso; omega
              · refine zz_iconst zd_14_70_71 ?_
                refine zz_goto zd_14_70_72 ?_
                refine zz_istore [some (.ref 1079), some (zi p0), some (zi p1), some (zi p2), some (zi 1)] zd_14_70_76 (by decide) rfl ?_
                refine zz_aload_n (x := 1079) rfl zd_14_70_78 ?_
                refine zz_iconst zd_14_70_79 ?_
                refine zz_iload (x := 1) rfl zd_14_70_80 ?_
                refine zz_if_eq (by omega) zd_14_70_82 (fun c59 => ?_) (fun c59 => ?_)
                · exfalso; omega
                · refine zz_iload_n (x := p2) rfl zd_14_70_85 ?_
                  refine zz_i2l (by omega) zd_14_70_86 ?_
                  refine zz_lconst (z := 0) (by decide) zd_14_70_87 ?_
                  refine zz_ldc2 (z := 31) zq_Md_357 (by decide) zd_14_70_88 ?_
                  refine zz_callSI [zl p2, zl 0, zl 31] zd_14_70_91 zk_Md_192 rfl rfl ⟨Nat.le_of_ble_eq_true rfl, Nat.le_of_ble_eq_true rfl⟩ ⟨rfl, rfl⟩ (Nat.zero_le _) (Nat.zero_le _) (zc_in_14_4 p2 0 31 S0 n hn G_S0 (by omega) (by omega) (by omega)) (fun v61 S60 hP => ?_)
                  obtain ⟨rfl, o62, o63⟩ := hP
                  rcases (by omega : v61 = 0 ∨ v61 = 1) with rfl | rfl
                  · have n64 : p2 < 0 ∨ 31 < p2 := by omega
                    clear o63
                    refine zz_if_ne (by omega) zd_14_70_94 (fun c65 => ?_) (fun c65 => ?_)
                    · exfalso; omega
                    · refine zz_iconst zd_14_70_97 ?_
                      refine zz_goto zd_14_70_98 ?_
                      refine zz_iconst zd_14_70_102 ?_
                      refine zz_callVI [zi 0, zi 1, zi 0] zd_14_70_103 zk_Md_196 zT_1079 (zz_ltn hn rfl) rfl rfl ⟨Nat.le_of_ble_eq_true rfl, Nat.le_of_ble_eq_true rfl⟩ ⟨rfl, rfl⟩ (Nat.zero_le _) (Nat.zero_le _) (zc_refuse_14_3 0 1 0 S0 n hn G_S0 (by omega) (by omega) (by omega)) (fun v67 S66 hP => ?_)
                      obtain ⟨G_S66, fS66, o68, o69⟩ := hP
                      have F_S66 := zz_fr.trans F_S0 fS66 rfl zz_nv
                      have R_S66 : zz_Hr S66 := zz_Hr.fr fS66 rfl rfl (fun b j h => h.elim) R_S0
                      rcases (by omega : v67 = 0 ∨ v67 = 1) with rfl | rfl
                      · exfalso; omega
                      · have e70 : S66 1079 0 = 2 := by omega
                        clear o69
                        refine zz_if_eq (by omega) zd_14_70_106 (fun c71 => ?_) (fun c71 => ?_)
                        · exfalso; omega
                        · refine zz_iconst zd_14_70_109 ?_
                          have e72 : S66 1079 36 = S0 1079 36 := (zz_rc fS66 rfl rfl (fun h => h) rfl)
                          exact zz_iret zd_14_70_110 rfl (Nat.zero_le _) (Nat.zero_le _) ⟨_, _, rfl, G_S66, F_S66, by omega, by omega, R_S66⟩
                  · have n73 : 0 ≤ p2 ∧ p2 ≤ 31 := by omega
                    clear o63
                    refine zz_if_ne (by omega) zd_14_70_94 (fun c74 => ?_) (fun c74 => ?_)
                    · refine zz_iconst zd_14_70_101 ?_
                      refine zz_iconst zd_14_70_102 ?_
                      refine zz_callVI [zi 0, zi 0, zi 0] zd_14_70_103 zk_Md_196 zT_1079 (zz_ltn hn rfl) rfl rfl ⟨Nat.le_of_ble_eq_true rfl, Nat.le_of_ble_eq_true rfl⟩ ⟨rfl, rfl⟩ (Nat.zero_le _) (Nat.zero_le _) (zc_refuse_14_3 0 0 0 S0 n hn G_S0 (by omega) (by omega) (by omega)) (fun v76 S75 hP => ?_)
                      obtain ⟨G_S75, fS75, o77, o78⟩ := hP
                      have F_S75 := zz_fr.trans F_S0 fS75 rfl zz_nv
                      have R_S75 : zz_Hr S75 := zz_Hr.fr fS75 rfl rfl (fun b j h => h.elim) R_S0
                      rcases (by omega : v76 = 0 ∨ v76 = 1) with rfl | rfl
                      · have e79 : S75 1079 0 = 0 := by omega
                        clear o78
                        refine zz_if_eq (by omega) zd_14_70_106 (fun c80 => ?_) (fun c80 => ?_)
                        · refine zz_aload_n (x := 1079) rfl zd_14_70_111 ?_
                          refine zz_geti (z := S0 1079 36) zd_14_70_112 zf_Md_85 zT_1079 rfl (zz_ltn hn rfl) (zz_rc fS75 rfl rfl (fun h => h) rfl) ?_
                          refine zz_iconst zd_14_70_115 ?_
                          refine zz_isub zd_14_70_116 ?_
                          refine zz_istore [some (.ref 1079), some (zi p0), some (zi p1), some (zi p2), some (zi 1), some (zi ((S0 1079 36) - 1))] zd_14_70_117 (by decide) rfl ?_
                          refine zz_aload_n (x := 1079) rfl zd_14_70_119 ?_
                          refine zz_iconst zd_14_70_120 ?_
                          refine zz_iload_n (x := p0) rfl zd_14_70_121 ?_
                          refine zz_aload_n (x := 1079) rfl zd_14_70_122 ?_
                          refine zz_getr (kd := 0) (z := 1102) zd_14_70_123 zf_Md_88 zT_1079 rfl (zz_ltn hn rfl) (zz_G.eq G_S75 1079 37 1102 rfl rfl) (by decide) 1102 rfl ?_
                          refine zz_iload_n (x := p0) rfl zd_14_70_126 ?_
                          refine zz_iald (z := S0 1102 p0.toNat) zd_14_70_127 zT_1102 rfl (zz_ltn hn rfl) (by decide) (by omega) (zz_rc fS75 (zz_nc1 rfl) rfl (fun h => h) rfl) ?_
                          refine zz_aload_n (x := 1079) rfl zd_14_70_128 ?_
                          refine zz_getr (kd := 0) (z := 1103) zd_14_70_129 zf_Md_91 zT_1079 rfl (zz_ltn hn rfl) (zz_G.eq G_S75 1079 38 1103 rfl rfl) (by decide) 1103 rfl ?_
                          refine zz_iload_n (x := p0) rfl zd_14_70_132 ?_
                          refine zz_iald (z := S0 1103 p0.toNat) zd_14_70_133 zT_1103 rfl (zz_ltn hn rfl) (by decide) (by omega) (zz_rc fS75 (zz_nc1 rfl) rfl (fun h => h) rfl) ?_
                          refine zz_aload_n (x := 1079) rfl zd_14_70_134 ?_
                          refine zz_getr (kd := 0) (z := 1104) zd_14_70_135 zf_Md_94 zT_1079 rfl (zz_ltn hn rfl) (zz_G.eq G_S75 1079 39 1104 rfl rfl) (by decide) 1104 rfl ?_
                          refine zz_iload_n (x := p0) rfl zd_14_70_138 ?_
                          refine zz_iald (z := S0 1104 p0.toNat) zd_14_70_139 zT_1104 rfl (zz_ltn hn rfl) (by decide) (by omega) (zz_rc fS75 (zz_nc1 rfl) rfl (fun h => h) rfl) ?_
                          have e81 : S75 1079 36 = S0 1079 36 := (zz_rc fS75 rfl rfl (fun h => h) rfl)
                          have g82 := zz_G.r G_S0 1105 ((S75 1079 36).toNat) (0) (if (S75 1079 36).toNat = 0 then 0 else 10000000) rfl rfl
                          have e83 : S75 1105 (S75 1079 36).toNat = S0 1105 (S75 1079 36).toNat := (zz_rc fS75 (zz_nc1 rfl) rfl (fun h => h) rfl)
                          refine zz_callVI [zi 2, zi p0, zi (S0 1102 p0.toNat), zi (S0 1103 p0.toNat), zi (S0 1104 p0.toNat)] zd_14_70_140 zk_Md_426 zT_1079 (zz_ltn hn rfl) rfl rfl ⟨Nat.le_of_ble_eq_true rfl, Nat.le_of_ble_eq_true rfl⟩ ⟨rfl, rfl⟩ (Nat.zero_le _) (Nat.zero_le _) (zc_add_14_65 2 p0 (S0 1102 p0.toNat) (S0 1103 p0.toNat) (S0 1104 p0.toNat) S75 n hn G_S75 (by omega) (by omega) (by omega) (by omega) (by omega) (by omega)) (fun v85 S84 hP => ?_)
                          obtain ⟨G_S84, fS84, o86, o87, o88, o89⟩ := hP
                          rw [show S75 1079 36 = S0 1079 36 from (zz_rc fS75 rfl rfl (fun h => h) rfl)] at o87
                          rw [show S75 1079 36 = S0 1079 36 from (zz_rc fS75 rfl rfl (fun h => h) rfl)] at o89
                          rw [show S75 1079 36 = S0 1079 36 from (zz_rc fS75 rfl rfl (fun h => h) rfl)] at fS84
                          have F_S84 := zz_fr.trans F_S75 fS84 rfl (fun a i h => by rcases h with h | h | h | h | h | h; exact Or.inr (Or.inr (Or.inl h)); exact Or.inr (Or.inr (Or.inr (Or.inl h))); exact Or.inr (Or.inr (Or.inr (Or.inr (Or.inl h)))); exact Or.inr (Or.inr (Or.inr (Or.inr (Or.inr (Or.inl h))))); exact Or.inr (Or.inr (Or.inr (Or.inr (Or.inr (Or.inr (Or.inl h)))))); exact Or.inr (Or.inr (Or.inr (Or.inr (Or.inr (Or.inr (Or.inr (Or.inl h))))))))
                          refine zz_istore [some (.ref 1079), some (zi p0), some (zi p1), some (zi p2), some (zi 1), some (zi ((S0 1079 36) - 1)), some (zi v85)] zd_14_70_143 (by decide) rfl ?_
                          refine zz_aload_n (x := 1079) rfl zd_14_70_145 ?_
                          have g90 := zz_G.r G_S84 1079 0 0 3 rfl rfl
                          refine zz_geti (z := S84 1079 0) zd_14_70_146 zf_Md_187 zT_1079 rfl (zz_ltn hn rfl) rfl ?_
                          refine zz_if_le (by omega) zd_14_70_149 (fun c91 => ?_) (fun c91 => ?_)
                          · refine zz_aload_n (x := 1079) rfl zd_14_70_154 ?_
                            refine zz_getr (kd := 0) (z := 1108) zd_14_70_155 zf_Md_106 zT_1079 rfl (zz_ltn hn rfl) (zz_G.eq G_S84 1079 43 1108 rfl rfl) (by decide) 1108 rfl ?_
                            refine zz_iload (x := (S0 1079 36) - 1) rfl zd_14_70_158 ?_
                            refine zz_iload_n (x := p1) rfl zd_14_70_160 ?_
                            refine zz_iast zd_14_70_161 zT_1108 rfl (zz_ltn hn rfl) (by decide) (by omega) (fun S92 qS92 => ?_)
                            have G_S92 := zz_G.put G_S84 qS92 0 10 rfl (by omega)
                            have F_S92 := zz_fr.putv F_S84 qS92 (Or.inr (Or.inr (Or.inr (Or.inr (Or.inr (Or.inr (Or.inl ⟨rfl, rfl⟩)))))))
                            refine zz_aload_n (x := 1079) rfl zd_14_70_162 ?_
                            refine zz_iload (x := (S0 1079 36) - 1) rfl zd_14_70_163 ?_
                            refine zz_iconst zd_14_70_165 ?_
                            refine zz_iconst zd_14_70_166 ?_
                            refine zz_iconst zd_14_70_167 ?_
                            refine zz_iconst zd_14_70_168 ?_
                            refine zz_iload_n (x := p2) rfl zd_14_70_169 ?_
                            refine zz_callVV [zi ((S0 1079 36) - 1), zi 1, zi 1, zi 1, zi 0, zi p2] zd_14_70_170 zk_Md_430 zT_1079 (zz_ltn hn rfl) rfl rfl ⟨Nat.le_of_ble_eq_true rfl, Nat.le_of_ble_eq_true rfl⟩ ⟨rfl, rfl⟩ (Nat.zero_le _) (Nat.zero_le _) (zc_setLayer_14_68 ((S0 1079 36) - 1) 1 1 1 0 p2 S92 n hn G_S92 (by omega) (by omega) (by omega) (by omega) (by omega) (by omega)) (fun S93 hP => ?_)
                            obtain ⟨G_S93, fS93, o95⟩ := hP
                            have F_S93 := zz_fr.trans F_S92 fS93 rfl (fun a i h => by rcases h with h | h | h | h | h; exact Or.inr (Or.inr (Or.inr (Or.inr (Or.inr (Or.inr (Or.inr (Or.inr (Or.inr (Or.inl h))))))))); exact Or.inr (Or.inr (Or.inr (Or.inr (Or.inr (Or.inr (Or.inr (Or.inr (Or.inr (Or.inr (Or.inl h)))))))))); exact Or.inr (Or.inr (Or.inr (Or.inr (Or.inr (Or.inr (Or.inr (Or.inr (Or.inr (Or.inr (Or.inr (Or.inl h))))))))))); exact Or.inr (Or.inr (Or.inr (Or.inr (Or.inr (Or.inr (Or.inr (Or.inr (Or.inr (Or.inr (Or.inr (Or.inr (Or.inl h)))))))))))); exact Or.inr (Or.inr (Or.inr (Or.inr (Or.inr (Or.inr (Or.inr (Or.inr (Or.inr (Or.inr (Or.inr (Or.inr (Or.inr (h))))))))))))))
                            refine zz_iload (x := v85) rfl zd_14_70_173 ?_
                            have g96 := zz_G.r G_S84 1079 36 0 11 rfl rfl
                            have e97 : S93 1079 36 = S84 1079 36 := (zz_rc fS93 rfl rfl (by omega) (zz_ro qS92 (fun h => absurd h.1 (by decide)) rfl))
                            have ha9 := o89 (by omega)
                            have ht9 := R_S0.1 p0.toNat (by omega)
                            unfold zz_tn at ht9
                            have g98 := zz_G.r G_S0 1105 ((S0 1079 36).toNat) (0) (if (S0 1079 36).toNat = 0 then 0 else 10000000) rfl rfl
                            have e99 : S75 1105 (S0 1079 36).toNat = S0 1105 (S0 1079 36).toNat := (zz_rc fS75 (zz_nc1 rfl) rfl (fun h => h) rfl)
                            have g100 := zz_G.r G_S84 1102 ((S0 1079 36).toNat) 0 63 rfl rfl
                            have e101 : S93 1102 (S0 1079 36).toNat = S84 1102 (S0 1079 36).toNat := (zz_rc fS93 (zz_nc1 rfl) rfl (by omega) (zz_ro qS92 (fun h => absurd h.1 (by decide)) rfl))
                            have g102 := zz_G.r G_S84 1103 ((S0 1079 36).toNat) 0 63 rfl rfl
                            have e103 : S93 1103 (S0 1079 36).toNat = S84 1103 (S0 1079 36).toNat := (zz_rc fS93 (zz_nc1 rfl) rfl (by omega) (zz_ro qS92 (fun h => absurd h.1 (by decide)) rfl))
                            have g104 := zz_G.r G_S84 1104 ((S0 1079 36).toNat) 0 63 rfl rfl
                            have e105 : S93 1104 (S0 1079 36).toNat = S84 1104 (S0 1079 36).toNat := (zz_rc fS93 (zz_nc1 rfl) rfl (by omega) (zz_ro qS92 (fun h => absurd h.1 (by decide)) rfl))
                            have g106 := zz_G.r G_S84 1105 ((S0 1079 36).toNat) (0) (if (S0 1079 36).toNat = 0 then 0 else 10000000) rfl rfl
                            have e107 : S93 1105 (S0 1079 36).toNat = S84 1105 (S0 1079 36).toNat := (zz_rc fS93 (zz_nc1 rfl) rfl (by omega) (zz_ro qS92 (fun h => absurd h.1 (by decide)) rfl))
                            have g108 := zz_G.r G_S84 1106 ((S0 1079 36 - 1).toNat) 0 2 rfl rfl
                            have e109 : S93 1106 (S0 1079 36 - 1).toNat = S84 1106 (S0 1079 36 - 1).toNat := (zz_rc fS93 (zz_nc1 rfl) rfl (by omega) (zz_ro qS92 (fun h => absurd h.1 (by decide)) rfl))
                            have g110 := zz_G.r G_S84 1107 ((S0 1079 36 - 1).toNat) 0 10 rfl rfl
                            have e111 : S93 1107 (S0 1079 36 - 1).toNat = S84 1107 (S0 1079 36 - 1).toNat := (zz_rc fS93 (zz_nc1 rfl) rfl (by omega) (zz_ro qS92 (fun h => absurd h.1 (by decide)) rfl))
                            have e112 : S93 1108 (S0 1079 36 - 1).toNat = p1 := (zz_rc fS93 (zz_nc1 rfl) rfl (by omega) (zz_rs qS92))
                            have g113 := zz_G.r G_S93 1109 ((S0 1079 36 - 1).toNat) 0 3 rfl rfl
                            have g114 := zz_G.r G_S93 1110 ((S0 1079 36 - 1).toNat) 0 3 rfl rfl
                            have g115 := zz_G.r G_S93 1111 ((S0 1079 36 - 1).toNat) 0 3 rfl rfl
                            have g116 := zz_G.r G_S0 1114 ((S0 1079 36 - 1).toNat) 0 4096 rfl rfl
                            have e117 : S93 1114 (S0 1079 36 - 1).toNat = S0 1114 (S0 1079 36 - 1).toNat := (zz_rc fS93 (zz_nc1 rfl) rfl (by omega) (zz_ro qS92 (fun h => absurd h.1 (by decide)) (zz_rc fS84 (zz_nc1 rfl) rfl (by omega) (zz_rc fS75 (zz_nc1 rfl) rfl (fun h => h) rfl))))
                            exact zz_iret zd_14_70_175 rfl (Nat.zero_le _) (Nat.zero_le _) ⟨_, _, rfl, G_S93, F_S93, by omega, by omega, (zz_Hr.add (T := (S0 1079 36).toNat) (l := (S0 1079 36 - 1).toNat) F_S93 rfl rfl (fun a i h => by omega) R_S0 (by omega) (by omega) (by omega) (by unfold zz_tn zz_sz; rw [show S93 1102 (S0 1079 36).toNat = S0 1102 p0.toNat by omega, show S93 1103 (S0 1079 36).toNat = S0 1103 p0.toNat by omega, show S93 1104 (S0 1079 36).toNat = S0 1104 p0.toNat by omega, show S93 1105 (S0 1079 36).toNat = S0 1105 (S0 1079 36).toNat by omega]; omega) (by unfold zz_la; rw [show S93 1106 (S0 1079 36 - 1).toNat = 2 by omega, show S93 1107 (S0 1079 36 - 1).toNat = p0 by omega, show S93 1108 (S0 1079 36 - 1).toNat = p1 by omega, show S93 1102 ((S0 1079 36 - 1).toNat + 1) = S0 1102 p0.toNat by rw [show (S0 1079 36 - 1).toNat + 1 = (S0 1079 36).toNat by omega]; omega, show S93 1103 ((S0 1079 36 - 1).toNat + 1) = S0 1103 p0.toNat by rw [show (S0 1079 36 - 1).toNat + 1 = (S0 1079 36).toNat by omega]; omega, show S93 1104 ((S0 1079 36 - 1).toNat + 1) = S0 1104 p0.toNat by rw [show (S0 1079 36 - 1).toNat + 1 = (S0 1079 36).toNat by omega]; omega, show S93 1102 p0.toNat = S0 1102 p0.toNat from F_S93 1102 p0.toNat (zz_nc1 rfl) rfl (by omega), show S93 1103 p0.toNat = S0 1103 p0.toNat from F_S93 1103 p0.toNat (zz_nc1 rfl) rfl (by omega), show S93 1104 p0.toNat = S0 1104 p0.toNat from F_S93 1104 p0.toNat (zz_nc1 rfl) rfl (by omega), show S93 1102 p1.toNat = S0 1102 p1.toNat from F_S93 1102 p1.toNat (zz_nc1 rfl) rfl (by omega), show S93 1103 p1.toNat = S0 1103 p1.toNat from F_S93 1103 p1.toNat (zz_nc1 rfl) rfl (by omega), show S93 1104 p1.toNat = S0 1104 p1.toNat from F_S93 1104 p1.toNat (zz_nc1 rfl) rfl (by omega)]; exact ⟨by omega, fun h => absurd h (by decide), fun h => absurd h (by decide), fun _ => ⟨by omega, ⟨by omega, by omega, by omega⟩, by omega, by omega, by omega⟩⟩))⟩
                          · refine zz_iconst zd_14_70_152 ?_
                            have g118 := zz_G.r G_S84 1079 36 0 11 rfl rfl
                            exact zz_iret zd_14_70_153 rfl (Nat.zero_le _) (Nat.zero_le _) ⟨_, _, rfl, G_S84, F_S84, by omega, by omega, (o88 (by omega) R_S75)⟩
                        · exfalso; omega
                      · exfalso; omega
                    · exfalso; omega
        · exfalso; omega
abbrev zy_form_14_71 : mm_Y := (⟨"TensorForgeModel", "form", "(II)I"⟩, prog_14_method_71_code, 3, (some .int))
theorem zyw_form_14_71 : mm_Yw zy_form_14_71 2 := ⟨mm_tb_1 2112 (by decide +kernel) rfl, mm_tb_1 12 (by decide +kernel) rfl, ⟨by decide, by decide⟩, by decide +kernel⟩
theorem zd_14_71_0 : zz_D zy_form_14_71 0 (.aload_n 0) 1 1 := ⟨by decide +kernel, rfl⟩
theorem zd_14_71_1 : zz_D zy_form_14_71 1 (.aload_n 0) 1 2 := ⟨by decide +kernel, rfl⟩
theorem zd_14_71_2 : zz_D zy_form_14_71 2 (.iload_n 1) 1 3 := ⟨by decide +kernel, rfl⟩
theorem zd_14_71_3 : zz_D zy_form_14_71 3 (.invokevirtual 411) 3 6 := ⟨by decide +kernel, rfl⟩
theorem zd_14_71_6 : zz_B zy_form_14_71 6 (Instr.ifCond .ne) 13 9 := ⟨7, by decide +kernel, rfl, rfl⟩
theorem zd_14_71_9 : zz_D zy_form_14_71 9 (.iconst 1) 1 10 := ⟨by decide +kernel, rfl⟩
theorem zd_14_71_10 : zz_B zy_form_14_71 10 Instr.goto 14 13 := ⟨4, by decide +kernel, rfl, rfl⟩
theorem zd_14_71_14 : zz_D zy_form_14_71 14 (.aload_n 0) 1 15 := ⟨by decide +kernel, rfl⟩
theorem zd_14_71_15 : zz_D zy_form_14_71 15 (.iload_n 1) 1 16 := ⟨by decide +kernel, rfl⟩
theorem zd_14_71_16 : zz_D zy_form_14_71 16 (.invokevirtual 411) 3 19 := ⟨by decide +kernel, rfl⟩
theorem zd_14_71_19 : zz_B zy_form_14_71 19 (Instr.ifCond .eq) 38 22 := ⟨19, by decide +kernel, rfl, rfl⟩
theorem zd_14_71_38 : zz_D zy_form_14_71 38 (.iconst 0) 1 39 := ⟨by decide +kernel, rfl⟩
theorem zd_14_71_39 : zz_D zy_form_14_71 39 (.iconst 0) 1 40 := ⟨by decide +kernel, rfl⟩
theorem zd_14_71_40 : zz_D zy_form_14_71 40 (.invokevirtual 196) 3 43 := ⟨by decide +kernel, rfl⟩
theorem zd_14_71_43 : zz_B zy_form_14_71 43 (Instr.ifCond .eq) 48 46 := ⟨5, by decide +kernel, rfl, rfl⟩
theorem zd_14_71_46 : zz_D zy_form_14_71 46 (.iconst 0) 1 47 := ⟨by decide +kernel, rfl⟩
theorem zd_14_71_47 : zz_D zy_form_14_71 47 (.ireturn) 1 48 := ⟨by decide +kernel, rfl⟩
theorem zd_14_71_22 : zz_D zy_form_14_71 22 (.iload_n 2) 1 23 := ⟨by decide +kernel, rfl⟩
theorem zd_14_71_23 : zz_D zy_form_14_71 23 (.i2l) 1 24 := ⟨by decide +kernel, rfl⟩
theorem zd_14_71_24 : zz_D zy_form_14_71 24 (.lconst 0) 1 25 := ⟨by decide +kernel, rfl⟩
theorem zd_14_71_25 : zz_D zy_form_14_71 25 (.ldc2_w 416) 3 28 := ⟨by decide +kernel, rfl⟩
theorem zd_14_71_28 : zz_D zy_form_14_71 28 (.invokestatic 192) 3 31 := ⟨by decide +kernel, rfl⟩
theorem zd_14_71_31 : zz_B zy_form_14_71 31 (Instr.ifCond .ne) 38 34 := ⟨7, by decide +kernel, rfl, rfl⟩
theorem zd_14_71_34 : zz_D zy_form_14_71 34 (.iconst 1) 1 35 := ⟨by decide +kernel, rfl⟩
theorem zd_14_71_35 : zz_B zy_form_14_71 35 Instr.goto 39 38 := ⟨4, by decide +kernel, rfl, rfl⟩
theorem zd_14_71_13 : zz_D zy_form_14_71 13 (.iconst 0) 1 14 := ⟨by decide +kernel, rfl⟩
theorem zd_14_71_48 : zz_D zy_form_14_71 48 (.iload_n 2) 1 49 := ⟨by decide +kernel, rfl⟩
theorem zd_14_71_49 : zz_B zy_form_14_71 49 (Instr.ifCond .ne) 61 52 := ⟨12, by decide +kernel, rfl, rfl⟩
theorem zd_14_71_61 : zz_D zy_form_14_71 61 (.iload_n 2) 1 62 := ⟨by decide +kernel, rfl⟩
theorem zd_14_71_62 : zz_D zy_form_14_71 62 (.iconst 1) 1 63 := ⟨by decide +kernel, rfl⟩
theorem zd_14_71_63 : zz_B zy_form_14_71 63 (Instr.if_icmp .ne) 75 66 := ⟨12, by decide +kernel, rfl, rfl⟩
theorem zd_14_71_75 : zz_D zy_form_14_71 75 (.iload_n 2) 1 76 := ⟨by decide +kernel, rfl⟩
theorem zd_14_71_76 : zz_D zy_form_14_71 76 (.iconst 2) 1 77 := ⟨by decide +kernel, rfl⟩
theorem zd_14_71_77 : zz_B zy_form_14_71 77 (Instr.if_icmp .ne) 89 80 := ⟨12, by decide +kernel, rfl, rfl⟩
theorem zd_14_71_89 : zz_D zy_form_14_71 89 (.aload_n 0) 1 90 := ⟨by decide +kernel, rfl⟩
theorem zd_14_71_90 : zz_D zy_form_14_71 90 (.getfield 97) 3 93 := ⟨by decide +kernel, rfl⟩
theorem zd_14_71_93 : zz_D zy_form_14_71 93 (.iload_n 1) 1 94 := ⟨by decide +kernel, rfl⟩
theorem zd_14_71_94 : zz_D zy_form_14_71 94 (.iaload) 1 95 := ⟨by decide +kernel, rfl⟩
theorem zd_14_71_95 : zz_D zy_form_14_71 95 (.ireturn) 1 96 := ⟨by decide +kernel, rfl⟩
theorem zd_14_71_80 : zz_D zy_form_14_71 80 (.aload_n 0) 1 81 := ⟨by decide +kernel, rfl⟩
theorem zd_14_71_81 : zz_D zy_form_14_71 81 (.getfield 94) 3 84 := ⟨by decide +kernel, rfl⟩
theorem zd_14_71_84 : zz_D zy_form_14_71 84 (.iload_n 1) 1 85 := ⟨by decide +kernel, rfl⟩
theorem zd_14_71_85 : zz_D zy_form_14_71 85 (.iaload) 1 86 := ⟨by decide +kernel, rfl⟩
theorem zd_14_71_86 : zz_B zy_form_14_71 86 Instr.goto 95 89 := ⟨9, by decide +kernel, rfl, rfl⟩
theorem zd_14_71_66 : zz_D zy_form_14_71 66 (.aload_n 0) 1 67 := ⟨by decide +kernel, rfl⟩
theorem zd_14_71_67 : zz_D zy_form_14_71 67 (.getfield 91) 3 70 := ⟨by decide +kernel, rfl⟩
theorem zd_14_71_70 : zz_D zy_form_14_71 70 (.iload_n 1) 1 71 := ⟨by decide +kernel, rfl⟩
theorem zd_14_71_71 : zz_D zy_form_14_71 71 (.iaload) 1 72 := ⟨by decide +kernel, rfl⟩
theorem zd_14_71_72 : zz_B zy_form_14_71 72 Instr.goto 95 75 := ⟨23, by decide +kernel, rfl, rfl⟩
theorem zd_14_71_52 : zz_D zy_form_14_71 52 (.aload_n 0) 1 53 := ⟨by decide +kernel, rfl⟩
theorem zd_14_71_53 : zz_D zy_form_14_71 53 (.getfield 88) 3 56 := ⟨by decide +kernel, rfl⟩
theorem zd_14_71_56 : zz_D zy_form_14_71 56 (.iload_n 1) 1 57 := ⟨by decide +kernel, rfl⟩
theorem zd_14_71_57 : zz_D zy_form_14_71 57 (.iaload) 1 58 := ⟨by decide +kernel, rfl⟩
theorem zd_14_71_58 : zz_B zy_form_14_71 58 Instr.goto 95 61 := ⟨37, by decide +kernel, rfl, rfl⟩
-- TensorForgeModel form (II)I
abbrev zr_form_14_71 : Room := { frames := 2, cells := 0, slots := 0, locals := 32 }
def zp_form_14_71 (p0 : Int) (p1 : Int) (S0 : zz_S) : Int → zz_S → Prop := fun r S => zz_G S ∧ zz_fr [(1079, 0)] [] (fun _ _ => False) S0 S ∧ ((-2147483648) ≤ r ∧ r ≤ 2147483647)
theorem zc_form_14_71 {g : mm_G} {l : Launch} (p0 : Int) (p1 : Int) (S0 : zz_S) (n : Nat) (hn : zz_end ≤ n) (G_S0 : zz_G S0) (hp0 : (-2147483648) ≤ p0 ∧ p0 ≤ 2147483647) (hp1 : (-2147483648) ≤ p1 ∧ p1 ≤ 2147483647) : mm_Met g l zy_form_14_71 zr_form_14_71 [.ref 1079, zi p0, zi p1] (zz_M S0 n) n (zz_QI n (zp_form_14_71 p0 p1 S0)) := by
  refine zz_enter (by decide) (Nat.le_of_ble_eq_true rfl) (zz_less (ls1 := [some (.ref 1079), some (zi p0), some (zi p1)]) ⟨rfl, ⟨rfl, ⟨rfl, trivial⟩⟩⟩ ?_)
  have F_S0 : zz_fr [(1079, 0)] [] (fun _ _ => False) S0 S0 := zz_fr.refl
  refine zz_aload_n (x := 1079) rfl zd_14_71_0 ?_
  refine zz_aload_n (x := 1079) rfl zd_14_71_1 ?_
  refine zz_iload_n (x := p0) rfl zd_14_71_2 ?_
  have g1 := zz_G.r G_S0 1079 36 0 11 rfl rfl
  refine zz_callVI [zi p0] zd_14_71_3 zk_Md_411 zT_1079 (zz_ltn hn rfl) rfl rfl ⟨Nat.le_of_ble_eq_true rfl, Nat.le_of_ble_eq_true rfl⟩ ⟨rfl, rfl⟩ (Nat.zero_le _) (Nat.zero_le _) (zc_isTensor_14_66 p0 S0 n hn G_S0 (by omega)) (fun v3 S2 hP => ?_)
  obtain ⟨rfl, o4, o5⟩ := hP
  rcases (by omega : v3 = 0 ∨ v3 = 1) with rfl | rfl
  · refine zz_if_ne (by omega) zd_14_71_6 (fun c6 => ?_) (fun c6 => ?_)
    · exfalso; omega
    · refine zz_iconst zd_14_71_9 ?_
      refine zz_goto zd_14_71_10 ?_
      refine zz_aload_n (x := 1079) rfl zd_14_71_14 ?_
      refine zz_iload_n (x := p0) rfl zd_14_71_15 ?_
      refine zz_callVI [zi p0] zd_14_71_16 zk_Md_411 zT_1079 (zz_ltn hn rfl) rfl rfl ⟨Nat.le_of_ble_eq_true rfl, Nat.le_of_ble_eq_true rfl⟩ ⟨rfl, rfl⟩ (Nat.zero_le _) (Nat.zero_le _) (zc_isTensor_14_66 p0 S0 n hn G_S0 (by omega)) (fun v8 S7 hP => ?_)
      obtain ⟨rfl, o9, o10⟩ := hP
      rcases (by omega : v8 = 0 ∨ v8 = 1) with rfl | rfl
      · refine zz_if_eq (by omega) zd_14_71_19 (fun c11 => ?_) (fun c11 => ?_)
        · refine zz_iconst zd_14_71_38 ?_
          refine zz_iconst zd_14_71_39 ?_
          refine zz_callVI [zi 1, zi 0, zi 0] zd_14_71_40 zk_Md_196 zT_1079 (zz_ltn hn rfl) rfl rfl ⟨Nat.le_of_ble_eq_true rfl, Nat.le_of_ble_eq_true rfl⟩ ⟨rfl, rfl⟩ (Nat.zero_le _) (Nat.zero_le _) (zc_refuse_14_3 1 0 0 S0 n hn G_S0 (by omega) (by omega) (by omega)) (fun v13 S12 hP => ?_)
          obtain ⟨G_S12, fS12, o14, o15⟩ := hP
          have F_S12 := zz_fr.trans F_S0 fS12 rfl zz_nv
          rcases (by omega : v13 = 0 ∨ v13 = 1) with rfl | rfl
          · exfalso; omega
          · have e16 : S12 1079 0 = 1 := by omega
            clear o15
            refine zz_if_eq (by omega) zd_14_71_43 (fun c17 => ?_) (fun c17 => ?_)
            · exfalso; omega
            · refine zz_iconst zd_14_71_46 ?_
              exact zz_iret zd_14_71_47 rfl (Nat.zero_le _) (Nat.zero_le _) ⟨_, _, rfl, G_S12, F_S12, by omega⟩
        · exfalso; omega
      · refine zz_if_eq (by omega) zd_14_71_19 (fun c18 => ?_) (fun c18 => ?_)
        · exfalso; omega
        · refine zz_iload_n (x := p1) rfl zd_14_71_22 ?_
          refine zz_i2l (by omega) zd_14_71_23 ?_
          refine zz_lconst (z := 0) (by decide) zd_14_71_24 ?_
          refine zz_ldc2 (z := 3) zq_Md_416 (by decide) zd_14_71_25 ?_
          refine zz_callSI [zl p1, zl 0, zl 3] zd_14_71_28 zk_Md_192 rfl rfl ⟨Nat.le_of_ble_eq_true rfl, Nat.le_of_ble_eq_true rfl⟩ ⟨rfl, rfl⟩ (Nat.zero_le _) (Nat.zero_le _) (zc_in_14_4 p1 0 3 S0 n hn G_S0 (by omega) (by omega) (by omega)) (fun v20 S19 hP => ?_)
          obtain ⟨rfl, o21, o22⟩ := hP
          rcases (by omega : v20 = 0 ∨ v20 = 1) with rfl | rfl
          · have n23 : p1 < 0 ∨ 3 < p1 := by omega
            clear o22
            refine zz_if_ne (by omega) zd_14_71_31 (fun c24 => ?_) (fun c24 => ?_)
            · exfalso; omega
            · refine zz_iconst zd_14_71_34 ?_
              refine zz_goto zd_14_71_35 ?_
              refine zz_iconst zd_14_71_39 ?_
              refine zz_callVI [zi 1, zi 1, zi 0] zd_14_71_40 zk_Md_196 zT_1079 (zz_ltn hn rfl) rfl rfl ⟨Nat.le_of_ble_eq_true rfl, Nat.le_of_ble_eq_true rfl⟩ ⟨rfl, rfl⟩ (Nat.zero_le _) (Nat.zero_le _) (zc_refuse_14_3 1 1 0 S0 n hn G_S0 (by omega) (by omega) (by omega)) (fun v26 S25 hP => ?_)
              obtain ⟨G_S25, fS25, o27, o28⟩ := hP
              have F_S25 := zz_fr.trans F_S0 fS25 rfl zz_nv
              rcases (by omega : v26 = 0 ∨ v26 = 1) with rfl | rfl
              · exfalso; omega
              · have e29 : S25 1079 0 = 1 := by omega
                clear o28
                refine zz_if_eq (by omega) zd_14_71_43 (fun c30 => ?_) (fun c30 => ?_)
                · exfalso; omega
                · refine zz_iconst zd_14_71_46 ?_
                  exact zz_iret zd_14_71_47 rfl (Nat.zero_le _) (Nat.zero_le _) ⟨_, _, rfl, G_S25, F_S25, by omega⟩
          · have n31 : 0 ≤ p1 ∧ p1 ≤ 3 := by omega
            clear o22
            refine zz_if_ne (by omega) zd_14_71_31 (fun c32 => ?_) (fun c32 => ?_)
            · refine zz_iconst zd_14_71_38 ?_
              refine zz_iconst zd_14_71_39 ?_
              refine zz_callVI [zi 1, zi 0, zi 0] zd_14_71_40 zk_Md_196 zT_1079 (zz_ltn hn rfl) rfl rfl ⟨Nat.le_of_ble_eq_true rfl, Nat.le_of_ble_eq_true rfl⟩ ⟨rfl, rfl⟩ (Nat.zero_le _) (Nat.zero_le _) (zc_refuse_14_3 1 0 0 S0 n hn G_S0 (by omega) (by omega) (by omega)) (fun v34 S33 hP => ?_)
              obtain ⟨G_S33, fS33, o35, o36⟩ := hP
              have F_S33 := zz_fr.trans F_S0 fS33 rfl zz_nv
              rcases (by omega : v34 = 0 ∨ v34 = 1) with rfl | rfl
              · exfalso; omega
              · have e37 : S33 1079 0 = 1 := by omega
                clear o36
                refine zz_if_eq (by omega) zd_14_71_43 (fun c38 => ?_) (fun c38 => ?_)
                · exfalso; omega
                · refine zz_iconst zd_14_71_46 ?_
                  exact zz_iret zd_14_71_47 rfl (Nat.zero_le _) (Nat.zero_le _) ⟨_, _, rfl, G_S33, F_S33, by omega⟩
            · exfalso; omega
  · refine zz_if_ne (by omega) zd_14_71_6 (fun c39 => ?_) (fun c39 => ?_)
    · refine zz_iconst zd_14_71_13 ?_
      refine zz_aload_n (x := 1079) rfl zd_14_71_14 ?_
      refine zz_iload_n (x := p0) rfl zd_14_71_15 ?_
      refine zz_callVI [zi p0] zd_14_71_16 zk_Md_411 zT_1079 (zz_ltn hn rfl) rfl rfl ⟨Nat.le_of_ble_eq_true rfl, Nat.le_of_ble_eq_true rfl⟩ ⟨rfl, rfl⟩ (Nat.zero_le _) (Nat.zero_le _) (zc_isTensor_14_66 p0 S0 n hn G_S0 (by omega)) (fun v41 S40 hP => ?_)
      obtain ⟨rfl, o42, o43⟩ := hP
      rcases (by omega : v41 = 0 ∨ v41 = 1) with rfl | rfl
      · refine zz_if_eq (by omega) zd_14_71_19 (fun c44 => ?_) (fun c44 => ?_)
        · refine zz_iconst zd_14_71_38 ?_
          refine zz_iconst zd_14_71_39 ?_
          refine zz_callVI [zi 0, zi 0, zi 0] zd_14_71_40 zk_Md_196 zT_1079 (zz_ltn hn rfl) rfl rfl ⟨Nat.le_of_ble_eq_true rfl, Nat.le_of_ble_eq_true rfl⟩ ⟨rfl, rfl⟩ (Nat.zero_le _) (Nat.zero_le _) (zc_refuse_14_3 0 0 0 S0 n hn G_S0 (by omega) (by omega) (by omega)) (fun v46 S45 hP => ?_)
          obtain ⟨G_S45, fS45, o47, o48⟩ := hP
          have F_S45 := zz_fr.trans F_S0 fS45 rfl zz_nv
          rcases (by omega : v46 = 0 ∨ v46 = 1) with rfl | rfl
          · have e49 : S45 1079 0 = 0 := by omega
            clear o48
            refine zz_if_eq (by omega) zd_14_71_43 (fun c50 => ?_) (fun c50 => ?_)
            · refine zz_iload_n (x := p1) rfl zd_14_71_48 ?_
              refine zz_if_ne (by omega) zd_14_71_49 (fun c51 => ?_) (fun c51 => ?_)
              · refine zz_iload_n (x := p1) rfl zd_14_71_61 ?_
                refine zz_iconst zd_14_71_62 ?_
                refine zz_icmp_ne (by omega) (by omega) zd_14_71_63 (fun c52 => ?_) (fun c52 => ?_)
                · refine zz_iload_n (x := p1) rfl zd_14_71_75 ?_
                  refine zz_iconst zd_14_71_76 ?_
                  refine zz_icmp_ne (by omega) (by omega) zd_14_71_77 (fun c53 => ?_) (fun c53 => ?_)
                  · refine zz_aload_n (x := 1079) rfl zd_14_71_89 ?_
                    refine zz_getr (kd := 0) (z := 1105) zd_14_71_90 zf_Md_97 zT_1079 rfl (zz_ltn hn rfl) (zz_G.eq G_S45 1079 40 1105 rfl rfl) (by decide) 1105 rfl ?_
                    refine zz_iload_n (x := p0) rfl zd_14_71_93 ?_
                    have g54 := zz_G.r G_S0 1105 p0.toNat (0) (if p0.toNat = 0 then 0 else 10000000) rfl rfl
                    refine zz_iald (z := S0 1105 p0.toNat) zd_14_71_94 zT_1105 rfl (zz_ltn hn rfl) (by decide) (by omega) (zz_rc fS45 (zz_nc1 rfl) rfl (fun h => h) rfl) ?_
                    exact zz_iret zd_14_71_95 rfl (Nat.zero_le _) (Nat.zero_le _) ⟨_, _, rfl, G_S45, F_S45, by omega⟩
                  · refine zz_aload_n (x := 1079) rfl zd_14_71_80 ?_
                    refine zz_getr (kd := 0) (z := 1104) zd_14_71_81 zf_Md_94 zT_1079 rfl (zz_ltn hn rfl) (zz_G.eq G_S45 1079 39 1104 rfl rfl) (by decide) 1104 rfl ?_
                    refine zz_iload_n (x := p0) rfl zd_14_71_84 ?_
                    have g55 := zz_G.r G_S0 1104 p0.toNat 0 63 rfl rfl
                    refine zz_iald (z := S0 1104 p0.toNat) zd_14_71_85 zT_1104 rfl (zz_ltn hn rfl) (by decide) (by omega) (zz_rc fS45 (zz_nc1 rfl) rfl (fun h => h) rfl) ?_
                    refine zz_goto zd_14_71_86 ?_
                    exact zz_iret zd_14_71_95 rfl (Nat.zero_le _) (Nat.zero_le _) ⟨_, _, rfl, G_S45, F_S45, by omega⟩
                · refine zz_aload_n (x := 1079) rfl zd_14_71_66 ?_
                  refine zz_getr (kd := 0) (z := 1103) zd_14_71_67 zf_Md_91 zT_1079 rfl (zz_ltn hn rfl) (zz_G.eq G_S45 1079 38 1103 rfl rfl) (by decide) 1103 rfl ?_
                  refine zz_iload_n (x := p0) rfl zd_14_71_70 ?_
                  have g56 := zz_G.r G_S0 1103 p0.toNat 0 63 rfl rfl
                  refine zz_iald (z := S0 1103 p0.toNat) zd_14_71_71 zT_1103 rfl (zz_ltn hn rfl) (by decide) (by omega) (zz_rc fS45 (zz_nc1 rfl) rfl (fun h => h) rfl) ?_
                  refine zz_goto zd_14_71_72 ?_
                  exact zz_iret zd_14_71_95 rfl (Nat.zero_le _) (Nat.zero_le _) ⟨_, _, rfl, G_S45, F_S45, by omega⟩
              · refine zz_aload_n (x := 1079) rfl zd_14_71_52 ?_
                refine zz_getr (kd := 0) (z := 1102) zd_14_71_53 zf_Md_88 zT_1079 rfl (zz_ltn hn rfl) (zz_G.eq G_S45 1079 37 1102 rfl rfl) (by decide) 1102 rfl ?_
                refine zz_iload_n (x := p0) rfl zd_14_71_56 ?_
                have g57 := zz_G.r G_S0 1102 p0.toNat 0 63 rfl rfl
                refine zz_iald (z := S0 1102 p0.toNat) zd_14_71_57 zT_1102 rfl (zz_ltn hn rfl) (by decide) (by omega) (zz_rc fS45 (zz_nc1 rfl) rfl (fun h => h) rfl) ?_
                refine zz_goto zd_14_71_58 ?_
                exact zz_iret zd_14_71_95 rfl (Nat.zero_le _) (Nat.zero_le _) ⟨_, _, rfl, G_S45, F_S45, by omega⟩
            · exfalso; omega
          · exfalso; omega
        · exfalso; omega
      · refine zz_if_eq (by omega) zd_14_71_19 (fun c58 => ?_) (fun c58 => ?_)
        · exfalso; omega
        · refine zz_iload_n (x := p1) rfl zd_14_71_22 ?_
          refine zz_i2l (by omega) zd_14_71_23 ?_
          refine zz_lconst (z := 0) (by decide) zd_14_71_24 ?_
          refine zz_ldc2 (z := 3) zq_Md_416 (by decide) zd_14_71_25 ?_
          refine zz_callSI [zl p1, zl 0, zl 3] zd_14_71_28 zk_Md_192 rfl rfl ⟨Nat.le_of_ble_eq_true rfl, Nat.le_of_ble_eq_true rfl⟩ ⟨rfl, rfl⟩ (Nat.zero_le _) (Nat.zero_le _) (zc_in_14_4 p1 0 3 S0 n hn G_S0 (by omega) (by omega) (by omega)) (fun v60 S59 hP => ?_)
          obtain ⟨rfl, o61, o62⟩ := hP
          rcases (by omega : v60 = 0 ∨ v60 = 1) with rfl | rfl
          · have n63 : p1 < 0 ∨ 3 < p1 := by omega
            clear o62
            refine zz_if_ne (by omega) zd_14_71_31 (fun c64 => ?_) (fun c64 => ?_)
            · exfalso; omega
            · refine zz_iconst zd_14_71_34 ?_
              refine zz_goto zd_14_71_35 ?_
              refine zz_iconst zd_14_71_39 ?_
              refine zz_callVI [zi 0, zi 1, zi 0] zd_14_71_40 zk_Md_196 zT_1079 (zz_ltn hn rfl) rfl rfl ⟨Nat.le_of_ble_eq_true rfl, Nat.le_of_ble_eq_true rfl⟩ ⟨rfl, rfl⟩ (Nat.zero_le _) (Nat.zero_le _) (zc_refuse_14_3 0 1 0 S0 n hn G_S0 (by omega) (by omega) (by omega)) (fun v66 S65 hP => ?_)
              obtain ⟨G_S65, fS65, o67, o68⟩ := hP
              have F_S65 := zz_fr.trans F_S0 fS65 rfl zz_nv
              rcases (by omega : v66 = 0 ∨ v66 = 1) with rfl | rfl
              · exfalso; omega
              · have e69 : S65 1079 0 = 2 := by omega
                clear o68
                refine zz_if_eq (by omega) zd_14_71_43 (fun c70 => ?_) (fun c70 => ?_)
                · exfalso; omega
                · refine zz_iconst zd_14_71_46 ?_
                  exact zz_iret zd_14_71_47 rfl (Nat.zero_le _) (Nat.zero_le _) ⟨_, _, rfl, G_S65, F_S65, by omega⟩
          · have n71 : 0 ≤ p1 ∧ p1 ≤ 3 := by omega
            clear o62
            refine zz_if_ne (by omega) zd_14_71_31 (fun c72 => ?_) (fun c72 => ?_)
            · refine zz_iconst zd_14_71_38 ?_
              refine zz_iconst zd_14_71_39 ?_
              refine zz_callVI [zi 0, zi 0, zi 0] zd_14_71_40 zk_Md_196 zT_1079 (zz_ltn hn rfl) rfl rfl ⟨Nat.le_of_ble_eq_true rfl, Nat.le_of_ble_eq_true rfl⟩ ⟨rfl, rfl⟩ (Nat.zero_le _) (Nat.zero_le _) (zc_refuse_14_3 0 0 0 S0 n hn G_S0 (by omega) (by omega) (by omega)) (fun v74 S73 hP => ?_)
              obtain ⟨G_S73, fS73, o75, o76⟩ := hP
              have F_S73 := zz_fr.trans F_S0 fS73 rfl zz_nv
              rcases (by omega : v74 = 0 ∨ v74 = 1) with rfl | rfl
              · have e77 : S73 1079 0 = 0 := by omega
                clear o76
                refine zz_if_eq (by omega) zd_14_71_43 (fun c78 => ?_) (fun c78 => ?_)
                · refine zz_iload_n (x := p1) rfl zd_14_71_48 ?_
                  refine zz_if_ne (by omega) zd_14_71_49 (fun c79 => ?_) (fun c79 => ?_)
                  · refine zz_iload_n (x := p1) rfl zd_14_71_61 ?_
                    refine zz_iconst zd_14_71_62 ?_
                    refine zz_icmp_ne (by omega) (by omega) zd_14_71_63 (fun c80 => ?_) (fun c80 => ?_)
                    · refine zz_iload_n (x := p1) rfl zd_14_71_75 ?_
                      refine zz_iconst zd_14_71_76 ?_
                      refine zz_icmp_ne (by omega) (by omega) zd_14_71_77 (fun c81 => ?_) (fun c81 => ?_)
                      · refine zz_aload_n (x := 1079) rfl zd_14_71_89 ?_
                        refine zz_getr (kd := 0) (z := 1105) zd_14_71_90 zf_Md_97 zT_1079 rfl (zz_ltn hn rfl) (zz_G.eq G_S73 1079 40 1105 rfl rfl) (by decide) 1105 rfl ?_
                        refine zz_iload_n (x := p0) rfl zd_14_71_93 ?_
                        have g82 := zz_G.r G_S0 1105 p0.toNat (0) (if p0.toNat = 0 then 0 else 10000000) rfl rfl
                        refine zz_iald (z := S0 1105 p0.toNat) zd_14_71_94 zT_1105 rfl (zz_ltn hn rfl) (by decide) (by omega) (zz_rc fS73 (zz_nc1 rfl) rfl (fun h => h) rfl) ?_
                        exact zz_iret zd_14_71_95 rfl (Nat.zero_le _) (Nat.zero_le _) ⟨_, _, rfl, G_S73, F_S73, by omega⟩
                      · refine zz_aload_n (x := 1079) rfl zd_14_71_80 ?_
                        refine zz_getr (kd := 0) (z := 1104) zd_14_71_81 zf_Md_94 zT_1079 rfl (zz_ltn hn rfl) (zz_G.eq G_S73 1079 39 1104 rfl rfl) (by decide) 1104 rfl ?_
                        refine zz_iload_n (x := p0) rfl zd_14_71_84 ?_
                        have g83 := zz_G.r G_S0 1104 p0.toNat 0 63 rfl rfl
                        refine zz_iald (z := S0 1104 p0.toNat) zd_14_71_85 zT_1104 rfl (zz_ltn hn rfl) (by decide) (by omega) (zz_rc fS73 (zz_nc1 rfl) rfl (fun h => h) rfl) ?_
                        refine zz_goto zd_14_71_86 ?_
                        exact zz_iret zd_14_71_95 rfl (Nat.zero_le _) (Nat.zero_le _) ⟨_, _, rfl, G_S73, F_S73, by omega⟩
                    · refine zz_aload_n (x := 1079) rfl zd_14_71_66 ?_
                      refine zz_getr (kd := 0) (z := 1103) zd_14_71_67 zf_Md_91 zT_1079 rfl (zz_ltn hn rfl) (zz_G.eq G_S73 1079 38 1103 rfl rfl) (by decide) 1103 rfl ?_
                      refine zz_iload_n (x := p0) rfl zd_14_71_70 ?_
                      have g84 := zz_G.r G_S0 1103 p0.toNat 0 63 rfl rfl
                      refine zz_iald (z := S0 1103 p0.toNat) zd_14_71_71 zT_1103 rfl (zz_ltn hn rfl) (by decide) (by omega) (zz_rc fS73 (zz_nc1 rfl) rfl (fun h => h) rfl) ?_
                      refine zz_goto zd_14_71_72 ?_
                      exact zz_iret zd_14_71_95 rfl (Nat.zero_le _) (Nat.zero_le _) ⟨_, _, rfl, G_S73, F_S73, by omega⟩
                  · refine zz_aload_n (x := 1079) rfl zd_14_71_52 ?_
                    refine zz_getr (kd := 0) (z := 1102) zd_14_71_53 zf_Md_88 zT_1079 rfl (zz_ltn hn rfl) (zz_G.eq G_S73 1079 37 1102 rfl rfl) (by decide) 1102 rfl ?_
                    refine zz_iload_n (x := p0) rfl zd_14_71_56 ?_
                    have g85 := zz_G.r G_S0 1102 p0.toNat 0 63 rfl rfl
                    refine zz_iald (z := S0 1102 p0.toNat) zd_14_71_57 zT_1102 rfl (zz_ltn hn rfl) (by decide) (by omega) (zz_rc fS73 (zz_nc1 rfl) rfl (fun h => h) rfl) ?_
                    refine zz_goto zd_14_71_58 ?_
                    exact zz_iret zd_14_71_95 rfl (Nat.zero_le _) (Nat.zero_le _) ⟨_, _, rfl, G_S73, F_S73, by omega⟩
                · exfalso; omega
              · exfalso; omega
            · exfalso; omega
    · exfalso; omega
abbrev zy_isThere_14_72 : mm_Y := (⟨"TensorForgeModel", "isThere", "(III)Z"⟩, prog_14_method_72_code, 4, (some .boolean))
theorem zyw_isThere_14_72 : mm_Yw zy_isThere_14_72 3 := ⟨mm_tb_1 2124 (by decide +kernel) rfl, mm_tb_1 12 (by decide +kernel) rfl, ⟨by decide, by decide⟩, by decide +kernel⟩
theorem zd_14_72_0 : zz_D zy_isThere_14_72 0 (.iload_n 2) 1 1 := ⟨by decide +kernel, rfl⟩
theorem zd_14_72_1 : zz_D zy_isThere_14_72 1 (.i2l) 1 2 := ⟨by decide +kernel, rfl⟩
theorem zd_14_72_2 : zz_D zy_isThere_14_72 2 (.lconst 0) 1 3 := ⟨by decide +kernel, rfl⟩
theorem zd_14_72_3 : zz_D zy_isThere_14_72 3 (.aload_n 0) 1 4 := ⟨by decide +kernel, rfl⟩
theorem zd_14_72_4 : zz_D zy_isThere_14_72 4 (.getfield 88) 3 7 := ⟨by decide +kernel, rfl⟩
theorem zd_14_72_7 : zz_D zy_isThere_14_72 7 (.iload_n 1) 1 8 := ⟨by decide +kernel, rfl⟩
theorem zd_14_72_8 : zz_D zy_isThere_14_72 8 (.iaload) 1 9 := ⟨by decide +kernel, rfl⟩
theorem zd_14_72_9 : zz_D zy_isThere_14_72 9 (.iconst 1) 1 10 := ⟨by decide +kernel, rfl⟩
theorem zd_14_72_10 : zz_D zy_isThere_14_72 10 (.isub) 1 11 := ⟨by decide +kernel, rfl⟩
theorem zd_14_72_11 : zz_D zy_isThere_14_72 11 (.i2l) 1 12 := ⟨by decide +kernel, rfl⟩
theorem zd_14_72_12 : zz_D zy_isThere_14_72 12 (.invokestatic 192) 3 15 := ⟨by decide +kernel, rfl⟩
theorem zd_14_72_15 : zz_B zy_isThere_14_72 15 (Instr.ifCond .eq) 40 18 := ⟨25, by decide +kernel, rfl, rfl⟩
theorem zd_14_72_40 : zz_D zy_isThere_14_72 40 (.iconst 0) 1 41 := ⟨by decide +kernel, rfl⟩
theorem zd_14_72_41 : zz_D zy_isThere_14_72 41 (.ireturn) 1 42 := ⟨by decide +kernel, rfl⟩
theorem zd_14_72_18 : zz_D zy_isThere_14_72 18 (.iload_n 3) 1 19 := ⟨by decide +kernel, rfl⟩
theorem zd_14_72_19 : zz_D zy_isThere_14_72 19 (.i2l) 1 20 := ⟨by decide +kernel, rfl⟩
theorem zd_14_72_20 : zz_D zy_isThere_14_72 20 (.lconst 0) 1 21 := ⟨by decide +kernel, rfl⟩
theorem zd_14_72_21 : zz_D zy_isThere_14_72 21 (.aload_n 0) 1 22 := ⟨by decide +kernel, rfl⟩
theorem zd_14_72_22 : zz_D zy_isThere_14_72 22 (.getfield 91) 3 25 := ⟨by decide +kernel, rfl⟩
theorem zd_14_72_25 : zz_D zy_isThere_14_72 25 (.iload_n 1) 1 26 := ⟨by decide +kernel, rfl⟩
theorem zd_14_72_26 : zz_D zy_isThere_14_72 26 (.iaload) 1 27 := ⟨by decide +kernel, rfl⟩
theorem zd_14_72_27 : zz_D zy_isThere_14_72 27 (.iconst 1) 1 28 := ⟨by decide +kernel, rfl⟩
theorem zd_14_72_28 : zz_D zy_isThere_14_72 28 (.isub) 1 29 := ⟨by decide +kernel, rfl⟩
theorem zd_14_72_29 : zz_D zy_isThere_14_72 29 (.i2l) 1 30 := ⟨by decide +kernel, rfl⟩
theorem zd_14_72_30 : zz_D zy_isThere_14_72 30 (.invokestatic 192) 3 33 := ⟨by decide +kernel, rfl⟩
theorem zd_14_72_33 : zz_B zy_isThere_14_72 33 (Instr.ifCond .eq) 40 36 := ⟨7, by decide +kernel, rfl, rfl⟩
theorem zd_14_72_36 : zz_D zy_isThere_14_72 36 (.iconst 1) 1 37 := ⟨by decide +kernel, rfl⟩
theorem zd_14_72_37 : zz_B zy_isThere_14_72 37 Instr.goto 41 40 := ⟨4, by decide +kernel, rfl, rfl⟩
-- TensorForgeModel isThere (III)Z
abbrev zr_isThere_14_72 : Room := { frames := 1, cells := 0, slots := 0, locals := 17 }
def zp_isThere_14_72 (p0 : Int) (p1 : Int) (p2 : Int) (S0 : zz_S) : Int → zz_S → Prop := fun r S => S0 = S ∧ (0 ≤ r ∧ r ≤ 1) ∧ ((r = 1 ∧ 0 ≤ p1 ∧ p1 ≤ S0 1102 p0.toNat - 1 ∧ 0 ≤ p2 ∧ p2 ≤ S0 1103 p0.toNat - 1) ∨ r = 0)
theorem zc_isThere_14_72 {g : mm_G} {l : Launch} (p0 : Int) (p1 : Int) (p2 : Int) (S0 : zz_S) (n : Nat) (hn : zz_end ≤ n) (G_S0 : zz_G S0) (hp0 : 0 ≤ p0 ∧ p0 ≤ 10) (hp1 : (-2147483648) ≤ p1 ∧ p1 ≤ 2147483647) (hp2 : (-2147483648) ≤ p2 ∧ p2 ≤ 2147483647) : mm_Met g l zy_isThere_14_72 zr_isThere_14_72 [.ref 1079, zi p0, zi p1, zi p2] (zz_M S0 n) n (zz_QI n (zp_isThere_14_72 p0 p1 p2 S0)) := by
  refine zz_enter (by decide) (Nat.le_of_ble_eq_true rfl) (zz_less (ls1 := [some (.ref 1079), some (zi p0), some (zi p1), some (zi p2)]) ⟨rfl, ⟨rfl, ⟨rfl, ⟨rfl, trivial⟩⟩⟩⟩ ?_)
  refine zz_iload_n (x := p1) rfl zd_14_72_0 ?_
  refine zz_i2l (by omega) zd_14_72_1 ?_
  refine zz_lconst (z := 0) (by decide) zd_14_72_2 ?_
  refine zz_aload_n (x := 1079) rfl zd_14_72_3 ?_
  refine zz_getr (kd := 0) (z := 1102) zd_14_72_4 zf_Md_88 zT_1079 rfl (zz_ltn hn rfl) (zz_G.eq G_S0 1079 37 1102 rfl rfl) (by decide) 1102 rfl ?_
  refine zz_iload_n (x := p0) rfl zd_14_72_7 ?_
  have g1 := zz_G.r G_S0 1102 p0.toNat 0 63 rfl rfl
  refine zz_iald (z := S0 1102 p0.toNat) zd_14_72_8 zT_1102 rfl (zz_ltn hn rfl) (by decide) (by omega) rfl ?_
  refine zz_iconst zd_14_72_9 ?_
  refine zz_isub zd_14_72_10 ?_
  refine zz_i2l (by omega) zd_14_72_11 ?_
  refine zz_callSI [zl p1, zl 0, zl ((S0 1102 p0.toNat) - 1)] zd_14_72_12 zk_Md_192 rfl rfl ⟨Nat.le_of_ble_eq_true rfl, Nat.le_of_ble_eq_true rfl⟩ ⟨rfl, rfl⟩ (Nat.zero_le _) (Nat.zero_le _) (zc_in_14_4 p1 0 ((S0 1102 p0.toNat) - 1) S0 n hn G_S0 (by omega) (by omega) (by omega)) (fun v3 S2 hP => ?_)
  obtain ⟨rfl, o4, o5⟩ := hP
  rcases (by omega : v3 = 0 ∨ v3 = 1) with rfl | rfl
  · have n6 : p1 < 0 ∨ (S0 1102 p0.toNat) - 1 < p1 := by omega
    clear o5
    refine zz_if_eq (by omega) zd_14_72_15 (fun c7 => ?_) (fun c7 => ?_)
    · refine zz_iconst zd_14_72_40 ?_
      exact zz_zret zd_14_72_41 rfl (by omega) (Nat.zero_le _) (Nat.zero_le _) ⟨_, _, rfl, rfl, by omega, by omega⟩
    · exfalso; omega
  · have n8 : 0 ≤ p1 ∧ p1 ≤ (S0 1102 p0.toNat) - 1 := by omega
    clear o5
    refine zz_if_eq (by omega) zd_14_72_15 (fun c9 => ?_) (fun c9 => ?_)
    · exfalso; omega
    · refine zz_iload_n (x := p2) rfl zd_14_72_18 ?_
      refine zz_i2l (by omega) zd_14_72_19 ?_
      refine zz_lconst (z := 0) (by decide) zd_14_72_20 ?_
      refine zz_aload_n (x := 1079) rfl zd_14_72_21 ?_
      refine zz_getr (kd := 0) (z := 1103) zd_14_72_22 zf_Md_91 zT_1079 rfl (zz_ltn hn rfl) (zz_G.eq G_S0 1079 38 1103 rfl rfl) (by decide) 1103 rfl ?_
      refine zz_iload_n (x := p0) rfl zd_14_72_25 ?_
      have g10 := zz_G.r G_S0 1103 p0.toNat 0 63 rfl rfl
      refine zz_iald (z := S0 1103 p0.toNat) zd_14_72_26 zT_1103 rfl (zz_ltn hn rfl) (by decide) (by omega) rfl ?_
      refine zz_iconst zd_14_72_27 ?_
      refine zz_isub zd_14_72_28 ?_
      refine zz_i2l (by omega) zd_14_72_29 ?_
      refine zz_callSI [zl p2, zl 0, zl ((S0 1103 p0.toNat) - 1)] zd_14_72_30 zk_Md_192 rfl rfl ⟨Nat.le_of_ble_eq_true rfl, Nat.le_of_ble_eq_true rfl⟩ ⟨rfl, rfl⟩ (Nat.zero_le _) (Nat.zero_le _) (zc_in_14_4 p2 0 ((S0 1103 p0.toNat) - 1) S0 n hn G_S0 (by omega) (by omega) (by omega)) (fun v12 S11 hP => ?_)
      obtain ⟨rfl, o13, o14⟩ := hP
      rcases (by omega : v12 = 0 ∨ v12 = 1) with rfl | rfl
      · have n15 : p2 < 0 ∨ (S0 1103 p0.toNat) - 1 < p2 := by omega
        clear o14
        refine zz_if_eq (by omega) zd_14_72_33 (fun c16 => ?_) (fun c16 => ?_)
        · refine zz_iconst zd_14_72_40 ?_
          exact zz_zret zd_14_72_41 rfl (by omega) (Nat.zero_le _) (Nat.zero_le _) ⟨_, _, rfl, rfl, by omega, by omega⟩
        · exfalso; omega
      · have n17 : 0 ≤ p2 ∧ p2 ≤ (S0 1103 p0.toNat) - 1 := by omega
        clear o14
        refine zz_if_eq (by omega) zd_14_72_33 (fun c18 => ?_) (fun c18 => ?_)
        · exfalso; omega
        · refine zz_iconst zd_14_72_36 ?_
          refine zz_goto zd_14_72_37 ?_
          exact zz_zret zd_14_72_41 rfl (by omega) (Nat.zero_le _) (Nat.zero_le _) ⟨_, _, rfl, rfl, by omega, by omega⟩
abbrev zy_cellAt_14_73 : mm_Y := (⟨"TensorForgeModel", "cellAt", "(IIII)I"⟩, prog_14_method_73_code, 5, (some .int))
theorem zyw_cellAt_14_73 : mm_Yw zy_cellAt_14_73 4 := ⟨mm_tb_1 2128 (by decide +kernel) rfl, mm_tb_1 12 (by decide +kernel) rfl, ⟨by decide, by decide⟩, by decide +kernel⟩
theorem zd_14_73_0 : zz_D zy_cellAt_14_73 0 (.aload_n 0) 1 1 := ⟨by decide +kernel, rfl⟩
theorem zd_14_73_1 : zz_D zy_cellAt_14_73 1 (.getfield 13) 3 4 := ⟨by decide +kernel, rfl⟩
theorem zd_14_73_4 : zz_D zy_cellAt_14_73 4 (.aload_n 0) 1 5 := ⟨by decide +kernel, rfl⟩
theorem zd_14_73_5 : zz_D zy_cellAt_14_73 5 (.getfield 97) 3 8 := ⟨by decide +kernel, rfl⟩
theorem zd_14_73_8 : zz_D zy_cellAt_14_73 8 (.iload_n 1) 1 9 := ⟨by decide +kernel, rfl⟩
theorem zd_14_73_9 : zz_D zy_cellAt_14_73 9 (.iaload) 1 10 := ⟨by decide +kernel, rfl⟩
theorem zd_14_73_10 : zz_D zy_cellAt_14_73 10 (.iload_n 2) 1 11 := ⟨by decide +kernel, rfl⟩
theorem zd_14_73_11 : zz_D zy_cellAt_14_73 11 (.aload_n 0) 1 12 := ⟨by decide +kernel, rfl⟩
theorem zd_14_73_12 : zz_D zy_cellAt_14_73 12 (.getfield 91) 3 15 := ⟨by decide +kernel, rfl⟩
theorem zd_14_73_15 : zz_D zy_cellAt_14_73 15 (.iload_n 1) 1 16 := ⟨by decide +kernel, rfl⟩
theorem zd_14_73_16 : zz_D zy_cellAt_14_73 16 (.iaload) 1 17 := ⟨by decide +kernel, rfl⟩
theorem zd_14_73_17 : zz_D zy_cellAt_14_73 17 (.imul) 1 18 := ⟨by decide +kernel, rfl⟩
theorem zd_14_73_18 : zz_D zy_cellAt_14_73 18 (.iload_n 3) 1 19 := ⟨by decide +kernel, rfl⟩
theorem zd_14_73_19 : zz_D zy_cellAt_14_73 19 (.iadd) 1 20 := ⟨by decide +kernel, rfl⟩
theorem zd_14_73_20 : zz_D zy_cellAt_14_73 20 (.aload_n 0) 1 21 := ⟨by decide +kernel, rfl⟩
theorem zd_14_73_21 : zz_D zy_cellAt_14_73 21 (.getfield 94) 3 24 := ⟨by decide +kernel, rfl⟩
theorem zd_14_73_24 : zz_D zy_cellAt_14_73 24 (.iload_n 1) 1 25 := ⟨by decide +kernel, rfl⟩
theorem zd_14_73_25 : zz_D zy_cellAt_14_73 25 (.iaload) 1 26 := ⟨by decide +kernel, rfl⟩
theorem zd_14_73_26 : zz_D zy_cellAt_14_73 26 (.imul) 1 27 := ⟨by decide +kernel, rfl⟩
theorem zd_14_73_27 : zz_D zy_cellAt_14_73 27 (.iadd) 1 28 := ⟨by decide +kernel, rfl⟩
theorem zd_14_73_28 : zz_D zy_cellAt_14_73 28 (.iload 4) 2 30 := ⟨by decide +kernel, rfl⟩
theorem zd_14_73_30 : zz_D zy_cellAt_14_73 30 (.iadd) 1 31 := ⟨by decide +kernel, rfl⟩
theorem zd_14_73_31 : zz_D zy_cellAt_14_73 31 (.iaload) 1 32 := ⟨by decide +kernel, rfl⟩
theorem zd_14_73_32 : zz_D zy_cellAt_14_73 32 (.ireturn) 1 33 := ⟨by decide +kernel, rfl⟩
-- TensorForgeModel cellAt (IIII)I
abbrev zr_cellAt_14_73 : Room := { frames := 0, cells := 0, slots := 0, locals := 0 }
def zp_cellAt_14_73 (p0 : Int) (p1 : Int) (p2 : Int) (p3 : Int) (S0 : zz_S) : Int → zz_S → Prop := fun r S => S0 = S ∧ ((-2147483648) ≤ r ∧ r ≤ 2147483647)
theorem zc_cellAt_14_73 {g : mm_G} {l : Launch} (p0 : Int) (p1 : Int) (p2 : Int) (p3 : Int) (S0 : zz_S) (n : Nat) (hn : zz_end ≤ n) (G_S0 : zz_G S0) (hp0 : 0 ≤ p0 ∧ p0 ≤ 10) (hp1 : 0 ≤ p1 ∧ p1 ≤ 62) (hp2 : 0 ≤ p2 ∧ p2 ≤ 62) (hp3 : 0 ≤ p3 ∧ p3 ≤ 62) (hq1 : zz_tn S0 p0.toNat) (hy : p1 < S0 1102 p0.toNat) (hx : p2 < S0 1103 p0.toNat) (hc : p3 < S0 1104 p0.toNat) : mm_Met g l zy_cellAt_14_73 zr_cellAt_14_73 [.ref 1079, zi p0, zi p1, zi p2, zi p3] (zz_M S0 n) n (zz_QI n (zp_cellAt_14_73 p0 p1 p2 p3 S0)) := by
  refine zz_enter (by decide) (Nat.le_of_ble_eq_true rfl) (zz_less (ls1 := [some (.ref 1079), some (zi p0), some (zi p1), some (zi p2), some (zi p3)]) ⟨rfl, ⟨rfl, ⟨rfl, ⟨rfl, ⟨rfl, trivial⟩⟩⟩⟩⟩ ?_)
  refine zz_aload_n (x := 1079) rfl zd_14_73_0 ?_
  refine zz_getr (kd := 0) (z := 1080) zd_14_73_1 zf_Md_13 zT_1079 rfl (zz_ltn hn rfl) (zz_G.eq G_S0 1079 2 1080 rfl rfl) (by decide) 1080 rfl ?_
  refine zz_aload_n (x := 1079) rfl zd_14_73_4 ?_
  refine zz_getr (kd := 0) (z := 1105) zd_14_73_5 zf_Md_97 zT_1079 rfl (zz_ltn hn rfl) (zz_G.eq G_S0 1079 40 1105 rfl rfl) (by decide) 1105 rfl ?_
  refine zz_iload_n (x := p0) rfl zd_14_73_8 ?_
  have g1 := zz_G.r G_S0 1105 p0.toNat (0) (if p0.toNat = 0 then 0 else 10000000) rfl rfl
  refine zz_iald (z := S0 1105 p0.toNat) zd_14_73_9 zT_1105 rfl (zz_ltn hn rfl) (by decide) (by omega) rfl ?_
  refine zz_iload_n (x := p1) rfl zd_14_73_10 ?_
  refine zz_aload_n (x := 1079) rfl zd_14_73_11 ?_
  refine zz_getr (kd := 0) (z := 1103) zd_14_73_12 zf_Md_91 zT_1079 rfl (zz_ltn hn rfl) (zz_G.eq G_S0 1079 38 1103 rfl rfl) (by decide) 1103 rfl ?_
  refine zz_iload_n (x := p0) rfl zd_14_73_15 ?_
  have g2 := zz_G.r G_S0 1103 p0.toNat 0 63 rfl rfl
  refine zz_iald (z := S0 1103 p0.toNat) zd_14_73_16 zT_1103 rfl (zz_ltn hn rfl) (by decide) (by omega) rfl ?_
  refine zz_imul zd_14_73_17 ?_
  have m3 := zz_mulb (a := p1) (b := S0 1103 p0.toNat) 62 63 3906 (by omega) (by omega) (by decide)
  refine zz_iload_n (x := p2) rfl zd_14_73_18 ?_
  refine zz_iadd zd_14_73_19 ?_
  refine zz_aload_n (x := 1079) rfl zd_14_73_20 ?_
  refine zz_getr (kd := 0) (z := 1104) zd_14_73_21 zf_Md_94 zT_1079 rfl (zz_ltn hn rfl) (zz_G.eq G_S0 1079 39 1104 rfl rfl) (by decide) 1104 rfl ?_
  refine zz_iload_n (x := p0) rfl zd_14_73_24 ?_
  have g4 := zz_G.r G_S0 1104 p0.toNat 0 63 rfl rfl
  refine zz_iald (z := S0 1104 p0.toNat) zd_14_73_25 zT_1104 rfl (zz_ltn hn rfl) (by decide) (by omega) rfl ?_
  refine zz_imul zd_14_73_26 ?_
  have m5 := zz_mulb (a := (p1 * (S0 1103 p0.toNat)) + p2) (b := S0 1104 p0.toNat) 3968 63 249984 (by omega) (by omega) (by decide)
  refine zz_nme (fun v6 ev6 => ?_)
  refine zz_iadd zd_14_73_27 ?_
  refine zz_iload (x := p3) rfl zd_14_73_28 ?_
  refine zz_iadd zd_14_73_30 ?_
  have hn9 := hq1
  unfold zz_tn zz_sz at hn9
  have hx9 := zz_ix (h := S0 1102 p0.toNat) (w := S0 1103 p0.toNat) (c := S0 1104 p0.toNat) (y := p1) (x := p2) (k := p3) (F := S0 1105 p0.toNat) (B := 2048) (by omega) (by omega) (by omega) (by omega)
  have gf9 := zz_G.r G_S0 1105 p0.toNat (0) (if p0.toNat = 0 then 0 else 10000000) rfl rfl
  have g7 := zz_G.r G_S0 1080 ((((S0 1105 p0.toNat) + v6) + p3).toNat) (-2147483648) 2147483647 rfl rfl
  refine zz_iald (z := S0 1080 ((((S0 1105 p0.toNat) + v6) + p3).toNat)) zd_14_73_31 zT_1080 rfl (zz_ltn hn rfl) (by decide) (by omega) rfl ?_
  exact zz_iret zd_14_73_32 rfl (Nat.zero_le _) (Nat.zero_le _) ⟨_, _, rfl, rfl, by omega⟩
abbrev zy_convolved_14_74 : mm_Y := (⟨"TensorForgeModel", "convolved", "(IIII)I"⟩, prog_14_method_74_code, 13, (some .int))
theorem zyw_convolved_14_74 : mm_Yw zy_convolved_14_74 4 := ⟨mm_tb_1 2120 (by decide +kernel) rfl, mm_tb_1 12 (by decide +kernel) rfl, ⟨by decide, by decide⟩, by decide +kernel⟩
theorem zd_14_74_0 : zz_D zy_convolved_14_74 0 (.aload_n 0) 1 1 := ⟨by decide +kernel, rfl⟩
theorem zd_14_74_1 : zz_D zy_convolved_14_74 1 (.getfield 103) 3 4 := ⟨by decide +kernel, rfl⟩
theorem zd_14_74_4 : zz_D zy_convolved_14_74 4 (.iload_n 1) 1 5 := ⟨by decide +kernel, rfl⟩
theorem zd_14_74_5 : zz_D zy_convolved_14_74 5 (.iaload) 1 6 := ⟨by decide +kernel, rfl⟩
theorem zd_14_74_6 : zz_D zy_convolved_14_74 6 (.istore 5) 2 8 := ⟨by decide +kernel, rfl⟩
theorem zd_14_74_8 : zz_D zy_convolved_14_74 8 (.aload_n 0) 1 9 := ⟨by decide +kernel, rfl⟩
theorem zd_14_74_9 : zz_D zy_convolved_14_74 9 (.getfield 94) 3 12 := ⟨by decide +kernel, rfl⟩
theorem zd_14_74_12 : zz_D zy_convolved_14_74 12 (.iload_n 1) 1 13 := ⟨by decide +kernel, rfl⟩
theorem zd_14_74_13 : zz_D zy_convolved_14_74 13 (.iconst 1) 1 14 := ⟨by decide +kernel, rfl⟩
theorem zd_14_74_14 : zz_D zy_convolved_14_74 14 (.iadd) 1 15 := ⟨by decide +kernel, rfl⟩
theorem zd_14_74_15 : zz_D zy_convolved_14_74 15 (.iaload) 1 16 := ⟨by decide +kernel, rfl⟩
theorem zd_14_74_16 : zz_D zy_convolved_14_74 16 (.istore 6) 2 18 := ⟨by decide +kernel, rfl⟩
theorem zd_14_74_18 : zz_D zy_convolved_14_74 18 (.aload_n 0) 1 19 := ⟨by decide +kernel, rfl⟩
theorem zd_14_74_19 : zz_D zy_convolved_14_74 19 (.aload_n 0) 1 20 := ⟨by decide +kernel, rfl⟩
theorem zd_14_74_20 : zz_D zy_convolved_14_74 20 (.getfield 124) 3 23 := ⟨by decide +kernel, rfl⟩
theorem zd_14_74_23 : zz_D zy_convolved_14_74 23 (.iload_n 1) 1 24 := ⟨by decide +kernel, rfl⟩
theorem zd_14_74_24 : zz_D zy_convolved_14_74 24 (.iaload) 1 25 := ⟨by decide +kernel, rfl⟩
theorem zd_14_74_25 : zz_D zy_convolved_14_74 25 (.iconst 4) 1 26 := ⟨by decide +kernel, rfl⟩
theorem zd_14_74_26 : zz_D zy_convolved_14_74 26 (.iload 4) 2 28 := ⟨by decide +kernel, rfl⟩
theorem zd_14_74_28 : zz_D zy_convolved_14_74 28 (.imul) 1 29 := ⟨by decide +kernel, rfl⟩
theorem zd_14_74_29 : zz_D zy_convolved_14_74 29 (.iadd) 1 30 := ⟨by decide +kernel, rfl⟩
theorem zd_14_74_30 : zz_D zy_convolved_14_74 30 (.invokevirtual 258) 3 33 := ⟨by decide +kernel, rfl⟩
theorem zd_14_74_33 : zz_D zy_convolved_14_74 33 (.istore 7) 2 35 := ⟨by decide +kernel, rfl⟩
theorem zd_14_74_35 : zz_D zy_convolved_14_74 35 (.aload_n 0) 1 36 := ⟨by decide +kernel, rfl⟩
theorem zd_14_74_36 : zz_D zy_convolved_14_74 36 (.getfield 109) 3 39 := ⟨by decide +kernel, rfl⟩
theorem zd_14_74_39 : zz_D zy_convolved_14_74 39 (.iload_n 1) 1 40 := ⟨by decide +kernel, rfl⟩
theorem zd_14_74_40 : zz_D zy_convolved_14_74 40 (.iaload) 1 41 := ⟨by decide +kernel, rfl⟩
theorem zd_14_74_41 : zz_D zy_convolved_14_74 41 (.aload_n 0) 1 42 := ⟨by decide +kernel, rfl⟩
theorem zd_14_74_42 : zz_D zy_convolved_14_74 42 (.getfield 112) 3 45 := ⟨by decide +kernel, rfl⟩
theorem zd_14_74_45 : zz_D zy_convolved_14_74 45 (.iload_n 1) 1 46 := ⟨by decide +kernel, rfl⟩
theorem zd_14_74_46 : zz_D zy_convolved_14_74 46 (.iaload) 1 47 := ⟨by decide +kernel, rfl⟩
theorem zd_14_74_47 : zz_D zy_convolved_14_74 47 (.imul) 1 48 := ⟨by decide +kernel, rfl⟩
theorem zd_14_74_48 : zz_D zy_convolved_14_74 48 (.aload_n 0) 1 49 := ⟨by decide +kernel, rfl⟩
theorem zd_14_74_49 : zz_D zy_convolved_14_74 49 (.getfield 94) 3 52 := ⟨by decide +kernel, rfl⟩
theorem zd_14_74_52 : zz_D zy_convolved_14_74 52 (.iload 5) 2 54 := ⟨by decide +kernel, rfl⟩
theorem zd_14_74_54 : zz_D zy_convolved_14_74 54 (.iaload) 1 55 := ⟨by decide +kernel, rfl⟩
theorem zd_14_74_55 : zz_D zy_convolved_14_74 55 (.imul) 1 56 := ⟨by decide +kernel, rfl⟩
theorem zd_14_74_56 : zz_D zy_convolved_14_74 56 (.istore 8) 2 58 := ⟨by decide +kernel, rfl⟩
theorem zd_14_74_58 : zz_D zy_convolved_14_74 58 (.iconst 0) 1 59 := ⟨by decide +kernel, rfl⟩
theorem zd_14_74_59 : zz_D zy_convolved_14_74 59 (.istore 9) 2 61 := ⟨by decide +kernel, rfl⟩
theorem zd_14_74_61 : zz_D zy_convolved_14_74 61 (.iload 9) 2 63 := ⟨by decide +kernel, rfl⟩
theorem zd_14_74_63 : zz_D zy_convolved_14_74 63 (.iload 8) 2 65 := ⟨by decide +kernel, rfl⟩
theorem zd_14_74_65 : zz_B zy_convolved_14_74 65 (Instr.if_icmp .ge) 212 68 := ⟨147, by decide +kernel, rfl, rfl⟩
theorem zd_14_74_212 : zz_D zy_convolved_14_74 212 (.iload 7) 2 214 := ⟨by decide +kernel, rfl⟩
theorem zd_14_74_214 : zz_D zy_convolved_14_74 214 (.aload_n 0) 1 215 := ⟨by decide +kernel, rfl⟩
theorem zd_14_74_215 : zz_D zy_convolved_14_74 215 (.getfield 121) 3 218 := ⟨by decide +kernel, rfl⟩
theorem zd_14_74_218 : zz_D zy_convolved_14_74 218 (.iload_n 1) 1 219 := ⟨by decide +kernel, rfl⟩
theorem zd_14_74_219 : zz_D zy_convolved_14_74 219 (.iaload) 1 220 := ⟨by decide +kernel, rfl⟩
theorem zd_14_74_220 : zz_D zy_convolved_14_74 220 (.invokestatic 261) 3 223 := ⟨by decide +kernel, rfl⟩
theorem zd_14_74_223 : zz_D zy_convolved_14_74 223 (.ireturn) 1 224 := ⟨by decide +kernel, rfl⟩
theorem zd_14_74_68 : zz_D zy_convolved_14_74 68 (.iload 9) 2 70 := ⟨by decide +kernel, rfl⟩
theorem zd_14_74_70 : zz_D zy_convolved_14_74 70 (.aload_n 0) 1 71 := ⟨by decide +kernel, rfl⟩
theorem zd_14_74_71 : zz_D zy_convolved_14_74 71 (.getfield 94) 3 74 := ⟨by decide +kernel, rfl⟩
theorem zd_14_74_74 : zz_D zy_convolved_14_74 74 (.iload 5) 2 76 := ⟨by decide +kernel, rfl⟩
theorem zd_14_74_76 : zz_D zy_convolved_14_74 76 (.iaload) 1 77 := ⟨by decide +kernel, rfl⟩
theorem zd_14_74_77 : zz_D zy_convolved_14_74 77 (.irem) 1 78 := ⟨by decide +kernel, rfl⟩
theorem zd_14_74_78 : zz_D zy_convolved_14_74 78 (.istore 10) 2 80 := ⟨by decide +kernel, rfl⟩
theorem zd_14_74_80 : zz_D zy_convolved_14_74 80 (.aload_n 0) 1 81 := ⟨by decide +kernel, rfl⟩
theorem zd_14_74_81 : zz_D zy_convolved_14_74 81 (.getfield 115) 3 84 := ⟨by decide +kernel, rfl⟩
theorem zd_14_74_84 : zz_D zy_convolved_14_74 84 (.iload_n 1) 1 85 := ⟨by decide +kernel, rfl⟩
theorem zd_14_74_85 : zz_D zy_convolved_14_74 85 (.iaload) 1 86 := ⟨by decide +kernel, rfl⟩
theorem zd_14_74_86 : zz_D zy_convolved_14_74 86 (.iload_n 2) 1 87 := ⟨by decide +kernel, rfl⟩
theorem zd_14_74_87 : zz_D zy_convolved_14_74 87 (.imul) 1 88 := ⟨by decide +kernel, rfl⟩
theorem zd_14_74_88 : zz_D zy_convolved_14_74 88 (.iload 9) 2 90 := ⟨by decide +kernel, rfl⟩
theorem zd_14_74_90 : zz_D zy_convolved_14_74 90 (.aload_n 0) 1 91 := ⟨by decide +kernel, rfl⟩
theorem zd_14_74_91 : zz_D zy_convolved_14_74 91 (.getfield 94) 3 94 := ⟨by decide +kernel, rfl⟩
theorem zd_14_74_94 : zz_D zy_convolved_14_74 94 (.iload 5) 2 96 := ⟨by decide +kernel, rfl⟩
theorem zd_14_74_96 : zz_D zy_convolved_14_74 96 (.iaload) 1 97 := ⟨by decide +kernel, rfl⟩
theorem zd_14_74_97 : zz_D zy_convolved_14_74 97 (.idiv) 1 98 := ⟨by decide +kernel, rfl⟩
theorem zd_14_74_98 : zz_D zy_convolved_14_74 98 (.aload_n 0) 1 99 := ⟨by decide +kernel, rfl⟩
theorem zd_14_74_99 : zz_D zy_convolved_14_74 99 (.getfield 112) 3 102 := ⟨by decide +kernel, rfl⟩
theorem zd_14_74_102 : zz_D zy_convolved_14_74 102 (.iload_n 1) 1 103 := ⟨by decide +kernel, rfl⟩
theorem zd_14_74_103 : zz_D zy_convolved_14_74 103 (.iaload) 1 104 := ⟨by decide +kernel, rfl⟩
theorem zd_14_74_104 : zz_D zy_convolved_14_74 104 (.idiv) 1 105 := ⟨by decide +kernel, rfl⟩
theorem zd_14_74_105 : zz_D zy_convolved_14_74 105 (.iadd) 1 106 := ⟨by decide +kernel, rfl⟩
theorem zd_14_74_106 : zz_D zy_convolved_14_74 106 (.aload_n 0) 1 107 := ⟨by decide +kernel, rfl⟩
theorem zd_14_74_107 : zz_D zy_convolved_14_74 107 (.getfield 118) 3 110 := ⟨by decide +kernel, rfl⟩
theorem zd_14_74_110 : zz_D zy_convolved_14_74 110 (.iload_n 1) 1 111 := ⟨by decide +kernel, rfl⟩
theorem zd_14_74_111 : zz_D zy_convolved_14_74 111 (.iaload) 1 112 := ⟨by decide +kernel, rfl⟩
theorem zd_14_74_112 : zz_D zy_convolved_14_74 112 (.isub) 1 113 := ⟨by decide +kernel, rfl⟩
theorem zd_14_74_113 : zz_D zy_convolved_14_74 113 (.istore 11) 2 115 := ⟨by decide +kernel, rfl⟩
theorem zd_14_74_115 : zz_D zy_convolved_14_74 115 (.aload_n 0) 1 116 := ⟨by decide +kernel, rfl⟩
theorem zd_14_74_116 : zz_D zy_convolved_14_74 116 (.getfield 115) 3 119 := ⟨by decide +kernel, rfl⟩
theorem zd_14_74_119 : zz_D zy_convolved_14_74 119 (.iload_n 1) 1 120 := ⟨by decide +kernel, rfl⟩
theorem zd_14_74_120 : zz_D zy_convolved_14_74 120 (.iaload) 1 121 := ⟨by decide +kernel, rfl⟩
theorem zd_14_74_121 : zz_D zy_convolved_14_74 121 (.iload_n 3) 1 122 := ⟨by decide +kernel, rfl⟩
theorem zd_14_74_122 : zz_D zy_convolved_14_74 122 (.imul) 1 123 := ⟨by decide +kernel, rfl⟩
theorem zd_14_74_123 : zz_D zy_convolved_14_74 123 (.iload 9) 2 125 := ⟨by decide +kernel, rfl⟩
theorem zd_14_74_125 : zz_D zy_convolved_14_74 125 (.aload_n 0) 1 126 := ⟨by decide +kernel, rfl⟩
theorem zd_14_74_126 : zz_D zy_convolved_14_74 126 (.getfield 94) 3 129 := ⟨by decide +kernel, rfl⟩
theorem zd_14_74_129 : zz_D zy_convolved_14_74 129 (.iload 5) 2 131 := ⟨by decide +kernel, rfl⟩
theorem zd_14_74_131 : zz_D zy_convolved_14_74 131 (.iaload) 1 132 := ⟨by decide +kernel, rfl⟩
theorem zd_14_74_132 : zz_D zy_convolved_14_74 132 (.idiv) 1 133 := ⟨by decide +kernel, rfl⟩
theorem zd_14_74_133 : zz_D zy_convolved_14_74 133 (.aload_n 0) 1 134 := ⟨by decide +kernel, rfl⟩
theorem zd_14_74_134 : zz_D zy_convolved_14_74 134 (.getfield 112) 3 137 := ⟨by decide +kernel, rfl⟩
theorem zd_14_74_137 : zz_D zy_convolved_14_74 137 (.iload_n 1) 1 138 := ⟨by decide +kernel, rfl⟩
theorem zd_14_74_138 : zz_D zy_convolved_14_74 138 (.iaload) 1 139 := ⟨by decide +kernel, rfl⟩
theorem zd_14_74_139 : zz_D zy_convolved_14_74 139 (.irem) 1 140 := ⟨by decide +kernel, rfl⟩
theorem zd_14_74_140 : zz_D zy_convolved_14_74 140 (.iadd) 1 141 := ⟨by decide +kernel, rfl⟩
theorem zd_14_74_141 : zz_D zy_convolved_14_74 141 (.aload_n 0) 1 142 := ⟨by decide +kernel, rfl⟩
theorem zd_14_74_142 : zz_D zy_convolved_14_74 142 (.getfield 118) 3 145 := ⟨by decide +kernel, rfl⟩
theorem zd_14_74_145 : zz_D zy_convolved_14_74 145 (.iload_n 1) 1 146 := ⟨by decide +kernel, rfl⟩
theorem zd_14_74_146 : zz_D zy_convolved_14_74 146 (.iaload) 1 147 := ⟨by decide +kernel, rfl⟩
theorem zd_14_74_147 : zz_D zy_convolved_14_74 147 (.isub) 1 148 := ⟨by decide +kernel, rfl⟩
theorem zd_14_74_148 : zz_D zy_convolved_14_74 148 (.istore 12) 2 150 := ⟨by decide +kernel, rfl⟩
theorem zd_14_74_150 : zz_D zy_convolved_14_74 150 (.aload_n 0) 1 151 := ⟨by decide +kernel, rfl⟩
theorem zd_14_74_151 : zz_D zy_convolved_14_74 151 (.iload 5) 2 153 := ⟨by decide +kernel, rfl⟩
theorem zd_14_74_153 : zz_D zy_convolved_14_74 153 (.iload 11) 2 155 := ⟨by decide +kernel, rfl⟩
theorem zd_14_74_155 : zz_D zy_convolved_14_74 155 (.iload 12) 2 157 := ⟨by decide +kernel, rfl⟩
theorem zd_14_74_157 : zz_D zy_convolved_14_74 157 (.invokevirtual 434) 3 160 := ⟨by decide +kernel, rfl⟩
theorem zk_Md_434 : mm_Vl "TensorForgeModel" 434 11 3 zy_isThere_14_72 := ⟨zyw_isThere_14_72, (R_Md, F_Md, 69), rfl, mm_tb_1 2121 (by decide +kernel) rfl, mm_tb_1 2123 (by decide +kernel) rfl, mm_tb_s 124 (by decide +kernel) rfl⟩
theorem zd_14_74_160 : zz_B zy_convolved_14_74 160 (Instr.ifCond .eq) 206 163 := ⟨46, by decide +kernel, rfl, rfl⟩
theorem zd_14_74_206 : zz_D zy_convolved_14_74 206 (.iinc 9 1) 3 209 := ⟨by decide +kernel, rfl⟩
theorem zd_14_74_209 : zz_B zy_convolved_14_74 209 Instr.goto 61 212 := ⟨(-148), by decide +kernel, rfl, rfl⟩
theorem zd_14_74_163 : zz_D zy_convolved_14_74 163 (.iload 7) 2 165 := ⟨by decide +kernel, rfl⟩
theorem zd_14_74_165 : zz_D zy_convolved_14_74 165 (.aload_n 0) 1 166 := ⟨by decide +kernel, rfl⟩
theorem zd_14_74_166 : zz_D zy_convolved_14_74 166 (.getfield 13) 3 169 := ⟨by decide +kernel, rfl⟩
theorem zd_14_74_169 : zz_D zy_convolved_14_74 169 (.aload_n 0) 1 170 := ⟨by decide +kernel, rfl⟩
theorem zd_14_74_170 : zz_D zy_convolved_14_74 170 (.getfield 124) 3 173 := ⟨by decide +kernel, rfl⟩
theorem zd_14_74_173 : zz_D zy_convolved_14_74 173 (.iload_n 1) 1 174 := ⟨by decide +kernel, rfl⟩
theorem zd_14_74_174 : zz_D zy_convolved_14_74 174 (.iaload) 1 175 := ⟨by decide +kernel, rfl⟩
theorem zd_14_74_175 : zz_D zy_convolved_14_74 175 (.iconst 4) 1 176 := ⟨by decide +kernel, rfl⟩
theorem zd_14_74_176 : zz_D zy_convolved_14_74 176 (.iload 6) 2 178 := ⟨by decide +kernel, rfl⟩
theorem zd_14_74_178 : zz_D zy_convolved_14_74 178 (.imul) 1 179 := ⟨by decide +kernel, rfl⟩
theorem zd_14_74_179 : zz_D zy_convolved_14_74 179 (.iadd) 1 180 := ⟨by decide +kernel, rfl⟩
theorem zd_14_74_180 : zz_D zy_convolved_14_74 180 (.iload 9) 2 182 := ⟨by decide +kernel, rfl⟩
theorem zd_14_74_182 : zz_D zy_convolved_14_74 182 (.iload 6) 2 184 := ⟨by decide +kernel, rfl⟩
theorem zd_14_74_184 : zz_D zy_convolved_14_74 184 (.imul) 1 185 := ⟨by decide +kernel, rfl⟩
theorem zd_14_74_185 : zz_D zy_convolved_14_74 185 (.iadd) 1 186 := ⟨by decide +kernel, rfl⟩
theorem zd_14_74_186 : zz_D zy_convolved_14_74 186 (.iload 4) 2 188 := ⟨by decide +kernel, rfl⟩
theorem zd_14_74_188 : zz_D zy_convolved_14_74 188 (.iadd) 1 189 := ⟨by decide +kernel, rfl⟩
theorem zd_14_74_189 : zz_D zy_convolved_14_74 189 (.iaload) 1 190 := ⟨by decide +kernel, rfl⟩
theorem zd_14_74_190 : zz_D zy_convolved_14_74 190 (.aload_n 0) 1 191 := ⟨by decide +kernel, rfl⟩
theorem zd_14_74_191 : zz_D zy_convolved_14_74 191 (.iload 5) 2 193 := ⟨by decide +kernel, rfl⟩
theorem zd_14_74_193 : zz_D zy_convolved_14_74 193 (.iload 11) 2 195 := ⟨by decide +kernel, rfl⟩
theorem zd_14_74_195 : zz_D zy_convolved_14_74 195 (.iload 12) 2 197 := ⟨by decide +kernel, rfl⟩
theorem zd_14_74_197 : zz_D zy_convolved_14_74 197 (.iload 10) 2 199 := ⟨by decide +kernel, rfl⟩
theorem zd_14_74_199 : zz_D zy_convolved_14_74 199 (.invokevirtual 438) 3 202 := ⟨by decide +kernel, rfl⟩
theorem zk_Md_438 : mm_Vl "TensorForgeModel" 438 11 4 zy_cellAt_14_73 := ⟨zyw_cellAt_14_73, (R_Md, F_Md, 69), rfl, mm_tb_1 2125 (by decide +kernel) rfl, mm_tb_1 2127 (by decide +kernel) rfl, mm_tb_s 125 (by decide +kernel) rfl⟩
theorem zd_14_74_202 : zz_D zy_convolved_14_74 202 (.imul) 1 203 := ⟨by decide +kernel, rfl⟩
theorem zd_14_74_203 : zz_D zy_convolved_14_74 203 (.iadd) 1 204 := ⟨by decide +kernel, rfl⟩
theorem zd_14_74_204 : zz_D zy_convolved_14_74 204 (.istore 7) 2 206 := ⟨by decide +kernel, rfl⟩
-- TensorForgeModel convolved (IIII)I
abbrev zr_convolved_14_74 : Room := { frames := 2, cells := 0, slots := 0, locals := 32 }
def zp_convolved_14_74 (p0 : Int) (p1 : Int) (p2 : Int) (p3 : Int) (S0 : zz_S) : Int → zz_S → Prop := fun r S => S0 = S ∧ ((-2147483648) ≤ r ∧ r ≤ 2147483647)
theorem zb_convolved_14_74_61 {g : mm_G} {l : Launch} (p0 : Int) (p1 : Int) (p2 : Int) (p3 : Int) (S0 : zz_S) (n : Nat) (hn : zz_end ≤ n) (G_S0 : zz_G S0) (hp0 : 0 ≤ p0 ∧ p0 ≤ 9) (hp1 : 0 ≤ p1 ∧ p1 ≤ 62) (hp2 : 0 ≤ p2 ∧ p2 ≤ 62) (hp3 : 0 ≤ p3 ∧ p3 ≤ 62) (R_S0 : zz_Hr S0) (hl : p0 + 1 < S0 1079 36) (hk : S0 1106 p0.toNat = 0) (ho : p3 < S0 1104 (p0 + 1).toNat) (x7 : Int) (x8 : Int) (x9 : Int) (S : zz_S) (G_S : zz_G S) (F_S : zz_fr [] [] (fun _ _ => False) S0 S) (i61_0 : (-2147483648) ≤ x7 ∧ x7 ≤ 2147483647) (i61_1 : 0 ≤ x8 ∧ x8 ≤ 567) (i61_2 : 0 ≤ x9 ∧ x9 ≤ 567) (i61_3 : x8 = (S0 1109 p0.toNat * S0 1110 p0.toNat) * S0 1104 (S0 1107 p0.toNat).toNat) (R : Nat) (hR : (x8 - x9).toNat = R) (k61 : ∀ (x7 : Int) (x8 : Int) (x9 : Int) (S : zz_S), zz_G S → zz_fr [] [] (fun _ _ => False) S0 S → ((-2147483648) ≤ x7 ∧ x7 ≤ 2147483647) → (0 ≤ x8 ∧ x8 ≤ 567) → (0 ≤ x9 ∧ x9 ≤ 567) → (x8 = (S0 1109 p0.toNat * S0 1110 p0.toNat) * S0 1104 (S0 1107 p0.toNat).toNat) → (x8 - x9).toNat < R → zz_E g l zy_convolved_14_74 zr_convolved_14_74 (zz_QI n (zp_convolved_14_74 p0 p1 p2 p3 S0)) S n 61 [some (.ref 1079), some (zi p0), some (zi p1), some (zi p2), some (zi p3), some (zi (S0 1107 p0.toNat)), some (zi (S0 1104 ((p0 + 1).toNat))), some (zi x7), some (zi x8), some (zi x9)] [] 0 0) : zz_E g l zy_convolved_14_74 zr_convolved_14_74 (zz_QI n (zp_convolved_14_74 p0 p1 p2 p3 S0)) S n 61 [some (.ref 1079), some (zi p0), some (zi p1), some (zi p2), some (zi p3), some (zi (S0 1107 p0.toNat)), some (zi (S0 1104 ((p0 + 1).toNat))), some (zi x7), some (zi x8), some (zi x9)] [] 0 0 := by
  have hb9 := R_S0.2 p0.toNat (by omega)
  unfold zz_la at hb9
  have hone := hb9.1
  have hk9 := hb9.2.1 (by omega)
  have h5 : 1 ≤ S0 1110 p0.toNat := hk9.2.1
  have go9 := zz_G.r G_S0 1107 p0.toNat 0 10 rfl rfl
  have ht9 := R_S0.1 (S0 1107 p0.toNat).toNat (by omega)
  unfold zz_tn at ht9
  have h4 : 1 ≤ S0 1104 (S0 1107 p0.toNat).toNat := ht9.2.2.1
  clear hb9 hk9 ht9
  have R_S : zz_Hr S := (zz_fr.eq F_S) ▸ R_S0
  refine zz_iload (x := x9) rfl zd_14_74_61 ?_
  refine zz_iload (x := x8) rfl zd_14_74_63 ?_
  refine zz_icmp_ge (by omega) (by omega) zd_14_74_65 (fun c13 => ?_) (fun c13 => ?_)
  · refine zz_iload (x := x7) rfl zd_14_74_212 ?_
    refine zz_aload_n (x := 1079) rfl zd_14_74_214 ?_
    refine zz_getr (kd := 0) (z := 1113) zd_14_74_215 zf_Md_121 zT_1079 rfl (zz_ltn hn rfl) (zz_G.eq G_S 1079 48 1113 rfl rfl) (by decide) 1113 rfl ?_
    refine zz_iload_n (x := p0) rfl zd_14_74_218 ?_
    have g14 := zz_G.r G_S0 1113 p0.toNat 0 31 rfl rfl
    refine zz_iald (z := S0 1113 p0.toNat) zd_14_74_219 zT_1113 rfl (zz_ltn hn rfl) (by decide) (by omega) (zz_rc F_S (zz_nc1 rfl) rfl (fun h => h) rfl) ?_
    refine zz_callSI [zi x7, zi (S0 1113 p0.toNat)] zd_14_74_220 zk_Md_261 rfl rfl ⟨Nat.le_of_ble_eq_true rfl, Nat.le_of_ble_eq_true rfl⟩ ⟨rfl, rfl⟩ (Nat.zero_le _) (Nat.zero_le _) (zc_narrowed_14_26 x7 (S0 1113 p0.toNat) S n hn G_S (by omega) (by omega)) (fun v16 S15 hP => ?_)
    obtain ⟨rfl, o17⟩ := hP
    exact zz_iret zd_14_74_223 rfl (Nat.zero_le _) (Nat.zero_le _) ⟨_, _, rfl, zz_fr.eq F_S, by omega⟩
  · refine zz_iload (x := x9) rfl zd_14_74_68 ?_
    refine zz_aload_n (x := 1079) rfl zd_14_74_70 ?_
    refine zz_getr (kd := 0) (z := 1104) zd_14_74_71 zf_Md_94 zT_1079 rfl (zz_ltn hn rfl) (zz_G.eq G_S 1079 39 1104 rfl rfl) (by decide) 1104 rfl ?_
    refine zz_iload (x := S0 1107 p0.toNat) rfl zd_14_74_74 ?_
    have g18 := zz_G.r G_S0 1104 ((S0 1107 p0.toNat).toNat) 0 63 rfl rfl
    refine zz_iald (z := S0 1104 ((S0 1107 p0.toNat).toNat)) zd_14_74_76 zT_1104 rfl (zz_ltn hn rfl) (by decide) (by omega) (zz_rc F_S (zz_nc1 rfl) rfl (fun h => h) rfl) ?_
    refine zz_irem (by omega) (by omega) zd_14_74_77 (fun v19 hv19 av19 bv19 cv19 => ?_)
    obtain rfl : v19 = x9 % (S0 1104 ((S0 1107 p0.toNat).toNat)) := by omega
    refine zz_istore [some (.ref 1079), some (zi p0), some (zi p1), some (zi p2), some (zi p3), some (zi (S0 1107 p0.toNat)), some (zi (S0 1104 ((p0 + 1).toNat))), some (zi x7), some (zi x8), some (zi x9), some (zi (x9 % (S0 1104 ((S0 1107 p0.toNat).toNat))))] zd_14_74_78 (by decide) rfl ?_
    refine zz_aload_n (x := 1079) rfl zd_14_74_80 ?_
    refine zz_getr (kd := 0) (z := 1111) zd_14_74_81 zf_Md_115 zT_1079 rfl (zz_ltn hn rfl) (zz_G.eq G_S 1079 46 1111 rfl rfl) (by decide) 1111 rfl ?_
    refine zz_iload_n (x := p0) rfl zd_14_74_84 ?_
    have g20 := zz_G.r G_S0 1111 p0.toNat 0 3 rfl rfl
    refine zz_iald (z := S0 1111 p0.toNat) zd_14_74_85 zT_1111 rfl (zz_ltn hn rfl) (by decide) (by omega) (zz_rc F_S (zz_nc1 rfl) rfl (fun h => h) rfl) ?_
    refine zz_iload_n (x := p1) rfl zd_14_74_86 ?_
    refine zz_imul zd_14_74_87 ?_
    have m21 := zz_mulb (a := S0 1111 p0.toNat) (b := p1) 3 62 186 (by omega) (by omega) (by decide)
    refine zz_iload (x := x9) rfl zd_14_74_88 ?_
    refine zz_aload_n (x := 1079) rfl zd_14_74_90 ?_
    refine zz_getr (kd := 0) (z := 1104) zd_14_74_91 zf_Md_94 zT_1079 rfl (zz_ltn hn rfl) (zz_G.eq G_S 1079 39 1104 rfl rfl) (by decide) 1104 rfl ?_
    refine zz_iload (x := S0 1107 p0.toNat) rfl zd_14_74_94 ?_
    refine zz_iald (z := S0 1104 ((S0 1107 p0.toNat).toNat)) zd_14_74_96 zT_1104 rfl (zz_ltn hn rfl) (by decide) (by omega) (zz_rc F_S (zz_nc1 rfl) rfl (fun h => h) rfl) ?_
    refine zz_idiv (by omega) (by omega) zd_14_74_97 (fun v22 hv22 av22 bv22 cv22 => ?_)
    have m23 := zz_divb (by omega) (by omega) av22
    obtain rfl : v22 = x9 / (S0 1104 ((S0 1107 p0.toNat).toNat)) := by omega
    refine zz_aload_n (x := 1079) rfl zd_14_74_98 ?_
    refine zz_getr (kd := 0) (z := 1110) zd_14_74_99 zf_Md_112 zT_1079 rfl (zz_ltn hn rfl) (zz_G.eq G_S 1079 45 1110 rfl rfl) (by decide) 1110 rfl ?_
    refine zz_iload_n (x := p0) rfl zd_14_74_102 ?_
    have g24 := zz_G.r G_S0 1110 p0.toNat 0 3 rfl rfl
    refine zz_iald (z := S0 1110 p0.toNat) zd_14_74_103 zT_1110 rfl (zz_ltn hn rfl) (by decide) (by omega) (zz_rc F_S (zz_nc1 rfl) rfl (fun h => h) rfl) ?_
    refine zz_idiv (by omega) (by omega) zd_14_74_104 (fun v25 hv25 av25 bv25 cv25 => ?_)
    have m26 := zz_divb (by omega) (by omega) av25
    obtain rfl : v25 = (x9 / (S0 1104 ((S0 1107 p0.toNat).toNat))) / (S0 1110 p0.toNat) := by omega
    refine zz_iadd zd_14_74_105 ?_
    refine zz_nme (fun v27 ev27 => ?_)
    refine zz_aload_n (x := 1079) rfl zd_14_74_106 ?_
    refine zz_getr (kd := 0) (z := 1112) zd_14_74_107 zf_Md_118 zT_1079 rfl (zz_ltn hn rfl) (zz_G.eq G_S 1079 47 1112 rfl rfl) (by decide) 1112 rfl ?_
    refine zz_iload_n (x := p0) rfl zd_14_74_110 ?_
    have g28 := zz_G.r G_S0 1112 p0.toNat 0 1 rfl rfl
    refine zz_iald (z := S0 1112 p0.toNat) zd_14_74_111 zT_1112 rfl (zz_ltn hn rfl) (by decide) (by omega) (zz_rc F_S (zz_nc1 rfl) rfl (fun h => h) rfl) ?_
    refine zz_isub zd_14_74_112 ?_
    refine zz_istore [some (.ref 1079), some (zi p0), some (zi p1), some (zi p2), some (zi p3), some (zi (S0 1107 p0.toNat)), some (zi (S0 1104 ((p0 + 1).toNat))), some (zi x7), some (zi x8), some (zi x9), some (zi (x9 % (S0 1104 ((S0 1107 p0.toNat).toNat)))), some (zi (v27 - (S0 1112 p0.toNat)))] zd_14_74_113 (by decide) rfl ?_
    refine zz_aload_n (x := 1079) rfl zd_14_74_115 ?_
    refine zz_getr (kd := 0) (z := 1111) zd_14_74_116 zf_Md_115 zT_1079 rfl (zz_ltn hn rfl) (zz_G.eq G_S 1079 46 1111 rfl rfl) (by decide) 1111 rfl ?_
    refine zz_iload_n (x := p0) rfl zd_14_74_119 ?_
    refine zz_iald (z := S0 1111 p0.toNat) zd_14_74_120 zT_1111 rfl (zz_ltn hn rfl) (by decide) (by omega) (zz_rc F_S (zz_nc1 rfl) rfl (fun h => h) rfl) ?_
    refine zz_iload_n (x := p2) rfl zd_14_74_121 ?_
    refine zz_imul zd_14_74_122 ?_
    have m29 := zz_mulb (a := S0 1111 p0.toNat) (b := p2) 3 62 186 (by omega) (by omega) (by decide)
    refine zz_iload (x := x9) rfl zd_14_74_123 ?_
    refine zz_aload_n (x := 1079) rfl zd_14_74_125 ?_
    refine zz_getr (kd := 0) (z := 1104) zd_14_74_126 zf_Md_94 zT_1079 rfl (zz_ltn hn rfl) (zz_G.eq G_S 1079 39 1104 rfl rfl) (by decide) 1104 rfl ?_
    refine zz_iload (x := S0 1107 p0.toNat) rfl zd_14_74_129 ?_
    refine zz_iald (z := S0 1104 ((S0 1107 p0.toNat).toNat)) zd_14_74_131 zT_1104 rfl (zz_ltn hn rfl) (by decide) (by omega) (zz_rc F_S (zz_nc1 rfl) rfl (fun h => h) rfl) ?_
    refine zz_idiv (by omega) (by omega) zd_14_74_132 (fun v30 hv30 av30 bv30 cv30 => ?_)
    have m31 := zz_divb (by omega) (by omega) av30
    obtain rfl : v30 = x9 / (S0 1104 ((S0 1107 p0.toNat).toNat)) := by omega
    refine zz_aload_n (x := 1079) rfl zd_14_74_133 ?_
    refine zz_getr (kd := 0) (z := 1110) zd_14_74_134 zf_Md_112 zT_1079 rfl (zz_ltn hn rfl) (zz_G.eq G_S 1079 45 1110 rfl rfl) (by decide) 1110 rfl ?_
    refine zz_iload_n (x := p0) rfl zd_14_74_137 ?_
    refine zz_iald (z := S0 1110 p0.toNat) zd_14_74_138 zT_1110 rfl (zz_ltn hn rfl) (by decide) (by omega) (zz_rc F_S (zz_nc1 rfl) rfl (fun h => h) rfl) ?_
    refine zz_irem (by omega) (by omega) zd_14_74_139 (fun v32 hv32 av32 bv32 cv32 => ?_)
    obtain rfl : v32 = (x9 / (S0 1104 ((S0 1107 p0.toNat).toNat))) % (S0 1110 p0.toNat) := by omega
    refine zz_iadd zd_14_74_140 ?_
    refine zz_nme (fun v33 ev33 => ?_)
    refine zz_aload_n (x := 1079) rfl zd_14_74_141 ?_
    refine zz_getr (kd := 0) (z := 1112) zd_14_74_142 zf_Md_118 zT_1079 rfl (zz_ltn hn rfl) (zz_G.eq G_S 1079 47 1112 rfl rfl) (by decide) 1112 rfl ?_
    refine zz_iload_n (x := p0) rfl zd_14_74_145 ?_
    refine zz_iald (z := S0 1112 p0.toNat) zd_14_74_146 zT_1112 rfl (zz_ltn hn rfl) (by decide) (by omega) (zz_rc F_S (zz_nc1 rfl) rfl (fun h => h) rfl) ?_
    refine zz_isub zd_14_74_147 ?_
    refine zz_istore [some (.ref 1079), some (zi p0), some (zi p1), some (zi p2), some (zi p3), some (zi (S0 1107 p0.toNat)), some (zi (S0 1104 ((p0 + 1).toNat))), some (zi x7), some (zi x8), some (zi x9), some (zi (x9 % (S0 1104 ((S0 1107 p0.toNat).toNat)))), some (zi (v27 - (S0 1112 p0.toNat))), some (zi (v33 - (S0 1112 p0.toNat)))] zd_14_74_148 (by decide) rfl ?_
    refine zz_aload_n (x := 1079) rfl zd_14_74_150 ?_
    refine zz_iload (x := S0 1107 p0.toNat) rfl zd_14_74_151 ?_
    refine zz_iload (x := v27 - (S0 1112 p0.toNat)) rfl zd_14_74_153 ?_
    refine zz_iload (x := v33 - (S0 1112 p0.toNat)) rfl zd_14_74_155 ?_
    have g34 := zz_G.r G_S0 1102 ((S0 1107 p0.toNat).toNat) 0 63 rfl rfl
    have e35 : S 1102 (S0 1107 p0.toNat).toNat = S0 1102 (S0 1107 p0.toNat).toNat := (zz_rc F_S (zz_nc1 rfl) rfl (fun h => h) rfl)
    have g36 := zz_G.r G_S0 1103 ((S0 1107 p0.toNat).toNat) 0 63 rfl rfl
    have e37 : S 1103 (S0 1107 p0.toNat).toNat = S0 1103 (S0 1107 p0.toNat).toNat := (zz_rc F_S (zz_nc1 rfl) rfl (fun h => h) rfl)
    refine zz_callVI [zi (S0 1107 p0.toNat), zi (v27 - (S0 1112 p0.toNat)), zi (v33 - (S0 1112 p0.toNat))] zd_14_74_157 zk_Md_434 zT_1079 (zz_ltn hn rfl) rfl rfl ⟨Nat.le_of_ble_eq_true rfl, Nat.le_of_ble_eq_true rfl⟩ ⟨rfl, rfl⟩ (Nat.zero_le _) (Nat.zero_le _) (zc_isThere_14_72 (S0 1107 p0.toNat) (v27 - (S0 1112 p0.toNat)) (v33 - (S0 1112 p0.toNat)) S n hn G_S (by omega) (by omega) (by omega)) (fun v39 S38 hP => ?_)
    obtain ⟨rfl, o40, o41⟩ := hP
    rcases (by omega : v39 = 0 ∨ v39 = 1) with rfl | rfl
    · refine zz_if_eq (by omega) zd_14_74_160 (fun c42 => ?_) (fun c42 => ?_)
      · refine zz_iinc [some (.ref 1079), some (zi p0), some (zi p1), some (zi p2), some (zi p3), some (zi (S0 1107 p0.toNat)), some (zi (S0 1104 ((p0 + 1).toNat))), some (zi x7), some (zi x8), some (zi (x9 + 1)), some (zi (x9 % (S0 1104 ((S0 1107 p0.toNat).toNat)))), some (zi (v27 - (S0 1112 p0.toNat))), some (zi (v33 - (S0 1112 p0.toNat)))] zd_14_74_206 rfl rfl ?_
        refine zz_goto zd_14_74_209 ?_
        refine zz_less (ls1 := [some (.ref 1079), some (zi p0), some (zi p1), some (zi p2), some (zi p3), some (zi (S0 1107 p0.toNat)), some (zi (S0 1104 ((p0 + 1).toNat))), some (zi x7), some (zi x8), some (zi (x9 + 1))]) ⟨rfl, ⟨rfl, ⟨rfl, ⟨rfl, ⟨rfl, ⟨rfl, ⟨rfl, ⟨rfl, ⟨rfl, ⟨rfl, trivial⟩⟩⟩⟩⟩⟩⟩⟩⟩⟩ ?_
        exact k61 x7 x8 (x9 + 1) S G_S F_S (by omega) (by omega) (by omega) i61_3 (by omega)
      · exfalso; omega
    · refine zz_if_eq (by omega) zd_14_74_160 (fun c43 => ?_) (fun c43 => ?_)
      · exfalso; omega
      · refine zz_iload (x := x7) rfl zd_14_74_163 ?_
        refine zz_aload_n (x := 1079) rfl zd_14_74_165 ?_
        refine zz_getr (kd := 0) (z := 1080) zd_14_74_166 zf_Md_13 zT_1079 rfl (zz_ltn hn rfl) (zz_G.eq G_S 1079 2 1080 rfl rfl) (by decide) 1080 rfl ?_
        refine zz_aload_n (x := 1079) rfl zd_14_74_169 ?_
        refine zz_getr (kd := 0) (z := 1114) zd_14_74_170 zf_Md_124 zT_1079 rfl (zz_ltn hn rfl) (zz_G.eq G_S 1079 49 1114 rfl rfl) (by decide) 1114 rfl ?_
        refine zz_iload_n (x := p0) rfl zd_14_74_173 ?_
        have g44 := zz_G.r G_S0 1114 p0.toNat 0 4096 rfl rfl
        refine zz_iald (z := S0 1114 p0.toNat) zd_14_74_174 zT_1114 rfl (zz_ltn hn rfl) (by decide) (by omega) (zz_rc F_S (zz_nc1 rfl) rfl (fun h => h) rfl) ?_
        refine zz_iconst zd_14_74_175 ?_
        refine zz_iload (x := S0 1104 ((p0 + 1).toNat)) rfl zd_14_74_176 ?_
        refine zz_imul zd_14_74_178 ?_
        refine zz_nrm (fun v45 hv45 ev45 => ?_)
        refine zz_iadd zd_14_74_179 ?_
        refine zz_nrm (fun v46 hv46 ev46 => ?_)
        refine zz_iload (x := x9) rfl zd_14_74_180 ?_
        refine zz_iload (x := S0 1104 ((p0 + 1).toNat)) rfl zd_14_74_182 ?_
        refine zz_imul zd_14_74_184 ?_
        refine zz_nrm (fun v47 hv47 ev47 => ?_)
        refine zz_iadd zd_14_74_185 ?_
        refine zz_nrm (fun v48 hv48 ev48 => ?_)
        refine zz_iload (x := p3) rfl zd_14_74_186 ?_
        have hb9 := R_S0.2 p0.toNat (by omega)
        unfold zz_la at hb9
        have hk9 := hb9.2.1 (by omega)
        rw [show p0.toNat + 1 = (p0 + 1).toNat by omega] at hk9
        have gr9 := zz_G.r G_S0 1109 p0.toNat 0 3 rfl rfl
        have hm9 : 0 ≤ (S0 1109 p0.toNat * S0 1110 p0.toNat) * S0 1104 (S0 1107 p0.toNat).toNat := Int.mul_nonneg (Int.mul_nonneg (by omega) (by omega)) (by omega)
        have hv9 := (zz_cv (P := S0 1114 p0.toNat) (C := S0 1104 (p0 + 1).toNat) (m := (S0 1109 p0.toNat * S0 1110 p0.toNat) * S0 1104 (S0 1107 p0.toNat).toNat) (o := p3) (k := x9) hk9.2.2 (by omega) hm9).2 (by omega)
        clear hb9 hk9 hm9
        refine zz_iadd zd_14_74_188 ?_
        refine zz_nrm (fun v49 hv49 ev49 => ?_)
        have g50 := zz_G.r G_S0 1080 v49.toNat (-2147483648) 2147483647 rfl rfl
        refine zz_iald (z := S0 1080 v49.toNat) zd_14_74_189 zT_1080 rfl (zz_ltn hn rfl) (by decide) (by omega) (zz_rc F_S (zz_nc1 rfl) rfl (fun h => h) rfl) ?_
        clear hv9
        refine zz_aload_n (x := 1079) rfl zd_14_74_190 ?_
        refine zz_iload (x := S0 1107 p0.toNat) rfl zd_14_74_191 ?_
        refine zz_iload (x := v27 - (S0 1112 p0.toNat)) rfl zd_14_74_193 ?_
        refine zz_iload (x := v33 - (S0 1112 p0.toNat)) rfl zd_14_74_195 ?_
        refine zz_iload (x := x9 % (S0 1104 ((S0 1107 p0.toNat).toNat))) rfl zd_14_74_197 ?_
        have hd9 := (zz_dm (k := x9) (a := S0 1109 p0.toNat * S0 1110 p0.toNat) (b := S0 1104 (S0 1107 p0.toNat).toNat) (by omega) (by omega)).2
        have e51 : S 1104 (S0 1107 p0.toNat).toNat = S0 1104 (S0 1107 p0.toNat).toNat := (zz_rc F_S (zz_nc1 rfl) rfl (fun h => h) rfl)
        refine zz_callVI [zi (S0 1107 p0.toNat), zi (v27 - (S0 1112 p0.toNat)), zi (v33 - (S0 1112 p0.toNat)), zi (x9 % (S0 1104 ((S0 1107 p0.toNat).toNat)))] zd_14_74_199 zk_Md_438 zT_1079 (zz_ltn hn rfl) rfl rfl ⟨Nat.le_of_ble_eq_true rfl, Nat.le_of_ble_eq_true rfl⟩ ⟨rfl, rfl⟩ (Nat.zero_le _) (Nat.zero_le _) (zc_cellAt_14_73 (S0 1107 p0.toNat) (v27 - (S0 1112 p0.toNat)) (v33 - (S0 1112 p0.toNat)) (x9 % (S0 1104 ((S0 1107 p0.toNat).toNat))) S n hn G_S (by omega) (by omega) (by omega) (by omega) (R_S.1 (S0 1107 p0.toNat).toNat (by omega)) (by omega) (by omega) (by omega)) (fun v53 S52 hP => ?_)
        obtain ⟨rfl, o54⟩ := hP
        refine zz_imul zd_14_74_202 ?_
        refine zz_nrm (fun v55 hv55 ev55 => ?_)
        refine zz_iadd zd_14_74_203 ?_
        refine zz_nrm (fun v56 hv56 ev56 => ?_)
        refine zz_istore [some (.ref 1079), some (zi p0), some (zi p1), some (zi p2), some (zi p3), some (zi (S0 1107 p0.toNat)), some (zi (S0 1104 ((p0 + 1).toNat))), some (zi v56), some (zi x8), some (zi x9), some (zi (x9 % (S0 1104 ((S0 1107 p0.toNat).toNat)))), some (zi (v27 - (S0 1112 p0.toNat))), some (zi (v33 - (S0 1112 p0.toNat)))] zd_14_74_204 (by decide) rfl ?_
        refine zz_iinc [some (.ref 1079), some (zi p0), some (zi p1), some (zi p2), some (zi p3), some (zi (S0 1107 p0.toNat)), some (zi (S0 1104 ((p0 + 1).toNat))), some (zi v56), some (zi x8), some (zi (x9 + 1)), some (zi (x9 % (S0 1104 ((S0 1107 p0.toNat).toNat)))), some (zi (v27 - (S0 1112 p0.toNat))), some (zi (v33 - (S0 1112 p0.toNat)))] zd_14_74_206 rfl rfl ?_
        refine zz_goto zd_14_74_209 ?_
        refine zz_less (ls1 := [some (.ref 1079), some (zi p0), some (zi p1), some (zi p2), some (zi p3), some (zi (S0 1107 p0.toNat)), some (zi (S0 1104 ((p0 + 1).toNat))), some (zi v56), some (zi x8), some (zi (x9 + 1))]) ⟨rfl, ⟨rfl, ⟨rfl, ⟨rfl, ⟨rfl, ⟨rfl, ⟨rfl, ⟨rfl, ⟨rfl, ⟨rfl, trivial⟩⟩⟩⟩⟩⟩⟩⟩⟩⟩ ?_
        exact k61 v56 x8 (x9 + 1) S G_S F_S (by omega) (by omega) (by omega) i61_3 (by omega)
theorem zi_convolved_14_74 {g : mm_G} {l : Launch} (p0 : Int) (p1 : Int) (p2 : Int) (p3 : Int) (S0 : zz_S) (n : Nat) (hn : zz_end ≤ n) (G_S0 : zz_G S0) (hp0 : 0 ≤ p0 ∧ p0 ≤ 9) (hp1 : 0 ≤ p1 ∧ p1 ≤ 62) (hp2 : 0 ≤ p2 ∧ p2 ≤ 62) (hp3 : 0 ≤ p3 ∧ p3 ≤ 62) (R_S0 : zz_Hr S0) (hl : p0 + 1 < S0 1079 36) (hk : S0 1106 p0.toNat = 0) (ho : p3 < S0 1104 (p0 + 1).toNat) : ∀ N : Nat, (∀ (x7 : Int) (x8 : Int) (x9 : Int) (S : zz_S), zz_G S → zz_fr [] [] (fun _ _ => False) S0 S → ((-2147483648) ≤ x7 ∧ x7 ≤ 2147483647) → (0 ≤ x8 ∧ x8 ≤ 567) → (0 ≤ x9 ∧ x9 ≤ 567) → (x8 = (S0 1109 p0.toNat * S0 1110 p0.toNat) * S0 1104 (S0 1107 p0.toNat).toNat) → (x8 - x9).toNat < N → zz_E g l zy_convolved_14_74 zr_convolved_14_74 (zz_QI n (zp_convolved_14_74 p0 p1 p2 p3 S0)) S n 61 [some (.ref 1079), some (zi p0), some (zi p1), some (zi p2), some (zi p3), some (zi (S0 1107 p0.toNat)), some (zi (S0 1104 ((p0 + 1).toNat))), some (zi x7), some (zi x8), some (zi x9)] [] 0 0) := by
  intro N
  induction N with
  | zero => exact fun x7 x8 x9 S _ _ _ _ _ _ h => absurd h (Nat.not_lt_zero _)
  | succ N ih =>
    exact fun x7 x8 x9 S a b j0 j1 j2 j3 hR => zb_convolved_14_74_61 p0 p1 p2 p3 S0 n hn G_S0 hp0 hp1 hp2 hp3 R_S0 hl hk ho x7 x8 x9 S a b j0 j1 j2 j3 _ rfl (fun x7 x8 x9 S a b j0 j1 j2 j3 h => ih x7 x8 x9 S a b j0 j1 j2 j3 (Nat.lt_of_lt_of_le h (Nat.le_of_lt_succ hR)))
theorem zc_convolved_14_74 {g : mm_G} {l : Launch} (p0 : Int) (p1 : Int) (p2 : Int) (p3 : Int) (S0 : zz_S) (n : Nat) (hn : zz_end ≤ n) (G_S0 : zz_G S0) (hp0 : 0 ≤ p0 ∧ p0 ≤ 9) (hp1 : 0 ≤ p1 ∧ p1 ≤ 62) (hp2 : 0 ≤ p2 ∧ p2 ≤ 62) (hp3 : 0 ≤ p3 ∧ p3 ≤ 62) (R_S0 : zz_Hr S0) (hl : p0 + 1 < S0 1079 36) (hk : S0 1106 p0.toNat = 0) (ho : p3 < S0 1104 (p0 + 1).toNat) : mm_Met g l zy_convolved_14_74 zr_convolved_14_74 [.ref 1079, zi p0, zi p1, zi p2, zi p3] (zz_M S0 n) n (zz_QI n (zp_convolved_14_74 p0 p1 p2 p3 S0)) := by
  refine zz_enter (by decide) (Nat.le_of_ble_eq_true rfl) (zz_less (ls1 := [some (.ref 1079), some (zi p0), some (zi p1), some (zi p2), some (zi p3)]) ⟨rfl, ⟨rfl, ⟨rfl, ⟨rfl, ⟨rfl, trivial⟩⟩⟩⟩⟩ ?_)
  have F_S0 : zz_fr [] [] (fun _ _ => False) S0 S0 := zz_fr.refl
  have k61 : ∀ (x7 : Int) (x8 : Int) (x9 : Int) (S : zz_S), zz_G S → zz_fr [] [] (fun _ _ => False) S0 S → ((-2147483648) ≤ x7 ∧ x7 ≤ 2147483647) → (0 ≤ x8 ∧ x8 ≤ 567) → (0 ≤ x9 ∧ x9 ≤ 567) → (x8 = (S0 1109 p0.toNat * S0 1110 p0.toNat) * S0 1104 (S0 1107 p0.toNat).toNat) → zz_E g l zy_convolved_14_74 zr_convolved_14_74 (zz_QI n (zp_convolved_14_74 p0 p1 p2 p3 S0)) S n 61 [some (.ref 1079), some (zi p0), some (zi p1), some (zi p2), some (zi p3), some (zi (S0 1107 p0.toNat)), some (zi (S0 1104 ((p0 + 1).toNat))), some (zi x7), some (zi x8), some (zi x9)] [] 0 0 := fun x7 x8 x9 S a b j0 j1 j2 j3 => (zi_convolved_14_74 (g := g) (l := l) p0 p1 p2 p3 S0 n hn G_S0 hp0 hp1 hp2 hp3 R_S0 hl hk ho _) x7 x8 x9 S a b j0 j1 j2 j3 (Nat.lt_succ_self _)
  have hb9 := R_S0.2 p0.toNat (by omega)
  unfold zz_la at hb9
  have hone := hb9.1
  have hk9 := hb9.2.1 (by omega)
  have h5 : 1 ≤ S0 1110 p0.toNat := hk9.2.1
  have go9 := zz_G.r G_S0 1107 p0.toNat 0 10 rfl rfl
  have ht9 := R_S0.1 (S0 1107 p0.toNat).toNat (by omega)
  unfold zz_tn at ht9
  have h4 : 1 ≤ S0 1104 (S0 1107 p0.toNat).toNat := ht9.2.2.1
  clear hb9 hk9 ht9
  have hb9 := R_S0.2 p0.toNat (by omega)
  unfold zz_la at hb9
  have hk9 := hb9.2.1 (by omega)
  rw [show p0.toNat + 1 = (p0 + 1).toNat by omega] at hk9
  have gr9 := zz_G.r G_S0 1109 p0.toNat 0 3 rfl rfl
  have hm9 : 0 ≤ (S0 1109 p0.toNat * S0 1110 p0.toNat) * S0 1104 (S0 1107 p0.toNat).toNat := Int.mul_nonneg (Int.mul_nonneg (by omega) (by omega)) (by omega)
  have hv9 := (zz_cv (P := S0 1114 p0.toNat) (C := S0 1104 (p0 + 1).toNat) (m := (S0 1109 p0.toNat * S0 1110 p0.toNat) * S0 1104 (S0 1107 p0.toNat).toNat) (o := p3) (k := 0) hk9.2.2 (by omega) hm9).1
  clear hb9 hk9 hm9
  refine zz_aload_n (x := 1079) rfl zd_14_74_0 ?_
  refine zz_getr (kd := 0) (z := 1107) zd_14_74_1 zf_Md_103 zT_1079 rfl (zz_ltn hn rfl) (zz_G.eq G_S0 1079 42 1107 rfl rfl) (by decide) 1107 rfl ?_
  refine zz_iload_n (x := p0) rfl zd_14_74_4 ?_
  have g1 := zz_G.r G_S0 1107 p0.toNat 0 10 rfl rfl
  refine zz_iald (z := S0 1107 p0.toNat) zd_14_74_5 zT_1107 rfl (zz_ltn hn rfl) (by decide) (by omega) rfl ?_
  refine zz_istore [some (.ref 1079), some (zi p0), some (zi p1), some (zi p2), some (zi p3), some (zi (S0 1107 p0.toNat))] zd_14_74_6 (by decide) rfl ?_
  refine zz_aload_n (x := 1079) rfl zd_14_74_8 ?_
  refine zz_getr (kd := 0) (z := 1104) zd_14_74_9 zf_Md_94 zT_1079 rfl (zz_ltn hn rfl) (zz_G.eq G_S0 1079 39 1104 rfl rfl) (by decide) 1104 rfl ?_
  refine zz_iload_n (x := p0) rfl zd_14_74_12 ?_
  refine zz_iconst zd_14_74_13 ?_
  refine zz_iadd zd_14_74_14 ?_
  have g2 := zz_G.r G_S0 1104 ((p0 + 1).toNat) 0 63 rfl rfl
  refine zz_iald (z := S0 1104 ((p0 + 1).toNat)) zd_14_74_15 zT_1104 rfl (zz_ltn hn rfl) (by decide) (by omega) rfl ?_
  refine zz_istore [some (.ref 1079), some (zi p0), some (zi p1), some (zi p2), some (zi p3), some (zi (S0 1107 p0.toNat)), some (zi (S0 1104 ((p0 + 1).toNat)))] zd_14_74_16 (by decide) rfl ?_
  refine zz_aload_n (x := 1079) rfl zd_14_74_18 ?_
  refine zz_aload_n (x := 1079) rfl zd_14_74_19 ?_
  refine zz_getr (kd := 0) (z := 1114) zd_14_74_20 zf_Md_124 zT_1079 rfl (zz_ltn hn rfl) (zz_G.eq G_S0 1079 49 1114 rfl rfl) (by decide) 1114 rfl ?_
  refine zz_iload_n (x := p0) rfl zd_14_74_23 ?_
  have g3 := zz_G.r G_S0 1114 p0.toNat 0 4096 rfl rfl
  refine zz_iald (z := S0 1114 p0.toNat) zd_14_74_24 zT_1114 rfl (zz_ltn hn rfl) (by decide) (by omega) rfl ?_
  refine zz_iconst zd_14_74_25 ?_
  refine zz_iload (x := p3) rfl zd_14_74_26 ?_
  refine zz_imul zd_14_74_28 ?_
  refine zz_iadd zd_14_74_29 ?_
  refine zz_callVI [zi ((S0 1114 p0.toNat) + (4 * p3))] zd_14_74_30 zk_Md_258 zT_1079 (zz_ltn hn rfl) rfl rfl ⟨Nat.le_of_ble_eq_true rfl, Nat.le_of_ble_eq_true rfl⟩ ⟨rfl, rfl⟩ (Nat.zero_le _) (Nat.zero_le _) (zc_intAt_14_27 ((S0 1114 p0.toNat) + (4 * p3)) S0 n hn G_S0 (by omega)) (fun v5 S4 hP => ?_)
  obtain ⟨rfl, o6⟩ := hP
  refine zz_istore [some (.ref 1079), some (zi p0), some (zi p1), some (zi p2), some (zi p3), some (zi (S0 1107 p0.toNat)), some (zi (S0 1104 ((p0 + 1).toNat))), some (zi v5)] zd_14_74_33 (by decide) rfl ?_
  refine zz_aload_n (x := 1079) rfl zd_14_74_35 ?_
  refine zz_getr (kd := 0) (z := 1109) zd_14_74_36 zf_Md_109 zT_1079 rfl (zz_ltn hn rfl) (zz_G.eq G_S0 1079 44 1109 rfl rfl) (by decide) 1109 rfl ?_
  refine zz_iload_n (x := p0) rfl zd_14_74_39 ?_
  have g7 := zz_G.r G_S0 1109 p0.toNat 0 3 rfl rfl
  refine zz_iald (z := S0 1109 p0.toNat) zd_14_74_40 zT_1109 rfl (zz_ltn hn rfl) (by decide) (by omega) rfl ?_
  refine zz_aload_n (x := 1079) rfl zd_14_74_41 ?_
  refine zz_getr (kd := 0) (z := 1110) zd_14_74_42 zf_Md_112 zT_1079 rfl (zz_ltn hn rfl) (zz_G.eq G_S0 1079 45 1110 rfl rfl) (by decide) 1110 rfl ?_
  refine zz_iload_n (x := p0) rfl zd_14_74_45 ?_
  have g8 := zz_G.r G_S0 1110 p0.toNat 0 3 rfl rfl
  refine zz_iald (z := S0 1110 p0.toNat) zd_14_74_46 zT_1110 rfl (zz_ltn hn rfl) (by decide) (by omega) rfl ?_
  refine zz_imul zd_14_74_47 ?_
  have m9 := zz_mulb (a := S0 1109 p0.toNat) (b := S0 1110 p0.toNat) 3 3 9 (by omega) (by omega) (by decide)
  refine zz_aload_n (x := 1079) rfl zd_14_74_48 ?_
  refine zz_getr (kd := 0) (z := 1104) zd_14_74_49 zf_Md_94 zT_1079 rfl (zz_ltn hn rfl) (zz_G.eq G_S0 1079 39 1104 rfl rfl) (by decide) 1104 rfl ?_
  refine zz_iload (x := S0 1107 p0.toNat) rfl zd_14_74_52 ?_
  have g10 := zz_G.r G_S0 1104 ((S0 1107 p0.toNat).toNat) 0 63 rfl rfl
  refine zz_iald (z := S0 1104 ((S0 1107 p0.toNat).toNat)) zd_14_74_54 zT_1104 rfl (zz_ltn hn rfl) (by decide) (by omega) rfl ?_
  refine zz_imul zd_14_74_55 ?_
  have m11 := zz_mulb (a := (S0 1109 p0.toNat) * (S0 1110 p0.toNat)) (b := S0 1104 ((S0 1107 p0.toNat).toNat)) 9 63 567 (by omega) (by omega) (by decide)
  refine zz_nme (fun v12 ev12 => ?_)
  refine zz_istore [some (.ref 1079), some (zi p0), some (zi p1), some (zi p2), some (zi p3), some (zi (S0 1107 p0.toNat)), some (zi (S0 1104 ((p0 + 1).toNat))), some (zi v5), some (zi v12)] zd_14_74_56 (by decide) rfl ?_
  refine zz_iconst zd_14_74_58 ?_
  refine zz_istore [some (.ref 1079), some (zi p0), some (zi p1), some (zi p2), some (zi p3), some (zi (S0 1107 p0.toNat)), some (zi (S0 1104 ((p0 + 1).toNat))), some (zi v5), some (zi v12), some (zi 0)] zd_14_74_59 (by decide) rfl ?_
  refine zz_less (ls1 := [some (.ref 1079), some (zi p0), some (zi p1), some (zi p2), some (zi p3), some (zi (S0 1107 p0.toNat)), some (zi (S0 1104 ((p0 + 1).toNat))), some (zi v5), some (zi v12), some (zi 0)]) ⟨rfl, ⟨rfl, ⟨rfl, ⟨rfl, ⟨rfl, ⟨rfl, ⟨rfl, ⟨rfl, ⟨rfl, ⟨rfl, trivial⟩⟩⟩⟩⟩⟩⟩⟩⟩⟩ ?_
  exact k61 v5 v12 0 S0 G_S0 F_S0 (by omega) (by omega) (by omega) (by omega)
abbrev zy_pooled_14_75 : mm_Y := (⟨"TensorForgeModel", "pooled", "(IIII)I"⟩, prog_14_method_75_code, 8, (some .int))
theorem zyw_pooled_14_75 : mm_Yw zy_pooled_14_75 4 := ⟨mm_tb_1 2132 (by decide +kernel) rfl, mm_tb_1 12 (by decide +kernel) rfl, ⟨by decide, by decide⟩, by decide +kernel⟩
theorem zd_14_75_0 : zz_D zy_pooled_14_75 0 (.bipush (-128)) 2 2 := ⟨by decide +kernel, rfl⟩
theorem zd_14_75_2 : zz_D zy_pooled_14_75 2 (.istore 5) 2 4 := ⟨by decide +kernel, rfl⟩
theorem zd_14_75_4 : zz_D zy_pooled_14_75 4 (.iconst 0) 1 5 := ⟨by decide +kernel, rfl⟩
theorem zd_14_75_5 : zz_D zy_pooled_14_75 5 (.istore 6) 2 7 := ⟨by decide +kernel, rfl⟩
theorem zd_14_75_7 : zz_D zy_pooled_14_75 7 (.iload 6) 2 9 := ⟨by decide +kernel, rfl⟩
theorem zd_14_75_9 : zz_D zy_pooled_14_75 9 (.aload_n 0) 1 10 := ⟨by decide +kernel, rfl⟩
theorem zd_14_75_10 : zz_D zy_pooled_14_75 10 (.getfield 109) 3 13 := ⟨by decide +kernel, rfl⟩
theorem zd_14_75_13 : zz_D zy_pooled_14_75 13 (.iload_n 1) 1 14 := ⟨by decide +kernel, rfl⟩
theorem zd_14_75_14 : zz_D zy_pooled_14_75 14 (.iaload) 1 15 := ⟨by decide +kernel, rfl⟩
theorem zd_14_75_15 : zz_D zy_pooled_14_75 15 (.aload_n 0) 1 16 := ⟨by decide +kernel, rfl⟩
theorem zd_14_75_16 : zz_D zy_pooled_14_75 16 (.getfield 112) 3 19 := ⟨by decide +kernel, rfl⟩
theorem zd_14_75_19 : zz_D zy_pooled_14_75 19 (.iload_n 1) 1 20 := ⟨by decide +kernel, rfl⟩
theorem zd_14_75_20 : zz_D zy_pooled_14_75 20 (.iaload) 1 21 := ⟨by decide +kernel, rfl⟩
theorem zd_14_75_21 : zz_D zy_pooled_14_75 21 (.imul) 1 22 := ⟨by decide +kernel, rfl⟩
theorem zd_14_75_22 : zz_B zy_pooled_14_75 22 (Instr.if_icmp .ge) 97 25 := ⟨75, by decide +kernel, rfl, rfl⟩
theorem zd_14_75_97 : zz_D zy_pooled_14_75 97 (.iload 5) 2 99 := ⟨by decide +kernel, rfl⟩
theorem zd_14_75_99 : zz_D zy_pooled_14_75 99 (.ireturn) 1 100 := ⟨by decide +kernel, rfl⟩
theorem zd_14_75_25 : zz_D zy_pooled_14_75 25 (.aload_n 0) 1 26 := ⟨by decide +kernel, rfl⟩
theorem zd_14_75_26 : zz_D zy_pooled_14_75 26 (.aload_n 0) 1 27 := ⟨by decide +kernel, rfl⟩
theorem zd_14_75_27 : zz_D zy_pooled_14_75 27 (.getfield 103) 3 30 := ⟨by decide +kernel, rfl⟩
theorem zd_14_75_30 : zz_D zy_pooled_14_75 30 (.iload_n 1) 1 31 := ⟨by decide +kernel, rfl⟩
theorem zd_14_75_31 : zz_D zy_pooled_14_75 31 (.iaload) 1 32 := ⟨by decide +kernel, rfl⟩
theorem zd_14_75_32 : zz_D zy_pooled_14_75 32 (.aload_n 0) 1 33 := ⟨by decide +kernel, rfl⟩
theorem zd_14_75_33 : zz_D zy_pooled_14_75 33 (.getfield 115) 3 36 := ⟨by decide +kernel, rfl⟩
theorem zd_14_75_36 : zz_D zy_pooled_14_75 36 (.iload_n 1) 1 37 := ⟨by decide +kernel, rfl⟩
theorem zd_14_75_37 : zz_D zy_pooled_14_75 37 (.iaload) 1 38 := ⟨by decide +kernel, rfl⟩
theorem zd_14_75_38 : zz_D zy_pooled_14_75 38 (.iload_n 2) 1 39 := ⟨by decide +kernel, rfl⟩
theorem zd_14_75_39 : zz_D zy_pooled_14_75 39 (.imul) 1 40 := ⟨by decide +kernel, rfl⟩
theorem zd_14_75_40 : zz_D zy_pooled_14_75 40 (.iload 6) 2 42 := ⟨by decide +kernel, rfl⟩
theorem zd_14_75_42 : zz_D zy_pooled_14_75 42 (.aload_n 0) 1 43 := ⟨by decide +kernel, rfl⟩
theorem zd_14_75_43 : zz_D zy_pooled_14_75 43 (.getfield 112) 3 46 := ⟨by decide +kernel, rfl⟩
theorem zd_14_75_46 : zz_D zy_pooled_14_75 46 (.iload_n 1) 1 47 := ⟨by decide +kernel, rfl⟩
theorem zd_14_75_47 : zz_D zy_pooled_14_75 47 (.iaload) 1 48 := ⟨by decide +kernel, rfl⟩
theorem zd_14_75_48 : zz_D zy_pooled_14_75 48 (.idiv) 1 49 := ⟨by decide +kernel, rfl⟩
theorem zd_14_75_49 : zz_D zy_pooled_14_75 49 (.iadd) 1 50 := ⟨by decide +kernel, rfl⟩
theorem zd_14_75_50 : zz_D zy_pooled_14_75 50 (.aload_n 0) 1 51 := ⟨by decide +kernel, rfl⟩
theorem zd_14_75_51 : zz_D zy_pooled_14_75 51 (.getfield 115) 3 54 := ⟨by decide +kernel, rfl⟩
theorem zd_14_75_54 : zz_D zy_pooled_14_75 54 (.iload_n 1) 1 55 := ⟨by decide +kernel, rfl⟩
theorem zd_14_75_55 : zz_D zy_pooled_14_75 55 (.iaload) 1 56 := ⟨by decide +kernel, rfl⟩
theorem zd_14_75_56 : zz_D zy_pooled_14_75 56 (.iload_n 3) 1 57 := ⟨by decide +kernel, rfl⟩
theorem zd_14_75_57 : zz_D zy_pooled_14_75 57 (.imul) 1 58 := ⟨by decide +kernel, rfl⟩
theorem zd_14_75_58 : zz_D zy_pooled_14_75 58 (.iload 6) 2 60 := ⟨by decide +kernel, rfl⟩
theorem zd_14_75_60 : zz_D zy_pooled_14_75 60 (.aload_n 0) 1 61 := ⟨by decide +kernel, rfl⟩
theorem zd_14_75_61 : zz_D zy_pooled_14_75 61 (.getfield 112) 3 64 := ⟨by decide +kernel, rfl⟩
theorem zd_14_75_64 : zz_D zy_pooled_14_75 64 (.iload_n 1) 1 65 := ⟨by decide +kernel, rfl⟩
theorem zd_14_75_65 : zz_D zy_pooled_14_75 65 (.iaload) 1 66 := ⟨by decide +kernel, rfl⟩
theorem zd_14_75_66 : zz_D zy_pooled_14_75 66 (.irem) 1 67 := ⟨by decide +kernel, rfl⟩
theorem zd_14_75_67 : zz_D zy_pooled_14_75 67 (.iadd) 1 68 := ⟨by decide +kernel, rfl⟩
theorem zd_14_75_68 : zz_D zy_pooled_14_75 68 (.iload 4) 2 70 := ⟨by decide +kernel, rfl⟩
theorem zd_14_75_70 : zz_D zy_pooled_14_75 70 (.invokevirtual 438) 3 73 := ⟨by decide +kernel, rfl⟩
theorem zd_14_75_73 : zz_D zy_pooled_14_75 73 (.istore 7) 2 75 := ⟨by decide +kernel, rfl⟩
theorem zd_14_75_75 : zz_D zy_pooled_14_75 75 (.iload 7) 2 77 := ⟨by decide +kernel, rfl⟩
theorem zd_14_75_77 : zz_D zy_pooled_14_75 77 (.iload 5) 2 79 := ⟨by decide +kernel, rfl⟩
theorem zd_14_75_79 : zz_B zy_pooled_14_75 79 (Instr.if_icmp .le) 87 82 := ⟨8, by decide +kernel, rfl, rfl⟩
theorem zd_14_75_87 : zz_D zy_pooled_14_75 87 (.iload 5) 2 89 := ⟨by decide +kernel, rfl⟩
theorem zd_14_75_89 : zz_D zy_pooled_14_75 89 (.istore 5) 2 91 := ⟨by decide +kernel, rfl⟩
theorem zd_14_75_91 : zz_D zy_pooled_14_75 91 (.iinc 6 1) 3 94 := ⟨by decide +kernel, rfl⟩
theorem zd_14_75_94 : zz_B zy_pooled_14_75 94 Instr.goto 7 97 := ⟨(-87), by decide +kernel, rfl, rfl⟩
theorem zd_14_75_82 : zz_D zy_pooled_14_75 82 (.iload 7) 2 84 := ⟨by decide +kernel, rfl⟩
theorem zd_14_75_84 : zz_B zy_pooled_14_75 84 Instr.goto 89 87 := ⟨5, by decide +kernel, rfl, rfl⟩
-- TensorForgeModel pooled (IIII)I
abbrev zr_pooled_14_75 : Room := { frames := 1, cells := 0, slots := 0, locals := 16 }
def zp_pooled_14_75 (p0 : Int) (p1 : Int) (p2 : Int) (p3 : Int) (S0 : zz_S) : Int → zz_S → Prop := fun r S => S0 = S ∧ ((-2147483648) ≤ r ∧ r ≤ 2147483647)
theorem zb_pooled_14_75_7 {g : mm_G} {l : Launch} (p0 : Int) (p1 : Int) (p2 : Int) (p3 : Int) (S0 : zz_S) (n : Nat) (hn : zz_end ≤ n) (G_S0 : zz_G S0) (hp0 : 0 ≤ p0 ∧ p0 ≤ 9) (hp1 : 0 ≤ p1 ∧ p1 ≤ 62) (hp2 : 0 ≤ p2 ∧ p2 ≤ 62) (hp3 : 0 ≤ p3 ∧ p3 ≤ 62) (R_S0 : zz_Hr S0) (hl : p0 + 1 < S0 1079 36) (hk : S0 1106 p0.toNat = 1) (hy : p1 < S0 1102 (p0 + 1).toNat) (hx : p2 < S0 1103 (p0 + 1).toNat) (ho : p3 < S0 1104 (p0 + 1).toNat) (x5 : Int) (x6 : Int) (S : zz_S) (G_S : zz_G S) (F_S : zz_fr [] [] (fun _ _ => False) S0 S) (i7_0 : (-128) ≤ x5 ∧ x5 ≤ 2147483647) (i7_1 : 0 ≤ x6 ∧ x6 ≤ 9) (R : Nat) (hR : (2147483647 - x6).toNat = R) (k7 : ∀ (x5 : Int) (x6 : Int) (S : zz_S), zz_G S → zz_fr [] [] (fun _ _ => False) S0 S → ((-128) ≤ x5 ∧ x5 ≤ 2147483647) → (0 ≤ x6 ∧ x6 ≤ 9) → (2147483647 - x6).toNat < R → zz_E g l zy_pooled_14_75 zr_pooled_14_75 (zz_QI n (zp_pooled_14_75 p0 p1 p2 p3 S0)) S n 7 [some (.ref 1079), some (zi p0), some (zi p1), some (zi p2), some (zi p3), some (zi x5), some (zi x6)] [] 0 0) : zz_E g l zy_pooled_14_75 zr_pooled_14_75 (zz_QI n (zp_pooled_14_75 p0 p1 p2 p3 S0)) S n 7 [some (.ref 1079), some (zi p0), some (zi p1), some (zi p2), some (zi p3), some (zi x5), some (zi x6)] [] 0 0 := by
  have hb9 := R_S0.2 p0.toNat (by omega)
  unfold zz_la at hb9
  have hone := hb9.1
  have hk9 := hb9.2.2.1 (by omega)
  have h5 : 1 ≤ S0 1110 p0.toNat := hk9.1
  have go9 := zz_G.r G_S0 1107 p0.toNat 0 10 rfl rfl
  have ht9 := R_S0.1 (S0 1107 p0.toNat).toNat (by omega)
  unfold zz_tn at ht9
  have h4 : 1 ≤ S0 1104 (S0 1107 p0.toNat).toNat := ht9.2.2.1
  clear hb9 hk9 ht9
  have R_S : zz_Hr S := (zz_fr.eq F_S) ▸ R_S0
  refine zz_iload (x := x6) rfl zd_14_75_7 ?_
  refine zz_aload_n (x := 1079) rfl zd_14_75_9 ?_
  refine zz_getr (kd := 0) (z := 1109) zd_14_75_10 zf_Md_109 zT_1079 rfl (zz_ltn hn rfl) (zz_G.eq G_S 1079 44 1109 rfl rfl) (by decide) 1109 rfl ?_
  refine zz_iload_n (x := p0) rfl zd_14_75_13 ?_
  have g1 := zz_G.r G_S0 1109 p0.toNat 0 3 rfl rfl
  refine zz_iald (z := S0 1109 p0.toNat) zd_14_75_14 zT_1109 rfl (zz_ltn hn rfl) (by decide) (by omega) (zz_rc F_S (zz_nc1 rfl) rfl (fun h => h) rfl) ?_
  refine zz_aload_n (x := 1079) rfl zd_14_75_15 ?_
  refine zz_getr (kd := 0) (z := 1110) zd_14_75_16 zf_Md_112 zT_1079 rfl (zz_ltn hn rfl) (zz_G.eq G_S 1079 45 1110 rfl rfl) (by decide) 1110 rfl ?_
  refine zz_iload_n (x := p0) rfl zd_14_75_19 ?_
  have g2 := zz_G.r G_S0 1110 p0.toNat 0 3 rfl rfl
  refine zz_iald (z := S0 1110 p0.toNat) zd_14_75_20 zT_1110 rfl (zz_ltn hn rfl) (by decide) (by omega) (zz_rc F_S (zz_nc1 rfl) rfl (fun h => h) rfl) ?_
  refine zz_imul zd_14_75_21 ?_
  have m3 := zz_mulb (a := S0 1109 p0.toNat) (b := S0 1110 p0.toNat) 3 3 9 (by omega) (by omega) (by decide)
  refine zz_icmp_ge (by omega) (by omega) zd_14_75_22 (fun c4 => ?_) (fun c4 => ?_)
  · refine zz_iload (x := x5) rfl zd_14_75_97 ?_
    exact zz_iret zd_14_75_99 rfl (Nat.zero_le _) (Nat.zero_le _) ⟨_, _, rfl, zz_fr.eq F_S, by omega⟩
  · have hb9 := R_S0.2 p0.toNat (by omega)
    unfold zz_la at hb9
    have hk9 := hb9.2.2.1 (by omega)
    rw [show p0.toNat + 1 = (p0 + 1).toNat by omega] at hk9
    have hd9 := zz_dm (k := x6) (a := S0 1109 p0.toNat) (b := S0 1110 p0.toNat) (by omega) (by omega)
    have gs9 := zz_G.r G_S0 1111 p0.toNat 0 3 rfl rfl
    have q1 : S0 1111 p0.toNat * p1 ≤ S0 1111 p0.toNat * (S0 1102 (p0 + 1).toNat - 1) := Int.mul_le_mul_of_nonneg_left (by omega) (by omega)
    have q2 : S0 1111 p0.toNat * p2 ≤ S0 1111 p0.toNat * (S0 1103 (p0 + 1).toNat - 1) := Int.mul_le_mul_of_nonneg_left (by omega) (by omega)
    have q3 : 0 ≤ S0 1111 p0.toNat * p1 := Int.mul_nonneg (by omega) (by omega)
    have q4 : 0 ≤ S0 1111 p0.toNat * p2 := Int.mul_nonneg (by omega) (by omega)
    clear hb9
    refine zz_aload_n (x := 1079) rfl zd_14_75_25 ?_
    refine zz_aload_n (x := 1079) rfl zd_14_75_26 ?_
    refine zz_getr (kd := 0) (z := 1107) zd_14_75_27 zf_Md_103 zT_1079 rfl (zz_ltn hn rfl) (zz_G.eq G_S 1079 42 1107 rfl rfl) (by decide) 1107 rfl ?_
    refine zz_iload_n (x := p0) rfl zd_14_75_30 ?_
    have g5 := zz_G.r G_S0 1107 p0.toNat 0 10 rfl rfl
    refine zz_iald (z := S0 1107 p0.toNat) zd_14_75_31 zT_1107 rfl (zz_ltn hn rfl) (by decide) (by omega) (zz_rc F_S (zz_nc1 rfl) rfl (fun h => h) rfl) ?_
    refine zz_aload_n (x := 1079) rfl zd_14_75_32 ?_
    refine zz_getr (kd := 0) (z := 1111) zd_14_75_33 zf_Md_115 zT_1079 rfl (zz_ltn hn rfl) (zz_G.eq G_S 1079 46 1111 rfl rfl) (by decide) 1111 rfl ?_
    refine zz_iload_n (x := p0) rfl zd_14_75_36 ?_
    have g6 := zz_G.r G_S0 1111 p0.toNat 0 3 rfl rfl
    refine zz_iald (z := S0 1111 p0.toNat) zd_14_75_37 zT_1111 rfl (zz_ltn hn rfl) (by decide) (by omega) (zz_rc F_S (zz_nc1 rfl) rfl (fun h => h) rfl) ?_
    refine zz_iload_n (x := p1) rfl zd_14_75_38 ?_
    refine zz_imul zd_14_75_39 ?_
    have m7 := zz_mulb (a := S0 1111 p0.toNat) (b := p1) 3 62 186 (by omega) (by omega) (by decide)
    refine zz_iload (x := x6) rfl zd_14_75_40 ?_
    refine zz_aload_n (x := 1079) rfl zd_14_75_42 ?_
    refine zz_getr (kd := 0) (z := 1110) zd_14_75_43 zf_Md_112 zT_1079 rfl (zz_ltn hn rfl) (zz_G.eq G_S 1079 45 1110 rfl rfl) (by decide) 1110 rfl ?_
    refine zz_iload_n (x := p0) rfl zd_14_75_46 ?_
    refine zz_iald (z := S0 1110 p0.toNat) zd_14_75_47 zT_1110 rfl (zz_ltn hn rfl) (by decide) (by omega) (zz_rc F_S (zz_nc1 rfl) rfl (fun h => h) rfl) ?_
    refine zz_idiv (by omega) (by omega) zd_14_75_48 (fun v8 hv8 av8 bv8 cv8 => ?_)
    have m9 := zz_divb (by omega) (by omega) av8
    obtain rfl : v8 = x6 / (S0 1110 p0.toNat) := by omega
    refine zz_iadd zd_14_75_49 ?_
    refine zz_nme (fun v10 ev10 => ?_)
    refine zz_aload_n (x := 1079) rfl zd_14_75_50 ?_
    refine zz_getr (kd := 0) (z := 1111) zd_14_75_51 zf_Md_115 zT_1079 rfl (zz_ltn hn rfl) (zz_G.eq G_S 1079 46 1111 rfl rfl) (by decide) 1111 rfl ?_
    refine zz_iload_n (x := p0) rfl zd_14_75_54 ?_
    refine zz_iald (z := S0 1111 p0.toNat) zd_14_75_55 zT_1111 rfl (zz_ltn hn rfl) (by decide) (by omega) (zz_rc F_S (zz_nc1 rfl) rfl (fun h => h) rfl) ?_
    refine zz_iload_n (x := p2) rfl zd_14_75_56 ?_
    refine zz_imul zd_14_75_57 ?_
    have m11 := zz_mulb (a := S0 1111 p0.toNat) (b := p2) 3 62 186 (by omega) (by omega) (by decide)
    refine zz_iload (x := x6) rfl zd_14_75_58 ?_
    refine zz_aload_n (x := 1079) rfl zd_14_75_60 ?_
    refine zz_getr (kd := 0) (z := 1110) zd_14_75_61 zf_Md_112 zT_1079 rfl (zz_ltn hn rfl) (zz_G.eq G_S 1079 45 1110 rfl rfl) (by decide) 1110 rfl ?_
    refine zz_iload_n (x := p0) rfl zd_14_75_64 ?_
    refine zz_iald (z := S0 1110 p0.toNat) zd_14_75_65 zT_1110 rfl (zz_ltn hn rfl) (by decide) (by omega) (zz_rc F_S (zz_nc1 rfl) rfl (fun h => h) rfl) ?_
    refine zz_irem (by omega) (by omega) zd_14_75_66 (fun v12 hv12 av12 bv12 cv12 => ?_)
    obtain rfl : v12 = x6 % (S0 1110 p0.toNat) := by omega
    refine zz_iadd zd_14_75_67 ?_
    refine zz_nme (fun v13 ev13 => ?_)
    refine zz_iload (x := p3) rfl zd_14_75_68 ?_
    have g14 := zz_G.r G_S0 1102 ((S0 1107 p0.toNat).toNat) 0 63 rfl rfl
    have e15 : S 1102 (S0 1107 p0.toNat).toNat = S0 1102 (S0 1107 p0.toNat).toNat := (zz_rc F_S (zz_nc1 rfl) rfl (fun h => h) rfl)
    have g16 := zz_G.r G_S0 1103 ((S0 1107 p0.toNat).toNat) 0 63 rfl rfl
    have e17 : S 1103 (S0 1107 p0.toNat).toNat = S0 1103 (S0 1107 p0.toNat).toNat := (zz_rc F_S (zz_nc1 rfl) rfl (fun h => h) rfl)
    have g18 := zz_G.r G_S0 1104 ((S0 1107 p0.toNat).toNat) 0 63 rfl rfl
    have e19 : S 1104 (S0 1107 p0.toNat).toNat = S0 1104 (S0 1107 p0.toNat).toNat := (zz_rc F_S (zz_nc1 rfl) rfl (fun h => h) rfl)
    refine zz_callVI [zi (S0 1107 p0.toNat), zi v10, zi v13, zi p3] zd_14_75_70 zk_Md_438 zT_1079 (zz_ltn hn rfl) rfl rfl ⟨Nat.le_of_ble_eq_true rfl, Nat.le_of_ble_eq_true rfl⟩ ⟨rfl, rfl⟩ (Nat.zero_le _) (Nat.zero_le _) (zc_cellAt_14_73 (S0 1107 p0.toNat) v10 v13 p3 S n hn G_S (by omega) (by omega) (by omega) (by omega) (R_S.1 (S0 1107 p0.toNat).toNat (by omega)) (by omega) (by omega) (by omega)) (fun v21 S20 hP => ?_)
    obtain ⟨rfl, o22⟩ := hP
    refine zz_istore [some (.ref 1079), some (zi p0), some (zi p1), some (zi p2), some (zi p3), some (zi x5), some (zi x6), some (zi v21)] zd_14_75_73 (by decide) rfl ?_
    refine zz_iload (x := v21) rfl zd_14_75_75 ?_
    refine zz_iload (x := x5) rfl zd_14_75_77 ?_
    refine zz_icmp_le (by omega) (by omega) zd_14_75_79 (fun c23 => ?_) (fun c23 => ?_)
    · refine zz_iload (x := x5) rfl zd_14_75_87 ?_
      refine zz_istore [some (.ref 1079), some (zi p0), some (zi p1), some (zi p2), some (zi p3), some (zi x5), some (zi x6), some (zi v21)] zd_14_75_89 (by decide) rfl ?_
      refine zz_iinc [some (.ref 1079), some (zi p0), some (zi p1), some (zi p2), some (zi p3), some (zi x5), some (zi (x6 + 1)), some (zi v21)] zd_14_75_91 rfl rfl ?_
      refine zz_goto zd_14_75_94 ?_
      refine zz_less (ls1 := [some (.ref 1079), some (zi p0), some (zi p1), some (zi p2), some (zi p3), some (zi x5), some (zi (x6 + 1))]) ⟨rfl, ⟨rfl, ⟨rfl, ⟨rfl, ⟨rfl, ⟨rfl, ⟨rfl, trivial⟩⟩⟩⟩⟩⟩⟩ ?_
      exact k7 x5 (x6 + 1) S G_S F_S (by omega) (by omega) (by omega)
    · refine zz_iload (x := v21) rfl zd_14_75_82 ?_
      refine zz_goto zd_14_75_84 ?_
      refine zz_istore [some (.ref 1079), some (zi p0), some (zi p1), some (zi p2), some (zi p3), some (zi v21), some (zi x6), some (zi v21)] zd_14_75_89 (by decide) rfl ?_
      refine zz_iinc [some (.ref 1079), some (zi p0), some (zi p1), some (zi p2), some (zi p3), some (zi v21), some (zi (x6 + 1)), some (zi v21)] zd_14_75_91 rfl rfl ?_
      refine zz_goto zd_14_75_94 ?_
      refine zz_less (ls1 := [some (.ref 1079), some (zi p0), some (zi p1), some (zi p2), some (zi p3), some (zi v21), some (zi (x6 + 1))]) ⟨rfl, ⟨rfl, ⟨rfl, ⟨rfl, ⟨rfl, ⟨rfl, ⟨rfl, trivial⟩⟩⟩⟩⟩⟩⟩ ?_
      exact k7 v21 (x6 + 1) S G_S F_S (by omega) (by omega) (by omega)
theorem zi_pooled_14_75 {g : mm_G} {l : Launch} (p0 : Int) (p1 : Int) (p2 : Int) (p3 : Int) (S0 : zz_S) (n : Nat) (hn : zz_end ≤ n) (G_S0 : zz_G S0) (hp0 : 0 ≤ p0 ∧ p0 ≤ 9) (hp1 : 0 ≤ p1 ∧ p1 ≤ 62) (hp2 : 0 ≤ p2 ∧ p2 ≤ 62) (hp3 : 0 ≤ p3 ∧ p3 ≤ 62) (R_S0 : zz_Hr S0) (hl : p0 + 1 < S0 1079 36) (hk : S0 1106 p0.toNat = 1) (hy : p1 < S0 1102 (p0 + 1).toNat) (hx : p2 < S0 1103 (p0 + 1).toNat) (ho : p3 < S0 1104 (p0 + 1).toNat) : ∀ N : Nat, (∀ (x5 : Int) (x6 : Int) (S : zz_S), zz_G S → zz_fr [] [] (fun _ _ => False) S0 S → ((-128) ≤ x5 ∧ x5 ≤ 2147483647) → (0 ≤ x6 ∧ x6 ≤ 9) → (2147483647 - x6).toNat < N → zz_E g l zy_pooled_14_75 zr_pooled_14_75 (zz_QI n (zp_pooled_14_75 p0 p1 p2 p3 S0)) S n 7 [some (.ref 1079), some (zi p0), some (zi p1), some (zi p2), some (zi p3), some (zi x5), some (zi x6)] [] 0 0) := by
  intro N
  induction N with
  | zero => exact fun x5 x6 S _ _ _ _ h => absurd h (Nat.not_lt_zero _)
  | succ N ih =>
    exact fun x5 x6 S a b j0 j1 hR => zb_pooled_14_75_7 p0 p1 p2 p3 S0 n hn G_S0 hp0 hp1 hp2 hp3 R_S0 hl hk hy hx ho x5 x6 S a b j0 j1 _ rfl (fun x5 x6 S a b j0 j1 h => ih x5 x6 S a b j0 j1 (Nat.lt_of_lt_of_le h (Nat.le_of_lt_succ hR)))
theorem zc_pooled_14_75 {g : mm_G} {l : Launch} (p0 : Int) (p1 : Int) (p2 : Int) (p3 : Int) (S0 : zz_S) (n : Nat) (hn : zz_end ≤ n) (G_S0 : zz_G S0) (hp0 : 0 ≤ p0 ∧ p0 ≤ 9) (hp1 : 0 ≤ p1 ∧ p1 ≤ 62) (hp2 : 0 ≤ p2 ∧ p2 ≤ 62) (hp3 : 0 ≤ p3 ∧ p3 ≤ 62) (R_S0 : zz_Hr S0) (hl : p0 + 1 < S0 1079 36) (hk : S0 1106 p0.toNat = 1) (hy : p1 < S0 1102 (p0 + 1).toNat) (hx : p2 < S0 1103 (p0 + 1).toNat) (ho : p3 < S0 1104 (p0 + 1).toNat) : mm_Met g l zy_pooled_14_75 zr_pooled_14_75 [.ref 1079, zi p0, zi p1, zi p2, zi p3] (zz_M S0 n) n (zz_QI n (zp_pooled_14_75 p0 p1 p2 p3 S0)) := by
  refine zz_enter (by decide) (Nat.le_of_ble_eq_true rfl) (zz_less (ls1 := [some (.ref 1079), some (zi p0), some (zi p1), some (zi p2), some (zi p3)]) ⟨rfl, ⟨rfl, ⟨rfl, ⟨rfl, ⟨rfl, trivial⟩⟩⟩⟩⟩ ?_)
  have F_S0 : zz_fr [] [] (fun _ _ => False) S0 S0 := zz_fr.refl
  have k7 : ∀ (x5 : Int) (x6 : Int) (S : zz_S), zz_G S → zz_fr [] [] (fun _ _ => False) S0 S → ((-128) ≤ x5 ∧ x5 ≤ 2147483647) → (0 ≤ x6 ∧ x6 ≤ 9) → zz_E g l zy_pooled_14_75 zr_pooled_14_75 (zz_QI n (zp_pooled_14_75 p0 p1 p2 p3 S0)) S n 7 [some (.ref 1079), some (zi p0), some (zi p1), some (zi p2), some (zi p3), some (zi x5), some (zi x6)] [] 0 0 := fun x5 x6 S a b j0 j1 => (zi_pooled_14_75 (g := g) (l := l) p0 p1 p2 p3 S0 n hn G_S0 hp0 hp1 hp2 hp3 R_S0 hl hk hy hx ho _) x5 x6 S a b j0 j1 (Nat.lt_succ_self _)
  have hb9 := R_S0.2 p0.toNat (by omega)
  unfold zz_la at hb9
  have hone := hb9.1
  have hk9 := hb9.2.2.1 (by omega)
  have h5 : 1 ≤ S0 1110 p0.toNat := hk9.1
  have go9 := zz_G.r G_S0 1107 p0.toNat 0 10 rfl rfl
  have ht9 := R_S0.1 (S0 1107 p0.toNat).toNat (by omega)
  unfold zz_tn at ht9
  have h4 : 1 ≤ S0 1104 (S0 1107 p0.toNat).toNat := ht9.2.2.1
  clear hb9 hk9 ht9
  refine zz_bipush (by decide) zd_14_75_0 ?_
  refine zz_istore [some (.ref 1079), some (zi p0), some (zi p1), some (zi p2), some (zi p3), some (zi (-128))] zd_14_75_2 (by decide) rfl ?_
  refine zz_iconst zd_14_75_4 ?_
  refine zz_istore [some (.ref 1079), some (zi p0), some (zi p1), some (zi p2), some (zi p3), some (zi (-128)), some (zi 0)] zd_14_75_5 (by decide) rfl ?_
  refine zz_less (ls1 := [some (.ref 1079), some (zi p0), some (zi p1), some (zi p2), some (zi p3), some (zi (-128)), some (zi 0)]) ⟨rfl, ⟨rfl, ⟨rfl, ⟨rfl, ⟨rfl, ⟨rfl, ⟨rfl, trivial⟩⟩⟩⟩⟩⟩⟩ ?_
  exact k7 (-128) 0 S0 G_S0 F_S0 (by omega) (by omega)
abbrev zy_reckon_14_76 : mm_Y := (⟨"TensorForgeModel", "reckon", "()V"⟩, prog_14_method_76_code, 8, none)
theorem zyw_reckon_14_76 : mm_Yw zy_reckon_14_76 0 := ⟨mm_tb_1 2116 (by decide +kernel) rfl, mm_tb_1 12 (by decide +kernel) rfl, ⟨by decide, by decide⟩, by decide +kernel⟩
theorem zd_14_76_0 : zz_D zy_reckon_14_76 0 (.aload_n 0) 1 1 := ⟨by decide +kernel, rfl⟩
theorem zd_14_76_1 : zz_D zy_reckon_14_76 1 (.iconst 0) 1 2 := ⟨by decide +kernel, rfl⟩
theorem zd_14_76_2 : zz_D zy_reckon_14_76 2 (.putfield 187) 3 5 := ⟨by decide +kernel, rfl⟩
theorem zd_14_76_5 : zz_D zy_reckon_14_76 5 (.iconst 0) 1 6 := ⟨by decide +kernel, rfl⟩
theorem zd_14_76_6 : zz_D zy_reckon_14_76 6 (.istore_n 1) 1 7 := ⟨by decide +kernel, rfl⟩
theorem zd_14_76_7 : zz_D zy_reckon_14_76 7 (.iload_n 1) 1 8 := ⟨by decide +kernel, rfl⟩
theorem zd_14_76_8 : zz_D zy_reckon_14_76 8 (.aload_n 0) 1 9 := ⟨by decide +kernel, rfl⟩
theorem zd_14_76_9 : zz_D zy_reckon_14_76 9 (.getfield 85) 3 12 := ⟨by decide +kernel, rfl⟩
theorem zd_14_76_12 : zz_D zy_reckon_14_76 12 (.iconst 1) 1 13 := ⟨by decide +kernel, rfl⟩
theorem zd_14_76_13 : zz_D zy_reckon_14_76 13 (.isub) 1 14 := ⟨by decide +kernel, rfl⟩
theorem zd_14_76_14 : zz_B zy_reckon_14_76 14 (Instr.if_icmp .ge) 198 17 := ⟨184, by decide +kernel, rfl, rfl⟩
theorem zd_14_76_198 : zz_D zy_reckon_14_76 198 (.return_) 1 199 := ⟨by decide +kernel, rfl⟩
theorem zd_14_76_17 : zz_D zy_reckon_14_76 17 (.iload_n 1) 1 18 := ⟨by decide +kernel, rfl⟩
theorem zd_14_76_18 : zz_D zy_reckon_14_76 18 (.iconst 1) 1 19 := ⟨by decide +kernel, rfl⟩
theorem zd_14_76_19 : zz_D zy_reckon_14_76 19 (.iadd) 1 20 := ⟨by decide +kernel, rfl⟩
theorem zd_14_76_20 : zz_D zy_reckon_14_76 20 (.istore_n 2) 1 21 := ⟨by decide +kernel, rfl⟩
theorem zd_14_76_21 : zz_D zy_reckon_14_76 21 (.iconst 0) 1 22 := ⟨by decide +kernel, rfl⟩
theorem zd_14_76_22 : zz_D zy_reckon_14_76 22 (.istore_n 3) 1 23 := ⟨by decide +kernel, rfl⟩
theorem zd_14_76_23 : zz_D zy_reckon_14_76 23 (.iload_n 3) 1 24 := ⟨by decide +kernel, rfl⟩
theorem zd_14_76_24 : zz_D zy_reckon_14_76 24 (.aload_n 0) 1 25 := ⟨by decide +kernel, rfl⟩
theorem zd_14_76_25 : zz_D zy_reckon_14_76 25 (.iload_n 2) 1 26 := ⟨by decide +kernel, rfl⟩
theorem zd_14_76_26 : zz_D zy_reckon_14_76 26 (.invokevirtual 200) 3 29 := ⟨by decide +kernel, rfl⟩
theorem zd_14_76_29 : zz_B zy_reckon_14_76 29 (Instr.if_icmp .ge) 192 32 := ⟨163, by decide +kernel, rfl, rfl⟩
theorem zd_14_76_192 : zz_D zy_reckon_14_76 192 (.iinc 1 1) 3 195 := ⟨by decide +kernel, rfl⟩
theorem zd_14_76_195 : zz_B zy_reckon_14_76 195 Instr.goto 7 198 := ⟨(-188), by decide +kernel, rfl, rfl⟩
theorem zd_14_76_32 : zz_D zy_reckon_14_76 32 (.iload_n 3) 1 33 := ⟨by decide +kernel, rfl⟩
theorem zd_14_76_33 : zz_D zy_reckon_14_76 33 (.aload_n 0) 1 34 := ⟨by decide +kernel, rfl⟩
theorem zd_14_76_34 : zz_D zy_reckon_14_76 34 (.getfield 94) 3 37 := ⟨by decide +kernel, rfl⟩
theorem zd_14_76_37 : zz_D zy_reckon_14_76 37 (.iload_n 2) 1 38 := ⟨by decide +kernel, rfl⟩
theorem zd_14_76_38 : zz_D zy_reckon_14_76 38 (.iaload) 1 39 := ⟨by decide +kernel, rfl⟩
theorem zd_14_76_39 : zz_D zy_reckon_14_76 39 (.irem) 1 40 := ⟨by decide +kernel, rfl⟩
theorem zd_14_76_40 : zz_D zy_reckon_14_76 40 (.istore 4) 2 42 := ⟨by decide +kernel, rfl⟩
theorem zd_14_76_42 : zz_D zy_reckon_14_76 42 (.iload_n 3) 1 43 := ⟨by decide +kernel, rfl⟩
theorem zd_14_76_43 : zz_D zy_reckon_14_76 43 (.aload_n 0) 1 44 := ⟨by decide +kernel, rfl⟩
theorem zd_14_76_44 : zz_D zy_reckon_14_76 44 (.getfield 94) 3 47 := ⟨by decide +kernel, rfl⟩
theorem zd_14_76_47 : zz_D zy_reckon_14_76 47 (.iload_n 2) 1 48 := ⟨by decide +kernel, rfl⟩
theorem zd_14_76_48 : zz_D zy_reckon_14_76 48 (.iaload) 1 49 := ⟨by decide +kernel, rfl⟩
theorem zd_14_76_49 : zz_D zy_reckon_14_76 49 (.idiv) 1 50 := ⟨by decide +kernel, rfl⟩
theorem zd_14_76_50 : zz_D zy_reckon_14_76 50 (.aload_n 0) 1 51 := ⟨by decide +kernel, rfl⟩
theorem zd_14_76_51 : zz_D zy_reckon_14_76 51 (.getfield 91) 3 54 := ⟨by decide +kernel, rfl⟩
theorem zd_14_76_54 : zz_D zy_reckon_14_76 54 (.iload_n 2) 1 55 := ⟨by decide +kernel, rfl⟩
theorem zd_14_76_55 : zz_D zy_reckon_14_76 55 (.iaload) 1 56 := ⟨by decide +kernel, rfl⟩
theorem zd_14_76_56 : zz_D zy_reckon_14_76 56 (.irem) 1 57 := ⟨by decide +kernel, rfl⟩
theorem zd_14_76_57 : zz_D zy_reckon_14_76 57 (.istore 5) 2 59 := ⟨by decide +kernel, rfl⟩
theorem zd_14_76_59 : zz_D zy_reckon_14_76 59 (.iload_n 3) 1 60 := ⟨by decide +kernel, rfl⟩
theorem zd_14_76_60 : zz_D zy_reckon_14_76 60 (.aload_n 0) 1 61 := ⟨by decide +kernel, rfl⟩
theorem zd_14_76_61 : zz_D zy_reckon_14_76 61 (.getfield 94) 3 64 := ⟨by decide +kernel, rfl⟩
theorem zd_14_76_64 : zz_D zy_reckon_14_76 64 (.iload_n 2) 1 65 := ⟨by decide +kernel, rfl⟩
theorem zd_14_76_65 : zz_D zy_reckon_14_76 65 (.iaload) 1 66 := ⟨by decide +kernel, rfl⟩
theorem zd_14_76_66 : zz_D zy_reckon_14_76 66 (.idiv) 1 67 := ⟨by decide +kernel, rfl⟩
theorem zd_14_76_67 : zz_D zy_reckon_14_76 67 (.aload_n 0) 1 68 := ⟨by decide +kernel, rfl⟩
theorem zd_14_76_68 : zz_D zy_reckon_14_76 68 (.getfield 91) 3 71 := ⟨by decide +kernel, rfl⟩
theorem zd_14_76_71 : zz_D zy_reckon_14_76 71 (.iload_n 2) 1 72 := ⟨by decide +kernel, rfl⟩
theorem zd_14_76_72 : zz_D zy_reckon_14_76 72 (.iaload) 1 73 := ⟨by decide +kernel, rfl⟩
theorem zd_14_76_73 : zz_D zy_reckon_14_76 73 (.idiv) 1 74 := ⟨by decide +kernel, rfl⟩
theorem zd_14_76_74 : zz_D zy_reckon_14_76 74 (.istore 6) 2 76 := ⟨by decide +kernel, rfl⟩
theorem zd_14_76_76 : zz_D zy_reckon_14_76 76 (.aload_n 0) 1 77 := ⟨by decide +kernel, rfl⟩
theorem zd_14_76_77 : zz_D zy_reckon_14_76 77 (.getfield 100) 3 80 := ⟨by decide +kernel, rfl⟩
theorem zd_14_76_80 : zz_D zy_reckon_14_76 80 (.iload_n 1) 1 81 := ⟨by decide +kernel, rfl⟩
theorem zd_14_76_81 : zz_D zy_reckon_14_76 81 (.iaload) 1 82 := ⟨by decide +kernel, rfl⟩
theorem zd_14_76_82 : zz_B zy_reckon_14_76 82 (Instr.ifCond .ne) 101 85 := ⟨19, by decide +kernel, rfl, rfl⟩
theorem zd_14_76_101 : zz_D zy_reckon_14_76 101 (.aload_n 0) 1 102 := ⟨by decide +kernel, rfl⟩
theorem zd_14_76_102 : zz_D zy_reckon_14_76 102 (.getfield 100) 3 105 := ⟨by decide +kernel, rfl⟩
theorem zd_14_76_105 : zz_D zy_reckon_14_76 105 (.iload_n 1) 1 106 := ⟨by decide +kernel, rfl⟩
theorem zd_14_76_106 : zz_D zy_reckon_14_76 106 (.iaload) 1 107 := ⟨by decide +kernel, rfl⟩
theorem zd_14_76_107 : zz_D zy_reckon_14_76 107 (.iconst 1) 1 108 := ⟨by decide +kernel, rfl⟩
theorem zd_14_76_108 : zz_B zy_reckon_14_76 108 (Instr.if_icmp .ne) 127 111 := ⟨19, by decide +kernel, rfl, rfl⟩
theorem zd_14_76_127 : zz_D zy_reckon_14_76 127 (.aload_n 0) 1 128 := ⟨by decide +kernel, rfl⟩
theorem zd_14_76_128 : zz_D zy_reckon_14_76 128 (.aload_n 0) 1 129 := ⟨by decide +kernel, rfl⟩
theorem zd_14_76_129 : zz_D zy_reckon_14_76 129 (.getfield 103) 3 132 := ⟨by decide +kernel, rfl⟩
theorem zd_14_76_132 : zz_D zy_reckon_14_76 132 (.iload_n 1) 1 133 := ⟨by decide +kernel, rfl⟩
theorem zd_14_76_133 : zz_D zy_reckon_14_76 133 (.iaload) 1 134 := ⟨by decide +kernel, rfl⟩
theorem zd_14_76_134 : zz_D zy_reckon_14_76 134 (.iload 6) 2 136 := ⟨by decide +kernel, rfl⟩
theorem zd_14_76_136 : zz_D zy_reckon_14_76 136 (.iload 5) 2 138 := ⟨by decide +kernel, rfl⟩
theorem zd_14_76_138 : zz_D zy_reckon_14_76 138 (.iload 4) 2 140 := ⟨by decide +kernel, rfl⟩
theorem zd_14_76_140 : zz_D zy_reckon_14_76 140 (.invokevirtual 438) 3 143 := ⟨by decide +kernel, rfl⟩
theorem zd_14_76_143 : zz_D zy_reckon_14_76 143 (.aload_n 0) 1 144 := ⟨by decide +kernel, rfl⟩
theorem zd_14_76_144 : zz_D zy_reckon_14_76 144 (.aload_n 0) 1 145 := ⟨by decide +kernel, rfl⟩
theorem zd_14_76_145 : zz_D zy_reckon_14_76 145 (.getfield 106) 3 148 := ⟨by decide +kernel, rfl⟩
theorem zd_14_76_148 : zz_D zy_reckon_14_76 148 (.iload_n 1) 1 149 := ⟨by decide +kernel, rfl⟩
theorem zd_14_76_149 : zz_D zy_reckon_14_76 149 (.iaload) 1 150 := ⟨by decide +kernel, rfl⟩
theorem zd_14_76_150 : zz_D zy_reckon_14_76 150 (.iload 6) 2 152 := ⟨by decide +kernel, rfl⟩
theorem zd_14_76_152 : zz_D zy_reckon_14_76 152 (.iload 5) 2 154 := ⟨by decide +kernel, rfl⟩
theorem zd_14_76_154 : zz_D zy_reckon_14_76 154 (.iload 4) 2 156 := ⟨by decide +kernel, rfl⟩
theorem zd_14_76_156 : zz_D zy_reckon_14_76 156 (.invokevirtual 438) 3 159 := ⟨by decide +kernel, rfl⟩
theorem zd_14_76_159 : zz_D zy_reckon_14_76 159 (.iadd) 1 160 := ⟨by decide +kernel, rfl⟩
theorem zd_14_76_160 : zz_D zy_reckon_14_76 160 (.aload_n 0) 1 161 := ⟨by decide +kernel, rfl⟩
theorem zd_14_76_161 : zz_D zy_reckon_14_76 161 (.getfield 121) 3 164 := ⟨by decide +kernel, rfl⟩
theorem zd_14_76_164 : zz_D zy_reckon_14_76 164 (.iload_n 1) 1 165 := ⟨by decide +kernel, rfl⟩
theorem zd_14_76_165 : zz_D zy_reckon_14_76 165 (.iaload) 1 166 := ⟨by decide +kernel, rfl⟩
theorem zd_14_76_166 : zz_D zy_reckon_14_76 166 (.invokestatic 261) 3 169 := ⟨by decide +kernel, rfl⟩
theorem zd_14_76_169 : zz_D zy_reckon_14_76 169 (.istore 7) 2 171 := ⟨by decide +kernel, rfl⟩
theorem zd_14_76_171 : zz_D zy_reckon_14_76 171 (.aload_n 0) 1 172 := ⟨by decide +kernel, rfl⟩
theorem zd_14_76_172 : zz_D zy_reckon_14_76 172 (.getfield 13) 3 175 := ⟨by decide +kernel, rfl⟩
theorem zd_14_76_175 : zz_D zy_reckon_14_76 175 (.aload_n 0) 1 176 := ⟨by decide +kernel, rfl⟩
theorem zd_14_76_176 : zz_D zy_reckon_14_76 176 (.getfield 97) 3 179 := ⟨by decide +kernel, rfl⟩
theorem zd_14_76_179 : zz_D zy_reckon_14_76 179 (.iload_n 2) 1 180 := ⟨by decide +kernel, rfl⟩
theorem zd_14_76_180 : zz_D zy_reckon_14_76 180 (.iaload) 1 181 := ⟨by decide +kernel, rfl⟩
theorem zd_14_76_181 : zz_D zy_reckon_14_76 181 (.iload_n 3) 1 182 := ⟨by decide +kernel, rfl⟩
theorem zd_14_76_182 : zz_D zy_reckon_14_76 182 (.iadd) 1 183 := ⟨by decide +kernel, rfl⟩
theorem zd_14_76_183 : zz_D zy_reckon_14_76 183 (.iload 7) 2 185 := ⟨by decide +kernel, rfl⟩
theorem zd_14_76_185 : zz_D zy_reckon_14_76 185 (.iastore) 1 186 := ⟨by decide +kernel, rfl⟩
theorem zd_14_76_186 : zz_D zy_reckon_14_76 186 (.iinc 3 1) 3 189 := ⟨by decide +kernel, rfl⟩
theorem zd_14_76_189 : zz_B zy_reckon_14_76 189 Instr.goto 23 192 := ⟨(-166), by decide +kernel, rfl, rfl⟩
theorem zd_14_76_111 : zz_D zy_reckon_14_76 111 (.aload_n 0) 1 112 := ⟨by decide +kernel, rfl⟩
theorem zd_14_76_112 : zz_D zy_reckon_14_76 112 (.iload_n 1) 1 113 := ⟨by decide +kernel, rfl⟩
theorem zd_14_76_113 : zz_D zy_reckon_14_76 113 (.iload 6) 2 115 := ⟨by decide +kernel, rfl⟩
theorem zd_14_76_115 : zz_D zy_reckon_14_76 115 (.iload 5) 2 117 := ⟨by decide +kernel, rfl⟩
theorem zd_14_76_117 : zz_D zy_reckon_14_76 117 (.iload 4) 2 119 := ⟨by decide +kernel, rfl⟩
theorem zd_14_76_119 : zz_D zy_reckon_14_76 119 (.invokevirtual 444) 3 122 := ⟨by decide +kernel, rfl⟩
theorem zk_Md_444 : mm_Vl "TensorForgeModel" 444 11 4 zy_pooled_14_75 := ⟨zyw_pooled_14_75, (R_Md, F_Md, 69), rfl, mm_tb_1 2129 (by decide +kernel) rfl, mm_tb_1 2131 (by decide +kernel) rfl, mm_tb_s 126 (by decide +kernel) rfl⟩
theorem zd_14_76_122 : zz_D zy_reckon_14_76 122 (.istore 7) 2 124 := ⟨by decide +kernel, rfl⟩
theorem zd_14_76_124 : zz_B zy_reckon_14_76 124 Instr.goto 171 127 := ⟨47, by decide +kernel, rfl, rfl⟩
theorem zd_14_76_85 : zz_D zy_reckon_14_76 85 (.aload_n 0) 1 86 := ⟨by decide +kernel, rfl⟩
theorem zd_14_76_86 : zz_D zy_reckon_14_76 86 (.iload_n 1) 1 87 := ⟨by decide +kernel, rfl⟩
theorem zd_14_76_87 : zz_D zy_reckon_14_76 87 (.iload 6) 2 89 := ⟨by decide +kernel, rfl⟩
theorem zd_14_76_89 : zz_D zy_reckon_14_76 89 (.iload 5) 2 91 := ⟨by decide +kernel, rfl⟩
theorem zd_14_76_91 : zz_D zy_reckon_14_76 91 (.iload 4) 2 93 := ⟨by decide +kernel, rfl⟩
theorem zd_14_76_93 : zz_D zy_reckon_14_76 93 (.invokevirtual 441) 3 96 := ⟨by decide +kernel, rfl⟩
theorem zk_Md_441 : mm_Vl "TensorForgeModel" 441 11 4 zy_convolved_14_74 := ⟨zyw_convolved_14_74, (R_Md, F_Md, 69), rfl, mm_tb_1 2117 (by decide +kernel) rfl, mm_tb_1 2119 (by decide +kernel) rfl, mm_tb_s 123 (by decide +kernel) rfl⟩
theorem zd_14_76_96 : zz_D zy_reckon_14_76 96 (.istore 7) 2 98 := ⟨by decide +kernel, rfl⟩
theorem zd_14_76_98 : zz_B zy_reckon_14_76 98 Instr.goto 171 101 := ⟨73, by decide +kernel, rfl, rfl⟩
-- TensorForgeModel reckon ()V
abbrev zr_reckon_14_76 : Room := { frames := 3, cells := 0, slots := 0, locals := 56 }
def zp_reckon_14_76  (S0 : zz_S) : zz_S → Prop := fun S => zz_G S ∧ zz_fr [(1079, 0)] [1080] (fun _ _ => False) S0 S ∧ (zz_Hr S)
theorem zb_reckon_14_76_7 {g : mm_G} {l : Launch}  (S0 : zz_S) (n : Nat) (hn : zz_end ≤ n) (G_S0 : zz_G S0) (R_S0 : zz_Hr S0) (x1 : Int) (S : zz_S) (G_S : zz_G S) (F_S : zz_fr [(1079, 0)] [1080] (fun _ _ => False) S0 S) (i7_0 : 0 ≤ x1 ∧ x1 ≤ 10) (i7_1 : zz_Hr S) (R : Nat) (hR : (34359738368 + (2147483647 - x1).toNat) * 1099511627776 + 1099511627775 = R) (k23 : ∀ (x1 : Int) (x2 : Int) (x3 : Int) (S : zz_S), zz_G S → zz_fr [(1079, 0)] [1080] (fun _ _ => False) S0 S → (0 ≤ x1 ∧ x1 ≤ 9) → (1 ≤ x2 ∧ x2 ≤ 10) → (0 ≤ x3 ∧ x3 ≤ 250047) → (0 ≤ x1 ∧ x1 ≤ 10) → (x2 = x1 + 1) → (x1 + 1 < S0 1079 36) → (zz_Hr S) → (34359738368 + (2147483647 - x1).toNat) * 1099511627776 + (17179869184 + (2147483647 - x3).toNat) < R → zz_E g l zy_reckon_14_76 zr_reckon_14_76 (zz_QV n (zp_reckon_14_76  S0)) S n 23 [some (.ref 1079), some (zi x1), some (zi x2), some (zi x3)] [] 0 0) : zz_E g l zy_reckon_14_76 zr_reckon_14_76 (zz_QV n (zp_reckon_14_76  S0)) S n 7 [some (.ref 1079), some (zi x1)] [] 0 0 := by
  have R_S := i7_1
  refine zz_iload_n (x := x1) rfl zd_14_76_7 ?_
  refine zz_aload_n (x := 1079) rfl zd_14_76_8 ?_
  have g2 := zz_G.r G_S0 1079 36 0 11 rfl rfl
  refine zz_geti (z := S0 1079 36) zd_14_76_9 zf_Md_85 zT_1079 rfl (zz_ltn hn rfl) (zz_rc F_S rfl rfl (fun h => h) rfl) ?_
  refine zz_iconst zd_14_76_12 ?_
  refine zz_isub zd_14_76_13 ?_
  refine zz_icmp_ge (by omega) (by omega) zd_14_76_14 (fun c3 => ?_) (fun c3 => ?_)
  · exact zz_vret zd_14_76_198 rfl (Nat.zero_le _) (Nat.zero_le _) ⟨_, rfl, G_S, F_S, R_S⟩
  · refine zz_iload_n (x := x1) rfl zd_14_76_17 ?_
    refine zz_iconst zd_14_76_18 ?_
    refine zz_iadd zd_14_76_19 ?_
    refine zz_istore_n [some (.ref 1079), some (zi x1), some (zi (x1 + 1))] zd_14_76_20 (by decide) rfl ?_
    refine zz_iconst zd_14_76_21 ?_
    refine zz_istore_n [some (.ref 1079), some (zi x1), some (zi (x1 + 1)), some (zi 0)] zd_14_76_22 (by decide) rfl ?_
    refine zz_less (ls1 := [some (.ref 1079), some (zi x1), some (zi (x1 + 1)), some (zi 0)]) ⟨rfl, ⟨rfl, ⟨rfl, ⟨rfl, trivial⟩⟩⟩⟩ ?_
    exact k23 x1 (x1 + 1) 0 S G_S F_S (by omega) (by omega) (by omega) (by omega) (by omega) (by omega) R_S (by omega)
theorem zb_reckon_14_76_23 {g : mm_G} {l : Launch}  (S0 : zz_S) (n : Nat) (hn : zz_end ≤ n) (G_S0 : zz_G S0) (R_S0 : zz_Hr S0) (x1 : Int) (x2 : Int) (x3 : Int) (S : zz_S) (G_S : zz_G S) (F_S : zz_fr [(1079, 0)] [1080] (fun _ _ => False) S0 S) (i23_0 : 0 ≤ x1 ∧ x1 ≤ 9) (i23_1 : 1 ≤ x2 ∧ x2 ≤ 10) (i23_2 : 0 ≤ x3 ∧ x3 ≤ 250047) (i23_3 : 0 ≤ x1 ∧ x1 ≤ 10) (i23_4 : x2 = x1 + 1) (i23_5 : x1 + 1 < S0 1079 36) (i23_6 : zz_Hr S) (R : Nat) (hR : (34359738368 + (2147483647 - x1).toNat) * 1099511627776 + (17179869184 + (2147483647 - x3).toNat) = R) (k7 : ∀ (x1 : Int) (S : zz_S), zz_G S → zz_fr [(1079, 0)] [1080] (fun _ _ => False) S0 S → (0 ≤ x1 ∧ x1 ≤ 10) → (zz_Hr S) → (34359738368 + (2147483647 - x1).toNat) * 1099511627776 + 1099511627775 < R → zz_E g l zy_reckon_14_76 zr_reckon_14_76 (zz_QV n (zp_reckon_14_76  S0)) S n 7 [some (.ref 1079), some (zi x1)] [] 0 0) (k23 : ∀ (x1 : Int) (x2 : Int) (x3 : Int) (S : zz_S), zz_G S → zz_fr [(1079, 0)] [1080] (fun _ _ => False) S0 S → (0 ≤ x1 ∧ x1 ≤ 9) → (1 ≤ x2 ∧ x2 ≤ 10) → (0 ≤ x3 ∧ x3 ≤ 250047) → (0 ≤ x1 ∧ x1 ≤ 10) → (x2 = x1 + 1) → (x1 + 1 < S0 1079 36) → (zz_Hr S) → (34359738368 + (2147483647 - x1).toNat) * 1099511627776 + (17179869184 + (2147483647 - x3).toNat) < R → zz_E g l zy_reckon_14_76 zr_reckon_14_76 (zz_QV n (zp_reckon_14_76  S0)) S n 23 [some (.ref 1079), some (zi x1), some (zi x2), some (zi x3)] [] 0 0) : zz_E g l zy_reckon_14_76 zr_reckon_14_76 (zz_QV n (zp_reckon_14_76  S0)) S n 23 [some (.ref 1079), some (zi x1), some (zi x2), some (zi x3)] [] 0 0 := by
  have R_S := i23_6
  refine zz_iload_n (x := x3) rfl zd_14_76_23 ?_
  refine zz_aload_n (x := 1079) rfl zd_14_76_24 ?_
  refine zz_iload_n (x := x2) rfl zd_14_76_25 ?_
  have g4 := zz_G.r G_S0 1102 x2.toNat 0 63 rfl rfl
  have e5 : S 1102 x2.toNat = S0 1102 x2.toNat := (zz_rc F_S (zz_nc1 rfl) rfl (fun h => h) rfl)
  have g6 := zz_G.r G_S0 1103 x2.toNat 0 63 rfl rfl
  have e7 : S 1103 x2.toNat = S0 1103 x2.toNat := (zz_rc F_S (zz_nc1 rfl) rfl (fun h => h) rfl)
  have g8 := zz_G.r G_S0 1104 x2.toNat 0 63 rfl rfl
  have e9 : S 1104 x2.toNat = S0 1104 x2.toNat := (zz_rc F_S (zz_nc1 rfl) rfl (fun h => h) rfl)
  refine zz_callVI [zi x2] zd_14_76_26 zk_Md_200 zT_1079 (zz_ltn hn rfl) rfl rfl ⟨Nat.le_of_ble_eq_true rfl, Nat.le_of_ble_eq_true rfl⟩ ⟨rfl, rfl⟩ (Nat.zero_le _) (Nat.zero_le _) (zc_sizeOf_14_90 x2 S n hn G_S (by omega)) (fun v11 S10 hP => ?_)
  obtain ⟨rfl, o12, o13⟩ := hP
  refine zz_icmp_ge (by omega) (by omega) zd_14_76_29 (fun c14 => ?_) (fun c14 => ?_)
  · refine zz_iinc [some (.ref 1079), some (zi (x1 + 1)), some (zi x2), some (zi x3)] zd_14_76_192 rfl rfl ?_
    refine zz_goto zd_14_76_195 ?_
    refine zz_less (ls1 := [some (.ref 1079), some (zi (x1 + 1))]) ⟨rfl, ⟨rfl, trivial⟩⟩ ?_
    exact k7 (x1 + 1) S G_S F_S (by omega) R_S (by omega)
  · have e92 : x2 = x1 + 1 := by omega
    have hz9 := R_S0.1 (x1 + 1).toNat (by omega)
    unfold zz_tn zz_sz at hz9
    have hs9 := zz_ny2 (h := S0 1102 (x1 + 1).toNat) (w := S0 1103 (x1 + 1).toNat) (c := S0 1104 (x1 + 1).toNat) (k := x3) (by omega) (by omega) (by omega)
    have gf9 := zz_G.r G_S0 1105 (x1 + 1).toNat (0) (if (x1 + 1).toNat = 0 then 0 else 10000000) rfl rfl
    refine zz_iload_n (x := x3) rfl zd_14_76_32 ?_
    refine zz_aload_n (x := 1079) rfl zd_14_76_33 ?_
    refine zz_getr (kd := 0) (z := 1104) zd_14_76_34 zf_Md_94 zT_1079 rfl (zz_ltn hn rfl) (zz_G.eq G_S 1079 39 1104 rfl rfl) (by decide) 1104 rfl ?_
    refine zz_iload_n (x := x2) rfl zd_14_76_37 ?_
    refine zz_iald (z := S0 1104 x2.toNat) zd_14_76_38 zT_1104 rfl (zz_ltn hn rfl) (by decide) (by omega) (zz_rc F_S (zz_nc1 rfl) rfl (fun h => h) rfl) ?_
    refine zz_irem (by omega) (by omega) zd_14_76_39 (fun v15 hv15 av15 bv15 cv15 => ?_)
    obtain rfl : v15 = x3 % (S0 1104 x2.toNat) := by omega
    refine zz_istore [some (.ref 1079), some (zi x1), some (zi x2), some (zi x3), some (zi (x3 % (S0 1104 x2.toNat)))] zd_14_76_40 (by decide) rfl ?_
    refine zz_iload_n (x := x3) rfl zd_14_76_42 ?_
    refine zz_aload_n (x := 1079) rfl zd_14_76_43 ?_
    refine zz_getr (kd := 0) (z := 1104) zd_14_76_44 zf_Md_94 zT_1079 rfl (zz_ltn hn rfl) (zz_G.eq G_S 1079 39 1104 rfl rfl) (by decide) 1104 rfl ?_
    refine zz_iload_n (x := x2) rfl zd_14_76_47 ?_
    refine zz_iald (z := S0 1104 x2.toNat) zd_14_76_48 zT_1104 rfl (zz_ltn hn rfl) (by decide) (by omega) (zz_rc F_S (zz_nc1 rfl) rfl (fun h => h) rfl) ?_
    refine zz_idiv (by omega) (by omega) zd_14_76_49 (fun v16 hv16 av16 bv16 cv16 => ?_)
    have m17 := zz_divb (by omega) (by omega) av16
    obtain rfl : v16 = x3 / (S0 1104 x2.toNat) := by omega
    refine zz_aload_n (x := 1079) rfl zd_14_76_50 ?_
    refine zz_getr (kd := 0) (z := 1103) zd_14_76_51 zf_Md_91 zT_1079 rfl (zz_ltn hn rfl) (zz_G.eq G_S 1079 38 1103 rfl rfl) (by decide) 1103 rfl ?_
    refine zz_iload_n (x := x2) rfl zd_14_76_54 ?_
    refine zz_iald (z := S0 1103 x2.toNat) zd_14_76_55 zT_1103 rfl (zz_ltn hn rfl) (by decide) (by omega) (zz_rc F_S (zz_nc1 rfl) rfl (fun h => h) rfl) ?_
    refine zz_irem (by omega) (by omega) zd_14_76_56 (fun v18 hv18 av18 bv18 cv18 => ?_)
    obtain rfl : v18 = (x3 / (S0 1104 x2.toNat)) % (S0 1103 x2.toNat) := by omega
    refine zz_istore [some (.ref 1079), some (zi x1), some (zi x2), some (zi x3), some (zi (x3 % (S0 1104 x2.toNat))), some (zi ((x3 / (S0 1104 x2.toNat)) % (S0 1103 x2.toNat)))] zd_14_76_57 (by decide) rfl ?_
    refine zz_iload_n (x := x3) rfl zd_14_76_59 ?_
    refine zz_aload_n (x := 1079) rfl zd_14_76_60 ?_
    refine zz_getr (kd := 0) (z := 1104) zd_14_76_61 zf_Md_94 zT_1079 rfl (zz_ltn hn rfl) (zz_G.eq G_S 1079 39 1104 rfl rfl) (by decide) 1104 rfl ?_
    refine zz_iload_n (x := x2) rfl zd_14_76_64 ?_
    refine zz_iald (z := S0 1104 x2.toNat) zd_14_76_65 zT_1104 rfl (zz_ltn hn rfl) (by decide) (by omega) (zz_rc F_S (zz_nc1 rfl) rfl (fun h => h) rfl) ?_
    refine zz_idiv (by omega) (by omega) zd_14_76_66 (fun v19 hv19 av19 bv19 cv19 => ?_)
    have m20 := zz_divb (by omega) (by omega) av19
    obtain rfl : v19 = x3 / (S0 1104 x2.toNat) := by omega
    refine zz_aload_n (x := 1079) rfl zd_14_76_67 ?_
    refine zz_getr (kd := 0) (z := 1103) zd_14_76_68 zf_Md_91 zT_1079 rfl (zz_ltn hn rfl) (zz_G.eq G_S 1079 38 1103 rfl rfl) (by decide) 1103 rfl ?_
    refine zz_iload_n (x := x2) rfl zd_14_76_71 ?_
    refine zz_iald (z := S0 1103 x2.toNat) zd_14_76_72 zT_1103 rfl (zz_ltn hn rfl) (by decide) (by omega) (zz_rc F_S (zz_nc1 rfl) rfl (fun h => h) rfl) ?_
    refine zz_idiv (by omega) (by omega) zd_14_76_73 (fun v21 hv21 av21 bv21 cv21 => ?_)
    have m22 := zz_divb (by omega) (by omega) av21
    obtain rfl : v21 = (x3 / (S0 1104 x2.toNat)) / (S0 1103 x2.toNat) := by omega
    refine zz_istore [some (.ref 1079), some (zi x1), some (zi x2), some (zi x3), some (zi (x3 % (S0 1104 x2.toNat))), some (zi ((x3 / (S0 1104 x2.toNat)) % (S0 1103 x2.toNat))), some (zi ((x3 / (S0 1104 x2.toNat)) / (S0 1103 x2.toNat)))] zd_14_76_74 (by decide) rfl ?_
    refine zz_aload_n (x := 1079) rfl zd_14_76_76 ?_
    refine zz_getr (kd := 0) (z := 1106) zd_14_76_77 zf_Md_100 zT_1079 rfl (zz_ltn hn rfl) (zz_G.eq G_S 1079 41 1106 rfl rfl) (by decide) 1106 rfl ?_
    refine zz_iload_n (x := x1) rfl zd_14_76_80 ?_
    have g23 := zz_G.r G_S0 1106 x1.toNat 0 2 rfl rfl
    refine zz_iald (z := S0 1106 x1.toNat) zd_14_76_81 zT_1106 rfl (zz_ltn hn rfl) (by decide) (by omega) (zz_rc F_S (zz_nc1 rfl) rfl (fun h => h) rfl) ?_
    refine zz_if_ne (by omega) zd_14_76_82 (fun c24 => ?_) (fun c24 => ?_)
    · refine zz_aload_n (x := 1079) rfl zd_14_76_101 ?_
      refine zz_getr (kd := 0) (z := 1106) zd_14_76_102 zf_Md_100 zT_1079 rfl (zz_ltn hn rfl) (zz_G.eq G_S 1079 41 1106 rfl rfl) (by decide) 1106 rfl ?_
      refine zz_iload_n (x := x1) rfl zd_14_76_105 ?_
      refine zz_iald (z := S0 1106 x1.toNat) zd_14_76_106 zT_1106 rfl (zz_ltn hn rfl) (by decide) (by omega) (zz_rc F_S (zz_nc1 rfl) rfl (fun h => h) rfl) ?_
      refine zz_iconst zd_14_76_107 ?_
      refine zz_icmp_ne (by omega) (by omega) zd_14_76_108 (fun c25 => ?_) (fun c25 => ?_)
      · have hb9 := R_S0.2 x1.toNat (by omega)
        unfold zz_la at hb9
        have hone := hb9.1
        have hk9 := hb9.2.2.2 (by omega)
        clear hb9
        rw [show x1.toNat + 1 = (x1 + 1).toNat by omega] at hk9
        refine zz_aload_n (x := 1079) rfl zd_14_76_127 ?_
        refine zz_aload_n (x := 1079) rfl zd_14_76_128 ?_
        refine zz_getr (kd := 0) (z := 1107) zd_14_76_129 zf_Md_103 zT_1079 rfl (zz_ltn hn rfl) (zz_G.eq G_S 1079 42 1107 rfl rfl) (by decide) 1107 rfl ?_
        refine zz_iload_n (x := x1) rfl zd_14_76_132 ?_
        have g26 := zz_G.r G_S0 1107 x1.toNat 0 10 rfl rfl
        refine zz_iald (z := S0 1107 x1.toNat) zd_14_76_133 zT_1107 rfl (zz_ltn hn rfl) (by decide) (by omega) (zz_rc F_S (zz_nc1 rfl) rfl (fun h => h) rfl) ?_
        refine zz_iload (x := (x3 / (S0 1104 x2.toNat)) / (S0 1103 x2.toNat)) rfl zd_14_76_134 ?_
        refine zz_iload (x := (x3 / (S0 1104 x2.toNat)) % (S0 1103 x2.toNat)) rfl zd_14_76_136 ?_
        refine zz_iload (x := x3 % (S0 1104 x2.toNat)) rfl zd_14_76_138 ?_
        have g27 := zz_G.r G_S0 1102 ((S0 1107 x1.toNat).toNat) 0 63 rfl rfl
        have e28 : S 1102 (S0 1107 x1.toNat).toNat = S0 1102 (S0 1107 x1.toNat).toNat := (zz_rc F_S (zz_nc1 rfl) rfl (fun h => h) rfl)
        have g29 := zz_G.r G_S0 1103 ((S0 1107 x1.toNat).toNat) 0 63 rfl rfl
        have e30 : S 1103 (S0 1107 x1.toNat).toNat = S0 1103 (S0 1107 x1.toNat).toNat := (zz_rc F_S (zz_nc1 rfl) rfl (fun h => h) rfl)
        have g31 := zz_G.r G_S0 1104 ((S0 1107 x1.toNat).toNat) 0 63 rfl rfl
        have e32 : S 1104 (S0 1107 x1.toNat).toNat = S0 1104 (S0 1107 x1.toNat).toNat := (zz_rc F_S (zz_nc1 rfl) rfl (fun h => h) rfl)
        refine zz_callVI [zi (S0 1107 x1.toNat), zi ((x3 / (S0 1104 x2.toNat)) / (S0 1103 x2.toNat)), zi ((x3 / (S0 1104 x2.toNat)) % (S0 1103 x2.toNat)), zi (x3 % (S0 1104 x2.toNat))] zd_14_76_140 zk_Md_438 zT_1079 (zz_ltn hn rfl) rfl rfl ⟨Nat.le_of_ble_eq_true rfl, Nat.le_of_ble_eq_true rfl⟩ ⟨rfl, rfl⟩ (Nat.zero_le _) (Nat.zero_le _) (zc_cellAt_14_73 (S0 1107 x1.toNat) ((x3 / (S0 1104 x2.toNat)) / (S0 1103 x2.toNat)) ((x3 / (S0 1104 x2.toNat)) % (S0 1103 x2.toNat)) (x3 % (S0 1104 x2.toNat)) S n hn G_S (by omega) (by omega) (by omega) (by omega) (R_S.1 (S0 1107 x1.toNat).toNat (by omega)) (by omega) (by omega) (by omega)) (fun v34 S33 hP => ?_)
        obtain ⟨rfl, o35⟩ := hP
        refine zz_aload_n (x := 1079) rfl zd_14_76_143 ?_
        refine zz_aload_n (x := 1079) rfl zd_14_76_144 ?_
        refine zz_getr (kd := 0) (z := 1108) zd_14_76_145 zf_Md_106 zT_1079 rfl (zz_ltn hn rfl) (zz_G.eq G_S 1079 43 1108 rfl rfl) (by decide) 1108 rfl ?_
        refine zz_iload_n (x := x1) rfl zd_14_76_148 ?_
        have g36 := zz_G.r G_S0 1108 x1.toNat 0 10 rfl rfl
        refine zz_iald (z := S0 1108 x1.toNat) zd_14_76_149 zT_1108 rfl (zz_ltn hn rfl) (by decide) (by omega) (zz_rc F_S (zz_nc1 rfl) rfl (fun h => h) rfl) ?_
        refine zz_iload (x := (x3 / (S0 1104 x2.toNat)) / (S0 1103 x2.toNat)) rfl zd_14_76_150 ?_
        refine zz_iload (x := (x3 / (S0 1104 x2.toNat)) % (S0 1103 x2.toNat)) rfl zd_14_76_152 ?_
        refine zz_iload (x := x3 % (S0 1104 x2.toNat)) rfl zd_14_76_154 ?_
        have g37 := zz_G.r G_S0 1102 ((S0 1108 x1.toNat).toNat) 0 63 rfl rfl
        have e38 : S 1102 (S0 1108 x1.toNat).toNat = S0 1102 (S0 1108 x1.toNat).toNat := (zz_rc F_S (zz_nc1 rfl) rfl (fun h => h) rfl)
        have g39 := zz_G.r G_S0 1103 ((S0 1108 x1.toNat).toNat) 0 63 rfl rfl
        have e40 : S 1103 (S0 1108 x1.toNat).toNat = S0 1103 (S0 1108 x1.toNat).toNat := (zz_rc F_S (zz_nc1 rfl) rfl (fun h => h) rfl)
        have g41 := zz_G.r G_S0 1104 ((S0 1108 x1.toNat).toNat) 0 63 rfl rfl
        have e42 : S 1104 (S0 1108 x1.toNat).toNat = S0 1104 (S0 1108 x1.toNat).toNat := (zz_rc F_S (zz_nc1 rfl) rfl (fun h => h) rfl)
        refine zz_callVI [zi (S0 1108 x1.toNat), zi ((x3 / (S0 1104 x2.toNat)) / (S0 1103 x2.toNat)), zi ((x3 / (S0 1104 x2.toNat)) % (S0 1103 x2.toNat)), zi (x3 % (S0 1104 x2.toNat))] zd_14_76_156 zk_Md_438 zT_1079 (zz_ltn hn rfl) rfl rfl ⟨Nat.le_of_ble_eq_true rfl, Nat.le_of_ble_eq_true rfl⟩ ⟨rfl, rfl⟩ (Nat.zero_le _) (Nat.zero_le _) (zc_cellAt_14_73 (S0 1108 x1.toNat) ((x3 / (S0 1104 x2.toNat)) / (S0 1103 x2.toNat)) ((x3 / (S0 1104 x2.toNat)) % (S0 1103 x2.toNat)) (x3 % (S0 1104 x2.toNat)) S n hn G_S (by omega) (by omega) (by omega) (by omega) (R_S.1 (S0 1108 x1.toNat).toNat (by omega)) (by omega) (by omega) (by omega)) (fun v44 S43 hP => ?_)
        obtain ⟨rfl, o45⟩ := hP
        refine zz_iadd zd_14_76_159 ?_
        refine zz_nrm (fun v46 hv46 ev46 => ?_)
        refine zz_aload_n (x := 1079) rfl zd_14_76_160 ?_
        refine zz_getr (kd := 0) (z := 1113) zd_14_76_161 zf_Md_121 zT_1079 rfl (zz_ltn hn rfl) (zz_G.eq G_S 1079 48 1113 rfl rfl) (by decide) 1113 rfl ?_
        refine zz_iload_n (x := x1) rfl zd_14_76_164 ?_
        have g47 := zz_G.r G_S0 1113 x1.toNat 0 31 rfl rfl
        refine zz_iald (z := S0 1113 x1.toNat) zd_14_76_165 zT_1113 rfl (zz_ltn hn rfl) (by decide) (by omega) (zz_rc F_S (zz_nc1 rfl) rfl (fun h => h) rfl) ?_
        refine zz_callSI [zi v46, zi (S0 1113 x1.toNat)] zd_14_76_166 zk_Md_261 rfl rfl ⟨Nat.le_of_ble_eq_true rfl, Nat.le_of_ble_eq_true rfl⟩ ⟨rfl, rfl⟩ (Nat.zero_le _) (Nat.zero_le _) (zc_narrowed_14_26 v46 (S0 1113 x1.toNat) S n hn G_S (by omega) (by omega)) (fun v49 S48 hP => ?_)
        obtain ⟨rfl, o50⟩ := hP
        refine zz_istore [some (.ref 1079), some (zi x1), some (zi x2), some (zi x3), some (zi (x3 % (S0 1104 x2.toNat))), some (zi ((x3 / (S0 1104 x2.toNat)) % (S0 1103 x2.toNat))), some (zi ((x3 / (S0 1104 x2.toNat)) / (S0 1103 x2.toNat))), some (zi v49)] zd_14_76_169 (by decide) rfl ?_
        refine zz_aload_n (x := 1079) rfl zd_14_76_171 ?_
        refine zz_getr (kd := 0) (z := 1080) zd_14_76_172 zf_Md_13 zT_1079 rfl (zz_ltn hn rfl) (zz_G.eq G_S 1079 2 1080 rfl rfl) (by decide) 1080 rfl ?_
        refine zz_aload_n (x := 1079) rfl zd_14_76_175 ?_
        refine zz_getr (kd := 0) (z := 1105) zd_14_76_176 zf_Md_97 zT_1079 rfl (zz_ltn hn rfl) (zz_G.eq G_S 1079 40 1105 rfl rfl) (by decide) 1105 rfl ?_
        refine zz_iload_n (x := x2) rfl zd_14_76_179 ?_
        have g51 := zz_G.r G_S0 1105 x2.toNat (0) (if x2.toNat = 0 then 0 else 10000000) rfl rfl
        refine zz_iald (z := S0 1105 x2.toNat) zd_14_76_180 zT_1105 rfl (zz_ltn hn rfl) (by decide) (by omega) (zz_rc F_S (zz_nc1 rfl) rfl (fun h => h) rfl) ?_
        refine zz_iload_n (x := x3) rfl zd_14_76_181 ?_
        refine zz_iadd zd_14_76_182 ?_
        refine zz_iload (x := v49) rfl zd_14_76_183 ?_
        refine zz_iast zd_14_76_185 zT_1080 rfl (zz_ltn hn rfl) (by decide) (by omega) (fun S52 qS52 => ?_)
        have G_S52 := zz_G.put G_S qS52 (-2147483648) 2147483647 rfl (by omega)
        have F_S52 := zz_fr.putc F_S qS52 rfl
        have R_S52 : zz_Hr S52 := zz_Hr.fr (zz_fr.put1 qS52) rfl rfl (fun b j h => by omega) R_S
        refine zz_iinc [some (.ref 1079), some (zi x1), some (zi x2), some (zi (x3 + 1)), some (zi (x3 % (S0 1104 x2.toNat))), some (zi ((x3 / (S0 1104 x2.toNat)) % (S0 1103 x2.toNat))), some (zi ((x3 / (S0 1104 x2.toNat)) / (S0 1103 x2.toNat))), some (zi v49)] zd_14_76_186 rfl rfl ?_
        refine zz_goto zd_14_76_189 ?_
        refine zz_less (ls1 := [some (.ref 1079), some (zi x1), some (zi x2), some (zi (x3 + 1))]) ⟨rfl, ⟨rfl, ⟨rfl, ⟨rfl, trivial⟩⟩⟩⟩ ?_
        exact k23 x1 x2 (x3 + 1) S52 G_S52 F_S52 (by omega) (by omega) (by omega) (by omega) (by omega) (by omega) R_S52 (by omega)
      · refine zz_aload_n (x := 1079) rfl zd_14_76_111 ?_
        refine zz_iload_n (x := x1) rfl zd_14_76_112 ?_
        refine zz_iload (x := (x3 / (S0 1104 x2.toNat)) / (S0 1103 x2.toNat)) rfl zd_14_76_113 ?_
        refine zz_iload (x := (x3 / (S0 1104 x2.toNat)) % (S0 1103 x2.toNat)) rfl zd_14_76_115 ?_
        refine zz_iload (x := x3 % (S0 1104 x2.toNat)) rfl zd_14_76_117 ?_
        have g53 := zz_G.r G_S0 1079 36 0 11 rfl rfl
        have e54 : S 1079 36 = S0 1079 36 := (zz_rc F_S rfl rfl (fun h => h) rfl)
        have e55 : S 1106 x1.toNat = S0 1106 x1.toNat := (zz_rc F_S (zz_nc1 rfl) rfl (fun h => h) rfl)
        have g56 := zz_G.r G_S0 1102 ((x1 + 1).toNat) 0 63 rfl rfl
        have e57 : S 1102 (x1 + 1).toNat = S0 1102 (x1 + 1).toNat := (zz_rc F_S (zz_nc1 rfl) rfl (fun h => h) rfl)
        have g58 := zz_G.r G_S0 1103 ((x1 + 1).toNat) 0 63 rfl rfl
        have e59 : S 1103 (x1 + 1).toNat = S0 1103 (x1 + 1).toNat := (zz_rc F_S (zz_nc1 rfl) rfl (fun h => h) rfl)
        have g60 := zz_G.r G_S0 1104 ((x1 + 1).toNat) 0 63 rfl rfl
        have e61 : S 1104 (x1 + 1).toNat = S0 1104 (x1 + 1).toNat := (zz_rc F_S (zz_nc1 rfl) rfl (fun h => h) rfl)
        refine zz_callVI [zi x1, zi ((x3 / (S0 1104 x2.toNat)) / (S0 1103 x2.toNat)), zi ((x3 / (S0 1104 x2.toNat)) % (S0 1103 x2.toNat)), zi (x3 % (S0 1104 x2.toNat))] zd_14_76_119 zk_Md_444 zT_1079 (zz_ltn hn rfl) rfl rfl ⟨Nat.le_of_ble_eq_true rfl, Nat.le_of_ble_eq_true rfl⟩ ⟨rfl, rfl⟩ (Nat.zero_le _) (Nat.zero_le _) (zc_pooled_14_75 x1 ((x3 / (S0 1104 x2.toNat)) / (S0 1103 x2.toNat)) ((x3 / (S0 1104 x2.toNat)) % (S0 1103 x2.toNat)) (x3 % (S0 1104 x2.toNat)) S n hn G_S (by omega) (by omega) (by omega) (by omega) R_S (by omega) (by omega) (by omega) (by omega) (by omega)) (fun v63 S62 hP => ?_)
        obtain ⟨rfl, o64⟩ := hP
        refine zz_istore [some (.ref 1079), some (zi x1), some (zi x2), some (zi x3), some (zi (x3 % (S0 1104 x2.toNat))), some (zi ((x3 / (S0 1104 x2.toNat)) % (S0 1103 x2.toNat))), some (zi ((x3 / (S0 1104 x2.toNat)) / (S0 1103 x2.toNat))), some (zi v63)] zd_14_76_122 (by decide) rfl ?_
        refine zz_goto zd_14_76_124 ?_
        refine zz_aload_n (x := 1079) rfl zd_14_76_171 ?_
        refine zz_getr (kd := 0) (z := 1080) zd_14_76_172 zf_Md_13 zT_1079 rfl (zz_ltn hn rfl) (zz_G.eq G_S 1079 2 1080 rfl rfl) (by decide) 1080 rfl ?_
        refine zz_aload_n (x := 1079) rfl zd_14_76_175 ?_
        refine zz_getr (kd := 0) (z := 1105) zd_14_76_176 zf_Md_97 zT_1079 rfl (zz_ltn hn rfl) (zz_G.eq G_S 1079 40 1105 rfl rfl) (by decide) 1105 rfl ?_
        refine zz_iload_n (x := x2) rfl zd_14_76_179 ?_
        have g65 := zz_G.r G_S0 1105 x2.toNat (0) (if x2.toNat = 0 then 0 else 10000000) rfl rfl
        refine zz_iald (z := S0 1105 x2.toNat) zd_14_76_180 zT_1105 rfl (zz_ltn hn rfl) (by decide) (by omega) (zz_rc F_S (zz_nc1 rfl) rfl (fun h => h) rfl) ?_
        refine zz_iload_n (x := x3) rfl zd_14_76_181 ?_
        refine zz_iadd zd_14_76_182 ?_
        refine zz_iload (x := v63) rfl zd_14_76_183 ?_
        refine zz_iast zd_14_76_185 zT_1080 rfl (zz_ltn hn rfl) (by decide) (by omega) (fun S66 qS66 => ?_)
        have G_S66 := zz_G.put G_S qS66 (-2147483648) 2147483647 rfl (by omega)
        have F_S66 := zz_fr.putc F_S qS66 rfl
        have R_S66 : zz_Hr S66 := zz_Hr.fr (zz_fr.put1 qS66) rfl rfl (fun b j h => by omega) R_S
        refine zz_iinc [some (.ref 1079), some (zi x1), some (zi x2), some (zi (x3 + 1)), some (zi (x3 % (S0 1104 x2.toNat))), some (zi ((x3 / (S0 1104 x2.toNat)) % (S0 1103 x2.toNat))), some (zi ((x3 / (S0 1104 x2.toNat)) / (S0 1103 x2.toNat))), some (zi v63)] zd_14_76_186 rfl rfl ?_
        refine zz_goto zd_14_76_189 ?_
        refine zz_less (ls1 := [some (.ref 1079), some (zi x1), some (zi x2), some (zi (x3 + 1))]) ⟨rfl, ⟨rfl, ⟨rfl, ⟨rfl, trivial⟩⟩⟩⟩ ?_
        exact k23 x1 x2 (x3 + 1) S66 G_S66 F_S66 (by omega) (by omega) (by omega) (by omega) (by omega) (by omega) R_S66 (by omega)
    · refine zz_aload_n (x := 1079) rfl zd_14_76_85 ?_
      refine zz_iload_n (x := x1) rfl zd_14_76_86 ?_
      refine zz_iload (x := (x3 / (S0 1104 x2.toNat)) / (S0 1103 x2.toNat)) rfl zd_14_76_87 ?_
      refine zz_iload (x := (x3 / (S0 1104 x2.toNat)) % (S0 1103 x2.toNat)) rfl zd_14_76_89 ?_
      refine zz_iload (x := x3 % (S0 1104 x2.toNat)) rfl zd_14_76_91 ?_
      have g67 := zz_G.r G_S0 1079 36 0 11 rfl rfl
      have e68 : S 1079 36 = S0 1079 36 := (zz_rc F_S rfl rfl (fun h => h) rfl)
      have e69 : S 1106 x1.toNat = S0 1106 x1.toNat := (zz_rc F_S (zz_nc1 rfl) rfl (fun h => h) rfl)
      have g70 := zz_G.r G_S0 1104 ((x1 + 1).toNat) 0 63 rfl rfl
      have e71 : S 1104 (x1 + 1).toNat = S0 1104 (x1 + 1).toNat := (zz_rc F_S (zz_nc1 rfl) rfl (fun h => h) rfl)
      refine zz_callVI [zi x1, zi ((x3 / (S0 1104 x2.toNat)) / (S0 1103 x2.toNat)), zi ((x3 / (S0 1104 x2.toNat)) % (S0 1103 x2.toNat)), zi (x3 % (S0 1104 x2.toNat))] zd_14_76_93 zk_Md_441 zT_1079 (zz_ltn hn rfl) rfl rfl ⟨Nat.le_of_ble_eq_true rfl, Nat.le_of_ble_eq_true rfl⟩ ⟨rfl, rfl⟩ (Nat.zero_le _) (Nat.zero_le _) (zc_convolved_14_74 x1 ((x3 / (S0 1104 x2.toNat)) / (S0 1103 x2.toNat)) ((x3 / (S0 1104 x2.toNat)) % (S0 1103 x2.toNat)) (x3 % (S0 1104 x2.toNat)) S n hn G_S (by omega) (by omega) (by omega) (by omega) R_S (by omega) (by omega) (by omega)) (fun v73 S72 hP => ?_)
      obtain ⟨rfl, o74⟩ := hP
      refine zz_istore [some (.ref 1079), some (zi x1), some (zi x2), some (zi x3), some (zi (x3 % (S0 1104 x2.toNat))), some (zi ((x3 / (S0 1104 x2.toNat)) % (S0 1103 x2.toNat))), some (zi ((x3 / (S0 1104 x2.toNat)) / (S0 1103 x2.toNat))), some (zi v73)] zd_14_76_96 (by decide) rfl ?_
      refine zz_goto zd_14_76_98 ?_
      refine zz_aload_n (x := 1079) rfl zd_14_76_171 ?_
      refine zz_getr (kd := 0) (z := 1080) zd_14_76_172 zf_Md_13 zT_1079 rfl (zz_ltn hn rfl) (zz_G.eq G_S 1079 2 1080 rfl rfl) (by decide) 1080 rfl ?_
      refine zz_aload_n (x := 1079) rfl zd_14_76_175 ?_
      refine zz_getr (kd := 0) (z := 1105) zd_14_76_176 zf_Md_97 zT_1079 rfl (zz_ltn hn rfl) (zz_G.eq G_S 1079 40 1105 rfl rfl) (by decide) 1105 rfl ?_
      refine zz_iload_n (x := x2) rfl zd_14_76_179 ?_
      have g75 := zz_G.r G_S0 1105 x2.toNat (0) (if x2.toNat = 0 then 0 else 10000000) rfl rfl
      refine zz_iald (z := S0 1105 x2.toNat) zd_14_76_180 zT_1105 rfl (zz_ltn hn rfl) (by decide) (by omega) (zz_rc F_S (zz_nc1 rfl) rfl (fun h => h) rfl) ?_
      refine zz_iload_n (x := x3) rfl zd_14_76_181 ?_
      refine zz_iadd zd_14_76_182 ?_
      refine zz_iload (x := v73) rfl zd_14_76_183 ?_
      refine zz_iast zd_14_76_185 zT_1080 rfl (zz_ltn hn rfl) (by decide) (by omega) (fun S76 qS76 => ?_)
      have G_S76 := zz_G.put G_S qS76 (-2147483648) 2147483647 rfl (by omega)
      have F_S76 := zz_fr.putc F_S qS76 rfl
      have R_S76 : zz_Hr S76 := zz_Hr.fr (zz_fr.put1 qS76) rfl rfl (fun b j h => by omega) R_S
      refine zz_iinc [some (.ref 1079), some (zi x1), some (zi x2), some (zi (x3 + 1)), some (zi (x3 % (S0 1104 x2.toNat))), some (zi ((x3 / (S0 1104 x2.toNat)) % (S0 1103 x2.toNat))), some (zi ((x3 / (S0 1104 x2.toNat)) / (S0 1103 x2.toNat))), some (zi v73)] zd_14_76_186 rfl rfl ?_
      refine zz_goto zd_14_76_189 ?_
      refine zz_less (ls1 := [some (.ref 1079), some (zi x1), some (zi x2), some (zi (x3 + 1))]) ⟨rfl, ⟨rfl, ⟨rfl, ⟨rfl, trivial⟩⟩⟩⟩ ?_
      exact k23 x1 x2 (x3 + 1) S76 G_S76 F_S76 (by omega) (by omega) (by omega) (by omega) (by omega) (by omega) R_S76 (by omega)
theorem zi_reckon_14_76 {g : mm_G} {l : Launch}  (S0 : zz_S) (n : Nat) (hn : zz_end ≤ n) (G_S0 : zz_G S0) (R_S0 : zz_Hr S0) : ∀ N : Nat, (∀ (x1 : Int) (S : zz_S), zz_G S → zz_fr [(1079, 0)] [1080] (fun _ _ => False) S0 S → (0 ≤ x1 ∧ x1 ≤ 10) → (zz_Hr S) → (34359738368 + (2147483647 - x1).toNat) * 1099511627776 + 1099511627775 < N → zz_E g l zy_reckon_14_76 zr_reckon_14_76 (zz_QV n (zp_reckon_14_76  S0)) S n 7 [some (.ref 1079), some (zi x1)] [] 0 0) ∧ (∀ (x1 : Int) (x2 : Int) (x3 : Int) (S : zz_S), zz_G S → zz_fr [(1079, 0)] [1080] (fun _ _ => False) S0 S → (0 ≤ x1 ∧ x1 ≤ 9) → (1 ≤ x2 ∧ x2 ≤ 10) → (0 ≤ x3 ∧ x3 ≤ 250047) → (0 ≤ x1 ∧ x1 ≤ 10) → (x2 = x1 + 1) → (x1 + 1 < S0 1079 36) → (zz_Hr S) → (34359738368 + (2147483647 - x1).toNat) * 1099511627776 + (17179869184 + (2147483647 - x3).toNat) < N → zz_E g l zy_reckon_14_76 zr_reckon_14_76 (zz_QV n (zp_reckon_14_76  S0)) S n 23 [some (.ref 1079), some (zi x1), some (zi x2), some (zi x3)] [] 0 0) := by
  intro N
  induction N with
  | zero => exact ⟨fun x1 S _ _ _ _ h => absurd h (Nat.not_lt_zero _), fun x1 x2 x3 S _ _ _ _ _ _ _ _ _ h => absurd h (Nat.not_lt_zero _)⟩
  | succ N ih =>
    exact ⟨fun x1 S a b j0 j1 hR => zb_reckon_14_76_7  S0 n hn G_S0 R_S0 x1 S a b j0 j1 _ rfl (fun x1 x2 x3 S a b j0 j1 j2 j3 j4 j5 j6 h => ih.2 x1 x2 x3 S a b j0 j1 j2 j3 j4 j5 j6 (Nat.lt_of_lt_of_le h (Nat.le_of_lt_succ hR))),
      fun x1 x2 x3 S a b j0 j1 j2 j3 j4 j5 j6 hR => zb_reckon_14_76_23  S0 n hn G_S0 R_S0 x1 x2 x3 S a b j0 j1 j2 j3 j4 j5 j6 _ rfl (fun x1 S a b j0 j1 h => ih.1 x1 S a b j0 j1 (Nat.lt_of_lt_of_le h (Nat.le_of_lt_succ hR))) (fun x1 x2 x3 S a b j0 j1 j2 j3 j4 j5 j6 h => ih.2 x1 x2 x3 S a b j0 j1 j2 j3 j4 j5 j6 (Nat.lt_of_lt_of_le h (Nat.le_of_lt_succ hR)))⟩
theorem zc_reckon_14_76 {g : mm_G} {l : Launch}  (S0 : zz_S) (n : Nat) (hn : zz_end ≤ n) (G_S0 : zz_G S0) (R_S0 : zz_Hr S0) : mm_Met g l zy_reckon_14_76 zr_reckon_14_76 [.ref 1079] (zz_M S0 n) n (zz_QV n (zp_reckon_14_76  S0)) := by
  refine zz_enter (by decide) (Nat.le_of_ble_eq_true rfl) (zz_less (ls1 := [some (.ref 1079)]) ⟨rfl, trivial⟩ ?_)
  have F_S0 : zz_fr [(1079, 0)] [1080] (fun _ _ => False) S0 S0 := zz_fr.refl
  have k7 : ∀ (x1 : Int) (S : zz_S), zz_G S → zz_fr [(1079, 0)] [1080] (fun _ _ => False) S0 S → (0 ≤ x1 ∧ x1 ≤ 10) → (zz_Hr S) → zz_E g l zy_reckon_14_76 zr_reckon_14_76 (zz_QV n (zp_reckon_14_76  S0)) S n 7 [some (.ref 1079), some (zi x1)] [] 0 0 := fun x1 S a b j0 j1 => (zi_reckon_14_76 (g := g) (l := l)  S0 n hn G_S0 R_S0 _).1 x1 S a b j0 j1 (Nat.lt_succ_self _)
  refine zz_aload_n (x := 1079) rfl zd_14_76_0 ?_
  refine zz_iconst zd_14_76_1 ?_
  refine zz_puti zd_14_76_2 zf_Md_187 zT_1079 rfl (zz_ltn hn rfl) (fun S1 qS1 => ?_)
  have G_S1 := zz_G.put G_S0 qS1 0 3 rfl (by omega)
  have F_S1 := zz_fr.puts F_S0 qS1 rfl
  have R_S1 : zz_Hr S1 := zz_Hr.p79 qS1 (by decide) R_S0
  refine zz_iconst zd_14_76_5 ?_
  refine zz_istore_n [some (.ref 1079), some (zi 0)] zd_14_76_6 (by decide) rfl ?_
  refine zz_less (ls1 := [some (.ref 1079), some (zi 0)]) ⟨rfl, ⟨rfl, trivial⟩⟩ ?_
  exact k7 0 S1 G_S1 F_S1 (by omega) R_S1
abbrev zy_emit_14_77 : mm_Y := (⟨"TensorForgeModel", "emit", "(I)V"⟩, prog_14_method_77_code, 3, none)
theorem zyw_emit_14_77 : mm_Yw zy_emit_14_77 1 := ⟨mm_tb_1 2175 (by decide +kernel) rfl, mm_tb_1 12 (by decide +kernel) rfl, ⟨by decide, by decide⟩, by decide +kernel⟩
theorem zd_14_77_0 : zz_D zy_emit_14_77 0 (.iconst 0) 1 1 := ⟨by decide +kernel, rfl⟩
theorem zd_14_77_1 : zz_D zy_emit_14_77 1 (.istore_n 2) 1 2 := ⟨by decide +kernel, rfl⟩
theorem zd_14_77_2 : zz_D zy_emit_14_77 2 (.iload_n 2) 1 3 := ⟨by decide +kernel, rfl⟩
theorem zd_14_77_3 : zz_D zy_emit_14_77 3 (.iconst 4) 1 4 := ⟨by decide +kernel, rfl⟩
theorem zd_14_77_4 : zz_B zy_emit_14_77 4 (Instr.if_icmp .ge) 26 7 := ⟨22, by decide +kernel, rfl, rfl⟩
theorem zd_14_77_7 : zz_D zy_emit_14_77 7 (.aload_n 0) 1 8 := ⟨by decide +kernel, rfl⟩
theorem zd_14_77_8 : zz_D zy_emit_14_77 8 (.getfield 36) 3 11 := ⟨by decide +kernel, rfl⟩
theorem zd_14_77_11 : zz_D zy_emit_14_77 11 (.iload_n 2) 1 12 := ⟨by decide +kernel, rfl⟩
theorem zd_14_77_12 : zz_D zy_emit_14_77 12 (.iconst 1) 1 13 := ⟨by decide +kernel, rfl⟩
theorem zd_14_77_13 : zz_D zy_emit_14_77 13 (.iadd) 1 14 := ⟨by decide +kernel, rfl⟩
theorem zd_14_77_14 : zz_D zy_emit_14_77 14 (.iload_n 1) 1 15 := ⟨by decide +kernel, rfl⟩
theorem zd_14_77_15 : zz_D zy_emit_14_77 15 (.iload_n 2) 1 16 := ⟨by decide +kernel, rfl⟩
theorem zd_14_77_16 : zz_D zy_emit_14_77 16 (.ishr) 1 17 := ⟨by decide +kernel, rfl⟩
theorem zd_14_77_17 : zz_D zy_emit_14_77 17 (.iconst 1) 1 18 := ⟨by decide +kernel, rfl⟩
theorem zd_14_77_18 : zz_D zy_emit_14_77 18 (.iand) 1 19 := ⟨by decide +kernel, rfl⟩
theorem zd_14_77_19 : zz_D zy_emit_14_77 19 (.iastore) 1 20 := ⟨by decide +kernel, rfl⟩
theorem zd_14_77_20 : zz_D zy_emit_14_77 20 (.iinc 2 1) 3 23 := ⟨by decide +kernel, rfl⟩
theorem zd_14_77_23 : zz_B zy_emit_14_77 23 Instr.goto 2 26 := ⟨(-21), by decide +kernel, rfl, rfl⟩
theorem zd_14_77_26 : zz_D zy_emit_14_77 26 (.aload_n 0) 1 27 := ⟨by decide +kernel, rfl⟩
theorem zd_14_77_27 : zz_D zy_emit_14_77 27 (.getfield 372) 3 30 := ⟨by decide +kernel, rfl⟩
theorem zd_14_77_30 : zz_D zy_emit_14_77 30 (.sipush 600) 3 33 := ⟨by decide +kernel, rfl⟩
theorem zd_14_77_33 : zz_B zy_emit_14_77 33 (Instr.if_icmp .ge) 49 36 := ⟨16, by decide +kernel, rfl, rfl⟩
theorem zd_14_77_49 : zz_D zy_emit_14_77 49 (.aload_n 0) 1 50 := ⟨by decide +kernel, rfl⟩
theorem zd_14_77_50 : zz_D zy_emit_14_77 50 (.dup) 1 51 := ⟨by decide +kernel, rfl⟩
theorem zd_14_77_51 : zz_D zy_emit_14_77 51 (.getfield 372) 3 54 := ⟨by decide +kernel, rfl⟩
theorem zd_14_77_54 : zz_D zy_emit_14_77 54 (.iconst 1) 1 55 := ⟨by decide +kernel, rfl⟩
theorem zd_14_77_55 : zz_D zy_emit_14_77 55 (.iadd) 1 56 := ⟨by decide +kernel, rfl⟩
theorem zd_14_77_56 : zz_D zy_emit_14_77 56 (.putfield 372) 3 59 := ⟨by decide +kernel, rfl⟩
theorem zd_14_77_59 : zz_D zy_emit_14_77 59 (.return_) 1 60 := ⟨by decide +kernel, rfl⟩
theorem zd_14_77_36 : zz_D zy_emit_14_77 36 (.aload_n 0) 1 37 := ⟨by decide +kernel, rfl⟩
theorem zd_14_77_37 : zz_D zy_emit_14_77 37 (.getfield 33) 3 40 := ⟨by decide +kernel, rfl⟩
theorem zd_14_77_40 : zz_D zy_emit_14_77 40 (.aload_n 0) 1 41 := ⟨by decide +kernel, rfl⟩
theorem zd_14_77_41 : zz_D zy_emit_14_77 41 (.getfield 372) 3 44 := ⟨by decide +kernel, rfl⟩
theorem zd_14_77_44 : zz_D zy_emit_14_77 44 (.aload_n 0) 1 45 := ⟨by decide +kernel, rfl⟩
theorem zd_14_77_45 : zz_D zy_emit_14_77 45 (.invokevirtual 378) 3 48 := ⟨by decide +kernel, rfl⟩
theorem zd_14_77_48 : zz_D zy_emit_14_77 48 (.lastore) 1 49 := ⟨by decide +kernel, rfl⟩

-- TensorForgeModel addition (III)I
abbrev zr_addition_14_70 : Room := { frames := 2, cells := 0, slots := 0, locals := 33 }
def zp_addition_14_70 (p0 : Int) (p1 : Int) (p2 : Int) (S0 : zz_S) : Int → zz_S → Prop := fun r S => zz_G S ∧ zz_fr [(1079, 0), (1079, 36)] [] (fun a i => (a = 1102 ∧ i = (S0 1079 36).toNat) ∨ (a = 1103 ∧ i = (S0 1079 36).toNat) ∨ (a = 1104 ∧ i = (S0 1079 36).toNat) ∨ (a = 1105 ∧ i = ((S0 1079 36) + 1).toNat) ∨ (a = 1106 ∧ i = ((S0 1079 36) - 1).toNat) ∨ (a = 1107 ∧ i = ((S0 1079 36) - 1).toNat) ∨ (a = 1108 ∧ i = ((S0 1079 36) - 1).toNat) ∨ (a = 1109 ∧ i = ((S0 1079 36) - 1).toNat) ∨ (a = 1110 ∧ i = ((S0 1079 36) - 1).toNat) ∨ (a = 1111 ∧ i = ((S0 1079 36) - 1).toNat) ∨ (a = 1112 ∧ i = ((S0 1079 36) - 1).toNat) ∨ (a = 1113 ∧ i = ((S0 1079 36) - 1).toNat)) S0 S ∧ (0 ≤ r ∧ r ≤ 10) ∧ (S 1079 36 ≥ S0 1079 36) ∧ (∀ v : zn_T, zn_M S0 v → zn_V v → zn_F v 3 p0 p1 1 1 1 0 (zn_sh p2) 1 0 (S 1079 0) ∧ (S 1079 0 = 0 → r = v 15 0 ∧ ∀ nm : Int, zn_M S (zn_nw v 3 p0 p1 1 1 1 0 (zn_sh p2) (zn_rl p2) 1 0 nm)) ∧ (S 1079 0 ≠ 0 → zn_M S v)) ∧ (zz_Hr S)
set_option maxHeartbeats 4000000 in
theorem zc_addition_14_70 {g : mm_G} {l : Launch} (p0 : Int) (p1 : Int) (p2 : Int) (S0 : zz_S) (n : Nat) (hn : zz_end ≤ n) (G_S0 : zz_G S0) (hp0 : (-2147483648) ≤ p0 ∧ p0 ≤ 2147483647) (hp1 : (-2147483648) ≤ p1 ∧ p1 ≤ 2147483647) (hp2 : (-2147483648) ≤ p2 ∧ p2 ≤ 2147483647) (R_S0 : zz_Hr S0) : mm_Met g l zy_addition_14_70 zr_addition_14_70 [.ref 1079, zi p0, zi p1, zi p2] (zz_M S0 n) n (zz_QI n (zp_addition_14_70 p0 p1 p2 S0)) := by
  refine zz_enter (by decide) (Nat.le_of_ble_eq_true rfl) (zz_less (ls1 := [some (.ref 1079), some (zi p0), some (zi p1), some (zi p2)]) ⟨rfl, ⟨rfl, ⟨rfl, ⟨rfl, trivial⟩⟩⟩⟩ ?_)
  have F_S0 : zz_fr [(1079, 0), (1079, 36)] [] (fun a i => (a = 1102 ∧ i = (S0 1079 36).toNat) ∨ (a = 1103 ∧ i = (S0 1079 36).toNat) ∨ (a = 1104 ∧ i = (S0 1079 36).toNat) ∨ (a = 1105 ∧ i = ((S0 1079 36) + 1).toNat) ∨ (a = 1106 ∧ i = ((S0 1079 36) - 1).toNat) ∨ (a = 1107 ∧ i = ((S0 1079 36) - 1).toNat) ∨ (a = 1108 ∧ i = ((S0 1079 36) - 1).toNat) ∨ (a = 1109 ∧ i = ((S0 1079 36) - 1).toNat) ∨ (a = 1110 ∧ i = ((S0 1079 36) - 1).toNat) ∨ (a = 1111 ∧ i = ((S0 1079 36) - 1).toNat) ∨ (a = 1112 ∧ i = ((S0 1079 36) - 1).toNat) ∨ (a = 1113 ∧ i = ((S0 1079 36) - 1).toNat)) S0 S0 := zz_fr.refl
  refine zz_aload_n (x := 1079) rfl zd_14_70_0 ?_
  refine zz_iload_n (x := p0) rfl zd_14_70_1 ?_
  have g1 := zz_G.r G_S0 1079 36 0 11 rfl rfl
  refine zz_callVI [zi p0] zd_14_70_2 zk_Md_411 zT_1079 (zz_ltn hn rfl) rfl rfl ⟨Nat.le_of_ble_eq_true rfl, Nat.le_of_ble_eq_true rfl⟩ ⟨rfl, rfl⟩ (Nat.zero_le _) (Nat.zero_le _) (zc_isTensor_14_66 p0 S0 n hn G_S0 (by omega)) (fun v3 S2 hP => ?_)
  obtain ⟨rfl, o4, o5⟩ := hP
  rcases (by omega : v3 = 0 ∨ v3 = 1) with rfl | rfl
  · refine zz_if_eq (by omega) zd_14_70_5 (fun c6 => ?_) (fun c6 => ?_)
    · refine zz_aload_n (x := 1079) rfl zd_14_70_16 ?_
      refine zz_iconst zd_14_70_17 ?_
      refine zz_iconst zd_14_70_18 ?_
      refine zz_iconst zd_14_70_19 ?_
      refine zz_callVI [zi 1, zi 0, zi 0] zd_14_70_20 zk_Md_196 zT_1079 (zz_ltn hn rfl) rfl rfl ⟨Nat.le_of_ble_eq_true rfl, Nat.le_of_ble_eq_true rfl⟩ ⟨rfl, rfl⟩ (Nat.zero_le _) (Nat.zero_le _) (zc_refuse_14_3 1 0 0 S0 n hn G_S0 (by omega) (by omega) (by omega)) (fun v8 S7 hP => ?_)
      obtain ⟨G_S7, fS7, o9, o10⟩ := hP
      have F_S7 := zz_fr.trans F_S0 fS7 rfl zz_nv
      have R_S7 : zz_Hr S7 := zz_Hr.fr fS7 rfl rfl (fun b j h => h.elim) R_S0
      rcases (by omega : v8 = 0 ∨ v8 = 1) with rfl | rfl
      · exfalso; omega
      · have e11 : S7 1079 0 = 1 := by omega
        clear o10
        refine zz_pop rfl zd_14_70_23 ?_
        refine zz_iconst zd_14_70_24 ?_
        have e12 : S7 1079 36 = S0 1079 36 := (zz_rc fS7 rfl rfl (fun h => h) rfl)
        exact zz_iret zd_14_70_25 rfl (Nat.zero_le _) (Nat.zero_le _) ⟨_, _, rfl, G_S7, F_S7, by omega, by omega, (fun v hM hV => by exact ⟨Or.inl ⟨by omega, fun hi => by have h9 := (zn_inM hM).mp hi; omega⟩, fun h => absurd h (by omega), fun _ => (zn_M.fr hM fS7 rfl rfl (fun b j h => h.elim) (by omega))⟩), R_S7⟩
    · exfalso; omega
  · refine zz_if_eq (by omega) zd_14_70_5 (fun c13 => ?_) (fun c13 => ?_)
    · exfalso; omega
    · refine zz_aload_n (x := 1079) rfl zd_14_70_8 ?_
      refine zz_iload_n (x := p1) rfl zd_14_70_9 ?_
      refine zz_callVI [zi p1] zd_14_70_10 zk_Md_411 zT_1079 (zz_ltn hn rfl) rfl rfl ⟨Nat.le_of_ble_eq_true rfl, Nat.le_of_ble_eq_true rfl⟩ ⟨rfl, rfl⟩ (Nat.zero_le _) (Nat.zero_le _) (zc_isTensor_14_66 p1 S0 n hn G_S0 (by omega)) (fun v15 S14 hP => ?_)
      obtain ⟨rfl, o16, o17⟩ := hP
      rcases (by omega : v15 = 0 ∨ v15 = 1) with rfl | rfl
      · refine zz_if_ne (by omega) zd_14_70_13 (fun c18 => ?_) (fun c18 => ?_)
        · exfalso; omega
        · refine zz_aload_n (x := 1079) rfl zd_14_70_16 ?_
          refine zz_iconst zd_14_70_17 ?_
          refine zz_iconst zd_14_70_18 ?_
          refine zz_iconst zd_14_70_19 ?_
          refine zz_callVI [zi 1, zi 0, zi 0] zd_14_70_20 zk_Md_196 zT_1079 (zz_ltn hn rfl) rfl rfl ⟨Nat.le_of_ble_eq_true rfl, Nat.le_of_ble_eq_true rfl⟩ ⟨rfl, rfl⟩ (Nat.zero_le _) (Nat.zero_le _) (zc_refuse_14_3 1 0 0 S0 n hn G_S0 (by omega) (by omega) (by omega)) (fun v20 S19 hP => ?_)
          obtain ⟨G_S19, fS19, o21, o22⟩ := hP
          have F_S19 := zz_fr.trans F_S0 fS19 rfl zz_nv
          have R_S19 : zz_Hr S19 := zz_Hr.fr fS19 rfl rfl (fun b j h => h.elim) R_S0
          rcases (by omega : v20 = 0 ∨ v20 = 1) with rfl | rfl
          · exfalso; omega
          · have e23 : S19 1079 0 = 1 := by omega
            clear o22
            refine zz_pop rfl zd_14_70_23 ?_
            refine zz_iconst zd_14_70_24 ?_
            have e24 : S19 1079 36 = S0 1079 36 := (zz_rc fS19 rfl rfl (fun h => h) rfl)
            exact zz_iret zd_14_70_25 rfl (Nat.zero_le _) (Nat.zero_le _) ⟨_, _, rfl, G_S19, F_S19, by omega, by omega, (fun v hM hV => by exact ⟨Or.inl ⟨by omega, fun hi => by have h9 := (zn_inM hM).mp hi; omega⟩, fun h => absurd h (by omega), fun _ => (zn_M.fr hM fS19 rfl rfl (fun b j h => h.elim) (by omega))⟩), R_S19⟩
      · refine zz_if_ne (by omega) zd_14_70_13 (fun c25 => ?_) (fun c25 => ?_)
        · skip
          refine zz_aload_n (x := 1079) rfl zd_14_70_26 ?_
          refine zz_getr (kd := 0) (z := 1102) zd_14_70_27 zf_Md_88 zT_1079 rfl (zz_ltn hn rfl) (zz_G.eq G_S0 1079 37 1102 rfl rfl) (by decide) 1102 rfl ?_
          refine zz_iload_n (x := p0) rfl zd_14_70_30 ?_
          have g26 := zz_G.r G_S0 1102 p0.toNat 0 63 rfl rfl
          refine zz_iald (z := S0 1102 p0.toNat) zd_14_70_31 zT_1102 rfl (zz_ltn hn rfl) (by decide) (by omega) rfl ?_
          refine zz_aload_n (x := 1079) rfl zd_14_70_32 ?_
          refine zz_getr (kd := 0) (z := 1102) zd_14_70_33 zf_Md_88 zT_1079 rfl (zz_ltn hn rfl) (zz_G.eq G_S0 1079 37 1102 rfl rfl) (by decide) 1102 rfl ?_
          refine zz_iload_n (x := p1) rfl zd_14_70_36 ?_
          have g27 := zz_G.r G_S0 1102 p1.toNat 0 63 rfl rfl
          refine zz_iald (z := S0 1102 p1.toNat) zd_14_70_37 zT_1102 rfl (zz_ltn hn rfl) (by decide) (by omega) rfl ?_
          refine zz_icmp_ne (by omega) (by omega) zd_14_70_38 (fun c28 => ?_) (fun c28 => ?_)
          · refine zz_iconst zd_14_70_75 ?_
            refine zz_istore [some (.ref 1079), some (zi p0), some (zi p1), some (zi p2), some (zi 0)] zd_14_70_76 (by decide) rfl ?_
            refine zz_aload_n (x := 1079) rfl zd_14_70_78 ?_
            refine zz_iconst zd_14_70_79 ?_
            refine zz_iload (x := 0) rfl zd_14_70_80 ?_
            refine zz_if_eq (by omega) zd_14_70_82 (fun c29 => ?_) (fun c29 => ?_)
            · refine zz_iconst zd_14_70_97 ?_
              refine zz_goto zd_14_70_98 ?_
              refine zz_iconst zd_14_70_102 ?_
              refine zz_callVI [zi 0, zi 1, zi 0] zd_14_70_103 zk_Md_196 zT_1079 (zz_ltn hn rfl) rfl rfl ⟨Nat.le_of_ble_eq_true rfl, Nat.le_of_ble_eq_true rfl⟩ ⟨rfl, rfl⟩ (Nat.zero_le _) (Nat.zero_le _) (zc_refuse_14_3 0 1 0 S0 n hn G_S0 (by omega) (by omega) (by omega)) (fun v31 S30 hP => ?_)
              obtain ⟨G_S30, fS30, o32, o33⟩ := hP
              have F_S30 := zz_fr.trans F_S0 fS30 rfl zz_nv
              have R_S30 : zz_Hr S30 := zz_Hr.fr fS30 rfl rfl (fun b j h => h.elim) R_S0
              rcases (by omega : v31 = 0 ∨ v31 = 1) with rfl | rfl
              · exfalso; omega
              · have e34 : S30 1079 0 = 2 := by omega
                clear o33
                refine zz_if_eq (by omega) zd_14_70_106 (fun c35 => ?_) (fun c35 => ?_)
                · exfalso; omega
                · refine zz_iconst zd_14_70_109 ?_
                  have e36 : S30 1079 36 = S0 1079 36 := (zz_rc fS30 rfl rfl (fun h => h) rfl)
                  exact zz_iret zd_14_70_110 rfl (Nat.zero_le _) (Nat.zero_le _) ⟨_, _, rfl, G_S30, F_S30, by omega, by omega, (fun v hM hV => by have hi8 : (0 ≤ p0 ∧ p0 < S0 1079 36) ∧ 0 ≤ p1 ∧ p1 < S0 1079 36 := (by omega); have h7 := hV.1; have h6 := hM.1; exact ⟨Or.inr (Or.inl ⟨by omega, (zn_inM hM).mpr hi8, fun h9 => by have c9 := zn_adf  h9.1 ((zn_rsM hM hi8).mp h9.2); clear h9; omega⟩), fun h => absurd h (by omega), fun _ => (zn_M.fr hM fS30 rfl rfl (fun b j h => h.elim) (by omega))⟩), R_S30⟩
            · exfalso; omega
          · refine zz_aload_n (x := 1079) rfl zd_14_70_41 ?_
            refine zz_getr (kd := 0) (z := 1103) zd_14_70_42 zf_Md_91 zT_1079 rfl (zz_ltn hn rfl) (zz_G.eq G_S0 1079 38 1103 rfl rfl) (by decide) 1103 rfl ?_
            refine zz_iload_n (x := p0) rfl zd_14_70_45 ?_
            have g37 := zz_G.r G_S0 1103 p0.toNat 0 63 rfl rfl
            refine zz_iald (z := S0 1103 p0.toNat) zd_14_70_46 zT_1103 rfl (zz_ltn hn rfl) (by decide) (by omega) rfl ?_
            refine zz_aload_n (x := 1079) rfl zd_14_70_47 ?_
            refine zz_getr (kd := 0) (z := 1103) zd_14_70_48 zf_Md_91 zT_1079 rfl (zz_ltn hn rfl) (zz_G.eq G_S0 1079 38 1103 rfl rfl) (by decide) 1103 rfl ?_
            refine zz_iload_n (x := p1) rfl zd_14_70_51 ?_
            have g38 := zz_G.r G_S0 1103 p1.toNat 0 63 rfl rfl
            refine zz_iald (z := S0 1103 p1.toNat) zd_14_70_52 zT_1103 rfl (zz_ltn hn rfl) (by decide) (by omega) rfl ?_
            refine zz_icmp_ne (by omega) (by omega) zd_14_70_53 (fun c39 => ?_) (fun c39 => ?_)
            · refine zz_iconst zd_14_70_75 ?_
              refine zz_istore [some (.ref 1079), some (zi p0), some (zi p1), some (zi p2), some (zi 0)] zd_14_70_76 (by decide) rfl ?_
              refine zz_aload_n (x := 1079) rfl zd_14_70_78 ?_
              refine zz_iconst zd_14_70_79 ?_
              refine zz_iload (x := 0) rfl zd_14_70_80 ?_
              refine zz_if_eq (by omega) zd_14_70_82 (fun c40 => ?_) (fun c40 => ?_)
              · refine zz_iconst zd_14_70_97 ?_
                refine zz_goto zd_14_70_98 ?_
                refine zz_iconst zd_14_70_102 ?_
                refine zz_callVI [zi 0, zi 1, zi 0] zd_14_70_103 zk_Md_196 zT_1079 (zz_ltn hn rfl) rfl rfl ⟨Nat.le_of_ble_eq_true rfl, Nat.le_of_ble_eq_true rfl⟩ ⟨rfl, rfl⟩ (Nat.zero_le _) (Nat.zero_le _) (zc_refuse_14_3 0 1 0 S0 n hn G_S0 (by omega) (by omega) (by omega)) (fun v42 S41 hP => ?_)
                obtain ⟨G_S41, fS41, o43, o44⟩ := hP
                have F_S41 := zz_fr.trans F_S0 fS41 rfl zz_nv
                have R_S41 : zz_Hr S41 := zz_Hr.fr fS41 rfl rfl (fun b j h => h.elim) R_S0
                rcases (by omega : v42 = 0 ∨ v42 = 1) with rfl | rfl
                · exfalso; omega
                · have e45 : S41 1079 0 = 2 := by omega
                  clear o44
                  refine zz_if_eq (by omega) zd_14_70_106 (fun c46 => ?_) (fun c46 => ?_)
                  · exfalso; omega
                  · refine zz_iconst zd_14_70_109 ?_
                    have e47 : S41 1079 36 = S0 1079 36 := (zz_rc fS41 rfl rfl (fun h => h) rfl)
                    exact zz_iret zd_14_70_110 rfl (Nat.zero_le _) (Nat.zero_le _) ⟨_, _, rfl, G_S41, F_S41, by omega, by omega, (fun v hM hV => by have hi8 : (0 ≤ p0 ∧ p0 < S0 1079 36) ∧ 0 ≤ p1 ∧ p1 < S0 1079 36 := (by omega); have h7 := hV.1; have h6 := hM.1; exact ⟨Or.inr (Or.inl ⟨by omega, (zn_inM hM).mpr hi8, fun h9 => by have c9 := zn_adf  h9.1 ((zn_rsM hM hi8).mp h9.2); clear h9; omega⟩), fun h => absurd h (by omega), fun _ => (zn_M.fr hM fS41 rfl rfl (fun b j h => h.elim) (by omega))⟩), R_S41⟩
              · exfalso; omega
            · refine zz_aload_n (x := 1079) rfl zd_14_70_56 ?_
              refine zz_getr (kd := 0) (z := 1104) zd_14_70_57 zf_Md_94 zT_1079 rfl (zz_ltn hn rfl) (zz_G.eq G_S0 1079 39 1104 rfl rfl) (by decide) 1104 rfl ?_
              refine zz_iload_n (x := p0) rfl zd_14_70_60 ?_
              have g48 := zz_G.r G_S0 1104 p0.toNat 0 63 rfl rfl
              refine zz_iald (z := S0 1104 p0.toNat) zd_14_70_61 zT_1104 rfl (zz_ltn hn rfl) (by decide) (by omega) rfl ?_
              refine zz_aload_n (x := 1079) rfl zd_14_70_62 ?_
              refine zz_getr (kd := 0) (z := 1104) zd_14_70_63 zf_Md_94 zT_1079 rfl (zz_ltn hn rfl) (zz_G.eq G_S0 1079 39 1104 rfl rfl) (by decide) 1104 rfl ?_
              refine zz_iload_n (x := p1) rfl zd_14_70_66 ?_
              have g49 := zz_G.r G_S0 1104 p1.toNat 0 63 rfl rfl
              refine zz_iald (z := S0 1104 p1.toNat) zd_14_70_67 zT_1104 rfl (zz_ltn hn rfl) (by decide) (by omega) rfl ?_
              refine zz_icmp_ne (by omega) (by omega) zd_14_70_68 (fun c50 => ?_) (fun c50 => ?_)
              · refine zz_iconst zd_14_70_75 ?_
                refine zz_istore [some (.ref 1079), some (zi p0), some (zi p1), some (zi p2), some (zi 0)] zd_14_70_76 (by decide) rfl ?_
                refine zz_aload_n (x := 1079) rfl zd_14_70_78 ?_
                refine zz_iconst zd_14_70_79 ?_
                refine zz_iload (x := 0) rfl zd_14_70_80 ?_
                refine zz_if_eq (by omega) zd_14_70_82 (fun c51 => ?_) (fun c51 => ?_)
                · refine zz_iconst zd_14_70_97 ?_
                  refine zz_goto zd_14_70_98 ?_
                  refine zz_iconst zd_14_70_102 ?_
                  refine zz_callVI [zi 0, zi 1, zi 0] zd_14_70_103 zk_Md_196 zT_1079 (zz_ltn hn rfl) rfl rfl ⟨Nat.le_of_ble_eq_true rfl, Nat.le_of_ble_eq_true rfl⟩ ⟨rfl, rfl⟩ (Nat.zero_le _) (Nat.zero_le _) (zc_refuse_14_3 0 1 0 S0 n hn G_S0 (by omega) (by omega) (by omega)) (fun v53 S52 hP => ?_)
                  obtain ⟨G_S52, fS52, o54, o55⟩ := hP
                  have F_S52 := zz_fr.trans F_S0 fS52 rfl zz_nv
                  have R_S52 : zz_Hr S52 := zz_Hr.fr fS52 rfl rfl (fun b j h => h.elim) R_S0
                  rcases (by omega : v53 = 0 ∨ v53 = 1) with rfl | rfl
                  · exfalso; omega
                  · have e56 : S52 1079 0 = 2 := by omega
                    clear o55
                    refine zz_if_eq (by omega) zd_14_70_106 (fun c57 => ?_) (fun c57 => ?_)
                    · exfalso; omega
                    · refine zz_iconst zd_14_70_109 ?_
                      have e58 : S52 1079 36 = S0 1079 36 := (zz_rc fS52 rfl rfl (fun h => h) rfl)
                      exact zz_iret zd_14_70_110 rfl (Nat.zero_le _) (Nat.zero_le _) ⟨_, _, rfl, G_S52, F_S52, by omega, by omega, (fun v hM hV => by have hi8 : (0 ≤ p0 ∧ p0 < S0 1079 36) ∧ 0 ≤ p1 ∧ p1 < S0 1079 36 := (by omega); have h7 := hV.1; have h6 := hM.1; exact ⟨Or.inr (Or.inl ⟨by omega, (zn_inM hM).mpr hi8, fun h9 => by have c9 := zn_adf  h9.1 ((zn_rsM hM hi8).mp h9.2); clear h9; omega⟩), fun h => absurd h (by omega), fun _ => (zn_M.fr hM fS52 rfl rfl (fun b j h => h.elim) (by omega))⟩), R_S52⟩
                · exfalso; omega
              · refine zz_iconst zd_14_70_71 ?_
                refine zz_goto zd_14_70_72 ?_
                refine zz_istore [some (.ref 1079), some (zi p0), some (zi p1), some (zi p2), some (zi 1)] zd_14_70_76 (by decide) rfl ?_
                refine zz_aload_n (x := 1079) rfl zd_14_70_78 ?_
                refine zz_iconst zd_14_70_79 ?_
                refine zz_iload (x := 1) rfl zd_14_70_80 ?_
                refine zz_if_eq (by omega) zd_14_70_82 (fun c59 => ?_) (fun c59 => ?_)
                · exfalso; omega
                · refine zz_iload_n (x := p2) rfl zd_14_70_85 ?_
                  refine zz_i2l (by omega) zd_14_70_86 ?_
                  refine zz_lconst (z := 0) (by decide) zd_14_70_87 ?_
                  refine zz_ldc2 (z := 31) zq_Md_357 (by decide) zd_14_70_88 ?_
                  refine zz_callSI [zl p2, zl 0, zl 31] zd_14_70_91 zk_Md_192 rfl rfl ⟨Nat.le_of_ble_eq_true rfl, Nat.le_of_ble_eq_true rfl⟩ ⟨rfl, rfl⟩ (Nat.zero_le _) (Nat.zero_le _) (zc_in_14_4 p2 0 31 S0 n hn G_S0 (by omega) (by omega) (by omega)) (fun v61 S60 hP => ?_)
                  obtain ⟨rfl, o62, o63⟩ := hP
                  rcases (by omega : v61 = 0 ∨ v61 = 1) with rfl | rfl
                  · have n64 : p2 < 0 ∨ 31 < p2 := by omega
                    clear o63
                    refine zz_if_ne (by omega) zd_14_70_94 (fun c65 => ?_) (fun c65 => ?_)
                    · exfalso; omega
                    · refine zz_iconst zd_14_70_97 ?_
                      refine zz_goto zd_14_70_98 ?_
                      refine zz_iconst zd_14_70_102 ?_
                      refine zz_callVI [zi 0, zi 1, zi 0] zd_14_70_103 zk_Md_196 zT_1079 (zz_ltn hn rfl) rfl rfl ⟨Nat.le_of_ble_eq_true rfl, Nat.le_of_ble_eq_true rfl⟩ ⟨rfl, rfl⟩ (Nat.zero_le _) (Nat.zero_le _) (zc_refuse_14_3 0 1 0 S0 n hn G_S0 (by omega) (by omega) (by omega)) (fun v67 S66 hP => ?_)
                      obtain ⟨G_S66, fS66, o68, o69⟩ := hP
                      have F_S66 := zz_fr.trans F_S0 fS66 rfl zz_nv
                      have R_S66 : zz_Hr S66 := zz_Hr.fr fS66 rfl rfl (fun b j h => h.elim) R_S0
                      rcases (by omega : v67 = 0 ∨ v67 = 1) with rfl | rfl
                      · exfalso; omega
                      · have e70 : S66 1079 0 = 2 := by omega
                        clear o69
                        refine zz_if_eq (by omega) zd_14_70_106 (fun c71 => ?_) (fun c71 => ?_)
                        · exfalso; omega
                        · refine zz_iconst zd_14_70_109 ?_
                          have e72 : S66 1079 36 = S0 1079 36 := (zz_rc fS66 rfl rfl (fun h => h) rfl)
                          exact zz_iret zd_14_70_110 rfl (Nat.zero_le _) (Nat.zero_le _) ⟨_, _, rfl, G_S66, F_S66, by omega, by omega, (fun v hM hV => by have hi8 : (0 ≤ p0 ∧ p0 < S0 1079 36) ∧ 0 ≤ p1 ∧ p1 < S0 1079 36 := (by omega); have h7 := hV.1; have h6 := hM.1; exact ⟨Or.inr (Or.inl ⟨by omega, (zn_inM hM).mpr hi8, fun h9 => by have c9 := zn_adf  h9.1 ((zn_rsM hM hi8).mp h9.2); clear h9; omega⟩), fun h => absurd h (by omega), fun _ => (zn_M.fr hM fS66 rfl rfl (fun b j h => h.elim) (by omega))⟩), R_S66⟩
                  · have n73 : 0 ≤ p2 ∧ p2 ≤ 31 := by omega
                    clear o63
                    refine zz_if_ne (by omega) zd_14_70_94 (fun c74 => ?_) (fun c74 => ?_)
                    · refine zz_iconst zd_14_70_101 ?_
                      refine zz_iconst zd_14_70_102 ?_
                      refine zz_callVI [zi 0, zi 0, zi 0] zd_14_70_103 zk_Md_196 zT_1079 (zz_ltn hn rfl) rfl rfl ⟨Nat.le_of_ble_eq_true rfl, Nat.le_of_ble_eq_true rfl⟩ ⟨rfl, rfl⟩ (Nat.zero_le _) (Nat.zero_le _) (zc_refuse_14_3 0 0 0 S0 n hn G_S0 (by omega) (by omega) (by omega)) (fun v76 S75 hP => ?_)
                      obtain ⟨G_S75, fS75, o77, o78⟩ := hP
                      have F_S75 := zz_fr.trans F_S0 fS75 rfl zz_nv
                      have R_S75 : zz_Hr S75 := zz_Hr.fr fS75 rfl rfl (fun b j h => h.elim) R_S0
                      rcases (by omega : v76 = 0 ∨ v76 = 1) with rfl | rfl
                      · have e79 : S75 1079 0 = 0 := by omega
                        clear o78
                        refine zz_if_eq (by omega) zd_14_70_106 (fun c80 => ?_) (fun c80 => ?_)
                        · refine zz_aload_n (x := 1079) rfl zd_14_70_111 ?_
                          refine zz_geti (z := S0 1079 36) zd_14_70_112 zf_Md_85 zT_1079 rfl (zz_ltn hn rfl) (zz_rc fS75 rfl rfl (fun h => h) rfl) ?_
                          refine zz_iconst zd_14_70_115 ?_
                          refine zz_isub zd_14_70_116 ?_
                          refine zz_istore [some (.ref 1079), some (zi p0), some (zi p1), some (zi p2), some (zi 1), some (zi ((S0 1079 36) - 1))] zd_14_70_117 (by decide) rfl ?_
                          refine zz_aload_n (x := 1079) rfl zd_14_70_119 ?_
                          refine zz_iconst zd_14_70_120 ?_
                          refine zz_iload_n (x := p0) rfl zd_14_70_121 ?_
                          refine zz_aload_n (x := 1079) rfl zd_14_70_122 ?_
                          refine zz_getr (kd := 0) (z := 1102) zd_14_70_123 zf_Md_88 zT_1079 rfl (zz_ltn hn rfl) (zz_G.eq G_S75 1079 37 1102 rfl rfl) (by decide) 1102 rfl ?_
                          refine zz_iload_n (x := p0) rfl zd_14_70_126 ?_
                          refine zz_iald (z := S0 1102 p0.toNat) zd_14_70_127 zT_1102 rfl (zz_ltn hn rfl) (by decide) (by omega) (zz_rc fS75 (zz_nc1 rfl) rfl (fun h => h) rfl) ?_
                          refine zz_aload_n (x := 1079) rfl zd_14_70_128 ?_
                          refine zz_getr (kd := 0) (z := 1103) zd_14_70_129 zf_Md_91 zT_1079 rfl (zz_ltn hn rfl) (zz_G.eq G_S75 1079 38 1103 rfl rfl) (by decide) 1103 rfl ?_
                          refine zz_iload_n (x := p0) rfl zd_14_70_132 ?_
                          refine zz_iald (z := S0 1103 p0.toNat) zd_14_70_133 zT_1103 rfl (zz_ltn hn rfl) (by decide) (by omega) (zz_rc fS75 (zz_nc1 rfl) rfl (fun h => h) rfl) ?_
                          refine zz_aload_n (x := 1079) rfl zd_14_70_134 ?_
                          refine zz_getr (kd := 0) (z := 1104) zd_14_70_135 zf_Md_94 zT_1079 rfl (zz_ltn hn rfl) (zz_G.eq G_S75 1079 39 1104 rfl rfl) (by decide) 1104 rfl ?_
                          refine zz_iload_n (x := p0) rfl zd_14_70_138 ?_
                          refine zz_iald (z := S0 1104 p0.toNat) zd_14_70_139 zT_1104 rfl (zz_ltn hn rfl) (by decide) (by omega) (zz_rc fS75 (zz_nc1 rfl) rfl (fun h => h) rfl) ?_
                          have e81 : S75 1079 36 = S0 1079 36 := (zz_rc fS75 rfl rfl (fun h => h) rfl)
                          have g82 := zz_G.r G_S0 1105 ((S75 1079 36).toNat) (0) (if (S75 1079 36).toNat = 0 then 0 else 10000000) rfl rfl
                          have e83 : S75 1105 (S75 1079 36).toNat = S0 1105 (S75 1079 36).toNat := (zz_rc fS75 (zz_nc1 rfl) rfl (fun h => h) rfl)
                          refine zz_callVI [zi 2, zi p0, zi (S0 1102 p0.toNat), zi (S0 1103 p0.toNat), zi (S0 1104 p0.toNat)] zd_14_70_140 zk_Md_426 zT_1079 (zz_ltn hn rfl) rfl rfl ⟨Nat.le_of_ble_eq_true rfl, Nat.le_of_ble_eq_true rfl⟩ ⟨rfl, rfl⟩ (Nat.zero_le _) (Nat.zero_le _) (zc_add_14_65 2 p0 (S0 1102 p0.toNat) (S0 1103 p0.toNat) (S0 1104 p0.toNat) S75 n hn G_S75 (by omega) (by omega) (by omega) (by omega) (by omega) (by omega)) (fun v85 S84 hP => ?_)
                          obtain ⟨G_S84, fS84, o86, o87, o88, o89, o90, o91, o92⟩ := hP
                          rw [show S75 1079 36 = S0 1079 36 from (zz_rc fS75 rfl rfl (fun h => h) rfl)] at o87
                          rw [show S75 1079 36 = S0 1079 36 from (zz_rc fS75 rfl rfl (fun h => h) rfl)] at o89
                          rw [show S75 1079 36 = S0 1079 36 from (zz_rc fS75 rfl rfl (fun h => h) rfl)] at o91
                          rw [show S75 1079 36 = S0 1079 36 from (zz_rc fS75 rfl rfl (fun h => h) rfl)] at o92
                          rw [show S75 1079 36 = S0 1079 36 from (zz_rc fS75 rfl rfl (fun h => h) rfl)] at fS84
                          have F_S84 := zz_fr.trans F_S75 fS84 rfl (fun a i h => by rcases h with h | h | h | h | h | h; exact Or.inr (Or.inr (Or.inl h)); exact Or.inr (Or.inr (Or.inr (Or.inl h))); exact Or.inr (Or.inr (Or.inr (Or.inr (Or.inl h)))); exact Or.inr (Or.inr (Or.inr (Or.inr (Or.inr (Or.inl h))))); exact Or.inr (Or.inr (Or.inr (Or.inr (Or.inr (Or.inr (Or.inl h)))))); exact Or.inr (Or.inr (Or.inr (Or.inr (Or.inr (Or.inr (Or.inr (Or.inl h))))))))
                          refine zz_istore [some (.ref 1079), some (zi p0), some (zi p1), some (zi p2), some (zi 1), some (zi ((S0 1079 36) - 1)), some (zi v85)] zd_14_70_143 (by decide) rfl ?_
                          refine zz_aload_n (x := 1079) rfl zd_14_70_145 ?_
                          have g93 := zz_G.r G_S84 1079 0 0 3 rfl rfl
                          refine zz_geti (z := S84 1079 0) zd_14_70_146 zf_Md_187 zT_1079 rfl (zz_ltn hn rfl) rfl ?_
                          refine zz_if_le (by omega) zd_14_70_149 (fun c94 => ?_) (fun c94 => ?_)
                          · refine zz_aload_n (x := 1079) rfl zd_14_70_154 ?_
                            refine zz_getr (kd := 0) (z := 1108) zd_14_70_155 zf_Md_106 zT_1079 rfl (zz_ltn hn rfl) (zz_G.eq G_S84 1079 43 1108 rfl rfl) (by decide) 1108 rfl ?_
                            refine zz_iload (x := (S0 1079 36) - 1) rfl zd_14_70_158 ?_
                            refine zz_iload_n (x := p1) rfl zd_14_70_160 ?_
                            refine zz_iast zd_14_70_161 zT_1108 rfl (zz_ltn hn rfl) (by decide) (by omega) (fun S95 qS95 => ?_)
                            have G_S95 := zz_G.put G_S84 qS95 0 10 rfl (by omega)
                            have F_S95 := zz_fr.putv F_S84 qS95 (Or.inr (Or.inr (Or.inr (Or.inr (Or.inr (Or.inr (Or.inl ⟨rfl, rfl⟩)))))))
                            refine zz_aload_n (x := 1079) rfl zd_14_70_162 ?_
                            refine zz_iload (x := (S0 1079 36) - 1) rfl zd_14_70_163 ?_
                            refine zz_iconst zd_14_70_165 ?_
                            refine zz_iconst zd_14_70_166 ?_
                            refine zz_iconst zd_14_70_167 ?_
                            refine zz_iconst zd_14_70_168 ?_
                            refine zz_iload_n (x := p2) rfl zd_14_70_169 ?_
                            refine zz_callVV [zi ((S0 1079 36) - 1), zi 1, zi 1, zi 1, zi 0, zi p2] zd_14_70_170 zk_Md_430 zT_1079 (zz_ltn hn rfl) rfl rfl ⟨Nat.le_of_ble_eq_true rfl, Nat.le_of_ble_eq_true rfl⟩ ⟨rfl, rfl⟩ (Nat.zero_le _) (Nat.zero_le _) (zc_setLayer_14_68 ((S0 1079 36) - 1) 1 1 1 0 p2 S95 n hn G_S95 (by omega) (by omega) (by omega) (by omega) (by omega) (by omega)) (fun S96 hP => ?_)
                            obtain ⟨G_S96, fS96, o98⟩ := hP
                            have F_S96 := zz_fr.trans F_S95 fS96 rfl (fun a i h => by rcases h with h | h | h | h | h; exact Or.inr (Or.inr (Or.inr (Or.inr (Or.inr (Or.inr (Or.inr (Or.inr (Or.inr (Or.inl h))))))))); exact Or.inr (Or.inr (Or.inr (Or.inr (Or.inr (Or.inr (Or.inr (Or.inr (Or.inr (Or.inr (Or.inl h)))))))))); exact Or.inr (Or.inr (Or.inr (Or.inr (Or.inr (Or.inr (Or.inr (Or.inr (Or.inr (Or.inr (Or.inr (Or.inl h))))))))))); exact Or.inr (Or.inr (Or.inr (Or.inr (Or.inr (Or.inr (Or.inr (Or.inr (Or.inr (Or.inr (Or.inr (Or.inr (Or.inl h)))))))))))); exact Or.inr (Or.inr (Or.inr (Or.inr (Or.inr (Or.inr (Or.inr (Or.inr (Or.inr (Or.inr (Or.inr (Or.inr (Or.inr (h))))))))))))))
                            refine zz_iload (x := v85) rfl zd_14_70_173 ?_
                            have g99 := zz_G.r G_S84 1079 36 0 11 rfl rfl
                            have e100 : S96 1079 36 = S84 1079 36 := (zz_rc fS96 rfl rfl (by first | decide | (intro h; rcases h with h | h | h | h | h; exact absurd h.1 (by decide); exact absurd h.1 (by decide); exact absurd h.1 (by decide); exact absurd h.1 (by decide); exact absurd h.1 (by decide)) | omega) (zz_ro qS95 (fun h => absurd h.1 (by decide)) rfl))
                            have e101 : S96 1079 0 = S84 1079 0 := (zz_rc fS96 rfl rfl (by first | decide | (intro h; rcases h with h | h | h | h | h; exact absurd h.1 (by decide); exact absurd h.1 (by decide); exact absurd h.1 (by decide); exact absurd h.1 (by decide); exact absurd h.1 (by decide)) | omega) (zz_ro qS95 (fun h => absurd h.1 (by decide)) rfl))
                            have ha9 := o89 (by omega)
                            have ht9 := R_S0.1 p0.toNat (by omega)
                            unfold zz_tn at ht9
                            have g102 := zz_G.r G_S0 1105 ((S0 1079 36).toNat) (0) (if (S0 1079 36).toNat = 0 then 0 else 10000000) rfl rfl
                            have e103 : S75 1105 (S0 1079 36).toNat = S0 1105 (S0 1079 36).toNat := (zz_rc fS75 (zz_nc1 rfl) rfl (fun h => h) rfl)
                            have g104 := zz_G.r G_S84 1102 ((S0 1079 36).toNat) 0 63 rfl rfl
                            have e105 : S96 1102 (S0 1079 36).toNat = S84 1102 (S0 1079 36).toNat := (zz_rc fS96 (zz_nc1 rfl) rfl (by first | decide | (intro h; rcases h with h | h | h | h | h; exact absurd h.1 (by decide); exact absurd h.1 (by decide); exact absurd h.1 (by decide); exact absurd h.1 (by decide); exact absurd h.1 (by decide)) | omega) (zz_ro qS95 (fun h => absurd h.1 (by decide)) rfl))
                            have g106 := zz_G.r G_S84 1103 ((S0 1079 36).toNat) 0 63 rfl rfl
                            have e107 : S96 1103 (S0 1079 36).toNat = S84 1103 (S0 1079 36).toNat := (zz_rc fS96 (zz_nc1 rfl) rfl (by first | decide | (intro h; rcases h with h | h | h | h | h; exact absurd h.1 (by decide); exact absurd h.1 (by decide); exact absurd h.1 (by decide); exact absurd h.1 (by decide); exact absurd h.1 (by decide)) | omega) (zz_ro qS95 (fun h => absurd h.1 (by decide)) rfl))
                            have g108 := zz_G.r G_S84 1104 ((S0 1079 36).toNat) 0 63 rfl rfl
                            have e109 : S96 1104 (S0 1079 36).toNat = S84 1104 (S0 1079 36).toNat := (zz_rc fS96 (zz_nc1 rfl) rfl (by first | decide | (intro h; rcases h with h | h | h | h | h; exact absurd h.1 (by decide); exact absurd h.1 (by decide); exact absurd h.1 (by decide); exact absurd h.1 (by decide); exact absurd h.1 (by decide)) | omega) (zz_ro qS95 (fun h => absurd h.1 (by decide)) rfl))
                            have g110 := zz_G.r G_S84 1105 ((S0 1079 36).toNat) (0) (if (S0 1079 36).toNat = 0 then 0 else 10000000) rfl rfl
                            have e111 : S96 1105 (S0 1079 36).toNat = S84 1105 (S0 1079 36).toNat := (zz_rc fS96 (zz_nc1 rfl) rfl (by first | decide | (intro h; rcases h with h | h | h | h | h; exact absurd h.1 (by decide); exact absurd h.1 (by decide); exact absurd h.1 (by decide); exact absurd h.1 (by decide); exact absurd h.1 (by decide)) | omega) (zz_ro qS95 (fun h => absurd h.1 (by decide)) rfl))
                            have g112 := zz_G.r G_S84 1106 ((S0 1079 36 - 1).toNat) 0 2 rfl rfl
                            have e113 : S96 1106 (S0 1079 36 - 1).toNat = S84 1106 (S0 1079 36 - 1).toNat := (zz_rc fS96 (zz_nc1 rfl) rfl (by first | decide | (intro h; rcases h with h | h | h | h | h; exact absurd h.1 (by decide); exact absurd h.1 (by decide); exact absurd h.1 (by decide); exact absurd h.1 (by decide); exact absurd h.1 (by decide)) | omega) (zz_ro qS95 (fun h => absurd h.1 (by decide)) rfl))
                            have g114 := zz_G.r G_S84 1107 ((S0 1079 36 - 1).toNat) 0 10 rfl rfl
                            have e115 : S96 1107 (S0 1079 36 - 1).toNat = S84 1107 (S0 1079 36 - 1).toNat := (zz_rc fS96 (zz_nc1 rfl) rfl (by first | decide | (intro h; rcases h with h | h | h | h | h; exact absurd h.1 (by decide); exact absurd h.1 (by decide); exact absurd h.1 (by decide); exact absurd h.1 (by decide); exact absurd h.1 (by decide)) | omega) (zz_ro qS95 (fun h => absurd h.1 (by decide)) rfl))
                            have e116 : S96 1108 (S0 1079 36 - 1).toNat = p1 := (zz_rc fS96 (zz_nc1 rfl) rfl (by first | decide | (intro h; rcases h with h | h | h | h | h; exact absurd h.1 (by decide); exact absurd h.1 (by decide); exact absurd h.1 (by decide); exact absurd h.1 (by decide); exact absurd h.1 (by decide)) | omega) (zz_rs qS95))
                            have g117 := zz_G.r G_S96 1109 ((S0 1079 36 - 1).toNat) 0 3 rfl rfl
                            have g118 := zz_G.r G_S96 1110 ((S0 1079 36 - 1).toNat) 0 3 rfl rfl
                            have g119 := zz_G.r G_S96 1111 ((S0 1079 36 - 1).toNat) 0 3 rfl rfl
                            have g120 := zz_G.r G_S0 1114 ((S0 1079 36 - 1).toNat) 0 4096 rfl rfl
                            have e121 : S96 1114 (S0 1079 36 - 1).toNat = S0 1114 (S0 1079 36 - 1).toNat := (zz_rc fS96 (zz_nc1 rfl) rfl (by first | decide | (intro h; rcases h with h | h | h | h | h; exact absurd h.1 (by decide); exact absurd h.1 (by decide); exact absurd h.1 (by decide); exact absurd h.1 (by decide); exact absurd h.1 (by decide)) | omega) (zz_ro qS95 (fun h => absurd h.1 (by decide)) (zz_rc fS84 (zz_nc1 rfl) rfl (by first | decide | (intro h; rcases h with h | h | h | h | h | h; exact absurd h.1 (by decide); exact absurd h.1 (by decide); exact absurd h.1 (by decide); exact absurd h.1 (by decide); exact absurd h.1 (by decide); exact absurd h.1 (by decide)) | omega) (zz_rc fS75 (zz_nc1 rfl) rfl (fun h => h) rfl))))
                            have g122 := zz_G.r G_S84 1105 ((S0 1079 36 + 1).toNat) (0) (if (S0 1079 36 + 1).toNat = 0 then 0 else 10000000) rfl rfl
                            have e123 : S96 1105 (S0 1079 36 + 1).toNat = S84 1105 (S0 1079 36 + 1).toNat := (zz_rc fS96 (zz_nc1 rfl) rfl (by first | decide | (intro h; rcases h with h | h | h | h | h; exact absurd h.1 (by decide); exact absurd h.1 (by decide); exact absurd h.1 (by decide); exact absurd h.1 (by decide); exact absurd h.1 (by decide)) | omega) (zz_ro qS95 (fun h => absurd h.1 (by decide)) rfl))
                            have g124 := zz_G.r G_S96 1112 ((S0 1079 36 - 1).toNat) 0 1 rfl rfl
                            have g125 := zz_G.r G_S96 1113 ((S0 1079 36 - 1).toNat) 0 31 rfl rfl
                            exact zz_iret zd_14_70_175 rfl (Nat.zero_le _) (Nat.zero_le _) ⟨_, _, rfl, G_S96, F_S96, by omega, by omega, (fun v hM hV => by have hi8 : (0 ≤ p0 ∧ p0 < S0 1079 36) ∧ 0 ≤ p1 ∧ p1 < S0 1079 36 := (by omega); have h7 := hV.1; have h6 := hM.1; have q1 : zn_out 3 1 1 0 (S0 1102 p0.toNat) = S0 1102 p0.toNat := (zn_o3 ..).trans (by omega); have q2 : zn_out 3 1 1 0 (S0 1103 p0.toNat) = S0 1103 p0.toNat := (zn_o3 ..).trans (by omega); have q4 : zn_ch 3 1 (S0 1104 p0.toNat) = S0 1104 p0.toNat := zn_c3 ..; have q3 := zn_shx p2; have q5 := zn_nzM (K := 3) (kh := 1) (kw := 1) (st := 1) (ed := 0) (ch := 1) hM hi8.1.1 hi8.1.2; rw [q1, q2, q4] at q5; have q6 : S0 1105 (S0 1079 36).toNat = v 15 1 := (by rw [hM.1]; exact hM.2.1); have q7 : S75 1105 (S0 1079 36).toNat = S0 1105 (S0 1079 36).toNat := fS75 1105 (S0 1079 36).toNat rfl rfl (fun h => h); have q8 := o92 (by omega); exact ⟨Or.inr (Or.inr (Or.inr ⟨by omega, (zn_inM hM).mpr hi8, (Or.inl ⟨rfl, (zn_shx p2).2.mpr ⟨by omega, by omega⟩⟩), ((zn_rsM hM hi8).mpr (Or.inl ⟨rfl, by omega, by omega, by omega⟩)), by omega, by omega⟩)), fun _ => ⟨by omega, fun nm => zn_M.up (T := (S0 1079 36).toNat) hM F_S96 rfl rfl (fun a i h => by omega) (by omega) (by omega) (by omega) hi8.1.1 hi8.1.2 (by rw [q1]; omega) (by rw [q2]; omega) (by rw [q4]; omega) (by rw [show (S0 1079 36).toNat + 1 = (S0 1079 36 + 1).toNat by omega, q1, q2, q4]; omega) (by rw [show (S0 1079 36).toNat - 1 = (S0 1079 36 - 1).toNat by omega]; exact (show S96 1106 (S0 1079 36 - 1).toNat = 2 by omega)) (by rw [show (S0 1079 36).toNat - 1 = (S0 1079 36 - 1).toNat by omega]; exact (show S96 1107 (S0 1079 36 - 1).toNat = p0 by omega)) (fun _ => (by rw [show (S0 1079 36).toNat - 1 = (S0 1079 36 - 1).toNat by omega]; exact (show S96 1108 (S0 1079 36 - 1).toNat = p1 by omega))) (by rw [show (S0 1079 36).toNat - 1 = (S0 1079 36 - 1).toNat by omega]; exact (show S96 1109 (S0 1079 36 - 1).toNat = 1 by omega)) (by rw [show (S0 1079 36).toNat - 1 = (S0 1079 36 - 1).toNat by omega]; exact (show S96 1110 (S0 1079 36 - 1).toNat = 1 by omega)) (by rw [show (S0 1079 36).toNat - 1 = (S0 1079 36 - 1).toNat by omega]; exact (show S96 1111 (S0 1079 36 - 1).toNat = 1 by omega)) (by rw [show (S0 1079 36).toNat - 1 = (S0 1079 36 - 1).toNat by omega]; exact (show S96 1112 (S0 1079 36 - 1).toNat = 0 by omega)) (by rw [show (S0 1079 36).toNat - 1 = (S0 1079 36 - 1).toNat by omega]; omega) (fun h => absurd h (by decide))⟩, fun h => absurd (show S96 1079 0 = 0 by omega) h⟩), (zz_Hr.add (T := (S0 1079 36).toNat) (l := (S0 1079 36 - 1).toNat) F_S96 rfl rfl (fun a i h => by omega) R_S0 (by omega) (by omega) (by omega) (by unfold zz_tn zz_sz; rw [show S96 1102 (S0 1079 36).toNat = S0 1102 p0.toNat by omega, show S96 1103 (S0 1079 36).toNat = S0 1103 p0.toNat by omega, show S96 1104 (S0 1079 36).toNat = S0 1104 p0.toNat by omega, show S96 1105 (S0 1079 36).toNat = S0 1105 (S0 1079 36).toNat by omega]; omega) (by unfold zz_la; rw [show S96 1106 (S0 1079 36 - 1).toNat = 2 by omega, show S96 1107 (S0 1079 36 - 1).toNat = p0 by omega, show S96 1108 (S0 1079 36 - 1).toNat = p1 by omega, show S96 1102 ((S0 1079 36 - 1).toNat + 1) = S0 1102 p0.toNat by rw [show (S0 1079 36 - 1).toNat + 1 = (S0 1079 36).toNat by omega]; omega, show S96 1103 ((S0 1079 36 - 1).toNat + 1) = S0 1103 p0.toNat by rw [show (S0 1079 36 - 1).toNat + 1 = (S0 1079 36).toNat by omega]; omega, show S96 1104 ((S0 1079 36 - 1).toNat + 1) = S0 1104 p0.toNat by rw [show (S0 1079 36 - 1).toNat + 1 = (S0 1079 36).toNat by omega]; omega, show S96 1102 p0.toNat = S0 1102 p0.toNat from F_S96 1102 p0.toNat (zz_nc1 rfl) rfl (by omega), show S96 1103 p0.toNat = S0 1103 p0.toNat from F_S96 1103 p0.toNat (zz_nc1 rfl) rfl (by omega), show S96 1104 p0.toNat = S0 1104 p0.toNat from F_S96 1104 p0.toNat (zz_nc1 rfl) rfl (by omega), show S96 1102 p1.toNat = S0 1102 p1.toNat from F_S96 1102 p1.toNat (zz_nc1 rfl) rfl (by omega), show S96 1103 p1.toNat = S0 1103 p1.toNat from F_S96 1103 p1.toNat (zz_nc1 rfl) rfl (by omega), show S96 1104 p1.toNat = S0 1104 p1.toNat from F_S96 1104 p1.toNat (zz_nc1 rfl) rfl (by omega)]; exact ⟨by omega, fun h => absurd h (by decide), fun h => absurd h (by decide), fun _ => ⟨by omega, ⟨by omega, by omega, by omega⟩, by omega, by omega, by omega⟩⟩))⟩
                          · refine zz_iconst zd_14_70_152 ?_
                            have g126 := zz_G.r G_S84 1079 36 0 11 rfl rfl
                            exact zz_iret zd_14_70_153 rfl (Nat.zero_le _) (Nat.zero_le _) ⟨_, _, rfl, G_S84, F_S84, by omega, by omega, (fun v hM hV => by have hi8 : (0 ≤ p0 ∧ p0 < S0 1079 36) ∧ 0 ≤ p1 ∧ p1 < S0 1079 36 := (by omega); have h7 := hV.1; have h6 := hM.1; have q1 : zn_out 3 1 1 0 (S0 1102 p0.toNat) = S0 1102 p0.toNat := (zn_o3 ..).trans (by omega); have q2 : zn_out 3 1 1 0 (S0 1103 p0.toNat) = S0 1103 p0.toNat := (zn_o3 ..).trans (by omega); have q4 : zn_ch 3 1 (S0 1104 p0.toNat) = S0 1104 p0.toNat := zn_c3 ..; have q3 := zn_shx p2; have q5 := zn_nzM (K := 3) (kh := 1) (kw := 1) (st := 1) (ed := 0) (ch := 1) hM hi8.1.1 hi8.1.2; rw [q1, q2, q4] at q5; have q6 : S0 1105 (S0 1079 36).toNat = v 15 1 := (by rw [hM.1]; exact hM.2.1); have q7 : S75 1105 (S0 1079 36).toNat = S0 1105 (S0 1079 36).toNat := fS75 1105 (S0 1079 36).toNat rfl rfl (fun h => h); have q8 := o91 (by omega); exact ⟨Or.inr (Or.inr (Or.inl ⟨by omega, (zn_inM hM).mpr hi8, (Or.inl ⟨rfl, (zn_shx p2).2.mpr ⟨by omega, by omega⟩⟩), ((zn_rsM hM hi8).mpr (Or.inl ⟨rfl, by omega, by omega, by omega⟩)), fun h9 => by omega⟩)), fun h => absurd h (by omega), fun _ => o90 (by omega) v (zn_M.fr hM fS75 rfl rfl (fun b j h => h.elim) (by omega))⟩), (o88 (by omega) R_S75)⟩
                        · exfalso; omega
                      · exfalso; omega
                    · exfalso; omega
        · exfalso; omega
abbrev zy_form_14_71 : mm_Y := (⟨"TensorForgeModel", "form", "(II)I"⟩, prog_14_method_71_code, 3, (some .int))
theorem zyw_form_14_71 : mm_Yw zy_form_14_71 2 := ⟨mm_tb_1 2112 (by decide +kernel) rfl, mm_tb_1 12 (by decide +kernel) rfl, ⟨by decide, by decide⟩, by decide +kernel⟩
theorem zg_14_71_0 : zq_at zy_form_14_71.2.1 0 42 ∧ zq_at zy_form_14_71.2.1 1 42 ∧ zq_at zy_form_14_71.2.1 2 27 ∧ zq_at zy_form_14_71.2.1 3 182 ∧ zq_at zy_form_14_71.2.1 4 1 ∧ zq_at zy_form_14_71.2.1 5 155 ∧ zq_at zy_form_14_71.2.1 6 154 ∧ zq_at zy_form_14_71.2.1 7 0 ∧ zq_at zy_form_14_71.2.1 8 7 ∧ zq_at zy_form_14_71.2.1 9 4 ∧ zq_at zy_form_14_71.2.1 10 167 ∧ zq_at zy_form_14_71.2.1 11 0 ∧ zq_at zy_form_14_71.2.1 12 4 ∧ zq_at zy_form_14_71.2.1 14 42 ∧ zq_at zy_form_14_71.2.1 15 27 ∧ zq_at zy_form_14_71.2.1 16 182 ∧ zq_at zy_form_14_71.2.1 17 1 ∧ zq_at zy_form_14_71.2.1 18 155 ∧ zq_at zy_form_14_71.2.1 19 153 ∧ zq_at zy_form_14_71.2.1 20 0 ∧ zq_at zy_form_14_71.2.1 21 19 ∧ zq_at zy_form_14_71.2.1 38 3 ∧ zq_at zy_form_14_71.2.1 39 3 := by decide +kernel
theorem zd_14_71_0 : zz_D zy_form_14_71 0 (.aload_n 0) 1 1 := ⟨zq_42 zg_14_71_0.1, rfl⟩
theorem zd_14_71_1 : zz_D zy_form_14_71 1 (.aload_n 0) 1 2 := ⟨zq_42 zg_14_71_0.2.1, rfl⟩
theorem zd_14_71_2 : zz_D zy_form_14_71 2 (.iload_n 1) 1 3 := ⟨zq_27 zg_14_71_0.2.2.1, rfl⟩
theorem zd_14_71_3 : zz_D zy_form_14_71 3 (.invokevirtual 411) 3 6 := ⟨zq_182 zg_14_71_0.2.2.2.1 zg_14_71_0.2.2.2.2.1 zg_14_71_0.2.2.2.2.2.1 rfl, rfl⟩
theorem zd_14_71_6 : zz_B zy_form_14_71 6 (Instr.ifCond .ne) 13 9 := ⟨7, zq_154 zg_14_71_0.2.2.2.2.2.2.1 zg_14_71_0.2.2.2.2.2.2.2.1 zg_14_71_0.2.2.2.2.2.2.2.2.1 (by decide), rfl, rfl⟩
theorem zd_14_71_9 : zz_D zy_form_14_71 9 (.iconst 1) 1 10 := ⟨zq_4 zg_14_71_0.2.2.2.2.2.2.2.2.2.1, rfl⟩
theorem zd_14_71_10 : zz_B zy_form_14_71 10 Instr.goto 14 13 := ⟨4, zq_167 zg_14_71_0.2.2.2.2.2.2.2.2.2.2.1 zg_14_71_0.2.2.2.2.2.2.2.2.2.2.2.1 zg_14_71_0.2.2.2.2.2.2.2.2.2.2.2.2.1 (by decide), rfl, rfl⟩
theorem zd_14_71_14 : zz_D zy_form_14_71 14 (.aload_n 0) 1 15 := ⟨zq_42 zg_14_71_0.2.2.2.2.2.2.2.2.2.2.2.2.2.1, rfl⟩
theorem zd_14_71_15 : zz_D zy_form_14_71 15 (.iload_n 1) 1 16 := ⟨zq_27 zg_14_71_0.2.2.2.2.2.2.2.2.2.2.2.2.2.2.1, rfl⟩
theorem zd_14_71_16 : zz_D zy_form_14_71 16 (.invokevirtual 411) 3 19 := ⟨zq_182 zg_14_71_0.2.2.2.2.2.2.2.2.2.2.2.2.2.2.2.1 zg_14_71_0.2.2.2.2.2.2.2.2.2.2.2.2.2.2.2.2.1 zg_14_71_0.2.2.2.2.2.2.2.2.2.2.2.2.2.2.2.2.2.1 rfl, rfl⟩
theorem zd_14_71_19 : zz_B zy_form_14_71 19 (Instr.ifCond .eq) 38 22 := ⟨19, zq_153 zg_14_71_0.2.2.2.2.2.2.2.2.2.2.2.2.2.2.2.2.2.2.1 zg_14_71_0.2.2.2.2.2.2.2.2.2.2.2.2.2.2.2.2.2.2.2.1 zg_14_71_0.2.2.2.2.2.2.2.2.2.2.2.2.2.2.2.2.2.2.2.2.1 (by decide), rfl, rfl⟩
theorem zd_14_71_38 : zz_D zy_form_14_71 38 (.iconst 0) 1 39 := ⟨zq_3 zg_14_71_0.2.2.2.2.2.2.2.2.2.2.2.2.2.2.2.2.2.2.2.2.2.1, rfl⟩
theorem zd_14_71_39 : zz_D zy_form_14_71 39 (.iconst 0) 1 40 := ⟨zq_3 zg_14_71_0.2.2.2.2.2.2.2.2.2.2.2.2.2.2.2.2.2.2.2.2.2.2, rfl⟩
theorem zg_14_71_40 : zq_at zy_form_14_71.2.1 40 182 ∧ zq_at zy_form_14_71.2.1 41 0 ∧ zq_at zy_form_14_71.2.1 42 196 ∧ zq_at zy_form_14_71.2.1 43 153 ∧ zq_at zy_form_14_71.2.1 44 0 ∧ zq_at zy_form_14_71.2.1 45 5 ∧ zq_at zy_form_14_71.2.1 46 3 ∧ zq_at zy_form_14_71.2.1 47 172 ∧ zq_at zy_form_14_71.2.1 22 28 ∧ zq_at zy_form_14_71.2.1 23 133 ∧ zq_at zy_form_14_71.2.1 24 9 ∧ zq_at zy_form_14_71.2.1 25 20 ∧ zq_at zy_form_14_71.2.1 26 1 ∧ zq_at zy_form_14_71.2.1 27 160 ∧ zq_at zy_form_14_71.2.1 28 184 ∧ zq_at zy_form_14_71.2.1 29 0 ∧ zq_at zy_form_14_71.2.1 30 192 ∧ zq_at zy_form_14_71.2.1 31 154 ∧ zq_at zy_form_14_71.2.1 32 0 ∧ zq_at zy_form_14_71.2.1 33 7 ∧ zq_at zy_form_14_71.2.1 34 4 ∧ zq_at zy_form_14_71.2.1 35 167 ∧ zq_at zy_form_14_71.2.1 36 0 ∧ zq_at zy_form_14_71.2.1 37 4 := by decide +kernel
theorem zd_14_71_40 : zz_D zy_form_14_71 40 (.invokevirtual 196) 3 43 := ⟨zq_182 zg_14_71_40.1 zg_14_71_40.2.1 zg_14_71_40.2.2.1 rfl, rfl⟩
theorem zd_14_71_43 : zz_B zy_form_14_71 43 (Instr.ifCond .eq) 48 46 := ⟨5, zq_153 zg_14_71_40.2.2.2.1 zg_14_71_40.2.2.2.2.1 zg_14_71_40.2.2.2.2.2.1 (by decide), rfl, rfl⟩
theorem zd_14_71_46 : zz_D zy_form_14_71 46 (.iconst 0) 1 47 := ⟨zq_3 zg_14_71_40.2.2.2.2.2.2.1, rfl⟩
theorem zd_14_71_47 : zz_D zy_form_14_71 47 (.ireturn) 1 48 := ⟨zq_172 zg_14_71_40.2.2.2.2.2.2.2.1, rfl⟩
theorem zd_14_71_22 : zz_D zy_form_14_71 22 (.iload_n 2) 1 23 := ⟨zq_28 zg_14_71_40.2.2.2.2.2.2.2.2.1, rfl⟩
theorem zd_14_71_23 : zz_D zy_form_14_71 23 (.i2l) 1 24 := ⟨zq_133 zg_14_71_40.2.2.2.2.2.2.2.2.2.1, rfl⟩
theorem zd_14_71_24 : zz_D zy_form_14_71 24 (.lconst 0) 1 25 := ⟨zq_9 zg_14_71_40.2.2.2.2.2.2.2.2.2.2.1, rfl⟩
theorem zd_14_71_25 : zz_D zy_form_14_71 25 (.ldc2_w 416) 3 28 := ⟨zq_20 zg_14_71_40.2.2.2.2.2.2.2.2.2.2.2.1 zg_14_71_40.2.2.2.2.2.2.2.2.2.2.2.2.1 zg_14_71_40.2.2.2.2.2.2.2.2.2.2.2.2.2.1 rfl, rfl⟩
theorem zd_14_71_28 : zz_D zy_form_14_71 28 (.invokestatic 192) 3 31 := ⟨zq_184 zg_14_71_40.2.2.2.2.2.2.2.2.2.2.2.2.2.2.1 zg_14_71_40.2.2.2.2.2.2.2.2.2.2.2.2.2.2.2.1 zg_14_71_40.2.2.2.2.2.2.2.2.2.2.2.2.2.2.2.2.1 rfl, rfl⟩
theorem zd_14_71_31 : zz_B zy_form_14_71 31 (Instr.ifCond .ne) 38 34 := ⟨7, zq_154 zg_14_71_40.2.2.2.2.2.2.2.2.2.2.2.2.2.2.2.2.2.1 zg_14_71_40.2.2.2.2.2.2.2.2.2.2.2.2.2.2.2.2.2.2.1 zg_14_71_40.2.2.2.2.2.2.2.2.2.2.2.2.2.2.2.2.2.2.2.1 (by decide), rfl, rfl⟩
theorem zd_14_71_34 : zz_D zy_form_14_71 34 (.iconst 1) 1 35 := ⟨zq_4 zg_14_71_40.2.2.2.2.2.2.2.2.2.2.2.2.2.2.2.2.2.2.2.2.1, rfl⟩
theorem zd_14_71_35 : zz_B zy_form_14_71 35 Instr.goto 39 38 := ⟨4, zq_167 zg_14_71_40.2.2.2.2.2.2.2.2.2.2.2.2.2.2.2.2.2.2.2.2.2.1 zg_14_71_40.2.2.2.2.2.2.2.2.2.2.2.2.2.2.2.2.2.2.2.2.2.2.1 zg_14_71_40.2.2.2.2.2.2.2.2.2.2.2.2.2.2.2.2.2.2.2.2.2.2.2 (by decide), rfl, rfl⟩
theorem zg_14_71_13 : zq_at zy_form_14_71.2.1 13 3 ∧ zq_at zy_form_14_71.2.1 48 28 ∧ zq_at zy_form_14_71.2.1 49 154 ∧ zq_at zy_form_14_71.2.1 50 0 ∧ zq_at zy_form_14_71.2.1 51 12 ∧ zq_at zy_form_14_71.2.1 61 28 ∧ zq_at zy_form_14_71.2.1 62 4 ∧ zq_at zy_form_14_71.2.1 63 160 ∧ zq_at zy_form_14_71.2.1 64 0 ∧ zq_at zy_form_14_71.2.1 65 12 ∧ zq_at zy_form_14_71.2.1 75 28 ∧ zq_at zy_form_14_71.2.1 76 5 ∧ zq_at zy_form_14_71.2.1 77 160 ∧ zq_at zy_form_14_71.2.1 78 0 ∧ zq_at zy_form_14_71.2.1 79 12 ∧ zq_at zy_form_14_71.2.1 89 42 ∧ zq_at zy_form_14_71.2.1 90 180 ∧ zq_at zy_form_14_71.2.1 91 0 ∧ zq_at zy_form_14_71.2.1 92 97 ∧ zq_at zy_form_14_71.2.1 93 27 ∧ zq_at zy_form_14_71.2.1 94 46 ∧ zq_at zy_form_14_71.2.1 95 172 ∧ zq_at zy_form_14_71.2.1 80 42 := by decide +kernel
theorem zd_14_71_13 : zz_D zy_form_14_71 13 (.iconst 0) 1 14 := ⟨zq_3 zg_14_71_13.1, rfl⟩
theorem zd_14_71_48 : zz_D zy_form_14_71 48 (.iload_n 2) 1 49 := ⟨zq_28 zg_14_71_13.2.1, rfl⟩
theorem zd_14_71_49 : zz_B zy_form_14_71 49 (Instr.ifCond .ne) 61 52 := ⟨12, zq_154 zg_14_71_13.2.2.1 zg_14_71_13.2.2.2.1 zg_14_71_13.2.2.2.2.1 (by decide), rfl, rfl⟩
theorem zd_14_71_61 : zz_D zy_form_14_71 61 (.iload_n 2) 1 62 := ⟨zq_28 zg_14_71_13.2.2.2.2.2.1, rfl⟩
theorem zd_14_71_62 : zz_D zy_form_14_71 62 (.iconst 1) 1 63 := ⟨zq_4 zg_14_71_13.2.2.2.2.2.2.1, rfl⟩
theorem zd_14_71_63 : zz_B zy_form_14_71 63 (Instr.if_icmp .ne) 75 66 := ⟨12, zq_160 zg_14_71_13.2.2.2.2.2.2.2.1 zg_14_71_13.2.2.2.2.2.2.2.2.1 zg_14_71_13.2.2.2.2.2.2.2.2.2.1 (by decide), rfl, rfl⟩
theorem zd_14_71_75 : zz_D zy_form_14_71 75 (.iload_n 2) 1 76 := ⟨zq_28 zg_14_71_13.2.2.2.2.2.2.2.2.2.2.1, rfl⟩
theorem zd_14_71_76 : zz_D zy_form_14_71 76 (.iconst 2) 1 77 := ⟨zq_5 zg_14_71_13.2.2.2.2.2.2.2.2.2.2.2.1, rfl⟩
theorem zd_14_71_77 : zz_B zy_form_14_71 77 (Instr.if_icmp .ne) 89 80 := ⟨12, zq_160 zg_14_71_13.2.2.2.2.2.2.2.2.2.2.2.2.1 zg_14_71_13.2.2.2.2.2.2.2.2.2.2.2.2.2.1 zg_14_71_13.2.2.2.2.2.2.2.2.2.2.2.2.2.2.1 (by decide), rfl, rfl⟩
theorem zd_14_71_89 : zz_D zy_form_14_71 89 (.aload_n 0) 1 90 := ⟨zq_42 zg_14_71_13.2.2.2.2.2.2.2.2.2.2.2.2.2.2.2.1, rfl⟩
theorem zd_14_71_90 : zz_D zy_form_14_71 90 (.getfield 97) 3 93 := ⟨zq_180 zg_14_71_13.2.2.2.2.2.2.2.2.2.2.2.2.2.2.2.2.1 zg_14_71_13.2.2.2.2.2.2.2.2.2.2.2.2.2.2.2.2.2.1 zg_14_71_13.2.2.2.2.2.2.2.2.2.2.2.2.2.2.2.2.2.2.1 rfl, rfl⟩
theorem zd_14_71_93 : zz_D zy_form_14_71 93 (.iload_n 1) 1 94 := ⟨zq_27 zg_14_71_13.2.2.2.2.2.2.2.2.2.2.2.2.2.2.2.2.2.2.2.1, rfl⟩
theorem zd_14_71_94 : zz_D zy_form_14_71 94 (.iaload) 1 95 := ⟨zq_46 zg_14_71_13.2.2.2.2.2.2.2.2.2.2.2.2.2.2.2.2.2.2.2.2.1, rfl⟩
theorem zd_14_71_95 : zz_D zy_form_14_71 95 (.ireturn) 1 96 := ⟨zq_172 zg_14_71_13.2.2.2.2.2.2.2.2.2.2.2.2.2.2.2.2.2.2.2.2.2.1, rfl⟩
theorem zd_14_71_80 : zz_D zy_form_14_71 80 (.aload_n 0) 1 81 := ⟨zq_42 zg_14_71_13.2.2.2.2.2.2.2.2.2.2.2.2.2.2.2.2.2.2.2.2.2.2, rfl⟩
theorem zg_14_71_81 : zq_at zy_form_14_71.2.1 81 180 ∧ zq_at zy_form_14_71.2.1 82 0 ∧ zq_at zy_form_14_71.2.1 83 94 ∧ zq_at zy_form_14_71.2.1 84 27 ∧ zq_at zy_form_14_71.2.1 85 46 ∧ zq_at zy_form_14_71.2.1 86 167 ∧ zq_at zy_form_14_71.2.1 87 0 ∧ zq_at zy_form_14_71.2.1 88 9 ∧ zq_at zy_form_14_71.2.1 66 42 ∧ zq_at zy_form_14_71.2.1 67 180 ∧ zq_at zy_form_14_71.2.1 68 0 ∧ zq_at zy_form_14_71.2.1 69 91 ∧ zq_at zy_form_14_71.2.1 70 27 ∧ zq_at zy_form_14_71.2.1 71 46 ∧ zq_at zy_form_14_71.2.1 72 167 ∧ zq_at zy_form_14_71.2.1 73 0 ∧ zq_at zy_form_14_71.2.1 74 23 ∧ zq_at zy_form_14_71.2.1 52 42 ∧ zq_at zy_form_14_71.2.1 53 180 ∧ zq_at zy_form_14_71.2.1 54 0 ∧ zq_at zy_form_14_71.2.1 55 88 ∧ zq_at zy_form_14_71.2.1 56 27 ∧ zq_at zy_form_14_71.2.1 57 46 := by decide +kernel
theorem zd_14_71_81 : zz_D zy_form_14_71 81 (.getfield 94) 3 84 := ⟨zq_180 zg_14_71_81.1 zg_14_71_81.2.1 zg_14_71_81.2.2.1 rfl, rfl⟩
theorem zd_14_71_84 : zz_D zy_form_14_71 84 (.iload_n 1) 1 85 := ⟨zq_27 zg_14_71_81.2.2.2.1, rfl⟩
theorem zd_14_71_85 : zz_D zy_form_14_71 85 (.iaload) 1 86 := ⟨zq_46 zg_14_71_81.2.2.2.2.1, rfl⟩
theorem zd_14_71_86 : zz_B zy_form_14_71 86 Instr.goto 95 89 := ⟨9, zq_167 zg_14_71_81.2.2.2.2.2.1 zg_14_71_81.2.2.2.2.2.2.1 zg_14_71_81.2.2.2.2.2.2.2.1 (by decide), rfl, rfl⟩
theorem zd_14_71_66 : zz_D zy_form_14_71 66 (.aload_n 0) 1 67 := ⟨zq_42 zg_14_71_81.2.2.2.2.2.2.2.2.1, rfl⟩
theorem zd_14_71_67 : zz_D zy_form_14_71 67 (.getfield 91) 3 70 := ⟨zq_180 zg_14_71_81.2.2.2.2.2.2.2.2.2.1 zg_14_71_81.2.2.2.2.2.2.2.2.2.2.1 zg_14_71_81.2.2.2.2.2.2.2.2.2.2.2.1 rfl, rfl⟩
theorem zd_14_71_70 : zz_D zy_form_14_71 70 (.iload_n 1) 1 71 := ⟨zq_27 zg_14_71_81.2.2.2.2.2.2.2.2.2.2.2.2.1, rfl⟩
theorem zd_14_71_71 : zz_D zy_form_14_71 71 (.iaload) 1 72 := ⟨zq_46 zg_14_71_81.2.2.2.2.2.2.2.2.2.2.2.2.2.1, rfl⟩
theorem zd_14_71_72 : zz_B zy_form_14_71 72 Instr.goto 95 75 := ⟨23, zq_167 zg_14_71_81.2.2.2.2.2.2.2.2.2.2.2.2.2.2.1 zg_14_71_81.2.2.2.2.2.2.2.2.2.2.2.2.2.2.2.1 zg_14_71_81.2.2.2.2.2.2.2.2.2.2.2.2.2.2.2.2.1 (by decide), rfl, rfl⟩
theorem zd_14_71_52 : zz_D zy_form_14_71 52 (.aload_n 0) 1 53 := ⟨zq_42 zg_14_71_81.2.2.2.2.2.2.2.2.2.2.2.2.2.2.2.2.2.1, rfl⟩
theorem zd_14_71_53 : zz_D zy_form_14_71 53 (.getfield 88) 3 56 := ⟨zq_180 zg_14_71_81.2.2.2.2.2.2.2.2.2.2.2.2.2.2.2.2.2.2.1 zg_14_71_81.2.2.2.2.2.2.2.2.2.2.2.2.2.2.2.2.2.2.2.1 zg_14_71_81.2.2.2.2.2.2.2.2.2.2.2.2.2.2.2.2.2.2.2.2.1 rfl, rfl⟩
theorem zd_14_71_56 : zz_D zy_form_14_71 56 (.iload_n 1) 1 57 := ⟨zq_27 zg_14_71_81.2.2.2.2.2.2.2.2.2.2.2.2.2.2.2.2.2.2.2.2.2.1, rfl⟩
theorem zd_14_71_57 : zz_D zy_form_14_71 57 (.iaload) 1 58 := ⟨zq_46 zg_14_71_81.2.2.2.2.2.2.2.2.2.2.2.2.2.2.2.2.2.2.2.2.2.2, rfl⟩
theorem zg_14_71_58 : zq_at zy_form_14_71.2.1 58 167 ∧ zq_at zy_form_14_71.2.1 59 0 ∧ zq_at zy_form_14_71.2.1 60 37 := by decide +kernel
theorem zd_14_71_58 : zz_B zy_form_14_71 58 Instr.goto 95 61 := ⟨37, zq_167 zg_14_71_58.1 zg_14_71_58.2.1 zg_14_71_58.2.2 (by decide), rfl, rfl⟩

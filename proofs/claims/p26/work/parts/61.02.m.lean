-- TensorForgeModel pool (III)I
abbrev zr_pool_14_69 : Room := { frames := 2, cells := 0, slots := 0, locals := 33 }
def zp_pool_14_69 (p0 : Int) (p1 : Int) (p2 : Int) (S0 : zz_S) : Int → zz_S → Prop := fun r S => zz_G S ∧ zz_fr [(1079, 0), (1079, 36)] [] (fun a i => (a = 1102 ∧ i = (S0 1079 36).toNat) ∨ (a = 1103 ∧ i = (S0 1079 36).toNat) ∨ (a = 1104 ∧ i = (S0 1079 36).toNat) ∨ (a = 1105 ∧ i = ((S0 1079 36) + 1).toNat) ∨ (a = 1106 ∧ i = ((S0 1079 36) - 1).toNat) ∨ (a = 1107 ∧ i = ((S0 1079 36) - 1).toNat) ∨ (a = 1109 ∧ i = ((S0 1079 36) - 1).toNat) ∨ (a = 1110 ∧ i = ((S0 1079 36) - 1).toNat) ∨ (a = 1111 ∧ i = ((S0 1079 36) - 1).toNat) ∨ (a = 1112 ∧ i = ((S0 1079 36) - 1).toNat) ∨ (a = 1113 ∧ i = ((S0 1079 36) - 1).toNat)) S0 S ∧ (0 ≤ r ∧ r ≤ 10) ∧ (S 1079 36 ≥ S0 1079 36) ∧ (∀ v : zn_T, zn_M S0 v → zn_V v → zn_F v 2 p0 p0 (p1.tdiv 10) (p1.tmod 10) p2 0 0 1 0 (S 1079 0) ∧ (S 1079 0 = 0 → r = v 15 0 ∧ ∀ nm : Int, zn_M S (zn_nw v 2 p0 p0 (p1.tdiv 10) (p1.tmod 10) p2 0 0 0 1 0 nm)) ∧ (S 1079 0 ≠ 0 → zn_M S v)) ∧ (zz_Hr S)
set_option maxHeartbeats 4000000 in
theorem zc_pool_14_69 {g : mm_G} {l : Launch} (p0 : Int) (p1 : Int) (p2 : Int) (S0 : zz_S) (n : Nat) (hn : zz_end ≤ n) (G_S0 : zz_G S0) (hp0 : (-2147483648) ≤ p0 ∧ p0 ≤ 2147483647) (hp1 : (-2147483648) ≤ p1 ∧ p1 ≤ 2147483647) (hp2 : (-2147483648) ≤ p2 ∧ p2 ≤ 2147483647) (R_S0 : zz_Hr S0) : mm_Met g l zy_pool_14_69 zr_pool_14_69 [.ref 1079, zi p0, zi p1, zi p2] (zz_M S0 n) n (zz_QI n (zp_pool_14_69 p0 p1 p2 S0)) := by
  refine zz_enter (by decide) (Nat.le_of_ble_eq_true rfl) (zz_less (ls1 := [some (.ref 1079), some (zi p0), some (zi p1), some (zi p2)]) ⟨rfl, ⟨rfl, ⟨rfl, ⟨rfl, trivial⟩⟩⟩⟩ ?_)
  have F_S0 : zz_fr [(1079, 0), (1079, 36)] [] (fun a i => (a = 1102 ∧ i = (S0 1079 36).toNat) ∨ (a = 1103 ∧ i = (S0 1079 36).toNat) ∨ (a = 1104 ∧ i = (S0 1079 36).toNat) ∨ (a = 1105 ∧ i = ((S0 1079 36) + 1).toNat) ∨ (a = 1106 ∧ i = ((S0 1079 36) - 1).toNat) ∨ (a = 1107 ∧ i = ((S0 1079 36) - 1).toNat) ∨ (a = 1109 ∧ i = ((S0 1079 36) - 1).toNat) ∨ (a = 1110 ∧ i = ((S0 1079 36) - 1).toNat) ∨ (a = 1111 ∧ i = ((S0 1079 36) - 1).toNat) ∨ (a = 1112 ∧ i = ((S0 1079 36) - 1).toNat) ∨ (a = 1113 ∧ i = ((S0 1079 36) - 1).toNat)) S0 S0 := zz_fr.refl
  refine zz_aload_n (x := 1079) rfl zd_14_69_0 ?_
  refine zz_iload_n (x := p0) rfl zd_14_69_1 ?_
  have g1 := zz_G.r G_S0 1079 36 0 11 rfl rfl
  refine zz_callVI [zi p0] zd_14_69_2 zk_Md_411 zT_1079 (zz_ltn hn rfl) rfl rfl ⟨Nat.le_of_ble_eq_true rfl, Nat.le_of_ble_eq_true rfl⟩ ⟨rfl, rfl⟩ (Nat.zero_le _) (Nat.zero_le _) (zc_isTensor_14_66 p0 S0 n hn G_S0 (by omega)) (fun v3 S2 hP => ?_)
  obtain ⟨rfl, o4, o5⟩ := hP
  rcases (by omega : v3 = 0 ∨ v3 = 1) with rfl | rfl
  · refine zz_if_ne (by omega) zd_14_69_5 (fun c6 => ?_) (fun c6 => ?_)
    · exfalso; omega
    · refine zz_aload_n (x := 1079) rfl zd_14_69_8 ?_
      refine zz_iconst zd_14_69_9 ?_
      refine zz_iconst zd_14_69_10 ?_
      refine zz_iconst zd_14_69_11 ?_
      refine zz_callVI [zi 1, zi 0, zi 0] zd_14_69_12 zk_Md_196 zT_1079 (zz_ltn hn rfl) rfl rfl ⟨Nat.le_of_ble_eq_true rfl, Nat.le_of_ble_eq_true rfl⟩ ⟨rfl, rfl⟩ (Nat.zero_le _) (Nat.zero_le _) (zc_refuse_14_3 1 0 0 S0 n hn G_S0 (by omega) (by omega) (by omega)) (fun v8 S7 hP => ?_)
      obtain ⟨G_S7, fS7, o9, o10⟩ := hP
      have F_S7 := zz_fr.trans F_S0 fS7 rfl zz_nv
      have R_S7 : zz_Hr S7 := zz_Hr.fr fS7 rfl rfl (fun b j h => h.elim) R_S0
      rcases (by omega : v8 = 0 ∨ v8 = 1) with rfl | rfl
      · exfalso; omega
      · have e11 : S7 1079 0 = 1 := by omega
        clear o10
        refine zz_pop rfl zd_14_69_15 ?_
        refine zz_iconst zd_14_69_16 ?_
        have e12 : S7 1079 36 = S0 1079 36 := (zz_rc fS7 rfl rfl (fun h => h) rfl)
        exact zz_iret zd_14_69_17 rfl (Nat.zero_le _) (Nat.zero_le _) ⟨_, _, rfl, G_S7, F_S7, by omega, by omega, (fun v hM hV => by exact ⟨Or.inl ⟨by omega, fun hi => by have h9 := (zn_inM hM).mp hi; omega⟩, fun h => absurd h (by omega), fun _ => (zn_M.fr hM fS7 rfl rfl (fun b j h => h.elim) (by omega))⟩), R_S7⟩
  · refine zz_if_ne (by omega) zd_14_69_5 (fun c13 => ?_) (fun c13 => ?_)
    · skip
      refine zz_iload_n (x := p1) rfl zd_14_69_18 ?_
      refine zz_bipush (by decide) zd_14_69_19 ?_
      refine zz_idiv (by omega) (by omega) zd_14_69_21 (fun v14 hv14 av14 bv14 cv14 => ?_)
      refine zz_istore [some (.ref 1079), some (zi p0), some (zi p1), some (zi p2), some (zi v14)] zd_14_69_22 (by decide) rfl ?_
      refine zz_iload_n (x := p1) rfl zd_14_69_24 ?_
      refine zz_bipush (by decide) zd_14_69_25 ?_
      refine zz_irem (by omega) (by omega) zd_14_69_27 (fun v15 hv15 av15 bv15 cv15 => ?_)
      refine zz_istore [some (.ref 1079), some (zi p0), some (zi p1), some (zi p2), some (zi v14), some (zi v15)] zd_14_69_28 (by decide) rfl ?_
      clear bv14 cv14 bv15 cv15
      refine zz_iload_n (x := p1) rfl zd_14_69_30 ?_
      refine zz_i2l (by omega) zd_14_69_31 ?_
      refine zz_ldc2 (z := 11) zq_Md_218 (by decide) zd_14_69_32 ?_
      refine zz_ldc2 (z := 33) zq_Md_414 (by decide) zd_14_69_35 ?_
      refine zz_callSI [zl p1, zl 11, zl 33] zd_14_69_38 zk_Md_192 rfl rfl ⟨Nat.le_of_ble_eq_true rfl, Nat.le_of_ble_eq_true rfl⟩ ⟨rfl, rfl⟩ (Nat.zero_le _) (Nat.zero_le _) (zc_in_14_4 p1 11 33 S0 n hn G_S0 (by omega) (by omega) (by omega)) (fun v17 S16 hP => ?_)
      obtain ⟨rfl, o18, o19⟩ := hP
      rcases (by omega : v17 = 0 ∨ v17 = 1) with rfl | rfl
      · have n20 : p1 < 11 ∨ 33 < p1 := by omega
        clear o19
        refine zz_if_eq (by omega) zd_14_69_41 (fun c21 => ?_) (fun c21 => ?_)
        · refine zz_iconst zd_14_69_86 ?_
          refine zz_istore [some (.ref 1079), some (zi p0), some (zi p1), some (zi p2), some (zi v14), some (zi v15), some (zi 0)] zd_14_69_87 (by decide) rfl ?_
          refine zz_iload (x := 0) rfl zd_14_69_89 ?_
          refine zz_if_eq (by omega) zd_14_69_91 (fun c22 => ?_) (fun c22 => ?_)
          · refine zz_iconst zd_14_69_110 ?_
            refine zz_istore [some (.ref 1079), some (zi p0), some (zi p1), some (zi p2), some (zi v14), some (zi v15), some (zi 0), some (zi 0)] zd_14_69_111 (by decide) rfl ?_
            refine zz_iload (x := 0) rfl zd_14_69_113 ?_
            refine zz_if_eq (by omega) zd_14_69_115 (fun c23 => ?_) (fun c23 => ?_)
            · refine zz_iconst zd_14_69_134 ?_
              refine zz_istore [some (.ref 1079), some (zi p0), some (zi p1), some (zi p2), some (zi v14), some (zi v15), some (zi 0), some (zi 0), some (zi 0)] zd_14_69_135 (by decide) rfl ?_
              refine zz_aload_n (x := 1079) rfl zd_14_69_137 ?_
              refine zz_iconst zd_14_69_138 ?_
              refine zz_iload (x := 0) rfl zd_14_69_139 ?_
              refine zz_if_eq (by omega) zd_14_69_141 (fun c24 => ?_) (fun c24 => ?_)
              · refine zz_iconst zd_14_69_149 ?_
                refine zz_goto zd_14_69_150 ?_
                refine zz_iconst zd_14_69_154 ?_
                refine zz_callVI [zi 0, zi 1, zi 0] zd_14_69_155 zk_Md_196 zT_1079 (zz_ltn hn rfl) rfl rfl ⟨Nat.le_of_ble_eq_true rfl, Nat.le_of_ble_eq_true rfl⟩ ⟨rfl, rfl⟩ (Nat.zero_le _) (Nat.zero_le _) (zc_refuse_14_3 0 1 0 S0 n hn G_S0 (by omega) (by omega) (by omega)) (fun v26 S25 hP => ?_)
                obtain ⟨G_S25, fS25, o27, o28⟩ := hP
                have F_S25 := zz_fr.trans F_S0 fS25 rfl zz_nv
                have R_S25 : zz_Hr S25 := zz_Hr.fr fS25 rfl rfl (fun b j h => h.elim) R_S0
                rcases (by omega : v26 = 0 ∨ v26 = 1) with rfl | rfl
                · exfalso; omega
                · have e29 : S25 1079 0 = 2 := by omega
                  clear o28
                  refine zz_if_eq (by omega) zd_14_69_158 (fun c30 => ?_) (fun c30 => ?_)
                  · exfalso; omega
                  · refine zz_iconst zd_14_69_161 ?_
                    have e31 : S25 1079 36 = S0 1079 36 := (zz_rc fS25 rfl rfl (fun h => h) rfl)
                    exact zz_iret zd_14_69_162 rfl (Nat.zero_le _) (Nat.zero_le _) ⟨_, _, rfl, G_S25, F_S25, by omega, by omega, (fun v hM hV => by have hi8 : (0 ≤ p0 ∧ p0 < S0 1079 36) ∧ 0 ≤ p0 ∧ p0 < S0 1079 36 := (by omega); have h7 := hV.1; have h6 := hM.1; rw [← av14, ← av15]; exact ⟨Or.inr (Or.inl ⟨by omega, (zn_inM hM).mpr hi8, fun h9 => by have c9 := zn_plf av14 av15 h9.1 ((zn_rsM hM hi8).mp h9.2); (try clear bv14); (try clear cv14); (try clear bv15); (try clear cv15); clear h9; omega⟩), fun h => absurd h (by omega), fun _ => (zn_M.fr hM fS25 rfl rfl (fun b j h => h.elim) (by omega))⟩), R_S25⟩
              · exfalso; omega
            · exfalso; omega
          · exfalso; omega
        · exfalso; omega
      · have n32 : 11 ≤ p1 ∧ p1 ≤ 33 := by omega
        clear o19
        refine zz_if_eq (by omega) zd_14_69_41 (fun c33 => ?_) (fun c33 => ?_)
        · exfalso; omega
        · refine zz_iload (x := v14) rfl zd_14_69_44 ?_
          refine zz_i2l (by omega) zd_14_69_46 ?_
          refine zz_lconst (z := 1) (by decide) zd_14_69_47 ?_
          refine zz_ldc2 (z := 3) zq_Md_416 (by decide) zd_14_69_48 ?_
          refine zz_callSI [zl v14, zl 1, zl 3] zd_14_69_51 zk_Md_192 rfl rfl ⟨Nat.le_of_ble_eq_true rfl, Nat.le_of_ble_eq_true rfl⟩ ⟨rfl, rfl⟩ (Nat.zero_le _) (Nat.zero_le _) (zc_in_14_4 v14 1 3 S0 n hn G_S0 (by omega) (by omega) (by omega)) (fun v35 S34 hP => ?_)
          obtain ⟨rfl, o36, o37⟩ := hP
          rcases (by omega : v35 = 0 ∨ v35 = 1) with rfl | rfl
          · have n38 : v14 < 1 ∨ 3 < v14 := by omega
            clear o37
            refine zz_if_eq (by omega) zd_14_69_54 (fun c39 => ?_) (fun c39 => ?_)
            · refine zz_iconst zd_14_69_86 ?_
              refine zz_istore [some (.ref 1079), some (zi p0), some (zi p1), some (zi p2), some (zi v14), some (zi v15), some (zi 0)] zd_14_69_87 (by decide) rfl ?_
              refine zz_iload (x := 0) rfl zd_14_69_89 ?_
              refine zz_if_eq (by omega) zd_14_69_91 (fun c40 => ?_) (fun c40 => ?_)
              · refine zz_iconst zd_14_69_110 ?_
                refine zz_istore [some (.ref 1079), some (zi p0), some (zi p1), some (zi p2), some (zi v14), some (zi v15), some (zi 0), some (zi 0)] zd_14_69_111 (by decide) rfl ?_
                refine zz_iload (x := 0) rfl zd_14_69_113 ?_
                refine zz_if_eq (by omega) zd_14_69_115 (fun c41 => ?_) (fun c41 => ?_)
                · refine zz_iconst zd_14_69_134 ?_
                  refine zz_istore [some (.ref 1079), some (zi p0), some (zi p1), some (zi p2), some (zi v14), some (zi v15), some (zi 0), some (zi 0), some (zi 0)] zd_14_69_135 (by decide) rfl ?_
                  refine zz_aload_n (x := 1079) rfl zd_14_69_137 ?_
                  refine zz_iconst zd_14_69_138 ?_
                  refine zz_iload (x := 0) rfl zd_14_69_139 ?_
                  refine zz_if_eq (by omega) zd_14_69_141 (fun c42 => ?_) (fun c42 => ?_)
                  · refine zz_iconst zd_14_69_149 ?_
                    refine zz_goto zd_14_69_150 ?_
                    refine zz_iconst zd_14_69_154 ?_
                    refine zz_callVI [zi 0, zi 1, zi 0] zd_14_69_155 zk_Md_196 zT_1079 (zz_ltn hn rfl) rfl rfl ⟨Nat.le_of_ble_eq_true rfl, Nat.le_of_ble_eq_true rfl⟩ ⟨rfl, rfl⟩ (Nat.zero_le _) (Nat.zero_le _) (zc_refuse_14_3 0 1 0 S0 n hn G_S0 (by omega) (by omega) (by omega)) (fun v44 S43 hP => ?_)
                    obtain ⟨G_S43, fS43, o45, o46⟩ := hP
                    have F_S43 := zz_fr.trans F_S0 fS43 rfl zz_nv
                    have R_S43 : zz_Hr S43 := zz_Hr.fr fS43 rfl rfl (fun b j h => h.elim) R_S0
                    rcases (by omega : v44 = 0 ∨ v44 = 1) with rfl | rfl
                    · exfalso; omega
                    · have e47 : S43 1079 0 = 2 := by omega
                      clear o46
                      refine zz_if_eq (by omega) zd_14_69_158 (fun c48 => ?_) (fun c48 => ?_)
                      · exfalso; omega
                      · refine zz_iconst zd_14_69_161 ?_
                        have e49 : S43 1079 36 = S0 1079 36 := (zz_rc fS43 rfl rfl (fun h => h) rfl)
                        exact zz_iret zd_14_69_162 rfl (Nat.zero_le _) (Nat.zero_le _) ⟨_, _, rfl, G_S43, F_S43, by omega, by omega, (fun v hM hV => by have hi8 : (0 ≤ p0 ∧ p0 < S0 1079 36) ∧ 0 ≤ p0 ∧ p0 < S0 1079 36 := (by omega); have h7 := hV.1; have h6 := hM.1; rw [← av14, ← av15]; exact ⟨Or.inr (Or.inl ⟨by omega, (zn_inM hM).mpr hi8, fun h9 => by have c9 := zn_plf av14 av15 h9.1 ((zn_rsM hM hi8).mp h9.2); (try clear bv14); (try clear cv14); (try clear bv15); (try clear cv15); clear h9; omega⟩), fun h => absurd h (by omega), fun _ => (zn_M.fr hM fS43 rfl rfl (fun b j h => h.elim) (by omega))⟩), R_S43⟩
                  · exfalso; omega
                · exfalso; omega
              · exfalso; omega
            · exfalso; omega
          · have n50 : 1 ≤ v14 ∧ v14 ≤ 3 := by omega
            clear o37
            refine zz_if_eq (by omega) zd_14_69_54 (fun c51 => ?_) (fun c51 => ?_)
            · exfalso; omega
            · refine zz_iload (x := v15) rfl zd_14_69_57 ?_
              refine zz_i2l (by omega) zd_14_69_59 ?_
              refine zz_lconst (z := 1) (by decide) zd_14_69_60 ?_
              refine zz_ldc2 (z := 3) zq_Md_416 (by decide) zd_14_69_61 ?_
              refine zz_callSI [zl v15, zl 1, zl 3] zd_14_69_64 zk_Md_192 rfl rfl ⟨Nat.le_of_ble_eq_true rfl, Nat.le_of_ble_eq_true rfl⟩ ⟨rfl, rfl⟩ (Nat.zero_le _) (Nat.zero_le _) (zc_in_14_4 v15 1 3 S0 n hn G_S0 (by omega) (by omega) (by omega)) (fun v53 S52 hP => ?_)
              obtain ⟨rfl, o54, o55⟩ := hP
              rcases (by omega : v53 = 0 ∨ v53 = 1) with rfl | rfl
              · have n56 : v15 < 1 ∨ 3 < v15 := by omega
                clear o55
                refine zz_if_eq (by omega) zd_14_69_67 (fun c57 => ?_) (fun c57 => ?_)
                · refine zz_iconst zd_14_69_86 ?_
                  refine zz_istore [some (.ref 1079), some (zi p0), some (zi p1), some (zi p2), some (zi v14), some (zi v15), some (zi 0)] zd_14_69_87 (by decide) rfl ?_
                  refine zz_iload (x := 0) rfl zd_14_69_89 ?_
                  refine zz_if_eq (by omega) zd_14_69_91 (fun c58 => ?_) (fun c58 => ?_)
                  · refine zz_iconst zd_14_69_110 ?_
                    refine zz_istore [some (.ref 1079), some (zi p0), some (zi p1), some (zi p2), some (zi v14), some (zi v15), some (zi 0), some (zi 0)] zd_14_69_111 (by decide) rfl ?_
                    refine zz_iload (x := 0) rfl zd_14_69_113 ?_
                    refine zz_if_eq (by omega) zd_14_69_115 (fun c59 => ?_) (fun c59 => ?_)
                    · refine zz_iconst zd_14_69_134 ?_
                      refine zz_istore [some (.ref 1079), some (zi p0), some (zi p1), some (zi p2), some (zi v14), some (zi v15), some (zi 0), some (zi 0), some (zi 0)] zd_14_69_135 (by decide) rfl ?_
                      refine zz_aload_n (x := 1079) rfl zd_14_69_137 ?_
                      refine zz_iconst zd_14_69_138 ?_
                      refine zz_iload (x := 0) rfl zd_14_69_139 ?_
                      refine zz_if_eq (by omega) zd_14_69_141 (fun c60 => ?_) (fun c60 => ?_)
                      · refine zz_iconst zd_14_69_149 ?_
                        refine zz_goto zd_14_69_150 ?_
                        refine zz_iconst zd_14_69_154 ?_
                        refine zz_callVI [zi 0, zi 1, zi 0] zd_14_69_155 zk_Md_196 zT_1079 (zz_ltn hn rfl) rfl rfl ⟨Nat.le_of_ble_eq_true rfl, Nat.le_of_ble_eq_true rfl⟩ ⟨rfl, rfl⟩ (Nat.zero_le _) (Nat.zero_le _) (zc_refuse_14_3 0 1 0 S0 n hn G_S0 (by omega) (by omega) (by omega)) (fun v62 S61 hP => ?_)
                        obtain ⟨G_S61, fS61, o63, o64⟩ := hP
                        have F_S61 := zz_fr.trans F_S0 fS61 rfl zz_nv
                        have R_S61 : zz_Hr S61 := zz_Hr.fr fS61 rfl rfl (fun b j h => h.elim) R_S0
                        rcases (by omega : v62 = 0 ∨ v62 = 1) with rfl | rfl
                        · exfalso; omega
                        · have e65 : S61 1079 0 = 2 := by omega
                          clear o64
                          refine zz_if_eq (by omega) zd_14_69_158 (fun c66 => ?_) (fun c66 => ?_)
                          · exfalso; omega
                          · refine zz_iconst zd_14_69_161 ?_
                            have e67 : S61 1079 36 = S0 1079 36 := (zz_rc fS61 rfl rfl (fun h => h) rfl)
                            exact zz_iret zd_14_69_162 rfl (Nat.zero_le _) (Nat.zero_le _) ⟨_, _, rfl, G_S61, F_S61, by omega, by omega, (fun v hM hV => by have hi8 : (0 ≤ p0 ∧ p0 < S0 1079 36) ∧ 0 ≤ p0 ∧ p0 < S0 1079 36 := (by omega); have h7 := hV.1; have h6 := hM.1; rw [← av14, ← av15]; exact ⟨Or.inr (Or.inl ⟨by omega, (zn_inM hM).mpr hi8, fun h9 => by have c9 := zn_plf av14 av15 h9.1 ((zn_rsM hM hi8).mp h9.2); (try clear bv14); (try clear cv14); (try clear bv15); (try clear cv15); clear h9; omega⟩), fun h => absurd h (by omega), fun _ => (zn_M.fr hM fS61 rfl rfl (fun b j h => h.elim) (by omega))⟩), R_S61⟩
                      · exfalso; omega
                    · exfalso; omega
                  · exfalso; omega
                · exfalso; omega
              · have n68 : 1 ≤ v15 ∧ v15 ≤ 3 := by omega
                clear o55
                refine zz_if_eq (by omega) zd_14_69_67 (fun c69 => ?_) (fun c69 => ?_)
                · exfalso; omega
                · refine zz_iload_n (x := p2) rfl zd_14_69_70 ?_
                  refine zz_i2l (by omega) zd_14_69_71 ?_
                  refine zz_lconst (z := 1) (by decide) zd_14_69_72 ?_
                  refine zz_ldc2 (z := 3) zq_Md_416 (by decide) zd_14_69_73 ?_
                  refine zz_callSI [zl p2, zl 1, zl 3] zd_14_69_76 zk_Md_192 rfl rfl ⟨Nat.le_of_ble_eq_true rfl, Nat.le_of_ble_eq_true rfl⟩ ⟨rfl, rfl⟩ (Nat.zero_le _) (Nat.zero_le _) (zc_in_14_4 p2 1 3 S0 n hn G_S0 (by omega) (by omega) (by omega)) (fun v71 S70 hP => ?_)
                  obtain ⟨rfl, o72, o73⟩ := hP
                  rcases (by omega : v71 = 0 ∨ v71 = 1) with rfl | rfl
                  · have n74 : p2 < 1 ∨ 3 < p2 := by omega
                    clear o73
                    refine zz_if_eq (by omega) zd_14_69_79 (fun c75 => ?_) (fun c75 => ?_)
                    · refine zz_iconst zd_14_69_86 ?_
                      refine zz_istore [some (.ref 1079), some (zi p0), some (zi p1), some (zi p2), some (zi v14), some (zi v15), some (zi 0)] zd_14_69_87 (by decide) rfl ?_
                      refine zz_iload (x := 0) rfl zd_14_69_89 ?_
                      refine zz_if_eq (by omega) zd_14_69_91 (fun c76 => ?_) (fun c76 => ?_)
                      · refine zz_iconst zd_14_69_110 ?_
                        refine zz_istore [some (.ref 1079), some (zi p0), some (zi p1), some (zi p2), some (zi v14), some (zi v15), some (zi 0), some (zi 0)] zd_14_69_111 (by decide) rfl ?_
                        refine zz_iload (x := 0) rfl zd_14_69_113 ?_
                        refine zz_if_eq (by omega) zd_14_69_115 (fun c77 => ?_) (fun c77 => ?_)
                        · refine zz_iconst zd_14_69_134 ?_
                          refine zz_istore [some (.ref 1079), some (zi p0), some (zi p1), some (zi p2), some (zi v14), some (zi v15), some (zi 0), some (zi 0), some (zi 0)] zd_14_69_135 (by decide) rfl ?_
                          refine zz_aload_n (x := 1079) rfl zd_14_69_137 ?_
                          refine zz_iconst zd_14_69_138 ?_
                          refine zz_iload (x := 0) rfl zd_14_69_139 ?_
                          refine zz_if_eq (by omega) zd_14_69_141 (fun c78 => ?_) (fun c78 => ?_)
                          · refine zz_iconst zd_14_69_149 ?_
                            refine zz_goto zd_14_69_150 ?_
                            refine zz_iconst zd_14_69_154 ?_
                            refine zz_callVI [zi 0, zi 1, zi 0] zd_14_69_155 zk_Md_196 zT_1079 (zz_ltn hn rfl) rfl rfl ⟨Nat.le_of_ble_eq_true rfl, Nat.le_of_ble_eq_true rfl⟩ ⟨rfl, rfl⟩ (Nat.zero_le _) (Nat.zero_le _) (zc_refuse_14_3 0 1 0 S0 n hn G_S0 (by omega) (by omega) (by omega)) (fun v80 S79 hP => ?_)
                            obtain ⟨G_S79, fS79, o81, o82⟩ := hP
                            have F_S79 := zz_fr.trans F_S0 fS79 rfl zz_nv
                            have R_S79 : zz_Hr S79 := zz_Hr.fr fS79 rfl rfl (fun b j h => h.elim) R_S0
                            rcases (by omega : v80 = 0 ∨ v80 = 1) with rfl | rfl
                            · exfalso; omega
                            · have e83 : S79 1079 0 = 2 := by omega
                              clear o82
                              refine zz_if_eq (by omega) zd_14_69_158 (fun c84 => ?_) (fun c84 => ?_)
                              · exfalso; omega
                              · refine zz_iconst zd_14_69_161 ?_
                                have e85 : S79 1079 36 = S0 1079 36 := (zz_rc fS79 rfl rfl (fun h => h) rfl)
                                exact zz_iret zd_14_69_162 rfl (Nat.zero_le _) (Nat.zero_le _) ⟨_, _, rfl, G_S79, F_S79, by omega, by omega, (fun v hM hV => by have hi8 : (0 ≤ p0 ∧ p0 < S0 1079 36) ∧ 0 ≤ p0 ∧ p0 < S0 1079 36 := (by omega); have h7 := hV.1; have h6 := hM.1; rw [← av14, ← av15]; exact ⟨Or.inr (Or.inl ⟨by omega, (zn_inM hM).mpr hi8, fun h9 => by have c9 := zn_plf av14 av15 h9.1 ((zn_rsM hM hi8).mp h9.2); (try clear bv14); (try clear cv14); (try clear bv15); (try clear cv15); clear h9; omega⟩), fun h => absurd h (by omega), fun _ => (zn_M.fr hM fS79 rfl rfl (fun b j h => h.elim) (by omega))⟩), R_S79⟩
                          · exfalso; omega
                        · exfalso; omega
                      · exfalso; omega
                    · exfalso; omega
                  · have n86 : 1 ≤ p2 ∧ p2 ≤ 3 := by omega
                    clear o73
                    refine zz_if_eq (by omega) zd_14_69_79 (fun c87 => ?_) (fun c87 => ?_)
                    · exfalso; omega
                    · refine zz_iconst zd_14_69_82 ?_
                      refine zz_goto zd_14_69_83 ?_
                      refine zz_istore [some (.ref 1079), some (zi p0), some (zi p1), some (zi p2), some (zi v14), some (zi v15), some (zi 1)] zd_14_69_87 (by decide) rfl ?_
                      refine zz_iload (x := 1) rfl zd_14_69_89 ?_
                      refine zz_if_eq (by omega) zd_14_69_91 (fun c88 => ?_) (fun c88 => ?_)
                      · exfalso; omega
                      · refine zz_aload_n (x := 1079) rfl zd_14_69_94 ?_
                        refine zz_getr (kd := 0) (z := 1102) zd_14_69_95 zf_Md_88 zT_1079 rfl (zz_ltn hn rfl) (zz_G.eq G_S0 1079 37 1102 rfl rfl) (by decide) 1102 rfl ?_
                        refine zz_iload_n (x := p0) rfl zd_14_69_98 ?_
                        have g89 := zz_G.r G_S0 1102 p0.toNat 0 63 rfl rfl
                        refine zz_iald (z := S0 1102 p0.toNat) zd_14_69_99 zT_1102 rfl (zz_ltn hn rfl) (by decide) (by omega) rfl ?_
                        refine zz_iload (x := v14) rfl zd_14_69_100 ?_
                        refine zz_iload_n (x := p2) rfl zd_14_69_102 ?_
                        refine zz_iconst zd_14_69_103 ?_
                        refine zz_callSI [zi (S0 1102 p0.toNat), zi v14, zi p2, zi 0] zd_14_69_104 zk_Md_420 rfl rfl ⟨Nat.le_of_ble_eq_true rfl, Nat.le_of_ble_eq_true rfl⟩ ⟨rfl, rfl⟩ (Nat.zero_le _) (Nat.zero_le _) (zc_resultsOf_14_64 (S0 1102 p0.toNat) v14 p2 0 S0 n hn G_S0 (by omega) (by omega) (by omega) (by omega)) (fun v91 S90 hP => ?_)
                        obtain ⟨rfl, o92, o93, o94, o95⟩ := hP
                        refine zz_goto zd_14_69_107 ?_
                        refine zz_istore [some (.ref 1079), some (zi p0), some (zi p1), some (zi p2), some (zi v14), some (zi v15), some (zi 1), some (zi v91)] zd_14_69_111 (by decide) rfl ?_
                        refine zz_iload (x := 1) rfl zd_14_69_113 ?_
                        refine zz_if_eq (by omega) zd_14_69_115 (fun c96 => ?_) (fun c96 => ?_)
                        · exfalso; omega
                        · refine zz_aload_n (x := 1079) rfl zd_14_69_118 ?_
                          refine zz_getr (kd := 0) (z := 1103) zd_14_69_119 zf_Md_91 zT_1079 rfl (zz_ltn hn rfl) (zz_G.eq G_S0 1079 38 1103 rfl rfl) (by decide) 1103 rfl ?_
                          refine zz_iload_n (x := p0) rfl zd_14_69_122 ?_
                          have g97 := zz_G.r G_S0 1103 p0.toNat 0 63 rfl rfl
                          refine zz_iald (z := S0 1103 p0.toNat) zd_14_69_123 zT_1103 rfl (zz_ltn hn rfl) (by decide) (by omega) rfl ?_
                          refine zz_iload (x := v15) rfl zd_14_69_124 ?_
                          refine zz_iload_n (x := p2) rfl zd_14_69_126 ?_
                          refine zz_iconst zd_14_69_127 ?_
                          refine zz_callSI [zi (S0 1103 p0.toNat), zi v15, zi p2, zi 0] zd_14_69_128 zk_Md_420 rfl rfl ⟨Nat.le_of_ble_eq_true rfl, Nat.le_of_ble_eq_true rfl⟩ ⟨rfl, rfl⟩ (Nat.zero_le _) (Nat.zero_le _) (zc_resultsOf_14_64 (S0 1103 p0.toNat) v15 p2 0 S0 n hn G_S0 (by omega) (by omega) (by omega) (by omega)) (fun v99 S98 hP => ?_)
                          obtain ⟨rfl, o100, o101, o102, o103⟩ := hP
                          refine zz_goto zd_14_69_131 ?_
                          refine zz_istore [some (.ref 1079), some (zi p0), some (zi p1), some (zi p2), some (zi v14), some (zi v15), some (zi 1), some (zi v91), some (zi v99)] zd_14_69_135 (by decide) rfl ?_
                          refine zz_aload_n (x := 1079) rfl zd_14_69_137 ?_
                          refine zz_iconst zd_14_69_138 ?_
                          refine zz_iload (x := v91) rfl zd_14_69_139 ?_
                          refine zz_if_eq (by omega) zd_14_69_141 (fun c104 => ?_) (fun c104 => ?_)
                          · refine zz_iconst zd_14_69_149 ?_
                            refine zz_goto zd_14_69_150 ?_
                            refine zz_iconst zd_14_69_154 ?_
                            refine zz_callVI [zi 0, zi 1, zi 0] zd_14_69_155 zk_Md_196 zT_1079 (zz_ltn hn rfl) rfl rfl ⟨Nat.le_of_ble_eq_true rfl, Nat.le_of_ble_eq_true rfl⟩ ⟨rfl, rfl⟩ (Nat.zero_le _) (Nat.zero_le _) (zc_refuse_14_3 0 1 0 S0 n hn G_S0 (by omega) (by omega) (by omega)) (fun v106 S105 hP => ?_)
                            obtain ⟨G_S105, fS105, o107, o108⟩ := hP
                            have F_S105 := zz_fr.trans F_S0 fS105 rfl zz_nv
                            have R_S105 : zz_Hr S105 := zz_Hr.fr fS105 rfl rfl (fun b j h => h.elim) R_S0
                            rcases (by omega : v106 = 0 ∨ v106 = 1) with rfl | rfl
                            · exfalso; omega
                            · have e109 : S105 1079 0 = 2 := by omega
                              clear o108
                              refine zz_if_eq (by omega) zd_14_69_158 (fun c110 => ?_) (fun c110 => ?_)
                              · exfalso; omega
                              · refine zz_iconst zd_14_69_161 ?_
                                have e111 : S105 1079 36 = S0 1079 36 := (zz_rc fS105 rfl rfl (fun h => h) rfl)
                                exact zz_iret zd_14_69_162 rfl (Nat.zero_le _) (Nat.zero_le _) ⟨_, _, rfl, G_S105, F_S105, by omega, by omega, (fun v hM hV => by have hi8 : (0 ≤ p0 ∧ p0 < S0 1079 36) ∧ 0 ≤ p0 ∧ p0 < S0 1079 36 := (by omega); have h7 := hV.1; have h6 := hM.1; rw [← av14, ← av15]; exact ⟨Or.inr (Or.inl ⟨by omega, (zn_inM hM).mpr hi8, fun h9 => by have c9 := zn_plf av14 av15 h9.1 ((zn_rsM hM hi8).mp h9.2); (try clear bv14); (try clear cv14); (try clear bv15); (try clear cv15); clear h9; omega⟩), fun h => absurd h (by omega), fun _ => (zn_M.fr hM fS105 rfl rfl (fun b j h => h.elim) (by omega))⟩), R_S105⟩
                          · refine zz_iload (x := v99) rfl zd_14_69_144 ?_
                            refine zz_if_ne (by omega) zd_14_69_146 (fun c112 => ?_) (fun c112 => ?_)
                            · refine zz_iconst zd_14_69_153 ?_
                              refine zz_iconst zd_14_69_154 ?_
                              refine zz_callVI [zi 0, zi 0, zi 0] zd_14_69_155 zk_Md_196 zT_1079 (zz_ltn hn rfl) rfl rfl ⟨Nat.le_of_ble_eq_true rfl, Nat.le_of_ble_eq_true rfl⟩ ⟨rfl, rfl⟩ (Nat.zero_le _) (Nat.zero_le _) (zc_refuse_14_3 0 0 0 S0 n hn G_S0 (by omega) (by omega) (by omega)) (fun v114 S113 hP => ?_)
                              obtain ⟨G_S113, fS113, o115, o116⟩ := hP
                              have F_S113 := zz_fr.trans F_S0 fS113 rfl zz_nv
                              have R_S113 : zz_Hr S113 := zz_Hr.fr fS113 rfl rfl (fun b j h => h.elim) R_S0
                              rcases (by omega : v114 = 0 ∨ v114 = 1) with rfl | rfl
                              · have e117 : S113 1079 0 = 0 := by omega
                                clear o116
                                refine zz_if_eq (by omega) zd_14_69_158 (fun c118 => ?_) (fun c118 => ?_)
                                · refine zz_aload_n (x := 1079) rfl zd_14_69_163 ?_
                                  refine zz_geti (z := S0 1079 36) zd_14_69_164 zf_Md_85 zT_1079 rfl (zz_ltn hn rfl) (zz_rc fS113 rfl rfl (fun h => h) rfl) ?_
                                  refine zz_iconst zd_14_69_167 ?_
                                  refine zz_isub zd_14_69_168 ?_
                                  refine zz_istore [some (.ref 1079), some (zi p0), some (zi p1), some (zi p2), some (zi v14), some (zi v15), some (zi 1), some (zi v91), some (zi v99), some (zi ((S0 1079 36) - 1))] zd_14_69_169 (by decide) rfl ?_
                                  refine zz_aload_n (x := 1079) rfl zd_14_69_171 ?_
                                  refine zz_iconst zd_14_69_172 ?_
                                  refine zz_iload_n (x := p0) rfl zd_14_69_173 ?_
                                  refine zz_iload (x := v91) rfl zd_14_69_174 ?_
                                  refine zz_iload (x := v99) rfl zd_14_69_176 ?_
                                  refine zz_aload_n (x := 1079) rfl zd_14_69_178 ?_
                                  refine zz_getr (kd := 0) (z := 1104) zd_14_69_179 zf_Md_94 zT_1079 rfl (zz_ltn hn rfl) (zz_G.eq G_S113 1079 39 1104 rfl rfl) (by decide) 1104 rfl ?_
                                  refine zz_iload_n (x := p0) rfl zd_14_69_182 ?_
                                  have g119 := zz_G.r G_S0 1104 p0.toNat 0 63 rfl rfl
                                  refine zz_iald (z := S0 1104 p0.toNat) zd_14_69_183 zT_1104 rfl (zz_ltn hn rfl) (by decide) (by omega) (zz_rc fS113 (zz_nc1 rfl) rfl (fun h => h) rfl) ?_
                                  have e120 : S113 1079 36 = S0 1079 36 := (zz_rc fS113 rfl rfl (fun h => h) rfl)
                                  have g121 := zz_G.r G_S0 1105 ((S113 1079 36).toNat) (0) (if (S113 1079 36).toNat = 0 then 0 else 10000000) rfl rfl
                                  have e122 : S113 1105 (S113 1079 36).toNat = S0 1105 (S113 1079 36).toNat := (zz_rc fS113 (zz_nc1 rfl) rfl (fun h => h) rfl)
                                  refine zz_callVI [zi 1, zi p0, zi v91, zi v99, zi (S0 1104 p0.toNat)] zd_14_69_184 zk_Md_426 zT_1079 (zz_ltn hn rfl) rfl rfl ⟨Nat.le_of_ble_eq_true rfl, Nat.le_of_ble_eq_true rfl⟩ ⟨rfl, rfl⟩ (Nat.zero_le _) (Nat.zero_le _) (zc_add_14_65 1 p0 v91 v99 (S0 1104 p0.toNat) S113 n hn G_S113 (by omega) (by omega) (by omega) (by omega) (by omega) (by omega)) (fun v124 S123 hP => ?_)
                                  obtain ⟨G_S123, fS123, o125, o126, o127, o128, o129, o130, o131⟩ := hP
                                  rw [show S113 1079 36 = S0 1079 36 from (zz_rc fS113 rfl rfl (fun h => h) rfl)] at o126
                                  rw [show S113 1079 36 = S0 1079 36 from (zz_rc fS113 rfl rfl (fun h => h) rfl)] at o128
                                  rw [show S113 1079 36 = S0 1079 36 from (zz_rc fS113 rfl rfl (fun h => h) rfl)] at o130
                                  rw [show S113 1079 36 = S0 1079 36 from (zz_rc fS113 rfl rfl (fun h => h) rfl)] at o131
                                  rw [show S113 1079 36 = S0 1079 36 from (zz_rc fS113 rfl rfl (fun h => h) rfl)] at fS123
                                  have F_S123 := zz_fr.trans F_S113 fS123 rfl (fun a i h => by rcases h with h | h | h | h | h | h; exact Or.inr (Or.inr (Or.inl h)); exact Or.inr (Or.inr (Or.inr (Or.inl h))); exact Or.inr (Or.inr (Or.inr (Or.inr (Or.inl h)))); exact Or.inr (Or.inr (Or.inr (Or.inr (Or.inr (Or.inl h))))); exact Or.inr (Or.inr (Or.inr (Or.inr (Or.inr (Or.inr (Or.inl h)))))); exact Or.inr (Or.inr (Or.inr (Or.inr (Or.inr (Or.inr (Or.inr (Or.inl h))))))))
                                  refine zz_istore [some (.ref 1079), some (zi p0), some (zi p1), some (zi p2), some (zi v14), some (zi v15), some (zi 1), some (zi v91), some (zi v99), some (zi ((S0 1079 36) - 1)), some (zi v124)] zd_14_69_187 (by decide) rfl ?_
                                  refine zz_aload_n (x := 1079) rfl zd_14_69_189 ?_
                                  have g132 := zz_G.r G_S123 1079 0 0 3 rfl rfl
                                  refine zz_geti (z := S123 1079 0) zd_14_69_190 zf_Md_187 zT_1079 rfl (zz_ltn hn rfl) rfl ?_
                                  refine zz_if_le (by omega) zd_14_69_193 (fun c133 => ?_) (fun c133 => ?_)
                                  · refine zz_aload_n (x := 1079) rfl zd_14_69_198 ?_
                                    refine zz_iload (x := (S0 1079 36) - 1) rfl zd_14_69_199 ?_
                                    refine zz_iload (x := v14) rfl zd_14_69_201 ?_
                                    refine zz_iload (x := v15) rfl zd_14_69_203 ?_
                                    refine zz_iload_n (x := p2) rfl zd_14_69_205 ?_
                                    refine zz_iconst zd_14_69_206 ?_
                                    refine zz_iconst zd_14_69_207 ?_
                                    refine zz_callVV [zi ((S0 1079 36) - 1), zi v14, zi v15, zi p2, zi 0, zi 0] zd_14_69_208 zk_Md_430 zT_1079 (zz_ltn hn rfl) rfl rfl ⟨Nat.le_of_ble_eq_true rfl, Nat.le_of_ble_eq_true rfl⟩ ⟨rfl, rfl⟩ (Nat.zero_le _) (Nat.zero_le _) (zc_setLayer_14_68 ((S0 1079 36) - 1) v14 v15 p2 0 0 S123 n hn G_S123 (by omega) (by omega) (by omega) (by omega) (by omega) (by omega)) (fun S134 hP => ?_)
                                    obtain ⟨G_S134, fS134, o136⟩ := hP
                                    have F_S134 := zz_fr.trans F_S123 fS134 rfl (fun a i h => by rcases h with h | h | h | h | h; exact Or.inr (Or.inr (Or.inr (Or.inr (Or.inr (Or.inr (Or.inr (Or.inr (Or.inl h)))))))); exact Or.inr (Or.inr (Or.inr (Or.inr (Or.inr (Or.inr (Or.inr (Or.inr (Or.inr (Or.inl h))))))))); exact Or.inr (Or.inr (Or.inr (Or.inr (Or.inr (Or.inr (Or.inr (Or.inr (Or.inr (Or.inr (Or.inl h)))))))))); exact Or.inr (Or.inr (Or.inr (Or.inr (Or.inr (Or.inr (Or.inr (Or.inr (Or.inr (Or.inr (Or.inr (Or.inl h))))))))))); exact Or.inr (Or.inr (Or.inr (Or.inr (Or.inr (Or.inr (Or.inr (Or.inr (Or.inr (Or.inr (Or.inr (Or.inr (h)))))))))))))
                                    refine zz_iload (x := v124) rfl zd_14_69_211 ?_
                                    have g137 := zz_G.r G_S123 1079 36 0 11 rfl rfl
                                    have e138 : S134 1079 36 = S123 1079 36 := (zz_rc fS134 rfl rfl (by first | decide | (intro h; rcases h with h | h | h | h | h; exact absurd h.1 (by decide); exact absurd h.1 (by decide); exact absurd h.1 (by decide); exact absurd h.1 (by decide); exact absurd h.1 (by decide)) | omega) rfl)
                                    have e139 : S134 1079 0 = S123 1079 0 := (zz_rc fS134 rfl rfl (by first | decide | (intro h; rcases h with h | h | h | h | h; exact absurd h.1 (by decide); exact absurd h.1 (by decide); exact absurd h.1 (by decide); exact absurd h.1 (by decide); exact absurd h.1 (by decide)) | omega) rfl)
                                    have ha9 := o128 (by omega)
                                    have ht9 := R_S0.1 p0.toNat (by omega)
                                    unfold zz_tn at ht9
                                    have g140 := zz_G.r G_S0 1105 ((S0 1079 36).toNat) (0) (if (S0 1079 36).toNat = 0 then 0 else 10000000) rfl rfl
                                    have e141 : S113 1105 (S0 1079 36).toNat = S0 1105 (S0 1079 36).toNat := (zz_rc fS113 (zz_nc1 rfl) rfl (fun h => h) rfl)
                                    have g142 := zz_G.r G_S123 1102 ((S0 1079 36).toNat) 0 63 rfl rfl
                                    have e143 : S134 1102 (S0 1079 36).toNat = S123 1102 (S0 1079 36).toNat := (zz_rc fS134 (zz_nc1 rfl) rfl (by first | decide | (intro h; rcases h with h | h | h | h | h; exact absurd h.1 (by decide); exact absurd h.1 (by decide); exact absurd h.1 (by decide); exact absurd h.1 (by decide); exact absurd h.1 (by decide)) | omega) rfl)
                                    have g144 := zz_G.r G_S123 1103 ((S0 1079 36).toNat) 0 63 rfl rfl
                                    have e145 : S134 1103 (S0 1079 36).toNat = S123 1103 (S0 1079 36).toNat := (zz_rc fS134 (zz_nc1 rfl) rfl (by first | decide | (intro h; rcases h with h | h | h | h | h; exact absurd h.1 (by decide); exact absurd h.1 (by decide); exact absurd h.1 (by decide); exact absurd h.1 (by decide); exact absurd h.1 (by decide)) | omega) rfl)
                                    have g146 := zz_G.r G_S123 1104 ((S0 1079 36).toNat) 0 63 rfl rfl
                                    have e147 : S134 1104 (S0 1079 36).toNat = S123 1104 (S0 1079 36).toNat := (zz_rc fS134 (zz_nc1 rfl) rfl (by first | decide | (intro h; rcases h with h | h | h | h | h; exact absurd h.1 (by decide); exact absurd h.1 (by decide); exact absurd h.1 (by decide); exact absurd h.1 (by decide); exact absurd h.1 (by decide)) | omega) rfl)
                                    have g148 := zz_G.r G_S123 1105 ((S0 1079 36).toNat) (0) (if (S0 1079 36).toNat = 0 then 0 else 10000000) rfl rfl
                                    have e149 : S134 1105 (S0 1079 36).toNat = S123 1105 (S0 1079 36).toNat := (zz_rc fS134 (zz_nc1 rfl) rfl (by first | decide | (intro h; rcases h with h | h | h | h | h; exact absurd h.1 (by decide); exact absurd h.1 (by decide); exact absurd h.1 (by decide); exact absurd h.1 (by decide); exact absurd h.1 (by decide)) | omega) rfl)
                                    have g150 := zz_G.r G_S123 1106 ((S0 1079 36 - 1).toNat) 0 2 rfl rfl
                                    have e151 : S134 1106 (S0 1079 36 - 1).toNat = S123 1106 (S0 1079 36 - 1).toNat := (zz_rc fS134 (zz_nc1 rfl) rfl (by first | decide | (intro h; rcases h with h | h | h | h | h; exact absurd h.1 (by decide); exact absurd h.1 (by decide); exact absurd h.1 (by decide); exact absurd h.1 (by decide); exact absurd h.1 (by decide)) | omega) rfl)
                                    have g152 := zz_G.r G_S123 1107 ((S0 1079 36 - 1).toNat) 0 10 rfl rfl
                                    have e153 : S134 1107 (S0 1079 36 - 1).toNat = S123 1107 (S0 1079 36 - 1).toNat := (zz_rc fS134 (zz_nc1 rfl) rfl (by first | decide | (intro h; rcases h with h | h | h | h | h; exact absurd h.1 (by decide); exact absurd h.1 (by decide); exact absurd h.1 (by decide); exact absurd h.1 (by decide); exact absurd h.1 (by decide)) | omega) rfl)
                                    have g154 := zz_G.r G_S0 1108 ((S0 1079 36 - 1).toNat) 0 10 rfl rfl
                                    have e155 : S134 1108 (S0 1079 36 - 1).toNat = S0 1108 (S0 1079 36 - 1).toNat := (zz_rc fS134 (zz_nc1 rfl) rfl (by first | decide | (intro h; rcases h with h | h | h | h | h; exact absurd h.1 (by decide); exact absurd h.1 (by decide); exact absurd h.1 (by decide); exact absurd h.1 (by decide); exact absurd h.1 (by decide)) | omega) (zz_rc fS123 (zz_nc1 rfl) rfl (by first | decide | (intro h; rcases h with h | h | h | h | h | h; exact absurd h.1 (by decide); exact absurd h.1 (by decide); exact absurd h.1 (by decide); exact absurd h.1 (by decide); exact absurd h.1 (by decide); exact absurd h.1 (by decide)) | omega) (zz_rc fS113 (zz_nc1 rfl) rfl (fun h => h) rfl)))
                                    have g156 := zz_G.r G_S134 1109 ((S0 1079 36 - 1).toNat) 0 3 rfl rfl
                                    have g157 := zz_G.r G_S134 1110 ((S0 1079 36 - 1).toNat) 0 3 rfl rfl
                                    have g158 := zz_G.r G_S134 1111 ((S0 1079 36 - 1).toNat) 0 3 rfl rfl
                                    have g159 := zz_G.r G_S0 1114 ((S0 1079 36 - 1).toNat) 0 4096 rfl rfl
                                    have e160 : S134 1114 (S0 1079 36 - 1).toNat = S0 1114 (S0 1079 36 - 1).toNat := (zz_rc fS134 (zz_nc1 rfl) rfl (by first | decide | (intro h; rcases h with h | h | h | h | h; exact absurd h.1 (by decide); exact absurd h.1 (by decide); exact absurd h.1 (by decide); exact absurd h.1 (by decide); exact absurd h.1 (by decide)) | omega) (zz_rc fS123 (zz_nc1 rfl) rfl (by first | decide | (intro h; rcases h with h | h | h | h | h | h; exact absurd h.1 (by decide); exact absurd h.1 (by decide); exact absurd h.1 (by decide); exact absurd h.1 (by decide); exact absurd h.1 (by decide); exact absurd h.1 (by decide)) | omega) (zz_rc fS113 (zz_nc1 rfl) rfl (fun h => h) rfl)))
                                    have g161 := zz_G.r G_S123 1105 ((S0 1079 36 + 1).toNat) (0) (if (S0 1079 36 + 1).toNat = 0 then 0 else 10000000) rfl rfl
                                    have e162 : S134 1105 (S0 1079 36 + 1).toNat = S123 1105 (S0 1079 36 + 1).toNat := (zz_rc fS134 (zz_nc1 rfl) rfl (by first | decide | (intro h; rcases h with h | h | h | h | h; exact absurd h.1 (by decide); exact absurd h.1 (by decide); exact absurd h.1 (by decide); exact absurd h.1 (by decide); exact absurd h.1 (by decide)) | omega) rfl)
                                    have g163 := zz_G.r G_S134 1112 ((S0 1079 36 - 1).toNat) 0 1 rfl rfl
                                    have g164 := zz_G.r G_S134 1113 ((S0 1079 36 - 1).toNat) 0 31 rfl rfl
                                    exact zz_iret zd_14_69_213 rfl (Nat.zero_le _) (Nat.zero_le _) ⟨_, _, rfl, G_S134, F_S134, by omega, by omega, (fun v hM hV => by have hi8 : (0 ≤ p0 ∧ p0 < S0 1079 36) ∧ 0 ≤ p0 ∧ p0 < S0 1079 36 := (by omega); have h7 := hV.1; have h6 := hM.1; rw [← av14, ← av15]; have q1 : zn_out 2 v14 p2 0 (S0 1102 p0.toNat) = v91 := (zn_o2 ..).trans (by omega); have q2 : zn_out 2 v15 p2 0 (S0 1103 p0.toNat) = v99 := (zn_o2 ..).trans (by omega); have q4 : zn_ch 2 1 (S0 1104 p0.toNat) = S0 1104 p0.toNat := zn_c2 ..; have q5 := zn_nzM (K := 2) (kh := v14) (kw := v15) (st := p2) (ed := 0) (ch := 1) hM hi8.1.1 hi8.1.2; rw [q1, q2, q4] at q5; have q6 : S0 1105 (S0 1079 36).toNat = v 15 1 := (by rw [hM.1]; exact hM.2.1); have q7 : S113 1105 (S0 1079 36).toNat = S0 1105 (S0 1079 36).toNat := fS113 1105 (S0 1079 36).toNat rfl rfl (fun h => h); have q8 := o131 (by omega); exact ⟨Or.inr (Or.inr (Or.inr ⟨by omega, (zn_inM hM).mpr hi8, (Or.inr ⟨by decide, ⟨by omega, by omega⟩, ⟨by omega, by omega⟩, Or.inl ⟨rfl, by omega, by omega⟩⟩), ((zn_rsM hM hi8).mpr (Or.inr ⟨by decide, by omega, by omega, Or.inl rfl, by omega, by omega⟩)), by omega, by omega⟩)), fun _ => ⟨by omega, fun nm => zn_M.up (T := (S0 1079 36).toNat) hM F_S134 rfl rfl (fun a i h => by omega) (by omega) (by omega) (by omega) hi8.1.1 hi8.1.2 (by rw [q1]; omega) (by rw [q2]; omega) (by rw [q4]; omega) (by rw [show (S0 1079 36).toNat + 1 = (S0 1079 36 + 1).toNat by omega, q1, q2, q4]; omega) (by rw [show (S0 1079 36).toNat - 1 = (S0 1079 36 - 1).toNat by omega]; exact (show S134 1106 (S0 1079 36 - 1).toNat = 1 by omega)) (by rw [show (S0 1079 36).toNat - 1 = (S0 1079 36 - 1).toNat by omega]; exact (show S134 1107 (S0 1079 36 - 1).toNat = p0 by omega)) (fun h => absurd h (by decide)) (by rw [show (S0 1079 36).toNat - 1 = (S0 1079 36 - 1).toNat by omega]; exact (show S134 1109 (S0 1079 36 - 1).toNat = v14 by omega)) (by rw [show (S0 1079 36).toNat - 1 = (S0 1079 36 - 1).toNat by omega]; exact (show S134 1110 (S0 1079 36 - 1).toNat = v15 by omega)) (by rw [show (S0 1079 36).toNat - 1 = (S0 1079 36 - 1).toNat by omega]; exact (show S134 1111 (S0 1079 36 - 1).toNat = p2 by omega)) (by rw [show (S0 1079 36).toNat - 1 = (S0 1079 36 - 1).toNat by omega]; exact (show S134 1112 (S0 1079 36 - 1).toNat = 0 by omega)) (by rw [show (S0 1079 36).toNat - 1 = (S0 1079 36 - 1).toNat by omega]; omega) (fun h => absurd h (by decide))⟩, fun h => absurd (show S134 1079 0 = 0 by omega) h⟩), (zz_Hr.add (T := (S0 1079 36).toNat) (l := (S0 1079 36 - 1).toNat) F_S134 rfl rfl (fun a i h => by omega) R_S0 (by omega) (by omega) (by omega) (by unfold zz_tn zz_sz; rw [show S134 1102 (S0 1079 36).toNat = v91 by omega, show S134 1103 (S0 1079 36).toNat = v99 by omega, show S134 1104 (S0 1079 36).toNat = S0 1104 p0.toNat by omega, show S134 1105 (S0 1079 36).toNat = S0 1105 (S0 1079 36).toNat by omega]; omega) (by unfold zz_la; rw [show S134 1106 (S0 1079 36 - 1).toNat = 1 by omega, show S134 1107 (S0 1079 36 - 1).toNat = p0 by omega, show S134 1109 (S0 1079 36 - 1).toNat = v14 by omega, show S134 1110 (S0 1079 36 - 1).toNat = v15 by omega, show S134 1111 (S0 1079 36 - 1).toNat = p2 by omega, show S134 1102 ((S0 1079 36 - 1).toNat + 1) = v91 by rw [show (S0 1079 36 - 1).toNat + 1 = (S0 1079 36).toNat by omega]; omega, show S134 1103 ((S0 1079 36 - 1).toNat + 1) = v99 by rw [show (S0 1079 36 - 1).toNat + 1 = (S0 1079 36).toNat by omega]; omega, show S134 1104 ((S0 1079 36 - 1).toNat + 1) = S0 1104 p0.toNat by rw [show (S0 1079 36 - 1).toNat + 1 = (S0 1079 36).toNat by omega]; omega, show S134 1102 p0.toNat = S0 1102 p0.toNat from F_S134 1102 p0.toNat (zz_nc1 rfl) rfl (by omega), show S134 1103 p0.toNat = S0 1103 p0.toNat from F_S134 1103 p0.toNat (zz_nc1 rfl) rfl (by omega), show S134 1104 p0.toNat = S0 1104 p0.toNat from F_S134 1104 p0.toNat (zz_nc1 rfl) rfl (by omega)]; exact ⟨by omega, fun h => absurd h (by decide), fun _ => ⟨by omega, by omega, by omega, by omega⟩, fun h => absurd h (by decide)⟩))⟩
                                  · refine zz_iconst zd_14_69_196 ?_
                                    have g165 := zz_G.r G_S123 1079 36 0 11 rfl rfl
                                    exact zz_iret zd_14_69_197 rfl (Nat.zero_le _) (Nat.zero_le _) ⟨_, _, rfl, G_S123, F_S123, by omega, by omega, (fun v hM hV => by have hi8 : (0 ≤ p0 ∧ p0 < S0 1079 36) ∧ 0 ≤ p0 ∧ p0 < S0 1079 36 := (by omega); have h7 := hV.1; have h6 := hM.1; rw [← av14, ← av15]; have q1 : zn_out 2 v14 p2 0 (S0 1102 p0.toNat) = v91 := (zn_o2 ..).trans (by omega); have q2 : zn_out 2 v15 p2 0 (S0 1103 p0.toNat) = v99 := (zn_o2 ..).trans (by omega); have q4 : zn_ch 2 1 (S0 1104 p0.toNat) = S0 1104 p0.toNat := zn_c2 ..; have q5 := zn_nzM (K := 2) (kh := v14) (kw := v15) (st := p2) (ed := 0) (ch := 1) hM hi8.1.1 hi8.1.2; rw [q1, q2, q4] at q5; have q6 : S0 1105 (S0 1079 36).toNat = v 15 1 := (by rw [hM.1]; exact hM.2.1); have q7 : S113 1105 (S0 1079 36).toNat = S0 1105 (S0 1079 36).toNat := fS113 1105 (S0 1079 36).toNat rfl rfl (fun h => h); have q8 := o130 (by omega); exact ⟨Or.inr (Or.inr (Or.inl ⟨by omega, (zn_inM hM).mpr hi8, (Or.inr ⟨by decide, ⟨by omega, by omega⟩, ⟨by omega, by omega⟩, Or.inl ⟨rfl, by omega, by omega⟩⟩), ((zn_rsM hM hi8).mpr (Or.inr ⟨by decide, by omega, by omega, Or.inl rfl, by omega, by omega⟩)), fun h9 => by omega⟩)), fun h => absurd h (by omega), fun _ => o129 (by omega) v (zn_M.fr hM fS113 rfl rfl (fun b j h => h.elim) (by omega))⟩), (o127 (by omega) R_S113)⟩
                                · exfalso; omega
                              · exfalso; omega
                            · refine zz_iconst zd_14_69_149 ?_
                              refine zz_goto zd_14_69_150 ?_
                              refine zz_iconst zd_14_69_154 ?_
                              refine zz_callVI [zi 0, zi 1, zi 0] zd_14_69_155 zk_Md_196 zT_1079 (zz_ltn hn rfl) rfl rfl ⟨Nat.le_of_ble_eq_true rfl, Nat.le_of_ble_eq_true rfl⟩ ⟨rfl, rfl⟩ (Nat.zero_le _) (Nat.zero_le _) (zc_refuse_14_3 0 1 0 S0 n hn G_S0 (by omega) (by omega) (by omega)) (fun v167 S166 hP => ?_)
                              obtain ⟨G_S166, fS166, o168, o169⟩ := hP
                              have F_S166 := zz_fr.trans F_S0 fS166 rfl zz_nv
                              have R_S166 : zz_Hr S166 := zz_Hr.fr fS166 rfl rfl (fun b j h => h.elim) R_S0
                              rcases (by omega : v167 = 0 ∨ v167 = 1) with rfl | rfl
                              · exfalso; omega
                              · have e170 : S166 1079 0 = 2 := by omega
                                clear o169
                                refine zz_if_eq (by omega) zd_14_69_158 (fun c171 => ?_) (fun c171 => ?_)
                                · exfalso; omega
                                · refine zz_iconst zd_14_69_161 ?_
                                  have e172 : S166 1079 36 = S0 1079 36 := (zz_rc fS166 rfl rfl (fun h => h) rfl)
                                  exact zz_iret zd_14_69_162 rfl (Nat.zero_le _) (Nat.zero_le _) ⟨_, _, rfl, G_S166, F_S166, by omega, by omega, (fun v hM hV => by have hi8 : (0 ≤ p0 ∧ p0 < S0 1079 36) ∧ 0 ≤ p0 ∧ p0 < S0 1079 36 := (by omega); have h7 := hV.1; have h6 := hM.1; rw [← av14, ← av15]; exact ⟨Or.inr (Or.inl ⟨by omega, (zn_inM hM).mpr hi8, fun h9 => by have c9 := zn_plf av14 av15 h9.1 ((zn_rsM hM hi8).mp h9.2); (try clear bv14); (try clear cv14); (try clear bv15); (try clear cv15); clear h9; omega⟩), fun h => absurd h (by omega), fun _ => (zn_M.fr hM fS166 rfl rfl (fun b j h => h.elim) (by omega))⟩), R_S166⟩
    · exfalso; omega
abbrev zy_addition_14_70 : mm_Y := (⟨"TensorForgeModel", "addition", "(III)I"⟩, prog_14_method_70_code, 7, (some .int))
theorem zyw_addition_14_70 : mm_Yw zy_addition_14_70 3 := ⟨mm_tb_1 2108 (by decide +kernel) rfl, mm_tb_1 12 (by decide +kernel) rfl, ⟨by decide, by decide⟩, by decide +kernel⟩
theorem zf_Md_106 : mm_Fl "TensorForgeModel" 106 11 43 (.array .int) true := ⟨R_Md, F_Md, 69, t_Md, rfl, i_Md, by decide, mm_tb_1 1654 (by decide +kernel) rfl, rfl, t_Md_ok, n_Md, rfl, by decide +kernel⟩
theorem zg_14_70_0 : zq_at zy_addition_14_70.2.1 0 42 ∧ zq_at zy_addition_14_70.2.1 1 27 ∧ zq_at zy_addition_14_70.2.1 2 182 ∧ zq_at zy_addition_14_70.2.1 3 1 ∧ zq_at zy_addition_14_70.2.1 4 155 ∧ zq_at zy_addition_14_70.2.1 5 153 ∧ zq_at zy_addition_14_70.2.1 6 0 ∧ zq_at zy_addition_14_70.2.1 7 11 ∧ zq_at zy_addition_14_70.2.1 16 42 ∧ zq_at zy_addition_14_70.2.1 17 4 ∧ zq_at zy_addition_14_70.2.1 18 3 ∧ zq_at zy_addition_14_70.2.1 19 3 ∧ zq_at zy_addition_14_70.2.1 20 182 ∧ zq_at zy_addition_14_70.2.1 21 0 ∧ zq_at zy_addition_14_70.2.1 22 196 ∧ zq_at zy_addition_14_70.2.1 23 87 ∧ zq_at zy_addition_14_70.2.1 24 3 ∧ zq_at zy_addition_14_70.2.1 25 172 ∧ zq_at zy_addition_14_70.2.1 8 42 ∧ zq_at zy_addition_14_70.2.1 9 28 ∧ zq_at zy_addition_14_70.2.1 10 182 ∧ zq_at zy_addition_14_70.2.1 11 1 ∧ zq_at zy_addition_14_70.2.1 12 155 := by decide +kernel
theorem zd_14_70_0 : zz_D zy_addition_14_70 0 (.aload_n 0) 1 1 := ⟨zq_42 zg_14_70_0.1, rfl⟩
theorem zd_14_70_1 : zz_D zy_addition_14_70 1 (.iload_n 1) 1 2 := ⟨zq_27 zg_14_70_0.2.1, rfl⟩
theorem zd_14_70_2 : zz_D zy_addition_14_70 2 (.invokevirtual 411) 3 5 := ⟨zq_182 zg_14_70_0.2.2.1 zg_14_70_0.2.2.2.1 zg_14_70_0.2.2.2.2.1 rfl, rfl⟩
theorem zd_14_70_5 : zz_B zy_addition_14_70 5 (Instr.ifCond .eq) 16 8 := ⟨11, zq_153 zg_14_70_0.2.2.2.2.2.1 zg_14_70_0.2.2.2.2.2.2.1 zg_14_70_0.2.2.2.2.2.2.2.1 (by decide), rfl, rfl⟩
theorem zd_14_70_16 : zz_D zy_addition_14_70 16 (.aload_n 0) 1 17 := ⟨zq_42 zg_14_70_0.2.2.2.2.2.2.2.2.1, rfl⟩
theorem zd_14_70_17 : zz_D zy_addition_14_70 17 (.iconst 1) 1 18 := ⟨zq_4 zg_14_70_0.2.2.2.2.2.2.2.2.2.1, rfl⟩
theorem zd_14_70_18 : zz_D zy_addition_14_70 18 (.iconst 0) 1 19 := ⟨zq_3 zg_14_70_0.2.2.2.2.2.2.2.2.2.2.1, rfl⟩
theorem zd_14_70_19 : zz_D zy_addition_14_70 19 (.iconst 0) 1 20 := ⟨zq_3 zg_14_70_0.2.2.2.2.2.2.2.2.2.2.2.1, rfl⟩
theorem zd_14_70_20 : zz_D zy_addition_14_70 20 (.invokevirtual 196) 3 23 := ⟨zq_182 zg_14_70_0.2.2.2.2.2.2.2.2.2.2.2.2.1 zg_14_70_0.2.2.2.2.2.2.2.2.2.2.2.2.2.1 zg_14_70_0.2.2.2.2.2.2.2.2.2.2.2.2.2.2.1 rfl, rfl⟩
theorem zd_14_70_23 : zz_D zy_addition_14_70 23 (.pop) 1 24 := ⟨zq_87 zg_14_70_0.2.2.2.2.2.2.2.2.2.2.2.2.2.2.2.1, rfl⟩
theorem zd_14_70_24 : zz_D zy_addition_14_70 24 (.iconst 0) 1 25 := ⟨zq_3 zg_14_70_0.2.2.2.2.2.2.2.2.2.2.2.2.2.2.2.2.1, rfl⟩
theorem zd_14_70_25 : zz_D zy_addition_14_70 25 (.ireturn) 1 26 := ⟨zq_172 zg_14_70_0.2.2.2.2.2.2.2.2.2.2.2.2.2.2.2.2.2.1, rfl⟩
theorem zd_14_70_8 : zz_D zy_addition_14_70 8 (.aload_n 0) 1 9 := ⟨zq_42 zg_14_70_0.2.2.2.2.2.2.2.2.2.2.2.2.2.2.2.2.2.2.1, rfl⟩
theorem zd_14_70_9 : zz_D zy_addition_14_70 9 (.iload_n 2) 1 10 := ⟨zq_28 zg_14_70_0.2.2.2.2.2.2.2.2.2.2.2.2.2.2.2.2.2.2.2.1, rfl⟩
theorem zd_14_70_10 : zz_D zy_addition_14_70 10 (.invokevirtual 411) 3 13 := ⟨zq_182 zg_14_70_0.2.2.2.2.2.2.2.2.2.2.2.2.2.2.2.2.2.2.2.2.1 zg_14_70_0.2.2.2.2.2.2.2.2.2.2.2.2.2.2.2.2.2.2.2.2.2.1 zg_14_70_0.2.2.2.2.2.2.2.2.2.2.2.2.2.2.2.2.2.2.2.2.2.2 rfl, rfl⟩
theorem zg_14_70_13 : zq_at zy_addition_14_70.2.1 13 154 ∧ zq_at zy_addition_14_70.2.1 14 0 ∧ zq_at zy_addition_14_70.2.1 15 13 ∧ zq_at zy_addition_14_70.2.1 26 42 ∧ zq_at zy_addition_14_70.2.1 27 180 ∧ zq_at zy_addition_14_70.2.1 28 0 ∧ zq_at zy_addition_14_70.2.1 29 88 ∧ zq_at zy_addition_14_70.2.1 30 27 ∧ zq_at zy_addition_14_70.2.1 31 46 ∧ zq_at zy_addition_14_70.2.1 32 42 ∧ zq_at zy_addition_14_70.2.1 33 180 ∧ zq_at zy_addition_14_70.2.1 34 0 ∧ zq_at zy_addition_14_70.2.1 35 88 ∧ zq_at zy_addition_14_70.2.1 36 28 ∧ zq_at zy_addition_14_70.2.1 37 46 ∧ zq_at zy_addition_14_70.2.1 38 160 ∧ zq_at zy_addition_14_70.2.1 39 0 ∧ zq_at zy_addition_14_70.2.1 40 37 ∧ zq_at zy_addition_14_70.2.1 75 3 ∧ zq_at zy_addition_14_70.2.1 76 54 ∧ zq_at zy_addition_14_70.2.1 77 4 ∧ zq_at zy_addition_14_70.2.1 78 42 ∧ zq_at zy_addition_14_70.2.1 79 3 := by decide +kernel
theorem zd_14_70_13 : zz_B zy_addition_14_70 13 (Instr.ifCond .ne) 26 16 := ⟨13, zq_154 zg_14_70_13.1 zg_14_70_13.2.1 zg_14_70_13.2.2.1 (by decide), rfl, rfl⟩
theorem zd_14_70_26 : zz_D zy_addition_14_70 26 (.aload_n 0) 1 27 := ⟨zq_42 zg_14_70_13.2.2.2.1, rfl⟩
theorem zd_14_70_27 : zz_D zy_addition_14_70 27 (.getfield 88) 3 30 := ⟨zq_180 zg_14_70_13.2.2.2.2.1 zg_14_70_13.2.2.2.2.2.1 zg_14_70_13.2.2.2.2.2.2.1 rfl, rfl⟩
theorem zd_14_70_30 : zz_D zy_addition_14_70 30 (.iload_n 1) 1 31 := ⟨zq_27 zg_14_70_13.2.2.2.2.2.2.2.1, rfl⟩
theorem zd_14_70_31 : zz_D zy_addition_14_70 31 (.iaload) 1 32 := ⟨zq_46 zg_14_70_13.2.2.2.2.2.2.2.2.1, rfl⟩
theorem zd_14_70_32 : zz_D zy_addition_14_70 32 (.aload_n 0) 1 33 := ⟨zq_42 zg_14_70_13.2.2.2.2.2.2.2.2.2.1, rfl⟩
theorem zd_14_70_33 : zz_D zy_addition_14_70 33 (.getfield 88) 3 36 := ⟨zq_180 zg_14_70_13.2.2.2.2.2.2.2.2.2.2.1 zg_14_70_13.2.2.2.2.2.2.2.2.2.2.2.1 zg_14_70_13.2.2.2.2.2.2.2.2.2.2.2.2.1 rfl, rfl⟩
theorem zd_14_70_36 : zz_D zy_addition_14_70 36 (.iload_n 2) 1 37 := ⟨zq_28 zg_14_70_13.2.2.2.2.2.2.2.2.2.2.2.2.2.1, rfl⟩
theorem zd_14_70_37 : zz_D zy_addition_14_70 37 (.iaload) 1 38 := ⟨zq_46 zg_14_70_13.2.2.2.2.2.2.2.2.2.2.2.2.2.2.1, rfl⟩
theorem zd_14_70_38 : zz_B zy_addition_14_70 38 (Instr.if_icmp .ne) 75 41 := ⟨37, zq_160 zg_14_70_13.2.2.2.2.2.2.2.2.2.2.2.2.2.2.2.1 zg_14_70_13.2.2.2.2.2.2.2.2.2.2.2.2.2.2.2.2.1 zg_14_70_13.2.2.2.2.2.2.2.2.2.2.2.2.2.2.2.2.2.1 (by decide), rfl, rfl⟩
theorem zd_14_70_75 : zz_D zy_addition_14_70 75 (.iconst 0) 1 76 := ⟨zq_3 zg_14_70_13.2.2.2.2.2.2.2.2.2.2.2.2.2.2.2.2.2.2.1, rfl⟩
theorem zd_14_70_76 : zz_D zy_addition_14_70 76 (.istore 4) 2 78 := ⟨zq_54 zg_14_70_13.2.2.2.2.2.2.2.2.2.2.2.2.2.2.2.2.2.2.2.1 zg_14_70_13.2.2.2.2.2.2.2.2.2.2.2.2.2.2.2.2.2.2.2.2.1, rfl⟩
theorem zd_14_70_78 : zz_D zy_addition_14_70 78 (.aload_n 0) 1 79 := ⟨zq_42 zg_14_70_13.2.2.2.2.2.2.2.2.2.2.2.2.2.2.2.2.2.2.2.2.2.1, rfl⟩
theorem zd_14_70_79 : zz_D zy_addition_14_70 79 (.iconst 0) 1 80 := ⟨zq_3 zg_14_70_13.2.2.2.2.2.2.2.2.2.2.2.2.2.2.2.2.2.2.2.2.2.2, rfl⟩
theorem zg_14_70_80 : zq_at zy_addition_14_70.2.1 80 21 ∧ zq_at zy_addition_14_70.2.1 81 4 ∧ zq_at zy_addition_14_70.2.1 82 153 ∧ zq_at zy_addition_14_70.2.1 83 0 ∧ zq_at zy_addition_14_70.2.1 84 15 ∧ zq_at zy_addition_14_70.2.1 97 4 ∧ zq_at zy_addition_14_70.2.1 98 167 ∧ zq_at zy_addition_14_70.2.1 99 0 ∧ zq_at zy_addition_14_70.2.1 100 4 ∧ zq_at zy_addition_14_70.2.1 102 3 ∧ zq_at zy_addition_14_70.2.1 103 182 ∧ zq_at zy_addition_14_70.2.1 104 0 ∧ zq_at zy_addition_14_70.2.1 105 196 ∧ zq_at zy_addition_14_70.2.1 106 153 ∧ zq_at zy_addition_14_70.2.1 107 0 ∧ zq_at zy_addition_14_70.2.1 108 5 ∧ zq_at zy_addition_14_70.2.1 109 3 ∧ zq_at zy_addition_14_70.2.1 110 172 ∧ zq_at zy_addition_14_70.2.1 41 42 ∧ zq_at zy_addition_14_70.2.1 42 180 ∧ zq_at zy_addition_14_70.2.1 43 0 ∧ zq_at zy_addition_14_70.2.1 44 91 ∧ zq_at zy_addition_14_70.2.1 45 27 ∧ zq_at zy_addition_14_70.2.1 46 46 := by decide +kernel
theorem zd_14_70_80 : zz_D zy_addition_14_70 80 (.iload 4) 2 82 := ⟨zq_21 zg_14_70_80.1 zg_14_70_80.2.1, rfl⟩
theorem zd_14_70_82 : zz_B zy_addition_14_70 82 (Instr.ifCond .eq) 97 85 := ⟨15, zq_153 zg_14_70_80.2.2.1 zg_14_70_80.2.2.2.1 zg_14_70_80.2.2.2.2.1 (by decide), rfl, rfl⟩
theorem zd_14_70_97 : zz_D zy_addition_14_70 97 (.iconst 1) 1 98 := ⟨zq_4 zg_14_70_80.2.2.2.2.2.1, rfl⟩
theorem zd_14_70_98 : zz_B zy_addition_14_70 98 Instr.goto 102 101 := ⟨4, zq_167 zg_14_70_80.2.2.2.2.2.2.1 zg_14_70_80.2.2.2.2.2.2.2.1 zg_14_70_80.2.2.2.2.2.2.2.2.1 (by decide), rfl, rfl⟩
theorem zd_14_70_102 : zz_D zy_addition_14_70 102 (.iconst 0) 1 103 := ⟨zq_3 zg_14_70_80.2.2.2.2.2.2.2.2.2.1, rfl⟩
theorem zd_14_70_103 : zz_D zy_addition_14_70 103 (.invokevirtual 196) 3 106 := ⟨zq_182 zg_14_70_80.2.2.2.2.2.2.2.2.2.2.1 zg_14_70_80.2.2.2.2.2.2.2.2.2.2.2.1 zg_14_70_80.2.2.2.2.2.2.2.2.2.2.2.2.1 rfl, rfl⟩
theorem zd_14_70_106 : zz_B zy_addition_14_70 106 (Instr.ifCond .eq) 111 109 := ⟨5, zq_153 zg_14_70_80.2.2.2.2.2.2.2.2.2.2.2.2.2.1 zg_14_70_80.2.2.2.2.2.2.2.2.2.2.2.2.2.2.1 zg_14_70_80.2.2.2.2.2.2.2.2.2.2.2.2.2.2.2.1 (by decide), rfl, rfl⟩
theorem zd_14_70_109 : zz_D zy_addition_14_70 109 (.iconst 0) 1 110 := ⟨zq_3 zg_14_70_80.2.2.2.2.2.2.2.2.2.2.2.2.2.2.2.2.1, rfl⟩
theorem zd_14_70_110 : zz_D zy_addition_14_70 110 (.ireturn) 1 111 := ⟨zq_172 zg_14_70_80.2.2.2.2.2.2.2.2.2.2.2.2.2.2.2.2.2.1, rfl⟩
theorem zd_14_70_41 : zz_D zy_addition_14_70 41 (.aload_n 0) 1 42 := ⟨zq_42 zg_14_70_80.2.2.2.2.2.2.2.2.2.2.2.2.2.2.2.2.2.2.1, rfl⟩
theorem zd_14_70_42 : zz_D zy_addition_14_70 42 (.getfield 91) 3 45 := ⟨zq_180 zg_14_70_80.2.2.2.2.2.2.2.2.2.2.2.2.2.2.2.2.2.2.2.1 zg_14_70_80.2.2.2.2.2.2.2.2.2.2.2.2.2.2.2.2.2.2.2.2.1 zg_14_70_80.2.2.2.2.2.2.2.2.2.2.2.2.2.2.2.2.2.2.2.2.2.1 rfl, rfl⟩
theorem zd_14_70_45 : zz_D zy_addition_14_70 45 (.iload_n 1) 1 46 := ⟨zq_27 zg_14_70_80.2.2.2.2.2.2.2.2.2.2.2.2.2.2.2.2.2.2.2.2.2.2.1, rfl⟩
theorem zd_14_70_46 : zz_D zy_addition_14_70 46 (.iaload) 1 47 := ⟨zq_46 zg_14_70_80.2.2.2.2.2.2.2.2.2.2.2.2.2.2.2.2.2.2.2.2.2.2.2, rfl⟩
theorem zg_14_70_47 : zq_at zy_addition_14_70.2.1 47 42 ∧ zq_at zy_addition_14_70.2.1 48 180 ∧ zq_at zy_addition_14_70.2.1 49 0 ∧ zq_at zy_addition_14_70.2.1 50 91 ∧ zq_at zy_addition_14_70.2.1 51 28 ∧ zq_at zy_addition_14_70.2.1 52 46 ∧ zq_at zy_addition_14_70.2.1 53 160 ∧ zq_at zy_addition_14_70.2.1 54 0 ∧ zq_at zy_addition_14_70.2.1 55 22 ∧ zq_at zy_addition_14_70.2.1 56 42 ∧ zq_at zy_addition_14_70.2.1 57 180 ∧ zq_at zy_addition_14_70.2.1 58 0 ∧ zq_at zy_addition_14_70.2.1 59 94 ∧ zq_at zy_addition_14_70.2.1 60 27 ∧ zq_at zy_addition_14_70.2.1 61 46 ∧ zq_at zy_addition_14_70.2.1 62 42 ∧ zq_at zy_addition_14_70.2.1 63 180 ∧ zq_at zy_addition_14_70.2.1 64 0 ∧ zq_at zy_addition_14_70.2.1 65 94 ∧ zq_at zy_addition_14_70.2.1 66 28 ∧ zq_at zy_addition_14_70.2.1 67 46 ∧ zq_at zy_addition_14_70.2.1 68 160 ∧ zq_at zy_addition_14_70.2.1 69 0 ∧ zq_at zy_addition_14_70.2.1 70 7 := by decide +kernel
theorem zd_14_70_47 : zz_D zy_addition_14_70 47 (.aload_n 0) 1 48 := ⟨zq_42 zg_14_70_47.1, rfl⟩
theorem zd_14_70_48 : zz_D zy_addition_14_70 48 (.getfield 91) 3 51 := ⟨zq_180 zg_14_70_47.2.1 zg_14_70_47.2.2.1 zg_14_70_47.2.2.2.1 rfl, rfl⟩
theorem zd_14_70_51 : zz_D zy_addition_14_70 51 (.iload_n 2) 1 52 := ⟨zq_28 zg_14_70_47.2.2.2.2.1, rfl⟩
theorem zd_14_70_52 : zz_D zy_addition_14_70 52 (.iaload) 1 53 := ⟨zq_46 zg_14_70_47.2.2.2.2.2.1, rfl⟩
theorem zd_14_70_53 : zz_B zy_addition_14_70 53 (Instr.if_icmp .ne) 75 56 := ⟨22, zq_160 zg_14_70_47.2.2.2.2.2.2.1 zg_14_70_47.2.2.2.2.2.2.2.1 zg_14_70_47.2.2.2.2.2.2.2.2.1 (by decide), rfl, rfl⟩
theorem zd_14_70_56 : zz_D zy_addition_14_70 56 (.aload_n 0) 1 57 := ⟨zq_42 zg_14_70_47.2.2.2.2.2.2.2.2.2.1, rfl⟩
theorem zd_14_70_57 : zz_D zy_addition_14_70 57 (.getfield 94) 3 60 := ⟨zq_180 zg_14_70_47.2.2.2.2.2.2.2.2.2.2.1 zg_14_70_47.2.2.2.2.2.2.2.2.2.2.2.1 zg_14_70_47.2.2.2.2.2.2.2.2.2.2.2.2.1 rfl, rfl⟩
theorem zd_14_70_60 : zz_D zy_addition_14_70 60 (.iload_n 1) 1 61 := ⟨zq_27 zg_14_70_47.2.2.2.2.2.2.2.2.2.2.2.2.2.1, rfl⟩
theorem zd_14_70_61 : zz_D zy_addition_14_70 61 (.iaload) 1 62 := ⟨zq_46 zg_14_70_47.2.2.2.2.2.2.2.2.2.2.2.2.2.2.1, rfl⟩
theorem zd_14_70_62 : zz_D zy_addition_14_70 62 (.aload_n 0) 1 63 := ⟨zq_42 zg_14_70_47.2.2.2.2.2.2.2.2.2.2.2.2.2.2.2.1, rfl⟩
theorem zd_14_70_63 : zz_D zy_addition_14_70 63 (.getfield 94) 3 66 := ⟨zq_180 zg_14_70_47.2.2.2.2.2.2.2.2.2.2.2.2.2.2.2.2.1 zg_14_70_47.2.2.2.2.2.2.2.2.2.2.2.2.2.2.2.2.2.1 zg_14_70_47.2.2.2.2.2.2.2.2.2.2.2.2.2.2.2.2.2.2.1 rfl, rfl⟩
theorem zd_14_70_66 : zz_D zy_addition_14_70 66 (.iload_n 2) 1 67 := ⟨zq_28 zg_14_70_47.2.2.2.2.2.2.2.2.2.2.2.2.2.2.2.2.2.2.2.1, rfl⟩
theorem zd_14_70_67 : zz_D zy_addition_14_70 67 (.iaload) 1 68 := ⟨zq_46 zg_14_70_47.2.2.2.2.2.2.2.2.2.2.2.2.2.2.2.2.2.2.2.2.1, rfl⟩
theorem zd_14_70_68 : zz_B zy_addition_14_70 68 (Instr.if_icmp .ne) 75 71 := ⟨7, zq_160 zg_14_70_47.2.2.2.2.2.2.2.2.2.2.2.2.2.2.2.2.2.2.2.2.2.1 zg_14_70_47.2.2.2.2.2.2.2.2.2.2.2.2.2.2.2.2.2.2.2.2.2.2.1 zg_14_70_47.2.2.2.2.2.2.2.2.2.2.2.2.2.2.2.2.2.2.2.2.2.2.2 (by decide), rfl, rfl⟩
theorem zg_14_70_71 : zq_at zy_addition_14_70.2.1 71 4 ∧ zq_at zy_addition_14_70.2.1 72 167 ∧ zq_at zy_addition_14_70.2.1 73 0 ∧ zq_at zy_addition_14_70.2.1 74 4 ∧ zq_at zy_addition_14_70.2.1 85 29 ∧ zq_at zy_addition_14_70.2.1 86 133 ∧ zq_at zy_addition_14_70.2.1 87 9 ∧ zq_at zy_addition_14_70.2.1 88 20 ∧ zq_at zy_addition_14_70.2.1 89 1 ∧ zq_at zy_addition_14_70.2.1 90 101 ∧ zq_at zy_addition_14_70.2.1 91 184 ∧ zq_at zy_addition_14_70.2.1 92 0 ∧ zq_at zy_addition_14_70.2.1 93 192 ∧ zq_at zy_addition_14_70.2.1 94 154 ∧ zq_at zy_addition_14_70.2.1 95 0 ∧ zq_at zy_addition_14_70.2.1 96 7 ∧ zq_at zy_addition_14_70.2.1 101 3 ∧ zq_at zy_addition_14_70.2.1 111 42 ∧ zq_at zy_addition_14_70.2.1 112 180 ∧ zq_at zy_addition_14_70.2.1 113 0 ∧ zq_at zy_addition_14_70.2.1 114 85 ∧ zq_at zy_addition_14_70.2.1 115 4 ∧ zq_at zy_addition_14_70.2.1 116 100 := by decide +kernel
theorem zd_14_70_71 : zz_D zy_addition_14_70 71 (.iconst 1) 1 72 := ⟨zq_4 zg_14_70_71.1, rfl⟩
theorem zd_14_70_72 : zz_B zy_addition_14_70 72 Instr.goto 76 75 := ⟨4, zq_167 zg_14_70_71.2.1 zg_14_70_71.2.2.1 zg_14_70_71.2.2.2.1 (by decide), rfl, rfl⟩
theorem zd_14_70_85 : zz_D zy_addition_14_70 85 (.iload_n 3) 1 86 := ⟨zq_29 zg_14_70_71.2.2.2.2.1, rfl⟩
theorem zd_14_70_86 : zz_D zy_addition_14_70 86 (.i2l) 1 87 := ⟨zq_133 zg_14_70_71.2.2.2.2.2.1, rfl⟩
theorem zd_14_70_87 : zz_D zy_addition_14_70 87 (.lconst 0) 1 88 := ⟨zq_9 zg_14_70_71.2.2.2.2.2.2.1, rfl⟩
theorem zd_14_70_88 : zz_D zy_addition_14_70 88 (.ldc2_w 357) 3 91 := ⟨zq_20 zg_14_70_71.2.2.2.2.2.2.2.1 zg_14_70_71.2.2.2.2.2.2.2.2.1 zg_14_70_71.2.2.2.2.2.2.2.2.2.1 rfl, rfl⟩
theorem zd_14_70_91 : zz_D zy_addition_14_70 91 (.invokestatic 192) 3 94 := ⟨zq_184 zg_14_70_71.2.2.2.2.2.2.2.2.2.2.1 zg_14_70_71.2.2.2.2.2.2.2.2.2.2.2.1 zg_14_70_71.2.2.2.2.2.2.2.2.2.2.2.2.1 rfl, rfl⟩
theorem zd_14_70_94 : zz_B zy_addition_14_70 94 (Instr.ifCond .ne) 101 97 := ⟨7, zq_154 zg_14_70_71.2.2.2.2.2.2.2.2.2.2.2.2.2.1 zg_14_70_71.2.2.2.2.2.2.2.2.2.2.2.2.2.2.1 zg_14_70_71.2.2.2.2.2.2.2.2.2.2.2.2.2.2.2.1 (by decide), rfl, rfl⟩
theorem zd_14_70_101 : zz_D zy_addition_14_70 101 (.iconst 0) 1 102 := ⟨zq_3 zg_14_70_71.2.2.2.2.2.2.2.2.2.2.2.2.2.2.2.2.1, rfl⟩
theorem zd_14_70_111 : zz_D zy_addition_14_70 111 (.aload_n 0) 1 112 := ⟨zq_42 zg_14_70_71.2.2.2.2.2.2.2.2.2.2.2.2.2.2.2.2.2.1, rfl⟩
theorem zd_14_70_112 : zz_D zy_addition_14_70 112 (.getfield 85) 3 115 := ⟨zq_180 zg_14_70_71.2.2.2.2.2.2.2.2.2.2.2.2.2.2.2.2.2.2.1 zg_14_70_71.2.2.2.2.2.2.2.2.2.2.2.2.2.2.2.2.2.2.2.1 zg_14_70_71.2.2.2.2.2.2.2.2.2.2.2.2.2.2.2.2.2.2.2.2.1 rfl, rfl⟩
theorem zd_14_70_115 : zz_D zy_addition_14_70 115 (.iconst 1) 1 116 := ⟨zq_4 zg_14_70_71.2.2.2.2.2.2.2.2.2.2.2.2.2.2.2.2.2.2.2.2.2.1, rfl⟩
theorem zd_14_70_116 : zz_D zy_addition_14_70 116 (.isub) 1 117 := ⟨zq_100 zg_14_70_71.2.2.2.2.2.2.2.2.2.2.2.2.2.2.2.2.2.2.2.2.2.2, rfl⟩
theorem zg_14_70_117 : zq_at zy_addition_14_70.2.1 117 54 ∧ zq_at zy_addition_14_70.2.1 118 5 ∧ zq_at zy_addition_14_70.2.1 119 42 ∧ zq_at zy_addition_14_70.2.1 120 5 ∧ zq_at zy_addition_14_70.2.1 121 27 ∧ zq_at zy_addition_14_70.2.1 122 42 ∧ zq_at zy_addition_14_70.2.1 123 180 ∧ zq_at zy_addition_14_70.2.1 124 0 ∧ zq_at zy_addition_14_70.2.1 125 88 ∧ zq_at zy_addition_14_70.2.1 126 27 ∧ zq_at zy_addition_14_70.2.1 127 46 ∧ zq_at zy_addition_14_70.2.1 128 42 ∧ zq_at zy_addition_14_70.2.1 129 180 ∧ zq_at zy_addition_14_70.2.1 130 0 ∧ zq_at zy_addition_14_70.2.1 131 91 ∧ zq_at zy_addition_14_70.2.1 132 27 ∧ zq_at zy_addition_14_70.2.1 133 46 ∧ zq_at zy_addition_14_70.2.1 134 42 ∧ zq_at zy_addition_14_70.2.1 135 180 ∧ zq_at zy_addition_14_70.2.1 136 0 ∧ zq_at zy_addition_14_70.2.1 137 94 ∧ zq_at zy_addition_14_70.2.1 138 27 ∧ zq_at zy_addition_14_70.2.1 139 46 := by decide +kernel
theorem zd_14_70_117 : zz_D zy_addition_14_70 117 (.istore 5) 2 119 := ⟨zq_54 zg_14_70_117.1 zg_14_70_117.2.1, rfl⟩
theorem zd_14_70_119 : zz_D zy_addition_14_70 119 (.aload_n 0) 1 120 := ⟨zq_42 zg_14_70_117.2.2.1, rfl⟩
theorem zd_14_70_120 : zz_D zy_addition_14_70 120 (.iconst 2) 1 121 := ⟨zq_5 zg_14_70_117.2.2.2.1, rfl⟩
theorem zd_14_70_121 : zz_D zy_addition_14_70 121 (.iload_n 1) 1 122 := ⟨zq_27 zg_14_70_117.2.2.2.2.1, rfl⟩
theorem zd_14_70_122 : zz_D zy_addition_14_70 122 (.aload_n 0) 1 123 := ⟨zq_42 zg_14_70_117.2.2.2.2.2.1, rfl⟩
theorem zd_14_70_123 : zz_D zy_addition_14_70 123 (.getfield 88) 3 126 := ⟨zq_180 zg_14_70_117.2.2.2.2.2.2.1 zg_14_70_117.2.2.2.2.2.2.2.1 zg_14_70_117.2.2.2.2.2.2.2.2.1 rfl, rfl⟩
theorem zd_14_70_126 : zz_D zy_addition_14_70 126 (.iload_n 1) 1 127 := ⟨zq_27 zg_14_70_117.2.2.2.2.2.2.2.2.2.1, rfl⟩
theorem zd_14_70_127 : zz_D zy_addition_14_70 127 (.iaload) 1 128 := ⟨zq_46 zg_14_70_117.2.2.2.2.2.2.2.2.2.2.1, rfl⟩
theorem zd_14_70_128 : zz_D zy_addition_14_70 128 (.aload_n 0) 1 129 := ⟨zq_42 zg_14_70_117.2.2.2.2.2.2.2.2.2.2.2.1, rfl⟩
theorem zd_14_70_129 : zz_D zy_addition_14_70 129 (.getfield 91) 3 132 := ⟨zq_180 zg_14_70_117.2.2.2.2.2.2.2.2.2.2.2.2.1 zg_14_70_117.2.2.2.2.2.2.2.2.2.2.2.2.2.1 zg_14_70_117.2.2.2.2.2.2.2.2.2.2.2.2.2.2.1 rfl, rfl⟩
theorem zd_14_70_132 : zz_D zy_addition_14_70 132 (.iload_n 1) 1 133 := ⟨zq_27 zg_14_70_117.2.2.2.2.2.2.2.2.2.2.2.2.2.2.2.1, rfl⟩
theorem zd_14_70_133 : zz_D zy_addition_14_70 133 (.iaload) 1 134 := ⟨zq_46 zg_14_70_117.2.2.2.2.2.2.2.2.2.2.2.2.2.2.2.2.1, rfl⟩
theorem zd_14_70_134 : zz_D zy_addition_14_70 134 (.aload_n 0) 1 135 := ⟨zq_42 zg_14_70_117.2.2.2.2.2.2.2.2.2.2.2.2.2.2.2.2.2.1, rfl⟩
theorem zd_14_70_135 : zz_D zy_addition_14_70 135 (.getfield 94) 3 138 := ⟨zq_180 zg_14_70_117.2.2.2.2.2.2.2.2.2.2.2.2.2.2.2.2.2.2.1 zg_14_70_117.2.2.2.2.2.2.2.2.2.2.2.2.2.2.2.2.2.2.2.1 zg_14_70_117.2.2.2.2.2.2.2.2.2.2.2.2.2.2.2.2.2.2.2.2.1 rfl, rfl⟩
theorem zd_14_70_138 : zz_D zy_addition_14_70 138 (.iload_n 1) 1 139 := ⟨zq_27 zg_14_70_117.2.2.2.2.2.2.2.2.2.2.2.2.2.2.2.2.2.2.2.2.2.1, rfl⟩
theorem zd_14_70_139 : zz_D zy_addition_14_70 139 (.iaload) 1 140 := ⟨zq_46 zg_14_70_117.2.2.2.2.2.2.2.2.2.2.2.2.2.2.2.2.2.2.2.2.2.2, rfl⟩
theorem zg_14_70_140 : zq_at zy_addition_14_70.2.1 140 182 ∧ zq_at zy_addition_14_70.2.1 141 1 ∧ zq_at zy_addition_14_70.2.1 142 170 ∧ zq_at zy_addition_14_70.2.1 143 54 ∧ zq_at zy_addition_14_70.2.1 144 6 ∧ zq_at zy_addition_14_70.2.1 145 42 ∧ zq_at zy_addition_14_70.2.1 146 180 ∧ zq_at zy_addition_14_70.2.1 147 0 ∧ zq_at zy_addition_14_70.2.1 148 187 ∧ zq_at zy_addition_14_70.2.1 149 158 ∧ zq_at zy_addition_14_70.2.1 150 0 ∧ zq_at zy_addition_14_70.2.1 151 5 ∧ zq_at zy_addition_14_70.2.1 154 42 ∧ zq_at zy_addition_14_70.2.1 155 180 ∧ zq_at zy_addition_14_70.2.1 156 0 ∧ zq_at zy_addition_14_70.2.1 157 106 ∧ zq_at zy_addition_14_70.2.1 158 21 ∧ zq_at zy_addition_14_70.2.1 159 5 ∧ zq_at zy_addition_14_70.2.1 160 28 ∧ zq_at zy_addition_14_70.2.1 161 79 ∧ zq_at zy_addition_14_70.2.1 162 42 ∧ zq_at zy_addition_14_70.2.1 163 21 ∧ zq_at zy_addition_14_70.2.1 164 5 ∧ zq_at zy_addition_14_70.2.1 165 4 := by decide +kernel
theorem zd_14_70_140 : zz_D zy_addition_14_70 140 (.invokevirtual 426) 3 143 := ⟨zq_182 zg_14_70_140.1 zg_14_70_140.2.1 zg_14_70_140.2.2.1 rfl, rfl⟩
theorem zd_14_70_143 : zz_D zy_addition_14_70 143 (.istore 6) 2 145 := ⟨zq_54 zg_14_70_140.2.2.2.1 zg_14_70_140.2.2.2.2.1, rfl⟩
theorem zd_14_70_145 : zz_D zy_addition_14_70 145 (.aload_n 0) 1 146 := ⟨zq_42 zg_14_70_140.2.2.2.2.2.1, rfl⟩
theorem zd_14_70_146 : zz_D zy_addition_14_70 146 (.getfield 187) 3 149 := ⟨zq_180 zg_14_70_140.2.2.2.2.2.2.1 zg_14_70_140.2.2.2.2.2.2.2.1 zg_14_70_140.2.2.2.2.2.2.2.2.1 rfl, rfl⟩
theorem zd_14_70_149 : zz_B zy_addition_14_70 149 (Instr.ifCond .le) 154 152 := ⟨5, zq_158 zg_14_70_140.2.2.2.2.2.2.2.2.2.1 zg_14_70_140.2.2.2.2.2.2.2.2.2.2.1 zg_14_70_140.2.2.2.2.2.2.2.2.2.2.2.1 (by decide), rfl, rfl⟩
theorem zd_14_70_154 : zz_D zy_addition_14_70 154 (.aload_n 0) 1 155 := ⟨zq_42 zg_14_70_140.2.2.2.2.2.2.2.2.2.2.2.2.1, rfl⟩
theorem zd_14_70_155 : zz_D zy_addition_14_70 155 (.getfield 106) 3 158 := ⟨zq_180 zg_14_70_140.2.2.2.2.2.2.2.2.2.2.2.2.2.1 zg_14_70_140.2.2.2.2.2.2.2.2.2.2.2.2.2.2.1 zg_14_70_140.2.2.2.2.2.2.2.2.2.2.2.2.2.2.2.1 rfl, rfl⟩
theorem zd_14_70_158 : zz_D zy_addition_14_70 158 (.iload 5) 2 160 := ⟨zq_21 zg_14_70_140.2.2.2.2.2.2.2.2.2.2.2.2.2.2.2.2.1 zg_14_70_140.2.2.2.2.2.2.2.2.2.2.2.2.2.2.2.2.2.1, rfl⟩
theorem zd_14_70_160 : zz_D zy_addition_14_70 160 (.iload_n 2) 1 161 := ⟨zq_28 zg_14_70_140.2.2.2.2.2.2.2.2.2.2.2.2.2.2.2.2.2.2.1, rfl⟩
theorem zd_14_70_161 : zz_D zy_addition_14_70 161 (.iastore) 1 162 := ⟨zq_79 zg_14_70_140.2.2.2.2.2.2.2.2.2.2.2.2.2.2.2.2.2.2.2.1, rfl⟩
theorem zd_14_70_162 : zz_D zy_addition_14_70 162 (.aload_n 0) 1 163 := ⟨zq_42 zg_14_70_140.2.2.2.2.2.2.2.2.2.2.2.2.2.2.2.2.2.2.2.2.1, rfl⟩
theorem zd_14_70_163 : zz_D zy_addition_14_70 163 (.iload 5) 2 165 := ⟨zq_21 zg_14_70_140.2.2.2.2.2.2.2.2.2.2.2.2.2.2.2.2.2.2.2.2.2.1 zg_14_70_140.2.2.2.2.2.2.2.2.2.2.2.2.2.2.2.2.2.2.2.2.2.2.1, rfl⟩
theorem zd_14_70_165 : zz_D zy_addition_14_70 165 (.iconst 1) 1 166 := ⟨zq_4 zg_14_70_140.2.2.2.2.2.2.2.2.2.2.2.2.2.2.2.2.2.2.2.2.2.2.2, rfl⟩
theorem zg_14_70_166 : zq_at zy_addition_14_70.2.1 166 4 ∧ zq_at zy_addition_14_70.2.1 167 4 ∧ zq_at zy_addition_14_70.2.1 168 3 ∧ zq_at zy_addition_14_70.2.1 169 29 ∧ zq_at zy_addition_14_70.2.1 170 182 ∧ zq_at zy_addition_14_70.2.1 171 1 ∧ zq_at zy_addition_14_70.2.1 172 174 ∧ zq_at zy_addition_14_70.2.1 173 21 ∧ zq_at zy_addition_14_70.2.1 174 6 ∧ zq_at zy_addition_14_70.2.1 175 172 ∧ zq_at zy_addition_14_70.2.1 152 3 ∧ zq_at zy_addition_14_70.2.1 153 172 := by decide +kernel
theorem zd_14_70_166 : zz_D zy_addition_14_70 166 (.iconst 1) 1 167 := ⟨zq_4 zg_14_70_166.1, rfl⟩
theorem zd_14_70_167 : zz_D zy_addition_14_70 167 (.iconst 1) 1 168 := ⟨zq_4 zg_14_70_166.2.1, rfl⟩
theorem zd_14_70_168 : zz_D zy_addition_14_70 168 (.iconst 0) 1 169 := ⟨zq_3 zg_14_70_166.2.2.1, rfl⟩
theorem zd_14_70_169 : zz_D zy_addition_14_70 169 (.iload_n 3) 1 170 := ⟨zq_29 zg_14_70_166.2.2.2.1, rfl⟩
theorem zd_14_70_170 : zz_D zy_addition_14_70 170 (.invokevirtual 430) 3 173 := ⟨zq_182 zg_14_70_166.2.2.2.2.1 zg_14_70_166.2.2.2.2.2.1 zg_14_70_166.2.2.2.2.2.2.1 rfl, rfl⟩
theorem zd_14_70_173 : zz_D zy_addition_14_70 173 (.iload 6) 2 175 := ⟨zq_21 zg_14_70_166.2.2.2.2.2.2.2.1 zg_14_70_166.2.2.2.2.2.2.2.2.1, rfl⟩
theorem zd_14_70_175 : zz_D zy_addition_14_70 175 (.ireturn) 1 176 := ⟨zq_172 zg_14_70_166.2.2.2.2.2.2.2.2.2.1, rfl⟩
theorem zd_14_70_152 : zz_D zy_addition_14_70 152 (.iconst 0) 1 153 := ⟨zq_3 zg_14_70_166.2.2.2.2.2.2.2.2.2.2.1, rfl⟩
theorem zd_14_70_153 : zz_D zy_addition_14_70 153 (.ireturn) 1 154 := ⟨zq_172 zg_14_70_166.2.2.2.2.2.2.2.2.2.2.2, rfl⟩

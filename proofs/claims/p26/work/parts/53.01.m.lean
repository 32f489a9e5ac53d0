theorem zk_Md_240 : mm_Sl "TensorForgeModel" 240 2 zy_names_14_23 := ⟨zyw_names_14_23, mm_tb_1 1896 (by decide +kernel) rfl, mm_tb_1 1897 (by decide +kernel) rfl⟩
theorem zg_14_24_147 : zq_at zy_isIllegal_14_24.2.1 147 154 ∧ zq_at zy_isIllegal_14_24.2.1 148 0 ∧ zq_at zy_isIllegal_14_24.2.1 149 17 ∧ zq_at zy_isIllegal_14_24.2.1 150 42 ∧ zq_at zy_isIllegal_14_24.2.1 151 180 ∧ zq_at zy_isIllegal_14_24.2.1 152 0 ∧ zq_at zy_isIllegal_14_24.2.1 153 36 ∧ zq_at zy_isIllegal_14_24.2.1 154 21 ∧ zq_at zy_isIllegal_14_24.2.1 155 5 ∧ zq_at zy_isIllegal_14_24.2.1 156 46 ∧ zq_at zy_isIllegal_14_24.2.1 157 153 ∧ zq_at zy_isIllegal_14_24.2.1 158 0 ∧ zq_at zy_isIllegal_14_24.2.1 159 7 ∧ zq_at zy_isIllegal_14_24.2.1 164 3 := by decide +kernel
theorem zd_14_24_147 : zz_B zy_isIllegal_14_24 147 (Instr.ifCond .ne) 164 150 := ⟨17, zq_154 zg_14_24_147.1 zg_14_24_147.2.1 zg_14_24_147.2.2.1 (by decide), rfl, rfl⟩
theorem zd_14_24_150 : zz_D zy_isIllegal_14_24 150 (.aload_n 0) 1 151 := ⟨zq_42 zg_14_24_147.2.2.2.1, rfl⟩
theorem zd_14_24_151 : zz_D zy_isIllegal_14_24 151 (.getfield 36) 3 154 := ⟨zq_180 zg_14_24_147.2.2.2.2.1 zg_14_24_147.2.2.2.2.2.1 zg_14_24_147.2.2.2.2.2.2.1 rfl, rfl⟩
theorem zd_14_24_154 : zz_D zy_isIllegal_14_24 154 (.iload 5) 2 156 := ⟨zq_21 zg_14_24_147.2.2.2.2.2.2.2.1 zg_14_24_147.2.2.2.2.2.2.2.2.1, rfl⟩
theorem zd_14_24_156 : zz_D zy_isIllegal_14_24 156 (.iaload) 1 157 := ⟨zq_46 zg_14_24_147.2.2.2.2.2.2.2.2.2.1, rfl⟩
theorem zd_14_24_157 : zz_B zy_isIllegal_14_24 157 (Instr.ifCond .eq) 164 160 := ⟨7, zq_153 zg_14_24_147.2.2.2.2.2.2.2.2.2.2.1 zg_14_24_147.2.2.2.2.2.2.2.2.2.2.2.1 zg_14_24_147.2.2.2.2.2.2.2.2.2.2.2.2.1 (by decide), rfl, rfl⟩
theorem zd_14_24_164 : zz_D zy_isIllegal_14_24 164 (.iconst 0) 1 165 := ⟨zq_3 zg_14_24_147.2.2.2.2.2.2.2.2.2.2.2.2.2, rfl⟩
-- TensorForgeModel names (II)Z
abbrev zr_names_14_23x_8 : Room := { frames := 0, cells := 0, slots := 0, locals := 0 }
def zp_names_14_23x_8 (p0 : Int) (S0 : zz_S) : Int → zz_S → Prop := fun r S => S0 = S ∧ (0 ≤ r ∧ r ≤ 1) ∧ (r = zz_nm p0 8)
theorem zc_names_14_23x_8 {g : mm_G} {l : Launch} (p0 : Int) (S0 : zz_S) (n : Nat) (hn : zz_end ≤ n) (G_S0 : zz_G S0) (hp0 : (-2147483648) ≤ p0 ∧ p0 ≤ 2147483647) : mm_Met g l zy_names_14_23 zr_names_14_23x_8 [zi p0, zi 8] (zz_M S0 n) n (zz_QI n (zp_names_14_23x_8 p0 S0)) := by
  refine zz_enter (by decide) (Nat.le_of_ble_eq_true rfl) (zz_less (ls1 := [some (zi p0), some (zi 8)]) ⟨rfl, ⟨rfl, trivial⟩⟩ ?_)
  refine zz_iload_n (x := p0) rfl zd_14_23_0 ?_
  refine zz_iconst zd_14_23_1 ?_
  refine zz_icmp_eq (by omega) (by omega) zd_14_23_2 (fun c1 => ?_) (fun c1 => ?_)
  · refine zz_iconst zd_14_23_21 ?_
    refine zz_goto zd_14_23_22 ?_
    refine zz_istore_n [some (zi p0), some (zi 8), some (zi 1)] zd_14_23_26 (by decide) rfl ?_
    refine zz_iload_n (x := p0) rfl zd_14_23_27 ?_
    refine zz_iconst zd_14_23_28 ?_
    refine zz_icmp_eq (by omega) (by omega) zd_14_23_29 (fun c2 => ?_) (fun c2 => ?_)
    · exfalso; omega
    · refine zz_iload_n (x := p0) rfl zd_14_23_32 ?_
      refine zz_bipush (by decide) zd_14_23_33 ?_
      refine zz_icmp_eq (by omega) (by omega) zd_14_23_35 (fun c3 => ?_) (fun c3 => ?_)
      · exfalso; omega
      · refine zz_iload_n (x := p0) rfl zd_14_23_38 ?_
        refine zz_bipush (by decide) zd_14_23_39 ?_
        refine zz_icmp_ne (by omega) (by omega) zd_14_23_41 (fun c4 => ?_) (fun c4 => ?_)
        · refine zz_iconst zd_14_23_48 ?_
          refine zz_istore_n [some (zi p0), some (zi 8), some (zi 1), some (zi 0)] zd_14_23_49 (by decide) rfl ?_
          refine zz_iload_n (x := 8) rfl zd_14_23_50 ?_
          by_cases c5 : (8 : Int) = 5
          · exfalso; omega
          by_cases c6 : (8 : Int) = 6
          · exfalso; omega
          by_cases c7 : (8 : Int) = 7
          · exfalso; omega
          by_cases c8 : (8 : Int) = 8
          · refine zz_swIn 8 39 c8 (by decide) zd_14_23_51 rfl rfl ?_
            refine zz_iload_n (x := p0) rfl zd_14_23_90 ?_
            refine zz_bipush (by decide) zd_14_23_91 ?_
            refine zz_icmp_eq (by omega) (by omega) zd_14_23_93 (fun c9 => ?_) (fun c9 => ?_)
            · exfalso; omega
            · refine zz_iconst zd_14_23_96 ?_
              refine zz_goto zd_14_23_97 ?_
              exact zz_zret zd_14_23_101 rfl (by omega) (Nat.zero_le _) (Nat.zero_le _) ⟨_, _, rfl, rfl, by omega, (zz_nmx (by omega) (by omega)).symm⟩
          by_cases c10 : (8 : Int) = 9
          · exfalso; omega
          by_cases c11 : (8 : Int) = 10
          · exfalso; omega
          exfalso; omega
        · exfalso; omega
  · refine zz_iload_n (x := p0) rfl zd_14_23_5 ?_
    refine zz_iconst zd_14_23_6 ?_
    refine zz_icmp_eq (by omega) (by omega) zd_14_23_7 (fun c13 => ?_) (fun c13 => ?_)
    · refine zz_iconst zd_14_23_21 ?_
      refine zz_goto zd_14_23_22 ?_
      refine zz_istore_n [some (zi p0), some (zi 8), some (zi 1)] zd_14_23_26 (by decide) rfl ?_
      refine zz_iload_n (x := p0) rfl zd_14_23_27 ?_
      refine zz_iconst zd_14_23_28 ?_
      refine zz_icmp_eq (by omega) (by omega) zd_14_23_29 (fun c14 => ?_) (fun c14 => ?_)
      · exfalso; omega
      · refine zz_iload_n (x := p0) rfl zd_14_23_32 ?_
        refine zz_bipush (by decide) zd_14_23_33 ?_
        refine zz_icmp_eq (by omega) (by omega) zd_14_23_35 (fun c15 => ?_) (fun c15 => ?_)
        · exfalso; omega
        · refine zz_iload_n (x := p0) rfl zd_14_23_38 ?_
          refine zz_bipush (by decide) zd_14_23_39 ?_
          refine zz_icmp_ne (by omega) (by omega) zd_14_23_41 (fun c16 => ?_) (fun c16 => ?_)
          · refine zz_iconst zd_14_23_48 ?_
            refine zz_istore_n [some (zi p0), some (zi 8), some (zi 1), some (zi 0)] zd_14_23_49 (by decide) rfl ?_
            refine zz_iload_n (x := 8) rfl zd_14_23_50 ?_
            by_cases c17 : (8 : Int) = 5
            · exfalso; omega
            by_cases c18 : (8 : Int) = 6
            · exfalso; omega
            by_cases c19 : (8 : Int) = 7
            · exfalso; omega
            by_cases c20 : (8 : Int) = 8
            · refine zz_swIn 8 39 c20 (by decide) zd_14_23_51 rfl rfl ?_
              refine zz_iload_n (x := p0) rfl zd_14_23_90 ?_
              refine zz_bipush (by decide) zd_14_23_91 ?_
              refine zz_icmp_eq (by omega) (by omega) zd_14_23_93 (fun c21 => ?_) (fun c21 => ?_)
              · exfalso; omega
              · refine zz_iconst zd_14_23_96 ?_
                refine zz_goto zd_14_23_97 ?_
                exact zz_zret zd_14_23_101 rfl (by omega) (Nat.zero_le _) (Nat.zero_le _) ⟨_, _, rfl, rfl, by omega, (zz_nmx (by omega) (by omega)).symm⟩
            by_cases c22 : (8 : Int) = 9
            · exfalso; omega
            by_cases c23 : (8 : Int) = 10
            · exfalso; omega
            exfalso; omega
          · exfalso; omega
    · refine zz_iload_n (x := p0) rfl zd_14_23_10 ?_
      refine zz_iconst zd_14_23_11 ?_
      refine zz_icmp_eq (by omega) (by omega) zd_14_23_12 (fun c25 => ?_) (fun c25 => ?_)
      · refine zz_iconst zd_14_23_21 ?_
        refine zz_goto zd_14_23_22 ?_
        refine zz_istore_n [some (zi p0), some (zi 8), some (zi 1)] zd_14_23_26 (by decide) rfl ?_
        refine zz_iload_n (x := p0) rfl zd_14_23_27 ?_
        refine zz_iconst zd_14_23_28 ?_
        refine zz_icmp_eq (by omega) (by omega) zd_14_23_29 (fun c26 => ?_) (fun c26 => ?_)
        · exfalso; omega
        · refine zz_iload_n (x := p0) rfl zd_14_23_32 ?_
          refine zz_bipush (by decide) zd_14_23_33 ?_
          refine zz_icmp_eq (by omega) (by omega) zd_14_23_35 (fun c27 => ?_) (fun c27 => ?_)
          · exfalso; omega
          · refine zz_iload_n (x := p0) rfl zd_14_23_38 ?_
            refine zz_bipush (by decide) zd_14_23_39 ?_
            refine zz_icmp_ne (by omega) (by omega) zd_14_23_41 (fun c28 => ?_) (fun c28 => ?_)
            · refine zz_iconst zd_14_23_48 ?_
              refine zz_istore_n [some (zi p0), some (zi 8), some (zi 1), some (zi 0)] zd_14_23_49 (by decide) rfl ?_
              refine zz_iload_n (x := 8) rfl zd_14_23_50 ?_
              by_cases c29 : (8 : Int) = 5
              · exfalso; omega
              by_cases c30 : (8 : Int) = 6
              · exfalso; omega
              by_cases c31 : (8 : Int) = 7
              · exfalso; omega
              by_cases c32 : (8 : Int) = 8
              · refine zz_swIn 8 39 c32 (by decide) zd_14_23_51 rfl rfl ?_
                refine zz_iload_n (x := p0) rfl zd_14_23_90 ?_
                refine zz_bipush (by decide) zd_14_23_91 ?_
                refine zz_icmp_eq (by omega) (by omega) zd_14_23_93 (fun c33 => ?_) (fun c33 => ?_)
                · exfalso; omega
                · refine zz_iconst zd_14_23_96 ?_
                  refine zz_goto zd_14_23_97 ?_
                  exact zz_zret zd_14_23_101 rfl (by omega) (Nat.zero_le _) (Nat.zero_le _) ⟨_, _, rfl, rfl, by omega, (zz_nmx (by omega) (by omega)).symm⟩
              by_cases c34 : (8 : Int) = 9
              · exfalso; omega
              by_cases c35 : (8 : Int) = 10
              · exfalso; omega
              exfalso; omega
            · exfalso; omega
      · refine zz_iload_n (x := p0) rfl zd_14_23_15 ?_
        refine zz_bipush (by decide) zd_14_23_16 ?_
        refine zz_icmp_ne (by omega) (by omega) zd_14_23_18 (fun c37 => ?_) (fun c37 => ?_)
        · refine zz_iconst zd_14_23_25 ?_
          refine zz_istore_n [some (zi p0), some (zi 8), some (zi 0)] zd_14_23_26 (by decide) rfl ?_
          refine zz_iload_n (x := p0) rfl zd_14_23_27 ?_
          refine zz_iconst zd_14_23_28 ?_
          refine zz_icmp_eq (by omega) (by omega) zd_14_23_29 (fun c38 => ?_) (fun c38 => ?_)
          · refine zz_iconst zd_14_23_44 ?_
            refine zz_goto zd_14_23_45 ?_
            refine zz_istore_n [some (zi p0), some (zi 8), some (zi 0), some (zi 1)] zd_14_23_49 (by decide) rfl ?_
            refine zz_iload_n (x := 8) rfl zd_14_23_50 ?_
            by_cases c39 : (8 : Int) = 5
            · exfalso; omega
            by_cases c40 : (8 : Int) = 6
            · exfalso; omega
            by_cases c41 : (8 : Int) = 7
            · exfalso; omega
            by_cases c42 : (8 : Int) = 8
            · refine zz_swIn 8 39 c42 (by decide) zd_14_23_51 rfl rfl ?_
              refine zz_iload_n (x := p0) rfl zd_14_23_90 ?_
              refine zz_bipush (by decide) zd_14_23_91 ?_
              refine zz_icmp_eq (by omega) (by omega) zd_14_23_93 (fun c43 => ?_) (fun c43 => ?_)
              · exfalso; omega
              · refine zz_iconst zd_14_23_96 ?_
                refine zz_goto zd_14_23_97 ?_
                exact zz_zret zd_14_23_101 rfl (by omega) (Nat.zero_le _) (Nat.zero_le _) ⟨_, _, rfl, rfl, by omega, (zz_nmx (by omega) (by omega)).symm⟩
            by_cases c44 : (8 : Int) = 9
            · exfalso; omega
            by_cases c45 : (8 : Int) = 10
            · exfalso; omega
            exfalso; omega
          · refine zz_iload_n (x := p0) rfl zd_14_23_32 ?_
            refine zz_bipush (by decide) zd_14_23_33 ?_
            refine zz_icmp_eq (by omega) (by omega) zd_14_23_35 (fun c47 => ?_) (fun c47 => ?_)
            · refine zz_iconst zd_14_23_44 ?_
              refine zz_goto zd_14_23_45 ?_
              refine zz_istore_n [some (zi p0), some (zi 8), some (zi 0), some (zi 1)] zd_14_23_49 (by decide) rfl ?_
              refine zz_iload_n (x := 8) rfl zd_14_23_50 ?_
              by_cases c48 : (8 : Int) = 5
              · exfalso; omega
              by_cases c49 : (8 : Int) = 6
              · exfalso; omega
              by_cases c50 : (8 : Int) = 7
              · exfalso; omega
              by_cases c51 : (8 : Int) = 8
              · refine zz_swIn 8 39 c51 (by decide) zd_14_23_51 rfl rfl ?_
                refine zz_iload_n (x := p0) rfl zd_14_23_90 ?_
                refine zz_bipush (by decide) zd_14_23_91 ?_
                refine zz_icmp_eq (by omega) (by omega) zd_14_23_93 (fun c52 => ?_) (fun c52 => ?_)
                · exfalso; omega
                · refine zz_iconst zd_14_23_96 ?_
                  refine zz_goto zd_14_23_97 ?_
                  exact zz_zret zd_14_23_101 rfl (by omega) (Nat.zero_le _) (Nat.zero_le _) ⟨_, _, rfl, rfl, by omega, (zz_nmx (by omega) (by omega)).symm⟩
              by_cases c53 : (8 : Int) = 9
              · exfalso; omega
              by_cases c54 : (8 : Int) = 10
              · exfalso; omega
              exfalso; omega
            · refine zz_iload_n (x := p0) rfl zd_14_23_38 ?_
              refine zz_bipush (by decide) zd_14_23_39 ?_
              refine zz_icmp_ne (by omega) (by omega) zd_14_23_41 (fun c56 => ?_) (fun c56 => ?_)
              · refine zz_iconst zd_14_23_48 ?_
                refine zz_istore_n [some (zi p0), some (zi 8), some (zi 0), some (zi 0)] zd_14_23_49 (by decide) rfl ?_
                refine zz_iload_n (x := 8) rfl zd_14_23_50 ?_
                by_cases c57 : (8 : Int) = 5
                · exfalso; omega
                by_cases c58 : (8 : Int) = 6
                · exfalso; omega
                by_cases c59 : (8 : Int) = 7
                · exfalso; omega
                by_cases c60 : (8 : Int) = 8
                · refine zz_swIn 8 39 c60 (by decide) zd_14_23_51 rfl rfl ?_
                  refine zz_iload_n (x := p0) rfl zd_14_23_90 ?_
                  refine zz_bipush (by decide) zd_14_23_91 ?_
                  refine zz_icmp_eq (by omega) (by omega) zd_14_23_93 (fun c61 => ?_) (fun c61 => ?_)
                  · refine zz_iconst zd_14_23_100 ?_
                    exact zz_zret zd_14_23_101 rfl (by omega) (Nat.zero_le _) (Nat.zero_le _) ⟨_, _, rfl, rfl, by omega, (zz_nmx (by omega) (by omega)).symm⟩
                  · refine zz_iconst zd_14_23_96 ?_
                    refine zz_goto zd_14_23_97 ?_
                    exact zz_zret zd_14_23_101 rfl (by omega) (Nat.zero_le _) (Nat.zero_le _) ⟨_, _, rfl, rfl, by omega, (zz_nmx (by omega) (by omega)).symm⟩
                by_cases c62 : (8 : Int) = 9
                · exfalso; omega
                by_cases c63 : (8 : Int) = 10
                · exfalso; omega
                exfalso; omega
              · refine zz_iconst zd_14_23_44 ?_
                refine zz_goto zd_14_23_45 ?_
                refine zz_istore_n [some (zi p0), some (zi 8), some (zi 0), some (zi 1)] zd_14_23_49 (by decide) rfl ?_
                refine zz_iload_n (x := 8) rfl zd_14_23_50 ?_
                by_cases c65 : (8 : Int) = 5
                · exfalso; omega
                by_cases c66 : (8 : Int) = 6
                · exfalso; omega
                by_cases c67 : (8 : Int) = 7
                · exfalso; omega
                by_cases c68 : (8 : Int) = 8
                · refine zz_swIn 8 39 c68 (by decide) zd_14_23_51 rfl rfl ?_
                  refine zz_iload_n (x := p0) rfl zd_14_23_90 ?_
                  refine zz_bipush (by decide) zd_14_23_91 ?_
                  refine zz_icmp_eq (by omega) (by omega) zd_14_23_93 (fun c69 => ?_) (fun c69 => ?_)
                  · exfalso; omega
                  · refine zz_iconst zd_14_23_96 ?_
                    refine zz_goto zd_14_23_97 ?_
                    exact zz_zret zd_14_23_101 rfl (by omega) (Nat.zero_le _) (Nat.zero_le _) ⟨_, _, rfl, rfl, by omega, (zz_nmx (by omega) (by omega)).symm⟩
                by_cases c70 : (8 : Int) = 9
                · exfalso; omega
                by_cases c71 : (8 : Int) = 10
                · exfalso; omega
                exfalso; omega
        · refine zz_iconst zd_14_23_21 ?_
          refine zz_goto zd_14_23_22 ?_
          refine zz_istore_n [some (zi p0), some (zi 8), some (zi 1)] zd_14_23_26 (by decide) rfl ?_
          refine zz_iload_n (x := p0) rfl zd_14_23_27 ?_
          refine zz_iconst zd_14_23_28 ?_
          refine zz_icmp_eq (by omega) (by omega) zd_14_23_29 (fun c73 => ?_) (fun c73 => ?_)
          · exfalso; omega
          · refine zz_iload_n (x := p0) rfl zd_14_23_32 ?_
            refine zz_bipush (by decide) zd_14_23_33 ?_
            refine zz_icmp_eq (by omega) (by omega) zd_14_23_35 (fun c74 => ?_) (fun c74 => ?_)
            · exfalso; omega
            · refine zz_iload_n (x := p0) rfl zd_14_23_38 ?_
              refine zz_bipush (by decide) zd_14_23_39 ?_
              refine zz_icmp_ne (by omega) (by omega) zd_14_23_41 (fun c75 => ?_) (fun c75 => ?_)
              · refine zz_iconst zd_14_23_48 ?_
                refine zz_istore_n [some (zi p0), some (zi 8), some (zi 1), some (zi 0)] zd_14_23_49 (by decide) rfl ?_
                refine zz_iload_n (x := 8) rfl zd_14_23_50 ?_
                by_cases c76 : (8 : Int) = 5
                · exfalso; omega
                by_cases c77 : (8 : Int) = 6
                · exfalso; omega
                by_cases c78 : (8 : Int) = 7
                · exfalso; omega
                by_cases c79 : (8 : Int) = 8
                · refine zz_swIn 8 39 c79 (by decide) zd_14_23_51 rfl rfl ?_
                  refine zz_iload_n (x := p0) rfl zd_14_23_90 ?_
                  refine zz_bipush (by decide) zd_14_23_91 ?_
                  refine zz_icmp_eq (by omega) (by omega) zd_14_23_93 (fun c80 => ?_) (fun c80 => ?_)
                  · exfalso; omega
                  · refine zz_iconst zd_14_23_96 ?_
                    refine zz_goto zd_14_23_97 ?_
                    exact zz_zret zd_14_23_101 rfl (by omega) (Nat.zero_le _) (Nat.zero_le _) ⟨_, _, rfl, rfl, by omega, (zz_nmx (by omega) (by omega)).symm⟩
                by_cases c81 : (8 : Int) = 9
                · exfalso; omega
                by_cases c82 : (8 : Int) = 10
                · exfalso; omega
                exfalso; omega
              · exfalso; omega
-- TensorForgeModel names (II)Z
abbrev zr_names_14_23x_9 : Room := { frames := 0, cells := 0, slots := 0, locals := 0 }
def zp_names_14_23x_9 (p0 : Int) (S0 : zz_S) : Int → zz_S → Prop := fun r S => S0 = S ∧ (0 ≤ r ∧ r ≤ 1) ∧ (r = zz_nm p0 9)
theorem zc_names_14_23x_9 {g : mm_G} {l : Launch} (p0 : Int) (S0 : zz_S) (n : Nat) (hn : zz_end ≤ n) (G_S0 : zz_G S0) (hp0 : (-2147483648) ≤ p0 ∧ p0 ≤ 2147483647) : mm_Met g l zy_names_14_23 zr_names_14_23x_9 [zi p0, zi 9] (zz_M S0 n) n (zz_QI n (zp_names_14_23x_9 p0 S0)) := by
  refine zz_enter (by decide) (Nat.le_of_ble_eq_true rfl) (zz_less (ls1 := [some (zi p0), some (zi 9)]) ⟨rfl, ⟨rfl, trivial⟩⟩ ?_)
  refine zz_iload_n (x := p0) rfl zd_14_23_0 ?_
  refine zz_iconst zd_14_23_1 ?_
  refine zz_icmp_eq (by omega) (by omega) zd_14_23_2 (fun c1 => ?_) (fun c1 => ?_)
  · refine zz_iconst zd_14_23_21 ?_
    refine zz_goto zd_14_23_22 ?_
    refine zz_istore_n [some (zi p0), some (zi 9), some (zi 1)] zd_14_23_26 (by decide) rfl ?_
    refine zz_iload_n (x := p0) rfl zd_14_23_27 ?_
    refine zz_iconst zd_14_23_28 ?_
    refine zz_icmp_eq (by omega) (by omega) zd_14_23_29 (fun c2 => ?_) (fun c2 => ?_)
    · exfalso; omega
    · refine zz_iload_n (x := p0) rfl zd_14_23_32 ?_
      refine zz_bipush (by decide) zd_14_23_33 ?_
      refine zz_icmp_eq (by omega) (by omega) zd_14_23_35 (fun c3 => ?_) (fun c3 => ?_)
      · exfalso; omega
      · refine zz_iload_n (x := p0) rfl zd_14_23_38 ?_
        refine zz_bipush (by decide) zd_14_23_39 ?_
        refine zz_icmp_ne (by omega) (by omega) zd_14_23_41 (fun c4 => ?_) (fun c4 => ?_)
        · refine zz_iconst zd_14_23_48 ?_
          refine zz_istore_n [some (zi p0), some (zi 9), some (zi 1), some (zi 0)] zd_14_23_49 (by decide) rfl ?_
          refine zz_iload_n (x := 9) rfl zd_14_23_50 ?_
          by_cases c5 : (9 : Int) = 5
          · exfalso; omega
          by_cases c6 : (9 : Int) = 6
          · exfalso; omega
          by_cases c7 : (9 : Int) = 7
          · exfalso; omega
          by_cases c8 : (9 : Int) = 8
          · exfalso; omega
          by_cases c9 : (9 : Int) = 9
          · refine zz_swIn 9 51 c9 (by decide) zd_14_23_51 rfl rfl ?_
            refine zz_iload_n (x := 0) rfl zd_14_23_102 ?_
            exact zz_zret zd_14_23_103 rfl (by omega) (Nat.zero_le _) (Nat.zero_le _) ⟨_, _, rfl, rfl, by omega, (zz_nmx (by omega) (by omega)).symm⟩
          by_cases c10 : (9 : Int) = 10
          · exfalso; omega
          exfalso; omega
        · exfalso; omega
  · refine zz_iload_n (x := p0) rfl zd_14_23_5 ?_
    refine zz_iconst zd_14_23_6 ?_
    refine zz_icmp_eq (by omega) (by omega) zd_14_23_7 (fun c12 => ?_) (fun c12 => ?_)
    · refine zz_iconst zd_14_23_21 ?_
      refine zz_goto zd_14_23_22 ?_
      refine zz_istore_n [some (zi p0), some (zi 9), some (zi 1)] zd_14_23_26 (by decide) rfl ?_
      refine zz_iload_n (x := p0) rfl zd_14_23_27 ?_
      refine zz_iconst zd_14_23_28 ?_
      refine zz_icmp_eq (by omega) (by omega) zd_14_23_29 (fun c13 => ?_) (fun c13 => ?_)
      · exfalso; omega
      · refine zz_iload_n (x := p0) rfl zd_14_23_32 ?_
        refine zz_bipush (by decide) zd_14_23_33 ?_
        refine zz_icmp_eq (by omega) (by omega) zd_14_23_35 (fun c14 => ?_) (fun c14 => ?_)
        · exfalso; omega
        · refine zz_iload_n (x := p0) rfl zd_14_23_38 ?_
          refine zz_bipush (by decide) zd_14_23_39 ?_
          refine zz_icmp_ne (by omega) (by omega) zd_14_23_41 (fun c15 => ?_) (fun c15 => ?_)
          · refine zz_iconst zd_14_23_48 ?_
            refine zz_istore_n [some (zi p0), some (zi 9), some (zi 1), some (zi 0)] zd_14_23_49 (by decide) rfl ?_
            refine zz_iload_n (x := 9) rfl zd_14_23_50 ?_
            by_cases c16 : (9 : Int) = 5
            · exfalso; omega
            by_cases c17 : (9 : Int) = 6
            · exfalso; omega
            by_cases c18 : (9 : Int) = 7
            · exfalso; omega
            by_cases c19 : (9 : Int) = 8
            · exfalso; omega
            by_cases c20 : (9 : Int) = 9
            · refine zz_swIn 9 51 c20 (by decide) zd_14_23_51 rfl rfl ?_
              refine zz_iload_n (x := 0) rfl zd_14_23_102 ?_
              exact zz_zret zd_14_23_103 rfl (by omega) (Nat.zero_le _) (Nat.zero_le _) ⟨_, _, rfl, rfl, by omega, (zz_nmx (by omega) (by omega)).symm⟩
            by_cases c21 : (9 : Int) = 10
            · exfalso; omega
            exfalso; omega
          · exfalso; omega
    · refine zz_iload_n (x := p0) rfl zd_14_23_10 ?_
      refine zz_iconst zd_14_23_11 ?_
      refine zz_icmp_eq (by omega) (by omega) zd_14_23_12 (fun c23 => ?_) (fun c23 => ?_)
      · refine zz_iconst zd_14_23_21 ?_
        refine zz_goto zd_14_23_22 ?_
        refine zz_istore_n [some (zi p0), some (zi 9), some (zi 1)] zd_14_23_26 (by decide) rfl ?_
        refine zz_iload_n (x := p0) rfl zd_14_23_27 ?_
        refine zz_iconst zd_14_23_28 ?_
        refine zz_icmp_eq (by omega) (by omega) zd_14_23_29 (fun c24 => ?_) (fun c24 => ?_)
        · exfalso; omega
        · refine zz_iload_n (x := p0) rfl zd_14_23_32 ?_
          refine zz_bipush (by decide) zd_14_23_33 ?_
          refine zz_icmp_eq (by omega) (by omega) zd_14_23_35 (fun c25 => ?_) (fun c25 => ?_)
          · exfalso; omega
          · refine zz_iload_n (x := p0) rfl zd_14_23_38 ?_
            refine zz_bipush (by decide) zd_14_23_39 ?_
            refine zz_icmp_ne (by omega) (by omega) zd_14_23_41 (fun c26 => ?_) (fun c26 => ?_)
            · refine zz_iconst zd_14_23_48 ?_
              refine zz_istore_n [some (zi p0), some (zi 9), some (zi 1), some (zi 0)] zd_14_23_49 (by decide) rfl ?_
              refine zz_iload_n (x := 9) rfl zd_14_23_50 ?_
              by_cases c27 : (9 : Int) = 5
              · exfalso; omega
              by_cases c28 : (9 : Int) = 6
              · exfalso; omega
              by_cases c29 : (9 : Int) = 7
              · exfalso; omega
              by_cases c30 : (9 : Int) = 8
              · exfalso; omega
              by_cases c31 : (9 : Int) = 9
              · refine zz_swIn 9 51 c31 (by decide) zd_14_23_51 rfl rfl ?_
                refine zz_iload_n (x := 0) rfl zd_14_23_102 ?_
                exact zz_zret zd_14_23_103 rfl (by omega) (Nat.zero_le _) (Nat.zero_le _) ⟨_, _, rfl, rfl, by omega, (zz_nmx (by omega) (by omega)).symm⟩
              by_cases c32 : (9 : Int) = 10
              · exfalso; omega
              exfalso; omega
            · exfalso; omega
      · refine zz_iload_n (x := p0) rfl zd_14_23_15 ?_
        refine zz_bipush (by decide) zd_14_23_16 ?_
        refine zz_icmp_ne (by omega) (by omega) zd_14_23_18 (fun c34 => ?_) (fun c34 => ?_)
        · refine zz_iconst zd_14_23_25 ?_
          refine zz_istore_n [some (zi p0), some (zi 9), some (zi 0)] zd_14_23_26 (by decide) rfl ?_
          refine zz_iload_n (x := p0) rfl zd_14_23_27 ?_
          refine zz_iconst zd_14_23_28 ?_
          refine zz_icmp_eq (by omega) (by omega) zd_14_23_29 (fun c35 => ?_) (fun c35 => ?_)
          · refine zz_iconst zd_14_23_44 ?_
            refine zz_goto zd_14_23_45 ?_
            refine zz_istore_n [some (zi p0), some (zi 9), some (zi 0), some (zi 1)] zd_14_23_49 (by decide) rfl ?_
            refine zz_iload_n (x := 9) rfl zd_14_23_50 ?_
            by_cases c36 : (9 : Int) = 5
            · exfalso; omega
            by_cases c37 : (9 : Int) = 6
            · exfalso; omega
            by_cases c38 : (9 : Int) = 7
            · exfalso; omega
            by_cases c39 : (9 : Int) = 8
            · exfalso; omega
            by_cases c40 : (9 : Int) = 9
            · refine zz_swIn 9 51 c40 (by decide) zd_14_23_51 rfl rfl ?_
              refine zz_iload_n (x := 1) rfl zd_14_23_102 ?_
              exact zz_zret zd_14_23_103 rfl (by omega) (Nat.zero_le _) (Nat.zero_le _) ⟨_, _, rfl, rfl, by omega, (zz_nmx (by omega) (by omega)).symm⟩
            by_cases c41 : (9 : Int) = 10
            · exfalso; omega
            exfalso; omega
          · refine zz_iload_n (x := p0) rfl zd_14_23_32 ?_
            refine zz_bipush (by decide) zd_14_23_33 ?_
            refine zz_icmp_eq (by omega) (by omega) zd_14_23_35 (fun c43 => ?_) (fun c43 => ?_)
            · refine zz_iconst zd_14_23_44 ?_
              refine zz_goto zd_14_23_45 ?_
              refine zz_istore_n [some (zi p0), some (zi 9), some (zi 0), some (zi 1)] zd_14_23_49 (by decide) rfl ?_
              refine zz_iload_n (x := 9) rfl zd_14_23_50 ?_
              by_cases c44 : (9 : Int) = 5
              · exfalso; omega
              by_cases c45 : (9 : Int) = 6
              · exfalso; omega
              by_cases c46 : (9 : Int) = 7
              · exfalso; omega
              by_cases c47 : (9 : Int) = 8
              · exfalso; omega
              by_cases c48 : (9 : Int) = 9
              · refine zz_swIn 9 51 c48 (by decide) zd_14_23_51 rfl rfl ?_
                refine zz_iload_n (x := 1) rfl zd_14_23_102 ?_
                exact zz_zret zd_14_23_103 rfl (by omega) (Nat.zero_le _) (Nat.zero_le _) ⟨_, _, rfl, rfl, by omega, (zz_nmx (by omega) (by omega)).symm⟩
              by_cases c49 : (9 : Int) = 10
              · exfalso; omega
              exfalso; omega
            · refine zz_iload_n (x := p0) rfl zd_14_23_38 ?_
              refine zz_bipush (by decide) zd_14_23_39 ?_
              refine zz_icmp_ne (by omega) (by omega) zd_14_23_41 (fun c51 => ?_) (fun c51 => ?_)
              · refine zz_iconst zd_14_23_48 ?_
                refine zz_istore_n [some (zi p0), some (zi 9), some (zi 0), some (zi 0)] zd_14_23_49 (by decide) rfl ?_
                refine zz_iload_n (x := 9) rfl zd_14_23_50 ?_
                by_cases c52 : (9 : Int) = 5
                · exfalso; omega
                by_cases c53 : (9 : Int) = 6
                · exfalso; omega
                by_cases c54 : (9 : Int) = 7
                · exfalso; omega
                by_cases c55 : (9 : Int) = 8
                · exfalso; omega
                by_cases c56 : (9 : Int) = 9
                · refine zz_swIn 9 51 c56 (by decide) zd_14_23_51 rfl rfl ?_
                  refine zz_iload_n (x := 0) rfl zd_14_23_102 ?_
                  exact zz_zret zd_14_23_103 rfl (by omega) (Nat.zero_le _) (Nat.zero_le _) ⟨_, _, rfl, rfl, by omega, (zz_nmx (by omega) (by omega)).symm⟩
                by_cases c57 : (9 : Int) = 10
                · exfalso; omega
                exfalso; omega
              · refine zz_iconst zd_14_23_44 ?_
                refine zz_goto zd_14_23_45 ?_
                refine zz_istore_n [some (zi p0), some (zi 9), some (zi 0), some (zi 1)] zd_14_23_49 (by decide) rfl ?_
                refine zz_iload_n (x := 9) rfl zd_14_23_50 ?_
                by_cases c59 : (9 : Int) = 5
                · exfalso; omega
                by_cases c60 : (9 : Int) = 6
                · exfalso; omega
                by_cases c61 : (9 : Int) = 7
                · exfalso; omega
                by_cases c62 : (9 : Int) = 8
                · exfalso; omega
                by_cases c63 : (9 : Int) = 9
                · refine zz_swIn 9 51 c63 (by decide) zd_14_23_51 rfl rfl ?_
                  refine zz_iload_n (x := 1) rfl zd_14_23_102 ?_
                  exact zz_zret zd_14_23_103 rfl (by omega) (Nat.zero_le _) (Nat.zero_le _) ⟨_, _, rfl, rfl, by omega, (zz_nmx (by omega) (by omega)).symm⟩
                by_cases c64 : (9 : Int) = 10
                · exfalso; omega
                exfalso; omega
        · refine zz_iconst zd_14_23_21 ?_
          refine zz_goto zd_14_23_22 ?_
          refine zz_istore_n [some (zi p0), some (zi 9), some (zi 1)] zd_14_23_26 (by decide) rfl ?_
          refine zz_iload_n (x := p0) rfl zd_14_23_27 ?_
          refine zz_iconst zd_14_23_28 ?_
          refine zz_icmp_eq (by omega) (by omega) zd_14_23_29 (fun c66 => ?_) (fun c66 => ?_)
          · exfalso; omega
          · refine zz_iload_n (x := p0) rfl zd_14_23_32 ?_
            refine zz_bipush (by decide) zd_14_23_33 ?_
            refine zz_icmp_eq (by omega) (by omega) zd_14_23_35 (fun c67 => ?_) (fun c67 => ?_)
            · exfalso; omega
            · refine zz_iload_n (x := p0) rfl zd_14_23_38 ?_
              refine zz_bipush (by decide) zd_14_23_39 ?_
              refine zz_icmp_ne (by omega) (by omega) zd_14_23_41 (fun c68 => ?_) (fun c68 => ?_)
              · refine zz_iconst zd_14_23_48 ?_
                refine zz_istore_n [some (zi p0), some (zi 9), some (zi 1), some (zi 0)] zd_14_23_49 (by decide) rfl ?_
                refine zz_iload_n (x := 9) rfl zd_14_23_50 ?_
                by_cases c69 : (9 : Int) = 5
                · exfalso; omega
                by_cases c70 : (9 : Int) = 6
                · exfalso; omega
                by_cases c71 : (9 : Int) = 7
                · exfalso; omega
                by_cases c72 : (9 : Int) = 8
                · exfalso; omega
                by_cases c73 : (9 : Int) = 9
                · refine zz_swIn 9 51 c73 (by decide) zd_14_23_51 rfl rfl ?_
                  refine zz_iload_n (x := 0) rfl zd_14_23_102 ?_
                  exact zz_zret zd_14_23_103 rfl (by omega) (Nat.zero_le _) (Nat.zero_le _) ⟨_, _, rfl, rfl, by omega, (zz_nmx (by omega) (by omega)).symm⟩
                by_cases c74 : (9 : Int) = 10
                · exfalso; omega
                exfalso; omega
              · exfalso; omega
-- TensorForgeModel names (II)Z
abbrev zr_names_14_23x_10 : Room := { frames := 0, cells := 0, slots := 0, locals := 0 }
def zp_names_14_23x_10 (p0 : Int) (S0 : zz_S) : Int → zz_S → Prop := fun r S => S0 = S ∧ (0 ≤ r ∧ r ≤ 1) ∧ (r = zz_nm p0 10)
theorem zc_names_14_23x_10 {g : mm_G} {l : Launch} (p0 : Int) (S0 : zz_S) (n : Nat) (hn : zz_end ≤ n) (G_S0 : zz_G S0) (hp0 : (-2147483648) ≤ p0 ∧ p0 ≤ 2147483647) : mm_Met g l zy_names_14_23 zr_names_14_23x_10 [zi p0, zi 10] (zz_M S0 n) n (zz_QI n (zp_names_14_23x_10 p0 S0)) := by
  refine zz_enter (by decide) (Nat.le_of_ble_eq_true rfl) (zz_less (ls1 := [some (zi p0), some (zi 10)]) ⟨rfl, ⟨rfl, trivial⟩⟩ ?_)
  refine zz_iload_n (x := p0) rfl zd_14_23_0 ?_
  refine zz_iconst zd_14_23_1 ?_
  refine zz_icmp_eq (by omega) (by omega) zd_14_23_2 (fun c1 => ?_) (fun c1 => ?_)
  · refine zz_iconst zd_14_23_21 ?_
    refine zz_goto zd_14_23_22 ?_
    refine zz_istore_n [some (zi p0), some (zi 10), some (zi 1)] zd_14_23_26 (by decide) rfl ?_
    refine zz_iload_n (x := p0) rfl zd_14_23_27 ?_
    refine zz_iconst zd_14_23_28 ?_
    refine zz_icmp_eq (by omega) (by omega) zd_14_23_29 (fun c2 => ?_) (fun c2 => ?_)
    · exfalso; omega
    · refine zz_iload_n (x := p0) rfl zd_14_23_32 ?_
      refine zz_bipush (by decide) zd_14_23_33 ?_
      refine zz_icmp_eq (by omega) (by omega) zd_14_23_35 (fun c3 => ?_) (fun c3 => ?_)
      · exfalso; omega
      · refine zz_iload_n (x := p0) rfl zd_14_23_38 ?_
        refine zz_bipush (by decide) zd_14_23_39 ?_
        refine zz_icmp_ne (by omega) (by omega) zd_14_23_41 (fun c4 => ?_) (fun c4 => ?_)
        · refine zz_iconst zd_14_23_48 ?_
          refine zz_istore_n [some (zi p0), some (zi 10), some (zi 1), some (zi 0)] zd_14_23_49 (by decide) rfl ?_
          refine zz_iload_n (x := 10) rfl zd_14_23_50 ?_
          by_cases c5 : (10 : Int) = 5
          · exfalso; omega
          by_cases c6 : (10 : Int) = 6
          · exfalso; omega
          by_cases c7 : (10 : Int) = 7
          · exfalso; omega
          by_cases c8 : (10 : Int) = 8
          · exfalso; omega
          by_cases c9 : (10 : Int) = 9
          · exfalso; omega
          by_cases c10 : (10 : Int) = 10
          · refine zz_swIn 10 53 c10 (by decide) zd_14_23_51 rfl rfl ?_
            refine zz_iload_n (x := 1) rfl zd_14_23_104 ?_
            refine zz_if_ne (by omega) zd_14_23_105 (fun c11 => ?_) (fun c11 => ?_)
            · refine zz_iconst zd_14_23_113 ?_
              refine zz_goto zd_14_23_114 ?_
              exact zz_zret zd_14_23_118 rfl (by omega) (Nat.zero_le _) (Nat.zero_le _) ⟨_, _, rfl, rfl, by omega, (zz_nmx (by omega) (by omega)).symm⟩
            · exfalso; omega
          exfalso; omega
        · exfalso; omega
  · refine zz_iload_n (x := p0) rfl zd_14_23_5 ?_
    refine zz_iconst zd_14_23_6 ?_
    refine zz_icmp_eq (by omega) (by omega) zd_14_23_7 (fun c13 => ?_) (fun c13 => ?_)
    · refine zz_iconst zd_14_23_21 ?_
      refine zz_goto zd_14_23_22 ?_
      refine zz_istore_n [some (zi p0), some (zi 10), some (zi 1)] zd_14_23_26 (by decide) rfl ?_
      refine zz_iload_n (x := p0) rfl zd_14_23_27 ?_
      refine zz_iconst zd_14_23_28 ?_
      refine zz_icmp_eq (by omega) (by omega) zd_14_23_29 (fun c14 => ?_) (fun c14 => ?_)
      · exfalso; omega
      · refine zz_iload_n (x := p0) rfl zd_14_23_32 ?_
        refine zz_bipush (by decide) zd_14_23_33 ?_
        refine zz_icmp_eq (by omega) (by omega) zd_14_23_35 (fun c15 => ?_) (fun c15 => ?_)
        · exfalso; omega
        · refine zz_iload_n (x := p0) rfl zd_14_23_38 ?_
          refine zz_bipush (by decide) zd_14_23_39 ?_
          refine zz_icmp_ne (by omega) (by omega) zd_14_23_41 (fun c16 => ?_) (fun c16 => ?_)
          · refine zz_iconst zd_14_23_48 ?_
            refine zz_istore_n [some (zi p0), some (zi 10), some (zi 1), some (zi 0)] zd_14_23_49 (by decide) rfl ?_
            refine zz_iload_n (x := 10) rfl zd_14_23_50 ?_
            by_cases c17 : (10 : Int) = 5
            · exfalso; omega
            by_cases c18 : (10 : Int) = 6
            · exfalso; omega
            by_cases c19 : (10 : Int) = 7
            · exfalso; omega
            by_cases c20 : (10 : Int) = 8
            · exfalso; omega
            by_cases c21 : (10 : Int) = 9
            · exfalso; omega
            by_cases c22 : (10 : Int) = 10
            · refine zz_swIn 10 53 c22 (by decide) zd_14_23_51 rfl rfl ?_
              refine zz_iload_n (x := 1) rfl zd_14_23_104 ?_
              refine zz_if_ne (by omega) zd_14_23_105 (fun c23 => ?_) (fun c23 => ?_)
              · refine zz_iconst zd_14_23_113 ?_
                refine zz_goto zd_14_23_114 ?_
                exact zz_zret zd_14_23_118 rfl (by omega) (Nat.zero_le _) (Nat.zero_le _) ⟨_, _, rfl, rfl, by omega, (zz_nmx (by omega) (by omega)).symm⟩
              · exfalso; omega
            exfalso; omega
          · exfalso; omega
    · refine zz_iload_n (x := p0) rfl zd_14_23_10 ?_
      refine zz_iconst zd_14_23_11 ?_
      refine zz_icmp_eq (by omega) (by omega) zd_14_23_12 (fun c25 => ?_) (fun c25 => ?_)
      · refine zz_iconst zd_14_23_21 ?_
        refine zz_goto zd_14_23_22 ?_
        refine zz_istore_n [some (zi p0), some (zi 10), some (zi 1)] zd_14_23_26 (by decide) rfl ?_
        refine zz_iload_n (x := p0) rfl zd_14_23_27 ?_
        refine zz_iconst zd_14_23_28 ?_
        refine zz_icmp_eq (by omega) (by omega) zd_14_23_29 (fun c26 => ?_) (fun c26 => ?_)
        · exfalso; omega
        · refine zz_iload_n (x := p0) rfl zd_14_23_32 ?_
          refine zz_bipush (by decide) zd_14_23_33 ?_
          refine zz_icmp_eq (by omega) (by omega) zd_14_23_35 (fun c27 => ?_) (fun c27 => ?_)
          · exfalso; omega
          · refine zz_iload_n (x := p0) rfl zd_14_23_38 ?_
            refine zz_bipush (by decide) zd_14_23_39 ?_
            refine zz_icmp_ne (by omega) (by omega) zd_14_23_41 (fun c28 => ?_) (fun c28 => ?_)
            · refine zz_iconst zd_14_23_48 ?_
              refine zz_istore_n [some (zi p0), some (zi 10), some (zi 1), some (zi 0)] zd_14_23_49 (by decide) rfl ?_
              refine zz_iload_n (x := 10) rfl zd_14_23_50 ?_
              by_cases c29 : (10 : Int) = 5
              · exfalso; omega
              by_cases c30 : (10 : Int) = 6
              · exfalso; omega
              by_cases c31 : (10 : Int) = 7
              · exfalso; omega
              by_cases c32 : (10 : Int) = 8
              · exfalso; omega
              by_cases c33 : (10 : Int) = 9
              · exfalso; omega
              by_cases c34 : (10 : Int) = 10
              · refine zz_swIn 10 53 c34 (by decide) zd_14_23_51 rfl rfl ?_
                refine zz_iload_n (x := 1) rfl zd_14_23_104 ?_
                refine zz_if_ne (by omega) zd_14_23_105 (fun c35 => ?_) (fun c35 => ?_)
                · refine zz_iconst zd_14_23_113 ?_
                  refine zz_goto zd_14_23_114 ?_
                  exact zz_zret zd_14_23_118 rfl (by omega) (Nat.zero_le _) (Nat.zero_le _) ⟨_, _, rfl, rfl, by omega, (zz_nmx (by omega) (by omega)).symm⟩
                · exfalso; omega
              exfalso; omega
            · exfalso; omega
      · refine zz_iload_n (x := p0) rfl zd_14_23_15 ?_
        refine zz_bipush (by decide) zd_14_23_16 ?_
        refine zz_icmp_ne (by omega) (by omega) zd_14_23_18 (fun c37 => ?_) (fun c37 => ?_)
        · refine zz_iconst zd_14_23_25 ?_
          refine zz_istore_n [some (zi p0), some (zi 10), some (zi 0)] zd_14_23_26 (by decide) rfl ?_
          refine zz_iload_n (x := p0) rfl zd_14_23_27 ?_
          refine zz_iconst zd_14_23_28 ?_
          refine zz_icmp_eq (by omega) (by omega) zd_14_23_29 (fun c38 => ?_) (fun c38 => ?_)
          · refine zz_iconst zd_14_23_44 ?_
            refine zz_goto zd_14_23_45 ?_
            refine zz_istore_n [some (zi p0), some (zi 10), some (zi 0), some (zi 1)] zd_14_23_49 (by decide) rfl ?_
            refine zz_iload_n (x := 10) rfl zd_14_23_50 ?_
            by_cases c39 : (10 : Int) = 5
            · exfalso; omega
            by_cases c40 : (10 : Int) = 6
            · exfalso; omega
            by_cases c41 : (10 : Int) = 7
            · exfalso; omega
            by_cases c42 : (10 : Int) = 8
            · exfalso; omega
            by_cases c43 : (10 : Int) = 9
            · exfalso; omega
            by_cases c44 : (10 : Int) = 10
            · refine zz_swIn 10 53 c44 (by decide) zd_14_23_51 rfl rfl ?_
              refine zz_iload_n (x := 0) rfl zd_14_23_104 ?_
              refine zz_if_ne (by omega) zd_14_23_105 (fun c45 => ?_) (fun c45 => ?_)
              · exfalso; omega
              · refine zz_iload_n (x := p0) rfl zd_14_23_108 ?_
                refine zz_iconst zd_14_23_109 ?_
                refine zz_icmp_ne (by omega) (by omega) zd_14_23_110 (fun c46 => ?_) (fun c46 => ?_)
                · exfalso; omega
                · refine zz_iconst zd_14_23_113 ?_
                  refine zz_goto zd_14_23_114 ?_
                  exact zz_zret zd_14_23_118 rfl (by omega) (Nat.zero_le _) (Nat.zero_le _) ⟨_, _, rfl, rfl, by omega, (zz_nmx (by omega) (by omega)).symm⟩
            exfalso; omega
          · refine zz_iload_n (x := p0) rfl zd_14_23_32 ?_
            refine zz_bipush (by decide) zd_14_23_33 ?_
            refine zz_icmp_eq (by omega) (by omega) zd_14_23_35 (fun c48 => ?_) (fun c48 => ?_)
            · refine zz_iconst zd_14_23_44 ?_
              refine zz_goto zd_14_23_45 ?_
              refine zz_istore_n [some (zi p0), some (zi 10), some (zi 0), some (zi 1)] zd_14_23_49 (by decide) rfl ?_
              refine zz_iload_n (x := 10) rfl zd_14_23_50 ?_
              by_cases c49 : (10 : Int) = 5
              · exfalso; omega
              by_cases c50 : (10 : Int) = 6
              · exfalso; omega
              by_cases c51 : (10 : Int) = 7
              · exfalso; omega
              by_cases c52 : (10 : Int) = 8
              · exfalso; omega
              by_cases c53 : (10 : Int) = 9
              · exfalso; omega
              by_cases c54 : (10 : Int) = 10
              · refine zz_swIn 10 53 c54 (by decide) zd_14_23_51 rfl rfl ?_
                refine zz_iload_n (x := 0) rfl zd_14_23_104 ?_
                refine zz_if_ne (by omega) zd_14_23_105 (fun c55 => ?_) (fun c55 => ?_)
                · exfalso; omega
                · refine zz_iload_n (x := p0) rfl zd_14_23_108 ?_
                  refine zz_iconst zd_14_23_109 ?_
                  refine zz_icmp_ne (by omega) (by omega) zd_14_23_110 (fun c56 => ?_) (fun c56 => ?_)
                  · refine zz_iconst zd_14_23_117 ?_
                    exact zz_zret zd_14_23_118 rfl (by omega) (Nat.zero_le _) (Nat.zero_le _) ⟨_, _, rfl, rfl, by omega, (zz_nmx (by omega) (by omega)).symm⟩
                  · exfalso; omega
              exfalso; omega
            · refine zz_iload_n (x := p0) rfl zd_14_23_38 ?_
              refine zz_bipush (by decide) zd_14_23_39 ?_
              refine zz_icmp_ne (by omega) (by omega) zd_14_23_41 (fun c58 => ?_) (fun c58 => ?_)
              · refine zz_iconst zd_14_23_48 ?_
                refine zz_istore_n [some (zi p0), some (zi 10), some (zi 0), some (zi 0)] zd_14_23_49 (by decide) rfl ?_
                refine zz_iload_n (x := 10) rfl zd_14_23_50 ?_
                by_cases c59 : (10 : Int) = 5
                · exfalso; omega
                by_cases c60 : (10 : Int) = 6
                · exfalso; omega
                by_cases c61 : (10 : Int) = 7
                · exfalso; omega
                by_cases c62 : (10 : Int) = 8
                · exfalso; omega
                by_cases c63 : (10 : Int) = 9
                · exfalso; omega
                by_cases c64 : (10 : Int) = 10
                · refine zz_swIn 10 53 c64 (by decide) zd_14_23_51 rfl rfl ?_
                  refine zz_iload_n (x := 0) rfl zd_14_23_104 ?_
                  refine zz_if_ne (by omega) zd_14_23_105 (fun c65 => ?_) (fun c65 => ?_)
                  · exfalso; omega
                  · refine zz_iload_n (x := p0) rfl zd_14_23_108 ?_
                    refine zz_iconst zd_14_23_109 ?_
                    refine zz_icmp_ne (by omega) (by omega) zd_14_23_110 (fun c66 => ?_) (fun c66 => ?_)
                    · refine zz_iconst zd_14_23_117 ?_
                      exact zz_zret zd_14_23_118 rfl (by omega) (Nat.zero_le _) (Nat.zero_le _) ⟨_, _, rfl, rfl, by omega, (zz_nmx (by omega) (by omega)).symm⟩
                    · refine zz_iconst zd_14_23_113 ?_
                      refine zz_goto zd_14_23_114 ?_
                      exact zz_zret zd_14_23_118 rfl (by omega) (Nat.zero_le _) (Nat.zero_le _) ⟨_, _, rfl, rfl, by omega, (zz_nmx (by omega) (by omega)).symm⟩
                exfalso; omega
              · refine zz_iconst zd_14_23_44 ?_
                refine zz_goto zd_14_23_45 ?_
                refine zz_istore_n [some (zi p0), some (zi 10), some (zi 0), some (zi 1)] zd_14_23_49 (by decide) rfl ?_
                refine zz_iload_n (x := 10) rfl zd_14_23_50 ?_
                by_cases c68 : (10 : Int) = 5
                · exfalso; omega
                by_cases c69 : (10 : Int) = 6
                · exfalso; omega
                by_cases c70 : (10 : Int) = 7
                · exfalso; omega
                by_cases c71 : (10 : Int) = 8
                · exfalso; omega
                by_cases c72 : (10 : Int) = 9
                · exfalso; omega
                by_cases c73 : (10 : Int) = 10
                · refine zz_swIn 10 53 c73 (by decide) zd_14_23_51 rfl rfl ?_
                  refine zz_iload_n (x := 0) rfl zd_14_23_104 ?_
                  refine zz_if_ne (by omega) zd_14_23_105 (fun c74 => ?_) (fun c74 => ?_)
                  · exfalso; omega
                  · refine zz_iload_n (x := p0) rfl zd_14_23_108 ?_
                    refine zz_iconst zd_14_23_109 ?_
                    refine zz_icmp_ne (by omega) (by omega) zd_14_23_110 (fun c75 => ?_) (fun c75 => ?_)
                    · refine zz_iconst zd_14_23_117 ?_
                      exact zz_zret zd_14_23_118 rfl (by omega) (Nat.zero_le _) (Nat.zero_le _) ⟨_, _, rfl, rfl, by omega, (zz_nmx (by omega) (by omega)).symm⟩
                    · exfalso; omega
                exfalso; omega
        · refine zz_iconst zd_14_23_21 ?_
          refine zz_goto zd_14_23_22 ?_
          refine zz_istore_n [some (zi p0), some (zi 10), some (zi 1)] zd_14_23_26 (by decide) rfl ?_
          refine zz_iload_n (x := p0) rfl zd_14_23_27 ?_
          refine zz_iconst zd_14_23_28 ?_
          refine zz_icmp_eq (by omega) (by omega) zd_14_23_29 (fun c77 => ?_) (fun c77 => ?_)
          · exfalso; omega
          · refine zz_iload_n (x := p0) rfl zd_14_23_32 ?_
            refine zz_bipush (by decide) zd_14_23_33 ?_
            refine zz_icmp_eq (by omega) (by omega) zd_14_23_35 (fun c78 => ?_) (fun c78 => ?_)
            · exfalso; omega
            · refine zz_iload_n (x := p0) rfl zd_14_23_38 ?_
              refine zz_bipush (by decide) zd_14_23_39 ?_
              refine zz_icmp_ne (by omega) (by omega) zd_14_23_41 (fun c79 => ?_) (fun c79 => ?_)
              · refine zz_iconst zd_14_23_48 ?_
                refine zz_istore_n [some (zi p0), some (zi 10), some (zi 1), some (zi 0)] zd_14_23_49 (by decide) rfl ?_
                refine zz_iload_n (x := 10) rfl zd_14_23_50 ?_
                by_cases c80 : (10 : Int) = 5
                · exfalso; omega
                by_cases c81 : (10 : Int) = 6
                · exfalso; omega
                by_cases c82 : (10 : Int) = 7
                · exfalso; omega
                by_cases c83 : (10 : Int) = 8
                · exfalso; omega
                by_cases c84 : (10 : Int) = 9
                · exfalso; omega
                by_cases c85 : (10 : Int) = 10
                · refine zz_swIn 10 53 c85 (by decide) zd_14_23_51 rfl rfl ?_
                  refine zz_iload_n (x := 1) rfl zd_14_23_104 ?_
                  refine zz_if_ne (by omega) zd_14_23_105 (fun c86 => ?_) (fun c86 => ?_)
                  · refine zz_iconst zd_14_23_113 ?_
                    refine zz_goto zd_14_23_114 ?_
                    exact zz_zret zd_14_23_118 rfl (by omega) (Nat.zero_le _) (Nat.zero_le _) ⟨_, _, rfl, rfl, by omega, (zz_nmx (by omega) (by omega)).symm⟩
                  · exfalso; omega
                exfalso; omega
              · exfalso; omega

-- TensorForgeModel names (II)Z
abbrev zr_names_14_23x_11 : Room := { frames := 0, cells := 0, slots := 0, locals := 0 }
def zp_names_14_23x_11 (p0 : Int) (S0 : zz_S) : Int → zz_S → Prop := fun r S => S0 = S ∧ (0 ≤ r ∧ r ≤ 1) ∧ (r = zz_nm p0 11)
theorem zc_names_14_23x_11 {g : mm_G} {l : Launch} (p0 : Int) (S0 : zz_S) (n : Nat) (hn : zz_end ≤ n) (G_S0 : zz_G S0) (hp0 : (-2147483648) ≤ p0 ∧ p0 ≤ 2147483647) : mm_Met g l zy_names_14_23 zr_names_14_23x_11 [zi p0, zi 11] (zz_M S0 n) n (zz_QI n (zp_names_14_23x_11 p0 S0)) := by
  refine zz_enter (by decide) (Nat.le_of_ble_eq_true rfl) (zz_less (ls1 := [some (zi p0), some (zi 11)]) ⟨rfl, ⟨rfl, trivial⟩⟩ ?_)
  refine zz_iload_n (x := p0) rfl zd_14_23_0 ?_
  refine zz_iconst zd_14_23_1 ?_
  refine zz_icmp_eq (by omega) (by omega) zd_14_23_2 (fun c1 => ?_) (fun c1 => ?_)
  · refine zz_iconst zd_14_23_21 ?_
    refine zz_goto zd_14_23_22 ?_
    refine zz_istore_n [some (zi p0), some (zi 11), some (zi 1)] zd_14_23_26 (by decide) rfl ?_
    refine zz_iload_n (x := p0) rfl zd_14_23_27 ?_
    refine zz_iconst zd_14_23_28 ?_
    refine zz_icmp_eq (by omega) (by omega) zd_14_23_29 (fun c2 => ?_) (fun c2 => ?_)
    · exfalso; omega
    · refine zz_iload_n (x := p0) rfl zd_14_23_32 ?_
      refine zz_bipush (by decide) zd_14_23_33 ?_
      refine zz_icmp_eq (by omega) (by omega) zd_14_23_35 (fun c3 => ?_) (fun c3 => ?_)
      · exfalso; omega
      · refine zz_iload_n (x := p0) rfl zd_14_23_38 ?_
        refine zz_bipush (by decide) zd_14_23_39 ?_
        refine zz_icmp_ne (by omega) (by omega) zd_14_23_41 (fun c4 => ?_) (fun c4 => ?_)
        · refine zz_iconst zd_14_23_48 ?_
          refine zz_istore_n [some (zi p0), some (zi 11), some (zi 1), some (zi 0)] zd_14_23_49 (by decide) rfl ?_
          refine zz_iload_n (x := 11) rfl zd_14_23_50 ?_
          by_cases c5 : (11 : Int) = 5
          · exfalso; omega
          by_cases c6 : (11 : Int) = 6
          · exfalso; omega
          by_cases c7 : (11 : Int) = 7
          · exfalso; omega
          by_cases c8 : (11 : Int) = 8
          · exfalso; omega
          by_cases c9 : (11 : Int) = 9
          · exfalso; omega
          by_cases c10 : (11 : Int) = 10
          · exfalso; omega
          refine zz_swOut (by omega) (by omega) zd_14_23_51 rfl ?_
          refine zz_iload_n (x := 0) rfl zd_14_23_119 ?_
          refine zz_if_ne (by omega) zd_14_23_120 (fun c12 => ?_) (fun c12 => ?_)
          · exfalso; omega
          · refine zz_iload_n (x := p0) rfl zd_14_23_123 ?_
            refine zz_bipush (by decide) zd_14_23_124 ?_
            refine zz_icmp_ne (by omega) (by omega) zd_14_23_126 (fun c13 => ?_) (fun c13 => ?_)
            · refine zz_iconst zd_14_23_133 ?_
              exact zz_zret zd_14_23_134 rfl (by omega) (Nat.zero_le _) (Nat.zero_le _) ⟨_, _, rfl, rfl, by omega, (zz_nmx (by omega) (by omega)).symm⟩
            · exfalso; omega
        · exfalso; omega
  · refine zz_iload_n (x := p0) rfl zd_14_23_5 ?_
    refine zz_iconst zd_14_23_6 ?_
    refine zz_icmp_eq (by omega) (by omega) zd_14_23_7 (fun c14 => ?_) (fun c14 => ?_)
    · refine zz_iconst zd_14_23_21 ?_
      refine zz_goto zd_14_23_22 ?_
      refine zz_istore_n [some (zi p0), some (zi 11), some (zi 1)] zd_14_23_26 (by decide) rfl ?_
      refine zz_iload_n (x := p0) rfl zd_14_23_27 ?_
      refine zz_iconst zd_14_23_28 ?_
      refine zz_icmp_eq (by omega) (by omega) zd_14_23_29 (fun c15 => ?_) (fun c15 => ?_)
      · exfalso; omega
      · refine zz_iload_n (x := p0) rfl zd_14_23_32 ?_
        refine zz_bipush (by decide) zd_14_23_33 ?_
        refine zz_icmp_eq (by omega) (by omega) zd_14_23_35 (fun c16 => ?_) (fun c16 => ?_)
        · exfalso; omega
        · refine zz_iload_n (x := p0) rfl zd_14_23_38 ?_
          refine zz_bipush (by decide) zd_14_23_39 ?_
          refine zz_icmp_ne (by omega) (by omega) zd_14_23_41 (fun c17 => ?_) (fun c17 => ?_)
          · refine zz_iconst zd_14_23_48 ?_
            refine zz_istore_n [some (zi p0), some (zi 11), some (zi 1), some (zi 0)] zd_14_23_49 (by decide) rfl ?_
            refine zz_iload_n (x := 11) rfl zd_14_23_50 ?_
            by_cases c18 : (11 : Int) = 5
            · exfalso; omega
            by_cases c19 : (11 : Int) = 6
            · exfalso; omega
            by_cases c20 : (11 : Int) = 7
            · exfalso; omega
            by_cases c21 : (11 : Int) = 8
            · exfalso; omega
            by_cases c22 : (11 : Int) = 9
            · exfalso; omega
            by_cases c23 : (11 : Int) = 10
            · exfalso; omega
            refine zz_swOut (by omega) (by omega) zd_14_23_51 rfl ?_
            refine zz_iload_n (x := 0) rfl zd_14_23_119 ?_
            refine zz_if_ne (by omega) zd_14_23_120 (fun c25 => ?_) (fun c25 => ?_)
            · exfalso; omega
            · refine zz_iload_n (x := p0) rfl zd_14_23_123 ?_
              refine zz_bipush (by decide) zd_14_23_124 ?_
              refine zz_icmp_ne (by omega) (by omega) zd_14_23_126 (fun c26 => ?_) (fun c26 => ?_)
              · refine zz_iconst zd_14_23_133 ?_
                exact zz_zret zd_14_23_134 rfl (by omega) (Nat.zero_le _) (Nat.zero_le _) ⟨_, _, rfl, rfl, by omega, (zz_nmx (by omega) (by omega)).symm⟩
              · exfalso; omega
          · exfalso; omega
    · refine zz_iload_n (x := p0) rfl zd_14_23_10 ?_
      refine zz_iconst zd_14_23_11 ?_
      refine zz_icmp_eq (by omega) (by omega) zd_14_23_12 (fun c27 => ?_) (fun c27 => ?_)
      · refine zz_iconst zd_14_23_21 ?_
        refine zz_goto zd_14_23_22 ?_
        refine zz_istore_n [some (zi p0), some (zi 11), some (zi 1)] zd_14_23_26 (by decide) rfl ?_
        refine zz_iload_n (x := p0) rfl zd_14_23_27 ?_
        refine zz_iconst zd_14_23_28 ?_
        refine zz_icmp_eq (by omega) (by omega) zd_14_23_29 (fun c28 => ?_) (fun c28 => ?_)
        · exfalso; omega
        · refine zz_iload_n (x := p0) rfl zd_14_23_32 ?_
          refine zz_bipush (by decide) zd_14_23_33 ?_
          refine zz_icmp_eq (by omega) (by omega) zd_14_23_35 (fun c29 => ?_) (fun c29 => ?_)
          · exfalso; omega
          · refine zz_iload_n (x := p0) rfl zd_14_23_38 ?_
            refine zz_bipush (by decide) zd_14_23_39 ?_
            refine zz_icmp_ne (by omega) (by omega) zd_14_23_41 (fun c30 => ?_) (fun c30 => ?_)
            · refine zz_iconst zd_14_23_48 ?_
              refine zz_istore_n [some (zi p0), some (zi 11), some (zi 1), some (zi 0)] zd_14_23_49 (by decide) rfl ?_
              refine zz_iload_n (x := 11) rfl zd_14_23_50 ?_
              by_cases c31 : (11 : Int) = 5
              · exfalso; omega
              by_cases c32 : (11 : Int) = 6
              · exfalso; omega
              by_cases c33 : (11 : Int) = 7
              · exfalso; omega
              by_cases c34 : (11 : Int) = 8
              · exfalso; omega
              by_cases c35 : (11 : Int) = 9
              · exfalso; omega
              by_cases c36 : (11 : Int) = 10
              · exfalso; omega
              refine zz_swOut (by omega) (by omega) zd_14_23_51 rfl ?_
              refine zz_iload_n (x := 0) rfl zd_14_23_119 ?_
              refine zz_if_ne (by omega) zd_14_23_120 (fun c38 => ?_) (fun c38 => ?_)
              · exfalso; omega
              · refine zz_iload_n (x := p0) rfl zd_14_23_123 ?_
                refine zz_bipush (by decide) zd_14_23_124 ?_
                refine zz_icmp_ne (by omega) (by omega) zd_14_23_126 (fun c39 => ?_) (fun c39 => ?_)
                · refine zz_iconst zd_14_23_133 ?_
                  exact zz_zret zd_14_23_134 rfl (by omega) (Nat.zero_le _) (Nat.zero_le _) ⟨_, _, rfl, rfl, by omega, (zz_nmx (by omega) (by omega)).symm⟩
                · exfalso; omega
            · exfalso; omega
      · refine zz_iload_n (x := p0) rfl zd_14_23_15 ?_
        refine zz_bipush (by decide) zd_14_23_16 ?_
        refine zz_icmp_ne (by omega) (by omega) zd_14_23_18 (fun c40 => ?_) (fun c40 => ?_)
        · refine zz_iconst zd_14_23_25 ?_
          refine zz_istore_n [some (zi p0), some (zi 11), some (zi 0)] zd_14_23_26 (by decide) rfl ?_
          refine zz_iload_n (x := p0) rfl zd_14_23_27 ?_
          refine zz_iconst zd_14_23_28 ?_
          refine zz_icmp_eq (by omega) (by omega) zd_14_23_29 (fun c41 => ?_) (fun c41 => ?_)
          · refine zz_iconst zd_14_23_44 ?_
            refine zz_goto zd_14_23_45 ?_
            refine zz_istore_n [some (zi p0), some (zi 11), some (zi 0), some (zi 1)] zd_14_23_49 (by decide) rfl ?_
            refine zz_iload_n (x := 11) rfl zd_14_23_50 ?_
            by_cases c42 : (11 : Int) = 5
            · exfalso; omega
            by_cases c43 : (11 : Int) = 6
            · exfalso; omega
            by_cases c44 : (11 : Int) = 7
            · exfalso; omega
            by_cases c45 : (11 : Int) = 8
            · exfalso; omega
            by_cases c46 : (11 : Int) = 9
            · exfalso; omega
            by_cases c47 : (11 : Int) = 10
            · exfalso; omega
            refine zz_swOut (by omega) (by omega) zd_14_23_51 rfl ?_
            refine zz_iload_n (x := 1) rfl zd_14_23_119 ?_
            refine zz_if_ne (by omega) zd_14_23_120 (fun c49 => ?_) (fun c49 => ?_)
            · refine zz_iconst zd_14_23_129 ?_
              refine zz_goto zd_14_23_130 ?_
              exact zz_zret zd_14_23_134 rfl (by omega) (Nat.zero_le _) (Nat.zero_le _) ⟨_, _, rfl, rfl, by omega, (zz_nmx (by omega) (by omega)).symm⟩
            · exfalso; omega
          · refine zz_iload_n (x := p0) rfl zd_14_23_32 ?_
            refine zz_bipush (by decide) zd_14_23_33 ?_
            refine zz_icmp_eq (by omega) (by omega) zd_14_23_35 (fun c50 => ?_) (fun c50 => ?_)
            · refine zz_iconst zd_14_23_44 ?_
              refine zz_goto zd_14_23_45 ?_
              refine zz_istore_n [some (zi p0), some (zi 11), some (zi 0), some (zi 1)] zd_14_23_49 (by decide) rfl ?_
              refine zz_iload_n (x := 11) rfl zd_14_23_50 ?_
              by_cases c51 : (11 : Int) = 5
              · exfalso; omega
              by_cases c52 : (11 : Int) = 6
              · exfalso; omega
              by_cases c53 : (11 : Int) = 7
              · exfalso; omega
              by_cases c54 : (11 : Int) = 8
              · exfalso; omega
              by_cases c55 : (11 : Int) = 9
              · exfalso; omega
              by_cases c56 : (11 : Int) = 10
              · exfalso; omega
              refine zz_swOut (by omega) (by omega) zd_14_23_51 rfl ?_
              refine zz_iload_n (x := 1) rfl zd_14_23_119 ?_
              refine zz_if_ne (by omega) zd_14_23_120 (fun c58 => ?_) (fun c58 => ?_)
              · refine zz_iconst zd_14_23_129 ?_
                refine zz_goto zd_14_23_130 ?_
                exact zz_zret zd_14_23_134 rfl (by omega) (Nat.zero_le _) (Nat.zero_le _) ⟨_, _, rfl, rfl, by omega, (zz_nmx (by omega) (by omega)).symm⟩
              · exfalso; omega
            · refine zz_iload_n (x := p0) rfl zd_14_23_38 ?_
              refine zz_bipush (by decide) zd_14_23_39 ?_
              refine zz_icmp_ne (by omega) (by omega) zd_14_23_41 (fun c59 => ?_) (fun c59 => ?_)
              · refine zz_iconst zd_14_23_48 ?_
                refine zz_istore_n [some (zi p0), some (zi 11), some (zi 0), some (zi 0)] zd_14_23_49 (by decide) rfl ?_
                refine zz_iload_n (x := 11) rfl zd_14_23_50 ?_
                by_cases c60 : (11 : Int) = 5
                · exfalso; omega
                by_cases c61 : (11 : Int) = 6
                · exfalso; omega
                by_cases c62 : (11 : Int) = 7
                · exfalso; omega
                by_cases c63 : (11 : Int) = 8
                · exfalso; omega
                by_cases c64 : (11 : Int) = 9
                · exfalso; omega
                by_cases c65 : (11 : Int) = 10
                · exfalso; omega
                refine zz_swOut (by omega) (by omega) zd_14_23_51 rfl ?_
                refine zz_iload_n (x := 0) rfl zd_14_23_119 ?_
                refine zz_if_ne (by omega) zd_14_23_120 (fun c67 => ?_) (fun c67 => ?_)
                · exfalso; omega
                · refine zz_iload_n (x := p0) rfl zd_14_23_123 ?_
                  refine zz_bipush (by decide) zd_14_23_124 ?_
                  refine zz_icmp_ne (by omega) (by omega) zd_14_23_126 (fun c68 => ?_) (fun c68 => ?_)
                  · refine zz_iconst zd_14_23_133 ?_
                    exact zz_zret zd_14_23_134 rfl (by omega) (Nat.zero_le _) (Nat.zero_le _) ⟨_, _, rfl, rfl, by omega, (zz_nmx (by omega) (by omega)).symm⟩
                  · refine zz_iconst zd_14_23_129 ?_
                    refine zz_goto zd_14_23_130 ?_
                    exact zz_zret zd_14_23_134 rfl (by omega) (Nat.zero_le _) (Nat.zero_le _) ⟨_, _, rfl, rfl, by omega, (zz_nmx (by omega) (by omega)).symm⟩
              · refine zz_iconst zd_14_23_44 ?_
                refine zz_goto zd_14_23_45 ?_
                refine zz_istore_n [some (zi p0), some (zi 11), some (zi 0), some (zi 1)] zd_14_23_49 (by decide) rfl ?_
                refine zz_iload_n (x := 11) rfl zd_14_23_50 ?_
                by_cases c69 : (11 : Int) = 5
                · exfalso; omega
                by_cases c70 : (11 : Int) = 6
                · exfalso; omega
                by_cases c71 : (11 : Int) = 7
                · exfalso; omega
                by_cases c72 : (11 : Int) = 8
                · exfalso; omega
                by_cases c73 : (11 : Int) = 9
                · exfalso; omega
                by_cases c74 : (11 : Int) = 10
                · exfalso; omega
                refine zz_swOut (by omega) (by omega) zd_14_23_51 rfl ?_
                refine zz_iload_n (x := 1) rfl zd_14_23_119 ?_
                refine zz_if_ne (by omega) zd_14_23_120 (fun c76 => ?_) (fun c76 => ?_)
                · refine zz_iconst zd_14_23_129 ?_
                  refine zz_goto zd_14_23_130 ?_
                  exact zz_zret zd_14_23_134 rfl (by omega) (Nat.zero_le _) (Nat.zero_le _) ⟨_, _, rfl, rfl, by omega, (zz_nmx (by omega) (by omega)).symm⟩
                · exfalso; omega
        · refine zz_iconst zd_14_23_21 ?_
          refine zz_goto zd_14_23_22 ?_
          refine zz_istore_n [some (zi p0), some (zi 11), some (zi 1)] zd_14_23_26 (by decide) rfl ?_
          refine zz_iload_n (x := p0) rfl zd_14_23_27 ?_
          refine zz_iconst zd_14_23_28 ?_
          refine zz_icmp_eq (by omega) (by omega) zd_14_23_29 (fun c77 => ?_) (fun c77 => ?_)
          · exfalso; omega
          · refine zz_iload_n (x := p0) rfl zd_14_23_32 ?_
            refine zz_bipush (by decide) zd_14_23_33 ?_
            refine zz_icmp_eq (by omega) (by omega) zd_14_23_35 (fun c78 => ?_) (fun c78 => ?_)
            · exfalso; omega
            · refine zz_iload_n (x := p0) rfl zd_14_23_38 ?_
              refine zz_bipush (by decide) zd_14_23_39 ?_
              refine zz_icmp_ne (by omega) (by omega) zd_14_23_41 (fun c79 => ?_) (fun c79 => ?_)
              · refine zz_iconst zd_14_23_48 ?_
                refine zz_istore_n [some (zi p0), some (zi 11), some (zi 1), some (zi 0)] zd_14_23_49 (by decide) rfl ?_
                refine zz_iload_n (x := 11) rfl zd_14_23_50 ?_
                by_cases c80 : (11 : Int) = 5
                · exfalso; omega
                by_cases c81 : (11 : Int) = 6
                · exfalso; omega
                by_cases c82 : (11 : Int) = 7
                · exfalso; omega
                by_cases c83 : (11 : Int) = 8
                · exfalso; omega
                by_cases c84 : (11 : Int) = 9
                · exfalso; omega
                by_cases c85 : (11 : Int) = 10
                · exfalso; omega
                refine zz_swOut (by omega) (by omega) zd_14_23_51 rfl ?_
                refine zz_iload_n (x := 0) rfl zd_14_23_119 ?_
                refine zz_if_ne (by omega) zd_14_23_120 (fun c87 => ?_) (fun c87 => ?_)
                · exfalso; omega
                · refine zz_iload_n (x := p0) rfl zd_14_23_123 ?_
                  refine zz_bipush (by decide) zd_14_23_124 ?_
                  refine zz_icmp_ne (by omega) (by omega) zd_14_23_126 (fun c88 => ?_) (fun c88 => ?_)
                  · refine zz_iconst zd_14_23_133 ?_
                    exact zz_zret zd_14_23_134 rfl (by omega) (Nat.zero_le _) (Nat.zero_le _) ⟨_, _, rfl, rfl, by omega, (zz_nmx (by omega) (by omega)).symm⟩
                  · exfalso; omega
              · exfalso; omega
theorem zk_Md_243 : mm_Vl "TensorForgeModel" 243 11 0 zy_unit_14_19 := ⟨zyw_unit_14_19, (R_Md, F_Md, 69), rfl, mm_tb_1 1899 (by decide +kernel) rfl, mm_tb_1 1901 (by decide +kernel) rfl, mm_tb_s 90 (by decide +kernel) rfl⟩
theorem zk_Md_247 : mm_Vl "TensorForgeModel" 247 11 0 zy_reaches_14_22 := ⟨zyw_reaches_14_22, (R_Md, F_Md, 69), rfl, mm_tb_1 1903 (by decide +kernel) rfl, mm_tb_1 1905 (by decide +kernel) rfl, mm_tb_s 91 (by decide +kernel) rfl⟩
theorem zg_14_24_236 : zq_at zy_isIllegal_14_24.2.1 236 42 ∧ zq_at zy_isIllegal_14_24.2.1 237 182 ∧ zq_at zy_isIllegal_14_24.2.1 238 0 ∧ zq_at zy_isIllegal_14_24.2.1 239 243 ∧ zq_at zy_isIllegal_14_24.2.1 240 54 ∧ zq_at zy_isIllegal_14_24.2.1 241 5 ∧ zq_at zy_isIllegal_14_24.2.1 242 21 ∧ zq_at zy_isIllegal_14_24.2.1 243 5 ∧ zq_at zy_isIllegal_14_24.2.1 244 154 ∧ zq_at zy_isIllegal_14_24.2.1 245 0 ∧ zq_at zy_isIllegal_14_24.2.1 246 21 ∧ zq_at zy_isIllegal_14_24.2.1 265 21 ∧ zq_at zy_isIllegal_14_24.2.1 266 5 ∧ zq_at zy_isIllegal_14_24.2.1 267 5 ∧ zq_at zy_isIllegal_14_24.2.1 268 160 ∧ zq_at zy_isIllegal_14_24.2.1 269 0 ∧ zq_at zy_isIllegal_14_24.2.1 270 25 ∧ zq_at zy_isIllegal_14_24.2.1 293 3 ∧ zq_at zy_isIllegal_14_24.2.1 294 54 ∧ zq_at zy_isIllegal_14_24.2.1 295 4 ∧ zq_at zy_isIllegal_14_24.2.1 271 42 ∧ zq_at zy_isIllegal_14_24.2.1 272 180 ∧ zq_at zy_isIllegal_14_24.2.1 273 0 ∧ zq_at zy_isIllegal_14_24.2.1 274 36 := by decide +kernel
theorem zd_14_24_236 : zz_D zy_isIllegal_14_24 236 (.aload_n 0) 1 237 := ⟨zq_42 zg_14_24_236.1, rfl⟩
theorem zd_14_24_237 : zz_D zy_isIllegal_14_24 237 (.invokevirtual 243) 3 240 := ⟨zq_182 zg_14_24_236.2.1 zg_14_24_236.2.2.1 zg_14_24_236.2.2.2.1 rfl, rfl⟩
theorem zd_14_24_240 : zz_D zy_isIllegal_14_24 240 (.istore 5) 2 242 := ⟨zq_54 zg_14_24_236.2.2.2.2.1 zg_14_24_236.2.2.2.2.2.1, rfl⟩
theorem zd_14_24_242 : zz_D zy_isIllegal_14_24 242 (.iload 5) 2 244 := ⟨zq_21 zg_14_24_236.2.2.2.2.2.2.1 zg_14_24_236.2.2.2.2.2.2.2.1, rfl⟩
theorem zd_14_24_244 : zz_B zy_isIllegal_14_24 244 (Instr.ifCond .ne) 265 247 := ⟨21, zq_154 zg_14_24_236.2.2.2.2.2.2.2.2.1 zg_14_24_236.2.2.2.2.2.2.2.2.2.1 zg_14_24_236.2.2.2.2.2.2.2.2.2.2.1 (by decide), rfl, rfl⟩
theorem zd_14_24_265 : zz_D zy_isIllegal_14_24 265 (.iload 5) 2 267 := ⟨zq_21 zg_14_24_236.2.2.2.2.2.2.2.2.2.2.2.1 zg_14_24_236.2.2.2.2.2.2.2.2.2.2.2.2.1, rfl⟩
theorem zd_14_24_267 : zz_D zy_isIllegal_14_24 267 (.iconst 2) 1 268 := ⟨zq_5 zg_14_24_236.2.2.2.2.2.2.2.2.2.2.2.2.2.1, rfl⟩
theorem zd_14_24_268 : zz_B zy_isIllegal_14_24 268 (Instr.if_icmp .ne) 293 271 := ⟨25, zq_160 zg_14_24_236.2.2.2.2.2.2.2.2.2.2.2.2.2.2.1 zg_14_24_236.2.2.2.2.2.2.2.2.2.2.2.2.2.2.2.1 zg_14_24_236.2.2.2.2.2.2.2.2.2.2.2.2.2.2.2.2.1 (by decide), rfl, rfl⟩
theorem zd_14_24_293 : zz_D zy_isIllegal_14_24 293 (.iconst 0) 1 294 := ⟨zq_3 zg_14_24_236.2.2.2.2.2.2.2.2.2.2.2.2.2.2.2.2.2.1, rfl⟩
theorem zd_14_24_294 : zz_D zy_isIllegal_14_24 294 (.istore 4) 2 296 := ⟨zq_54 zg_14_24_236.2.2.2.2.2.2.2.2.2.2.2.2.2.2.2.2.2.2.1 zg_14_24_236.2.2.2.2.2.2.2.2.2.2.2.2.2.2.2.2.2.2.2.1, rfl⟩
theorem zd_14_24_271 : zz_D zy_isIllegal_14_24 271 (.aload_n 0) 1 272 := ⟨zq_42 zg_14_24_236.2.2.2.2.2.2.2.2.2.2.2.2.2.2.2.2.2.2.2.2.1, rfl⟩
theorem zd_14_24_272 : zz_D zy_isIllegal_14_24 272 (.getfield 36) 3 275 := ⟨zq_180 zg_14_24_236.2.2.2.2.2.2.2.2.2.2.2.2.2.2.2.2.2.2.2.2.2.1 zg_14_24_236.2.2.2.2.2.2.2.2.2.2.2.2.2.2.2.2.2.2.2.2.2.2.1 zg_14_24_236.2.2.2.2.2.2.2.2.2.2.2.2.2.2.2.2.2.2.2.2.2.2.2 rfl, rfl⟩
theorem zg_14_24_275 : zq_at zy_isIllegal_14_24.2.1 275 5 ∧ zq_at zy_isIllegal_14_24.2.1 276 46 ∧ zq_at zy_isIllegal_14_24.2.1 277 157 ∧ zq_at zy_isIllegal_14_24.2.1 278 0 ∧ zq_at zy_isIllegal_14_24.2.1 279 12 ∧ zq_at zy_isIllegal_14_24.2.1 289 4 ∧ zq_at zy_isIllegal_14_24.2.1 290 167 ∧ zq_at zy_isIllegal_14_24.2.1 291 0 ∧ zq_at zy_isIllegal_14_24.2.1 292 4 ∧ zq_at zy_isIllegal_14_24.2.1 280 42 ∧ zq_at zy_isIllegal_14_24.2.1 281 180 ∧ zq_at zy_isIllegal_14_24.2.1 282 0 ∧ zq_at zy_isIllegal_14_24.2.1 283 36 ∧ zq_at zy_isIllegal_14_24.2.1 284 7 ∧ zq_at zy_isIllegal_14_24.2.1 285 46 ∧ zq_at zy_isIllegal_14_24.2.1 286 158 ∧ zq_at zy_isIllegal_14_24.2.1 287 0 ∧ zq_at zy_isIllegal_14_24.2.1 288 7 ∧ zq_at zy_isIllegal_14_24.2.1 247 42 ∧ zq_at zy_isIllegal_14_24.2.1 248 180 ∧ zq_at zy_isIllegal_14_24.2.1 249 0 ∧ zq_at zy_isIllegal_14_24.2.1 250 36 ∧ zq_at zy_isIllegal_14_24.2.1 251 4 ∧ zq_at zy_isIllegal_14_24.2.1 252 46 := by decide +kernel
theorem zd_14_24_275 : zz_D zy_isIllegal_14_24 275 (.iconst 2) 1 276 := ⟨zq_5 zg_14_24_275.1, rfl⟩
theorem zd_14_24_276 : zz_D zy_isIllegal_14_24 276 (.iaload) 1 277 := ⟨zq_46 zg_14_24_275.2.1, rfl⟩
theorem zd_14_24_277 : zz_B zy_isIllegal_14_24 277 (Instr.ifCond .gt) 289 280 := ⟨12, zq_157 zg_14_24_275.2.2.1 zg_14_24_275.2.2.2.1 zg_14_24_275.2.2.2.2.1 (by decide), rfl, rfl⟩
theorem zd_14_24_289 : zz_D zy_isIllegal_14_24 289 (.iconst 1) 1 290 := ⟨zq_4 zg_14_24_275.2.2.2.2.2.1, rfl⟩
theorem zd_14_24_290 : zz_B zy_isIllegal_14_24 290 Instr.goto 294 293 := ⟨4, zq_167 zg_14_24_275.2.2.2.2.2.2.1 zg_14_24_275.2.2.2.2.2.2.2.1 zg_14_24_275.2.2.2.2.2.2.2.2.1 (by decide), rfl, rfl⟩
theorem zd_14_24_280 : zz_D zy_isIllegal_14_24 280 (.aload_n 0) 1 281 := ⟨zq_42 zg_14_24_275.2.2.2.2.2.2.2.2.2.1, rfl⟩
theorem zd_14_24_281 : zz_D zy_isIllegal_14_24 281 (.getfield 36) 3 284 := ⟨zq_180 zg_14_24_275.2.2.2.2.2.2.2.2.2.2.1 zg_14_24_275.2.2.2.2.2.2.2.2.2.2.2.1 zg_14_24_275.2.2.2.2.2.2.2.2.2.2.2.2.1 rfl, rfl⟩
theorem zd_14_24_284 : zz_D zy_isIllegal_14_24 284 (.iconst 4) 1 285 := ⟨zq_7 zg_14_24_275.2.2.2.2.2.2.2.2.2.2.2.2.2.1, rfl⟩
theorem zd_14_24_285 : zz_D zy_isIllegal_14_24 285 (.iaload) 1 286 := ⟨zq_46 zg_14_24_275.2.2.2.2.2.2.2.2.2.2.2.2.2.2.1, rfl⟩
theorem zd_14_24_286 : zz_B zy_isIllegal_14_24 286 (Instr.ifCond .le) 293 289 := ⟨7, zq_158 zg_14_24_275.2.2.2.2.2.2.2.2.2.2.2.2.2.2.2.1 zg_14_24_275.2.2.2.2.2.2.2.2.2.2.2.2.2.2.2.2.1 zg_14_24_275.2.2.2.2.2.2.2.2.2.2.2.2.2.2.2.2.2.1 (by decide), rfl, rfl⟩
theorem zd_14_24_247 : zz_D zy_isIllegal_14_24 247 (.aload_n 0) 1 248 := ⟨zq_42 zg_14_24_275.2.2.2.2.2.2.2.2.2.2.2.2.2.2.2.2.2.2.1, rfl⟩
theorem zd_14_24_248 : zz_D zy_isIllegal_14_24 248 (.getfield 36) 3 251 := ⟨zq_180 zg_14_24_275.2.2.2.2.2.2.2.2.2.2.2.2.2.2.2.2.2.2.2.1 zg_14_24_275.2.2.2.2.2.2.2.2.2.2.2.2.2.2.2.2.2.2.2.2.1 zg_14_24_275.2.2.2.2.2.2.2.2.2.2.2.2.2.2.2.2.2.2.2.2.2.1 rfl, rfl⟩
theorem zd_14_24_251 : zz_D zy_isIllegal_14_24 251 (.iconst 1) 1 252 := ⟨zq_4 zg_14_24_275.2.2.2.2.2.2.2.2.2.2.2.2.2.2.2.2.2.2.2.2.2.2.1, rfl⟩
theorem zd_14_24_252 : zz_D zy_isIllegal_14_24 252 (.iaload) 1 253 := ⟨zq_46 zg_14_24_275.2.2.2.2.2.2.2.2.2.2.2.2.2.2.2.2.2.2.2.2.2.2.2, rfl⟩
theorem zg_14_24_253 : zq_at zy_isIllegal_14_24.2.1 253 157 ∧ zq_at zy_isIllegal_14_24.2.1 254 0 ∧ zq_at zy_isIllegal_14_24.2.1 255 36 ∧ zq_at zy_isIllegal_14_24.2.1 256 42 ∧ zq_at zy_isIllegal_14_24.2.1 257 180 ∧ zq_at zy_isIllegal_14_24.2.1 258 0 ∧ zq_at zy_isIllegal_14_24.2.1 259 36 ∧ zq_at zy_isIllegal_14_24.2.1 260 6 ∧ zq_at zy_isIllegal_14_24.2.1 261 46 ∧ zq_at zy_isIllegal_14_24.2.1 262 157 ∧ zq_at zy_isIllegal_14_24.2.1 263 0 ∧ zq_at zy_isIllegal_14_24.2.1 264 27 ∧ zq_at zy_isIllegal_14_24.2.1 296 42 ∧ zq_at zy_isIllegal_14_24.2.1 297 182 ∧ zq_at zy_isIllegal_14_24.2.1 298 0 ∧ zq_at zy_isIllegal_14_24.2.1 299 247 ∧ zq_at zy_isIllegal_14_24.2.1 300 3 ∧ zq_at zy_isIllegal_14_24.2.1 301 54 ∧ zq_at zy_isIllegal_14_24.2.1 302 6 ∧ zq_at zy_isIllegal_14_24.2.1 303 21 ∧ zq_at zy_isIllegal_14_24.2.1 304 6 ∧ zq_at zy_isIllegal_14_24.2.1 305 8 := by decide +kernel
theorem zd_14_24_253 : zz_B zy_isIllegal_14_24 253 (Instr.ifCond .gt) 289 256 := ⟨36, zq_157 zg_14_24_253.1 zg_14_24_253.2.1 zg_14_24_253.2.2.1 (by decide), rfl, rfl⟩
theorem zd_14_24_256 : zz_D zy_isIllegal_14_24 256 (.aload_n 0) 1 257 := ⟨zq_42 zg_14_24_253.2.2.2.1, rfl⟩
theorem zd_14_24_257 : zz_D zy_isIllegal_14_24 257 (.getfield 36) 3 260 := ⟨zq_180 zg_14_24_253.2.2.2.2.1 zg_14_24_253.2.2.2.2.2.1 zg_14_24_253.2.2.2.2.2.2.1 rfl, rfl⟩
theorem zd_14_24_260 : zz_D zy_isIllegal_14_24 260 (.iconst 3) 1 261 := ⟨zq_6 zg_14_24_253.2.2.2.2.2.2.2.1, rfl⟩
theorem zd_14_24_261 : zz_D zy_isIllegal_14_24 261 (.iaload) 1 262 := ⟨zq_46 zg_14_24_253.2.2.2.2.2.2.2.2.1, rfl⟩
theorem zd_14_24_262 : zz_B zy_isIllegal_14_24 262 (Instr.ifCond .gt) 289 265 := ⟨27, zq_157 zg_14_24_253.2.2.2.2.2.2.2.2.2.1 zg_14_24_253.2.2.2.2.2.2.2.2.2.2.1 zg_14_24_253.2.2.2.2.2.2.2.2.2.2.2.1 (by decide), rfl, rfl⟩
theorem zd_14_24_296 : zz_D zy_isIllegal_14_24 296 (.aload_n 0) 1 297 := ⟨zq_42 zg_14_24_253.2.2.2.2.2.2.2.2.2.2.2.2.1, rfl⟩
theorem zd_14_24_297 : zz_D zy_isIllegal_14_24 297 (.invokevirtual 247) 3 300 := ⟨zq_182 zg_14_24_253.2.2.2.2.2.2.2.2.2.2.2.2.2.1 zg_14_24_253.2.2.2.2.2.2.2.2.2.2.2.2.2.2.1 zg_14_24_253.2.2.2.2.2.2.2.2.2.2.2.2.2.2.2.1 rfl, rfl⟩
theorem zd_14_24_300 : zz_D zy_isIllegal_14_24 300 (.iconst 0) 1 301 := ⟨zq_3 zg_14_24_253.2.2.2.2.2.2.2.2.2.2.2.2.2.2.2.2.1, rfl⟩
theorem zd_14_24_301 : zz_D zy_isIllegal_14_24 301 (.istore 6) 2 303 := ⟨zq_54 zg_14_24_253.2.2.2.2.2.2.2.2.2.2.2.2.2.2.2.2.2.1 zg_14_24_253.2.2.2.2.2.2.2.2.2.2.2.2.2.2.2.2.2.2.1, rfl⟩
theorem zd_14_24_303 : zz_D zy_isIllegal_14_24 303 (.iload 6) 2 305 := ⟨zq_21 zg_14_24_253.2.2.2.2.2.2.2.2.2.2.2.2.2.2.2.2.2.2.2.1 zg_14_24_253.2.2.2.2.2.2.2.2.2.2.2.2.2.2.2.2.2.2.2.2.1, rfl⟩
theorem zd_14_24_305 : zz_D zy_isIllegal_14_24 305 (.iconst 5) 1 306 := ⟨zq_8 zg_14_24_253.2.2.2.2.2.2.2.2.2.2.2.2.2.2.2.2.2.2.2.2.2, rfl⟩
theorem zg_14_24_306 : zq_at zy_isIllegal_14_24.2.1 306 162 ∧ zq_at zy_isIllegal_14_24.2.1 307 0 ∧ zq_at zy_isIllegal_14_24.2.1 308 59 ∧ zq_at zy_isIllegal_14_24.2.1 309 21 ∧ zq_at zy_isIllegal_14_24.2.1 310 4 ∧ zq_at zy_isIllegal_14_24.2.1 311 154 ∧ zq_at zy_isIllegal_14_24.2.1 312 0 ∧ zq_at zy_isIllegal_14_24.2.1 313 41 ∧ zq_at zy_isIllegal_14_24.2.1 352 4 ∧ zq_at zy_isIllegal_14_24.2.1 353 167 ∧ zq_at zy_isIllegal_14_24.2.1 354 0 ∧ zq_at zy_isIllegal_14_24.2.1 355 4 ∧ zq_at zy_isIllegal_14_24.2.1 357 54 ∧ zq_at zy_isIllegal_14_24.2.1 358 4 ∧ zq_at zy_isIllegal_14_24.2.1 359 132 ∧ zq_at zy_isIllegal_14_24.2.1 360 6 ∧ zq_at zy_isIllegal_14_24.2.1 361 1 ∧ zq_at zy_isIllegal_14_24.2.1 362 167 ∧ zq_at zy_isIllegal_14_24.2.1 363 255 ∧ zq_at zy_isIllegal_14_24.2.1 364 197 ∧ zq_at zy_isIllegal_14_24.2.1 365 21 ∧ zq_at zy_isIllegal_14_24.2.1 366 4 ∧ zq_at zy_isIllegal_14_24.2.1 367 172 ∧ zq_at zy_isIllegal_14_24.2.1 314 42 := by decide +kernel
theorem zd_14_24_306 : zz_B zy_isIllegal_14_24 306 (Instr.if_icmp .ge) 365 309 := ⟨59, zq_162 zg_14_24_306.1 zg_14_24_306.2.1 zg_14_24_306.2.2.1 (by decide), rfl, rfl⟩
theorem zd_14_24_309 : zz_D zy_isIllegal_14_24 309 (.iload 4) 2 311 := ⟨zq_21 zg_14_24_306.2.2.2.1 zg_14_24_306.2.2.2.2.1, rfl⟩
theorem zd_14_24_311 : zz_B zy_isIllegal_14_24 311 (Instr.ifCond .ne) 352 314 := ⟨41, zq_154 zg_14_24_306.2.2.2.2.2.1 zg_14_24_306.2.2.2.2.2.2.1 zg_14_24_306.2.2.2.2.2.2.2.1 (by decide), rfl, rfl⟩
theorem zd_14_24_352 : zz_D zy_isIllegal_14_24 352 (.iconst 1) 1 353 := ⟨zq_4 zg_14_24_306.2.2.2.2.2.2.2.2.1, rfl⟩
theorem zd_14_24_353 : zz_B zy_isIllegal_14_24 353 Instr.goto 357 356 := ⟨4, zq_167 zg_14_24_306.2.2.2.2.2.2.2.2.2.1 zg_14_24_306.2.2.2.2.2.2.2.2.2.2.1 zg_14_24_306.2.2.2.2.2.2.2.2.2.2.2.1 (by decide), rfl, rfl⟩
theorem zd_14_24_357 : zz_D zy_isIllegal_14_24 357 (.istore 4) 2 359 := ⟨zq_54 zg_14_24_306.2.2.2.2.2.2.2.2.2.2.2.2.1 zg_14_24_306.2.2.2.2.2.2.2.2.2.2.2.2.2.1, rfl⟩
theorem zd_14_24_359 : zz_D zy_isIllegal_14_24 359 (.iinc 6 1) 3 362 := ⟨zq_132 zg_14_24_306.2.2.2.2.2.2.2.2.2.2.2.2.2.2.1 zg_14_24_306.2.2.2.2.2.2.2.2.2.2.2.2.2.2.2.1 zg_14_24_306.2.2.2.2.2.2.2.2.2.2.2.2.2.2.2.2.1 (by decide), rfl⟩
theorem zd_14_24_362 : zz_B zy_isIllegal_14_24 362 Instr.goto 303 365 := ⟨(-59), zq_167 zg_14_24_306.2.2.2.2.2.2.2.2.2.2.2.2.2.2.2.2.2.1 zg_14_24_306.2.2.2.2.2.2.2.2.2.2.2.2.2.2.2.2.2.2.1 zg_14_24_306.2.2.2.2.2.2.2.2.2.2.2.2.2.2.2.2.2.2.2.1 (by decide), rfl, rfl⟩
theorem zd_14_24_365 : zz_D zy_isIllegal_14_24 365 (.iload 4) 2 367 := ⟨zq_21 zg_14_24_306.2.2.2.2.2.2.2.2.2.2.2.2.2.2.2.2.2.2.2.2.1 zg_14_24_306.2.2.2.2.2.2.2.2.2.2.2.2.2.2.2.2.2.2.2.2.2.1, rfl⟩
theorem zd_14_24_367 : zz_D zy_isIllegal_14_24 367 (.ireturn) 1 368 := ⟨zq_172 zg_14_24_306.2.2.2.2.2.2.2.2.2.2.2.2.2.2.2.2.2.2.2.2.2.2.1, rfl⟩
theorem zd_14_24_314 : zz_D zy_isIllegal_14_24 314 (.aload_n 0) 1 315 := ⟨zq_42 zg_14_24_306.2.2.2.2.2.2.2.2.2.2.2.2.2.2.2.2.2.2.2.2.2.2.2, rfl⟩
theorem zg_14_24_315 : zq_at zy_isIllegal_14_24.2.1 315 180 ∧ zq_at zy_isIllegal_14_24.2.1 316 0 ∧ zq_at zy_isIllegal_14_24.2.1 317 39 ∧ zq_at zy_isIllegal_14_24.2.1 318 5 ∧ zq_at zy_isIllegal_14_24.2.1 319 21 ∧ zq_at zy_isIllegal_14_24.2.1 320 6 ∧ zq_at zy_isIllegal_14_24.2.1 321 104 ∧ zq_at zy_isIllegal_14_24.2.1 322 4 ∧ zq_at zy_isIllegal_14_24.2.1 323 96 ∧ zq_at zy_isIllegal_14_24.2.1 324 46 ∧ zq_at zy_isIllegal_14_24.2.1 325 21 ∧ zq_at zy_isIllegal_14_24.2.1 326 6 ∧ zq_at zy_isIllegal_14_24.2.1 327 184 ∧ zq_at zy_isIllegal_14_24.2.1 328 0 ∧ zq_at zy_isIllegal_14_24.2.1 329 212 ∧ zq_at zy_isIllegal_14_24.2.1 330 162 ∧ zq_at zy_isIllegal_14_24.2.1 331 0 ∧ zq_at zy_isIllegal_14_24.2.1 332 22 ∧ zq_at zy_isIllegal_14_24.2.1 333 42 ∧ zq_at zy_isIllegal_14_24.2.1 334 180 ∧ zq_at zy_isIllegal_14_24.2.1 335 0 ∧ zq_at zy_isIllegal_14_24.2.1 336 42 ∧ zq_at zy_isIllegal_14_24.2.1 337 5 := by decide +kernel
theorem zd_14_24_315 : zz_D zy_isIllegal_14_24 315 (.getfield 39) 3 318 := ⟨zq_180 zg_14_24_315.1 zg_14_24_315.2.1 zg_14_24_315.2.2.1 rfl, rfl⟩
theorem zd_14_24_318 : zz_D zy_isIllegal_14_24 318 (.iconst 2) 1 319 := ⟨zq_5 zg_14_24_315.2.2.2.1, rfl⟩
theorem zd_14_24_319 : zz_D zy_isIllegal_14_24 319 (.iload 6) 2 321 := ⟨zq_21 zg_14_24_315.2.2.2.2.1 zg_14_24_315.2.2.2.2.2.1, rfl⟩
theorem zd_14_24_321 : zz_D zy_isIllegal_14_24 321 (.imul) 1 322 := ⟨zq_104 zg_14_24_315.2.2.2.2.2.2.1, rfl⟩
theorem zd_14_24_322 : zz_D zy_isIllegal_14_24 322 (.iconst 1) 1 323 := ⟨zq_4 zg_14_24_315.2.2.2.2.2.2.2.1, rfl⟩
theorem zd_14_24_323 : zz_D zy_isIllegal_14_24 323 (.iadd) 1 324 := ⟨zq_96 zg_14_24_315.2.2.2.2.2.2.2.2.1, rfl⟩
theorem zd_14_24_324 : zz_D zy_isIllegal_14_24 324 (.iaload) 1 325 := ⟨zq_46 zg_14_24_315.2.2.2.2.2.2.2.2.2.1, rfl⟩
theorem zd_14_24_325 : zz_D zy_isIllegal_14_24 325 (.iload 6) 2 327 := ⟨zq_21 zg_14_24_315.2.2.2.2.2.2.2.2.2.2.1 zg_14_24_315.2.2.2.2.2.2.2.2.2.2.2.1, rfl⟩
theorem zd_14_24_327 : zz_D zy_isIllegal_14_24 327 (.invokestatic 212) 3 330 := ⟨zq_184 zg_14_24_315.2.2.2.2.2.2.2.2.2.2.2.2.1 zg_14_24_315.2.2.2.2.2.2.2.2.2.2.2.2.2.1 zg_14_24_315.2.2.2.2.2.2.2.2.2.2.2.2.2.2.1 rfl, rfl⟩
theorem zd_14_24_330 : zz_B zy_isIllegal_14_24 330 (Instr.if_icmp .ge) 352 333 := ⟨22, zq_162 zg_14_24_315.2.2.2.2.2.2.2.2.2.2.2.2.2.2.2.1 zg_14_24_315.2.2.2.2.2.2.2.2.2.2.2.2.2.2.2.2.1 zg_14_24_315.2.2.2.2.2.2.2.2.2.2.2.2.2.2.2.2.2.1 (by decide), rfl, rfl⟩
theorem zd_14_24_333 : zz_D zy_isIllegal_14_24 333 (.aload_n 0) 1 334 := ⟨zq_42 zg_14_24_315.2.2.2.2.2.2.2.2.2.2.2.2.2.2.2.2.2.2.1, rfl⟩
theorem zd_14_24_334 : zz_D zy_isIllegal_14_24 334 (.getfield 42) 3 337 := ⟨zq_180 zg_14_24_315.2.2.2.2.2.2.2.2.2.2.2.2.2.2.2.2.2.2.2.1 zg_14_24_315.2.2.2.2.2.2.2.2.2.2.2.2.2.2.2.2.2.2.2.2.1 zg_14_24_315.2.2.2.2.2.2.2.2.2.2.2.2.2.2.2.2.2.2.2.2.2.1 rfl, rfl⟩
theorem zd_14_24_337 : zz_D zy_isIllegal_14_24 337 (.iconst 2) 1 338 := ⟨zq_5 zg_14_24_315.2.2.2.2.2.2.2.2.2.2.2.2.2.2.2.2.2.2.2.2.2.2, rfl⟩
theorem zg_14_24_338 : zq_at zy_isIllegal_14_24.2.1 338 21 ∧ zq_at zy_isIllegal_14_24.2.1 339 6 ∧ zq_at zy_isIllegal_14_24.2.1 340 104 ∧ zq_at zy_isIllegal_14_24.2.1 341 4 ∧ zq_at zy_isIllegal_14_24.2.1 342 96 ∧ zq_at zy_isIllegal_14_24.2.1 343 46 ∧ zq_at zy_isIllegal_14_24.2.1 344 21 ∧ zq_at zy_isIllegal_14_24.2.1 345 6 ∧ zq_at zy_isIllegal_14_24.2.1 346 184 ∧ zq_at zy_isIllegal_14_24.2.1 347 0 ∧ zq_at zy_isIllegal_14_24.2.1 348 212 ∧ zq_at zy_isIllegal_14_24.2.1 349 161 ∧ zq_at zy_isIllegal_14_24.2.1 350 0 ∧ zq_at zy_isIllegal_14_24.2.1 351 7 ∧ zq_at zy_isIllegal_14_24.2.1 356 3 := by decide +kernel
theorem zd_14_24_338 : zz_D zy_isIllegal_14_24 338 (.iload 6) 2 340 := ⟨zq_21 zg_14_24_338.1 zg_14_24_338.2.1, rfl⟩
theorem zd_14_24_340 : zz_D zy_isIllegal_14_24 340 (.imul) 1 341 := ⟨zq_104 zg_14_24_338.2.2.1, rfl⟩
theorem zd_14_24_341 : zz_D zy_isIllegal_14_24 341 (.iconst 1) 1 342 := ⟨zq_4 zg_14_24_338.2.2.2.1, rfl⟩
theorem zd_14_24_342 : zz_D zy_isIllegal_14_24 342 (.iadd) 1 343 := ⟨zq_96 zg_14_24_338.2.2.2.2.1, rfl⟩
theorem zd_14_24_343 : zz_D zy_isIllegal_14_24 343 (.iaload) 1 344 := ⟨zq_46 zg_14_24_338.2.2.2.2.2.1, rfl⟩
theorem zd_14_24_344 : zz_D zy_isIllegal_14_24 344 (.iload 6) 2 346 := ⟨zq_21 zg_14_24_338.2.2.2.2.2.2.1 zg_14_24_338.2.2.2.2.2.2.2.1, rfl⟩
theorem zd_14_24_346 : zz_D zy_isIllegal_14_24 346 (.invokestatic 212) 3 349 := ⟨zq_184 zg_14_24_338.2.2.2.2.2.2.2.2.1 zg_14_24_338.2.2.2.2.2.2.2.2.2.1 zg_14_24_338.2.2.2.2.2.2.2.2.2.2.1 rfl, rfl⟩
theorem zd_14_24_349 : zz_B zy_isIllegal_14_24 349 (Instr.if_icmp .lt) 356 352 := ⟨7, zq_161 zg_14_24_338.2.2.2.2.2.2.2.2.2.2.2.1 zg_14_24_338.2.2.2.2.2.2.2.2.2.2.2.2.1 zg_14_24_338.2.2.2.2.2.2.2.2.2.2.2.2.2.1 (by decide), rfl, rfl⟩
theorem zd_14_24_356 : zz_D zy_isIllegal_14_24 356 (.iconst 0) 1 357 := ⟨zq_3 zg_14_24_338.2.2.2.2.2.2.2.2.2.2.2.2.2.2, rfl⟩
-- TensorForgeModel isIllegal (J)Z
abbrev zr_isIllegal_14_24 : Room := { frames := 3, cells := 0, slots := 0, locals := 49 }
def zp_isIllegal_14_24 (p0 : Int) (S0 : zz_S) : Int → zz_S → Prop := fun r S => zz_G S ∧ zz_fr [(1087, 0), (1087, 1), (1087, 2), (1087, 3), (1087, 4), (1087, 5), (1087, 6), (1087, 7), (1087, 8), (1087, 9), (1087, 10), (1087, 11), (1088, 0), (1088, 1), (1088, 2), (1088, 3), (1088, 4), (1088, 5), (1088, 6), (1088, 7), (1088, 8), (1088, 9), (1089, 0), (1089, 1), (1089, 2), (1089, 3), (1089, 4), (1089, 5), (1089, 6), (1089, 7), (1089, 8), (1089, 9)] [] (fun _ _ => False) S0 S ∧ (0 ≤ r ∧ r ≤ 1) ∧ (r = 0 → zz_lgl p0 (S0 1079 1)) ∧ (r = zz_il (zz_fx p0 0 15) (zz_fx p0 4 1) (zz_fx p0 5 1) (zz_fx p0 6 1) (zz_fx p0 7 1) (zz_fx p0 8 4095) (zz_fx p0 20 63) (zz_fx p0 26 31) (zz_fx p0 31 511) (zz_fx p0 40 511) (zz_fx p0 49 1023) (zz_fx p0 59 31) (S0 1079 1))
theorem zb_isIllegal_14_24_115 {g : mm_G} {l : Launch} (p0 : Int) (S0 : zz_S) (n : Nat) (hn : zz_end ≤ n) (G_S0 : zz_G S0) (hp0 : (-9223372036854775808) ≤ p0 ∧ p0 ≤ 9223372036854775807) (x3 : Int) (x4 : Int) (x5 : Int) (S : zz_S) (G_S : zz_G S) (F_S : zz_fr [(1087, 0), (1087, 1), (1087, 2), (1087, 3), (1087, 4), (1087, 5), (1087, 6), (1087, 7), (1087, 8), (1087, 9), (1087, 10), (1087, 11), (1088, 0), (1088, 1), (1088, 2), (1088, 3), (1088, 4), (1088, 5), (1088, 6), (1088, 7), (1088, 8), (1088, 9), (1089, 0), (1089, 1), (1089, 2), (1089, 3), (1089, 4), (1089, 5), (1089, 6), (1089, 7), (1089, 8), (1089, 9)] [] (fun _ _ => False) S0 S) (i115_0 : 1 ≤ x3 ∧ x3 ≤ 9) (i115_1 : 0 ≤ x4 ∧ x4 ≤ 1) (i115_2 : 5 ≤ x5 ∧ x5 ≤ 12) (i115_3 : (S 1087 0 = zz_fx p0 0 15) ∧ 0 ≤ S 1087 0 ∧ S 1087 0 ≤ 15) (i115_4 : (S 1087 1 = zz_fx p0 4 1) ∧ 0 ≤ S 1087 1 ∧ S 1087 1 ≤ 1) (i115_5 : (S 1087 2 = zz_fx p0 5 1) ∧ 0 ≤ S 1087 2 ∧ S 1087 2 ≤ 1) (i115_6 : (S 1087 3 = zz_fx p0 6 1) ∧ 0 ≤ S 1087 3 ∧ S 1087 3 ≤ 1) (i115_7 : (S 1087 4 = zz_fx p0 7 1) ∧ 0 ≤ S 1087 4 ∧ S 1087 4 ≤ 1) (i115_8 : (S 1087 5 = zz_fx p0 8 4095) ∧ 0 ≤ S 1087 5 ∧ S 1087 5 ≤ 4095) (i115_9 : (S 1087 6 = zz_fx p0 20 63) ∧ 0 ≤ S 1087 6 ∧ S 1087 6 ≤ 63) (i115_10 : (S 1087 7 = zz_fx p0 26 31) ∧ 0 ≤ S 1087 7 ∧ S 1087 7 ≤ 31) (i115_11 : (S 1087 8 = zz_fx p0 31 511) ∧ 0 ≤ S 1087 8 ∧ S 1087 8 ≤ 511) (i115_12 : (S 1087 9 = zz_fx p0 40 511) ∧ 0 ≤ S 1087 9 ∧ S 1087 9 ≤ 511) (i115_13 : (S 1087 10 = zz_fx p0 49 1023) ∧ 0 ≤ S 1087 10 ∧ S 1087 10 ≤ 1023) (i115_14 : (S 1087 11 = zz_fx p0 59 31) ∧ 0 ≤ S 1087 11 ∧ S 1087 11 ≤ 31) (i115_15 : x3 = S 1087 0) (i115_16 : x4 = 0 → (x3 = 9 ∧ S 1087 6 = 0 ∧ S 1087 7 = 0) ∨ (x3 ≠ 9 ∧ 1 ≤ S 1087 6 ∧ 1 ≤ S 1087 7 ∧ S 1087 7 ≤ S0 1079 1)) (i115_17 : 1 ≤ S 1087 0 ∧ S 1087 0 ≤ 9) (i115_18 : (x4 = 1 ∧ zz_il (S 1087 0) (S 1087 1) (S 1087 2) (S 1087 3) (S 1087 4) (S 1087 5) (S 1087 6) (S 1087 7) (S 1087 8) (S 1087 9) (S 1087 10) (S 1087 11) (S0 1079 1) = 1) ∨ (x4 = 0 ∧ zz_sh (S 1087 0) (S 1087 6) (S 1087 7) (S0 1079 1) = 0 ∧ (S 1087 0 ≠ 9 ∨ S 1087 11 ≤ 2) ∧ zz_sa (S 1087 0) (S 1087 5) (S 1087 6) (S 1087 7) (S 1087 8) (S 1087 9) (S 1087 10) (S 1087 11) x5 = 0)) (R : Nat) (hR : (51539607552 + (12 - x5).toNat) = R) (k115 : ∀ (x3 : Int) (x4 : Int) (x5 : Int) (S : zz_S), zz_G S → zz_fr [(1087, 0), (1087, 1), (1087, 2), (1087, 3), (1087, 4), (1087, 5), (1087, 6), (1087, 7), (1087, 8), (1087, 9), (1087, 10), (1087, 11), (1088, 0), (1088, 1), (1088, 2), (1088, 3), (1088, 4), (1088, 5), (1088, 6), (1088, 7), (1088, 8), (1088, 9), (1089, 0), (1089, 1), (1089, 2), (1089, 3), (1089, 4), (1089, 5), (1089, 6), (1089, 7), (1089, 8), (1089, 9)] [] (fun _ _ => False) S0 S → (1 ≤ x3 ∧ x3 ≤ 9) → (0 ≤ x4 ∧ x4 ≤ 1) → (5 ≤ x5 ∧ x5 ≤ 12) → ((S 1087 0 = zz_fx p0 0 15) ∧ 0 ≤ S 1087 0 ∧ S 1087 0 ≤ 15) → ((S 1087 1 = zz_fx p0 4 1) ∧ 0 ≤ S 1087 1 ∧ S 1087 1 ≤ 1) → ((S 1087 2 = zz_fx p0 5 1) ∧ 0 ≤ S 1087 2 ∧ S 1087 2 ≤ 1) → ((S 1087 3 = zz_fx p0 6 1) ∧ 0 ≤ S 1087 3 ∧ S 1087 3 ≤ 1) → ((S 1087 4 = zz_fx p0 7 1) ∧ 0 ≤ S 1087 4 ∧ S 1087 4 ≤ 1) → ((S 1087 5 = zz_fx p0 8 4095) ∧ 0 ≤ S 1087 5 ∧ S 1087 5 ≤ 4095) → ((S 1087 6 = zz_fx p0 20 63) ∧ 0 ≤ S 1087 6 ∧ S 1087 6 ≤ 63) → ((S 1087 7 = zz_fx p0 26 31) ∧ 0 ≤ S 1087 7 ∧ S 1087 7 ≤ 31) → ((S 1087 8 = zz_fx p0 31 511) ∧ 0 ≤ S 1087 8 ∧ S 1087 8 ≤ 511) → ((S 1087 9 = zz_fx p0 40 511) ∧ 0 ≤ S 1087 9 ∧ S 1087 9 ≤ 511) → ((S 1087 10 = zz_fx p0 49 1023) ∧ 0 ≤ S 1087 10 ∧ S 1087 10 ≤ 1023) → ((S 1087 11 = zz_fx p0 59 31) ∧ 0 ≤ S 1087 11 ∧ S 1087 11 ≤ 31) → (x3 = S 1087 0) → (x4 = 0 → (x3 = 9 ∧ S 1087 6 = 0 ∧ S 1087 7 = 0) ∨ (x3 ≠ 9 ∧ 1 ≤ S 1087 6 ∧ 1 ≤ S 1087 7 ∧ S 1087 7 ≤ S0 1079 1)) → (1 ≤ S 1087 0 ∧ S 1087 0 ≤ 9) → ((x4 = 1 ∧ zz_il (S 1087 0) (S 1087 1) (S 1087 2) (S 1087 3) (S 1087 4) (S 1087 5) (S 1087 6) (S 1087 7) (S 1087 8) (S 1087 9) (S 1087 10) (S 1087 11) (S0 1079 1) = 1) ∨ (x4 = 0 ∧ zz_sh (S 1087 0) (S 1087 6) (S 1087 7) (S0 1079 1) = 0 ∧ (S 1087 0 ≠ 9 ∨ S 1087 11 ≤ 2) ∧ zz_sa (S 1087 0) (S 1087 5) (S 1087 6) (S 1087 7) (S 1087 8) (S 1087 9) (S 1087 10) (S 1087 11) x5 = 0)) → (51539607552 + (12 - x5).toNat) < R → zz_E g l zy_isIllegal_14_24 zr_isIllegal_14_24 (zz_QI n (zp_isIllegal_14_24 p0 S0)) S n 115 [some (.ref 1079), none, none, some (zi x3), some (zi x4), some (zi x5)] [] 0 0) (k236 : ∀  (S : zz_S), zz_G S → zz_fr [(1087, 0), (1087, 1), (1087, 2), (1087, 3), (1087, 4), (1087, 5), (1087, 6), (1087, 7), (1087, 8), (1087, 9), (1087, 10), (1087, 11), (1088, 0), (1088, 1), (1088, 2), (1088, 3), (1088, 4), (1088, 5), (1088, 6), (1088, 7), (1088, 8), (1088, 9), (1089, 0), (1089, 1), (1089, 2), (1089, 3), (1089, 4), (1089, 5), (1089, 6), (1089, 7), (1089, 8), (1089, 9)] [] (fun _ _ => False) S0 S → ((S 1087 0 = zz_fx p0 0 15) ∧ 0 ≤ S 1087 0 ∧ S 1087 0 ≤ 15) → ((S 1087 1 = zz_fx p0 4 1) ∧ 0 ≤ S 1087 1 ∧ S 1087 1 ≤ 1) → ((S 1087 2 = zz_fx p0 5 1) ∧ 0 ≤ S 1087 2 ∧ S 1087 2 ≤ 1) → ((S 1087 3 = zz_fx p0 6 1) ∧ 0 ≤ S 1087 3 ∧ S 1087 3 ≤ 1) → ((S 1087 4 = zz_fx p0 7 1) ∧ 0 ≤ S 1087 4 ∧ S 1087 4 ≤ 1) → ((S 1087 5 = zz_fx p0 8 4095) ∧ 0 ≤ S 1087 5 ∧ S 1087 5 ≤ 4095) → ((S 1087 6 = zz_fx p0 20 63) ∧ 0 ≤ S 1087 6 ∧ S 1087 6 ≤ 63) → ((S 1087 7 = zz_fx p0 26 31) ∧ 0 ≤ S 1087 7 ∧ S 1087 7 ≤ 31) → ((S 1087 8 = zz_fx p0 31 511) ∧ 0 ≤ S 1087 8 ∧ S 1087 8 ≤ 511) → ((S 1087 9 = zz_fx p0 40 511) ∧ 0 ≤ S 1087 9 ∧ S 1087 9 ≤ 511) → ((S 1087 10 = zz_fx p0 49 1023) ∧ 0 ≤ S 1087 10 ∧ S 1087 10 ≤ 1023) → ((S 1087 11 = zz_fx p0 59 31) ∧ 0 ≤ S 1087 11 ∧ S 1087 11 ≤ 31) → (1 ≤ S 1087 0 ∧ S 1087 0 ≤ 9) → ((S 1087 0 = 9 ∧ S 1087 6 = 0 ∧ S 1087 7 = 0) ∨ (S 1087 0 ≠ 9 ∧ 1 ≤ S 1087 6 ∧ 1 ≤ S 1087 7 ∧ S 1087 7 ≤ S0 1079 1)) → (S 1087 0 = 5 → 1 ≤ S 1087 11 / 2 ∧ S 1087 11 / 2 ≤ S0 1079 1) → (zz_sf (S 1087 0) (S 1087 5) (S 1087 6) (S 1087 7) (S 1087 8) (S 1087 9) (S 1087 10) (S 1087 11) = 0) → (zz_sh (S 1087 0) (S 1087 6) (S 1087 7) (S0 1079 1) = 0) → (zz_nf (S 1087 0) (S 1087 11) (S0 1079 1) = 0) → (34359738368 + 0) < R → zz_E g l zy_isIllegal_14_24 zr_isIllegal_14_24 (zz_QI n (zp_isIllegal_14_24 p0 S0)) S n 236 [some (.ref 1079)] [] 0 0) : zz_E g l zy_isIllegal_14_24 zr_isIllegal_14_24 (zz_QI n (zp_isIllegal_14_24 p0 S0)) S n 115 [some (.ref 1079), none, none, some (zi x3), some (zi x4), some (zi x5)] [] 0 0 := by
  refine zz_iload (x := x5) rfl zd_14_24_115 ?_
  refine zz_bipush (by decide) zd_14_24_117 ?_
  refine zz_icmp_ge (by omega) (by omega) zd_14_24_119 (fun c109 => ?_) (fun c109 => ?_)
  · refine zz_iload (x := x4) rfl zd_14_24_173 ?_
    refine zz_if_ne (by omega) zd_14_24_175 (fun c110 => ?_) (fun c110 => ?_)
    · refine zz_iconst zd_14_24_222 ?_
      refine zz_goto zd_14_24_223 ?_
      refine zz_istore [some (.ref 1079), none, none, some (zi x3), some (zi 1), some (zi x5)] zd_14_24_227 (by decide) rfl ?_
      refine zz_iload (x := 1) rfl zd_14_24_229 ?_
      refine zz_if_eq (by omega) zd_14_24_231 (fun c111 => ?_) (fun c111 => ?_)
      · exfalso; omega
      · refine zz_iconst zd_14_24_234 ?_
        exact zz_zret zd_14_24_235 rfl (by omega) (Nat.zero_le _) (Nat.zero_le _) ⟨_, _, rfl, G_S, F_S, by omega, fun hr => absurd hr (by decide), by rw [← i115_3.1, ← i115_4.1, ← i115_5.1, ← i115_6.1, ← i115_7.1, ← i115_8.1, ← i115_9.1, ← i115_10.1, ← i115_11.1, ← i115_12.1, ← i115_13.1, ← i115_14.1]; exact i115_18.elim (fun h => h.2.symm) (fun h => (zz_il1 (Or.inr (Or.inr (Or.inl (zz_nfx (r := 1) (by omega)))))).symm)⟩
    · refine zz_iload_n (x := x3) rfl zd_14_24_178 ?_
      refine zz_iconst zd_14_24_179 ?_
      refine zz_icmp_ne (by omega) (by omega) zd_14_24_180 (fun c112 => ?_) (fun c112 => ?_)
      · refine zz_iload_n (x := x3) rfl zd_14_24_205 ?_
        refine zz_bipush (by decide) zd_14_24_206 ?_
        refine zz_icmp_ne (by omega) (by omega) zd_14_24_208 (fun c113 => ?_) (fun c113 => ?_)
        · refine zz_iconst zd_14_24_226 ?_
          refine zz_istore [some (.ref 1079), none, none, some (zi x3), some (zi 0), some (zi x5)] zd_14_24_227 (by decide) rfl ?_
          refine zz_iload (x := 0) rfl zd_14_24_229 ?_
          refine zz_if_eq (by omega) zd_14_24_231 (fun c114 => ?_) (fun c114 => ?_)
          · have g115 := zz_G.r G_S 1087 0 (-2147483648) 2147483647 rfl rfl
            have g116 := zz_G.r G_S 1087 1 (-2147483648) 2147483647 rfl rfl
            have g117 := zz_G.r G_S 1087 2 (-2147483648) 2147483647 rfl rfl
            have g118 := zz_G.r G_S 1087 3 (-2147483648) 2147483647 rfl rfl
            have g119 := zz_G.r G_S 1087 4 (-2147483648) 2147483647 rfl rfl
            have g120 := zz_G.r G_S 1087 5 (-2147483648) 2147483647 rfl rfl
            have g121 := zz_G.r G_S 1087 6 (-2147483648) 2147483647 rfl rfl
            have g122 := zz_G.r G_S 1087 7 (-2147483648) 2147483647 rfl rfl
            have g123 := zz_G.r G_S 1087 8 (-2147483648) 2147483647 rfl rfl
            have g124 := zz_G.r G_S 1087 9 (-2147483648) 2147483647 rfl rfl
            have g125 := zz_G.r G_S 1087 10 (-2147483648) 2147483647 rfl rfl
            have g126 := zz_G.r G_S 1087 11 (-2147483648) 2147483647 rfl rfl
            refine zz_less (ls1 := [some (.ref 1079)]) ⟨rfl, trivial⟩ ?_
            exact k236 S G_S F_S (by omega) (by omega) (by omega) (by omega) (by omega) (by omega) (by omega) (by omega) (by omega) (by omega) (by omega) (by omega) (by omega) (by omega) (by omega) (i115_18.elim (fun h => absurd h.1 (by omega)) (fun h => zz_sf0 (by omega) (by have e9 : x5 = 12 := (by omega); rw [e9] at h; exact h.2.2.2))) (i115_18.elim (fun h => absurd h.1 (by omega)) (fun h => h.2.1)) (zz_nfx (by omega)) (by omega)
          · exfalso; omega
        · refine zz_aload_n (x := 1079) rfl zd_14_24_211 ?_
          refine zz_getr (kd := 0) (z := 1087) zd_14_24_212 zf_Md_36 zT_1079 rfl (zz_ltn hn rfl) (zz_G.eq G_S 1079 11 1087 rfl rfl) (by decide) 1087 rfl ?_
          refine zz_bipush (by decide) zd_14_24_215 ?_
          have g127 := zz_G.r G_S 1087 11 (-2147483648) 2147483647 rfl rfl
          refine zz_iald (z := S 1087 11) zd_14_24_217 zT_1087 rfl (zz_ltn hn rfl) (by decide) (by decide) rfl ?_
          refine zz_iconst zd_14_24_218 ?_
          refine zz_icmp_le (by omega) (by omega) zd_14_24_219 (fun c128 => ?_) (fun c128 => ?_)
          · refine zz_iconst zd_14_24_226 ?_
            refine zz_istore [some (.ref 1079), none, none, some (zi x3), some (zi 0), some (zi x5)] zd_14_24_227 (by decide) rfl ?_
            refine zz_iload (x := 0) rfl zd_14_24_229 ?_
            refine zz_if_eq (by omega) zd_14_24_231 (fun c129 => ?_) (fun c129 => ?_)
            · have g130 := zz_G.r G_S 1087 0 (-2147483648) 2147483647 rfl rfl
              have g131 := zz_G.r G_S 1087 1 (-2147483648) 2147483647 rfl rfl
              have g132 := zz_G.r G_S 1087 2 (-2147483648) 2147483647 rfl rfl
              have g133 := zz_G.r G_S 1087 3 (-2147483648) 2147483647 rfl rfl
              have g134 := zz_G.r G_S 1087 4 (-2147483648) 2147483647 rfl rfl
              have g135 := zz_G.r G_S 1087 5 (-2147483648) 2147483647 rfl rfl
              have g136 := zz_G.r G_S 1087 6 (-2147483648) 2147483647 rfl rfl
              have g137 := zz_G.r G_S 1087 7 (-2147483648) 2147483647 rfl rfl
              have g138 := zz_G.r G_S 1087 8 (-2147483648) 2147483647 rfl rfl
              have g139 := zz_G.r G_S 1087 9 (-2147483648) 2147483647 rfl rfl
              have g140 := zz_G.r G_S 1087 10 (-2147483648) 2147483647 rfl rfl
              refine zz_less (ls1 := [some (.ref 1079)]) ⟨rfl, trivial⟩ ?_
              exact k236 S G_S F_S (by omega) (by omega) (by omega) (by omega) (by omega) (by omega) (by omega) (by omega) (by omega) (by omega) (by omega) (by omega) (by omega) (by omega) (by omega) (i115_18.elim (fun h => absurd h.1 (by omega)) (fun h => zz_sf0 (by omega) (by have e9 : x5 = 12 := (by omega); rw [e9] at h; exact h.2.2.2))) (i115_18.elim (fun h => absurd h.1 (by omega)) (fun h => h.2.1)) (zz_nfx (by omega)) (by omega)
            · exfalso; omega
          · refine zz_iconst zd_14_24_222 ?_
            refine zz_goto zd_14_24_223 ?_
            refine zz_istore [some (.ref 1079), none, none, some (zi x3), some (zi 1), some (zi x5)] zd_14_24_227 (by decide) rfl ?_
            refine zz_iload (x := 1) rfl zd_14_24_229 ?_
            refine zz_if_eq (by omega) zd_14_24_231 (fun c141 => ?_) (fun c141 => ?_)
            · exfalso; omega
            · refine zz_iconst zd_14_24_234 ?_
              exact zz_zret zd_14_24_235 rfl (by omega) (Nat.zero_le _) (Nat.zero_le _) ⟨_, _, rfl, G_S, F_S, by omega, fun hr => absurd hr (by decide), by rw [← i115_3.1, ← i115_4.1, ← i115_5.1, ← i115_6.1, ← i115_7.1, ← i115_8.1, ← i115_9.1, ← i115_10.1, ← i115_11.1, ← i115_12.1, ← i115_13.1, ← i115_14.1]; exact i115_18.elim (fun h => h.2.symm) (fun h => (zz_il1 (Or.inr (Or.inr (Or.inl (zz_nfx (r := 1) (by omega)))))).symm)⟩
      · refine zz_aload_n (x := 1079) rfl zd_14_24_183 ?_
        refine zz_getr (kd := 0) (z := 1087) zd_14_24_184 zf_Md_36 zT_1079 rfl (zz_ltn hn rfl) (zz_G.eq G_S 1079 11 1087 rfl rfl) (by decide) 1087 rfl ?_
        refine zz_bipush (by decide) zd_14_24_187 ?_
        have g142 := zz_G.r G_S 1087 11 (-2147483648) 2147483647 rfl rfl
        refine zz_iald (z := S 1087 11) zd_14_24_189 zT_1087 rfl (zz_ltn hn rfl) (by decide) (by decide) rfl ?_
        refine zz_iconst zd_14_24_190 ?_
        refine zz_idiv (by omega) (by omega) zd_14_24_191 (fun v143 hv143 av143 bv143 cv143 => ?_)
        refine zz_i2l (by omega) zd_14_24_192 ?_
        refine zz_lconst (z := 1) (by decide) zd_14_24_193 ?_
        refine zz_aload_n (x := 1079) rfl zd_14_24_194 ?_
        have g144 := zz_G.r G_S0 1079 1 2 8 rfl rfl
        refine zz_geti (z := S0 1079 1) zd_14_24_195 zf_Md_7 zT_1079 rfl (zz_ltn hn rfl) (zz_rc F_S rfl rfl (fun h => h) rfl) ?_
        refine zz_i2l (by omega) zd_14_24_198 ?_
        refine zz_callSI [zl v143, zl 1, zl (S0 1079 1)] zd_14_24_199 zk_Md_192 rfl rfl ⟨Nat.le_of_ble_eq_true rfl, Nat.le_of_ble_eq_true rfl⟩ ⟨rfl, rfl⟩ (Nat.zero_le _) (Nat.zero_le _) (zc_in_14_4 v143 1 (S0 1079 1) S n hn G_S (by omega) (by omega) (by omega)) (fun v146 S145 hP => ?_)
        obtain ⟨rfl, o147, o148⟩ := hP
        rcases (by omega : v146 = 0 ∨ v146 = 1) with rfl | rfl
        · have n149 : v143 < 1 ∨ S0 1079 1 < v143 := by omega
          clear o148
          refine zz_if_eq (by omega) zd_14_24_202 (fun c150 => ?_) (fun c150 => ?_)
          · refine zz_iconst zd_14_24_222 ?_
            refine zz_goto zd_14_24_223 ?_
            refine zz_istore [some (.ref 1079), none, none, some (zi x3), some (zi 1), some (zi x5)] zd_14_24_227 (by decide) rfl ?_
            refine zz_iload (x := 1) rfl zd_14_24_229 ?_
            refine zz_if_eq (by omega) zd_14_24_231 (fun c151 => ?_) (fun c151 => ?_)
            · exfalso; omega
            · refine zz_iconst zd_14_24_234 ?_
              exact zz_zret zd_14_24_235 rfl (by omega) (Nat.zero_le _) (Nat.zero_le _) ⟨_, _, rfl, G_S, F_S, by omega, fun hr => absurd hr (by decide), by rw [← i115_3.1, ← i115_4.1, ← i115_5.1, ← i115_6.1, ← i115_7.1, ← i115_8.1, ← i115_9.1, ← i115_10.1, ← i115_11.1, ← i115_12.1, ← i115_13.1, ← i115_14.1]; exact i115_18.elim (fun h => h.2.symm) (fun h => (zz_il1 (Or.inr (Or.inr (Or.inl (zz_nfx (r := 1) (by omega)))))).symm)⟩
          · exfalso; omega
        · have n152 : 1 ≤ v143 ∧ v143 ≤ S0 1079 1 := by omega
          clear o148
          refine zz_if_eq (by omega) zd_14_24_202 (fun c153 => ?_) (fun c153 => ?_)
          · exfalso; omega
          · refine zz_iload_n (x := x3) rfl zd_14_24_205 ?_
            refine zz_bipush (by decide) zd_14_24_206 ?_
            refine zz_icmp_ne (by omega) (by omega) zd_14_24_208 (fun c154 => ?_) (fun c154 => ?_)
            · refine zz_iconst zd_14_24_226 ?_
              refine zz_istore [some (.ref 1079), none, none, some (zi x3), some (zi 0), some (zi x5)] zd_14_24_227 (by decide) rfl ?_
              refine zz_iload (x := 0) rfl zd_14_24_229 ?_
              refine zz_if_eq (by omega) zd_14_24_231 (fun c155 => ?_) (fun c155 => ?_)
              · have g156 := zz_G.r G_S 1087 0 (-2147483648) 2147483647 rfl rfl
                have g157 := zz_G.r G_S 1087 1 (-2147483648) 2147483647 rfl rfl
                have g158 := zz_G.r G_S 1087 2 (-2147483648) 2147483647 rfl rfl
                have g159 := zz_G.r G_S 1087 3 (-2147483648) 2147483647 rfl rfl
                have g160 := zz_G.r G_S 1087 4 (-2147483648) 2147483647 rfl rfl
                have g161 := zz_G.r G_S 1087 5 (-2147483648) 2147483647 rfl rfl
                have g162 := zz_G.r G_S 1087 6 (-2147483648) 2147483647 rfl rfl
                have g163 := zz_G.r G_S 1087 7 (-2147483648) 2147483647 rfl rfl
                have g164 := zz_G.r G_S 1087 8 (-2147483648) 2147483647 rfl rfl
                have g165 := zz_G.r G_S 1087 9 (-2147483648) 2147483647 rfl rfl
                have g166 := zz_G.r G_S 1087 10 (-2147483648) 2147483647 rfl rfl
                refine zz_less (ls1 := [some (.ref 1079)]) ⟨rfl, trivial⟩ ?_
                exact k236 S G_S F_S (by omega) (by omega) (by omega) (by omega) (by omega) (by omega) (by omega) (by omega) (by omega) (by omega) (by omega) (by omega) (by omega) (by omega) (by omega) (i115_18.elim (fun h => absurd h.1 (by omega)) (fun h => zz_sf0 (by omega) (by have e9 : x5 = 12 := (by omega); rw [e9] at h; exact h.2.2.2))) (i115_18.elim (fun h => absurd h.1 (by omega)) (fun h => h.2.1)) (zz_nfx (by omega)) (by omega)
              · exfalso; omega
            · exfalso; omega
  · refine zz_iload (x := x4) rfl zd_14_24_122 ?_
    refine zz_if_ne (by omega) zd_14_24_124 (fun c167 => ?_) (fun c167 => ?_)
    · refine zz_iconst zd_14_24_160 ?_
      refine zz_goto zd_14_24_161 ?_
      refine zz_istore [some (.ref 1079), none, none, some (zi x3), some (zi 1), some (zi x5)] zd_14_24_165 (by decide) rfl ?_
      refine zz_iinc [some (.ref 1079), none, none, some (zi x3), some (zi 1), some (zi (x5 + 1))] zd_14_24_167 rfl rfl ?_
      refine zz_goto zd_14_24_170 ?_
      have g168 := zz_G.r G_S 1087 0 (-2147483648) 2147483647 rfl rfl
      have g169 := zz_G.r G_S 1087 1 (-2147483648) 2147483647 rfl rfl
      have g170 := zz_G.r G_S 1087 2 (-2147483648) 2147483647 rfl rfl
      have g171 := zz_G.r G_S 1087 3 (-2147483648) 2147483647 rfl rfl
      have g172 := zz_G.r G_S 1087 4 (-2147483648) 2147483647 rfl rfl
      have g173 := zz_G.r G_S 1087 5 (-2147483648) 2147483647 rfl rfl
      have g174 := zz_G.r G_S 1087 6 (-2147483648) 2147483647 rfl rfl
      have g175 := zz_G.r G_S 1087 7 (-2147483648) 2147483647 rfl rfl
      have g176 := zz_G.r G_S 1087 8 (-2147483648) 2147483647 rfl rfl
      have g177 := zz_G.r G_S 1087 9 (-2147483648) 2147483647 rfl rfl
      have g178 := zz_G.r G_S 1087 10 (-2147483648) 2147483647 rfl rfl
      have g179 := zz_G.r G_S 1087 11 (-2147483648) 2147483647 rfl rfl
      refine zz_less (ls1 := [some (.ref 1079), none, none, some (zi x3), some (zi 1), some (zi (x5 + 1))]) ⟨rfl, ⟨rfl, ⟨rfl, ⟨rfl, trivial⟩⟩⟩⟩ ?_
      exact k115 x3 1 (x5 + 1) S G_S F_S (by omega) (by omega) (by omega) (by omega) (by omega) (by omega) (by omega) (by omega) (by omega) (by omega) (by omega) (by omega) (by omega) (by omega) (by omega) (by omega) (by omega) (by omega) (Or.inl ⟨rfl, i115_18.elim (fun h => h.2) (fun h => absurd h.1 (by omega))⟩) (by omega)
    · rcases (by omega : x5 = 5 ∨ x5 = 6 ∨ x5 = 7 ∨ x5 = 8 ∨ x5 = 9 ∨ x5 = 10 ∨ x5 = 11) with rfl | rfl | rfl | rfl | rfl | rfl | rfl
      · refine zz_iload (x := 5) rfl zd_14_24_127 ?_
        refine zz_bipush (by decide) zd_14_24_129 ?_
        refine zz_icmp_eq (by omega) (by omega) zd_14_24_131 (fun c180 => ?_) (fun c180 => ?_)
        · exfalso; omega
        · refine zz_iload (x := 5) rfl zd_14_24_134 ?_
          refine zz_bipush (by decide) zd_14_24_136 ?_
          refine zz_icmp_eq (by omega) (by omega) zd_14_24_138 (fun c181 => ?_) (fun c181 => ?_)
          · exfalso; omega
          · refine zz_iload_n (x := x3) rfl zd_14_24_141 ?_
            refine zz_iload (x := 5) rfl zd_14_24_142 ?_
            refine zz_callSI [zi x3, zi 5] zd_14_24_144 zk_Md_240 rfl rfl ⟨Nat.le_of_ble_eq_true rfl, Nat.le_of_ble_eq_true rfl⟩ ⟨rfl, rfl⟩ (Nat.zero_le _) (Nat.zero_le _) (zc_names_14_23x_5 x3 S n hn G_S (by omega)) (fun v183 S182 hP => ?_)
            obtain ⟨rfl, o184, o185⟩ := hP
            rcases (by omega : v183 = 0 ∨ v183 = 1) with rfl | rfl
            · rw [show x3 = S 1087 0 by omega] at o185
              refine zz_if_ne (by omega) zd_14_24_147 (fun c186 => ?_) (fun c186 => ?_)
              · exfalso; omega
              · refine zz_aload_n (x := 1079) rfl zd_14_24_150 ?_
                refine zz_getr (kd := 0) (z := 1087) zd_14_24_151 zf_Md_36 zT_1079 rfl (zz_ltn hn rfl) (zz_G.eq G_S 1079 11 1087 rfl rfl) (by decide) 1087 rfl ?_
                refine zz_iload (x := 5) rfl zd_14_24_154 ?_
                have g187 := zz_G.r G_S 1087 5 (-2147483648) 2147483647 rfl rfl
                refine zz_iald (z := S 1087 5) zd_14_24_156 zT_1087 rfl (zz_ltn hn rfl) (by decide) (by decide) rfl ?_
                refine zz_if_eq (by omega) zd_14_24_157 (fun c188 => ?_) (fun c188 => ?_)
                · refine zz_iconst zd_14_24_164 ?_
                  refine zz_istore [some (.ref 1079), none, none, some (zi x3), some (zi 0), some (zi 5)] zd_14_24_165 (by decide) rfl ?_
                  refine zz_iinc [some (.ref 1079), none, none, some (zi x3), some (zi 0), some (zi 6)] zd_14_24_167 rfl rfl ?_
                  refine zz_goto zd_14_24_170 ?_
                  have g189 := zz_G.r G_S 1087 0 (-2147483648) 2147483647 rfl rfl
                  have g190 := zz_G.r G_S 1087 1 (-2147483648) 2147483647 rfl rfl
                  have g191 := zz_G.r G_S 1087 2 (-2147483648) 2147483647 rfl rfl
                  have g192 := zz_G.r G_S 1087 3 (-2147483648) 2147483647 rfl rfl
                  have g193 := zz_G.r G_S 1087 4 (-2147483648) 2147483647 rfl rfl
                  have g194 := zz_G.r G_S 1087 6 (-2147483648) 2147483647 rfl rfl
                  have g195 := zz_G.r G_S 1087 7 (-2147483648) 2147483647 rfl rfl
                  have g196 := zz_G.r G_S 1087 8 (-2147483648) 2147483647 rfl rfl
                  have g197 := zz_G.r G_S 1087 9 (-2147483648) 2147483647 rfl rfl
                  have g198 := zz_G.r G_S 1087 10 (-2147483648) 2147483647 rfl rfl
                  have g199 := zz_G.r G_S 1087 11 (-2147483648) 2147483647 rfl rfl
                  refine zz_less (ls1 := [some (.ref 1079), none, none, some (zi x3), some (zi 0), some (zi 6)]) ⟨rfl, ⟨rfl, ⟨rfl, ⟨rfl, trivial⟩⟩⟩⟩ ?_
                  exact k115 x3 0 6 S G_S F_S (by omega) (by omega) (by omega) (by omega) (by omega) (by omega) (by omega) (by omega) (by omega) (by omega) (by omega) (by omega) (by omega) (by omega) (by omega) (by omega) (by omega) (by omega) (i115_18.elim (fun h => absurd h.1 (by omega)) (fun h => Or.inr ⟨rfl, h.2.1, h.2.2.1, zz_saS (x := 5) (f := S 1087 5) (by omega) (by omega) h.2.2.2 ⟨fun _ => rfl, fun h => absurd h (by decide), fun h => absurd h (by decide), fun h => absurd h (by decide), fun h => absurd h (by decide), fun h => absurd h (by decide), fun h => absurd h (by decide)⟩ (zz_st0 (by omega))⟩)) (by omega)
                · refine zz_iconst zd_14_24_160 ?_
                  refine zz_goto zd_14_24_161 ?_
                  refine zz_istore [some (.ref 1079), none, none, some (zi x3), some (zi 1), some (zi 5)] zd_14_24_165 (by decide) rfl ?_
                  refine zz_iinc [some (.ref 1079), none, none, some (zi x3), some (zi 1), some (zi 6)] zd_14_24_167 rfl rfl ?_
                  refine zz_goto zd_14_24_170 ?_
                  have g200 := zz_G.r G_S 1087 0 (-2147483648) 2147483647 rfl rfl
                  have g201 := zz_G.r G_S 1087 1 (-2147483648) 2147483647 rfl rfl
                  have g202 := zz_G.r G_S 1087 2 (-2147483648) 2147483647 rfl rfl
                  have g203 := zz_G.r G_S 1087 3 (-2147483648) 2147483647 rfl rfl
                  have g204 := zz_G.r G_S 1087 4 (-2147483648) 2147483647 rfl rfl
                  have g205 := zz_G.r G_S 1087 6 (-2147483648) 2147483647 rfl rfl
                  have g206 := zz_G.r G_S 1087 7 (-2147483648) 2147483647 rfl rfl
                  have g207 := zz_G.r G_S 1087 8 (-2147483648) 2147483647 rfl rfl
                  have g208 := zz_G.r G_S 1087 9 (-2147483648) 2147483647 rfl rfl
                  have g209 := zz_G.r G_S 1087 10 (-2147483648) 2147483647 rfl rfl
                  have g210 := zz_G.r G_S 1087 11 (-2147483648) 2147483647 rfl rfl
                  refine zz_less (ls1 := [some (.ref 1079), none, none, some (zi x3), some (zi 1), some (zi 6)]) ⟨rfl, ⟨rfl, ⟨rfl, ⟨rfl, trivial⟩⟩⟩⟩ ?_
                  exact k115 x3 1 6 S G_S F_S (by omega) (by omega) (by omega) (by omega) (by omega) (by omega) (by omega) (by omega) (by omega) (by omega) (by omega) (by omega) (by omega) (by omega) (by omega) (by omega) (by omega) (by omega) (Or.inl ⟨rfl, zz_il1 (Or.inl (zz_sf1 (x := 5) (f := S 1087 5) (by omega) ⟨fun _ => rfl, fun h => absurd h (by decide), fun h => absurd h (by decide), fun h => absurd h (by decide), fun h => absurd h (by decide), fun h => absurd h (by decide), fun h => absurd h (by decide)⟩ (zz_st2 (by omega) (by omega))))⟩) (by omega)
            · rw [show x3 = S 1087 0 by omega] at o185
              refine zz_if_ne (by omega) zd_14_24_147 (fun c211 => ?_) (fun c211 => ?_)
              · refine zz_iconst zd_14_24_164 ?_
                refine zz_istore [some (.ref 1079), none, none, some (zi x3), some (zi 0), some (zi 5)] zd_14_24_165 (by decide) rfl ?_
                refine zz_iinc [some (.ref 1079), none, none, some (zi x3), some (zi 0), some (zi 6)] zd_14_24_167 rfl rfl ?_
                refine zz_goto zd_14_24_170 ?_
                have g212 := zz_G.r G_S 1087 0 (-2147483648) 2147483647 rfl rfl
                have g213 := zz_G.r G_S 1087 1 (-2147483648) 2147483647 rfl rfl
                have g214 := zz_G.r G_S 1087 2 (-2147483648) 2147483647 rfl rfl
                have g215 := zz_G.r G_S 1087 3 (-2147483648) 2147483647 rfl rfl
                have g216 := zz_G.r G_S 1087 4 (-2147483648) 2147483647 rfl rfl
                have g217 := zz_G.r G_S 1087 5 (-2147483648) 2147483647 rfl rfl
                have g218 := zz_G.r G_S 1087 6 (-2147483648) 2147483647 rfl rfl
                have g219 := zz_G.r G_S 1087 7 (-2147483648) 2147483647 rfl rfl
                have g220 := zz_G.r G_S 1087 8 (-2147483648) 2147483647 rfl rfl
                have g221 := zz_G.r G_S 1087 9 (-2147483648) 2147483647 rfl rfl
                have g222 := zz_G.r G_S 1087 10 (-2147483648) 2147483647 rfl rfl
                have g223 := zz_G.r G_S 1087 11 (-2147483648) 2147483647 rfl rfl
                refine zz_less (ls1 := [some (.ref 1079), none, none, some (zi x3), some (zi 0), some (zi 6)]) ⟨rfl, ⟨rfl, ⟨rfl, ⟨rfl, trivial⟩⟩⟩⟩ ?_
                exact k115 x3 0 6 S G_S F_S (by omega) (by omega) (by omega) (by omega) (by omega) (by omega) (by omega) (by omega) (by omega) (by omega) (by omega) (by omega) (by omega) (by omega) (by omega) (by omega) (by omega) (by omega) (i115_18.elim (fun h => absurd h.1 (by omega)) (fun h => Or.inr ⟨rfl, h.2.1, h.2.2.1, zz_saS (x := 5) (f := S 1087 5) (by omega) (by omega) h.2.2.2 ⟨fun _ => rfl, fun h => absurd h (by decide), fun h => absurd h (by decide), fun h => absurd h (by decide), fun h => absurd h (by decide), fun h => absurd h (by decide), fun h => absurd h (by decide)⟩ (zz_st0 (by omega))⟩)) (by omega)
              · exfalso; omega
      · refine zz_iload (x := 6) rfl zd_14_24_127 ?_
        refine zz_bipush (by decide) zd_14_24_129 ?_
        refine zz_icmp_eq (by omega) (by omega) zd_14_24_131 (fun c224 => ?_) (fun c224 => ?_)
        · refine zz_iconst zd_14_24_164 ?_
          refine zz_istore [some (.ref 1079), none, none, some (zi x3), some (zi 0), some (zi 6)] zd_14_24_165 (by decide) rfl ?_
          refine zz_iinc [some (.ref 1079), none, none, some (zi x3), some (zi 0), some (zi 7)] zd_14_24_167 rfl rfl ?_
          refine zz_goto zd_14_24_170 ?_
          have g225 := zz_G.r G_S 1087 0 (-2147483648) 2147483647 rfl rfl
          have g226 := zz_G.r G_S 1087 1 (-2147483648) 2147483647 rfl rfl
          have g227 := zz_G.r G_S 1087 2 (-2147483648) 2147483647 rfl rfl
          have g228 := zz_G.r G_S 1087 3 (-2147483648) 2147483647 rfl rfl
          have g229 := zz_G.r G_S 1087 4 (-2147483648) 2147483647 rfl rfl
          have g230 := zz_G.r G_S 1087 5 (-2147483648) 2147483647 rfl rfl
          have g231 := zz_G.r G_S 1087 6 (-2147483648) 2147483647 rfl rfl
          have g232 := zz_G.r G_S 1087 7 (-2147483648) 2147483647 rfl rfl
          have g233 := zz_G.r G_S 1087 8 (-2147483648) 2147483647 rfl rfl
          have g234 := zz_G.r G_S 1087 9 (-2147483648) 2147483647 rfl rfl
          have g235 := zz_G.r G_S 1087 10 (-2147483648) 2147483647 rfl rfl
          have g236 := zz_G.r G_S 1087 11 (-2147483648) 2147483647 rfl rfl
          refine zz_less (ls1 := [some (.ref 1079), none, none, some (zi x3), some (zi 0), some (zi 7)]) ⟨rfl, ⟨rfl, ⟨rfl, ⟨rfl, trivial⟩⟩⟩⟩ ?_
          exact k115 x3 0 7 S G_S F_S (by omega) (by omega) (by omega) (by omega) (by omega) (by omega) (by omega) (by omega) (by omega) (by omega) (by omega) (by omega) (by omega) (by omega) (by omega) (by omega) (by omega) (by omega) (i115_18.elim (fun h => absurd h.1 (by omega)) (fun h => Or.inr ⟨rfl, h.2.1, h.2.2.1, zz_saS (x := 6) (f := S 1087 6) (by omega) (by omega) h.2.2.2 ⟨fun h => absurd h (by decide), fun _ => rfl, fun h => absurd h (by decide), fun h => absurd h (by decide), fun h => absurd h (by decide), fun h => absurd h (by decide), fun h => absurd h (by decide)⟩ (zz_st67 (by omega) (by omega))⟩)) (by omega)
        · exfalso; omega
      · refine zz_iload (x := 7) rfl zd_14_24_127 ?_
        refine zz_bipush (by decide) zd_14_24_129 ?_
        refine zz_icmp_eq (by omega) (by omega) zd_14_24_131 (fun c237 => ?_) (fun c237 => ?_)
        · exfalso; omega
        · refine zz_iload (x := 7) rfl zd_14_24_134 ?_
          refine zz_bipush (by decide) zd_14_24_136 ?_
          refine zz_icmp_eq (by omega) (by omega) zd_14_24_138 (fun c238 => ?_) (fun c238 => ?_)
          · refine zz_iconst zd_14_24_164 ?_
            refine zz_istore [some (.ref 1079), none, none, some (zi x3), some (zi 0), some (zi 7)] zd_14_24_165 (by decide) rfl ?_
            refine zz_iinc [some (.ref 1079), none, none, some (zi x3), some (zi 0), some (zi 8)] zd_14_24_167 rfl rfl ?_
            refine zz_goto zd_14_24_170 ?_
            have g239 := zz_G.r G_S 1087 0 (-2147483648) 2147483647 rfl rfl
            have g240 := zz_G.r G_S 1087 1 (-2147483648) 2147483647 rfl rfl
            have g241 := zz_G.r G_S 1087 2 (-2147483648) 2147483647 rfl rfl
            have g242 := zz_G.r G_S 1087 3 (-2147483648) 2147483647 rfl rfl
            have g243 := zz_G.r G_S 1087 4 (-2147483648) 2147483647 rfl rfl
            have g244 := zz_G.r G_S 1087 5 (-2147483648) 2147483647 rfl rfl
            have g245 := zz_G.r G_S 1087 6 (-2147483648) 2147483647 rfl rfl
            have g246 := zz_G.r G_S 1087 7 (-2147483648) 2147483647 rfl rfl
            have g247 := zz_G.r G_S 1087 8 (-2147483648) 2147483647 rfl rfl
            have g248 := zz_G.r G_S 1087 9 (-2147483648) 2147483647 rfl rfl
            have g249 := zz_G.r G_S 1087 10 (-2147483648) 2147483647 rfl rfl
            have g250 := zz_G.r G_S 1087 11 (-2147483648) 2147483647 rfl rfl
            refine zz_less (ls1 := [some (.ref 1079), none, none, some (zi x3), some (zi 0), some (zi 8)]) ⟨rfl, ⟨rfl, ⟨rfl, ⟨rfl, trivial⟩⟩⟩⟩ ?_
            exact k115 x3 0 8 S G_S F_S (by omega) (by omega) (by omega) (by omega) (by omega) (by omega) (by omega) (by omega) (by omega) (by omega) (by omega) (by omega) (by omega) (by omega) (by omega) (by omega) (by omega) (by omega) (i115_18.elim (fun h => absurd h.1 (by omega)) (fun h => Or.inr ⟨rfl, h.2.1, h.2.2.1, zz_saS (x := 7) (f := S 1087 7) (by omega) (by omega) h.2.2.2 ⟨fun h => absurd h (by decide), fun h => absurd h (by decide), fun _ => rfl, fun h => absurd h (by decide), fun h => absurd h (by decide), fun h => absurd h (by decide), fun h => absurd h (by decide)⟩ (zz_st67 (by omega) (by omega))⟩)) (by omega)
          · exfalso; omega
      · refine zz_iload (x := 8) rfl zd_14_24_127 ?_
        refine zz_bipush (by decide) zd_14_24_129 ?_
        refine zz_icmp_eq (by omega) (by omega) zd_14_24_131 (fun c251 => ?_) (fun c251 => ?_)
        · exfalso; omega
        · refine zz_iload (x := 8) rfl zd_14_24_134 ?_
          refine zz_bipush (by decide) zd_14_24_136 ?_
          refine zz_icmp_eq (by omega) (by omega) zd_14_24_138 (fun c252 => ?_) (fun c252 => ?_)
          · exfalso; omega
          · refine zz_iload_n (x := x3) rfl zd_14_24_141 ?_
            refine zz_iload (x := 8) rfl zd_14_24_142 ?_
            refine zz_callSI [zi x3, zi 8] zd_14_24_144 zk_Md_240 rfl rfl ⟨Nat.le_of_ble_eq_true rfl, Nat.le_of_ble_eq_true rfl⟩ ⟨rfl, rfl⟩ (Nat.zero_le _) (Nat.zero_le _) (zc_names_14_23x_8 x3 S n hn G_S (by omega)) (fun v254 S253 hP => ?_)
            obtain ⟨rfl, o255, o256⟩ := hP
            rcases (by omega : v254 = 0 ∨ v254 = 1) with rfl | rfl
            · rw [show x3 = S 1087 0 by omega] at o256
              refine zz_if_ne (by omega) zd_14_24_147 (fun c257 => ?_) (fun c257 => ?_)
              · exfalso; omega
              · refine zz_aload_n (x := 1079) rfl zd_14_24_150 ?_
                refine zz_getr (kd := 0) (z := 1087) zd_14_24_151 zf_Md_36 zT_1079 rfl (zz_ltn hn rfl) (zz_G.eq G_S 1079 11 1087 rfl rfl) (by decide) 1087 rfl ?_
                refine zz_iload (x := 8) rfl zd_14_24_154 ?_
                have g258 := zz_G.r G_S 1087 8 (-2147483648) 2147483647 rfl rfl
                refine zz_iald (z := S 1087 8) zd_14_24_156 zT_1087 rfl (zz_ltn hn rfl) (by decide) (by decide) rfl ?_
                refine zz_if_eq (by omega) zd_14_24_157 (fun c259 => ?_) (fun c259 => ?_)
                · refine zz_iconst zd_14_24_164 ?_
                  refine zz_istore [some (.ref 1079), none, none, some (zi x3), some (zi 0), some (zi 8)] zd_14_24_165 (by decide) rfl ?_
                  refine zz_iinc [some (.ref 1079), none, none, some (zi x3), some (zi 0), some (zi 9)] zd_14_24_167 rfl rfl ?_
                  refine zz_goto zd_14_24_170 ?_
                  have g260 := zz_G.r G_S 1087 0 (-2147483648) 2147483647 rfl rfl
                  have g261 := zz_G.r G_S 1087 1 (-2147483648) 2147483647 rfl rfl
                  have g262 := zz_G.r G_S 1087 2 (-2147483648) 2147483647 rfl rfl
                  have g263 := zz_G.r G_S 1087 3 (-2147483648) 2147483647 rfl rfl
                  have g264 := zz_G.r G_S 1087 4 (-2147483648) 2147483647 rfl rfl
                  have g265 := zz_G.r G_S 1087 5 (-2147483648) 2147483647 rfl rfl
                  have g266 := zz_G.r G_S 1087 6 (-2147483648) 2147483647 rfl rfl
                  have g267 := zz_G.r G_S 1087 7 (-2147483648) 2147483647 rfl rfl
                  have g268 := zz_G.r G_S 1087 9 (-2147483648) 2147483647 rfl rfl
                  have g269 := zz_G.r G_S 1087 10 (-2147483648) 2147483647 rfl rfl
                  have g270 := zz_G.r G_S 1087 11 (-2147483648) 2147483647 rfl rfl
                  refine zz_less (ls1 := [some (.ref 1079), none, none, some (zi x3), some (zi 0), some (zi 9)]) ⟨rfl, ⟨rfl, ⟨rfl, ⟨rfl, trivial⟩⟩⟩⟩ ?_
                  exact k115 x3 0 9 S G_S F_S (by omega) (by omega) (by omega) (by omega) (by omega) (by omega) (by omega) (by omega) (by omega) (by omega) (by omega) (by omega) (by omega) (by omega) (by omega) (by omega) (by omega) (by omega) (i115_18.elim (fun h => absurd h.1 (by omega)) (fun h => Or.inr ⟨rfl, h.2.1, h.2.2.1, zz_saS (x := 8) (f := S 1087 8) (by omega) (by omega) h.2.2.2 ⟨fun h => absurd h (by decide), fun h => absurd h (by decide), fun h => absurd h (by decide), fun _ => rfl, fun h => absurd h (by decide), fun h => absurd h (by decide), fun h => absurd h (by decide)⟩ (zz_st0 (by omega))⟩)) (by omega)
                · refine zz_iconst zd_14_24_160 ?_
                  refine zz_goto zd_14_24_161 ?_
                  refine zz_istore [some (.ref 1079), none, none, some (zi x3), some (zi 1), some (zi 8)] zd_14_24_165 (by decide) rfl ?_
                  refine zz_iinc [some (.ref 1079), none, none, some (zi x3), some (zi 1), some (zi 9)] zd_14_24_167 rfl rfl ?_
                  refine zz_goto zd_14_24_170 ?_
                  have g271 := zz_G.r G_S 1087 0 (-2147483648) 2147483647 rfl rfl
                  have g272 := zz_G.r G_S 1087 1 (-2147483648) 2147483647 rfl rfl
                  have g273 := zz_G.r G_S 1087 2 (-2147483648) 2147483647 rfl rfl
                  have g274 := zz_G.r G_S 1087 3 (-2147483648) 2147483647 rfl rfl
                  have g275 := zz_G.r G_S 1087 4 (-2147483648) 2147483647 rfl rfl
                  have g276 := zz_G.r G_S 1087 5 (-2147483648) 2147483647 rfl rfl
                  have g277 := zz_G.r G_S 1087 6 (-2147483648) 2147483647 rfl rfl
                  have g278 := zz_G.r G_S 1087 7 (-2147483648) 2147483647 rfl rfl
                  have g279 := zz_G.r G_S 1087 9 (-2147483648) 2147483647 rfl rfl
                  have g280 := zz_G.r G_S 1087 10 (-2147483648) 2147483647 rfl rfl
                  have g281 := zz_G.r G_S 1087 11 (-2147483648) 2147483647 rfl rfl
                  refine zz_less (ls1 := [some (.ref 1079), none, none, some (zi x3), some (zi 1), some (zi 9)]) ⟨rfl, ⟨rfl, ⟨rfl, ⟨rfl, trivial⟩⟩⟩⟩ ?_
                  exact k115 x3 1 9 S G_S F_S (by omega) (by omega) (by omega) (by omega) (by omega) (by omega) (by omega) (by omega) (by omega) (by omega) (by omega) (by omega) (by omega) (by omega) (by omega) (by omega) (by omega) (by omega) (Or.inl ⟨rfl, zz_il1 (Or.inl (zz_sf1 (x := 8) (f := S 1087 8) (by omega) ⟨fun h => absurd h (by decide), fun h => absurd h (by decide), fun h => absurd h (by decide), fun _ => rfl, fun h => absurd h (by decide), fun h => absurd h (by decide), fun h => absurd h (by decide)⟩ (zz_st2 (by omega) (by omega))))⟩) (by omega)
            · rw [show x3 = S 1087 0 by omega] at o256
              refine zz_if_ne (by omega) zd_14_24_147 (fun c282 => ?_) (fun c282 => ?_)
              · refine zz_iconst zd_14_24_164 ?_
                refine zz_istore [some (.ref 1079), none, none, some (zi x3), some (zi 0), some (zi 8)] zd_14_24_165 (by decide) rfl ?_
                refine zz_iinc [some (.ref 1079), none, none, some (zi x3), some (zi 0), some (zi 9)] zd_14_24_167 rfl rfl ?_
                refine zz_goto zd_14_24_170 ?_
                have g283 := zz_G.r G_S 1087 0 (-2147483648) 2147483647 rfl rfl
                have g284 := zz_G.r G_S 1087 1 (-2147483648) 2147483647 rfl rfl
                have g285 := zz_G.r G_S 1087 2 (-2147483648) 2147483647 rfl rfl
                have g286 := zz_G.r G_S 1087 3 (-2147483648) 2147483647 rfl rfl
                have g287 := zz_G.r G_S 1087 4 (-2147483648) 2147483647 rfl rfl
                have g288 := zz_G.r G_S 1087 5 (-2147483648) 2147483647 rfl rfl
                have g289 := zz_G.r G_S 1087 6 (-2147483648) 2147483647 rfl rfl
                have g290 := zz_G.r G_S 1087 7 (-2147483648) 2147483647 rfl rfl
                have g291 := zz_G.r G_S 1087 8 (-2147483648) 2147483647 rfl rfl
                have g292 := zz_G.r G_S 1087 9 (-2147483648) 2147483647 rfl rfl
                have g293 := zz_G.r G_S 1087 10 (-2147483648) 2147483647 rfl rfl
                have g294 := zz_G.r G_S 1087 11 (-2147483648) 2147483647 rfl rfl
                refine zz_less (ls1 := [some (.ref 1079), none, none, some (zi x3), some (zi 0), some (zi 9)]) ⟨rfl, ⟨rfl, ⟨rfl, ⟨rfl, trivial⟩⟩⟩⟩ ?_
                exact k115 x3 0 9 S G_S F_S (by omega) (by omega) (by omega) (by omega) (by omega) (by omega) (by omega) (by omega) (by omega) (by omega) (by omega) (by omega) (by omega) (by omega) (by omega) (by omega) (by omega) (by omega) (i115_18.elim (fun h => absurd h.1 (by omega)) (fun h => Or.inr ⟨rfl, h.2.1, h.2.2.1, zz_saS (x := 8) (f := S 1087 8) (by omega) (by omega) h.2.2.2 ⟨fun h => absurd h (by decide), fun h => absurd h (by decide), fun h => absurd h (by decide), fun _ => rfl, fun h => absurd h (by decide), fun h => absurd h (by decide), fun h => absurd h (by decide)⟩ (zz_st0 (by omega))⟩)) (by omega)
              · exfalso; omega
      · refine zz_iload (x := 9) rfl zd_14_24_127 ?_
        refine zz_bipush (by decide) zd_14_24_129 ?_
        refine zz_icmp_eq (by omega) (by omega) zd_14_24_131 (fun c295 => ?_) (fun c295 => ?_)
        · exfalso; omega
        · refine zz_iload (x := 9) rfl zd_14_24_134 ?_
          refine zz_bipush (by decide) zd_14_24_136 ?_
          refine zz_icmp_eq (by omega) (by omega) zd_14_24_138 (fun c296 => ?_) (fun c296 => ?_)
          · exfalso; omega
          · refine zz_iload_n (x := x3) rfl zd_14_24_141 ?_
            refine zz_iload (x := 9) rfl zd_14_24_142 ?_
            refine zz_callSI [zi x3, zi 9] zd_14_24_144 zk_Md_240 rfl rfl ⟨Nat.le_of_ble_eq_true rfl, Nat.le_of_ble_eq_true rfl⟩ ⟨rfl, rfl⟩ (Nat.zero_le _) (Nat.zero_le _) (zc_names_14_23x_9 x3 S n hn G_S (by omega)) (fun v298 S297 hP => ?_)
            obtain ⟨rfl, o299, o300⟩ := hP
            rcases (by omega : v298 = 0 ∨ v298 = 1) with rfl | rfl
            · rw [show x3 = S 1087 0 by omega] at o300
              refine zz_if_ne (by omega) zd_14_24_147 (fun c301 => ?_) (fun c301 => ?_)
              · exfalso; omega
              · refine zz_aload_n (x := 1079) rfl zd_14_24_150 ?_
                refine zz_getr (kd := 0) (z := 1087) zd_14_24_151 zf_Md_36 zT_1079 rfl (zz_ltn hn rfl) (zz_G.eq G_S 1079 11 1087 rfl rfl) (by decide) 1087 rfl ?_
                refine zz_iload (x := 9) rfl zd_14_24_154 ?_
                have g302 := zz_G.r G_S 1087 9 (-2147483648) 2147483647 rfl rfl
                refine zz_iald (z := S 1087 9) zd_14_24_156 zT_1087 rfl (zz_ltn hn rfl) (by decide) (by decide) rfl ?_
                refine zz_if_eq (by omega) zd_14_24_157 (fun c303 => ?_) (fun c303 => ?_)
                · refine zz_iconst zd_14_24_164 ?_
                  refine zz_istore [some (.ref 1079), none, none, some (zi x3), some (zi 0), some (zi 9)] zd_14_24_165 (by decide) rfl ?_
                  refine zz_iinc [some (.ref 1079), none, none, some (zi x3), some (zi 0), some (zi 10)] zd_14_24_167 rfl rfl ?_
                  refine zz_goto zd_14_24_170 ?_
                  have g304 := zz_G.r G_S 1087 0 (-2147483648) 2147483647 rfl rfl
                  have g305 := zz_G.r G_S 1087 1 (-2147483648) 2147483647 rfl rfl
                  have g306 := zz_G.r G_S 1087 2 (-2147483648) 2147483647 rfl rfl
                  have g307 := zz_G.r G_S 1087 3 (-2147483648) 2147483647 rfl rfl
                  have g308 := zz_G.r G_S 1087 4 (-2147483648) 2147483647 rfl rfl
                  have g309 := zz_G.r G_S 1087 5 (-2147483648) 2147483647 rfl rfl
                  have g310 := zz_G.r G_S 1087 6 (-2147483648) 2147483647 rfl rfl
                  have g311 := zz_G.r G_S 1087 7 (-2147483648) 2147483647 rfl rfl
                  have g312 := zz_G.r G_S 1087 8 (-2147483648) 2147483647 rfl rfl
                  have g313 := zz_G.r G_S 1087 10 (-2147483648) 2147483647 rfl rfl
                  have g314 := zz_G.r G_S 1087 11 (-2147483648) 2147483647 rfl rfl
                  refine zz_less (ls1 := [some (.ref 1079), none, none, some (zi x3), some (zi 0), some (zi 10)]) ⟨rfl, ⟨rfl, ⟨rfl, ⟨rfl, trivial⟩⟩⟩⟩ ?_
                  exact k115 x3 0 10 S G_S F_S (by omega) (by omega) (by omega) (by omega) (by omega) (by omega) (by omega) (by omega) (by omega) (by omega) (by omega) (by omega) (by omega) (by omega) (by omega) (by omega) (by omega) (by omega) (i115_18.elim (fun h => absurd h.1 (by omega)) (fun h => Or.inr ⟨rfl, h.2.1, h.2.2.1, zz_saS (x := 9) (f := S 1087 9) (by omega) (by omega) h.2.2.2 ⟨fun h => absurd h (by decide), fun h => absurd h (by decide), fun h => absurd h (by decide), fun h => absurd h (by decide), fun _ => rfl, fun h => absurd h (by decide), fun h => absurd h (by decide)⟩ (zz_st0 (by omega))⟩)) (by omega)
                · refine zz_iconst zd_14_24_160 ?_
                  refine zz_goto zd_14_24_161 ?_
                  refine zz_istore [some (.ref 1079), none, none, some (zi x3), some (zi 1), some (zi 9)] zd_14_24_165 (by decide) rfl ?_
                  refine zz_iinc [some (.ref 1079), none, none, some (zi x3), some (zi 1), some (zi 10)] zd_14_24_167 rfl rfl ?_
                  refine zz_goto zd_14_24_170 ?_
                  have g315 := zz_G.r G_S 1087 0 (-2147483648) 2147483647 rfl rfl
                  have g316 := zz_G.r G_S 1087 1 (-2147483648) 2147483647 rfl rfl
                  have g317 := zz_G.r G_S 1087 2 (-2147483648) 2147483647 rfl rfl
                  have g318 := zz_G.r G_S 1087 3 (-2147483648) 2147483647 rfl rfl
                  have g319 := zz_G.r G_S 1087 4 (-2147483648) 2147483647 rfl rfl
                  have g320 := zz_G.r G_S 1087 5 (-2147483648) 2147483647 rfl rfl
                  have g321 := zz_G.r G_S 1087 6 (-2147483648) 2147483647 rfl rfl
                  have g322 := zz_G.r G_S 1087 7 (-2147483648) 2147483647 rfl rfl
                  have g323 := zz_G.r G_S 1087 8 (-2147483648) 2147483647 rfl rfl
                  have g324 := zz_G.r G_S 1087 10 (-2147483648) 2147483647 rfl rfl
                  have g325 := zz_G.r G_S 1087 11 (-2147483648) 2147483647 rfl rfl
                  refine zz_less (ls1 := [some (.ref 1079), none, none, some (zi x3), some (zi 1), some (zi 10)]) ⟨rfl, ⟨rfl, ⟨rfl, ⟨rfl, trivial⟩⟩⟩⟩ ?_
                  exact k115 x3 1 10 S G_S F_S (by omega) (by omega) (by omega) (by omega) (by omega) (by omega) (by omega) (by omega) (by omega) (by omega) (by omega) (by omega) (by omega) (by omega) (by omega) (by omega) (by omega) (by omega) (Or.inl ⟨rfl, zz_il1 (Or.inl (zz_sf1 (x := 9) (f := S 1087 9) (by omega) ⟨fun h => absurd h (by decide), fun h => absurd h (by decide), fun h => absurd h (by decide), fun h => absurd h (by decide), fun _ => rfl, fun h => absurd h (by decide), fun h => absurd h (by decide)⟩ (zz_st2 (by omega) (by omega))))⟩) (by omega)
            · rw [show x3 = S 1087 0 by omega] at o300
              refine zz_if_ne (by omega) zd_14_24_147 (fun c326 => ?_) (fun c326 => ?_)
              · refine zz_iconst zd_14_24_164 ?_
                refine zz_istore [some (.ref 1079), none, none, some (zi x3), some (zi 0), some (zi 9)] zd_14_24_165 (by decide) rfl ?_
                refine zz_iinc [some (.ref 1079), none, none, some (zi x3), some (zi 0), some (zi 10)] zd_14_24_167 rfl rfl ?_
                refine zz_goto zd_14_24_170 ?_
                have g327 := zz_G.r G_S 1087 0 (-2147483648) 2147483647 rfl rfl
                have g328 := zz_G.r G_S 1087 1 (-2147483648) 2147483647 rfl rfl
                have g329 := zz_G.r G_S 1087 2 (-2147483648) 2147483647 rfl rfl
                have g330 := zz_G.r G_S 1087 3 (-2147483648) 2147483647 rfl rfl
                have g331 := zz_G.r G_S 1087 4 (-2147483648) 2147483647 rfl rfl
                have g332 := zz_G.r G_S 1087 5 (-2147483648) 2147483647 rfl rfl
                have g333 := zz_G.r G_S 1087 6 (-2147483648) 2147483647 rfl rfl
                have g334 := zz_G.r G_S 1087 7 (-2147483648) 2147483647 rfl rfl
                have g335 := zz_G.r G_S 1087 8 (-2147483648) 2147483647 rfl rfl
                have g336 := zz_G.r G_S 1087 9 (-2147483648) 2147483647 rfl rfl
                have g337 := zz_G.r G_S 1087 10 (-2147483648) 2147483647 rfl rfl
                have g338 := zz_G.r G_S 1087 11 (-2147483648) 2147483647 rfl rfl
                refine zz_less (ls1 := [some (.ref 1079), none, none, some (zi x3), some (zi 0), some (zi 10)]) ⟨rfl, ⟨rfl, ⟨rfl, ⟨rfl, trivial⟩⟩⟩⟩ ?_
                exact k115 x3 0 10 S G_S F_S (by omega) (by omega) (by omega) (by omega) (by omega) (by omega) (by omega) (by omega) (by omega) (by omega) (by omega) (by omega) (by omega) (by omega) (by omega) (by omega) (by omega) (by omega) (i115_18.elim (fun h => absurd h.1 (by omega)) (fun h => Or.inr ⟨rfl, h.2.1, h.2.2.1, zz_saS (x := 9) (f := S 1087 9) (by omega) (by omega) h.2.2.2 ⟨fun h => absurd h (by decide), fun h => absurd h (by decide), fun h => absurd h (by decide), fun h => absurd h (by decide), fun _ => rfl, fun h => absurd h (by decide), fun h => absurd h (by decide)⟩ (zz_st0 (by omega))⟩)) (by omega)
              · exfalso; omega
      · refine zz_iload (x := 10) rfl zd_14_24_127 ?_
        refine zz_bipush (by decide) zd_14_24_129 ?_
        refine zz_icmp_eq (by omega) (by omega) zd_14_24_131 (fun c339 => ?_) (fun c339 => ?_)
        · exfalso; omega
        · refine zz_iload (x := 10) rfl zd_14_24_134 ?_
          refine zz_bipush (by decide) zd_14_24_136 ?_
          refine zz_icmp_eq (by omega) (by omega) zd_14_24_138 (fun c340 => ?_) (fun c340 => ?_)
          · exfalso; omega
          · refine zz_iload_n (x := x3) rfl zd_14_24_141 ?_
            refine zz_iload (x := 10) rfl zd_14_24_142 ?_
            refine zz_callSI [zi x3, zi 10] zd_14_24_144 zk_Md_240 rfl rfl ⟨Nat.le_of_ble_eq_true rfl, Nat.le_of_ble_eq_true rfl⟩ ⟨rfl, rfl⟩ (Nat.zero_le _) (Nat.zero_le _) (zc_names_14_23x_10 x3 S n hn G_S (by omega)) (fun v342 S341 hP => ?_)
            obtain ⟨rfl, o343, o344⟩ := hP
            rcases (by omega : v342 = 0 ∨ v342 = 1) with rfl | rfl
            · rw [show x3 = S 1087 0 by omega] at o344
              refine zz_if_ne (by omega) zd_14_24_147 (fun c345 => ?_) (fun c345 => ?_)
              · exfalso; omega
              · refine zz_aload_n (x := 1079) rfl zd_14_24_150 ?_
                refine zz_getr (kd := 0) (z := 1087) zd_14_24_151 zf_Md_36 zT_1079 rfl (zz_ltn hn rfl) (zz_G.eq G_S 1079 11 1087 rfl rfl) (by decide) 1087 rfl ?_
                refine zz_iload (x := 10) rfl zd_14_24_154 ?_
                have g346 := zz_G.r G_S 1087 10 (-2147483648) 2147483647 rfl rfl
                refine zz_iald (z := S 1087 10) zd_14_24_156 zT_1087 rfl (zz_ltn hn rfl) (by decide) (by decide) rfl ?_
                refine zz_if_eq (by omega) zd_14_24_157 (fun c347 => ?_) (fun c347 => ?_)
                · refine zz_iconst zd_14_24_164 ?_
                  refine zz_istore [some (.ref 1079), none, none, some (zi x3), some (zi 0), some (zi 10)] zd_14_24_165 (by decide) rfl ?_
                  refine zz_iinc [some (.ref 1079), none, none, some (zi x3), some (zi 0), some (zi 11)] zd_14_24_167 rfl rfl ?_
                  refine zz_goto zd_14_24_170 ?_
                  have g348 := zz_G.r G_S 1087 0 (-2147483648) 2147483647 rfl rfl
                  have g349 := zz_G.r G_S 1087 1 (-2147483648) 2147483647 rfl rfl
                  have g350 := zz_G.r G_S 1087 2 (-2147483648) 2147483647 rfl rfl
                  have g351 := zz_G.r G_S 1087 3 (-2147483648) 2147483647 rfl rfl
                  have g352 := zz_G.r G_S 1087 4 (-2147483648) 2147483647 rfl rfl
                  have g353 := zz_G.r G_S 1087 5 (-2147483648) 2147483647 rfl rfl
                  have g354 := zz_G.r G_S 1087 6 (-2147483648) 2147483647 rfl rfl
                  have g355 := zz_G.r G_S 1087 7 (-2147483648) 2147483647 rfl rfl
                  have g356 := zz_G.r G_S 1087 8 (-2147483648) 2147483647 rfl rfl
                  have g357 := zz_G.r G_S 1087 9 (-2147483648) 2147483647 rfl rfl
                  have g358 := zz_G.r G_S 1087 11 (-2147483648) 2147483647 rfl rfl
                  refine zz_less (ls1 := [some (.ref 1079), none, none, some (zi x3), some (zi 0), some (zi 11)]) ⟨rfl, ⟨rfl, ⟨rfl, ⟨rfl, trivial⟩⟩⟩⟩ ?_
                  exact k115 x3 0 11 S G_S F_S (by omega) (by omega) (by omega) (by omega) (by omega) (by omega) (by omega) (by omega) (by omega) (by omega) (by omega) (by omega) (by omega) (by omega) (by omega) (by omega) (by omega) (by omega) (i115_18.elim (fun h => absurd h.1 (by omega)) (fun h => Or.inr ⟨rfl, h.2.1, h.2.2.1, zz_saS (x := 10) (f := S 1087 10) (by omega) (by omega) h.2.2.2 ⟨fun h => absurd h (by decide), fun h => absurd h (by decide), fun h => absurd h (by decide), fun h => absurd h (by decide), fun h => absurd h (by decide), fun _ => rfl, fun h => absurd h (by decide)⟩ (zz_st0 (by omega))⟩)) (by omega)
                · refine zz_iconst zd_14_24_160 ?_
                  refine zz_goto zd_14_24_161 ?_
                  refine zz_istore [some (.ref 1079), none, none, some (zi x3), some (zi 1), some (zi 10)] zd_14_24_165 (by decide) rfl ?_
                  refine zz_iinc [some (.ref 1079), none, none, some (zi x3), some (zi 1), some (zi 11)] zd_14_24_167 rfl rfl ?_
                  refine zz_goto zd_14_24_170 ?_
                  have g359 := zz_G.r G_S 1087 0 (-2147483648) 2147483647 rfl rfl
                  have g360 := zz_G.r G_S 1087 1 (-2147483648) 2147483647 rfl rfl
                  have g361 := zz_G.r G_S 1087 2 (-2147483648) 2147483647 rfl rfl
                  have g362 := zz_G.r G_S 1087 3 (-2147483648) 2147483647 rfl rfl
                  have g363 := zz_G.r G_S 1087 4 (-2147483648) 2147483647 rfl rfl
                  have g364 := zz_G.r G_S 1087 5 (-2147483648) 2147483647 rfl rfl
                  have g365 := zz_G.r G_S 1087 6 (-2147483648) 2147483647 rfl rfl
                  have g366 := zz_G.r G_S 1087 7 (-2147483648) 2147483647 rfl rfl
                  have g367 := zz_G.r G_S 1087 8 (-2147483648) 2147483647 rfl rfl
                  have g368 := zz_G.r G_S 1087 9 (-2147483648) 2147483647 rfl rfl
                  have g369 := zz_G.r G_S 1087 11 (-2147483648) 2147483647 rfl rfl
                  refine zz_less (ls1 := [some (.ref 1079), none, none, some (zi x3), some (zi 1), some (zi 11)]) ⟨rfl, ⟨rfl, ⟨rfl, ⟨rfl, trivial⟩⟩⟩⟩ ?_
                  exact k115 x3 1 11 S G_S F_S (by omega) (by omega) (by omega) (by omega) (by omega) (by omega) (by omega) (by omega) (by omega) (by omega) (by omega) (by omega) (by omega) (by omega) (by omega) (by omega) (by omega) (by omega) (Or.inl ⟨rfl, zz_il1 (Or.inl (zz_sf1 (x := 10) (f := S 1087 10) (by omega) ⟨fun h => absurd h (by decide), fun h => absurd h (by decide), fun h => absurd h (by decide), fun h => absurd h (by decide), fun h => absurd h (by decide), fun _ => rfl, fun h => absurd h (by decide)⟩ (zz_st2 (by omega) (by omega))))⟩) (by omega)
            · rw [show x3 = S 1087 0 by omega] at o344
              refine zz_if_ne (by omega) zd_14_24_147 (fun c370 => ?_) (fun c370 => ?_)
              · refine zz_iconst zd_14_24_164 ?_
                refine zz_istore [some (.ref 1079), none, none, some (zi x3), some (zi 0), some (zi 10)] zd_14_24_165 (by decide) rfl ?_
                refine zz_iinc [some (.ref 1079), none, none, some (zi x3), some (zi 0), some (zi 11)] zd_14_24_167 rfl rfl ?_
                refine zz_goto zd_14_24_170 ?_
                have g371 := zz_G.r G_S 1087 0 (-2147483648) 2147483647 rfl rfl
                have g372 := zz_G.r G_S 1087 1 (-2147483648) 2147483647 rfl rfl
                have g373 := zz_G.r G_S 1087 2 (-2147483648) 2147483647 rfl rfl
                have g374 := zz_G.r G_S 1087 3 (-2147483648) 2147483647 rfl rfl
                have g375 := zz_G.r G_S 1087 4 (-2147483648) 2147483647 rfl rfl
                have g376 := zz_G.r G_S 1087 5 (-2147483648) 2147483647 rfl rfl
                have g377 := zz_G.r G_S 1087 6 (-2147483648) 2147483647 rfl rfl
                have g378 := zz_G.r G_S 1087 7 (-2147483648) 2147483647 rfl rfl
                have g379 := zz_G.r G_S 1087 8 (-2147483648) 2147483647 rfl rfl
                have g380 := zz_G.r G_S 1087 9 (-2147483648) 2147483647 rfl rfl
                have g381 := zz_G.r G_S 1087 10 (-2147483648) 2147483647 rfl rfl
                have g382 := zz_G.r G_S 1087 11 (-2147483648) 2147483647 rfl rfl
                refine zz_less (ls1 := [some (.ref 1079), none, none, some (zi x3), some (zi 0), some (zi 11)]) ⟨rfl, ⟨rfl, ⟨rfl, ⟨rfl, trivial⟩⟩⟩⟩ ?_
                exact k115 x3 0 11 S G_S F_S (by omega) (by omega) (by omega) (by omega) (by omega) (by omega) (by omega) (by omega) (by omega) (by omega) (by omega) (by omega) (by omega) (by omega) (by omega) (by omega) (by omega) (by omega) (i115_18.elim (fun h => absurd h.1 (by omega)) (fun h => Or.inr ⟨rfl, h.2.1, h.2.2.1, zz_saS (x := 10) (f := S 1087 10) (by omega) (by omega) h.2.2.2 ⟨fun h => absurd h (by decide), fun h => absurd h (by decide), fun h => absurd h (by decide), fun h => absurd h (by decide), fun h => absurd h (by decide), fun _ => rfl, fun h => absurd h (by decide)⟩ (zz_st0 (by omega))⟩)) (by omega)
              · exfalso; omega
      · refine zz_iload (x := 11) rfl zd_14_24_127 ?_
        refine zz_bipush (by decide) zd_14_24_129 ?_
        refine zz_icmp_eq (by omega) (by omega) zd_14_24_131 (fun c383 => ?_) (fun c383 => ?_)
        · exfalso; omega
        · refine zz_iload (x := 11) rfl zd_14_24_134 ?_
          refine zz_bipush (by decide) zd_14_24_136 ?_
          refine zz_icmp_eq (by omega) (by omega) zd_14_24_138 (fun c384 => ?_) (fun c384 => ?_)
          · exfalso; omega
          · refine zz_iload_n (x := x3) rfl zd_14_24_141 ?_
            refine zz_iload (x := 11) rfl zd_14_24_142 ?_
            refine zz_callSI [zi x3, zi 11] zd_14_24_144 zk_Md_240 rfl rfl ⟨Nat.le_of_ble_eq_true rfl, Nat.le_of_ble_eq_true rfl⟩ ⟨rfl, rfl⟩ (Nat.zero_le _) (Nat.zero_le _) (zc_names_14_23x_11 x3 S n hn G_S (by omega)) (fun v386 S385 hP => ?_)
            obtain ⟨rfl, o387, o388⟩ := hP
            rcases (by omega : v386 = 0 ∨ v386 = 1) with rfl | rfl
            · rw [show x3 = S 1087 0 by omega] at o388
              refine zz_if_ne (by omega) zd_14_24_147 (fun c389 => ?_) (fun c389 => ?_)
              · exfalso; omega
              · refine zz_aload_n (x := 1079) rfl zd_14_24_150 ?_
                refine zz_getr (kd := 0) (z := 1087) zd_14_24_151 zf_Md_36 zT_1079 rfl (zz_ltn hn rfl) (zz_G.eq G_S 1079 11 1087 rfl rfl) (by decide) 1087 rfl ?_
                refine zz_iload (x := 11) rfl zd_14_24_154 ?_
                have g390 := zz_G.r G_S 1087 11 (-2147483648) 2147483647 rfl rfl
                refine zz_iald (z := S 1087 11) zd_14_24_156 zT_1087 rfl (zz_ltn hn rfl) (by decide) (by decide) rfl ?_
                refine zz_if_eq (by omega) zd_14_24_157 (fun c391 => ?_) (fun c391 => ?_)
                · refine zz_iconst zd_14_24_164 ?_
                  refine zz_istore [some (.ref 1079), none, none, some (zi x3), some (zi 0), some (zi 11)] zd_14_24_165 (by decide) rfl ?_
                  refine zz_iinc [some (.ref 1079), none, none, some (zi x3), some (zi 0), some (zi 12)] zd_14_24_167 rfl rfl ?_
                  refine zz_goto zd_14_24_170 ?_
                  have g392 := zz_G.r G_S 1087 0 (-2147483648) 2147483647 rfl rfl
                  have g393 := zz_G.r G_S 1087 1 (-2147483648) 2147483647 rfl rfl
                  have g394 := zz_G.r G_S 1087 2 (-2147483648) 2147483647 rfl rfl
                  have g395 := zz_G.r G_S 1087 3 (-2147483648) 2147483647 rfl rfl
                  have g396 := zz_G.r G_S 1087 4 (-2147483648) 2147483647 rfl rfl
                  have g397 := zz_G.r G_S 1087 5 (-2147483648) 2147483647 rfl rfl
                  have g398 := zz_G.r G_S 1087 6 (-2147483648) 2147483647 rfl rfl
                  have g399 := zz_G.r G_S 1087 7 (-2147483648) 2147483647 rfl rfl
                  have g400 := zz_G.r G_S 1087 8 (-2147483648) 2147483647 rfl rfl
                  have g401 := zz_G.r G_S 1087 9 (-2147483648) 2147483647 rfl rfl
                  have g402 := zz_G.r G_S 1087 10 (-2147483648) 2147483647 rfl rfl
                  refine zz_less (ls1 := [some (.ref 1079), none, none, some (zi x3), some (zi 0), some (zi 12)]) ⟨rfl, ⟨rfl, ⟨rfl, ⟨rfl, trivial⟩⟩⟩⟩ ?_
                  exact k115 x3 0 12 S G_S F_S (by omega) (by omega) (by omega) (by omega) (by omega) (by omega) (by omega) (by omega) (by omega) (by omega) (by omega) (by omega) (by omega) (by omega) (by omega) (by omega) (by omega) (by omega) (i115_18.elim (fun h => absurd h.1 (by omega)) (fun h => Or.inr ⟨rfl, h.2.1, h.2.2.1, zz_saS (x := 11) (f := S 1087 11) (by omega) (by omega) h.2.2.2 ⟨fun h => absurd h (by decide), fun h => absurd h (by decide), fun h => absurd h (by decide), fun h => absurd h (by decide), fun h => absurd h (by decide), fun h => absurd h (by decide), fun _ => rfl⟩ (zz_st0 (by omega))⟩)) (by omega)
                · refine zz_iconst zd_14_24_160 ?_
                  refine zz_goto zd_14_24_161 ?_
                  refine zz_istore [some (.ref 1079), none, none, some (zi x3), some (zi 1), some (zi 11)] zd_14_24_165 (by decide) rfl ?_
                  refine zz_iinc [some (.ref 1079), none, none, some (zi x3), some (zi 1), some (zi 12)] zd_14_24_167 rfl rfl ?_
                  refine zz_goto zd_14_24_170 ?_
                  have g403 := zz_G.r G_S 1087 0 (-2147483648) 2147483647 rfl rfl
                  have g404 := zz_G.r G_S 1087 1 (-2147483648) 2147483647 rfl rfl
                  have g405 := zz_G.r G_S 1087 2 (-2147483648) 2147483647 rfl rfl
                  have g406 := zz_G.r G_S 1087 3 (-2147483648) 2147483647 rfl rfl
                  have g407 := zz_G.r G_S 1087 4 (-2147483648) 2147483647 rfl rfl
                  have g408 := zz_G.r G_S 1087 5 (-2147483648) 2147483647 rfl rfl
                  have g409 := zz_G.r G_S 1087 6 (-2147483648) 2147483647 rfl rfl
                  have g410 := zz_G.r G_S 1087 7 (-2147483648) 2147483647 rfl rfl
                  have g411 := zz_G.r G_S 1087 8 (-2147483648) 2147483647 rfl rfl
                  have g412 := zz_G.r G_S 1087 9 (-2147483648) 2147483647 rfl rfl
                  have g413 := zz_G.r G_S 1087 10 (-2147483648) 2147483647 rfl rfl
                  refine zz_less (ls1 := [some (.ref 1079), none, none, some (zi x3), some (zi 1), some (zi 12)]) ⟨rfl, ⟨rfl, ⟨rfl, ⟨rfl, trivial⟩⟩⟩⟩ ?_
                  exact k115 x3 1 12 S G_S F_S (by omega) (by omega) (by omega) (by omega) (by omega) (by omega) (by omega) (by omega) (by omega) (by omega) (by omega) (by omega) (by omega) (by omega) (by omega) (by omega) (by omega) (by omega) (Or.inl ⟨rfl, zz_il1 (Or.inl (zz_sf1 (x := 11) (f := S 1087 11) (by omega) ⟨fun h => absurd h (by decide), fun h => absurd h (by decide), fun h => absurd h (by decide), fun h => absurd h (by decide), fun h => absurd h (by decide), fun h => absurd h (by decide), fun _ => rfl⟩ (zz_st2 (by omega) (by omega))))⟩) (by omega)
            · rw [show x3 = S 1087 0 by omega] at o388
              refine zz_if_ne (by omega) zd_14_24_147 (fun c414 => ?_) (fun c414 => ?_)
              · refine zz_iconst zd_14_24_164 ?_
                refine zz_istore [some (.ref 1079), none, none, some (zi x3), some (zi 0), some (zi 11)] zd_14_24_165 (by decide) rfl ?_
                refine zz_iinc [some (.ref 1079), none, none, some (zi x3), some (zi 0), some (zi 12)] zd_14_24_167 rfl rfl ?_
                refine zz_goto zd_14_24_170 ?_
                have g415 := zz_G.r G_S 1087 0 (-2147483648) 2147483647 rfl rfl
                have g416 := zz_G.r G_S 1087 1 (-2147483648) 2147483647 rfl rfl
                have g417 := zz_G.r G_S 1087 2 (-2147483648) 2147483647 rfl rfl
                have g418 := zz_G.r G_S 1087 3 (-2147483648) 2147483647 rfl rfl
                have g419 := zz_G.r G_S 1087 4 (-2147483648) 2147483647 rfl rfl
                have g420 := zz_G.r G_S 1087 5 (-2147483648) 2147483647 rfl rfl
                have g421 := zz_G.r G_S 1087 6 (-2147483648) 2147483647 rfl rfl
                have g422 := zz_G.r G_S 1087 7 (-2147483648) 2147483647 rfl rfl
                have g423 := zz_G.r G_S 1087 8 (-2147483648) 2147483647 rfl rfl
                have g424 := zz_G.r G_S 1087 9 (-2147483648) 2147483647 rfl rfl
                have g425 := zz_G.r G_S 1087 10 (-2147483648) 2147483647 rfl rfl
                have g426 := zz_G.r G_S 1087 11 (-2147483648) 2147483647 rfl rfl
                refine zz_less (ls1 := [some (.ref 1079), none, none, some (zi x3), some (zi 0), some (zi 12)]) ⟨rfl, ⟨rfl, ⟨rfl, ⟨rfl, trivial⟩⟩⟩⟩ ?_
                exact k115 x3 0 12 S G_S F_S (by omega) (by omega) (by omega) (by omega) (by omega) (by omega) (by omega) (by omega) (by omega) (by omega) (by omega) (by omega) (by omega) (by omega) (by omega) (by omega) (by omega) (by omega) (i115_18.elim (fun h => absurd h.1 (by omega)) (fun h => Or.inr ⟨rfl, h.2.1, h.2.2.1, zz_saS (x := 11) (f := S 1087 11) (by omega) (by omega) h.2.2.2 ⟨fun h => absurd h (by decide), fun h => absurd h (by decide), fun h => absurd h (by decide), fun h => absurd h (by decide), fun h => absurd h (by decide), fun h => absurd h (by decide), fun _ => rfl⟩ (zz_st0 (by omega))⟩)) (by omega)
              · exfalso; omega
theorem zb_isIllegal_14_24_236 {g : mm_G} {l : Launch} (p0 : Int) (S0 : zz_S) (n : Nat) (hn : zz_end ≤ n) (G_S0 : zz_G S0) (hp0 : (-9223372036854775808) ≤ p0 ∧ p0 ≤ 9223372036854775807)  (S : zz_S) (G_S : zz_G S) (F_S : zz_fr [(1087, 0), (1087, 1), (1087, 2), (1087, 3), (1087, 4), (1087, 5), (1087, 6), (1087, 7), (1087, 8), (1087, 9), (1087, 10), (1087, 11), (1088, 0), (1088, 1), (1088, 2), (1088, 3), (1088, 4), (1088, 5), (1088, 6), (1088, 7), (1088, 8), (1088, 9), (1089, 0), (1089, 1), (1089, 2), (1089, 3), (1089, 4), (1089, 5), (1089, 6), (1089, 7), (1089, 8), (1089, 9)] [] (fun _ _ => False) S0 S) (i236_0 : (S 1087 0 = zz_fx p0 0 15) ∧ 0 ≤ S 1087 0 ∧ S 1087 0 ≤ 15) (i236_1 : (S 1087 1 = zz_fx p0 4 1) ∧ 0 ≤ S 1087 1 ∧ S 1087 1 ≤ 1) (i236_2 : (S 1087 2 = zz_fx p0 5 1) ∧ 0 ≤ S 1087 2 ∧ S 1087 2 ≤ 1) (i236_3 : (S 1087 3 = zz_fx p0 6 1) ∧ 0 ≤ S 1087 3 ∧ S 1087 3 ≤ 1) (i236_4 : (S 1087 4 = zz_fx p0 7 1) ∧ 0 ≤ S 1087 4 ∧ S 1087 4 ≤ 1) (i236_5 : (S 1087 5 = zz_fx p0 8 4095) ∧ 0 ≤ S 1087 5 ∧ S 1087 5 ≤ 4095) (i236_6 : (S 1087 6 = zz_fx p0 20 63) ∧ 0 ≤ S 1087 6 ∧ S 1087 6 ≤ 63) (i236_7 : (S 1087 7 = zz_fx p0 26 31) ∧ 0 ≤ S 1087 7 ∧ S 1087 7 ≤ 31) (i236_8 : (S 1087 8 = zz_fx p0 31 511) ∧ 0 ≤ S 1087 8 ∧ S 1087 8 ≤ 511) (i236_9 : (S 1087 9 = zz_fx p0 40 511) ∧ 0 ≤ S 1087 9 ∧ S 1087 9 ≤ 511) (i236_10 : (S 1087 10 = zz_fx p0 49 1023) ∧ 0 ≤ S 1087 10 ∧ S 1087 10 ≤ 1023) (i236_11 : (S 1087 11 = zz_fx p0 59 31) ∧ 0 ≤ S 1087 11 ∧ S 1087 11 ≤ 31) (i236_12 : 1 ≤ S 1087 0 ∧ S 1087 0 ≤ 9) (i236_13 : (S 1087 0 = 9 ∧ S 1087 6 = 0 ∧ S 1087 7 = 0) ∨ (S 1087 0 ≠ 9 ∧ 1 ≤ S 1087 6 ∧ 1 ≤ S 1087 7 ∧ S 1087 7 ≤ S0 1079 1)) (i236_14 : S 1087 0 = 5 → 1 ≤ S 1087 11 / 2 ∧ S 1087 11 / 2 ≤ S0 1079 1) (i236_15 : zz_sf (S 1087 0) (S 1087 5) (S 1087 6) (S 1087 7) (S 1087 8) (S 1087 9) (S 1087 10) (S 1087 11) = 0) (i236_16 : zz_sh (S 1087 0) (S 1087 6) (S 1087 7) (S0 1079 1) = 0) (i236_17 : zz_nf (S 1087 0) (S 1087 11) (S0 1079 1) = 0) (R : Nat) (hR : (34359738368 + 0) = R) (k296 : ∀ (x4 : Int) (S : zz_S), zz_G S → zz_fr [(1087, 0), (1087, 1), (1087, 2), (1087, 3), (1087, 4), (1087, 5), (1087, 6), (1087, 7), (1087, 8), (1087, 9), (1087, 10), (1087, 11), (1088, 0), (1088, 1), (1088, 2), (1088, 3), (1088, 4), (1088, 5), (1088, 6), (1088, 7), (1088, 8), (1088, 9), (1089, 0), (1089, 1), (1089, 2), (1089, 3), (1089, 4), (1089, 5), (1089, 6), (1089, 7), (1089, 8), (1089, 9)] [] (fun _ _ => False) S0 S → (0 ≤ x4 ∧ x4 ≤ 1) → ((S 1087 0 = zz_fx p0 0 15) ∧ 0 ≤ S 1087 0 ∧ S 1087 0 ≤ 15) → ((S 1087 1 = zz_fx p0 4 1) ∧ 0 ≤ S 1087 1 ∧ S 1087 1 ≤ 1) → ((S 1087 2 = zz_fx p0 5 1) ∧ 0 ≤ S 1087 2 ∧ S 1087 2 ≤ 1) → ((S 1087 3 = zz_fx p0 6 1) ∧ 0 ≤ S 1087 3 ∧ S 1087 3 ≤ 1) → ((S 1087 4 = zz_fx p0 7 1) ∧ 0 ≤ S 1087 4 ∧ S 1087 4 ≤ 1) → ((S 1087 5 = zz_fx p0 8 4095) ∧ 0 ≤ S 1087 5 ∧ S 1087 5 ≤ 4095) → ((S 1087 6 = zz_fx p0 20 63) ∧ 0 ≤ S 1087 6 ∧ S 1087 6 ≤ 63) → ((S 1087 7 = zz_fx p0 26 31) ∧ 0 ≤ S 1087 7 ∧ S 1087 7 ≤ 31) → ((S 1087 8 = zz_fx p0 31 511) ∧ 0 ≤ S 1087 8 ∧ S 1087 8 ≤ 511) → ((S 1087 9 = zz_fx p0 40 511) ∧ 0 ≤ S 1087 9 ∧ S 1087 9 ≤ 511) → ((S 1087 10 = zz_fx p0 49 1023) ∧ 0 ≤ S 1087 10 ∧ S 1087 10 ≤ 1023) → ((S 1087 11 = zz_fx p0 59 31) ∧ 0 ≤ S 1087 11 ∧ S 1087 11 ≤ 31) → (1 ≤ S 1087 0 ∧ S 1087 0 ≤ 9) → ((S 1087 0 = 9 ∧ S 1087 6 = 0 ∧ S 1087 7 = 0) ∨ (S 1087 0 ≠ 9 ∧ 1 ≤ S 1087 6 ∧ 1 ≤ S 1087 7 ∧ S 1087 7 ≤ S0 1079 1)) → (S 1087 0 = 5 → 1 ≤ S 1087 11 / 2 ∧ S 1087 11 / 2 ≤ S0 1079 1) → (zz_sf (S 1087 0) (S 1087 5) (S 1087 6) (S 1087 7) (S 1087 8) (S 1087 9) (S 1087 10) (S 1087 11) = 0) → (zz_sh (S 1087 0) (S 1087 6) (S 1087 7) (S0 1079 1) = 0) → (zz_nf (S 1087 0) (S 1087 11) (S0 1079 1) = 0) → (x4 = zz_tf (S 1087 0) (S 1087 1) (S 1087 2) (S 1087 3) (S 1087 4) (S 1087 11)) → (17179869184 + 0) < R → zz_E g l zy_isIllegal_14_24 zr_isIllegal_14_24 (zz_QI n (zp_isIllegal_14_24 p0 S0)) S n 296 [some (.ref 1079), none, none, none, some (zi x4)] [] 0 0) : zz_E g l zy_isIllegal_14_24 zr_isIllegal_14_24 (zz_QI n (zp_isIllegal_14_24 p0 S0)) S n 236 [some (.ref 1079)] [] 0 0 := by
  refine zz_aload_n (x := 1079) rfl zd_14_24_236 ?_
  have g427 := zz_G.r G_S 1087 0 (-2147483648) 2147483647 rfl rfl
  have g428 := zz_G.r G_S 1087 11 (-2147483648) 2147483647 rfl rfl
  refine zz_callVI [] zd_14_24_237 zk_Md_243 zT_1079 (zz_ltn hn rfl) rfl rfl ⟨Nat.le_of_ble_eq_true rfl, Nat.le_of_ble_eq_true rfl⟩ ⟨rfl, rfl⟩ (Nat.zero_le _) (Nat.zero_le _) (zc_unit_14_19  S n hn G_S ) (fun v430 S429 hP => ?_)
  obtain ⟨rfl, o431, o432⟩ := hP
  refine zz_istore [some (.ref 1079), none, none, none, none, some (zi v430)] zd_14_24_240 (by decide) rfl ?_
  refine zz_iload (x := v430) rfl zd_14_24_242 ?_
  refine zz_if_ne (by omega) zd_14_24_244 (fun c433 => ?_) (fun c433 => ?_)
  · refine zz_iload (x := v430) rfl zd_14_24_265 ?_
    refine zz_iconst zd_14_24_267 ?_
    refine zz_icmp_ne (by omega) (by omega) zd_14_24_268 (fun c434 => ?_) (fun c434 => ?_)
    · refine zz_iconst zd_14_24_293 ?_
      refine zz_istore [some (.ref 1079), none, none, none, some (zi 0), some (zi v430)] zd_14_24_294 (by decide) rfl ?_
      have g435 := zz_G.r G_S 1087 1 (-2147483648) 2147483647 rfl rfl
      have g436 := zz_G.r G_S 1087 2 (-2147483648) 2147483647 rfl rfl
      have g437 := zz_G.r G_S 1087 3 (-2147483648) 2147483647 rfl rfl
      have g438 := zz_G.r G_S 1087 4 (-2147483648) 2147483647 rfl rfl
      have g439 := zz_G.r G_S 1087 5 (-2147483648) 2147483647 rfl rfl
      have g440 := zz_G.r G_S 1087 6 (-2147483648) 2147483647 rfl rfl
      have g441 := zz_G.r G_S 1087 7 (-2147483648) 2147483647 rfl rfl
      have g442 := zz_G.r G_S 1087 8 (-2147483648) 2147483647 rfl rfl
      have g443 := zz_G.r G_S 1087 9 (-2147483648) 2147483647 rfl rfl
      have g444 := zz_G.r G_S 1087 10 (-2147483648) 2147483647 rfl rfl
      refine zz_less (ls1 := [some (.ref 1079), none, none, none, some (zi 0)]) ⟨rfl, ⟨rfl, trivial⟩⟩ ?_
      exact k296 0 S G_S F_S (by omega) (by omega) (by omega) (by omega) (by omega) (by omega) (by omega) (by omega) (by omega) (by omega) (by omega) (by omega) (by omega) (by omega) (by omega) (by omega) i236_15 i236_16 i236_17 (zz_tfx (by omega)).symm (by omega)
    · refine zz_aload_n (x := 1079) rfl zd_14_24_271 ?_
      refine zz_getr (kd := 0) (z := 1087) zd_14_24_272 zf_Md_36 zT_1079 rfl (zz_ltn hn rfl) (zz_G.eq G_S 1079 11 1087 rfl rfl) (by decide) 1087 rfl ?_
      refine zz_iconst zd_14_24_275 ?_
      have g445 := zz_G.r G_S 1087 2 (-2147483648) 2147483647 rfl rfl
      refine zz_iald (z := S 1087 2) zd_14_24_276 zT_1087 rfl (zz_ltn hn rfl) (by decide) (by decide) rfl ?_
      refine zz_if_gt (by omega) zd_14_24_277 (fun c446 => ?_) (fun c446 => ?_)
      · refine zz_iconst zd_14_24_289 ?_
        refine zz_goto zd_14_24_290 ?_
        refine zz_istore [some (.ref 1079), none, none, none, some (zi 1), some (zi v430)] zd_14_24_294 (by decide) rfl ?_
        have g447 := zz_G.r G_S 1087 1 (-2147483648) 2147483647 rfl rfl
        have g448 := zz_G.r G_S 1087 3 (-2147483648) 2147483647 rfl rfl
        have g449 := zz_G.r G_S 1087 4 (-2147483648) 2147483647 rfl rfl
        have g450 := zz_G.r G_S 1087 5 (-2147483648) 2147483647 rfl rfl
        have g451 := zz_G.r G_S 1087 6 (-2147483648) 2147483647 rfl rfl
        have g452 := zz_G.r G_S 1087 7 (-2147483648) 2147483647 rfl rfl
        have g453 := zz_G.r G_S 1087 8 (-2147483648) 2147483647 rfl rfl
        have g454 := zz_G.r G_S 1087 9 (-2147483648) 2147483647 rfl rfl
        have g455 := zz_G.r G_S 1087 10 (-2147483648) 2147483647 rfl rfl
        refine zz_less (ls1 := [some (.ref 1079), none, none, none, some (zi 1)]) ⟨rfl, ⟨rfl, trivial⟩⟩ ?_
        exact k296 1 S G_S F_S (by omega) (by omega) (by omega) (by omega) (by omega) (by omega) (by omega) (by omega) (by omega) (by omega) (by omega) (by omega) (by omega) (by omega) (by omega) (by omega) i236_15 i236_16 i236_17 (zz_tfx (by omega)).symm (by omega)
      · refine zz_aload_n (x := 1079) rfl zd_14_24_280 ?_
        refine zz_getr (kd := 0) (z := 1087) zd_14_24_281 zf_Md_36 zT_1079 rfl (zz_ltn hn rfl) (zz_G.eq G_S 1079 11 1087 rfl rfl) (by decide) 1087 rfl ?_
        refine zz_iconst zd_14_24_284 ?_
        have g456 := zz_G.r G_S 1087 4 (-2147483648) 2147483647 rfl rfl
        refine zz_iald (z := S 1087 4) zd_14_24_285 zT_1087 rfl (zz_ltn hn rfl) (by decide) (by decide) rfl ?_
        refine zz_if_le (by omega) zd_14_24_286 (fun c457 => ?_) (fun c457 => ?_)
        · refine zz_iconst zd_14_24_293 ?_
          refine zz_istore [some (.ref 1079), none, none, none, some (zi 0), some (zi v430)] zd_14_24_294 (by decide) rfl ?_
          have g458 := zz_G.r G_S 1087 1 (-2147483648) 2147483647 rfl rfl
          have g459 := zz_G.r G_S 1087 3 (-2147483648) 2147483647 rfl rfl
          have g460 := zz_G.r G_S 1087 5 (-2147483648) 2147483647 rfl rfl
          have g461 := zz_G.r G_S 1087 6 (-2147483648) 2147483647 rfl rfl
          have g462 := zz_G.r G_S 1087 7 (-2147483648) 2147483647 rfl rfl
          have g463 := zz_G.r G_S 1087 8 (-2147483648) 2147483647 rfl rfl
          have g464 := zz_G.r G_S 1087 9 (-2147483648) 2147483647 rfl rfl
          have g465 := zz_G.r G_S 1087 10 (-2147483648) 2147483647 rfl rfl
          refine zz_less (ls1 := [some (.ref 1079), none, none, none, some (zi 0)]) ⟨rfl, ⟨rfl, trivial⟩⟩ ?_
          exact k296 0 S G_S F_S (by omega) (by omega) (by omega) (by omega) (by omega) (by omega) (by omega) (by omega) (by omega) (by omega) (by omega) (by omega) (by omega) (by omega) (by omega) (by omega) i236_15 i236_16 i236_17 (zz_tfx (by omega)).symm (by omega)
        · refine zz_iconst zd_14_24_289 ?_
          refine zz_goto zd_14_24_290 ?_
          refine zz_istore [some (.ref 1079), none, none, none, some (zi 1), some (zi v430)] zd_14_24_294 (by decide) rfl ?_
          have g466 := zz_G.r G_S 1087 1 (-2147483648) 2147483647 rfl rfl
          have g467 := zz_G.r G_S 1087 3 (-2147483648) 2147483647 rfl rfl
          have g468 := zz_G.r G_S 1087 5 (-2147483648) 2147483647 rfl rfl
          have g469 := zz_G.r G_S 1087 6 (-2147483648) 2147483647 rfl rfl
          have g470 := zz_G.r G_S 1087 7 (-2147483648) 2147483647 rfl rfl
          have g471 := zz_G.r G_S 1087 8 (-2147483648) 2147483647 rfl rfl
          have g472 := zz_G.r G_S 1087 9 (-2147483648) 2147483647 rfl rfl
          have g473 := zz_G.r G_S 1087 10 (-2147483648) 2147483647 rfl rfl
          refine zz_less (ls1 := [some (.ref 1079), none, none, none, some (zi 1)]) ⟨rfl, ⟨rfl, trivial⟩⟩ ?_
          exact k296 1 S G_S F_S (by omega) (by omega) (by omega) (by omega) (by omega) (by omega) (by omega) (by omega) (by omega) (by omega) (by omega) (by omega) (by omega) (by omega) (by omega) (by omega) i236_15 i236_16 i236_17 (zz_tfx (by omega)).symm (by omega)
  · refine zz_aload_n (x := 1079) rfl zd_14_24_247 ?_
    refine zz_getr (kd := 0) (z := 1087) zd_14_24_248 zf_Md_36 zT_1079 rfl (zz_ltn hn rfl) (zz_G.eq G_S 1079 11 1087 rfl rfl) (by decide) 1087 rfl ?_
    refine zz_iconst zd_14_24_251 ?_
    have g474 := zz_G.r G_S 1087 1 (-2147483648) 2147483647 rfl rfl
    refine zz_iald (z := S 1087 1) zd_14_24_252 zT_1087 rfl (zz_ltn hn rfl) (by decide) (by decide) rfl ?_
    refine zz_if_gt (by omega) zd_14_24_253 (fun c475 => ?_) (fun c475 => ?_)
    · refine zz_iconst zd_14_24_289 ?_
      refine zz_goto zd_14_24_290 ?_
      refine zz_istore [some (.ref 1079), none, none, none, some (zi 1), some (zi v430)] zd_14_24_294 (by decide) rfl ?_
      have g476 := zz_G.r G_S 1087 2 (-2147483648) 2147483647 rfl rfl
      have g477 := zz_G.r G_S 1087 3 (-2147483648) 2147483647 rfl rfl
      have g478 := zz_G.r G_S 1087 4 (-2147483648) 2147483647 rfl rfl
      have g479 := zz_G.r G_S 1087 5 (-2147483648) 2147483647 rfl rfl
      have g480 := zz_G.r G_S 1087 6 (-2147483648) 2147483647 rfl rfl
      have g481 := zz_G.r G_S 1087 7 (-2147483648) 2147483647 rfl rfl
      have g482 := zz_G.r G_S 1087 8 (-2147483648) 2147483647 rfl rfl
      have g483 := zz_G.r G_S 1087 9 (-2147483648) 2147483647 rfl rfl
      have g484 := zz_G.r G_S 1087 10 (-2147483648) 2147483647 rfl rfl
      refine zz_less (ls1 := [some (.ref 1079), none, none, none, some (zi 1)]) ⟨rfl, ⟨rfl, trivial⟩⟩ ?_
      exact k296 1 S G_S F_S (by omega) (by omega) (by omega) (by omega) (by omega) (by omega) (by omega) (by omega) (by omega) (by omega) (by omega) (by omega) (by omega) (by omega) (by omega) (by omega) i236_15 i236_16 i236_17 (zz_tfx (by omega)).symm (by omega)
    · refine zz_aload_n (x := 1079) rfl zd_14_24_256 ?_
      refine zz_getr (kd := 0) (z := 1087) zd_14_24_257 zf_Md_36 zT_1079 rfl (zz_ltn hn rfl) (zz_G.eq G_S 1079 11 1087 rfl rfl) (by decide) 1087 rfl ?_
      refine zz_iconst zd_14_24_260 ?_
      have g485 := zz_G.r G_S 1087 3 (-2147483648) 2147483647 rfl rfl
      refine zz_iald (z := S 1087 3) zd_14_24_261 zT_1087 rfl (zz_ltn hn rfl) (by decide) (by decide) rfl ?_
      refine zz_if_gt (by omega) zd_14_24_262 (fun c486 => ?_) (fun c486 => ?_)
      · refine zz_iconst zd_14_24_289 ?_
        refine zz_goto zd_14_24_290 ?_
        refine zz_istore [some (.ref 1079), none, none, none, some (zi 1), some (zi v430)] zd_14_24_294 (by decide) rfl ?_
        have g487 := zz_G.r G_S 1087 2 (-2147483648) 2147483647 rfl rfl
        have g488 := zz_G.r G_S 1087 4 (-2147483648) 2147483647 rfl rfl
        have g489 := zz_G.r G_S 1087 5 (-2147483648) 2147483647 rfl rfl
        have g490 := zz_G.r G_S 1087 6 (-2147483648) 2147483647 rfl rfl
        have g491 := zz_G.r G_S 1087 7 (-2147483648) 2147483647 rfl rfl
        have g492 := zz_G.r G_S 1087 8 (-2147483648) 2147483647 rfl rfl
        have g493 := zz_G.r G_S 1087 9 (-2147483648) 2147483647 rfl rfl
        have g494 := zz_G.r G_S 1087 10 (-2147483648) 2147483647 rfl rfl
        refine zz_less (ls1 := [some (.ref 1079), none, none, none, some (zi 1)]) ⟨rfl, ⟨rfl, trivial⟩⟩ ?_
        exact k296 1 S G_S F_S (by omega) (by omega) (by omega) (by omega) (by omega) (by omega) (by omega) (by omega) (by omega) (by omega) (by omega) (by omega) (by omega) (by omega) (by omega) (by omega) i236_15 i236_16 i236_17 (zz_tfx (by omega)).symm (by omega)
      · refine zz_iload (x := v430) rfl zd_14_24_265 ?_
        refine zz_iconst zd_14_24_267 ?_
        refine zz_icmp_ne (by omega) (by omega) zd_14_24_268 (fun c495 => ?_) (fun c495 => ?_)
        · refine zz_iconst zd_14_24_293 ?_
          refine zz_istore [some (.ref 1079), none, none, none, some (zi 0), some (zi v430)] zd_14_24_294 (by decide) rfl ?_
          have g496 := zz_G.r G_S 1087 2 (-2147483648) 2147483647 rfl rfl
          have g497 := zz_G.r G_S 1087 4 (-2147483648) 2147483647 rfl rfl
          have g498 := zz_G.r G_S 1087 5 (-2147483648) 2147483647 rfl rfl
          have g499 := zz_G.r G_S 1087 6 (-2147483648) 2147483647 rfl rfl
          have g500 := zz_G.r G_S 1087 7 (-2147483648) 2147483647 rfl rfl
          have g501 := zz_G.r G_S 1087 8 (-2147483648) 2147483647 rfl rfl
          have g502 := zz_G.r G_S 1087 9 (-2147483648) 2147483647 rfl rfl
          have g503 := zz_G.r G_S 1087 10 (-2147483648) 2147483647 rfl rfl
          refine zz_less (ls1 := [some (.ref 1079), none, none, none, some (zi 0)]) ⟨rfl, ⟨rfl, trivial⟩⟩ ?_
          exact k296 0 S G_S F_S (by omega) (by omega) (by omega) (by omega) (by omega) (by omega) (by omega) (by omega) (by omega) (by omega) (by omega) (by omega) (by omega) (by omega) (by omega) (by omega) i236_15 i236_16 i236_17 (zz_tfx (by omega)).symm (by omega)
        · exfalso; omega

-- TensorForgeModel names (II)Z
abbrev zr_names_14_23 : Room := { frames := 0, cells := 0, slots := 0, locals := 0 }
def zp_names_14_23 (p0 : Int) (p1 : Int) (S0 : zz_S) : Int → zz_S → Prop := fun r S => S0 = S ∧ (0 ≤ r ∧ r ≤ 1)
theorem zc_names_14_23 {g : mm_G} {l : Launch} (p0 : Int) (p1 : Int) (S0 : zz_S) (n : Nat) (hn : zz_end ≤ n) (G_S0 : zz_G S0) (hp0 : (-2147483648) ≤ p0 ∧ p0 ≤ 2147483647) (hp1 : (-2147483648) ≤ p1 ∧ p1 ≤ 2147483647) : mm_Met g l zy_names_14_23 zr_names_14_23 [zi p0, zi p1] (zz_M S0 n) n (zz_QI n (zp_names_14_23 p0 p1 S0)) := by
  refine zz_enter (by decide) (Nat.le_of_ble_eq_true rfl) (zz_less (ls1 := [some (zi p0), some (zi p1)]) ⟨rfl, ⟨rfl, trivial⟩⟩ ?_)
  refine zz_iload_n (x := p0) rfl zd_14_23_0 ?_
  refine zz_iconst zd_14_23_1 ?_
  refine zz_icmp_eq (by omega) (by omega) zd_14_23_2 (fun c1 => ?_) (fun c1 => ?_)
  · refine zz_iconst zd_14_23_21 ?_
    refine zz_goto zd_14_23_22 ?_
    refine zz_istore_n [some (zi p0), some (zi p1), some (zi 1)] zd_14_23_26 (by decide) rfl ?_
    refine zz_iload_n (x := p0) rfl zd_14_23_27 ?_
    refine zz_iconst zd_14_23_28 ?_
    refine zz_icmp_eq (by omega) (by omega) zd_14_23_29 (fun c2 => ?_) (fun c2 => ?_)
    · exfalso; omega
    · refine zz_iload_n (x := p0) rfl zd_14_23_32 ?_
      refine zz_bipush (by decide) zd_14_23_33 ?_
      refine zz_icmp_eq (by omega) (by omega) zd_14_23_35 (fun c3 => ?_) (fun c3 => ?_)
      · exfalso; omega
      · refine zz_iload_n (x := p0) rfl zd_14_23_38 ?_
        refine zz_bipush (by decide) zd_14_23_39 ?_
        refine zz_icmp_ne (by omega) (by omega) zd_14_23_41 (fun c4 => ?_) (fun c4 => ?_)
        · refine zz_iconst zd_14_23_48 ?_
          refine zz_istore_n [some (zi p0), some (zi p1), some (zi 1), some (zi 0)] zd_14_23_49 (by decide) rfl ?_
          refine zz_iload_n (x := p1) rfl zd_14_23_50 ?_
          by_cases c5 : p1 = 5
          · refine zz_swIn 5 37 c5 (by decide) zd_14_23_51 rfl rfl ?_
            refine zz_iload_n (x := 1) rfl zd_14_23_88 ?_
            exact zz_zret zd_14_23_89 rfl (by omega) (Nat.zero_le _) (Nat.zero_le _) ⟨_, _, rfl, rfl, by omega⟩
          by_cases c6 : p1 = 6
          · refine zz_swIn 6 68 c6 (by decide) zd_14_23_51 rfl rfl ?_
            refine zz_iload_n (x := 0) rfl zd_14_23_119 ?_
            refine zz_if_ne (by omega) zd_14_23_120 (fun c7 => ?_) (fun c7 => ?_)
            · exfalso; omega
            · refine zz_iload_n (x := p0) rfl zd_14_23_123 ?_
              refine zz_bipush (by decide) zd_14_23_124 ?_
              refine zz_icmp_ne (by omega) (by omega) zd_14_23_126 (fun c8 => ?_) (fun c8 => ?_)
              · refine zz_iconst zd_14_23_133 ?_
                exact zz_zret zd_14_23_134 rfl (by omega) (Nat.zero_le _) (Nat.zero_le _) ⟨_, _, rfl, rfl, by omega⟩
              · exfalso; omega
          by_cases c9 : p1 = 7
          · refine zz_swIn 7 68 c9 (by decide) zd_14_23_51 rfl rfl ?_
            refine zz_iload_n (x := 0) rfl zd_14_23_119 ?_
            refine zz_if_ne (by omega) zd_14_23_120 (fun c10 => ?_) (fun c10 => ?_)
            · exfalso; omega
            · refine zz_iload_n (x := p0) rfl zd_14_23_123 ?_
              refine zz_bipush (by decide) zd_14_23_124 ?_
              refine zz_icmp_ne (by omega) (by omega) zd_14_23_126 (fun c11 => ?_) (fun c11 => ?_)
              · refine zz_iconst zd_14_23_133 ?_
                exact zz_zret zd_14_23_134 rfl (by omega) (Nat.zero_le _) (Nat.zero_le _) ⟨_, _, rfl, rfl, by omega⟩
              · exfalso; omega
          by_cases c12 : p1 = 8
          · refine zz_swIn 8 39 c12 (by decide) zd_14_23_51 rfl rfl ?_
            refine zz_iload_n (x := p0) rfl zd_14_23_90 ?_
            refine zz_bipush (by decide) zd_14_23_91 ?_
            refine zz_icmp_eq (by omega) (by omega) zd_14_23_93 (fun c13 => ?_) (fun c13 => ?_)
            · exfalso; omega
            · refine zz_iconst zd_14_23_96 ?_
              refine zz_goto zd_14_23_97 ?_
              exact zz_zret zd_14_23_101 rfl (by omega) (Nat.zero_le _) (Nat.zero_le _) ⟨_, _, rfl, rfl, by omega⟩
          by_cases c14 : p1 = 9
          · refine zz_swIn 9 51 c14 (by decide) zd_14_23_51 rfl rfl ?_
            refine zz_iload_n (x := 0) rfl zd_14_23_102 ?_
            exact zz_zret zd_14_23_103 rfl (by omega) (Nat.zero_le _) (Nat.zero_le _) ⟨_, _, rfl, rfl, by omega⟩
          by_cases c15 : p1 = 10
          · refine zz_swIn 10 53 c15 (by decide) zd_14_23_51 rfl rfl ?_
            refine zz_iload_n (x := 1) rfl zd_14_23_104 ?_
            refine zz_if_ne (by omega) zd_14_23_105 (fun c16 => ?_) (fun c16 => ?_)
            · refine zz_iconst zd_14_23_113 ?_
              refine zz_goto zd_14_23_114 ?_
              exact zz_zret zd_14_23_118 rfl (by omega) (Nat.zero_le _) (Nat.zero_le _) ⟨_, _, rfl, rfl, by omega⟩
            · exfalso; omega
          refine zz_swOut (by omega) (by omega) zd_14_23_51 rfl ?_
          refine zz_iload_n (x := 0) rfl zd_14_23_119 ?_
          refine zz_if_ne (by omega) zd_14_23_120 (fun c18 => ?_) (fun c18 => ?_)
          · exfalso; omega
          · refine zz_iload_n (x := p0) rfl zd_14_23_123 ?_
            refine zz_bipush (by decide) zd_14_23_124 ?_
            refine zz_icmp_ne (by omega) (by omega) zd_14_23_126 (fun c19 => ?_) (fun c19 => ?_)
            · refine zz_iconst zd_14_23_133 ?_
              exact zz_zret zd_14_23_134 rfl (by omega) (Nat.zero_le _) (Nat.zero_le _) ⟨_, _, rfl, rfl, by omega⟩
            · exfalso; omega
        · exfalso; omega
  · refine zz_iload_n (x := p0) rfl zd_14_23_5 ?_
    refine zz_iconst zd_14_23_6 ?_
    refine zz_icmp_eq (by omega) (by omega) zd_14_23_7 (fun c20 => ?_) (fun c20 => ?_)
    · refine zz_iconst zd_14_23_21 ?_
      refine zz_goto zd_14_23_22 ?_
      refine zz_istore_n [some (zi p0), some (zi p1), some (zi 1)] zd_14_23_26 (by decide) rfl ?_
      refine zz_iload_n (x := p0) rfl zd_14_23_27 ?_
      refine zz_iconst zd_14_23_28 ?_
      refine zz_icmp_eq (by omega) (by omega) zd_14_23_29 (fun c21 => ?_) (fun c21 => ?_)
      · exfalso; omega
      · refine zz_iload_n (x := p0) rfl zd_14_23_32 ?_
        refine zz_bipush (by decide) zd_14_23_33 ?_
        refine zz_icmp_eq (by omega) (by omega) zd_14_23_35 (fun c22 => ?_) (fun c22 => ?_)
        · exfalso; omega
        · refine zz_iload_n (x := p0) rfl zd_14_23_38 ?_
          refine zz_bipush (by decide) zd_14_23_39 ?_
          refine zz_icmp_ne (by omega) (by omega) zd_14_23_41 (fun c23 => ?_) (fun c23 => ?_)
          · refine zz_iconst zd_14_23_48 ?_
            refine zz_istore_n [some (zi p0), some (zi p1), some (zi 1), some (zi 0)] zd_14_23_49 (by decide) rfl ?_
            refine zz_iload_n (x := p1) rfl zd_14_23_50 ?_
            by_cases c24 : p1 = 5
            · refine zz_swIn 5 37 c24 (by decide) zd_14_23_51 rfl rfl ?_
              refine zz_iload_n (x := 1) rfl zd_14_23_88 ?_
              exact zz_zret zd_14_23_89 rfl (by omega) (Nat.zero_le _) (Nat.zero_le _) ⟨_, _, rfl, rfl, by omega⟩
            by_cases c25 : p1 = 6
            · refine zz_swIn 6 68 c25 (by decide) zd_14_23_51 rfl rfl ?_
              refine zz_iload_n (x := 0) rfl zd_14_23_119 ?_
              refine zz_if_ne (by omega) zd_14_23_120 (fun c26 => ?_) (fun c26 => ?_)
              · exfalso; omega
              · refine zz_iload_n (x := p0) rfl zd_14_23_123 ?_
                refine zz_bipush (by decide) zd_14_23_124 ?_
                refine zz_icmp_ne (by omega) (by omega) zd_14_23_126 (fun c27 => ?_) (fun c27 => ?_)
                · refine zz_iconst zd_14_23_133 ?_
                  exact zz_zret zd_14_23_134 rfl (by omega) (Nat.zero_le _) (Nat.zero_le _) ⟨_, _, rfl, rfl, by omega⟩
                · exfalso; omega
            by_cases c28 : p1 = 7
            · refine zz_swIn 7 68 c28 (by decide) zd_14_23_51 rfl rfl ?_
              refine zz_iload_n (x := 0) rfl zd_14_23_119 ?_
              refine zz_if_ne (by omega) zd_14_23_120 (fun c29 => ?_) (fun c29 => ?_)
              · exfalso; omega
              · refine zz_iload_n (x := p0) rfl zd_14_23_123 ?_
                refine zz_bipush (by decide) zd_14_23_124 ?_
                refine zz_icmp_ne (by omega) (by omega) zd_14_23_126 (fun c30 => ?_) (fun c30 => ?_)
                · refine zz_iconst zd_14_23_133 ?_
                  exact zz_zret zd_14_23_134 rfl (by omega) (Nat.zero_le _) (Nat.zero_le _) ⟨_, _, rfl, rfl, by omega⟩
                · exfalso; omega
            by_cases c31 : p1 = 8
            · refine zz_swIn 8 39 c31 (by decide) zd_14_23_51 rfl rfl ?_
              refine zz_iload_n (x := p0) rfl zd_14_23_90 ?_
              refine zz_bipush (by decide) zd_14_23_91 ?_
              refine zz_icmp_eq (by omega) (by omega) zd_14_23_93 (fun c32 => ?_) (fun c32 => ?_)
              · exfalso; omega
              · refine zz_iconst zd_14_23_96 ?_
                refine zz_goto zd_14_23_97 ?_
                exact zz_zret zd_14_23_101 rfl (by omega) (Nat.zero_le _) (Nat.zero_le _) ⟨_, _, rfl, rfl, by omega⟩
            by_cases c33 : p1 = 9
            · refine zz_swIn 9 51 c33 (by decide) zd_14_23_51 rfl rfl ?_
              refine zz_iload_n (x := 0) rfl zd_14_23_102 ?_
              exact zz_zret zd_14_23_103 rfl (by omega) (Nat.zero_le _) (Nat.zero_le _) ⟨_, _, rfl, rfl, by omega⟩
            by_cases c34 : p1 = 10
            · refine zz_swIn 10 53 c34 (by decide) zd_14_23_51 rfl rfl ?_
              refine zz_iload_n (x := 1) rfl zd_14_23_104 ?_
              refine zz_if_ne (by omega) zd_14_23_105 (fun c35 => ?_) (fun c35 => ?_)
              · refine zz_iconst zd_14_23_113 ?_
                refine zz_goto zd_14_23_114 ?_
                exact zz_zret zd_14_23_118 rfl (by omega) (Nat.zero_le _) (Nat.zero_le _) ⟨_, _, rfl, rfl, by omega⟩
              · exfalso; omega
            refine zz_swOut (by omega) (by omega) zd_14_23_51 rfl ?_
            refine zz_iload_n (x := 0) rfl zd_14_23_119 ?_
            refine zz_if_ne (by omega) zd_14_23_120 (fun c37 => ?_) (fun c37 => ?_)
            · exfalso; omega
            · refine zz_iload_n (x := p0) rfl zd_14_23_123 ?_
              refine zz_bipush (by decide) zd_14_23_124 ?_
              refine zz_icmp_ne (by omega) (by omega) zd_14_23_126 (fun c38 => ?_) (fun c38 => ?_)
              · refine zz_iconst zd_14_23_133 ?_
                exact zz_zret zd_14_23_134 rfl (by omega) (Nat.zero_le _) (Nat.zero_le _) ⟨_, _, rfl, rfl, by omega⟩
              · exfalso; omega
          · exfalso; omega
    · refine zz_iload_n (x := p0) rfl zd_14_23_10 ?_
      refine zz_iconst zd_14_23_11 ?_
      refine zz_icmp_eq (by omega) (by omega) zd_14_23_12 (fun c39 => ?_) (fun c39 => ?_)
      · refine zz_iconst zd_14_23_21 ?_
        refine zz_goto zd_14_23_22 ?_
        refine zz_istore_n [some (zi p0), some (zi p1), some (zi 1)] zd_14_23_26 (by decide) rfl ?_
        refine zz_iload_n (x := p0) rfl zd_14_23_27 ?_
        refine zz_iconst zd_14_23_28 ?_
        refine zz_icmp_eq (by omega) (by omega) zd_14_23_29 (fun c40 => ?_) (fun c40 => ?_)
        · exfalso; omega
        · refine zz_iload_n (x := p0) rfl zd_14_23_32 ?_
          refine zz_bipush (by decide) zd_14_23_33 ?_
          refine zz_icmp_eq (by omega) (by omega) zd_14_23_35 (fun c41 => ?_) (fun c41 => ?_)
          · exfalso; omega
          · refine zz_iload_n (x := p0) rfl zd_14_23_38 ?_
            refine zz_bipush (by decide) zd_14_23_39 ?_
            refine zz_icmp_ne (by omega) (by omega) zd_14_23_41 (fun c42 => ?_) (fun c42 => ?_)
            · refine zz_iconst zd_14_23_48 ?_
              refine zz_istore_n [some (zi p0), some (zi p1), some (zi 1), some (zi 0)] zd_14_23_49 (by decide) rfl ?_
              refine zz_iload_n (x := p1) rfl zd_14_23_50 ?_
              by_cases c43 : p1 = 5
              · refine zz_swIn 5 37 c43 (by decide) zd_14_23_51 rfl rfl ?_
                refine zz_iload_n (x := 1) rfl zd_14_23_88 ?_
                exact zz_zret zd_14_23_89 rfl (by omega) (Nat.zero_le _) (Nat.zero_le _) ⟨_, _, rfl, rfl, by omega⟩
              by_cases c44 : p1 = 6
              · refine zz_swIn 6 68 c44 (by decide) zd_14_23_51 rfl rfl ?_
                refine zz_iload_n (x := 0) rfl zd_14_23_119 ?_
                refine zz_if_ne (by omega) zd_14_23_120 (fun c45 => ?_) (fun c45 => ?_)
                · exfalso; omega
                · refine zz_iload_n (x := p0) rfl zd_14_23_123 ?_
                  refine zz_bipush (by decide) zd_14_23_124 ?_
                  refine zz_icmp_ne (by omega) (by omega) zd_14_23_126 (fun c46 => ?_) (fun c46 => ?_)
                  · refine zz_iconst zd_14_23_133 ?_
                    exact zz_zret zd_14_23_134 rfl (by omega) (Nat.zero_le _) (Nat.zero_le _) ⟨_, _, rfl, rfl, by omega⟩
                  · exfalso; omega
              by_cases c47 : p1 = 7
              · refine zz_swIn 7 68 c47 (by decide) zd_14_23_51 rfl rfl ?_
                refine zz_iload_n (x := 0) rfl zd_14_23_119 ?_
                refine zz_if_ne (by omega) zd_14_23_120 (fun c48 => ?_) (fun c48 => ?_)
                · exfalso; omega
                · refine zz_iload_n (x := p0) rfl zd_14_23_123 ?_
                  refine zz_bipush (by decide) zd_14_23_124 ?_
                  refine zz_icmp_ne (by omega) (by omega) zd_14_23_126 (fun c49 => ?_) (fun c49 => ?_)
                  · refine zz_iconst zd_14_23_133 ?_
                    exact zz_zret zd_14_23_134 rfl (by omega) (Nat.zero_le _) (Nat.zero_le _) ⟨_, _, rfl, rfl, by omega⟩
                  · exfalso; omega
              by_cases c50 : p1 = 8
              · refine zz_swIn 8 39 c50 (by decide) zd_14_23_51 rfl rfl ?_
                refine zz_iload_n (x := p0) rfl zd_14_23_90 ?_
                refine zz_bipush (by decide) zd_14_23_91 ?_
                refine zz_icmp_eq (by omega) (by omega) zd_14_23_93 (fun c51 => ?_) (fun c51 => ?_)
                · exfalso; omega
                · refine zz_iconst zd_14_23_96 ?_
                  refine zz_goto zd_14_23_97 ?_
                  exact zz_zret zd_14_23_101 rfl (by omega) (Nat.zero_le _) (Nat.zero_le _) ⟨_, _, rfl, rfl, by omega⟩
              by_cases c52 : p1 = 9
              · refine zz_swIn 9 51 c52 (by decide) zd_14_23_51 rfl rfl ?_
                refine zz_iload_n (x := 0) rfl zd_14_23_102 ?_
                exact zz_zret zd_14_23_103 rfl (by omega) (Nat.zero_le _) (Nat.zero_le _) ⟨_, _, rfl, rfl, by omega⟩
              by_cases c53 : p1 = 10
              · refine zz_swIn 10 53 c53 (by decide) zd_14_23_51 rfl rfl ?_
                refine zz_iload_n (x := 1) rfl zd_14_23_104 ?_
                refine zz_if_ne (by omega) zd_14_23_105 (fun c54 => ?_) (fun c54 => ?_)
                · refine zz_iconst zd_14_23_113 ?_
                  refine zz_goto zd_14_23_114 ?_
                  exact zz_zret zd_14_23_118 rfl (by omega) (Nat.zero_le _) (Nat.zero_le _) ⟨_, _, rfl, rfl, by omega⟩
                · exfalso; omega
              refine zz_swOut (by omega) (by omega) zd_14_23_51 rfl ?_
              refine zz_iload_n (x := 0) rfl zd_14_23_119 ?_
              refine zz_if_ne (by omega) zd_14_23_120 (fun c56 => ?_) (fun c56 => ?_)
              · exfalso; omega
              · refine zz_iload_n (x := p0) rfl zd_14_23_123 ?_
                refine zz_bipush (by decide) zd_14_23_124 ?_
                refine zz_icmp_ne (by omega) (by omega) zd_14_23_126 (fun c57 => ?_) (fun c57 => ?_)
                · refine zz_iconst zd_14_23_133 ?_
                  exact zz_zret zd_14_23_134 rfl (by omega) (Nat.zero_le _) (Nat.zero_le _) ⟨_, _, rfl, rfl, by omega⟩
                · exfalso; omega
            · exfalso; omega
      · refine zz_iload_n (x := p0) rfl zd_14_23_15 ?_
        refine zz_bipush (by decide) zd_14_23_16 ?_
        refine zz_icmp_ne (by omega) (by omega) zd_14_23_18 (fun c58 => ?_) (fun c58 => ?_)
        · refine zz_iconst zd_14_23_25 ?_
          refine zz_istore_n [some (zi p0), some (zi p1), some (zi 0)] zd_14_23_26 (by decide) rfl ?_
          refine zz_iload_n (x := p0) rfl zd_14_23_27 ?_
          refine zz_iconst zd_14_23_28 ?_
          refine zz_icmp_eq (by omega) (by omega) zd_14_23_29 (fun c59 => ?_) (fun c59 => ?_)
          · refine zz_iconst zd_14_23_44 ?_
            refine zz_goto zd_14_23_45 ?_
            refine zz_istore_n [some (zi p0), some (zi p1), some (zi 0), some (zi 1)] zd_14_23_49 (by decide) rfl ?_
            refine zz_iload_n (x := p1) rfl zd_14_23_50 ?_
            by_cases c60 : p1 = 5
            · refine zz_swIn 5 37 c60 (by decide) zd_14_23_51 rfl rfl ?_
              refine zz_iload_n (x := 0) rfl zd_14_23_88 ?_
              exact zz_zret zd_14_23_89 rfl (by omega) (Nat.zero_le _) (Nat.zero_le _) ⟨_, _, rfl, rfl, by omega⟩
            by_cases c61 : p1 = 6
            · refine zz_swIn 6 68 c61 (by decide) zd_14_23_51 rfl rfl ?_
              refine zz_iload_n (x := 1) rfl zd_14_23_119 ?_
              refine zz_if_ne (by omega) zd_14_23_120 (fun c62 => ?_) (fun c62 => ?_)
              · refine zz_iconst zd_14_23_129 ?_
                refine zz_goto zd_14_23_130 ?_
                exact zz_zret zd_14_23_134 rfl (by omega) (Nat.zero_le _) (Nat.zero_le _) ⟨_, _, rfl, rfl, by omega⟩
              · exfalso; omega
            by_cases c63 : p1 = 7
            · refine zz_swIn 7 68 c63 (by decide) zd_14_23_51 rfl rfl ?_
              refine zz_iload_n (x := 1) rfl zd_14_23_119 ?_
              refine zz_if_ne (by omega) zd_14_23_120 (fun c64 => ?_) (fun c64 => ?_)
              · refine zz_iconst zd_14_23_129 ?_
                refine zz_goto zd_14_23_130 ?_
                exact zz_zret zd_14_23_134 rfl (by omega) (Nat.zero_le _) (Nat.zero_le _) ⟨_, _, rfl, rfl, by omega⟩
              · exfalso; omega
            by_cases c65 : p1 = 8
            · refine zz_swIn 8 39 c65 (by decide) zd_14_23_51 rfl rfl ?_
              refine zz_iload_n (x := p0) rfl zd_14_23_90 ?_
              refine zz_bipush (by decide) zd_14_23_91 ?_
              refine zz_icmp_eq (by omega) (by omega) zd_14_23_93 (fun c66 => ?_) (fun c66 => ?_)
              · exfalso; omega
              · refine zz_iconst zd_14_23_96 ?_
                refine zz_goto zd_14_23_97 ?_
                exact zz_zret zd_14_23_101 rfl (by omega) (Nat.zero_le _) (Nat.zero_le _) ⟨_, _, rfl, rfl, by omega⟩
            by_cases c67 : p1 = 9
            · refine zz_swIn 9 51 c67 (by decide) zd_14_23_51 rfl rfl ?_
              refine zz_iload_n (x := 1) rfl zd_14_23_102 ?_
              exact zz_zret zd_14_23_103 rfl (by omega) (Nat.zero_le _) (Nat.zero_le _) ⟨_, _, rfl, rfl, by omega⟩
            by_cases c68 : p1 = 10
            · refine zz_swIn 10 53 c68 (by decide) zd_14_23_51 rfl rfl ?_
              refine zz_iload_n (x := 0) rfl zd_14_23_104 ?_
              refine zz_if_ne (by omega) zd_14_23_105 (fun c69 => ?_) (fun c69 => ?_)
              · exfalso; omega
              · refine zz_iload_n (x := p0) rfl zd_14_23_108 ?_
                refine zz_iconst zd_14_23_109 ?_
                refine zz_icmp_ne (by omega) (by omega) zd_14_23_110 (fun c70 => ?_) (fun c70 => ?_)
                · exfalso; omega
                · refine zz_iconst zd_14_23_113 ?_
                  refine zz_goto zd_14_23_114 ?_
                  exact zz_zret zd_14_23_118 rfl (by omega) (Nat.zero_le _) (Nat.zero_le _) ⟨_, _, rfl, rfl, by omega⟩
            refine zz_swOut (by omega) (by omega) zd_14_23_51 rfl ?_
            refine zz_iload_n (x := 1) rfl zd_14_23_119 ?_
            refine zz_if_ne (by omega) zd_14_23_120 (fun c72 => ?_) (fun c72 => ?_)
            · refine zz_iconst zd_14_23_129 ?_
              refine zz_goto zd_14_23_130 ?_
              exact zz_zret zd_14_23_134 rfl (by omega) (Nat.zero_le _) (Nat.zero_le _) ⟨_, _, rfl, rfl, by omega⟩
            · exfalso; omega
          · refine zz_iload_n (x := p0) rfl zd_14_23_32 ?_
            refine zz_bipush (by decide) zd_14_23_33 ?_
            refine zz_icmp_eq (by omega) (by omega) zd_14_23_35 (fun c73 => ?_) (fun c73 => ?_)
            · refine zz_iconst zd_14_23_44 ?_
              refine zz_goto zd_14_23_45 ?_
              refine zz_istore_n [some (zi p0), some (zi p1), some (zi 0), some (zi 1)] zd_14_23_49 (by decide) rfl ?_
              refine zz_iload_n (x := p1) rfl zd_14_23_50 ?_
              by_cases c74 : p1 = 5
              · refine zz_swIn 5 37 c74 (by decide) zd_14_23_51 rfl rfl ?_
                refine zz_iload_n (x := 0) rfl zd_14_23_88 ?_
                exact zz_zret zd_14_23_89 rfl (by omega) (Nat.zero_le _) (Nat.zero_le _) ⟨_, _, rfl, rfl, by omega⟩
              by_cases c75 : p1 = 6
              · refine zz_swIn 6 68 c75 (by decide) zd_14_23_51 rfl rfl ?_
                refine zz_iload_n (x := 1) rfl zd_14_23_119 ?_
                refine zz_if_ne (by omega) zd_14_23_120 (fun c76 => ?_) (fun c76 => ?_)
                · refine zz_iconst zd_14_23_129 ?_
                  refine zz_goto zd_14_23_130 ?_
                  exact zz_zret zd_14_23_134 rfl (by omega) (Nat.zero_le _) (Nat.zero_le _) ⟨_, _, rfl, rfl, by omega⟩
                · exfalso; omega
              by_cases c77 : p1 = 7
              · refine zz_swIn 7 68 c77 (by decide) zd_14_23_51 rfl rfl ?_
                refine zz_iload_n (x := 1) rfl zd_14_23_119 ?_
                refine zz_if_ne (by omega) zd_14_23_120 (fun c78 => ?_) (fun c78 => ?_)
                · refine zz_iconst zd_14_23_129 ?_
                  refine zz_goto zd_14_23_130 ?_
                  exact zz_zret zd_14_23_134 rfl (by omega) (Nat.zero_le _) (Nat.zero_le _) ⟨_, _, rfl, rfl, by omega⟩
                · exfalso; omega
              by_cases c79 : p1 = 8
              · refine zz_swIn 8 39 c79 (by decide) zd_14_23_51 rfl rfl ?_
                refine zz_iload_n (x := p0) rfl zd_14_23_90 ?_
                refine zz_bipush (by decide) zd_14_23_91 ?_
                refine zz_icmp_eq (by omega) (by omega) zd_14_23_93 (fun c80 => ?_) (fun c80 => ?_)
                · exfalso; omega
                · refine zz_iconst zd_14_23_96 ?_
                  refine zz_goto zd_14_23_97 ?_
                  exact zz_zret zd_14_23_101 rfl (by omega) (Nat.zero_le _) (Nat.zero_le _) ⟨_, _, rfl, rfl, by omega⟩
              by_cases c81 : p1 = 9
              · refine zz_swIn 9 51 c81 (by decide) zd_14_23_51 rfl rfl ?_
                refine zz_iload_n (x := 1) rfl zd_14_23_102 ?_
                exact zz_zret zd_14_23_103 rfl (by omega) (Nat.zero_le _) (Nat.zero_le _) ⟨_, _, rfl, rfl, by omega⟩
              by_cases c82 : p1 = 10
              · refine zz_swIn 10 53 c82 (by decide) zd_14_23_51 rfl rfl ?_
                refine zz_iload_n (x := 0) rfl zd_14_23_104 ?_
                refine zz_if_ne (by omega) zd_14_23_105 (fun c83 => ?_) (fun c83 => ?_)
                · exfalso; omega
                · refine zz_iload_n (x := p0) rfl zd_14_23_108 ?_
                  refine zz_iconst zd_14_23_109 ?_
                  refine zz_icmp_ne (by omega) (by omega) zd_14_23_110 (fun c84 => ?_) (fun c84 => ?_)
                  · refine zz_iconst zd_14_23_117 ?_
                    exact zz_zret zd_14_23_118 rfl (by omega) (Nat.zero_le _) (Nat.zero_le _) ⟨_, _, rfl, rfl, by omega⟩
                  · exfalso; omega
              refine zz_swOut (by omega) (by omega) zd_14_23_51 rfl ?_
              refine zz_iload_n (x := 1) rfl zd_14_23_119 ?_
              refine zz_if_ne (by omega) zd_14_23_120 (fun c86 => ?_) (fun c86 => ?_)
              · refine zz_iconst zd_14_23_129 ?_
                refine zz_goto zd_14_23_130 ?_
                exact zz_zret zd_14_23_134 rfl (by omega) (Nat.zero_le _) (Nat.zero_le _) ⟨_, _, rfl, rfl, by omega⟩
              · exfalso; omega
            · refine zz_iload_n (x := p0) rfl zd_14_23_38 ?_
              refine zz_bipush (by decide) zd_14_23_39 ?_
              refine zz_icmp_ne (by omega) (by omega) zd_14_23_41 (fun c87 => ?_) (fun c87 => ?_)
              · refine zz_iconst zd_14_23_48 ?_
                refine zz_istore_n [some (zi p0), some (zi p1), some (zi 0), some (zi 0)] zd_14_23_49 (by decide) rfl ?_
                refine zz_iload_n (x := p1) rfl zd_14_23_50 ?_
                by_cases c88 : p1 = 5
                · refine zz_swIn 5 37 c88 (by decide) zd_14_23_51 rfl rfl ?_
                  refine zz_iload_n (x := 0) rfl zd_14_23_88 ?_
                  exact zz_zret zd_14_23_89 rfl (by omega) (Nat.zero_le _) (Nat.zero_le _) ⟨_, _, rfl, rfl, by omega⟩
                by_cases c89 : p1 = 6
                · refine zz_swIn 6 68 c89 (by decide) zd_14_23_51 rfl rfl ?_
                  refine zz_iload_n (x := 0) rfl zd_14_23_119 ?_
                  refine zz_if_ne (by omega) zd_14_23_120 (fun c90 => ?_) (fun c90 => ?_)
                  · exfalso; omega
                  · refine zz_iload_n (x := p0) rfl zd_14_23_123 ?_
                    refine zz_bipush (by decide) zd_14_23_124 ?_
                    refine zz_icmp_ne (by omega) (by omega) zd_14_23_126 (fun c91 => ?_) (fun c91 => ?_)
                    · refine zz_iconst zd_14_23_133 ?_
                      exact zz_zret zd_14_23_134 rfl (by omega) (Nat.zero_le _) (Nat.zero_le _) ⟨_, _, rfl, rfl, by omega⟩
                    · refine zz_iconst zd_14_23_129 ?_
                      refine zz_goto zd_14_23_130 ?_
                      exact zz_zret zd_14_23_134 rfl (by omega) (Nat.zero_le _) (Nat.zero_le _) ⟨_, _, rfl, rfl, by omega⟩
                by_cases c92 : p1 = 7
                · refine zz_swIn 7 68 c92 (by decide) zd_14_23_51 rfl rfl ?_
                  refine zz_iload_n (x := 0) rfl zd_14_23_119 ?_
                  refine zz_if_ne (by omega) zd_14_23_120 (fun c93 => ?_) (fun c93 => ?_)
                  · exfalso; omega
                  · refine zz_iload_n (x := p0) rfl zd_14_23_123 ?_
                    refine zz_bipush (by decide) zd_14_23_124 ?_
                    refine zz_icmp_ne (by omega) (by omega) zd_14_23_126 (fun c94 => ?_) (fun c94 => ?_)
                    · refine zz_iconst zd_14_23_133 ?_
                      exact zz_zret zd_14_23_134 rfl (by omega) (Nat.zero_le _) (Nat.zero_le _) ⟨_, _, rfl, rfl, by omega⟩
                    · refine zz_iconst zd_14_23_129 ?_
                      refine zz_goto zd_14_23_130 ?_
                      exact zz_zret zd_14_23_134 rfl (by omega) (Nat.zero_le _) (Nat.zero_le _) ⟨_, _, rfl, rfl, by omega⟩
                by_cases c95 : p1 = 8
                · refine zz_swIn 8 39 c95 (by decide) zd_14_23_51 rfl rfl ?_
                  refine zz_iload_n (x := p0) rfl zd_14_23_90 ?_
                  refine zz_bipush (by decide) zd_14_23_91 ?_
                  refine zz_icmp_eq (by omega) (by omega) zd_14_23_93 (fun c96 => ?_) (fun c96 => ?_)
                  · refine zz_iconst zd_14_23_100 ?_
                    exact zz_zret zd_14_23_101 rfl (by omega) (Nat.zero_le _) (Nat.zero_le _) ⟨_, _, rfl, rfl, by omega⟩
                  · refine zz_iconst zd_14_23_96 ?_
                    refine zz_goto zd_14_23_97 ?_
                    exact zz_zret zd_14_23_101 rfl (by omega) (Nat.zero_le _) (Nat.zero_le _) ⟨_, _, rfl, rfl, by omega⟩
                by_cases c97 : p1 = 9
                · refine zz_swIn 9 51 c97 (by decide) zd_14_23_51 rfl rfl ?_
                  refine zz_iload_n (x := 0) rfl zd_14_23_102 ?_
                  exact zz_zret zd_14_23_103 rfl (by omega) (Nat.zero_le _) (Nat.zero_le _) ⟨_, _, rfl, rfl, by omega⟩
                by_cases c98 : p1 = 10
                · refine zz_swIn 10 53 c98 (by decide) zd_14_23_51 rfl rfl ?_
                  refine zz_iload_n (x := 0) rfl zd_14_23_104 ?_
                  refine zz_if_ne (by omega) zd_14_23_105 (fun c99 => ?_) (fun c99 => ?_)
                  · exfalso; omega
                  · refine zz_iload_n (x := p0) rfl zd_14_23_108 ?_
                    refine zz_iconst zd_14_23_109 ?_
                    refine zz_icmp_ne (by omega) (by omega) zd_14_23_110 (fun c100 => ?_) (fun c100 => ?_)
                    · refine zz_iconst zd_14_23_117 ?_
                      exact zz_zret zd_14_23_118 rfl (by omega) (Nat.zero_le _) (Nat.zero_le _) ⟨_, _, rfl, rfl, by omega⟩
                    · refine zz_iconst zd_14_23_113 ?_
                      refine zz_goto zd_14_23_114 ?_
                      exact zz_zret zd_14_23_118 rfl (by omega) (Nat.zero_le _) (Nat.zero_le _) ⟨_, _, rfl, rfl, by omega⟩
                refine zz_swOut (by omega) (by omega) zd_14_23_51 rfl ?_
                refine zz_iload_n (x := 0) rfl zd_14_23_119 ?_
                refine zz_if_ne (by omega) zd_14_23_120 (fun c102 => ?_) (fun c102 => ?_)
                · exfalso; omega
                · refine zz_iload_n (x := p0) rfl zd_14_23_123 ?_
                  refine zz_bipush (by decide) zd_14_23_124 ?_
                  refine zz_icmp_ne (by omega) (by omega) zd_14_23_126 (fun c103 => ?_) (fun c103 => ?_)
                  · refine zz_iconst zd_14_23_133 ?_
                    exact zz_zret zd_14_23_134 rfl (by omega) (Nat.zero_le _) (Nat.zero_le _) ⟨_, _, rfl, rfl, by omega⟩
                  · refine zz_iconst zd_14_23_129 ?_
                    refine zz_goto zd_14_23_130 ?_
                    exact zz_zret zd_14_23_134 rfl (by omega) (Nat.zero_le _) (Nat.zero_le _) ⟨_, _, rfl, rfl, by omega⟩
              · refine zz_iconst zd_14_23_44 ?_
                refine zz_goto zd_14_23_45 ?_
                refine zz_istore_n [some (zi p0), some (zi p1), some (zi 0), some (zi 1)] zd_14_23_49 (by decide) rfl ?_
                refine zz_iload_n (x := p1) rfl zd_14_23_50 ?_
                by_cases c104 : p1 = 5
                · refine zz_swIn 5 37 c104 (by decide) zd_14_23_51 rfl rfl ?_
                  refine zz_iload_n (x := 0) rfl zd_14_23_88 ?_
                  exact zz_zret zd_14_23_89 rfl (by omega) (Nat.zero_le _) (Nat.zero_le _) ⟨_, _, rfl, rfl, by omega⟩
                by_cases c105 : p1 = 6
                · refine zz_swIn 6 68 c105 (by decide) zd_14_23_51 rfl rfl ?_
                  refine zz_iload_n (x := 1) rfl zd_14_23_119 ?_
                  refine zz_if_ne (by omega) zd_14_23_120 (fun c106 => ?_) (fun c106 => ?_)
                  · refine zz_iconst zd_14_23_129 ?_
                    refine zz_goto zd_14_23_130 ?_
                    exact zz_zret zd_14_23_134 rfl (by omega) (Nat.zero_le _) (Nat.zero_le _) ⟨_, _, rfl, rfl, by omega⟩
                  · exfalso; omega
                by_cases c107 : p1 = 7
                · refine zz_swIn 7 68 c107 (by decide) zd_14_23_51 rfl rfl ?_
                  refine zz_iload_n (x := 1) rfl zd_14_23_119 ?_
                  refine zz_if_ne (by omega) zd_14_23_120 (fun c108 => ?_) (fun c108 => ?_)
                  · refine zz_iconst zd_14_23_129 ?_
                    refine zz_goto zd_14_23_130 ?_
                    exact zz_zret zd_14_23_134 rfl (by omega) (Nat.zero_le _) (Nat.zero_le _) ⟨_, _, rfl, rfl, by omega⟩
                  · exfalso; omega
                by_cases c109 : p1 = 8
                · refine zz_swIn 8 39 c109 (by decide) zd_14_23_51 rfl rfl ?_
                  refine zz_iload_n (x := p0) rfl zd_14_23_90 ?_
                  refine zz_bipush (by decide) zd_14_23_91 ?_
                  refine zz_icmp_eq (by omega) (by omega) zd_14_23_93 (fun c110 => ?_) (fun c110 => ?_)
                  · exfalso; omega
                  · refine zz_iconst zd_14_23_96 ?_
                    refine zz_goto zd_14_23_97 ?_
                    exact zz_zret zd_14_23_101 rfl (by omega) (Nat.zero_le _) (Nat.zero_le _) ⟨_, _, rfl, rfl, by omega⟩
                by_cases c111 : p1 = 9
                · refine zz_swIn 9 51 c111 (by decide) zd_14_23_51 rfl rfl ?_
                  refine zz_iload_n (x := 1) rfl zd_14_23_102 ?_
                  exact zz_zret zd_14_23_103 rfl (by omega) (Nat.zero_le _) (Nat.zero_le _) ⟨_, _, rfl, rfl, by omega⟩
                by_cases c112 : p1 = 10
                · refine zz_swIn 10 53 c112 (by decide) zd_14_23_51 rfl rfl ?_
                  refine zz_iload_n (x := 0) rfl zd_14_23_104 ?_
                  refine zz_if_ne (by omega) zd_14_23_105 (fun c113 => ?_) (fun c113 => ?_)
                  · exfalso; omega
                  · refine zz_iload_n (x := p0) rfl zd_14_23_108 ?_
                    refine zz_iconst zd_14_23_109 ?_
                    refine zz_icmp_ne (by omega) (by omega) zd_14_23_110 (fun c114 => ?_) (fun c114 => ?_)
                    · refine zz_iconst zd_14_23_117 ?_
                      exact zz_zret zd_14_23_118 rfl (by omega) (Nat.zero_le _) (Nat.zero_le _) ⟨_, _, rfl, rfl, by omega⟩
                    · exfalso; omega
                refine zz_swOut (by omega) (by omega) zd_14_23_51 rfl ?_
                refine zz_iload_n (x := 1) rfl zd_14_23_119 ?_
                refine zz_if_ne (by omega) zd_14_23_120 (fun c116 => ?_) (fun c116 => ?_)
                · refine zz_iconst zd_14_23_129 ?_
                  refine zz_goto zd_14_23_130 ?_
                  exact zz_zret zd_14_23_134 rfl (by omega) (Nat.zero_le _) (Nat.zero_le _) ⟨_, _, rfl, rfl, by omega⟩
                · exfalso; omega
        · refine zz_iconst zd_14_23_21 ?_
          refine zz_goto zd_14_23_22 ?_
          refine zz_istore_n [some (zi p0), some (zi p1), some (zi 1)] zd_14_23_26 (by decide) rfl ?_
          refine zz_iload_n (x := p0) rfl zd_14_23_27 ?_
          refine zz_iconst zd_14_23_28 ?_
          refine zz_icmp_eq (by omega) (by omega) zd_14_23_29 (fun c117 => ?_) (fun c117 => ?_)
          · exfalso; omega
          · refine zz_iload_n (x := p0) rfl zd_14_23_32 ?_
            refine zz_bipush (by decide) zd_14_23_33 ?_
            refine zz_icmp_eq (by omega) (by omega) zd_14_23_35 (fun c118 => ?_) (fun c118 => ?_)
            · exfalso; omega
            · refine zz_iload_n (x := p0) rfl zd_14_23_38 ?_
              refine zz_bipush (by decide) zd_14_23_39 ?_
              refine zz_icmp_ne (by omega) (by omega) zd_14_23_41 (fun c119 => ?_) (fun c119 => ?_)
              · refine zz_iconst zd_14_23_48 ?_
                refine zz_istore_n [some (zi p0), some (zi p1), some (zi 1), some (zi 0)] zd_14_23_49 (by decide) rfl ?_
                refine zz_iload_n (x := p1) rfl zd_14_23_50 ?_
                by_cases c120 : p1 = 5
                · refine zz_swIn 5 37 c120 (by decide) zd_14_23_51 rfl rfl ?_
                  refine zz_iload_n (x := 1) rfl zd_14_23_88 ?_
                  exact zz_zret zd_14_23_89 rfl (by omega) (Nat.zero_le _) (Nat.zero_le _) ⟨_, _, rfl, rfl, by omega⟩
                by_cases c121 : p1 = 6
                · refine zz_swIn 6 68 c121 (by decide) zd_14_23_51 rfl rfl ?_
                  refine zz_iload_n (x := 0) rfl zd_14_23_119 ?_
                  refine zz_if_ne (by omega) zd_14_23_120 (fun c122 => ?_) (fun c122 => ?_)
                  · exfalso; omega
                  · refine zz_iload_n (x := p0) rfl zd_14_23_123 ?_
                    refine zz_bipush (by decide) zd_14_23_124 ?_
                    refine zz_icmp_ne (by omega) (by omega) zd_14_23_126 (fun c123 => ?_) (fun c123 => ?_)
                    · refine zz_iconst zd_14_23_133 ?_
                      exact zz_zret zd_14_23_134 rfl (by omega) (Nat.zero_le _) (Nat.zero_le _) ⟨_, _, rfl, rfl, by omega⟩
                    · exfalso; omega
                by_cases c124 : p1 = 7
                · refine zz_swIn 7 68 c124 (by decide) zd_14_23_51 rfl rfl ?_
                  refine zz_iload_n (x := 0) rfl zd_14_23_119 ?_
                  refine zz_if_ne (by omega) zd_14_23_120 (fun c125 => ?_) (fun c125 => ?_)
                  · exfalso; omega
                  · refine zz_iload_n (x := p0) rfl zd_14_23_123 ?_
                    refine zz_bipush (by decide) zd_14_23_124 ?_
                    refine zz_icmp_ne (by omega) (by omega) zd_14_23_126 (fun c126 => ?_) (fun c126 => ?_)
                    · refine zz_iconst zd_14_23_133 ?_
                      exact zz_zret zd_14_23_134 rfl (by omega) (Nat.zero_le _) (Nat.zero_le _) ⟨_, _, rfl, rfl, by omega⟩
                    · exfalso; omega
                by_cases c127 : p1 = 8
                · refine zz_swIn 8 39 c127 (by decide) zd_14_23_51 rfl rfl ?_
                  refine zz_iload_n (x := p0) rfl zd_14_23_90 ?_
                  refine zz_bipush (by decide) zd_14_23_91 ?_
                  refine zz_icmp_eq (by omega) (by omega) zd_14_23_93 (fun c128 => ?_) (fun c128 => ?_)
                  · exfalso; omega
                  · refine zz_iconst zd_14_23_96 ?_
                    refine zz_goto zd_14_23_97 ?_
                    exact zz_zret zd_14_23_101 rfl (by omega) (Nat.zero_le _) (Nat.zero_le _) ⟨_, _, rfl, rfl, by omega⟩
                by_cases c129 : p1 = 9
                · refine zz_swIn 9 51 c129 (by decide) zd_14_23_51 rfl rfl ?_
                  refine zz_iload_n (x := 0) rfl zd_14_23_102 ?_
                  exact zz_zret zd_14_23_103 rfl (by omega) (Nat.zero_le _) (Nat.zero_le _) ⟨_, _, rfl, rfl, by omega⟩
                by_cases c130 : p1 = 10
                · refine zz_swIn 10 53 c130 (by decide) zd_14_23_51 rfl rfl ?_
                  refine zz_iload_n (x := 1) rfl zd_14_23_104 ?_
                  refine zz_if_ne (by omega) zd_14_23_105 (fun c131 => ?_) (fun c131 => ?_)
                  · refine zz_iconst zd_14_23_113 ?_
                    refine zz_goto zd_14_23_114 ?_
                    exact zz_zret zd_14_23_118 rfl (by omega) (Nat.zero_le _) (Nat.zero_le _) ⟨_, _, rfl, rfl, by omega⟩
                  · exfalso; omega
                refine zz_swOut (by omega) (by omega) zd_14_23_51 rfl ?_
                refine zz_iload_n (x := 0) rfl zd_14_23_119 ?_
                refine zz_if_ne (by omega) zd_14_23_120 (fun c133 => ?_) (fun c133 => ?_)
                · exfalso; omega
                · refine zz_iload_n (x := p0) rfl zd_14_23_123 ?_
                  refine zz_bipush (by decide) zd_14_23_124 ?_
                  refine zz_icmp_ne (by omega) (by omega) zd_14_23_126 (fun c134 => ?_) (fun c134 => ?_)
                  · refine zz_iconst zd_14_23_133 ?_
                    exact zz_zret zd_14_23_134 rfl (by omega) (Nat.zero_le _) (Nat.zero_le _) ⟨_, _, rfl, rfl, by omega⟩
                  · exfalso; omega
              · exfalso; omega
abbrev zy_isIllegal_14_24 : mm_Y := (⟨"TensorForgeModel", "isIllegal", "(J)Z"⟩, prog_14_method_24_code, 7, (some .boolean))
theorem zyw_isIllegal_14_24 : mm_Yw zy_isIllegal_14_24 1 := ⟨mm_tb_1 1890 (by decide +kernel) rfl, mm_tb_1 12 (by decide +kernel) rfl, ⟨by decide, by decide⟩, by decide +kernel⟩
theorem zk_Md_234 : mm_Vl "TensorForgeModel" 234 11 1 zy_take_14_18 := ⟨zyw_take_14_18, (R_Md, F_Md, 69), rfl, mm_tb_1 1891 (by decide +kernel) rfl, mm_tb_1 1893 (by decide +kernel) rfl, mm_tb_s 89 (by decide +kernel) rfl⟩
theorem zq_Md_238 : Cond.constantLong "TensorForgeModel" 238 (9 : Int64) ∈ mm_tb := mm_tb_1 1895 (by decide +kernel) rfl
theorem zk_Md_240 : mm_Sl "TensorForgeModel" 240 2 zy_names_14_23 := ⟨zyw_names_14_23, mm_tb_1 1896 (by decide +kernel) rfl, mm_tb_1 1897 (by decide +kernel) rfl⟩
theorem zk_Md_243 : mm_Vl "TensorForgeModel" 243 11 0 zy_unit_14_19 := ⟨zyw_unit_14_19, (R_Md, F_Md, 69), rfl, mm_tb_1 1899 (by decide +kernel) rfl, mm_tb_1 1901 (by decide +kernel) rfl, mm_tb_s 90 (by decide +kernel) rfl⟩
theorem zk_Md_247 : mm_Vl "TensorForgeModel" 247 11 0 zy_reaches_14_22 := ⟨zyw_reaches_14_22, (R_Md, F_Md, 69), rfl, mm_tb_1 1903 (by decide +kernel) rfl, mm_tb_1 1905 (by decide +kernel) rfl, mm_tb_s 91 (by decide +kernel) rfl⟩
theorem zg_14_24_0 : (decode zy_isIllegal_14_24.2.1 0 = .ok ((.aload_n 0), 1)) ∧ (decode zy_isIllegal_14_24.2.1 1 = .ok ((.lload_n 1), 1)) ∧ (decode zy_isIllegal_14_24.2.1 2 = .ok ((.invokevirtual 234), 3)) ∧ (decode zy_isIllegal_14_24.2.1 5 = .ok ((.aload_n 0), 1)) ∧ (decode zy_isIllegal_14_24.2.1 6 = .ok ((.getfield 36), 3)) ∧ (decode zy_isIllegal_14_24.2.1 9 = .ok ((.iconst 0), 1)) ∧ (decode zy_isIllegal_14_24.2.1 10 = .ok ((.iaload), 1)) ∧ (decode zy_isIllegal_14_24.2.1 11 = .ok ((.istore_n 3), 1)) ∧ (decode zy_isIllegal_14_24.2.1 12 = .ok ((.iload_n 3), 1)) ∧ (decode zy_isIllegal_14_24.2.1 13 = .ok ((.i2l), 1)) := by decide +kernel
theorem zd_14_24_0 : zz_D zy_isIllegal_14_24 0 (.aload_n 0) 1 1 := ⟨zg_14_24_0.1, rfl⟩
theorem zd_14_24_1 : zz_D zy_isIllegal_14_24 1 (.lload_n 1) 1 2 := ⟨zg_14_24_0.2.1, rfl⟩
theorem zd_14_24_2 : zz_D zy_isIllegal_14_24 2 (.invokevirtual 234) 3 5 := ⟨zg_14_24_0.2.2.1, rfl⟩
theorem zd_14_24_5 : zz_D zy_isIllegal_14_24 5 (.aload_n 0) 1 6 := ⟨zg_14_24_0.2.2.2.1, rfl⟩
theorem zd_14_24_6 : zz_D zy_isIllegal_14_24 6 (.getfield 36) 3 9 := ⟨zg_14_24_0.2.2.2.2.1, rfl⟩
theorem zd_14_24_9 : zz_D zy_isIllegal_14_24 9 (.iconst 0) 1 10 := ⟨zg_14_24_0.2.2.2.2.2.1, rfl⟩
theorem zd_14_24_10 : zz_D zy_isIllegal_14_24 10 (.iaload) 1 11 := ⟨zg_14_24_0.2.2.2.2.2.2.1, rfl⟩
theorem zd_14_24_11 : zz_D zy_isIllegal_14_24 11 (.istore_n 3) 1 12 := ⟨zg_14_24_0.2.2.2.2.2.2.2.1, rfl⟩
theorem zd_14_24_12 : zz_D zy_isIllegal_14_24 12 (.iload_n 3) 1 13 := ⟨zg_14_24_0.2.2.2.2.2.2.2.2.1, rfl⟩
theorem zd_14_24_13 : zz_D zy_isIllegal_14_24 13 (.i2l) 1 14 := ⟨zg_14_24_0.2.2.2.2.2.2.2.2.2, rfl⟩
theorem zg_14_24_14 : (decode zy_isIllegal_14_24.2.1 14 = .ok ((.lconst 1), 1)) ∧ (decode zy_isIllegal_14_24.2.1 15 = .ok ((.ldc2_w 238), 3)) ∧ (decode zy_isIllegal_14_24.2.1 18 = .ok ((.invokestatic 192), 3)) ∧ (decode zy_isIllegal_14_24.2.1 21 = .ok ((Instr.ifCond .ne) 5, 3)) ∧ (decode zy_isIllegal_14_24.2.1 24 = .ok ((.iconst 1), 1)) ∧ (decode zy_isIllegal_14_24.2.1 25 = .ok ((.ireturn), 1)) ∧ (decode zy_isIllegal_14_24.2.1 26 = .ok ((.iload_n 3), 1)) ∧ (decode zy_isIllegal_14_24.2.1 27 = .ok ((.bipush 9), 2)) ∧ (decode zy_isIllegal_14_24.2.1 29 = .ok ((Instr.if_icmp .ne) 42, 3)) ∧ (decode zy_isIllegal_14_24.2.1 71 = .ok ((.aload_n 0), 1)) := by decide +kernel
theorem zd_14_24_14 : zz_D zy_isIllegal_14_24 14 (.lconst 1) 1 15 := ⟨zg_14_24_14.1, rfl⟩
theorem zd_14_24_15 : zz_D zy_isIllegal_14_24 15 (.ldc2_w 238) 3 18 := ⟨zg_14_24_14.2.1, rfl⟩
theorem zd_14_24_18 : zz_D zy_isIllegal_14_24 18 (.invokestatic 192) 3 21 := ⟨zg_14_24_14.2.2.1, rfl⟩
theorem zd_14_24_21 : zz_B zy_isIllegal_14_24 21 (Instr.ifCond .ne) 26 24 := ⟨5, zg_14_24_14.2.2.2.1, rfl, rfl⟩
theorem zd_14_24_24 : zz_D zy_isIllegal_14_24 24 (.iconst 1) 1 25 := ⟨zg_14_24_14.2.2.2.2.1, rfl⟩
theorem zd_14_24_25 : zz_D zy_isIllegal_14_24 25 (.ireturn) 1 26 := ⟨zg_14_24_14.2.2.2.2.2.1, rfl⟩
theorem zd_14_24_26 : zz_D zy_isIllegal_14_24 26 (.iload_n 3) 1 27 := ⟨zg_14_24_14.2.2.2.2.2.2.1, rfl⟩
theorem zd_14_24_27 : zz_D zy_isIllegal_14_24 27 (.bipush 9) 2 29 := ⟨zg_14_24_14.2.2.2.2.2.2.2.1, rfl⟩
theorem zd_14_24_29 : zz_B zy_isIllegal_14_24 29 (Instr.if_icmp .ne) 71 32 := ⟨42, zg_14_24_14.2.2.2.2.2.2.2.2.1, rfl, rfl⟩
theorem zd_14_24_71 : zz_D zy_isIllegal_14_24 71 (.aload_n 0) 1 72 := ⟨zg_14_24_14.2.2.2.2.2.2.2.2.2, rfl⟩
theorem zg_14_24_72 : (decode zy_isIllegal_14_24.2.1 72 = .ok ((.getfield 36), 3)) ∧ (decode zy_isIllegal_14_24.2.1 75 = .ok ((.bipush 6), 2)) ∧ (decode zy_isIllegal_14_24.2.1 77 = .ok ((.iaload), 1)) ∧ (decode zy_isIllegal_14_24.2.1 78 = .ok ((Instr.ifCond .eq) 27, 3)) ∧ (decode zy_isIllegal_14_24.2.1 105 = .ok ((.iconst 1), 1)) ∧ (decode zy_isIllegal_14_24.2.1 106 = .ok (Instr.goto 4, 3)) ∧ (decode zy_isIllegal_14_24.2.1 110 = .ok ((.istore 4), 2)) ∧ (decode zy_isIllegal_14_24.2.1 112 = .ok ((.iconst 5), 1)) ∧ (decode zy_isIllegal_14_24.2.1 113 = .ok ((.istore 5), 2)) ∧ (decode zy_isIllegal_14_24.2.1 81 = .ok ((.aload_n 0), 1)) := by decide +kernel
theorem zd_14_24_72 : zz_D zy_isIllegal_14_24 72 (.getfield 36) 3 75 := ⟨zg_14_24_72.1, rfl⟩
theorem zd_14_24_75 : zz_D zy_isIllegal_14_24 75 (.bipush 6) 2 77 := ⟨zg_14_24_72.2.1, rfl⟩
theorem zd_14_24_77 : zz_D zy_isIllegal_14_24 77 (.iaload) 1 78 := ⟨zg_14_24_72.2.2.1, rfl⟩
theorem zd_14_24_78 : zz_B zy_isIllegal_14_24 78 (Instr.ifCond .eq) 105 81 := ⟨27, zg_14_24_72.2.2.2.1, rfl, rfl⟩
theorem zd_14_24_105 : zz_D zy_isIllegal_14_24 105 (.iconst 1) 1 106 := ⟨zg_14_24_72.2.2.2.2.1, rfl⟩
theorem zd_14_24_106 : zz_B zy_isIllegal_14_24 106 Instr.goto 110 109 := ⟨4, zg_14_24_72.2.2.2.2.2.1, rfl, rfl⟩
theorem zd_14_24_110 : zz_D zy_isIllegal_14_24 110 (.istore 4) 2 112 := ⟨zg_14_24_72.2.2.2.2.2.2.1, rfl⟩
theorem zd_14_24_112 : zz_D zy_isIllegal_14_24 112 (.iconst 5) 1 113 := ⟨zg_14_24_72.2.2.2.2.2.2.2.1, rfl⟩
theorem zd_14_24_113 : zz_D zy_isIllegal_14_24 113 (.istore 5) 2 115 := ⟨zg_14_24_72.2.2.2.2.2.2.2.2.1, rfl⟩
theorem zd_14_24_81 : zz_D zy_isIllegal_14_24 81 (.aload_n 0) 1 82 := ⟨zg_14_24_72.2.2.2.2.2.2.2.2.2, rfl⟩
theorem zg_14_24_82 : (decode zy_isIllegal_14_24.2.1 82 = .ok ((.getfield 36), 3)) ∧ (decode zy_isIllegal_14_24.2.1 85 = .ok ((.bipush 7), 2)) ∧ (decode zy_isIllegal_14_24.2.1 87 = .ok ((.iaload), 1)) ∧ (decode zy_isIllegal_14_24.2.1 88 = .ok ((Instr.ifCond .eq) 17, 3)) ∧ (decode zy_isIllegal_14_24.2.1 91 = .ok ((.aload_n 0), 1)) ∧ (decode zy_isIllegal_14_24.2.1 92 = .ok ((.getfield 36), 3)) ∧ (decode zy_isIllegal_14_24.2.1 95 = .ok ((.bipush 7), 2)) ∧ (decode zy_isIllegal_14_24.2.1 97 = .ok ((.iaload), 1)) ∧ (decode zy_isIllegal_14_24.2.1 98 = .ok ((.aload_n 0), 1)) ∧ (decode zy_isIllegal_14_24.2.1 99 = .ok ((.getfield 7), 3)) := by decide +kernel
theorem zd_14_24_82 : zz_D zy_isIllegal_14_24 82 (.getfield 36) 3 85 := ⟨zg_14_24_82.1, rfl⟩
theorem zd_14_24_85 : zz_D zy_isIllegal_14_24 85 (.bipush 7) 2 87 := ⟨zg_14_24_82.2.1, rfl⟩
theorem zd_14_24_87 : zz_D zy_isIllegal_14_24 87 (.iaload) 1 88 := ⟨zg_14_24_82.2.2.1, rfl⟩
theorem zd_14_24_88 : zz_B zy_isIllegal_14_24 88 (Instr.ifCond .eq) 105 91 := ⟨17, zg_14_24_82.2.2.2.1, rfl, rfl⟩
theorem zd_14_24_91 : zz_D zy_isIllegal_14_24 91 (.aload_n 0) 1 92 := ⟨zg_14_24_82.2.2.2.2.1, rfl⟩
theorem zd_14_24_92 : zz_D zy_isIllegal_14_24 92 (.getfield 36) 3 95 := ⟨zg_14_24_82.2.2.2.2.2.1, rfl⟩
theorem zd_14_24_95 : zz_D zy_isIllegal_14_24 95 (.bipush 7) 2 97 := ⟨zg_14_24_82.2.2.2.2.2.2.1, rfl⟩
theorem zd_14_24_97 : zz_D zy_isIllegal_14_24 97 (.iaload) 1 98 := ⟨zg_14_24_82.2.2.2.2.2.2.2.1, rfl⟩
theorem zd_14_24_98 : zz_D zy_isIllegal_14_24 98 (.aload_n 0) 1 99 := ⟨zg_14_24_82.2.2.2.2.2.2.2.2.1, rfl⟩
theorem zd_14_24_99 : zz_D zy_isIllegal_14_24 99 (.getfield 7) 3 102 := ⟨zg_14_24_82.2.2.2.2.2.2.2.2.2, rfl⟩
theorem zg_14_24_102 : (decode zy_isIllegal_14_24.2.1 102 = .ok ((Instr.if_icmp .le) 7, 3)) ∧ (decode zy_isIllegal_14_24.2.1 109 = .ok ((.iconst 0), 1)) ∧ (decode zy_isIllegal_14_24.2.1 32 = .ok ((.aload_n 0), 1)) ∧ (decode zy_isIllegal_14_24.2.1 33 = .ok ((.getfield 36), 3)) ∧ (decode zy_isIllegal_14_24.2.1 36 = .ok ((.bipush 6), 2)) ∧ (decode zy_isIllegal_14_24.2.1 38 = .ok ((.iaload), 1)) ∧ (decode zy_isIllegal_14_24.2.1 39 = .ok ((Instr.ifCond .gt) 24, 3)) ∧ (decode zy_isIllegal_14_24.2.1 63 = .ok ((.iconst 1), 1)) ∧ (decode zy_isIllegal_14_24.2.1 64 = .ok (Instr.goto 46, 3)) ∧ (decode zy_isIllegal_14_24.2.1 42 = .ok ((.aload_n 0), 1)) := by decide +kernel
theorem zd_14_24_102 : zz_B zy_isIllegal_14_24 102 (Instr.if_icmp .le) 109 105 := ⟨7, zg_14_24_102.1, rfl, rfl⟩
theorem zd_14_24_109 : zz_D zy_isIllegal_14_24 109 (.iconst 0) 1 110 := ⟨zg_14_24_102.2.1, rfl⟩
theorem zd_14_24_32 : zz_D zy_isIllegal_14_24 32 (.aload_n 0) 1 33 := ⟨zg_14_24_102.2.2.1, rfl⟩
theorem zd_14_24_33 : zz_D zy_isIllegal_14_24 33 (.getfield 36) 3 36 := ⟨zg_14_24_102.2.2.2.1, rfl⟩
theorem zd_14_24_36 : zz_D zy_isIllegal_14_24 36 (.bipush 6) 2 38 := ⟨zg_14_24_102.2.2.2.2.1, rfl⟩
theorem zd_14_24_38 : zz_D zy_isIllegal_14_24 38 (.iaload) 1 39 := ⟨zg_14_24_102.2.2.2.2.2.1, rfl⟩
theorem zd_14_24_39 : zz_B zy_isIllegal_14_24 39 (Instr.ifCond .gt) 63 42 := ⟨24, zg_14_24_102.2.2.2.2.2.2.1, rfl, rfl⟩
theorem zd_14_24_63 : zz_D zy_isIllegal_14_24 63 (.iconst 1) 1 64 := ⟨zg_14_24_102.2.2.2.2.2.2.2.1, rfl⟩
theorem zd_14_24_64 : zz_B zy_isIllegal_14_24 64 Instr.goto 110 67 := ⟨46, zg_14_24_102.2.2.2.2.2.2.2.2.1, rfl, rfl⟩
theorem zd_14_24_42 : zz_D zy_isIllegal_14_24 42 (.aload_n 0) 1 43 := ⟨zg_14_24_102.2.2.2.2.2.2.2.2.2, rfl⟩
theorem zg_14_24_43 : (decode zy_isIllegal_14_24.2.1 43 = .ok ((.getfield 36), 3)) ∧ (decode zy_isIllegal_14_24.2.1 46 = .ok ((.bipush 7), 2)) ∧ (decode zy_isIllegal_14_24.2.1 48 = .ok ((.iaload), 1)) ∧ (decode zy_isIllegal_14_24.2.1 49 = .ok ((Instr.ifCond .gt) 14, 3)) ∧ (decode zy_isIllegal_14_24.2.1 52 = .ok ((.aload_n 0), 1)) ∧ (decode zy_isIllegal_14_24.2.1 53 = .ok ((.getfield 36), 3)) ∧ (decode zy_isIllegal_14_24.2.1 56 = .ok ((.bipush 11), 2)) ∧ (decode zy_isIllegal_14_24.2.1 58 = .ok ((.iaload), 1)) ∧ (decode zy_isIllegal_14_24.2.1 59 = .ok ((.iconst 2), 1)) ∧ (decode zy_isIllegal_14_24.2.1 60 = .ok ((Instr.if_icmp .le) 7, 3)) := by decide +kernel
theorem zd_14_24_43 : zz_D zy_isIllegal_14_24 43 (.getfield 36) 3 46 := ⟨zg_14_24_43.1, rfl⟩
theorem zd_14_24_46 : zz_D zy_isIllegal_14_24 46 (.bipush 7) 2 48 := ⟨zg_14_24_43.2.1, rfl⟩
theorem zd_14_24_48 : zz_D zy_isIllegal_14_24 48 (.iaload) 1 49 := ⟨zg_14_24_43.2.2.1, rfl⟩
theorem zd_14_24_49 : zz_B zy_isIllegal_14_24 49 (Instr.ifCond .gt) 63 52 := ⟨14, zg_14_24_43.2.2.2.1, rfl, rfl⟩
theorem zd_14_24_52 : zz_D zy_isIllegal_14_24 52 (.aload_n 0) 1 53 := ⟨zg_14_24_43.2.2.2.2.1, rfl⟩
theorem zd_14_24_53 : zz_D zy_isIllegal_14_24 53 (.getfield 36) 3 56 := ⟨zg_14_24_43.2.2.2.2.2.1, rfl⟩
theorem zd_14_24_56 : zz_D zy_isIllegal_14_24 56 (.bipush 11) 2 58 := ⟨zg_14_24_43.2.2.2.2.2.2.1, rfl⟩
theorem zd_14_24_58 : zz_D zy_isIllegal_14_24 58 (.iaload) 1 59 := ⟨zg_14_24_43.2.2.2.2.2.2.2.1, rfl⟩
theorem zd_14_24_59 : zz_D zy_isIllegal_14_24 59 (.iconst 2) 1 60 := ⟨zg_14_24_43.2.2.2.2.2.2.2.2.1, rfl⟩
theorem zd_14_24_60 : zz_B zy_isIllegal_14_24 60 (Instr.if_icmp .le) 67 63 := ⟨7, zg_14_24_43.2.2.2.2.2.2.2.2.2, rfl, rfl⟩
theorem zg_14_24_67 : (decode zy_isIllegal_14_24.2.1 67 = .ok ((.iconst 0), 1)) ∧ (decode zy_isIllegal_14_24.2.1 68 = .ok (Instr.goto 42, 3)) ∧ (decode zy_isIllegal_14_24.2.1 115 = .ok ((.iload 5), 2)) ∧ (decode zy_isIllegal_14_24.2.1 117 = .ok ((.bipush 12), 2)) ∧ (decode zy_isIllegal_14_24.2.1 119 = .ok ((Instr.if_icmp .ge) 54, 3)) ∧ (decode zy_isIllegal_14_24.2.1 122 = .ok ((.iload 4), 2)) ∧ (decode zy_isIllegal_14_24.2.1 124 = .ok ((Instr.ifCond .ne) 36, 3)) ∧ (decode zy_isIllegal_14_24.2.1 160 = .ok ((.iconst 1), 1)) ∧ (decode zy_isIllegal_14_24.2.1 161 = .ok (Instr.goto 4, 3)) ∧ (decode zy_isIllegal_14_24.2.1 165 = .ok ((.istore 4), 2)) := by decide +kernel
theorem zd_14_24_67 : zz_D zy_isIllegal_14_24 67 (.iconst 0) 1 68 := ⟨zg_14_24_67.1, rfl⟩
theorem zd_14_24_68 : zz_B zy_isIllegal_14_24 68 Instr.goto 110 71 := ⟨42, zg_14_24_67.2.1, rfl, rfl⟩
theorem zd_14_24_115 : zz_D zy_isIllegal_14_24 115 (.iload 5) 2 117 := ⟨zg_14_24_67.2.2.1, rfl⟩
theorem zd_14_24_117 : zz_D zy_isIllegal_14_24 117 (.bipush 12) 2 119 := ⟨zg_14_24_67.2.2.2.1, rfl⟩
theorem zd_14_24_119 : zz_B zy_isIllegal_14_24 119 (Instr.if_icmp .ge) 173 122 := ⟨54, zg_14_24_67.2.2.2.2.1, rfl, rfl⟩
theorem zd_14_24_122 : zz_D zy_isIllegal_14_24 122 (.iload 4) 2 124 := ⟨zg_14_24_67.2.2.2.2.2.1, rfl⟩
theorem zd_14_24_124 : zz_B zy_isIllegal_14_24 124 (Instr.ifCond .ne) 160 127 := ⟨36, zg_14_24_67.2.2.2.2.2.2.1, rfl, rfl⟩
theorem zd_14_24_160 : zz_D zy_isIllegal_14_24 160 (.iconst 1) 1 161 := ⟨zg_14_24_67.2.2.2.2.2.2.2.1, rfl⟩
theorem zd_14_24_161 : zz_B zy_isIllegal_14_24 161 Instr.goto 165 164 := ⟨4, zg_14_24_67.2.2.2.2.2.2.2.2.1, rfl, rfl⟩
theorem zd_14_24_165 : zz_D zy_isIllegal_14_24 165 (.istore 4) 2 167 := ⟨zg_14_24_67.2.2.2.2.2.2.2.2.2, rfl⟩
theorem zg_14_24_167 : (decode zy_isIllegal_14_24.2.1 167 = .ok ((.iinc 5 1), 3)) ∧ (decode zy_isIllegal_14_24.2.1 170 = .ok (Instr.goto (-55), 3)) ∧ (decode zy_isIllegal_14_24.2.1 127 = .ok ((.iload 5), 2)) ∧ (decode zy_isIllegal_14_24.2.1 129 = .ok ((.bipush 6), 2)) ∧ (decode zy_isIllegal_14_24.2.1 131 = .ok ((Instr.if_icmp .eq) 33, 3)) ∧ (decode zy_isIllegal_14_24.2.1 134 = .ok ((.iload 5), 2)) ∧ (decode zy_isIllegal_14_24.2.1 136 = .ok ((.bipush 7), 2)) ∧ (decode zy_isIllegal_14_24.2.1 138 = .ok ((Instr.if_icmp .eq) 26, 3)) ∧ (decode zy_isIllegal_14_24.2.1 141 = .ok ((.iload_n 3), 1)) ∧ (decode zy_isIllegal_14_24.2.1 142 = .ok ((.iload 5), 2)) := by decide +kernel
theorem zd_14_24_167 : zz_D zy_isIllegal_14_24 167 (.iinc 5 1) 3 170 := ⟨zg_14_24_167.1, rfl⟩
theorem zd_14_24_170 : zz_B zy_isIllegal_14_24 170 Instr.goto 115 173 := ⟨(-55), zg_14_24_167.2.1, rfl, rfl⟩
theorem zd_14_24_127 : zz_D zy_isIllegal_14_24 127 (.iload 5) 2 129 := ⟨zg_14_24_167.2.2.1, rfl⟩
theorem zd_14_24_129 : zz_D zy_isIllegal_14_24 129 (.bipush 6) 2 131 := ⟨zg_14_24_167.2.2.2.1, rfl⟩
theorem zd_14_24_131 : zz_B zy_isIllegal_14_24 131 (Instr.if_icmp .eq) 164 134 := ⟨33, zg_14_24_167.2.2.2.2.1, rfl, rfl⟩
theorem zd_14_24_134 : zz_D zy_isIllegal_14_24 134 (.iload 5) 2 136 := ⟨zg_14_24_167.2.2.2.2.2.1, rfl⟩
theorem zd_14_24_136 : zz_D zy_isIllegal_14_24 136 (.bipush 7) 2 138 := ⟨zg_14_24_167.2.2.2.2.2.2.1, rfl⟩
theorem zd_14_24_138 : zz_B zy_isIllegal_14_24 138 (Instr.if_icmp .eq) 164 141 := ⟨26, zg_14_24_167.2.2.2.2.2.2.2.1, rfl, rfl⟩
theorem zd_14_24_141 : zz_D zy_isIllegal_14_24 141 (.iload_n 3) 1 142 := ⟨zg_14_24_167.2.2.2.2.2.2.2.2.1, rfl⟩
theorem zd_14_24_142 : zz_D zy_isIllegal_14_24 142 (.iload 5) 2 144 := ⟨zg_14_24_167.2.2.2.2.2.2.2.2.2, rfl⟩
theorem zg_14_24_144 : (decode zy_isIllegal_14_24.2.1 144 = .ok ((.invokestatic 240), 3)) ∧ (decode zy_isIllegal_14_24.2.1 147 = .ok ((Instr.ifCond .ne) 17, 3)) ∧ (decode zy_isIllegal_14_24.2.1 150 = .ok ((.aload_n 0), 1)) ∧ (decode zy_isIllegal_14_24.2.1 151 = .ok ((.getfield 36), 3)) ∧ (decode zy_isIllegal_14_24.2.1 154 = .ok ((.iload 5), 2)) ∧ (decode zy_isIllegal_14_24.2.1 156 = .ok ((.iaload), 1)) ∧ (decode zy_isIllegal_14_24.2.1 157 = .ok ((Instr.ifCond .eq) 7, 3)) ∧ (decode zy_isIllegal_14_24.2.1 164 = .ok ((.iconst 0), 1)) ∧ (decode zy_isIllegal_14_24.2.1 173 = .ok ((.iload 4), 2)) ∧ (decode zy_isIllegal_14_24.2.1 175 = .ok ((Instr.ifCond .ne) 47, 3)) := by decide +kernel
theorem zd_14_24_144 : zz_D zy_isIllegal_14_24 144 (.invokestatic 240) 3 147 := ⟨zg_14_24_144.1, rfl⟩
theorem zd_14_24_147 : zz_B zy_isIllegal_14_24 147 (Instr.ifCond .ne) 164 150 := ⟨17, zg_14_24_144.2.1, rfl, rfl⟩
theorem zd_14_24_150 : zz_D zy_isIllegal_14_24 150 (.aload_n 0) 1 151 := ⟨zg_14_24_144.2.2.1, rfl⟩
theorem zd_14_24_151 : zz_D zy_isIllegal_14_24 151 (.getfield 36) 3 154 := ⟨zg_14_24_144.2.2.2.1, rfl⟩
theorem zd_14_24_154 : zz_D zy_isIllegal_14_24 154 (.iload 5) 2 156 := ⟨zg_14_24_144.2.2.2.2.1, rfl⟩
theorem zd_14_24_156 : zz_D zy_isIllegal_14_24 156 (.iaload) 1 157 := ⟨zg_14_24_144.2.2.2.2.2.1, rfl⟩
theorem zd_14_24_157 : zz_B zy_isIllegal_14_24 157 (Instr.ifCond .eq) 164 160 := ⟨7, zg_14_24_144.2.2.2.2.2.2.1, rfl, rfl⟩
theorem zd_14_24_164 : zz_D zy_isIllegal_14_24 164 (.iconst 0) 1 165 := ⟨zg_14_24_144.2.2.2.2.2.2.2.1, rfl⟩
theorem zd_14_24_173 : zz_D zy_isIllegal_14_24 173 (.iload 4) 2 175 := ⟨zg_14_24_144.2.2.2.2.2.2.2.2.1, rfl⟩
theorem zd_14_24_175 : zz_B zy_isIllegal_14_24 175 (Instr.ifCond .ne) 222 178 := ⟨47, zg_14_24_144.2.2.2.2.2.2.2.2.2, rfl, rfl⟩
theorem zg_14_24_222 : (decode zy_isIllegal_14_24.2.1 222 = .ok ((.iconst 1), 1)) ∧ (decode zy_isIllegal_14_24.2.1 223 = .ok (Instr.goto 4, 3)) ∧ (decode zy_isIllegal_14_24.2.1 227 = .ok ((.istore 4), 2)) ∧ (decode zy_isIllegal_14_24.2.1 229 = .ok ((.iload 4), 2)) ∧ (decode zy_isIllegal_14_24.2.1 231 = .ok ((Instr.ifCond .eq) 5, 3)) ∧ (decode zy_isIllegal_14_24.2.1 234 = .ok ((.iconst 1), 1)) ∧ (decode zy_isIllegal_14_24.2.1 235 = .ok ((.ireturn), 1)) ∧ (decode zy_isIllegal_14_24.2.1 178 = .ok ((.iload_n 3), 1)) ∧ (decode zy_isIllegal_14_24.2.1 179 = .ok ((.iconst 5), 1)) ∧ (decode zy_isIllegal_14_24.2.1 180 = .ok ((Instr.if_icmp .ne) 25, 3)) := by decide +kernel
theorem zd_14_24_222 : zz_D zy_isIllegal_14_24 222 (.iconst 1) 1 223 := ⟨zg_14_24_222.1, rfl⟩
theorem zd_14_24_223 : zz_B zy_isIllegal_14_24 223 Instr.goto 227 226 := ⟨4, zg_14_24_222.2.1, rfl, rfl⟩
theorem zd_14_24_227 : zz_D zy_isIllegal_14_24 227 (.istore 4) 2 229 := ⟨zg_14_24_222.2.2.1, rfl⟩
theorem zd_14_24_229 : zz_D zy_isIllegal_14_24 229 (.iload 4) 2 231 := ⟨zg_14_24_222.2.2.2.1, rfl⟩
theorem zd_14_24_231 : zz_B zy_isIllegal_14_24 231 (Instr.ifCond .eq) 236 234 := ⟨5, zg_14_24_222.2.2.2.2.1, rfl, rfl⟩
theorem zd_14_24_234 : zz_D zy_isIllegal_14_24 234 (.iconst 1) 1 235 := ⟨zg_14_24_222.2.2.2.2.2.1, rfl⟩
theorem zd_14_24_235 : zz_D zy_isIllegal_14_24 235 (.ireturn) 1 236 := ⟨zg_14_24_222.2.2.2.2.2.2.1, rfl⟩
theorem zd_14_24_178 : zz_D zy_isIllegal_14_24 178 (.iload_n 3) 1 179 := ⟨zg_14_24_222.2.2.2.2.2.2.2.1, rfl⟩
theorem zd_14_24_179 : zz_D zy_isIllegal_14_24 179 (.iconst 5) 1 180 := ⟨zg_14_24_222.2.2.2.2.2.2.2.2.1, rfl⟩
theorem zd_14_24_180 : zz_B zy_isIllegal_14_24 180 (Instr.if_icmp .ne) 205 183 := ⟨25, zg_14_24_222.2.2.2.2.2.2.2.2.2, rfl, rfl⟩
theorem zg_14_24_205 : (decode zy_isIllegal_14_24.2.1 205 = .ok ((.iload_n 3), 1)) ∧ (decode zy_isIllegal_14_24.2.1 206 = .ok ((.bipush 6), 2)) ∧ (decode zy_isIllegal_14_24.2.1 208 = .ok ((Instr.if_icmp .ne) 18, 3)) ∧ (decode zy_isIllegal_14_24.2.1 226 = .ok ((.iconst 0), 1)) ∧ (decode zy_isIllegal_14_24.2.1 236 = .ok ((.aload_n 0), 1)) ∧ (decode zy_isIllegal_14_24.2.1 237 = .ok ((.invokevirtual 243), 3)) ∧ (decode zy_isIllegal_14_24.2.1 240 = .ok ((.istore 5), 2)) ∧ (decode zy_isIllegal_14_24.2.1 242 = .ok ((.iload 5), 2)) ∧ (decode zy_isIllegal_14_24.2.1 244 = .ok ((Instr.ifCond .ne) 21, 3)) ∧ (decode zy_isIllegal_14_24.2.1 265 = .ok ((.iload 5), 2)) := by decide +kernel
theorem zd_14_24_205 : zz_D zy_isIllegal_14_24 205 (.iload_n 3) 1 206 := ⟨zg_14_24_205.1, rfl⟩
theorem zd_14_24_206 : zz_D zy_isIllegal_14_24 206 (.bipush 6) 2 208 := ⟨zg_14_24_205.2.1, rfl⟩
theorem zd_14_24_208 : zz_B zy_isIllegal_14_24 208 (Instr.if_icmp .ne) 226 211 := ⟨18, zg_14_24_205.2.2.1, rfl, rfl⟩
theorem zd_14_24_226 : zz_D zy_isIllegal_14_24 226 (.iconst 0) 1 227 := ⟨zg_14_24_205.2.2.2.1, rfl⟩
theorem zd_14_24_236 : zz_D zy_isIllegal_14_24 236 (.aload_n 0) 1 237 := ⟨zg_14_24_205.2.2.2.2.1, rfl⟩
theorem zd_14_24_237 : zz_D zy_isIllegal_14_24 237 (.invokevirtual 243) 3 240 := ⟨zg_14_24_205.2.2.2.2.2.1, rfl⟩
theorem zd_14_24_240 : zz_D zy_isIllegal_14_24 240 (.istore 5) 2 242 := ⟨zg_14_24_205.2.2.2.2.2.2.1, rfl⟩
theorem zd_14_24_242 : zz_D zy_isIllegal_14_24 242 (.iload 5) 2 244 := ⟨zg_14_24_205.2.2.2.2.2.2.2.1, rfl⟩
theorem zd_14_24_244 : zz_B zy_isIllegal_14_24 244 (Instr.ifCond .ne) 265 247 := ⟨21, zg_14_24_205.2.2.2.2.2.2.2.2.1, rfl, rfl⟩
theorem zd_14_24_265 : zz_D zy_isIllegal_14_24 265 (.iload 5) 2 267 := ⟨zg_14_24_205.2.2.2.2.2.2.2.2.2, rfl⟩
theorem zg_14_24_267 : (decode zy_isIllegal_14_24.2.1 267 = .ok ((.iconst 2), 1)) ∧ (decode zy_isIllegal_14_24.2.1 268 = .ok ((Instr.if_icmp .ne) 25, 3)) ∧ (decode zy_isIllegal_14_24.2.1 293 = .ok ((.iconst 0), 1)) ∧ (decode zy_isIllegal_14_24.2.1 294 = .ok ((.istore 4), 2)) ∧ (decode zy_isIllegal_14_24.2.1 271 = .ok ((.aload_n 0), 1)) ∧ (decode zy_isIllegal_14_24.2.1 272 = .ok ((.getfield 36), 3)) ∧ (decode zy_isIllegal_14_24.2.1 275 = .ok ((.iconst 2), 1)) ∧ (decode zy_isIllegal_14_24.2.1 276 = .ok ((.iaload), 1)) ∧ (decode zy_isIllegal_14_24.2.1 277 = .ok ((Instr.ifCond .gt) 12, 3)) ∧ (decode zy_isIllegal_14_24.2.1 289 = .ok ((.iconst 1), 1)) := by decide +kernel
theorem zd_14_24_267 : zz_D zy_isIllegal_14_24 267 (.iconst 2) 1 268 := ⟨zg_14_24_267.1, rfl⟩
theorem zd_14_24_268 : zz_B zy_isIllegal_14_24 268 (Instr.if_icmp .ne) 293 271 := ⟨25, zg_14_24_267.2.1, rfl, rfl⟩
theorem zd_14_24_293 : zz_D zy_isIllegal_14_24 293 (.iconst 0) 1 294 := ⟨zg_14_24_267.2.2.1, rfl⟩
theorem zd_14_24_294 : zz_D zy_isIllegal_14_24 294 (.istore 4) 2 296 := ⟨zg_14_24_267.2.2.2.1, rfl⟩
theorem zd_14_24_271 : zz_D zy_isIllegal_14_24 271 (.aload_n 0) 1 272 := ⟨zg_14_24_267.2.2.2.2.1, rfl⟩
theorem zd_14_24_272 : zz_D zy_isIllegal_14_24 272 (.getfield 36) 3 275 := ⟨zg_14_24_267.2.2.2.2.2.1, rfl⟩
theorem zd_14_24_275 : zz_D zy_isIllegal_14_24 275 (.iconst 2) 1 276 := ⟨zg_14_24_267.2.2.2.2.2.2.1, rfl⟩
theorem zd_14_24_276 : zz_D zy_isIllegal_14_24 276 (.iaload) 1 277 := ⟨zg_14_24_267.2.2.2.2.2.2.2.1, rfl⟩
theorem zd_14_24_277 : zz_B zy_isIllegal_14_24 277 (Instr.ifCond .gt) 289 280 := ⟨12, zg_14_24_267.2.2.2.2.2.2.2.2.1, rfl, rfl⟩
theorem zd_14_24_289 : zz_D zy_isIllegal_14_24 289 (.iconst 1) 1 290 := ⟨zg_14_24_267.2.2.2.2.2.2.2.2.2, rfl⟩
theorem zg_14_24_290 : (decode zy_isIllegal_14_24.2.1 290 = .ok (Instr.goto 4, 3)) ∧ (decode zy_isIllegal_14_24.2.1 280 = .ok ((.aload_n 0), 1)) ∧ (decode zy_isIllegal_14_24.2.1 281 = .ok ((.getfield 36), 3)) ∧ (decode zy_isIllegal_14_24.2.1 284 = .ok ((.iconst 4), 1)) ∧ (decode zy_isIllegal_14_24.2.1 285 = .ok ((.iaload), 1)) ∧ (decode zy_isIllegal_14_24.2.1 286 = .ok ((Instr.ifCond .le) 7, 3)) ∧ (decode zy_isIllegal_14_24.2.1 247 = .ok ((.aload_n 0), 1)) ∧ (decode zy_isIllegal_14_24.2.1 248 = .ok ((.getfield 36), 3)) ∧ (decode zy_isIllegal_14_24.2.1 251 = .ok ((.iconst 1), 1)) ∧ (decode zy_isIllegal_14_24.2.1 252 = .ok ((.iaload), 1)) := by decide +kernel
theorem zd_14_24_290 : zz_B zy_isIllegal_14_24 290 Instr.goto 294 293 := ⟨4, zg_14_24_290.1, rfl, rfl⟩
theorem zd_14_24_280 : zz_D zy_isIllegal_14_24 280 (.aload_n 0) 1 281 := ⟨zg_14_24_290.2.1, rfl⟩
theorem zd_14_24_281 : zz_D zy_isIllegal_14_24 281 (.getfield 36) 3 284 := ⟨zg_14_24_290.2.2.1, rfl⟩
theorem zd_14_24_284 : zz_D zy_isIllegal_14_24 284 (.iconst 4) 1 285 := ⟨zg_14_24_290.2.2.2.1, rfl⟩
theorem zd_14_24_285 : zz_D zy_isIllegal_14_24 285 (.iaload) 1 286 := ⟨zg_14_24_290.2.2.2.2.1, rfl⟩
theorem zd_14_24_286 : zz_B zy_isIllegal_14_24 286 (Instr.ifCond .le) 293 289 := ⟨7, zg_14_24_290.2.2.2.2.2.1, rfl, rfl⟩
theorem zd_14_24_247 : zz_D zy_isIllegal_14_24 247 (.aload_n 0) 1 248 := ⟨zg_14_24_290.2.2.2.2.2.2.1, rfl⟩
theorem zd_14_24_248 : zz_D zy_isIllegal_14_24 248 (.getfield 36) 3 251 := ⟨zg_14_24_290.2.2.2.2.2.2.2.1, rfl⟩
theorem zd_14_24_251 : zz_D zy_isIllegal_14_24 251 (.iconst 1) 1 252 := ⟨zg_14_24_290.2.2.2.2.2.2.2.2.1, rfl⟩
theorem zd_14_24_252 : zz_D zy_isIllegal_14_24 252 (.iaload) 1 253 := ⟨zg_14_24_290.2.2.2.2.2.2.2.2.2, rfl⟩
theorem zg_14_24_253 : (decode zy_isIllegal_14_24.2.1 253 = .ok ((Instr.ifCond .gt) 36, 3)) ∧ (decode zy_isIllegal_14_24.2.1 256 = .ok ((.aload_n 0), 1)) ∧ (decode zy_isIllegal_14_24.2.1 257 = .ok ((.getfield 36), 3)) ∧ (decode zy_isIllegal_14_24.2.1 260 = .ok ((.iconst 3), 1)) ∧ (decode zy_isIllegal_14_24.2.1 261 = .ok ((.iaload), 1)) ∧ (decode zy_isIllegal_14_24.2.1 262 = .ok ((Instr.ifCond .gt) 27, 3)) ∧ (decode zy_isIllegal_14_24.2.1 211 = .ok ((.aload_n 0), 1)) ∧ (decode zy_isIllegal_14_24.2.1 212 = .ok ((.getfield 36), 3)) ∧ (decode zy_isIllegal_14_24.2.1 215 = .ok ((.bipush 11), 2)) ∧ (decode zy_isIllegal_14_24.2.1 217 = .ok ((.iaload), 1)) := by decide +kernel
theorem zd_14_24_253 : zz_B zy_isIllegal_14_24 253 (Instr.ifCond .gt) 289 256 := ⟨36, zg_14_24_253.1, rfl, rfl⟩
theorem zd_14_24_256 : zz_D zy_isIllegal_14_24 256 (.aload_n 0) 1 257 := ⟨zg_14_24_253.2.1, rfl⟩
theorem zd_14_24_257 : zz_D zy_isIllegal_14_24 257 (.getfield 36) 3 260 := ⟨zg_14_24_253.2.2.1, rfl⟩
theorem zd_14_24_260 : zz_D zy_isIllegal_14_24 260 (.iconst 3) 1 261 := ⟨zg_14_24_253.2.2.2.1, rfl⟩
theorem zd_14_24_261 : zz_D zy_isIllegal_14_24 261 (.iaload) 1 262 := ⟨zg_14_24_253.2.2.2.2.1, rfl⟩
theorem zd_14_24_262 : zz_B zy_isIllegal_14_24 262 (Instr.ifCond .gt) 289 265 := ⟨27, zg_14_24_253.2.2.2.2.2.1, rfl, rfl⟩
theorem zd_14_24_211 : zz_D zy_isIllegal_14_24 211 (.aload_n 0) 1 212 := ⟨zg_14_24_253.2.2.2.2.2.2.1, rfl⟩
theorem zd_14_24_212 : zz_D zy_isIllegal_14_24 212 (.getfield 36) 3 215 := ⟨zg_14_24_253.2.2.2.2.2.2.2.1, rfl⟩
theorem zd_14_24_215 : zz_D zy_isIllegal_14_24 215 (.bipush 11) 2 217 := ⟨zg_14_24_253.2.2.2.2.2.2.2.2.1, rfl⟩
theorem zd_14_24_217 : zz_D zy_isIllegal_14_24 217 (.iaload) 1 218 := ⟨zg_14_24_253.2.2.2.2.2.2.2.2.2, rfl⟩
theorem zg_14_24_218 : (decode zy_isIllegal_14_24.2.1 218 = .ok ((.iconst 2), 1)) ∧ (decode zy_isIllegal_14_24.2.1 219 = .ok ((Instr.if_icmp .le) 7, 3)) ∧ (decode zy_isIllegal_14_24.2.1 183 = .ok ((.aload_n 0), 1)) ∧ (decode zy_isIllegal_14_24.2.1 184 = .ok ((.getfield 36), 3)) ∧ (decode zy_isIllegal_14_24.2.1 187 = .ok ((.bipush 11), 2)) ∧ (decode zy_isIllegal_14_24.2.1 189 = .ok ((.iaload), 1)) ∧ (decode zy_isIllegal_14_24.2.1 190 = .ok ((.iconst 2), 1)) ∧ (decode zy_isIllegal_14_24.2.1 191 = .ok ((.idiv), 1)) ∧ (decode zy_isIllegal_14_24.2.1 192 = .ok ((.i2l), 1)) ∧ (decode zy_isIllegal_14_24.2.1 193 = .ok ((.lconst 1), 1)) := by decide +kernel
theorem zd_14_24_218 : zz_D zy_isIllegal_14_24 218 (.iconst 2) 1 219 := ⟨zg_14_24_218.1, rfl⟩
theorem zd_14_24_219 : zz_B zy_isIllegal_14_24 219 (Instr.if_icmp .le) 226 222 := ⟨7, zg_14_24_218.2.1, rfl, rfl⟩
theorem zd_14_24_183 : zz_D zy_isIllegal_14_24 183 (.aload_n 0) 1 184 := ⟨zg_14_24_218.2.2.1, rfl⟩
theorem zd_14_24_184 : zz_D zy_isIllegal_14_24 184 (.getfield 36) 3 187 := ⟨zg_14_24_218.2.2.2.1, rfl⟩
theorem zd_14_24_187 : zz_D zy_isIllegal_14_24 187 (.bipush 11) 2 189 := ⟨zg_14_24_218.2.2.2.2.1, rfl⟩
theorem zd_14_24_189 : zz_D zy_isIllegal_14_24 189 (.iaload) 1 190 := ⟨zg_14_24_218.2.2.2.2.2.1, rfl⟩
theorem zd_14_24_190 : zz_D zy_isIllegal_14_24 190 (.iconst 2) 1 191 := ⟨zg_14_24_218.2.2.2.2.2.2.1, rfl⟩
theorem zd_14_24_191 : zz_D zy_isIllegal_14_24 191 (.idiv) 1 192 := ⟨zg_14_24_218.2.2.2.2.2.2.2.1, rfl⟩
theorem zd_14_24_192 : zz_D zy_isIllegal_14_24 192 (.i2l) 1 193 := ⟨zg_14_24_218.2.2.2.2.2.2.2.2.1, rfl⟩
theorem zd_14_24_193 : zz_D zy_isIllegal_14_24 193 (.lconst 1) 1 194 := ⟨zg_14_24_218.2.2.2.2.2.2.2.2.2, rfl⟩
theorem zg_14_24_194 : (decode zy_isIllegal_14_24.2.1 194 = .ok ((.aload_n 0), 1)) ∧ (decode zy_isIllegal_14_24.2.1 195 = .ok ((.getfield 7), 3)) ∧ (decode zy_isIllegal_14_24.2.1 198 = .ok ((.i2l), 1)) ∧ (decode zy_isIllegal_14_24.2.1 199 = .ok ((.invokestatic 192), 3)) ∧ (decode zy_isIllegal_14_24.2.1 202 = .ok ((Instr.ifCond .eq) 20, 3)) ∧ (decode zy_isIllegal_14_24.2.1 296 = .ok ((.aload_n 0), 1)) ∧ (decode zy_isIllegal_14_24.2.1 297 = .ok ((.invokevirtual 247), 3)) ∧ (decode zy_isIllegal_14_24.2.1 300 = .ok ((.iconst 0), 1)) ∧ (decode zy_isIllegal_14_24.2.1 301 = .ok ((.istore 6), 2)) ∧ (decode zy_isIllegal_14_24.2.1 303 = .ok ((.iload 6), 2)) := by decide +kernel
theorem zd_14_24_194 : zz_D zy_isIllegal_14_24 194 (.aload_n 0) 1 195 := ⟨zg_14_24_194.1, rfl⟩
theorem zd_14_24_195 : zz_D zy_isIllegal_14_24 195 (.getfield 7) 3 198 := ⟨zg_14_24_194.2.1, rfl⟩
theorem zd_14_24_198 : zz_D zy_isIllegal_14_24 198 (.i2l) 1 199 := ⟨zg_14_24_194.2.2.1, rfl⟩
theorem zd_14_24_199 : zz_D zy_isIllegal_14_24 199 (.invokestatic 192) 3 202 := ⟨zg_14_24_194.2.2.2.1, rfl⟩
theorem zd_14_24_202 : zz_B zy_isIllegal_14_24 202 (Instr.ifCond .eq) 222 205 := ⟨20, zg_14_24_194.2.2.2.2.1, rfl, rfl⟩
theorem zd_14_24_296 : zz_D zy_isIllegal_14_24 296 (.aload_n 0) 1 297 := ⟨zg_14_24_194.2.2.2.2.2.1, rfl⟩
theorem zd_14_24_297 : zz_D zy_isIllegal_14_24 297 (.invokevirtual 247) 3 300 := ⟨zg_14_24_194.2.2.2.2.2.2.1, rfl⟩
theorem zd_14_24_300 : zz_D zy_isIllegal_14_24 300 (.iconst 0) 1 301 := ⟨zg_14_24_194.2.2.2.2.2.2.2.1, rfl⟩
theorem zd_14_24_301 : zz_D zy_isIllegal_14_24 301 (.istore 6) 2 303 := ⟨zg_14_24_194.2.2.2.2.2.2.2.2.1, rfl⟩
theorem zd_14_24_303 : zz_D zy_isIllegal_14_24 303 (.iload 6) 2 305 := ⟨zg_14_24_194.2.2.2.2.2.2.2.2.2, rfl⟩
theorem zg_14_24_305 : (decode zy_isIllegal_14_24.2.1 305 = .ok ((.iconst 5), 1)) ∧ (decode zy_isIllegal_14_24.2.1 306 = .ok ((Instr.if_icmp .ge) 59, 3)) ∧ (decode zy_isIllegal_14_24.2.1 309 = .ok ((.iload 4), 2)) ∧ (decode zy_isIllegal_14_24.2.1 311 = .ok ((Instr.ifCond .ne) 41, 3)) ∧ (decode zy_isIllegal_14_24.2.1 352 = .ok ((.iconst 1), 1)) ∧ (decode zy_isIllegal_14_24.2.1 353 = .ok (Instr.goto 4, 3)) ∧ (decode zy_isIllegal_14_24.2.1 357 = .ok ((.istore 4), 2)) ∧ (decode zy_isIllegal_14_24.2.1 359 = .ok ((.iinc 6 1), 3)) ∧ (decode zy_isIllegal_14_24.2.1 362 = .ok (Instr.goto (-59), 3)) ∧ (decode zy_isIllegal_14_24.2.1 365 = .ok ((.iload 4), 2)) := by decide +kernel
theorem zd_14_24_305 : zz_D zy_isIllegal_14_24 305 (.iconst 5) 1 306 := ⟨zg_14_24_305.1, rfl⟩
theorem zd_14_24_306 : zz_B zy_isIllegal_14_24 306 (Instr.if_icmp .ge) 365 309 := ⟨59, zg_14_24_305.2.1, rfl, rfl⟩
theorem zd_14_24_309 : zz_D zy_isIllegal_14_24 309 (.iload 4) 2 311 := ⟨zg_14_24_305.2.2.1, rfl⟩
theorem zd_14_24_311 : zz_B zy_isIllegal_14_24 311 (Instr.ifCond .ne) 352 314 := ⟨41, zg_14_24_305.2.2.2.1, rfl, rfl⟩
theorem zd_14_24_352 : zz_D zy_isIllegal_14_24 352 (.iconst 1) 1 353 := ⟨zg_14_24_305.2.2.2.2.1, rfl⟩
theorem zd_14_24_353 : zz_B zy_isIllegal_14_24 353 Instr.goto 357 356 := ⟨4, zg_14_24_305.2.2.2.2.2.1, rfl, rfl⟩
theorem zd_14_24_357 : zz_D zy_isIllegal_14_24 357 (.istore 4) 2 359 := ⟨zg_14_24_305.2.2.2.2.2.2.1, rfl⟩
theorem zd_14_24_359 : zz_D zy_isIllegal_14_24 359 (.iinc 6 1) 3 362 := ⟨zg_14_24_305.2.2.2.2.2.2.2.1, rfl⟩
theorem zd_14_24_362 : zz_B zy_isIllegal_14_24 362 Instr.goto 303 365 := ⟨(-59), zg_14_24_305.2.2.2.2.2.2.2.2.1, rfl, rfl⟩
theorem zd_14_24_365 : zz_D zy_isIllegal_14_24 365 (.iload 4) 2 367 := ⟨zg_14_24_305.2.2.2.2.2.2.2.2.2, rfl⟩
theorem zg_14_24_367 : (decode zy_isIllegal_14_24.2.1 367 = .ok ((.ireturn), 1)) ∧ (decode zy_isIllegal_14_24.2.1 314 = .ok ((.aload_n 0), 1)) ∧ (decode zy_isIllegal_14_24.2.1 315 = .ok ((.getfield 39), 3)) ∧ (decode zy_isIllegal_14_24.2.1 318 = .ok ((.iconst 2), 1)) ∧ (decode zy_isIllegal_14_24.2.1 319 = .ok ((.iload 6), 2)) ∧ (decode zy_isIllegal_14_24.2.1 321 = .ok ((.imul), 1)) ∧ (decode zy_isIllegal_14_24.2.1 322 = .ok ((.iconst 1), 1)) ∧ (decode zy_isIllegal_14_24.2.1 323 = .ok ((.iadd), 1)) ∧ (decode zy_isIllegal_14_24.2.1 324 = .ok ((.iaload), 1)) ∧ (decode zy_isIllegal_14_24.2.1 325 = .ok ((.iload 6), 2)) := by decide +kernel
theorem zd_14_24_367 : zz_D zy_isIllegal_14_24 367 (.ireturn) 1 368 := ⟨zg_14_24_367.1, rfl⟩
theorem zd_14_24_314 : zz_D zy_isIllegal_14_24 314 (.aload_n 0) 1 315 := ⟨zg_14_24_367.2.1, rfl⟩
theorem zd_14_24_315 : zz_D zy_isIllegal_14_24 315 (.getfield 39) 3 318 := ⟨zg_14_24_367.2.2.1, rfl⟩
theorem zd_14_24_318 : zz_D zy_isIllegal_14_24 318 (.iconst 2) 1 319 := ⟨zg_14_24_367.2.2.2.1, rfl⟩
theorem zd_14_24_319 : zz_D zy_isIllegal_14_24 319 (.iload 6) 2 321 := ⟨zg_14_24_367.2.2.2.2.1, rfl⟩
theorem zd_14_24_321 : zz_D zy_isIllegal_14_24 321 (.imul) 1 322 := ⟨zg_14_24_367.2.2.2.2.2.1, rfl⟩
theorem zd_14_24_322 : zz_D zy_isIllegal_14_24 322 (.iconst 1) 1 323 := ⟨zg_14_24_367.2.2.2.2.2.2.1, rfl⟩
theorem zd_14_24_323 : zz_D zy_isIllegal_14_24 323 (.iadd) 1 324 := ⟨zg_14_24_367.2.2.2.2.2.2.2.1, rfl⟩
theorem zd_14_24_324 : zz_D zy_isIllegal_14_24 324 (.iaload) 1 325 := ⟨zg_14_24_367.2.2.2.2.2.2.2.2.1, rfl⟩
theorem zd_14_24_325 : zz_D zy_isIllegal_14_24 325 (.iload 6) 2 327 := ⟨zg_14_24_367.2.2.2.2.2.2.2.2.2, rfl⟩
theorem zg_14_24_327 : (decode zy_isIllegal_14_24.2.1 327 = .ok ((.invokestatic 212), 3)) ∧ (decode zy_isIllegal_14_24.2.1 330 = .ok ((Instr.if_icmp .ge) 22, 3)) ∧ (decode zy_isIllegal_14_24.2.1 333 = .ok ((.aload_n 0), 1)) ∧ (decode zy_isIllegal_14_24.2.1 334 = .ok ((.getfield 42), 3)) ∧ (decode zy_isIllegal_14_24.2.1 337 = .ok ((.iconst 2), 1)) ∧ (decode zy_isIllegal_14_24.2.1 338 = .ok ((.iload 6), 2)) ∧ (decode zy_isIllegal_14_24.2.1 340 = .ok ((.imul), 1)) ∧ (decode zy_isIllegal_14_24.2.1 341 = .ok ((.iconst 1), 1)) ∧ (decode zy_isIllegal_14_24.2.1 342 = .ok ((.iadd), 1)) ∧ (decode zy_isIllegal_14_24.2.1 343 = .ok ((.iaload), 1)) := by decide +kernel
theorem zd_14_24_327 : zz_D zy_isIllegal_14_24 327 (.invokestatic 212) 3 330 := ⟨zg_14_24_327.1, rfl⟩
theorem zd_14_24_330 : zz_B zy_isIllegal_14_24 330 (Instr.if_icmp .ge) 352 333 := ⟨22, zg_14_24_327.2.1, rfl, rfl⟩
theorem zd_14_24_333 : zz_D zy_isIllegal_14_24 333 (.aload_n 0) 1 334 := ⟨zg_14_24_327.2.2.1, rfl⟩
theorem zd_14_24_334 : zz_D zy_isIllegal_14_24 334 (.getfield 42) 3 337 := ⟨zg_14_24_327.2.2.2.1, rfl⟩
theorem zd_14_24_337 : zz_D zy_isIllegal_14_24 337 (.iconst 2) 1 338 := ⟨zg_14_24_327.2.2.2.2.1, rfl⟩
theorem zd_14_24_338 : zz_D zy_isIllegal_14_24 338 (.iload 6) 2 340 := ⟨zg_14_24_327.2.2.2.2.2.1, rfl⟩
theorem zd_14_24_340 : zz_D zy_isIllegal_14_24 340 (.imul) 1 341 := ⟨zg_14_24_327.2.2.2.2.2.2.1, rfl⟩
theorem zd_14_24_341 : zz_D zy_isIllegal_14_24 341 (.iconst 1) 1 342 := ⟨zg_14_24_327.2.2.2.2.2.2.2.1, rfl⟩
theorem zd_14_24_342 : zz_D zy_isIllegal_14_24 342 (.iadd) 1 343 := ⟨zg_14_24_327.2.2.2.2.2.2.2.2.1, rfl⟩
theorem zd_14_24_343 : zz_D zy_isIllegal_14_24 343 (.iaload) 1 344 := ⟨zg_14_24_327.2.2.2.2.2.2.2.2.2, rfl⟩
theorem zg_14_24_344 : (decode zy_isIllegal_14_24.2.1 344 = .ok ((.iload 6), 2)) ∧ (decode zy_isIllegal_14_24.2.1 346 = .ok ((.invokestatic 212), 3)) ∧ (decode zy_isIllegal_14_24.2.1 349 = .ok ((Instr.if_icmp .lt) 7, 3)) ∧ (decode zy_isIllegal_14_24.2.1 356 = .ok ((.iconst 0), 1)) := by decide +kernel
theorem zd_14_24_344 : zz_D zy_isIllegal_14_24 344 (.iload 6) 2 346 := ⟨zg_14_24_344.1, rfl⟩
theorem zd_14_24_346 : zz_D zy_isIllegal_14_24 346 (.invokestatic 212) 3 349 := ⟨zg_14_24_344.2.1, rfl⟩
theorem zd_14_24_349 : zz_B zy_isIllegal_14_24 349 (Instr.if_icmp .lt) 356 352 := ⟨7, zg_14_24_344.2.2.1, rfl, rfl⟩
theorem zd_14_24_356 : zz_D zy_isIllegal_14_24 356 (.iconst 0) 1 357 := ⟨zg_14_24_344.2.2.2, rfl⟩
-- TensorForgeModel isIllegal (J)Z
abbrev zr_isIllegal_14_24 : Room := { frames := 3, cells := 0, slots := 0, locals := 49 }
def zp_isIllegal_14_24 (p0 : Int) (S0 : zz_S) : Int → zz_S → Prop := fun r S => zz_G S ∧ zz_fr [(1087, 0), (1087, 1), (1087, 2), (1087, 3), (1087, 4), (1087, 5), (1087, 6), (1087, 7), (1087, 8), (1087, 9), (1087, 10), (1087, 11), (1088, 0), (1088, 1), (1088, 2), (1088, 3), (1088, 4), (1088, 5), (1088, 6), (1088, 7), (1088, 8), (1088, 9), (1089, 0), (1089, 1), (1089, 2), (1089, 3), (1089, 4), (1089, 5), (1089, 6), (1089, 7), (1089, 8), (1089, 9)] [] (fun _ _ => False) S0 S ∧ (0 ≤ r ∧ r ≤ 1) ∧ (r = 0 → zz_lgl p0 (S0 1079 1))
theorem zb_isIllegal_14_24_115 {g : mm_G} {l : Launch} (p0 : Int) (S0 : zz_S) (n : Nat) (hn : zz_end ≤ n) (G_S0 : zz_G S0) (hp0 : (-9223372036854775808) ≤ p0 ∧ p0 ≤ 9223372036854775807) (x3 : Int) (x4 : Int) (x5 : Int) (S : zz_S) (G_S : zz_G S) (F_S : zz_fr [(1087, 0), (1087, 1), (1087, 2), (1087, 3), (1087, 4), (1087, 5), (1087, 6), (1087, 7), (1087, 8), (1087, 9), (1087, 10), (1087, 11), (1088, 0), (1088, 1), (1088, 2), (1088, 3), (1088, 4), (1088, 5), (1088, 6), (1088, 7), (1088, 8), (1088, 9), (1089, 0), (1089, 1), (1089, 2), (1089, 3), (1089, 4), (1089, 5), (1089, 6), (1089, 7), (1089, 8), (1089, 9)] [] (fun _ _ => False) S0 S) (i115_0 : 1 ≤ x3 ∧ x3 ≤ 9) (i115_1 : 0 ≤ x4 ∧ x4 ≤ 1) (i115_2 : 5 ≤ x5 ∧ x5 ≤ 12) (i115_3 : (S 1087 0 = zz_fx p0 0 15) ∧ 0 ≤ S 1087 0 ∧ S 1087 0 ≤ 15) (i115_4 : (S 1087 1 = zz_fx p0 4 1) ∧ 0 ≤ S 1087 1 ∧ S 1087 1 ≤ 1) (i115_5 : (S 1087 2 = zz_fx p0 5 1) ∧ 0 ≤ S 1087 2 ∧ S 1087 2 ≤ 1) (i115_6 : (S 1087 3 = zz_fx p0 6 1) ∧ 0 ≤ S 1087 3 ∧ S 1087 3 ≤ 1) (i115_7 : (S 1087 4 = zz_fx p0 7 1) ∧ 0 ≤ S 1087 4 ∧ S 1087 4 ≤ 1) (i115_8 : (S 1087 5 = zz_fx p0 8 4095) ∧ 0 ≤ S 1087 5 ∧ S 1087 5 ≤ 4095) (i115_9 : (S 1087 6 = zz_fx p0 20 63) ∧ 0 ≤ S 1087 6 ∧ S 1087 6 ≤ 63) (i115_10 : (S 1087 7 = zz_fx p0 26 31) ∧ 0 ≤ S 1087 7 ∧ S 1087 7 ≤ 31) (i115_11 : (S 1087 8 = zz_fx p0 31 511) ∧ 0 ≤ S 1087 8 ∧ S 1087 8 ≤ 511) (i115_12 : (S 1087 9 = zz_fx p0 40 511) ∧ 0 ≤ S 1087 9 ∧ S 1087 9 ≤ 511) (i115_13 : (S 1087 10 = zz_fx p0 49 1023) ∧ 0 ≤ S 1087 10 ∧ S 1087 10 ≤ 1023) (i115_14 : (S 1087 11 = zz_fx p0 59 31) ∧ 0 ≤ S 1087 11 ∧ S 1087 11 ≤ 31) (i115_15 : x3 = S 1087 0) (i115_16 : x4 = 0 → (x3 = 9 ∧ S 1087 6 = 0 ∧ S 1087 7 = 0) ∨ (x3 ≠ 9 ∧ 1 ≤ S 1087 6 ∧ 1 ≤ S 1087 7 ∧ S 1087 7 ≤ S0 1079 1)) (R : Nat) (hR : (34359738368 + (12 - x5).toNat) = R) (k115 : ∀ (x3 : Int) (x4 : Int) (x5 : Int) (S : zz_S), zz_G S → zz_fr [(1087, 0), (1087, 1), (1087, 2), (1087, 3), (1087, 4), (1087, 5), (1087, 6), (1087, 7), (1087, 8), (1087, 9), (1087, 10), (1087, 11), (1088, 0), (1088, 1), (1088, 2), (1088, 3), (1088, 4), (1088, 5), (1088, 6), (1088, 7), (1088, 8), (1088, 9), (1089, 0), (1089, 1), (1089, 2), (1089, 3), (1089, 4), (1089, 5), (1089, 6), (1089, 7), (1089, 8), (1089, 9)] [] (fun _ _ => False) S0 S → (1 ≤ x3 ∧ x3 ≤ 9) → (0 ≤ x4 ∧ x4 ≤ 1) → (5 ≤ x5 ∧ x5 ≤ 12) → ((S 1087 0 = zz_fx p0 0 15) ∧ 0 ≤ S 1087 0 ∧ S 1087 0 ≤ 15) → ((S 1087 1 = zz_fx p0 4 1) ∧ 0 ≤ S 1087 1 ∧ S 1087 1 ≤ 1) → ((S 1087 2 = zz_fx p0 5 1) ∧ 0 ≤ S 1087 2 ∧ S 1087 2 ≤ 1) → ((S 1087 3 = zz_fx p0 6 1) ∧ 0 ≤ S 1087 3 ∧ S 1087 3 ≤ 1) → ((S 1087 4 = zz_fx p0 7 1) ∧ 0 ≤ S 1087 4 ∧ S 1087 4 ≤ 1) → ((S 1087 5 = zz_fx p0 8 4095) ∧ 0 ≤ S 1087 5 ∧ S 1087 5 ≤ 4095) → ((S 1087 6 = zz_fx p0 20 63) ∧ 0 ≤ S 1087 6 ∧ S 1087 6 ≤ 63) → ((S 1087 7 = zz_fx p0 26 31) ∧ 0 ≤ S 1087 7 ∧ S 1087 7 ≤ 31) → ((S 1087 8 = zz_fx p0 31 511) ∧ 0 ≤ S 1087 8 ∧ S 1087 8 ≤ 511) → ((S 1087 9 = zz_fx p0 40 511) ∧ 0 ≤ S 1087 9 ∧ S 1087 9 ≤ 511) → ((S 1087 10 = zz_fx p0 49 1023) ∧ 0 ≤ S 1087 10 ∧ S 1087 10 ≤ 1023) → ((S 1087 11 = zz_fx p0 59 31) ∧ 0 ≤ S 1087 11 ∧ S 1087 11 ≤ 31) → (x3 = S 1087 0) → (x4 = 0 → (x3 = 9 ∧ S 1087 6 = 0 ∧ S 1087 7 = 0) ∨ (x3 ≠ 9 ∧ 1 ≤ S 1087 6 ∧ 1 ≤ S 1087 7 ∧ S 1087 7 ≤ S0 1079 1)) → (34359738368 + (12 - x5).toNat) < R → zz_E g l zy_isIllegal_14_24 zr_isIllegal_14_24 (zz_QI n (zp_isIllegal_14_24 p0 S0)) S n 115 [some (.ref 1079), none, none, some (zi x3), some (zi x4), some (zi x5)] [] 0 0) (k296 : ∀ (x4 : Int) (S : zz_S), zz_G S → zz_fr [(1087, 0), (1087, 1), (1087, 2), (1087, 3), (1087, 4), (1087, 5), (1087, 6), (1087, 7), (1087, 8), (1087, 9), (1087, 10), (1087, 11), (1088, 0), (1088, 1), (1088, 2), (1088, 3), (1088, 4), (1088, 5), (1088, 6), (1088, 7), (1088, 8), (1088, 9), (1089, 0), (1089, 1), (1089, 2), (1089, 3), (1089, 4), (1089, 5), (1089, 6), (1089, 7), (1089, 8), (1089, 9)] [] (fun _ _ => False) S0 S → (0 ≤ x4 ∧ x4 ≤ 1) → ((S 1087 0 = zz_fx p0 0 15) ∧ 0 ≤ S 1087 0 ∧ S 1087 0 ≤ 15) → ((S 1087 1 = zz_fx p0 4 1) ∧ 0 ≤ S 1087 1 ∧ S 1087 1 ≤ 1) → ((S 1087 2 = zz_fx p0 5 1) ∧ 0 ≤ S 1087 2 ∧ S 1087 2 ≤ 1) → ((S 1087 3 = zz_fx p0 6 1) ∧ 0 ≤ S 1087 3 ∧ S 1087 3 ≤ 1) → ((S 1087 4 = zz_fx p0 7 1) ∧ 0 ≤ S 1087 4 ∧ S 1087 4 ≤ 1) → ((S 1087 5 = zz_fx p0 8 4095) ∧ 0 ≤ S 1087 5 ∧ S 1087 5 ≤ 4095) → ((S 1087 6 = zz_fx p0 20 63) ∧ 0 ≤ S 1087 6 ∧ S 1087 6 ≤ 63) → ((S 1087 7 = zz_fx p0 26 31) ∧ 0 ≤ S 1087 7 ∧ S 1087 7 ≤ 31) → ((S 1087 8 = zz_fx p0 31 511) ∧ 0 ≤ S 1087 8 ∧ S 1087 8 ≤ 511) → ((S 1087 9 = zz_fx p0 40 511) ∧ 0 ≤ S 1087 9 ∧ S 1087 9 ≤ 511) → ((S 1087 10 = zz_fx p0 49 1023) ∧ 0 ≤ S 1087 10 ∧ S 1087 10 ≤ 1023) → ((S 1087 11 = zz_fx p0 59 31) ∧ 0 ≤ S 1087 11 ∧ S 1087 11 ≤ 31) → (1 ≤ S 1087 0 ∧ S 1087 0 ≤ 9) → ((S 1087 0 = 9 ∧ S 1087 6 = 0 ∧ S 1087 7 = 0) ∨ (S 1087 0 ≠ 9 ∧ 1 ≤ S 1087 6 ∧ 1 ≤ S 1087 7 ∧ S 1087 7 ≤ S0 1079 1)) → (S 1087 0 = 5 → 1 ≤ S 1087 11 / 2 ∧ S 1087 11 / 2 ≤ S0 1079 1) → (17179869184 + 0) < R → zz_E g l zy_isIllegal_14_24 zr_isIllegal_14_24 (zz_QI n (zp_isIllegal_14_24 p0 S0)) S n 296 [some (.ref 1079), none, none, none, some (zi x4)] [] 0 0) : zz_E g l zy_isIllegal_14_24 zr_isIllegal_14_24 (zz_QI n (zp_isIllegal_14_24 p0 S0)) S n 115 [some (.ref 1079), none, none, some (zi x3), some (zi x4), some (zi x5)] [] 0 0 := by
  refine zz_iload (x := x5) rfl zd_14_24_115 ?_
  refine zz_bipush (by decide) zd_14_24_117 ?_
  refine zz_icmp_ge (by omega) (by omega) zd_14_24_119 (fun c109 => ?_) (fun c109 => ?_)
  · refine zz_iload (x := x4) rfl zd_14_24_173 ?_
    refine zz_if_ne (by omega) zd_14_24_175 (fun c110 => ?_) (fun c110 => ?_)
    · refine zz_iconst zd_14_24_222 ?_
      refine zz_goto zd_14_24_223 ?_
      refine zz_istore [some (.ref 1079), none, none, some (zi x3), some (zi 1), some (zi x5)] zd_14_24_227 (by decide) rfl ?_
      refine zz_iload (x := 1) rfl zd_14_24_229 ?_
      refine zz_if_eq (by omega) zd_14_24_231 (fun c111 => ?_) (fun c111 => ?_)
      · exfalso; omega
      · refine zz_iconst zd_14_24_234 ?_
        exact zz_zret zd_14_24_235 rfl (by omega) (Nat.zero_le _) (Nat.zero_le _) ⟨_, _, rfl, G_S, F_S, by omega, fun hr => absurd hr (by decide)⟩
    · refine zz_iload_n (x := x3) rfl zd_14_24_178 ?_
      refine zz_iconst zd_14_24_179 ?_
      refine zz_icmp_ne (by omega) (by omega) zd_14_24_180 (fun c112 => ?_) (fun c112 => ?_)
      · refine zz_iload_n (x := x3) rfl zd_14_24_205 ?_
        refine zz_bipush (by decide) zd_14_24_206 ?_
        refine zz_icmp_ne (by omega) (by omega) zd_14_24_208 (fun c113 => ?_) (fun c113 => ?_)
        · refine zz_iconst zd_14_24_226 ?_
          refine zz_istore [some (.ref 1079), none, none, some (zi x3), some (zi 0), some (zi x5)] zd_14_24_227 (by decide) rfl ?_
          refine zz_iload (x := 0) rfl zd_14_24_229 ?_
          refine zz_if_eq (by omega) zd_14_24_231 (fun c114 => ?_) (fun c114 => ?_)
          · refine zz_aload_n (x := 1079) rfl zd_14_24_236 ?_
            refine zz_callVI [] zd_14_24_237 zk_Md_243 zT_1079 (zz_ltn hn rfl) rfl rfl ⟨Nat.le_of_ble_eq_true rfl, Nat.le_of_ble_eq_true rfl⟩ ⟨rfl, rfl⟩ (Nat.zero_le _) (Nat.zero_le _) (zc_unit_14_19  S n hn G_S ) (fun v116 S115 hP => ?_)
            obtain ⟨rfl, o117⟩ := hP
            refine zz_istore [some (.ref 1079), none, none, some (zi x3), some (zi 0), some (zi v116)] zd_14_24_240 (by decide) rfl ?_
            refine zz_iload (x := v116) rfl zd_14_24_242 ?_
            refine zz_if_ne (by omega) zd_14_24_244 (fun c118 => ?_) (fun c118 => ?_)
            · refine zz_iload (x := v116) rfl zd_14_24_265 ?_
              refine zz_iconst zd_14_24_267 ?_
              refine zz_icmp_ne (by omega) (by omega) zd_14_24_268 (fun c119 => ?_) (fun c119 => ?_)
              · refine zz_iconst zd_14_24_293 ?_
                refine zz_istore [some (.ref 1079), none, none, some (zi x3), some (zi 0), some (zi v116)] zd_14_24_294 (by decide) rfl ?_
                have g120 := zz_G.r G_S 1087 0 (-2147483648) 2147483647 rfl rfl
                have g121 := zz_G.r G_S 1087 1 (-2147483648) 2147483647 rfl rfl
                have g122 := zz_G.r G_S 1087 2 (-2147483648) 2147483647 rfl rfl
                have g123 := zz_G.r G_S 1087 3 (-2147483648) 2147483647 rfl rfl
                have g124 := zz_G.r G_S 1087 4 (-2147483648) 2147483647 rfl rfl
                have g125 := zz_G.r G_S 1087 5 (-2147483648) 2147483647 rfl rfl
                have g126 := zz_G.r G_S 1087 6 (-2147483648) 2147483647 rfl rfl
                have g127 := zz_G.r G_S 1087 7 (-2147483648) 2147483647 rfl rfl
                have g128 := zz_G.r G_S 1087 8 (-2147483648) 2147483647 rfl rfl
                have g129 := zz_G.r G_S 1087 9 (-2147483648) 2147483647 rfl rfl
                have g130 := zz_G.r G_S 1087 10 (-2147483648) 2147483647 rfl rfl
                have g131 := zz_G.r G_S 1087 11 (-2147483648) 2147483647 rfl rfl
                refine zz_less (ls1 := [some (.ref 1079), none, none, none, some (zi 0)]) ⟨rfl, ⟨rfl, trivial⟩⟩ ?_
                exact k296 0 S G_S F_S (by omega) (by omega) (by omega) (by omega) (by omega) (by omega) (by omega) (by omega) (by omega) (by omega) (by omega) (by omega) (by omega) (by omega) (by omega) (by omega) (by omega)
              · refine zz_aload_n (x := 1079) rfl zd_14_24_271 ?_
                refine zz_getr (kd := 0) (z := 1087) zd_14_24_272 zf_Md_36 zT_1079 rfl (zz_ltn hn rfl) (zz_G.eq G_S 1079 11 1087 rfl rfl) (by decide) 1087 rfl ?_
                refine zz_iconst zd_14_24_275 ?_
                have g132 := zz_G.r G_S 1087 2 (-2147483648) 2147483647 rfl rfl
                refine zz_iald (z := S 1087 2) zd_14_24_276 zT_1087 rfl (zz_ltn hn rfl) (by decide) (by decide) rfl ?_
                refine zz_if_gt (by omega) zd_14_24_277 (fun c133 => ?_) (fun c133 => ?_)
                · refine zz_iconst zd_14_24_289 ?_
                  refine zz_goto zd_14_24_290 ?_
                  refine zz_istore [some (.ref 1079), none, none, some (zi x3), some (zi 1), some (zi v116)] zd_14_24_294 (by decide) rfl ?_
                  have g134 := zz_G.r G_S 1087 0 (-2147483648) 2147483647 rfl rfl
                  have g135 := zz_G.r G_S 1087 1 (-2147483648) 2147483647 rfl rfl
                  have g136 := zz_G.r G_S 1087 3 (-2147483648) 2147483647 rfl rfl
                  have g137 := zz_G.r G_S 1087 4 (-2147483648) 2147483647 rfl rfl
                  have g138 := zz_G.r G_S 1087 5 (-2147483648) 2147483647 rfl rfl
                  have g139 := zz_G.r G_S 1087 6 (-2147483648) 2147483647 rfl rfl
                  have g140 := zz_G.r G_S 1087 7 (-2147483648) 2147483647 rfl rfl
                  have g141 := zz_G.r G_S 1087 8 (-2147483648) 2147483647 rfl rfl
                  have g142 := zz_G.r G_S 1087 9 (-2147483648) 2147483647 rfl rfl
                  have g143 := zz_G.r G_S 1087 10 (-2147483648) 2147483647 rfl rfl
                  have g144 := zz_G.r G_S 1087 11 (-2147483648) 2147483647 rfl rfl
                  refine zz_less (ls1 := [some (.ref 1079), none, none, none, some (zi 1)]) ⟨rfl, ⟨rfl, trivial⟩⟩ ?_
                  exact k296 1 S G_S F_S (by omega) (by omega) (by omega) (by omega) (by omega) (by omega) (by omega) (by omega) (by omega) (by omega) (by omega) (by omega) (by omega) (by omega) (by omega) (by omega) (by omega)
                · refine zz_aload_n (x := 1079) rfl zd_14_24_280 ?_
                  refine zz_getr (kd := 0) (z := 1087) zd_14_24_281 zf_Md_36 zT_1079 rfl (zz_ltn hn rfl) (zz_G.eq G_S 1079 11 1087 rfl rfl) (by decide) 1087 rfl ?_
                  refine zz_iconst zd_14_24_284 ?_
                  have g145 := zz_G.r G_S 1087 4 (-2147483648) 2147483647 rfl rfl
                  refine zz_iald (z := S 1087 4) zd_14_24_285 zT_1087 rfl (zz_ltn hn rfl) (by decide) (by decide) rfl ?_
                  refine zz_if_le (by omega) zd_14_24_286 (fun c146 => ?_) (fun c146 => ?_)
                  · refine zz_iconst zd_14_24_293 ?_
                    refine zz_istore [some (.ref 1079), none, none, some (zi x3), some (zi 0), some (zi v116)] zd_14_24_294 (by decide) rfl ?_
                    have g147 := zz_G.r G_S 1087 0 (-2147483648) 2147483647 rfl rfl
                    have g148 := zz_G.r G_S 1087 1 (-2147483648) 2147483647 rfl rfl
                    have g149 := zz_G.r G_S 1087 3 (-2147483648) 2147483647 rfl rfl
                    have g150 := zz_G.r G_S 1087 5 (-2147483648) 2147483647 rfl rfl
                    have g151 := zz_G.r G_S 1087 6 (-2147483648) 2147483647 rfl rfl
                    have g152 := zz_G.r G_S 1087 7 (-2147483648) 2147483647 rfl rfl
                    have g153 := zz_G.r G_S 1087 8 (-2147483648) 2147483647 rfl rfl
                    have g154 := zz_G.r G_S 1087 9 (-2147483648) 2147483647 rfl rfl
                    have g155 := zz_G.r G_S 1087 10 (-2147483648) 2147483647 rfl rfl
                    have g156 := zz_G.r G_S 1087 11 (-2147483648) 2147483647 rfl rfl
                    refine zz_less (ls1 := [some (.ref 1079), none, none, none, some (zi 0)]) ⟨rfl, ⟨rfl, trivial⟩⟩ ?_
                    exact k296 0 S G_S F_S (by omega) (by omega) (by omega) (by omega) (by omega) (by omega) (by omega) (by omega) (by omega) (by omega) (by omega) (by omega) (by omega) (by omega) (by omega) (by omega) (by omega)
                  · refine zz_iconst zd_14_24_289 ?_
                    refine zz_goto zd_14_24_290 ?_
                    refine zz_istore [some (.ref 1079), none, none, some (zi x3), some (zi 1), some (zi v116)] zd_14_24_294 (by decide) rfl ?_
                    have g157 := zz_G.r G_S 1087 0 (-2147483648) 2147483647 rfl rfl
                    have g158 := zz_G.r G_S 1087 1 (-2147483648) 2147483647 rfl rfl
                    have g159 := zz_G.r G_S 1087 3 (-2147483648) 2147483647 rfl rfl
                    have g160 := zz_G.r G_S 1087 5 (-2147483648) 2147483647 rfl rfl
                    have g161 := zz_G.r G_S 1087 6 (-2147483648) 2147483647 rfl rfl
                    have g162 := zz_G.r G_S 1087 7 (-2147483648) 2147483647 rfl rfl
                    have g163 := zz_G.r G_S 1087 8 (-2147483648) 2147483647 rfl rfl
                    have g164 := zz_G.r G_S 1087 9 (-2147483648) 2147483647 rfl rfl
                    have g165 := zz_G.r G_S 1087 10 (-2147483648) 2147483647 rfl rfl
                    have g166 := zz_G.r G_S 1087 11 (-2147483648) 2147483647 rfl rfl
                    refine zz_less (ls1 := [some (.ref 1079), none, none, none, some (zi 1)]) ⟨rfl, ⟨rfl, trivial⟩⟩ ?_
                    exact k296 1 S G_S F_S (by omega) (by omega) (by omega) (by omega) (by omega) (by omega) (by omega) (by omega) (by omega) (by omega) (by omega) (by omega) (by omega) (by omega) (by omega) (by omega) (by omega)
            · refine zz_aload_n (x := 1079) rfl zd_14_24_247 ?_
              refine zz_getr (kd := 0) (z := 1087) zd_14_24_248 zf_Md_36 zT_1079 rfl (zz_ltn hn rfl) (zz_G.eq G_S 1079 11 1087 rfl rfl) (by decide) 1087 rfl ?_
              refine zz_iconst zd_14_24_251 ?_
              have g167 := zz_G.r G_S 1087 1 (-2147483648) 2147483647 rfl rfl
              refine zz_iald (z := S 1087 1) zd_14_24_252 zT_1087 rfl (zz_ltn hn rfl) (by decide) (by decide) rfl ?_
              refine zz_if_gt (by omega) zd_14_24_253 (fun c168 => ?_) (fun c168 => ?_)
              · refine zz_iconst zd_14_24_289 ?_
                refine zz_goto zd_14_24_290 ?_
                refine zz_istore [some (.ref 1079), none, none, some (zi x3), some (zi 1), some (zi v116)] zd_14_24_294 (by decide) rfl ?_
                have g169 := zz_G.r G_S 1087 0 (-2147483648) 2147483647 rfl rfl
                have g170 := zz_G.r G_S 1087 2 (-2147483648) 2147483647 rfl rfl
                have g171 := zz_G.r G_S 1087 3 (-2147483648) 2147483647 rfl rfl
                have g172 := zz_G.r G_S 1087 4 (-2147483648) 2147483647 rfl rfl
                have g173 := zz_G.r G_S 1087 5 (-2147483648) 2147483647 rfl rfl
                have g174 := zz_G.r G_S 1087 6 (-2147483648) 2147483647 rfl rfl
                have g175 := zz_G.r G_S 1087 7 (-2147483648) 2147483647 rfl rfl
                have g176 := zz_G.r G_S 1087 8 (-2147483648) 2147483647 rfl rfl
                have g177 := zz_G.r G_S 1087 9 (-2147483648) 2147483647 rfl rfl
                have g178 := zz_G.r G_S 1087 10 (-2147483648) 2147483647 rfl rfl
                have g179 := zz_G.r G_S 1087 11 (-2147483648) 2147483647 rfl rfl
                refine zz_less (ls1 := [some (.ref 1079), none, none, none, some (zi 1)]) ⟨rfl, ⟨rfl, trivial⟩⟩ ?_
                exact k296 1 S G_S F_S (by omega) (by omega) (by omega) (by omega) (by omega) (by omega) (by omega) (by omega) (by omega) (by omega) (by omega) (by omega) (by omega) (by omega) (by omega) (by omega) (by omega)
              · refine zz_aload_n (x := 1079) rfl zd_14_24_256 ?_
                refine zz_getr (kd := 0) (z := 1087) zd_14_24_257 zf_Md_36 zT_1079 rfl (zz_ltn hn rfl) (zz_G.eq G_S 1079 11 1087 rfl rfl) (by decide) 1087 rfl ?_
                refine zz_iconst zd_14_24_260 ?_
                have g180 := zz_G.r G_S 1087 3 (-2147483648) 2147483647 rfl rfl
                refine zz_iald (z := S 1087 3) zd_14_24_261 zT_1087 rfl (zz_ltn hn rfl) (by decide) (by decide) rfl ?_
                refine zz_if_gt (by omega) zd_14_24_262 (fun c181 => ?_) (fun c181 => ?_)
                · refine zz_iconst zd_14_24_289 ?_
                  refine zz_goto zd_14_24_290 ?_
                  refine zz_istore [some (.ref 1079), none, none, some (zi x3), some (zi 1), some (zi v116)] zd_14_24_294 (by decide) rfl ?_
                  have g182 := zz_G.r G_S 1087 0 (-2147483648) 2147483647 rfl rfl
                  have g183 := zz_G.r G_S 1087 2 (-2147483648) 2147483647 rfl rfl
                  have g184 := zz_G.r G_S 1087 4 (-2147483648) 2147483647 rfl rfl
                  have g185 := zz_G.r G_S 1087 5 (-2147483648) 2147483647 rfl rfl
                  have g186 := zz_G.r G_S 1087 6 (-2147483648) 2147483647 rfl rfl
                  have g187 := zz_G.r G_S 1087 7 (-2147483648) 2147483647 rfl rfl
                  have g188 := zz_G.r G_S 1087 8 (-2147483648) 2147483647 rfl rfl
                  have g189 := zz_G.r G_S 1087 9 (-2147483648) 2147483647 rfl rfl
                  have g190 := zz_G.r G_S 1087 10 (-2147483648) 2147483647 rfl rfl
                  have g191 := zz_G.r G_S 1087 11 (-2147483648) 2147483647 rfl rfl
                  refine zz_less (ls1 := [some (.ref 1079), none, none, none, some (zi 1)]) ⟨rfl, ⟨rfl, trivial⟩⟩ ?_
                  exact k296 1 S G_S F_S (by omega) (by omega) (by omega) (by omega) (by omega) (by omega) (by omega) (by omega) (by omega) (by omega) (by omega) (by omega) (by omega) (by omega) (by omega) (by omega) (by omega)
                · refine zz_iload (x := v116) rfl zd_14_24_265 ?_
                  refine zz_iconst zd_14_24_267 ?_
                  refine zz_icmp_ne (by omega) (by omega) zd_14_24_268 (fun c192 => ?_) (fun c192 => ?_)
                  · refine zz_iconst zd_14_24_293 ?_
                    refine zz_istore [some (.ref 1079), none, none, some (zi x3), some (zi 0), some (zi v116)] zd_14_24_294 (by decide) rfl ?_
                    have g193 := zz_G.r G_S 1087 0 (-2147483648) 2147483647 rfl rfl
                    have g194 := zz_G.r G_S 1087 2 (-2147483648) 2147483647 rfl rfl
                    have g195 := zz_G.r G_S 1087 4 (-2147483648) 2147483647 rfl rfl
                    have g196 := zz_G.r G_S 1087 5 (-2147483648) 2147483647 rfl rfl
                    have g197 := zz_G.r G_S 1087 6 (-2147483648) 2147483647 rfl rfl
                    have g198 := zz_G.r G_S 1087 7 (-2147483648) 2147483647 rfl rfl
                    have g199 := zz_G.r G_S 1087 8 (-2147483648) 2147483647 rfl rfl
                    have g200 := zz_G.r G_S 1087 9 (-2147483648) 2147483647 rfl rfl
                    have g201 := zz_G.r G_S 1087 10 (-2147483648) 2147483647 rfl rfl
                    have g202 := zz_G.r G_S 1087 11 (-2147483648) 2147483647 rfl rfl
                    refine zz_less (ls1 := [some (.ref 1079), none, none, none, some (zi 0)]) ⟨rfl, ⟨rfl, trivial⟩⟩ ?_
                    exact k296 0 S G_S F_S (by omega) (by omega) (by omega) (by omega) (by omega) (by omega) (by omega) (by omega) (by omega) (by omega) (by omega) (by omega) (by omega) (by omega) (by omega) (by omega) (by omega)
                  · exfalso; omega
          · exfalso; omega
        · refine zz_aload_n (x := 1079) rfl zd_14_24_211 ?_
          refine zz_getr (kd := 0) (z := 1087) zd_14_24_212 zf_Md_36 zT_1079 rfl (zz_ltn hn rfl) (zz_G.eq G_S 1079 11 1087 rfl rfl) (by decide) 1087 rfl ?_
          refine zz_bipush (by decide) zd_14_24_215 ?_
          have g203 := zz_G.r G_S 1087 11 (-2147483648) 2147483647 rfl rfl
          refine zz_iald (z := S 1087 11) zd_14_24_217 zT_1087 rfl (zz_ltn hn rfl) (by decide) (by decide) rfl ?_
          refine zz_iconst zd_14_24_218 ?_
          refine zz_icmp_le (by omega) (by omega) zd_14_24_219 (fun c204 => ?_) (fun c204 => ?_)
          · refine zz_iconst zd_14_24_226 ?_
            refine zz_istore [some (.ref 1079), none, none, some (zi x3), some (zi 0), some (zi x5)] zd_14_24_227 (by decide) rfl ?_
            refine zz_iload (x := 0) rfl zd_14_24_229 ?_
            refine zz_if_eq (by omega) zd_14_24_231 (fun c205 => ?_) (fun c205 => ?_)
            · refine zz_aload_n (x := 1079) rfl zd_14_24_236 ?_
              refine zz_callVI [] zd_14_24_237 zk_Md_243 zT_1079 (zz_ltn hn rfl) rfl rfl ⟨Nat.le_of_ble_eq_true rfl, Nat.le_of_ble_eq_true rfl⟩ ⟨rfl, rfl⟩ (Nat.zero_le _) (Nat.zero_le _) (zc_unit_14_19  S n hn G_S ) (fun v207 S206 hP => ?_)
              obtain ⟨rfl, o208⟩ := hP
              refine zz_istore [some (.ref 1079), none, none, some (zi x3), some (zi 0), some (zi v207)] zd_14_24_240 (by decide) rfl ?_
              refine zz_iload (x := v207) rfl zd_14_24_242 ?_
              refine zz_if_ne (by omega) zd_14_24_244 (fun c209 => ?_) (fun c209 => ?_)
              · refine zz_iload (x := v207) rfl zd_14_24_265 ?_
                refine zz_iconst zd_14_24_267 ?_
                refine zz_icmp_ne (by omega) (by omega) zd_14_24_268 (fun c210 => ?_) (fun c210 => ?_)
                · refine zz_iconst zd_14_24_293 ?_
                  refine zz_istore [some (.ref 1079), none, none, some (zi x3), some (zi 0), some (zi v207)] zd_14_24_294 (by decide) rfl ?_
                  have g211 := zz_G.r G_S 1087 0 (-2147483648) 2147483647 rfl rfl
                  have g212 := zz_G.r G_S 1087 1 (-2147483648) 2147483647 rfl rfl
                  have g213 := zz_G.r G_S 1087 2 (-2147483648) 2147483647 rfl rfl
                  have g214 := zz_G.r G_S 1087 3 (-2147483648) 2147483647 rfl rfl
                  have g215 := zz_G.r G_S 1087 4 (-2147483648) 2147483647 rfl rfl
                  have g216 := zz_G.r G_S 1087 5 (-2147483648) 2147483647 rfl rfl
                  have g217 := zz_G.r G_S 1087 6 (-2147483648) 2147483647 rfl rfl
                  have g218 := zz_G.r G_S 1087 7 (-2147483648) 2147483647 rfl rfl
                  have g219 := zz_G.r G_S 1087 8 (-2147483648) 2147483647 rfl rfl
                  have g220 := zz_G.r G_S 1087 9 (-2147483648) 2147483647 rfl rfl
                  have g221 := zz_G.r G_S 1087 10 (-2147483648) 2147483647 rfl rfl
                  refine zz_less (ls1 := [some (.ref 1079), none, none, none, some (zi 0)]) ⟨rfl, ⟨rfl, trivial⟩⟩ ?_
                  exact k296 0 S G_S F_S (by omega) (by omega) (by omega) (by omega) (by omega) (by omega) (by omega) (by omega) (by omega) (by omega) (by omega) (by omega) (by omega) (by omega) (by omega) (by omega) (by omega)
                · refine zz_aload_n (x := 1079) rfl zd_14_24_271 ?_
                  refine zz_getr (kd := 0) (z := 1087) zd_14_24_272 zf_Md_36 zT_1079 rfl (zz_ltn hn rfl) (zz_G.eq G_S 1079 11 1087 rfl rfl) (by decide) 1087 rfl ?_
                  refine zz_iconst zd_14_24_275 ?_
                  have g222 := zz_G.r G_S 1087 2 (-2147483648) 2147483647 rfl rfl
                  refine zz_iald (z := S 1087 2) zd_14_24_276 zT_1087 rfl (zz_ltn hn rfl) (by decide) (by decide) rfl ?_
                  refine zz_if_gt (by omega) zd_14_24_277 (fun c223 => ?_) (fun c223 => ?_)
                  · refine zz_iconst zd_14_24_289 ?_
                    refine zz_goto zd_14_24_290 ?_
                    refine zz_istore [some (.ref 1079), none, none, some (zi x3), some (zi 1), some (zi v207)] zd_14_24_294 (by decide) rfl ?_
                    have g224 := zz_G.r G_S 1087 0 (-2147483648) 2147483647 rfl rfl
                    have g225 := zz_G.r G_S 1087 1 (-2147483648) 2147483647 rfl rfl
                    have g226 := zz_G.r G_S 1087 3 (-2147483648) 2147483647 rfl rfl
                    have g227 := zz_G.r G_S 1087 4 (-2147483648) 2147483647 rfl rfl
                    have g228 := zz_G.r G_S 1087 5 (-2147483648) 2147483647 rfl rfl
                    have g229 := zz_G.r G_S 1087 6 (-2147483648) 2147483647 rfl rfl
                    have g230 := zz_G.r G_S 1087 7 (-2147483648) 2147483647 rfl rfl
                    have g231 := zz_G.r G_S 1087 8 (-2147483648) 2147483647 rfl rfl
                    have g232 := zz_G.r G_S 1087 9 (-2147483648) 2147483647 rfl rfl
                    have g233 := zz_G.r G_S 1087 10 (-2147483648) 2147483647 rfl rfl
                    refine zz_less (ls1 := [some (.ref 1079), none, none, none, some (zi 1)]) ⟨rfl, ⟨rfl, trivial⟩⟩ ?_
                    exact k296 1 S G_S F_S (by omega) (by omega) (by omega) (by omega) (by omega) (by omega) (by omega) (by omega) (by omega) (by omega) (by omega) (by omega) (by omega) (by omega) (by omega) (by omega) (by omega)
                  · refine zz_aload_n (x := 1079) rfl zd_14_24_280 ?_
                    refine zz_getr (kd := 0) (z := 1087) zd_14_24_281 zf_Md_36 zT_1079 rfl (zz_ltn hn rfl) (zz_G.eq G_S 1079 11 1087 rfl rfl) (by decide) 1087 rfl ?_
                    refine zz_iconst zd_14_24_284 ?_
                    have g234 := zz_G.r G_S 1087 4 (-2147483648) 2147483647 rfl rfl
                    refine zz_iald (z := S 1087 4) zd_14_24_285 zT_1087 rfl (zz_ltn hn rfl) (by decide) (by decide) rfl ?_
                    refine zz_if_le (by omega) zd_14_24_286 (fun c235 => ?_) (fun c235 => ?_)
                    · refine zz_iconst zd_14_24_293 ?_
                      refine zz_istore [some (.ref 1079), none, none, some (zi x3), some (zi 0), some (zi v207)] zd_14_24_294 (by decide) rfl ?_
                      have g236 := zz_G.r G_S 1087 0 (-2147483648) 2147483647 rfl rfl
                      have g237 := zz_G.r G_S 1087 1 (-2147483648) 2147483647 rfl rfl
                      have g238 := zz_G.r G_S 1087 3 (-2147483648) 2147483647 rfl rfl
                      have g239 := zz_G.r G_S 1087 5 (-2147483648) 2147483647 rfl rfl
                      have g240 := zz_G.r G_S 1087 6 (-2147483648) 2147483647 rfl rfl
                      have g241 := zz_G.r G_S 1087 7 (-2147483648) 2147483647 rfl rfl
                      have g242 := zz_G.r G_S 1087 8 (-2147483648) 2147483647 rfl rfl
                      have g243 := zz_G.r G_S 1087 9 (-2147483648) 2147483647 rfl rfl
                      have g244 := zz_G.r G_S 1087 10 (-2147483648) 2147483647 rfl rfl
                      refine zz_less (ls1 := [some (.ref 1079), none, none, none, some (zi 0)]) ⟨rfl, ⟨rfl, trivial⟩⟩ ?_
                      exact k296 0 S G_S F_S (by omega) (by omega) (by omega) (by omega) (by omega) (by omega) (by omega) (by omega) (by omega) (by omega) (by omega) (by omega) (by omega) (by omega) (by omega) (by omega) (by omega)
                    · refine zz_iconst zd_14_24_289 ?_
                      refine zz_goto zd_14_24_290 ?_
                      refine zz_istore [some (.ref 1079), none, none, some (zi x3), some (zi 1), some (zi v207)] zd_14_24_294 (by decide) rfl ?_
                      have g245 := zz_G.r G_S 1087 0 (-2147483648) 2147483647 rfl rfl
                      have g246 := zz_G.r G_S 1087 1 (-2147483648) 2147483647 rfl rfl
                      have g247 := zz_G.r G_S 1087 3 (-2147483648) 2147483647 rfl rfl
                      have g248 := zz_G.r G_S 1087 5 (-2147483648) 2147483647 rfl rfl
                      have g249 := zz_G.r G_S 1087 6 (-2147483648) 2147483647 rfl rfl
                      have g250 := zz_G.r G_S 1087 7 (-2147483648) 2147483647 rfl rfl
                      have g251 := zz_G.r G_S 1087 8 (-2147483648) 2147483647 rfl rfl
                      have g252 := zz_G.r G_S 1087 9 (-2147483648) 2147483647 rfl rfl
                      have g253 := zz_G.r G_S 1087 10 (-2147483648) 2147483647 rfl rfl
                      refine zz_less (ls1 := [some (.ref 1079), none, none, none, some (zi 1)]) ⟨rfl, ⟨rfl, trivial⟩⟩ ?_
                      exact k296 1 S G_S F_S (by omega) (by omega) (by omega) (by omega) (by omega) (by omega) (by omega) (by omega) (by omega) (by omega) (by omega) (by omega) (by omega) (by omega) (by omega) (by omega) (by omega)
              · refine zz_aload_n (x := 1079) rfl zd_14_24_247 ?_
                refine zz_getr (kd := 0) (z := 1087) zd_14_24_248 zf_Md_36 zT_1079 rfl (zz_ltn hn rfl) (zz_G.eq G_S 1079 11 1087 rfl rfl) (by decide) 1087 rfl ?_
                refine zz_iconst zd_14_24_251 ?_
                have g254 := zz_G.r G_S 1087 1 (-2147483648) 2147483647 rfl rfl
                refine zz_iald (z := S 1087 1) zd_14_24_252 zT_1087 rfl (zz_ltn hn rfl) (by decide) (by decide) rfl ?_
                refine zz_if_gt (by omega) zd_14_24_253 (fun c255 => ?_) (fun c255 => ?_)
                · refine zz_iconst zd_14_24_289 ?_
                  refine zz_goto zd_14_24_290 ?_
                  refine zz_istore [some (.ref 1079), none, none, some (zi x3), some (zi 1), some (zi v207)] zd_14_24_294 (by decide) rfl ?_
                  have g256 := zz_G.r G_S 1087 0 (-2147483648) 2147483647 rfl rfl
                  have g257 := zz_G.r G_S 1087 2 (-2147483648) 2147483647 rfl rfl
                  have g258 := zz_G.r G_S 1087 3 (-2147483648) 2147483647 rfl rfl
                  have g259 := zz_G.r G_S 1087 4 (-2147483648) 2147483647 rfl rfl
                  have g260 := zz_G.r G_S 1087 5 (-2147483648) 2147483647 rfl rfl
                  have g261 := zz_G.r G_S 1087 6 (-2147483648) 2147483647 rfl rfl
                  have g262 := zz_G.r G_S 1087 7 (-2147483648) 2147483647 rfl rfl
                  have g263 := zz_G.r G_S 1087 8 (-2147483648) 2147483647 rfl rfl
                  have g264 := zz_G.r G_S 1087 9 (-2147483648) 2147483647 rfl rfl
                  have g265 := zz_G.r G_S 1087 10 (-2147483648) 2147483647 rfl rfl
                  refine zz_less (ls1 := [some (.ref 1079), none, none, none, some (zi 1)]) ⟨rfl, ⟨rfl, trivial⟩⟩ ?_
                  exact k296 1 S G_S F_S (by omega) (by omega) (by omega) (by omega) (by omega) (by omega) (by omega) (by omega) (by omega) (by omega) (by omega) (by omega) (by omega) (by omega) (by omega) (by omega) (by omega)
                · refine zz_aload_n (x := 1079) rfl zd_14_24_256 ?_
                  refine zz_getr (kd := 0) (z := 1087) zd_14_24_257 zf_Md_36 zT_1079 rfl (zz_ltn hn rfl) (zz_G.eq G_S 1079 11 1087 rfl rfl) (by decide) 1087 rfl ?_
                  refine zz_iconst zd_14_24_260 ?_
                  have g266 := zz_G.r G_S 1087 3 (-2147483648) 2147483647 rfl rfl
                  refine zz_iald (z := S 1087 3) zd_14_24_261 zT_1087 rfl (zz_ltn hn rfl) (by decide) (by decide) rfl ?_
                  refine zz_if_gt (by omega) zd_14_24_262 (fun c267 => ?_) (fun c267 => ?_)
                  · refine zz_iconst zd_14_24_289 ?_
                    refine zz_goto zd_14_24_290 ?_
                    refine zz_istore [some (.ref 1079), none, none, some (zi x3), some (zi 1), some (zi v207)] zd_14_24_294 (by decide) rfl ?_
                    have g268 := zz_G.r G_S 1087 0 (-2147483648) 2147483647 rfl rfl
                    have g269 := zz_G.r G_S 1087 2 (-2147483648) 2147483647 rfl rfl
                    have g270 := zz_G.r G_S 1087 4 (-2147483648) 2147483647 rfl rfl
                    have g271 := zz_G.r G_S 1087 5 (-2147483648) 2147483647 rfl rfl
                    have g272 := zz_G.r G_S 1087 6 (-2147483648) 2147483647 rfl rfl
                    have g273 := zz_G.r G_S 1087 7 (-2147483648) 2147483647 rfl rfl
                    have g274 := zz_G.r G_S 1087 8 (-2147483648) 2147483647 rfl rfl
                    have g275 := zz_G.r G_S 1087 9 (-2147483648) 2147483647 rfl rfl
                    have g276 := zz_G.r G_S 1087 10 (-2147483648) 2147483647 rfl rfl
                    refine zz_less (ls1 := [some (.ref 1079), none, none, none, some (zi 1)]) ⟨rfl, ⟨rfl, trivial⟩⟩ ?_
                    exact k296 1 S G_S F_S (by omega) (by omega) (by omega) (by omega) (by omega) (by omega) (by omega) (by omega) (by omega) (by omega) (by omega) (by omega) (by omega) (by omega) (by omega) (by omega) (by omega)
                  · refine zz_iload (x := v207) rfl zd_14_24_265 ?_
                    refine zz_iconst zd_14_24_267 ?_
                    refine zz_icmp_ne (by omega) (by omega) zd_14_24_268 (fun c277 => ?_) (fun c277 => ?_)
                    · refine zz_iconst zd_14_24_293 ?_
                      refine zz_istore [some (.ref 1079), none, none, some (zi x3), some (zi 0), some (zi v207)] zd_14_24_294 (by decide) rfl ?_
                      have g278 := zz_G.r G_S 1087 0 (-2147483648) 2147483647 rfl rfl
                      have g279 := zz_G.r G_S 1087 2 (-2147483648) 2147483647 rfl rfl
                      have g280 := zz_G.r G_S 1087 4 (-2147483648) 2147483647 rfl rfl
                      have g281 := zz_G.r G_S 1087 5 (-2147483648) 2147483647 rfl rfl
                      have g282 := zz_G.r G_S 1087 6 (-2147483648) 2147483647 rfl rfl
                      have g283 := zz_G.r G_S 1087 7 (-2147483648) 2147483647 rfl rfl
                      have g284 := zz_G.r G_S 1087 8 (-2147483648) 2147483647 rfl rfl
                      have g285 := zz_G.r G_S 1087 9 (-2147483648) 2147483647 rfl rfl
                      have g286 := zz_G.r G_S 1087 10 (-2147483648) 2147483647 rfl rfl
                      refine zz_less (ls1 := [some (.ref 1079), none, none, none, some (zi 0)]) ⟨rfl, ⟨rfl, trivial⟩⟩ ?_
                      exact k296 0 S G_S F_S (by omega) (by omega) (by omega) (by omega) (by omega) (by omega) (by omega) (by omega) (by omega) (by omega) (by omega) (by omega) (by omega) (by omega) (by omega) (by omega) (by omega)
                    · exfalso; omega
            · exfalso; omega
          · refine zz_iconst zd_14_24_222 ?_
            refine zz_goto zd_14_24_223 ?_
            refine zz_istore [some (.ref 1079), none, none, some (zi x3), some (zi 1), some (zi x5)] zd_14_24_227 (by decide) rfl ?_
            refine zz_iload (x := 1) rfl zd_14_24_229 ?_
            refine zz_if_eq (by omega) zd_14_24_231 (fun c287 => ?_) (fun c287 => ?_)
            · exfalso; omega
            · refine zz_iconst zd_14_24_234 ?_
              exact zz_zret zd_14_24_235 rfl (by omega) (Nat.zero_le _) (Nat.zero_le _) ⟨_, _, rfl, G_S, F_S, by omega, fun hr => absurd hr (by decide)⟩
      · refine zz_aload_n (x := 1079) rfl zd_14_24_183 ?_
        refine zz_getr (kd := 0) (z := 1087) zd_14_24_184 zf_Md_36 zT_1079 rfl (zz_ltn hn rfl) (zz_G.eq G_S 1079 11 1087 rfl rfl) (by decide) 1087 rfl ?_
        refine zz_bipush (by decide) zd_14_24_187 ?_
        have g288 := zz_G.r G_S 1087 11 (-2147483648) 2147483647 rfl rfl
        refine zz_iald (z := S 1087 11) zd_14_24_189 zT_1087 rfl (zz_ltn hn rfl) (by decide) (by decide) rfl ?_
        refine zz_iconst zd_14_24_190 ?_
        refine zz_idiv (by omega) (by omega) zd_14_24_191 (fun v289 hv289 av289 bv289 cv289 => ?_)
        refine zz_i2l (by omega) zd_14_24_192 ?_
        refine zz_lconst (z := 1) (by decide) zd_14_24_193 ?_
        refine zz_aload_n (x := 1079) rfl zd_14_24_194 ?_
        have g290 := zz_G.r G_S0 1079 1 2 8 rfl rfl
        refine zz_geti (z := S0 1079 1) zd_14_24_195 zf_Md_7 zT_1079 rfl (zz_ltn hn rfl) (zz_rc F_S rfl rfl (fun h => h) rfl) ?_
        refine zz_i2l (by omega) zd_14_24_198 ?_
        refine zz_callSI [zl v289, zl 1, zl (S0 1079 1)] zd_14_24_199 zk_Md_192 rfl rfl ⟨Nat.le_of_ble_eq_true rfl, Nat.le_of_ble_eq_true rfl⟩ ⟨rfl, rfl⟩ (Nat.zero_le _) (Nat.zero_le _) (zc_in_14_4 v289 1 (S0 1079 1) S n hn G_S (by omega) (by omega) (by omega)) (fun v292 S291 hP => ?_)
        obtain ⟨rfl, o293, o294⟩ := hP
        rcases (by omega : v292 = 0 ∨ v292 = 1) with rfl | rfl
        · have n295 : v289 < 1 ∨ S0 1079 1 < v289 := by omega
          clear o294
          refine zz_if_eq (by omega) zd_14_24_202 (fun c296 => ?_) (fun c296 => ?_)
          · refine zz_iconst zd_14_24_222 ?_
            refine zz_goto zd_14_24_223 ?_
            refine zz_istore [some (.ref 1079), none, none, some (zi x3), some (zi 1), some (zi x5)] zd_14_24_227 (by decide) rfl ?_
            refine zz_iload (x := 1) rfl zd_14_24_229 ?_
            refine zz_if_eq (by omega) zd_14_24_231 (fun c297 => ?_) (fun c297 => ?_)
            · exfalso; omega
            · refine zz_iconst zd_14_24_234 ?_
              exact zz_zret zd_14_24_235 rfl (by omega) (Nat.zero_le _) (Nat.zero_le _) ⟨_, _, rfl, G_S, F_S, by omega, fun hr => absurd hr (by decide)⟩
          · exfalso; omega
        · have n298 : 1 ≤ v289 ∧ v289 ≤ S0 1079 1 := by omega
          clear o294
          refine zz_if_eq (by omega) zd_14_24_202 (fun c299 => ?_) (fun c299 => ?_)
          · exfalso; omega
          · refine zz_iload_n (x := x3) rfl zd_14_24_205 ?_
            refine zz_bipush (by decide) zd_14_24_206 ?_
            refine zz_icmp_ne (by omega) (by omega) zd_14_24_208 (fun c300 => ?_) (fun c300 => ?_)
            · refine zz_iconst zd_14_24_226 ?_
              refine zz_istore [some (.ref 1079), none, none, some (zi x3), some (zi 0), some (zi x5)] zd_14_24_227 (by decide) rfl ?_
              refine zz_iload (x := 0) rfl zd_14_24_229 ?_
              refine zz_if_eq (by omega) zd_14_24_231 (fun c301 => ?_) (fun c301 => ?_)
              · refine zz_aload_n (x := 1079) rfl zd_14_24_236 ?_
                refine zz_callVI [] zd_14_24_237 zk_Md_243 zT_1079 (zz_ltn hn rfl) rfl rfl ⟨Nat.le_of_ble_eq_true rfl, Nat.le_of_ble_eq_true rfl⟩ ⟨rfl, rfl⟩ (Nat.zero_le _) (Nat.zero_le _) (zc_unit_14_19  S n hn G_S ) (fun v303 S302 hP => ?_)
                obtain ⟨rfl, o304⟩ := hP
                refine zz_istore [some (.ref 1079), none, none, some (zi x3), some (zi 0), some (zi v303)] zd_14_24_240 (by decide) rfl ?_
                refine zz_iload (x := v303) rfl zd_14_24_242 ?_
                refine zz_if_ne (by omega) zd_14_24_244 (fun c305 => ?_) (fun c305 => ?_)
                · refine zz_iload (x := v303) rfl zd_14_24_265 ?_
                  refine zz_iconst zd_14_24_267 ?_
                  refine zz_icmp_ne (by omega) (by omega) zd_14_24_268 (fun c306 => ?_) (fun c306 => ?_)
                  · refine zz_iconst zd_14_24_293 ?_
                    refine zz_istore [some (.ref 1079), none, none, some (zi x3), some (zi 0), some (zi v303)] zd_14_24_294 (by decide) rfl ?_
                    have g307 := zz_G.r G_S 1087 0 (-2147483648) 2147483647 rfl rfl
                    have g308 := zz_G.r G_S 1087 1 (-2147483648) 2147483647 rfl rfl
                    have g309 := zz_G.r G_S 1087 2 (-2147483648) 2147483647 rfl rfl
                    have g310 := zz_G.r G_S 1087 3 (-2147483648) 2147483647 rfl rfl
                    have g311 := zz_G.r G_S 1087 4 (-2147483648) 2147483647 rfl rfl
                    have g312 := zz_G.r G_S 1087 5 (-2147483648) 2147483647 rfl rfl
                    have g313 := zz_G.r G_S 1087 6 (-2147483648) 2147483647 rfl rfl
                    have g314 := zz_G.r G_S 1087 7 (-2147483648) 2147483647 rfl rfl
                    have g315 := zz_G.r G_S 1087 8 (-2147483648) 2147483647 rfl rfl
                    have g316 := zz_G.r G_S 1087 9 (-2147483648) 2147483647 rfl rfl
                    have g317 := zz_G.r G_S 1087 10 (-2147483648) 2147483647 rfl rfl
                    refine zz_less (ls1 := [some (.ref 1079), none, none, none, some (zi 0)]) ⟨rfl, ⟨rfl, trivial⟩⟩ ?_
                    exact k296 0 S G_S F_S (by omega) (by omega) (by omega) (by omega) (by omega) (by omega) (by omega) (by omega) (by omega) (by omega) (by omega) (by omega) (by omega) (by omega) (by omega) (by omega) (by omega)
                  · refine zz_aload_n (x := 1079) rfl zd_14_24_271 ?_
                    refine zz_getr (kd := 0) (z := 1087) zd_14_24_272 zf_Md_36 zT_1079 rfl (zz_ltn hn rfl) (zz_G.eq G_S 1079 11 1087 rfl rfl) (by decide) 1087 rfl ?_
                    refine zz_iconst zd_14_24_275 ?_
                    have g318 := zz_G.r G_S 1087 2 (-2147483648) 2147483647 rfl rfl
                    refine zz_iald (z := S 1087 2) zd_14_24_276 zT_1087 rfl (zz_ltn hn rfl) (by decide) (by decide) rfl ?_
                    refine zz_if_gt (by omega) zd_14_24_277 (fun c319 => ?_) (fun c319 => ?_)
                    · refine zz_iconst zd_14_24_289 ?_
                      refine zz_goto zd_14_24_290 ?_
                      refine zz_istore [some (.ref 1079), none, none, some (zi x3), some (zi 1), some (zi v303)] zd_14_24_294 (by decide) rfl ?_
                      have g320 := zz_G.r G_S 1087 0 (-2147483648) 2147483647 rfl rfl
                      have g321 := zz_G.r G_S 1087 1 (-2147483648) 2147483647 rfl rfl
                      have g322 := zz_G.r G_S 1087 3 (-2147483648) 2147483647 rfl rfl
                      have g323 := zz_G.r G_S 1087 4 (-2147483648) 2147483647 rfl rfl
                      have g324 := zz_G.r G_S 1087 5 (-2147483648) 2147483647 rfl rfl
                      have g325 := zz_G.r G_S 1087 6 (-2147483648) 2147483647 rfl rfl
                      have g326 := zz_G.r G_S 1087 7 (-2147483648) 2147483647 rfl rfl
                      have g327 := zz_G.r G_S 1087 8 (-2147483648) 2147483647 rfl rfl
                      have g328 := zz_G.r G_S 1087 9 (-2147483648) 2147483647 rfl rfl
                      have g329 := zz_G.r G_S 1087 10 (-2147483648) 2147483647 rfl rfl
                      refine zz_less (ls1 := [some (.ref 1079), none, none, none, some (zi 1)]) ⟨rfl, ⟨rfl, trivial⟩⟩ ?_
                      exact k296 1 S G_S F_S (by omega) (by omega) (by omega) (by omega) (by omega) (by omega) (by omega) (by omega) (by omega) (by omega) (by omega) (by omega) (by omega) (by omega) (by omega) (by omega) (by omega)
                    · refine zz_aload_n (x := 1079) rfl zd_14_24_280 ?_
                      refine zz_getr (kd := 0) (z := 1087) zd_14_24_281 zf_Md_36 zT_1079 rfl (zz_ltn hn rfl) (zz_G.eq G_S 1079 11 1087 rfl rfl) (by decide) 1087 rfl ?_
                      refine zz_iconst zd_14_24_284 ?_
                      have g330 := zz_G.r G_S 1087 4 (-2147483648) 2147483647 rfl rfl
                      refine zz_iald (z := S 1087 4) zd_14_24_285 zT_1087 rfl (zz_ltn hn rfl) (by decide) (by decide) rfl ?_
                      refine zz_if_le (by omega) zd_14_24_286 (fun c331 => ?_) (fun c331 => ?_)
                      · refine zz_iconst zd_14_24_293 ?_
                        refine zz_istore [some (.ref 1079), none, none, some (zi x3), some (zi 0), some (zi v303)] zd_14_24_294 (by decide) rfl ?_
                        have g332 := zz_G.r G_S 1087 0 (-2147483648) 2147483647 rfl rfl
                        have g333 := zz_G.r G_S 1087 1 (-2147483648) 2147483647 rfl rfl
                        have g334 := zz_G.r G_S 1087 3 (-2147483648) 2147483647 rfl rfl
                        have g335 := zz_G.r G_S 1087 5 (-2147483648) 2147483647 rfl rfl
                        have g336 := zz_G.r G_S 1087 6 (-2147483648) 2147483647 rfl rfl
                        have g337 := zz_G.r G_S 1087 7 (-2147483648) 2147483647 rfl rfl
                        have g338 := zz_G.r G_S 1087 8 (-2147483648) 2147483647 rfl rfl
                        have g339 := zz_G.r G_S 1087 9 (-2147483648) 2147483647 rfl rfl
                        have g340 := zz_G.r G_S 1087 10 (-2147483648) 2147483647 rfl rfl
                        refine zz_less (ls1 := [some (.ref 1079), none, none, none, some (zi 0)]) ⟨rfl, ⟨rfl, trivial⟩⟩ ?_
                        exact k296 0 S G_S F_S (by omega) (by omega) (by omega) (by omega) (by omega) (by omega) (by omega) (by omega) (by omega) (by omega) (by omega) (by omega) (by omega) (by omega) (by omega) (by omega) (by omega)
                      · refine zz_iconst zd_14_24_289 ?_
                        refine zz_goto zd_14_24_290 ?_
                        refine zz_istore [some (.ref 1079), none, none, some (zi x3), some (zi 1), some (zi v303)] zd_14_24_294 (by decide) rfl ?_
                        have g341 := zz_G.r G_S 1087 0 (-2147483648) 2147483647 rfl rfl
                        have g342 := zz_G.r G_S 1087 1 (-2147483648) 2147483647 rfl rfl
                        have g343 := zz_G.r G_S 1087 3 (-2147483648) 2147483647 rfl rfl
                        have g344 := zz_G.r G_S 1087 5 (-2147483648) 2147483647 rfl rfl
                        have g345 := zz_G.r G_S 1087 6 (-2147483648) 2147483647 rfl rfl
                        have g346 := zz_G.r G_S 1087 7 (-2147483648) 2147483647 rfl rfl
                        have g347 := zz_G.r G_S 1087 8 (-2147483648) 2147483647 rfl rfl
                        have g348 := zz_G.r G_S 1087 9 (-2147483648) 2147483647 rfl rfl
                        have g349 := zz_G.r G_S 1087 10 (-2147483648) 2147483647 rfl rfl
                        refine zz_less (ls1 := [some (.ref 1079), none, none, none, some (zi 1)]) ⟨rfl, ⟨rfl, trivial⟩⟩ ?_
                        exact k296 1 S G_S F_S (by omega) (by omega) (by omega) (by omega) (by omega) (by omega) (by omega) (by omega) (by omega) (by omega) (by omega) (by omega) (by omega) (by omega) (by omega) (by omega) (by omega)
                · refine zz_aload_n (x := 1079) rfl zd_14_24_247 ?_
                  refine zz_getr (kd := 0) (z := 1087) zd_14_24_248 zf_Md_36 zT_1079 rfl (zz_ltn hn rfl) (zz_G.eq G_S 1079 11 1087 rfl rfl) (by decide) 1087 rfl ?_
                  refine zz_iconst zd_14_24_251 ?_
                  have g350 := zz_G.r G_S 1087 1 (-2147483648) 2147483647 rfl rfl
                  refine zz_iald (z := S 1087 1) zd_14_24_252 zT_1087 rfl (zz_ltn hn rfl) (by decide) (by decide) rfl ?_
                  refine zz_if_gt (by omega) zd_14_24_253 (fun c351 => ?_) (fun c351 => ?_)
                  · refine zz_iconst zd_14_24_289 ?_
                    refine zz_goto zd_14_24_290 ?_
                    refine zz_istore [some (.ref 1079), none, none, some (zi x3), some (zi 1), some (zi v303)] zd_14_24_294 (by decide) rfl ?_
                    have g352 := zz_G.r G_S 1087 0 (-2147483648) 2147483647 rfl rfl
                    have g353 := zz_G.r G_S 1087 2 (-2147483648) 2147483647 rfl rfl
                    have g354 := zz_G.r G_S 1087 3 (-2147483648) 2147483647 rfl rfl
                    have g355 := zz_G.r G_S 1087 4 (-2147483648) 2147483647 rfl rfl
                    have g356 := zz_G.r G_S 1087 5 (-2147483648) 2147483647 rfl rfl
                    have g357 := zz_G.r G_S 1087 6 (-2147483648) 2147483647 rfl rfl
                    have g358 := zz_G.r G_S 1087 7 (-2147483648) 2147483647 rfl rfl
                    have g359 := zz_G.r G_S 1087 8 (-2147483648) 2147483647 rfl rfl
                    have g360 := zz_G.r G_S 1087 9 (-2147483648) 2147483647 rfl rfl
                    have g361 := zz_G.r G_S 1087 10 (-2147483648) 2147483647 rfl rfl
                    refine zz_less (ls1 := [some (.ref 1079), none, none, none, some (zi 1)]) ⟨rfl, ⟨rfl, trivial⟩⟩ ?_
                    exact k296 1 S G_S F_S (by omega) (by omega) (by omega) (by omega) (by omega) (by omega) (by omega) (by omega) (by omega) (by omega) (by omega) (by omega) (by omega) (by omega) (by omega) (by omega) (by omega)
                  · refine zz_aload_n (x := 1079) rfl zd_14_24_256 ?_
                    refine zz_getr (kd := 0) (z := 1087) zd_14_24_257 zf_Md_36 zT_1079 rfl (zz_ltn hn rfl) (zz_G.eq G_S 1079 11 1087 rfl rfl) (by decide) 1087 rfl ?_
                    refine zz_iconst zd_14_24_260 ?_
                    have g362 := zz_G.r G_S 1087 3 (-2147483648) 2147483647 rfl rfl
                    refine zz_iald (z := S 1087 3) zd_14_24_261 zT_1087 rfl (zz_ltn hn rfl) (by decide) (by decide) rfl ?_
                    refine zz_if_gt (by omega) zd_14_24_262 (fun c363 => ?_) (fun c363 => ?_)
                    · refine zz_iconst zd_14_24_289 ?_
                      refine zz_goto zd_14_24_290 ?_
                      refine zz_istore [some (.ref 1079), none, none, some (zi x3), some (zi 1), some (zi v303)] zd_14_24_294 (by decide) rfl ?_
                      have g364 := zz_G.r G_S 1087 0 (-2147483648) 2147483647 rfl rfl
                      have g365 := zz_G.r G_S 1087 2 (-2147483648) 2147483647 rfl rfl
                      have g366 := zz_G.r G_S 1087 4 (-2147483648) 2147483647 rfl rfl
                      have g367 := zz_G.r G_S 1087 5 (-2147483648) 2147483647 rfl rfl
                      have g368 := zz_G.r G_S 1087 6 (-2147483648) 2147483647 rfl rfl
                      have g369 := zz_G.r G_S 1087 7 (-2147483648) 2147483647 rfl rfl
                      have g370 := zz_G.r G_S 1087 8 (-2147483648) 2147483647 rfl rfl
                      have g371 := zz_G.r G_S 1087 9 (-2147483648) 2147483647 rfl rfl
                      have g372 := zz_G.r G_S 1087 10 (-2147483648) 2147483647 rfl rfl
                      refine zz_less (ls1 := [some (.ref 1079), none, none, none, some (zi 1)]) ⟨rfl, ⟨rfl, trivial⟩⟩ ?_
                      exact k296 1 S G_S F_S (by omega) (by omega) (by omega) (by omega) (by omega) (by omega) (by omega) (by omega) (by omega) (by omega) (by omega) (by omega) (by omega) (by omega) (by omega) (by omega) (by omega)
                    · refine zz_iload (x := v303) rfl zd_14_24_265 ?_
                      refine zz_iconst zd_14_24_267 ?_
                      refine zz_icmp_ne (by omega) (by omega) zd_14_24_268 (fun c373 => ?_) (fun c373 => ?_)
                      · refine zz_iconst zd_14_24_293 ?_
                        refine zz_istore [some (.ref 1079), none, none, some (zi x3), some (zi 0), some (zi v303)] zd_14_24_294 (by decide) rfl ?_
                        have g374 := zz_G.r G_S 1087 0 (-2147483648) 2147483647 rfl rfl
                        have g375 := zz_G.r G_S 1087 2 (-2147483648) 2147483647 rfl rfl
                        have g376 := zz_G.r G_S 1087 4 (-2147483648) 2147483647 rfl rfl
                        have g377 := zz_G.r G_S 1087 5 (-2147483648) 2147483647 rfl rfl
                        have g378 := zz_G.r G_S 1087 6 (-2147483648) 2147483647 rfl rfl
                        have g379 := zz_G.r G_S 1087 7 (-2147483648) 2147483647 rfl rfl
                        have g380 := zz_G.r G_S 1087 8 (-2147483648) 2147483647 rfl rfl
                        have g381 := zz_G.r G_S 1087 9 (-2147483648) 2147483647 rfl rfl
                        have g382 := zz_G.r G_S 1087 10 (-2147483648) 2147483647 rfl rfl
                        refine zz_less (ls1 := [some (.ref 1079), none, none, none, some (zi 0)]) ⟨rfl, ⟨rfl, trivial⟩⟩ ?_
                        exact k296 0 S G_S F_S (by omega) (by omega) (by omega) (by omega) (by omega) (by omega) (by omega) (by omega) (by omega) (by omega) (by omega) (by omega) (by omega) (by omega) (by omega) (by omega) (by omega)
                      · exfalso; omega
              · exfalso; omega
            · exfalso; omega
  · refine zz_iload (x := x4) rfl zd_14_24_122 ?_
    refine zz_if_ne (by omega) zd_14_24_124 (fun c383 => ?_) (fun c383 => ?_)
    · refine zz_iconst zd_14_24_160 ?_
      refine zz_goto zd_14_24_161 ?_
      refine zz_istore [some (.ref 1079), none, none, some (zi x3), some (zi 1), some (zi x5)] zd_14_24_165 (by decide) rfl ?_
      refine zz_iinc [some (.ref 1079), none, none, some (zi x3), some (zi 1), some (zi (x5 + 1))] zd_14_24_167 rfl rfl ?_
      refine zz_goto zd_14_24_170 ?_
      have g384 := zz_G.r G_S 1087 0 (-2147483648) 2147483647 rfl rfl
      have g385 := zz_G.r G_S 1087 1 (-2147483648) 2147483647 rfl rfl
      have g386 := zz_G.r G_S 1087 2 (-2147483648) 2147483647 rfl rfl
      have g387 := zz_G.r G_S 1087 3 (-2147483648) 2147483647 rfl rfl
      have g388 := zz_G.r G_S 1087 4 (-2147483648) 2147483647 rfl rfl
      have g389 := zz_G.r G_S 1087 5 (-2147483648) 2147483647 rfl rfl
      have g390 := zz_G.r G_S 1087 6 (-2147483648) 2147483647 rfl rfl
      have g391 := zz_G.r G_S 1087 7 (-2147483648) 2147483647 rfl rfl
      have g392 := zz_G.r G_S 1087 8 (-2147483648) 2147483647 rfl rfl
      have g393 := zz_G.r G_S 1087 9 (-2147483648) 2147483647 rfl rfl
      have g394 := zz_G.r G_S 1087 10 (-2147483648) 2147483647 rfl rfl
      have g395 := zz_G.r G_S 1087 11 (-2147483648) 2147483647 rfl rfl
      refine zz_less (ls1 := [some (.ref 1079), none, none, some (zi x3), some (zi 1), some (zi (x5 + 1))]) ⟨rfl, ⟨rfl, ⟨rfl, ⟨rfl, trivial⟩⟩⟩⟩ ?_
      exact k115 x3 1 (x5 + 1) S G_S F_S (by omega) (by omega) (by omega) (by omega) (by omega) (by omega) (by omega) (by omega) (by omega) (by omega) (by omega) (by omega) (by omega) (by omega) (by omega) (by omega) (by omega) (by omega)
    · refine zz_iload (x := x5) rfl zd_14_24_127 ?_
      refine zz_bipush (by decide) zd_14_24_129 ?_
      refine zz_icmp_eq (by omega) (by omega) zd_14_24_131 (fun c396 => ?_) (fun c396 => ?_)
      · refine zz_iconst zd_14_24_164 ?_
        refine zz_istore [some (.ref 1079), none, none, some (zi x3), some (zi 0), some (zi x5)] zd_14_24_165 (by decide) rfl ?_
        refine zz_iinc [some (.ref 1079), none, none, some (zi x3), some (zi 0), some (zi (x5 + 1))] zd_14_24_167 rfl rfl ?_
        refine zz_goto zd_14_24_170 ?_
        have g397 := zz_G.r G_S 1087 0 (-2147483648) 2147483647 rfl rfl
        have g398 := zz_G.r G_S 1087 1 (-2147483648) 2147483647 rfl rfl
        have g399 := zz_G.r G_S 1087 2 (-2147483648) 2147483647 rfl rfl
        have g400 := zz_G.r G_S 1087 3 (-2147483648) 2147483647 rfl rfl
        have g401 := zz_G.r G_S 1087 4 (-2147483648) 2147483647 rfl rfl
        have g402 := zz_G.r G_S 1087 5 (-2147483648) 2147483647 rfl rfl
        have g403 := zz_G.r G_S 1087 6 (-2147483648) 2147483647 rfl rfl
        have g404 := zz_G.r G_S 1087 7 (-2147483648) 2147483647 rfl rfl
        have g405 := zz_G.r G_S 1087 8 (-2147483648) 2147483647 rfl rfl
        have g406 := zz_G.r G_S 1087 9 (-2147483648) 2147483647 rfl rfl
        have g407 := zz_G.r G_S 1087 10 (-2147483648) 2147483647 rfl rfl
        have g408 := zz_G.r G_S 1087 11 (-2147483648) 2147483647 rfl rfl
        refine zz_less (ls1 := [some (.ref 1079), none, none, some (zi x3), some (zi 0), some (zi (x5 + 1))]) ⟨rfl, ⟨rfl, ⟨rfl, ⟨rfl, trivial⟩⟩⟩⟩ ?_
        exact k115 x3 0 (x5 + 1) S G_S F_S (by omega) (by omega) (by omega) (by omega) (by omega) (by omega) (by omega) (by omega) (by omega) (by omega) (by omega) (by omega) (by omega) (by omega) (by omega) (by omega) (by omega) (by omega)
      · refine zz_iload (x := x5) rfl zd_14_24_134 ?_
        refine zz_bipush (by decide) zd_14_24_136 ?_
        refine zz_icmp_eq (by omega) (by omega) zd_14_24_138 (fun c409 => ?_) (fun c409 => ?_)
        · refine zz_iconst zd_14_24_164 ?_
          refine zz_istore [some (.ref 1079), none, none, some (zi x3), some (zi 0), some (zi x5)] zd_14_24_165 (by decide) rfl ?_
          refine zz_iinc [some (.ref 1079), none, none, some (zi x3), some (zi 0), some (zi (x5 + 1))] zd_14_24_167 rfl rfl ?_
          refine zz_goto zd_14_24_170 ?_
          have g410 := zz_G.r G_S 1087 0 (-2147483648) 2147483647 rfl rfl
          have g411 := zz_G.r G_S 1087 1 (-2147483648) 2147483647 rfl rfl
          have g412 := zz_G.r G_S 1087 2 (-2147483648) 2147483647 rfl rfl
          have g413 := zz_G.r G_S 1087 3 (-2147483648) 2147483647 rfl rfl
          have g414 := zz_G.r G_S 1087 4 (-2147483648) 2147483647 rfl rfl
          have g415 := zz_G.r G_S 1087 5 (-2147483648) 2147483647 rfl rfl
          have g416 := zz_G.r G_S 1087 6 (-2147483648) 2147483647 rfl rfl
          have g417 := zz_G.r G_S 1087 7 (-2147483648) 2147483647 rfl rfl
          have g418 := zz_G.r G_S 1087 8 (-2147483648) 2147483647 rfl rfl
          have g419 := zz_G.r G_S 1087 9 (-2147483648) 2147483647 rfl rfl
          have g420 := zz_G.r G_S 1087 10 (-2147483648) 2147483647 rfl rfl
          have g421 := zz_G.r G_S 1087 11 (-2147483648) 2147483647 rfl rfl
          refine zz_less (ls1 := [some (.ref 1079), none, none, some (zi x3), some (zi 0), some (zi (x5 + 1))]) ⟨rfl, ⟨rfl, ⟨rfl, ⟨rfl, trivial⟩⟩⟩⟩ ?_
          exact k115 x3 0 (x5 + 1) S G_S F_S (by omega) (by omega) (by omega) (by omega) (by omega) (by omega) (by omega) (by omega) (by omega) (by omega) (by omega) (by omega) (by omega) (by omega) (by omega) (by omega) (by omega) (by omega)
        · refine zz_iload_n (x := x3) rfl zd_14_24_141 ?_
          refine zz_iload (x := x5) rfl zd_14_24_142 ?_
          refine zz_callSI [zi x3, zi x5] zd_14_24_144 zk_Md_240 rfl rfl ⟨Nat.le_of_ble_eq_true rfl, Nat.le_of_ble_eq_true rfl⟩ ⟨rfl, rfl⟩ (Nat.zero_le _) (Nat.zero_le _) (zc_names_14_23 x3 x5 S n hn G_S (by omega) (by omega)) (fun v423 S422 hP => ?_)
          obtain ⟨rfl, o424⟩ := hP
          rcases (by omega : v423 = 0 ∨ v423 = 1) with rfl | rfl
          · refine zz_if_ne (by omega) zd_14_24_147 (fun c425 => ?_) (fun c425 => ?_)
            · exfalso; omega
            · refine zz_aload_n (x := 1079) rfl zd_14_24_150 ?_
              refine zz_getr (kd := 0) (z := 1087) zd_14_24_151 zf_Md_36 zT_1079 rfl (zz_ltn hn rfl) (zz_G.eq G_S 1079 11 1087 rfl rfl) (by decide) 1087 rfl ?_
              refine zz_iload (x := x5) rfl zd_14_24_154 ?_
              have g426 := zz_G.r G_S 1087 x5.toNat (-2147483648) 2147483647 rfl rfl
              refine zz_iald (z := S 1087 x5.toNat) zd_14_24_156 zT_1087 rfl (zz_ltn hn rfl) (by decide) (by omega) rfl ?_
              refine zz_if_eq (by omega) zd_14_24_157 (fun c427 => ?_) (fun c427 => ?_)
              · refine zz_iconst zd_14_24_164 ?_
                refine zz_istore [some (.ref 1079), none, none, some (zi x3), some (zi 0), some (zi x5)] zd_14_24_165 (by decide) rfl ?_
                refine zz_iinc [some (.ref 1079), none, none, some (zi x3), some (zi 0), some (zi (x5 + 1))] zd_14_24_167 rfl rfl ?_
                refine zz_goto zd_14_24_170 ?_
                have g428 := zz_G.r G_S 1087 0 (-2147483648) 2147483647 rfl rfl
                have g429 := zz_G.r G_S 1087 1 (-2147483648) 2147483647 rfl rfl
                have g430 := zz_G.r G_S 1087 2 (-2147483648) 2147483647 rfl rfl
                have g431 := zz_G.r G_S 1087 3 (-2147483648) 2147483647 rfl rfl
                have g432 := zz_G.r G_S 1087 4 (-2147483648) 2147483647 rfl rfl
                have g433 := zz_G.r G_S 1087 5 (-2147483648) 2147483647 rfl rfl
                have g434 := zz_G.r G_S 1087 6 (-2147483648) 2147483647 rfl rfl
                have g435 := zz_G.r G_S 1087 7 (-2147483648) 2147483647 rfl rfl
                have g436 := zz_G.r G_S 1087 8 (-2147483648) 2147483647 rfl rfl
                have g437 := zz_G.r G_S 1087 9 (-2147483648) 2147483647 rfl rfl
                have g438 := zz_G.r G_S 1087 10 (-2147483648) 2147483647 rfl rfl
                have g439 := zz_G.r G_S 1087 11 (-2147483648) 2147483647 rfl rfl
                refine zz_less (ls1 := [some (.ref 1079), none, none, some (zi x3), some (zi 0), some (zi (x5 + 1))]) ⟨rfl, ⟨rfl, ⟨rfl, ⟨rfl, trivial⟩⟩⟩⟩ ?_
                exact k115 x3 0 (x5 + 1) S G_S F_S (by omega) (by omega) (by omega) (by omega) (by omega) (by omega) (by omega) (by omega) (by omega) (by omega) (by omega) (by omega) (by omega) (by omega) (by omega) (by omega) (by omega) (by omega)
              · refine zz_iconst zd_14_24_160 ?_
                refine zz_goto zd_14_24_161 ?_
                refine zz_istore [some (.ref 1079), none, none, some (zi x3), some (zi 1), some (zi x5)] zd_14_24_165 (by decide) rfl ?_
                refine zz_iinc [some (.ref 1079), none, none, some (zi x3), some (zi 1), some (zi (x5 + 1))] zd_14_24_167 rfl rfl ?_
                refine zz_goto zd_14_24_170 ?_
                have g440 := zz_G.r G_S 1087 0 (-2147483648) 2147483647 rfl rfl
                have g441 := zz_G.r G_S 1087 1 (-2147483648) 2147483647 rfl rfl
                have g442 := zz_G.r G_S 1087 2 (-2147483648) 2147483647 rfl rfl
                have g443 := zz_G.r G_S 1087 3 (-2147483648) 2147483647 rfl rfl
                have g444 := zz_G.r G_S 1087 4 (-2147483648) 2147483647 rfl rfl
                have g445 := zz_G.r G_S 1087 5 (-2147483648) 2147483647 rfl rfl
                have g446 := zz_G.r G_S 1087 6 (-2147483648) 2147483647 rfl rfl
                have g447 := zz_G.r G_S 1087 7 (-2147483648) 2147483647 rfl rfl
                have g448 := zz_G.r G_S 1087 8 (-2147483648) 2147483647 rfl rfl
                have g449 := zz_G.r G_S 1087 9 (-2147483648) 2147483647 rfl rfl
                have g450 := zz_G.r G_S 1087 10 (-2147483648) 2147483647 rfl rfl
                have g451 := zz_G.r G_S 1087 11 (-2147483648) 2147483647 rfl rfl
                refine zz_less (ls1 := [some (.ref 1079), none, none, some (zi x3), some (zi 1), some (zi (x5 + 1))]) ⟨rfl, ⟨rfl, ⟨rfl, ⟨rfl, trivial⟩⟩⟩⟩ ?_
                exact k115 x3 1 (x5 + 1) S G_S F_S (by omega) (by omega) (by omega) (by omega) (by omega) (by omega) (by omega) (by omega) (by omega) (by omega) (by omega) (by omega) (by omega) (by omega) (by omega) (by omega) (by omega) (by omega)
          · refine zz_if_ne (by omega) zd_14_24_147 (fun c452 => ?_) (fun c452 => ?_)
            · refine zz_iconst zd_14_24_164 ?_
              refine zz_istore [some (.ref 1079), none, none, some (zi x3), some (zi 0), some (zi x5)] zd_14_24_165 (by decide) rfl ?_
              refine zz_iinc [some (.ref 1079), none, none, some (zi x3), some (zi 0), some (zi (x5 + 1))] zd_14_24_167 rfl rfl ?_
              refine zz_goto zd_14_24_170 ?_
              have g453 := zz_G.r G_S 1087 0 (-2147483648) 2147483647 rfl rfl
              have g454 := zz_G.r G_S 1087 1 (-2147483648) 2147483647 rfl rfl
              have g455 := zz_G.r G_S 1087 2 (-2147483648) 2147483647 rfl rfl
              have g456 := zz_G.r G_S 1087 3 (-2147483648) 2147483647 rfl rfl
              have g457 := zz_G.r G_S 1087 4 (-2147483648) 2147483647 rfl rfl
              have g458 := zz_G.r G_S 1087 5 (-2147483648) 2147483647 rfl rfl
              have g459 := zz_G.r G_S 1087 6 (-2147483648) 2147483647 rfl rfl
              have g460 := zz_G.r G_S 1087 7 (-2147483648) 2147483647 rfl rfl
              have g461 := zz_G.r G_S 1087 8 (-2147483648) 2147483647 rfl rfl
              have g462 := zz_G.r G_S 1087 9 (-2147483648) 2147483647 rfl rfl
              have g463 := zz_G.r G_S 1087 10 (-2147483648) 2147483647 rfl rfl
              have g464 := zz_G.r G_S 1087 11 (-2147483648) 2147483647 rfl rfl
              refine zz_less (ls1 := [some (.ref 1079), none, none, some (zi x3), some (zi 0), some (zi (x5 + 1))]) ⟨rfl, ⟨rfl, ⟨rfl, ⟨rfl, trivial⟩⟩⟩⟩ ?_
              exact k115 x3 0 (x5 + 1) S G_S F_S (by omega) (by omega) (by omega) (by omega) (by omega) (by omega) (by omega) (by omega) (by omega) (by omega) (by omega) (by omega) (by omega) (by omega) (by omega) (by omega) (by omega) (by omega)
            · exfalso; omega
theorem zb_isIllegal_14_24_296 {g : mm_G} {l : Launch} (p0 : Int) (S0 : zz_S) (n : Nat) (hn : zz_end ≤ n) (G_S0 : zz_G S0) (hp0 : (-9223372036854775808) ≤ p0 ∧ p0 ≤ 9223372036854775807) (x4 : Int) (S : zz_S) (G_S : zz_G S) (F_S : zz_fr [(1087, 0), (1087, 1), (1087, 2), (1087, 3), (1087, 4), (1087, 5), (1087, 6), (1087, 7), (1087, 8), (1087, 9), (1087, 10), (1087, 11), (1088, 0), (1088, 1), (1088, 2), (1088, 3), (1088, 4), (1088, 5), (1088, 6), (1088, 7), (1088, 8), (1088, 9), (1089, 0), (1089, 1), (1089, 2), (1089, 3), (1089, 4), (1089, 5), (1089, 6), (1089, 7), (1089, 8), (1089, 9)] [] (fun _ _ => False) S0 S) (i296_0 : 0 ≤ x4 ∧ x4 ≤ 1) (i296_1 : (S 1087 0 = zz_fx p0 0 15) ∧ 0 ≤ S 1087 0 ∧ S 1087 0 ≤ 15) (i296_2 : (S 1087 1 = zz_fx p0 4 1) ∧ 0 ≤ S 1087 1 ∧ S 1087 1 ≤ 1) (i296_3 : (S 1087 2 = zz_fx p0 5 1) ∧ 0 ≤ S 1087 2 ∧ S 1087 2 ≤ 1) (i296_4 : (S 1087 3 = zz_fx p0 6 1) ∧ 0 ≤ S 1087 3 ∧ S 1087 3 ≤ 1) (i296_5 : (S 1087 4 = zz_fx p0 7 1) ∧ 0 ≤ S 1087 4 ∧ S 1087 4 ≤ 1) (i296_6 : (S 1087 5 = zz_fx p0 8 4095) ∧ 0 ≤ S 1087 5 ∧ S 1087 5 ≤ 4095) (i296_7 : (S 1087 6 = zz_fx p0 20 63) ∧ 0 ≤ S 1087 6 ∧ S 1087 6 ≤ 63) (i296_8 : (S 1087 7 = zz_fx p0 26 31) ∧ 0 ≤ S 1087 7 ∧ S 1087 7 ≤ 31) (i296_9 : (S 1087 8 = zz_fx p0 31 511) ∧ 0 ≤ S 1087 8 ∧ S 1087 8 ≤ 511) (i296_10 : (S 1087 9 = zz_fx p0 40 511) ∧ 0 ≤ S 1087 9 ∧ S 1087 9 ≤ 511) (i296_11 : (S 1087 10 = zz_fx p0 49 1023) ∧ 0 ≤ S 1087 10 ∧ S 1087 10 ≤ 1023) (i296_12 : (S 1087 11 = zz_fx p0 59 31) ∧ 0 ≤ S 1087 11 ∧ S 1087 11 ≤ 31) (i296_13 : 1 ≤ S 1087 0 ∧ S 1087 0 ≤ 9) (i296_14 : (S 1087 0 = 9 ∧ S 1087 6 = 0 ∧ S 1087 7 = 0) ∨ (S 1087 0 ≠ 9 ∧ 1 ≤ S 1087 6 ∧ 1 ≤ S 1087 7 ∧ S 1087 7 ≤ S0 1079 1)) (i296_15 : S 1087 0 = 5 → 1 ≤ S 1087 11 / 2 ∧ S 1087 11 / 2 ≤ S0 1079 1) (R : Nat) (hR : (17179869184 + 0) = R)  : zz_E g l zy_isIllegal_14_24 zr_isIllegal_14_24 (zz_QI n (zp_isIllegal_14_24 p0 S0)) S n 296 [some (.ref 1079), none, none, none, some (zi x4)] [] 0 0 := by
  refine zz_aload_n (x := 1079) rfl zd_14_24_296 ?_
  have g465 := zz_G.r G_S 1087 0 (-2147483648) 2147483647 rfl rfl
  have g466 := zz_G.r G_S 1087 1 (-2147483648) 2147483647 rfl rfl
  have g467 := zz_G.r G_S 1087 2 (-2147483648) 2147483647 rfl rfl
  have g468 := zz_G.r G_S 1087 3 (-2147483648) 2147483647 rfl rfl
  have g469 := zz_G.r G_S 1087 4 (-2147483648) 2147483647 rfl rfl
  have g470 := zz_G.r G_S 1087 5 (-2147483648) 2147483647 rfl rfl
  have g471 := zz_G.r G_S 1087 6 (-2147483648) 2147483647 rfl rfl
  have g472 := zz_G.r G_S 1087 7 (-2147483648) 2147483647 rfl rfl
  have g473 := zz_G.r G_S 1087 8 (-2147483648) 2147483647 rfl rfl
  have g474 := zz_G.r G_S 1087 9 (-2147483648) 2147483647 rfl rfl
  have g475 := zz_G.r G_S 1087 10 (-2147483648) 2147483647 rfl rfl
  have g476 := zz_G.r G_S 1087 11 (-2147483648) 2147483647 rfl rfl
  have g477 := zz_G.r G_S0 1079 1 2 8 rfl rfl
  have e478 : S 1079 1 = S0 1079 1 := (zz_rc F_S rfl rfl (fun h => h) rfl)
  have g479 := zz_G.r G_S 1088 1 (-2147483648) 2147483647 rfl rfl
  have g480 := zz_G.r G_S 1089 3 (-2147483648) 2147483647 rfl rfl
  have g481 := zz_G.r G_S 1089 5 (-2147483648) 2147483647 rfl rfl
  have g482 := zz_G.r G_S 1089 7 (-2147483648) 2147483647 rfl rfl
  have g483 := zz_G.r G_S 1088 3 (-2147483648) 2147483647 rfl rfl
  have g484 := zz_G.r G_S 1088 5 (-2147483648) 2147483647 rfl rfl
  have g485 := zz_G.r G_S 1088 7 (-2147483648) 2147483647 rfl rfl
  have g486 := zz_G.r G_S 1089 9 (-2147483648) 2147483647 rfl rfl
  have g487 := zz_G.r G_S 1088 9 (-2147483648) 2147483647 rfl rfl
  have g488 := zz_G.r G_S 1089 1 (-2147483648) 2147483647 rfl rfl
  refine zz_callVV [] zd_14_24_297 zk_Md_247 zT_1079 (zz_ltn hn rfl) rfl rfl ⟨Nat.le_of_ble_eq_true rfl, Nat.le_of_ble_eq_true rfl⟩ ⟨rfl, rfl⟩ (Nat.zero_le _) (Nat.zero_le _) (zc_reaches_14_22  S n hn G_S (by omega) (by omega) (by omega) (by omega) (by omega) (by omega) (by omega) (by omega) (by omega) (by omega) (by omega) (by omega)) (fun S489 hP => ?_)
  obtain ⟨G_S489, fS489, o491, o492, o493, o494, o495, o496, o497, o498⟩ := hP
  rw [show S 1079 1 = S0 1079 1 from (zz_rc F_S rfl rfl (fun h => h) rfl)] at o491
  rw [show S 1079 1 = S0 1079 1 from (zz_rc F_S rfl rfl (fun h => h) rfl)] at o492
  rw [show S 1079 1 = S0 1079 1 from (zz_rc F_S rfl rfl (fun h => h) rfl)] at o493
  rw [show S 1079 1 = S0 1079 1 from (zz_rc F_S rfl rfl (fun h => h) rfl)] at o494
  rw [show S 1079 1 = S0 1079 1 from (zz_rc F_S rfl rfl (fun h => h) rfl)] at o495
  rw [show S 1079 1 = S0 1079 1 from (zz_rc F_S rfl rfl (fun h => h) rfl)] at o496
  rw [show S 1079 1 = S0 1079 1 from (zz_rc F_S rfl rfl (fun h => h) rfl)] at o497
  rw [show S 1079 1 = S0 1079 1 from (zz_rc F_S rfl rfl (fun h => h) rfl)] at o498
  have F_S489 := zz_fr.trans F_S fS489 rfl zz_nv
  refine zz_iconst zd_14_24_300 ?_
  refine zz_istore [some (.ref 1079), none, none, none, some (zi x4), none, some (zi 0)] zd_14_24_301 (by decide) rfl ?_
  refine zz_iload (x := 0) rfl zd_14_24_303 ?_
  refine zz_iconst zd_14_24_305 ?_
  refine zz_icmp_ge (by omega) (by omega) zd_14_24_306 (fun c499 => ?_) (fun c499 => ?_)
  · exfalso; omega
  · refine zz_iload (x := x4) rfl zd_14_24_309 ?_
    refine zz_if_ne (by omega) zd_14_24_311 (fun c500 => ?_) (fun c500 => ?_)
    · refine zz_iconst zd_14_24_352 ?_
      refine zz_goto zd_14_24_353 ?_
      refine zz_istore [some (.ref 1079), none, none, none, some (zi 1), none, some (zi 0)] zd_14_24_357 (by decide) rfl ?_
      refine zz_iinc [some (.ref 1079), none, none, none, some (zi 1), none, some (zi 1)] zd_14_24_359 rfl rfl ?_
      refine zz_goto zd_14_24_362 ?_
      refine zz_iload (x := 1) rfl zd_14_24_303 ?_
      refine zz_iconst zd_14_24_305 ?_
      refine zz_icmp_ge (by omega) (by omega) zd_14_24_306 (fun c501 => ?_) (fun c501 => ?_)
      · exfalso; omega
      · refine zz_iload (x := 1) rfl zd_14_24_309 ?_
        refine zz_if_ne (by omega) zd_14_24_311 (fun c502 => ?_) (fun c502 => ?_)
        · refine zz_iconst zd_14_24_352 ?_
          refine zz_goto zd_14_24_353 ?_
          refine zz_istore [some (.ref 1079), none, none, none, some (zi 1), none, some (zi 1)] zd_14_24_357 (by decide) rfl ?_
          refine zz_iinc [some (.ref 1079), none, none, none, some (zi 1), none, some (zi 2)] zd_14_24_359 rfl rfl ?_
          refine zz_goto zd_14_24_362 ?_
          refine zz_iload (x := 2) rfl zd_14_24_303 ?_
          refine zz_iconst zd_14_24_305 ?_
          refine zz_icmp_ge (by omega) (by omega) zd_14_24_306 (fun c503 => ?_) (fun c503 => ?_)
          · exfalso; omega
          · refine zz_iload (x := 1) rfl zd_14_24_309 ?_
            refine zz_if_ne (by omega) zd_14_24_311 (fun c504 => ?_) (fun c504 => ?_)
            · refine zz_iconst zd_14_24_352 ?_
              refine zz_goto zd_14_24_353 ?_
              refine zz_istore [some (.ref 1079), none, none, none, some (zi 1), none, some (zi 2)] zd_14_24_357 (by decide) rfl ?_
              refine zz_iinc [some (.ref 1079), none, none, none, some (zi 1), none, some (zi 3)] zd_14_24_359 rfl rfl ?_
              refine zz_goto zd_14_24_362 ?_
              refine zz_iload (x := 3) rfl zd_14_24_303 ?_
              refine zz_iconst zd_14_24_305 ?_
              refine zz_icmp_ge (by omega) (by omega) zd_14_24_306 (fun c505 => ?_) (fun c505 => ?_)
              · exfalso; omega
              · refine zz_iload (x := 1) rfl zd_14_24_309 ?_
                refine zz_if_ne (by omega) zd_14_24_311 (fun c506 => ?_) (fun c506 => ?_)
                · refine zz_iconst zd_14_24_352 ?_
                  refine zz_goto zd_14_24_353 ?_
                  refine zz_istore [some (.ref 1079), none, none, none, some (zi 1), none, some (zi 3)] zd_14_24_357 (by decide) rfl ?_
                  refine zz_iinc [some (.ref 1079), none, none, none, some (zi 1), none, some (zi 4)] zd_14_24_359 rfl rfl ?_
                  refine zz_goto zd_14_24_362 ?_
                  refine zz_iload (x := 4) rfl zd_14_24_303 ?_
                  refine zz_iconst zd_14_24_305 ?_
                  refine zz_icmp_ge (by omega) (by omega) zd_14_24_306 (fun c507 => ?_) (fun c507 => ?_)
                  · exfalso; omega
                  · refine zz_iload (x := 1) rfl zd_14_24_309 ?_
                    refine zz_if_ne (by omega) zd_14_24_311 (fun c508 => ?_) (fun c508 => ?_)
                    · refine zz_iconst zd_14_24_352 ?_
                      refine zz_goto zd_14_24_353 ?_
                      refine zz_istore [some (.ref 1079), none, none, none, some (zi 1), none, some (zi 4)] zd_14_24_357 (by decide) rfl ?_
                      refine zz_iinc [some (.ref 1079), none, none, none, some (zi 1), none, some (zi 5)] zd_14_24_359 rfl rfl ?_
                      refine zz_goto zd_14_24_362 ?_
                      refine zz_iload (x := 5) rfl zd_14_24_303 ?_
                      refine zz_iconst zd_14_24_305 ?_
                      refine zz_icmp_ge (by omega) (by omega) zd_14_24_306 (fun c509 => ?_) (fun c509 => ?_)
                      · refine zz_iload (x := 1) rfl zd_14_24_365 ?_
                        exact zz_zret zd_14_24_367 rfl (by omega) (Nat.zero_le _) (Nat.zero_le _) ⟨_, _, rfl, G_S489, F_S489, by omega, fun hr => absurd hr (by decide)⟩
                      · exfalso; omega
                    · exfalso; omega
                · exfalso; omega
            · exfalso; omega
        · exfalso; omega
    · refine zz_aload_n (x := 1079) rfl zd_14_24_314 ?_
      refine zz_getr (kd := 0) (z := 1088) zd_14_24_315 zf_Md_39 zT_1079 rfl (zz_ltn hn rfl) (zz_G.eq G_S489 1079 12 1088 rfl rfl) (by decide) 1088 rfl ?_
      refine zz_iconst zd_14_24_318 ?_
      refine zz_iload (x := 0) rfl zd_14_24_319 ?_
      refine zz_imul zd_14_24_321 ?_
      refine zz_eqv (v := 0) (by decide) ?_
      refine zz_iconst zd_14_24_322 ?_
      refine zz_iadd zd_14_24_323 ?_
      refine zz_eqv (v := 1) (by decide) ?_
      have g510 := zz_G.r G_S489 1088 1 (-2147483648) 2147483647 rfl rfl
      refine zz_iald (z := S489 1088 1) zd_14_24_324 zT_1088 rfl (zz_ltn hn rfl) (by decide) (by decide) rfl ?_
      refine zz_iload (x := 0) rfl zd_14_24_325 ?_
      refine zz_callSI [zi 0] zd_14_24_327 zk_Md_212 rfl rfl ⟨Nat.le_of_ble_eq_true rfl, Nat.le_of_ble_eq_true rfl⟩ ⟨rfl, rfl⟩ (Nat.zero_le _) (Nat.zero_le _) (zc_roomOf_14_9 0 S489 n hn G_S489 (by omega)) (fun v512 S511 hP => ?_)
      obtain ⟨rfl, o513, o514⟩ := hP
      obtain rfl : v512 = 4096 := by omega
      refine zz_icmp_ge (by omega) (by omega) zd_14_24_330 (fun c515 => ?_) (fun c515 => ?_)
      · refine zz_iconst zd_14_24_352 ?_
        refine zz_goto zd_14_24_353 ?_
        refine zz_istore [some (.ref 1079), none, none, none, some (zi 1), none, some (zi 0)] zd_14_24_357 (by decide) rfl ?_
        refine zz_iinc [some (.ref 1079), none, none, none, some (zi 1), none, some (zi 1)] zd_14_24_359 rfl rfl ?_
        refine zz_goto zd_14_24_362 ?_
        refine zz_iload (x := 1) rfl zd_14_24_303 ?_
        refine zz_iconst zd_14_24_305 ?_
        refine zz_icmp_ge (by omega) (by omega) zd_14_24_306 (fun c516 => ?_) (fun c516 => ?_)
        · exfalso; omega
        · refine zz_iload (x := 1) rfl zd_14_24_309 ?_
          refine zz_if_ne (by omega) zd_14_24_311 (fun c517 => ?_) (fun c517 => ?_)
          · refine zz_iconst zd_14_24_352 ?_
            refine zz_goto zd_14_24_353 ?_
            refine zz_istore [some (.ref 1079), none, none, none, some (zi 1), none, some (zi 1)] zd_14_24_357 (by decide) rfl ?_
            refine zz_iinc [some (.ref 1079), none, none, none, some (zi 1), none, some (zi 2)] zd_14_24_359 rfl rfl ?_
            refine zz_goto zd_14_24_362 ?_
            refine zz_iload (x := 2) rfl zd_14_24_303 ?_
            refine zz_iconst zd_14_24_305 ?_
            refine zz_icmp_ge (by omega) (by omega) zd_14_24_306 (fun c518 => ?_) (fun c518 => ?_)
            · exfalso; omega
            · refine zz_iload (x := 1) rfl zd_14_24_309 ?_
              refine zz_if_ne (by omega) zd_14_24_311 (fun c519 => ?_) (fun c519 => ?_)
              · refine zz_iconst zd_14_24_352 ?_
                refine zz_goto zd_14_24_353 ?_
                refine zz_istore [some (.ref 1079), none, none, none, some (zi 1), none, some (zi 2)] zd_14_24_357 (by decide) rfl ?_
                refine zz_iinc [some (.ref 1079), none, none, none, some (zi 1), none, some (zi 3)] zd_14_24_359 rfl rfl ?_
                refine zz_goto zd_14_24_362 ?_
                refine zz_iload (x := 3) rfl zd_14_24_303 ?_
                refine zz_iconst zd_14_24_305 ?_
                refine zz_icmp_ge (by omega) (by omega) zd_14_24_306 (fun c520 => ?_) (fun c520 => ?_)
                · exfalso; omega
                · refine zz_iload (x := 1) rfl zd_14_24_309 ?_
                  refine zz_if_ne (by omega) zd_14_24_311 (fun c521 => ?_) (fun c521 => ?_)
                  · refine zz_iconst zd_14_24_352 ?_
                    refine zz_goto zd_14_24_353 ?_
                    refine zz_istore [some (.ref 1079), none, none, none, some (zi 1), none, some (zi 3)] zd_14_24_357 (by decide) rfl ?_
                    refine zz_iinc [some (.ref 1079), none, none, none, some (zi 1), none, some (zi 4)] zd_14_24_359 rfl rfl ?_
                    refine zz_goto zd_14_24_362 ?_
                    refine zz_iload (x := 4) rfl zd_14_24_303 ?_
                    refine zz_iconst zd_14_24_305 ?_
                    refine zz_icmp_ge (by omega) (by omega) zd_14_24_306 (fun c522 => ?_) (fun c522 => ?_)
                    · exfalso; omega
                    · refine zz_iload (x := 1) rfl zd_14_24_309 ?_
                      refine zz_if_ne (by omega) zd_14_24_311 (fun c523 => ?_) (fun c523 => ?_)
                      · refine zz_iconst zd_14_24_352 ?_
                        refine zz_goto zd_14_24_353 ?_
                        refine zz_istore [some (.ref 1079), none, none, none, some (zi 1), none, some (zi 4)] zd_14_24_357 (by decide) rfl ?_
                        refine zz_iinc [some (.ref 1079), none, none, none, some (zi 1), none, some (zi 5)] zd_14_24_359 rfl rfl ?_
                        refine zz_goto zd_14_24_362 ?_
                        refine zz_iload (x := 5) rfl zd_14_24_303 ?_
                        refine zz_iconst zd_14_24_305 ?_
                        refine zz_icmp_ge (by omega) (by omega) zd_14_24_306 (fun c524 => ?_) (fun c524 => ?_)
                        · refine zz_iload (x := 1) rfl zd_14_24_365 ?_
                          exact zz_zret zd_14_24_367 rfl (by omega) (Nat.zero_le _) (Nat.zero_le _) ⟨_, _, rfl, G_S489, F_S489, by omega, fun hr => absurd hr (by decide)⟩
                        · exfalso; omega
                      · exfalso; omega
                  · exfalso; omega
              · exfalso; omega
          · exfalso; omega
      · refine zz_aload_n (x := 1079) rfl zd_14_24_333 ?_
        refine zz_getr (kd := 0) (z := 1089) zd_14_24_334 zf_Md_42 zT_1079 rfl (zz_ltn hn rfl) (zz_G.eq G_S489 1079 13 1089 rfl rfl) (by decide) 1089 rfl ?_
        refine zz_iconst zd_14_24_337 ?_
        refine zz_iload (x := 0) rfl zd_14_24_338 ?_
        refine zz_imul zd_14_24_340 ?_
        refine zz_eqv (v := 0) (by decide) ?_
        refine zz_iconst zd_14_24_341 ?_
        refine zz_iadd zd_14_24_342 ?_
        refine zz_eqv (v := 1) (by decide) ?_
        have g525 := zz_G.r G_S489 1089 1 (-2147483648) 2147483647 rfl rfl
        refine zz_iald (z := S489 1089 1) zd_14_24_343 zT_1089 rfl (zz_ltn hn rfl) (by decide) (by decide) rfl ?_
        refine zz_iload (x := 0) rfl zd_14_24_344 ?_
        refine zz_callSI [zi 0] zd_14_24_346 zk_Md_212 rfl rfl ⟨Nat.le_of_ble_eq_true rfl, Nat.le_of_ble_eq_true rfl⟩ ⟨rfl, rfl⟩ (Nat.zero_le _) (Nat.zero_le _) (zc_roomOf_14_9 0 S489 n hn G_S489 (by omega)) (fun v527 S526 hP => ?_)
        obtain ⟨rfl, o528, o529⟩ := hP
        obtain rfl : v527 = 4096 := by omega
        refine zz_icmp_lt (by omega) (by omega) zd_14_24_349 (fun c530 => ?_) (fun c530 => ?_)
        · refine zz_iconst zd_14_24_356 ?_
          refine zz_istore [some (.ref 1079), none, none, none, some (zi 0), none, some (zi 0)] zd_14_24_357 (by decide) rfl ?_
          refine zz_iinc [some (.ref 1079), none, none, none, some (zi 0), none, some (zi 1)] zd_14_24_359 rfl rfl ?_
          refine zz_goto zd_14_24_362 ?_
          refine zz_iload (x := 1) rfl zd_14_24_303 ?_
          refine zz_iconst zd_14_24_305 ?_
          refine zz_icmp_ge (by omega) (by omega) zd_14_24_306 (fun c531 => ?_) (fun c531 => ?_)
          · exfalso; omega
          · refine zz_iload (x := 0) rfl zd_14_24_309 ?_
            refine zz_if_ne (by omega) zd_14_24_311 (fun c532 => ?_) (fun c532 => ?_)
            · exfalso; omega
            · refine zz_aload_n (x := 1079) rfl zd_14_24_314 ?_
              refine zz_getr (kd := 0) (z := 1088) zd_14_24_315 zf_Md_39 zT_1079 rfl (zz_ltn hn rfl) (zz_G.eq G_S489 1079 12 1088 rfl rfl) (by decide) 1088 rfl ?_
              refine zz_iconst zd_14_24_318 ?_
              refine zz_iload (x := 1) rfl zd_14_24_319 ?_
              refine zz_imul zd_14_24_321 ?_
              refine zz_eqv (v := 2) (by decide) ?_
              refine zz_iconst zd_14_24_322 ?_
              refine zz_iadd zd_14_24_323 ?_
              refine zz_eqv (v := 3) (by decide) ?_
              have g533 := zz_G.r G_S489 1088 3 (-2147483648) 2147483647 rfl rfl
              refine zz_iald (z := S489 1088 3) zd_14_24_324 zT_1088 rfl (zz_ltn hn rfl) (by decide) (by decide) rfl ?_
              refine zz_iload (x := 1) rfl zd_14_24_325 ?_
              refine zz_callSI [zi 1] zd_14_24_327 zk_Md_212 rfl rfl ⟨Nat.le_of_ble_eq_true rfl, Nat.le_of_ble_eq_true rfl⟩ ⟨rfl, rfl⟩ (Nat.zero_le _) (Nat.zero_le _) (zc_roomOf_14_9 1 S489 n hn G_S489 (by omega)) (fun v535 S534 hP => ?_)
              obtain ⟨rfl, o536, o537⟩ := hP
              obtain rfl : v535 = 512 := by omega
              refine zz_icmp_ge (by omega) (by omega) zd_14_24_330 (fun c538 => ?_) (fun c538 => ?_)
              · refine zz_iconst zd_14_24_352 ?_
                refine zz_goto zd_14_24_353 ?_
                refine zz_istore [some (.ref 1079), none, none, none, some (zi 1), none, some (zi 1)] zd_14_24_357 (by decide) rfl ?_
                refine zz_iinc [some (.ref 1079), none, none, none, some (zi 1), none, some (zi 2)] zd_14_24_359 rfl rfl ?_
                refine zz_goto zd_14_24_362 ?_
                refine zz_iload (x := 2) rfl zd_14_24_303 ?_
                refine zz_iconst zd_14_24_305 ?_
                refine zz_icmp_ge (by omega) (by omega) zd_14_24_306 (fun c539 => ?_) (fun c539 => ?_)
                · exfalso; omega
                · refine zz_iload (x := 1) rfl zd_14_24_309 ?_
                  refine zz_if_ne (by omega) zd_14_24_311 (fun c540 => ?_) (fun c540 => ?_)
                  · refine zz_iconst zd_14_24_352 ?_
                    refine zz_goto zd_14_24_353 ?_
                    refine zz_istore [some (.ref 1079), none, none, none, some (zi 1), none, some (zi 2)] zd_14_24_357 (by decide) rfl ?_
                    refine zz_iinc [some (.ref 1079), none, none, none, some (zi 1), none, some (zi 3)] zd_14_24_359 rfl rfl ?_
                    refine zz_goto zd_14_24_362 ?_
                    refine zz_iload (x := 3) rfl zd_14_24_303 ?_
                    refine zz_iconst zd_14_24_305 ?_
                    refine zz_icmp_ge (by omega) (by omega) zd_14_24_306 (fun c541 => ?_) (fun c541 => ?_)
                    · exfalso; omega
                    · refine zz_iload (x := 1) rfl zd_14_24_309 ?_
                      refine zz_if_ne (by omega) zd_14_24_311 (fun c542 => ?_) (fun c542 => ?_)
                      · refine zz_iconst zd_14_24_352 ?_
                        refine zz_goto zd_14_24_353 ?_
                        refine zz_istore [some (.ref 1079), none, none, none, some (zi 1), none, some (zi 3)] zd_14_24_357 (by decide) rfl ?_
                        refine zz_iinc [some (.ref 1079), none, none, none, some (zi 1), none, some (zi 4)] zd_14_24_359 rfl rfl ?_
                        refine zz_goto zd_14_24_362 ?_
                        refine zz_iload (x := 4) rfl zd_14_24_303 ?_
                        refine zz_iconst zd_14_24_305 ?_
                        refine zz_icmp_ge (by omega) (by omega) zd_14_24_306 (fun c543 => ?_) (fun c543 => ?_)
                        · exfalso; omega
                        · refine zz_iload (x := 1) rfl zd_14_24_309 ?_
                          refine zz_if_ne (by omega) zd_14_24_311 (fun c544 => ?_) (fun c544 => ?_)
                          · refine zz_iconst zd_14_24_352 ?_
                            refine zz_goto zd_14_24_353 ?_
                            refine zz_istore [some (.ref 1079), none, none, none, some (zi 1), none, some (zi 4)] zd_14_24_357 (by decide) rfl ?_
                            refine zz_iinc [some (.ref 1079), none, none, none, some (zi 1), none, some (zi 5)] zd_14_24_359 rfl rfl ?_
                            refine zz_goto zd_14_24_362 ?_
                            refine zz_iload (x := 5) rfl zd_14_24_303 ?_
                            refine zz_iconst zd_14_24_305 ?_
                            refine zz_icmp_ge (by omega) (by omega) zd_14_24_306 (fun c545 => ?_) (fun c545 => ?_)
                            · refine zz_iload (x := 1) rfl zd_14_24_365 ?_
                              exact zz_zret zd_14_24_367 rfl (by omega) (Nat.zero_le _) (Nat.zero_le _) ⟨_, _, rfl, G_S489, F_S489, by omega, fun hr => absurd hr (by decide)⟩
                            · exfalso; omega
                          · exfalso; omega
                      · exfalso; omega
                  · exfalso; omega
              · refine zz_aload_n (x := 1079) rfl zd_14_24_333 ?_
                refine zz_getr (kd := 0) (z := 1089) zd_14_24_334 zf_Md_42 zT_1079 rfl (zz_ltn hn rfl) (zz_G.eq G_S489 1079 13 1089 rfl rfl) (by decide) 1089 rfl ?_
                refine zz_iconst zd_14_24_337 ?_
                refine zz_iload (x := 1) rfl zd_14_24_338 ?_
                refine zz_imul zd_14_24_340 ?_
                refine zz_eqv (v := 2) (by decide) ?_
                refine zz_iconst zd_14_24_341 ?_
                refine zz_iadd zd_14_24_342 ?_
                refine zz_eqv (v := 3) (by decide) ?_
                have g546 := zz_G.r G_S489 1089 3 (-2147483648) 2147483647 rfl rfl
                refine zz_iald (z := S489 1089 3) zd_14_24_343 zT_1089 rfl (zz_ltn hn rfl) (by decide) (by decide) rfl ?_
                refine zz_iload (x := 1) rfl zd_14_24_344 ?_
                refine zz_callSI [zi 1] zd_14_24_346 zk_Md_212 rfl rfl ⟨Nat.le_of_ble_eq_true rfl, Nat.le_of_ble_eq_true rfl⟩ ⟨rfl, rfl⟩ (Nat.zero_le _) (Nat.zero_le _) (zc_roomOf_14_9 1 S489 n hn G_S489 (by omega)) (fun v548 S547 hP => ?_)
                obtain ⟨rfl, o549, o550⟩ := hP
                obtain rfl : v548 = 512 := by omega
                refine zz_icmp_lt (by omega) (by omega) zd_14_24_349 (fun c551 => ?_) (fun c551 => ?_)
                · refine zz_iconst zd_14_24_356 ?_
                  refine zz_istore [some (.ref 1079), none, none, none, some (zi 0), none, some (zi 1)] zd_14_24_357 (by decide) rfl ?_
                  refine zz_iinc [some (.ref 1079), none, none, none, some (zi 0), none, some (zi 2)] zd_14_24_359 rfl rfl ?_
                  refine zz_goto zd_14_24_362 ?_
                  refine zz_iload (x := 2) rfl zd_14_24_303 ?_
                  refine zz_iconst zd_14_24_305 ?_
                  refine zz_icmp_ge (by omega) (by omega) zd_14_24_306 (fun c552 => ?_) (fun c552 => ?_)
                  · exfalso; omega
                  · refine zz_iload (x := 0) rfl zd_14_24_309 ?_
                    refine zz_if_ne (by omega) zd_14_24_311 (fun c553 => ?_) (fun c553 => ?_)
                    · exfalso; omega
                    · refine zz_aload_n (x := 1079) rfl zd_14_24_314 ?_
                      refine zz_getr (kd := 0) (z := 1088) zd_14_24_315 zf_Md_39 zT_1079 rfl (zz_ltn hn rfl) (zz_G.eq G_S489 1079 12 1088 rfl rfl) (by decide) 1088 rfl ?_
                      refine zz_iconst zd_14_24_318 ?_
                      refine zz_iload (x := 2) rfl zd_14_24_319 ?_
                      refine zz_imul zd_14_24_321 ?_
                      refine zz_eqv (v := 4) (by decide) ?_
                      refine zz_iconst zd_14_24_322 ?_
                      refine zz_iadd zd_14_24_323 ?_
                      refine zz_eqv (v := 5) (by decide) ?_
                      have g554 := zz_G.r G_S489 1088 5 (-2147483648) 2147483647 rfl rfl
                      refine zz_iald (z := S489 1088 5) zd_14_24_324 zT_1088 rfl (zz_ltn hn rfl) (by decide) (by decide) rfl ?_
                      refine zz_iload (x := 2) rfl zd_14_24_325 ?_
                      refine zz_callSI [zi 2] zd_14_24_327 zk_Md_212 rfl rfl ⟨Nat.le_of_ble_eq_true rfl, Nat.le_of_ble_eq_true rfl⟩ ⟨rfl, rfl⟩ (Nat.zero_le _) (Nat.zero_le _) (zc_roomOf_14_9 2 S489 n hn G_S489 (by omega)) (fun v556 S555 hP => ?_)
                      obtain ⟨rfl, o557, o558⟩ := hP
                      obtain rfl : v556 = 512 := by omega
                      refine zz_icmp_ge (by omega) (by omega) zd_14_24_330 (fun c559 => ?_) (fun c559 => ?_)
                      · refine zz_iconst zd_14_24_352 ?_
                        refine zz_goto zd_14_24_353 ?_
                        refine zz_istore [some (.ref 1079), none, none, none, some (zi 1), none, some (zi 2)] zd_14_24_357 (by decide) rfl ?_
                        refine zz_iinc [some (.ref 1079), none, none, none, some (zi 1), none, some (zi 3)] zd_14_24_359 rfl rfl ?_
                        refine zz_goto zd_14_24_362 ?_
                        refine zz_iload (x := 3) rfl zd_14_24_303 ?_
                        refine zz_iconst zd_14_24_305 ?_
                        refine zz_icmp_ge (by omega) (by omega) zd_14_24_306 (fun c560 => ?_) (fun c560 => ?_)
                        · exfalso; omega
                        · refine zz_iload (x := 1) rfl zd_14_24_309 ?_
                          refine zz_if_ne (by omega) zd_14_24_311 (fun c561 => ?_) (fun c561 => ?_)
                          · refine zz_iconst zd_14_24_352 ?_
                            refine zz_goto zd_14_24_353 ?_
                            refine zz_istore [some (.ref 1079), none, none, none, some (zi 1), none, some (zi 3)] zd_14_24_357 (by decide) rfl ?_
                            refine zz_iinc [some (.ref 1079), none, none, none, some (zi 1), none, some (zi 4)] zd_14_24_359 rfl rfl ?_
                            refine zz_goto zd_14_24_362 ?_
                            refine zz_iload (x := 4) rfl zd_14_24_303 ?_
                            refine zz_iconst zd_14_24_305 ?_
                            refine zz_icmp_ge (by omega) (by omega) zd_14_24_306 (fun c562 => ?_) (fun c562 => ?_)
                            · exfalso; omega
                            · refine zz_iload (x := 1) rfl zd_14_24_309 ?_
                              refine zz_if_ne (by omega) zd_14_24_311 (fun c563 => ?_) (fun c563 => ?_)
                              · refine zz_iconst zd_14_24_352 ?_
                                refine zz_goto zd_14_24_353 ?_
                                refine zz_istore [some (.ref 1079), none, none, none, some (zi 1), none, some (zi 4)] zd_14_24_357 (by decide) rfl ?_
                                refine zz_iinc [some (.ref 1079), none, none, none, some (zi 1), none, some (zi 5)] zd_14_24_359 rfl rfl ?_
                                refine zz_goto zd_14_24_362 ?_
                                refine zz_iload (x := 5) rfl zd_14_24_303 ?_
                                refine zz_iconst zd_14_24_305 ?_
                                refine zz_icmp_ge (by omega) (by omega) zd_14_24_306 (fun c564 => ?_) (fun c564 => ?_)
                                · refine zz_iload (x := 1) rfl zd_14_24_365 ?_
                                  exact zz_zret zd_14_24_367 rfl (by omega) (Nat.zero_le _) (Nat.zero_le _) ⟨_, _, rfl, G_S489, F_S489, by omega, fun hr => absurd hr (by decide)⟩
                                · exfalso; omega
                              · exfalso; omega
                          · exfalso; omega
                      · refine zz_aload_n (x := 1079) rfl zd_14_24_333 ?_
                        refine zz_getr (kd := 0) (z := 1089) zd_14_24_334 zf_Md_42 zT_1079 rfl (zz_ltn hn rfl) (zz_G.eq G_S489 1079 13 1089 rfl rfl) (by decide) 1089 rfl ?_
                        refine zz_iconst zd_14_24_337 ?_
                        refine zz_iload (x := 2) rfl zd_14_24_338 ?_
                        refine zz_imul zd_14_24_340 ?_
                        refine zz_eqv (v := 4) (by decide) ?_
                        refine zz_iconst zd_14_24_341 ?_
                        refine zz_iadd zd_14_24_342 ?_
                        refine zz_eqv (v := 5) (by decide) ?_
                        have g565 := zz_G.r G_S489 1089 5 (-2147483648) 2147483647 rfl rfl
                        refine zz_iald (z := S489 1089 5) zd_14_24_343 zT_1089 rfl (zz_ltn hn rfl) (by decide) (by decide) rfl ?_
                        refine zz_iload (x := 2) rfl zd_14_24_344 ?_
                        refine zz_callSI [zi 2] zd_14_24_346 zk_Md_212 rfl rfl ⟨Nat.le_of_ble_eq_true rfl, Nat.le_of_ble_eq_true rfl⟩ ⟨rfl, rfl⟩ (Nat.zero_le _) (Nat.zero_le _) (zc_roomOf_14_9 2 S489 n hn G_S489 (by omega)) (fun v567 S566 hP => ?_)
                        obtain ⟨rfl, o568, o569⟩ := hP
                        obtain rfl : v567 = 512 := by omega
                        refine zz_icmp_lt (by omega) (by omega) zd_14_24_349 (fun c570 => ?_) (fun c570 => ?_)
                        · refine zz_iconst zd_14_24_356 ?_
                          refine zz_istore [some (.ref 1079), none, none, none, some (zi 0), none, some (zi 2)] zd_14_24_357 (by decide) rfl ?_
                          refine zz_iinc [some (.ref 1079), none, none, none, some (zi 0), none, some (zi 3)] zd_14_24_359 rfl rfl ?_
                          refine zz_goto zd_14_24_362 ?_
                          refine zz_iload (x := 3) rfl zd_14_24_303 ?_
                          refine zz_iconst zd_14_24_305 ?_
                          refine zz_icmp_ge (by omega) (by omega) zd_14_24_306 (fun c571 => ?_) (fun c571 => ?_)
                          · exfalso; omega
                          · refine zz_iload (x := 0) rfl zd_14_24_309 ?_
                            refine zz_if_ne (by omega) zd_14_24_311 (fun c572 => ?_) (fun c572 => ?_)
                            · exfalso; omega
                            · refine zz_aload_n (x := 1079) rfl zd_14_24_314 ?_
                              refine zz_getr (kd := 0) (z := 1088) zd_14_24_315 zf_Md_39 zT_1079 rfl (zz_ltn hn rfl) (zz_G.eq G_S489 1079 12 1088 rfl rfl) (by decide) 1088 rfl ?_
                              refine zz_iconst zd_14_24_318 ?_
                              refine zz_iload (x := 3) rfl zd_14_24_319 ?_
                              refine zz_imul zd_14_24_321 ?_
                              refine zz_eqv (v := 6) (by decide) ?_
                              refine zz_iconst zd_14_24_322 ?_
                              refine zz_iadd zd_14_24_323 ?_
                              refine zz_eqv (v := 7) (by decide) ?_
                              have g573 := zz_G.r G_S489 1088 7 (-2147483648) 2147483647 rfl rfl
                              refine zz_iald (z := S489 1088 7) zd_14_24_324 zT_1088 rfl (zz_ltn hn rfl) (by decide) (by decide) rfl ?_
                              refine zz_iload (x := 3) rfl zd_14_24_325 ?_
                              refine zz_callSI [zi 3] zd_14_24_327 zk_Md_212 rfl rfl ⟨Nat.le_of_ble_eq_true rfl, Nat.le_of_ble_eq_true rfl⟩ ⟨rfl, rfl⟩ (Nat.zero_le _) (Nat.zero_le _) (zc_roomOf_14_9 3 S489 n hn G_S489 (by omega)) (fun v575 S574 hP => ?_)
                              obtain ⟨rfl, o576, o577⟩ := hP
                              obtain rfl : v575 = 256 := by omega
                              refine zz_icmp_ge (by omega) (by omega) zd_14_24_330 (fun c578 => ?_) (fun c578 => ?_)
                              · refine zz_iconst zd_14_24_352 ?_
                                refine zz_goto zd_14_24_353 ?_
                                refine zz_istore [some (.ref 1079), none, none, none, some (zi 1), none, some (zi 3)] zd_14_24_357 (by decide) rfl ?_
                                refine zz_iinc [some (.ref 1079), none, none, none, some (zi 1), none, some (zi 4)] zd_14_24_359 rfl rfl ?_
                                refine zz_goto zd_14_24_362 ?_
                                refine zz_iload (x := 4) rfl zd_14_24_303 ?_
                                refine zz_iconst zd_14_24_305 ?_
                                refine zz_icmp_ge (by omega) (by omega) zd_14_24_306 (fun c579 => ?_) (fun c579 => ?_)
                                · exfalso; omega
                                · refine zz_iload (x := 1) rfl zd_14_24_309 ?_
                                  refine zz_if_ne (by omega) zd_14_24_311 (fun c580 => ?_) (fun c580 => ?_)
                                  · refine zz_iconst zd_14_24_352 ?_
                                    refine zz_goto zd_14_24_353 ?_
                                    refine zz_istore [some (.ref 1079), none, none, none, some (zi 1), none, some (zi 4)] zd_14_24_357 (by decide) rfl ?_
                                    refine zz_iinc [some (.ref 1079), none, none, none, some (zi 1), none, some (zi 5)] zd_14_24_359 rfl rfl ?_
                                    refine zz_goto zd_14_24_362 ?_
                                    refine zz_iload (x := 5) rfl zd_14_24_303 ?_
                                    refine zz_iconst zd_14_24_305 ?_
                                    refine zz_icmp_ge (by omega) (by omega) zd_14_24_306 (fun c581 => ?_) (fun c581 => ?_)
                                    · refine zz_iload (x := 1) rfl zd_14_24_365 ?_
                                      exact zz_zret zd_14_24_367 rfl (by omega) (Nat.zero_le _) (Nat.zero_le _) ⟨_, _, rfl, G_S489, F_S489, by omega, fun hr => absurd hr (by decide)⟩
                                    · exfalso; omega
                                  · exfalso; omega
                              · refine zz_aload_n (x := 1079) rfl zd_14_24_333 ?_
                                refine zz_getr (kd := 0) (z := 1089) zd_14_24_334 zf_Md_42 zT_1079 rfl (zz_ltn hn rfl) (zz_G.eq G_S489 1079 13 1089 rfl rfl) (by decide) 1089 rfl ?_
                                refine zz_iconst zd_14_24_337 ?_
                                refine zz_iload (x := 3) rfl zd_14_24_338 ?_
                                refine zz_imul zd_14_24_340 ?_
                                refine zz_eqv (v := 6) (by decide) ?_
                                refine zz_iconst zd_14_24_341 ?_
                                refine zz_iadd zd_14_24_342 ?_
                                refine zz_eqv (v := 7) (by decide) ?_
                                have g582 := zz_G.r G_S489 1089 7 (-2147483648) 2147483647 rfl rfl
                                refine zz_iald (z := S489 1089 7) zd_14_24_343 zT_1089 rfl (zz_ltn hn rfl) (by decide) (by decide) rfl ?_
                                refine zz_iload (x := 3) rfl zd_14_24_344 ?_
                                refine zz_callSI [zi 3] zd_14_24_346 zk_Md_212 rfl rfl ⟨Nat.le_of_ble_eq_true rfl, Nat.le_of_ble_eq_true rfl⟩ ⟨rfl, rfl⟩ (Nat.zero_le _) (Nat.zero_le _) (zc_roomOf_14_9 3 S489 n hn G_S489 (by omega)) (fun v584 S583 hP => ?_)
                                obtain ⟨rfl, o585, o586⟩ := hP
                                obtain rfl : v584 = 256 := by omega
                                refine zz_icmp_lt (by omega) (by omega) zd_14_24_349 (fun c587 => ?_) (fun c587 => ?_)
                                · refine zz_iconst zd_14_24_356 ?_
                                  refine zz_istore [some (.ref 1079), none, none, none, some (zi 0), none, some (zi 3)] zd_14_24_357 (by decide) rfl ?_
                                  refine zz_iinc [some (.ref 1079), none, none, none, some (zi 0), none, some (zi 4)] zd_14_24_359 rfl rfl ?_
                                  refine zz_goto zd_14_24_362 ?_
                                  refine zz_iload (x := 4) rfl zd_14_24_303 ?_
                                  refine zz_iconst zd_14_24_305 ?_
                                  refine zz_icmp_ge (by omega) (by omega) zd_14_24_306 (fun c588 => ?_) (fun c588 => ?_)
                                  · exfalso; omega
                                  · refine zz_iload (x := 0) rfl zd_14_24_309 ?_
                                    refine zz_if_ne (by omega) zd_14_24_311 (fun c589 => ?_) (fun c589 => ?_)
                                    · exfalso; omega
                                    · refine zz_aload_n (x := 1079) rfl zd_14_24_314 ?_
                                      refine zz_getr (kd := 0) (z := 1088) zd_14_24_315 zf_Md_39 zT_1079 rfl (zz_ltn hn rfl) (zz_G.eq G_S489 1079 12 1088 rfl rfl) (by decide) 1088 rfl ?_
                                      refine zz_iconst zd_14_24_318 ?_
                                      refine zz_iload (x := 4) rfl zd_14_24_319 ?_
                                      refine zz_imul zd_14_24_321 ?_
                                      refine zz_eqv (v := 8) (by decide) ?_
                                      refine zz_iconst zd_14_24_322 ?_
                                      refine zz_iadd zd_14_24_323 ?_
                                      refine zz_eqv (v := 9) (by decide) ?_
                                      have g590 := zz_G.r G_S489 1088 9 (-2147483648) 2147483647 rfl rfl
                                      refine zz_iald (z := S489 1088 9) zd_14_24_324 zT_1088 rfl (zz_ltn hn rfl) (by decide) (by decide) rfl ?_
                                      refine zz_iload (x := 4) rfl zd_14_24_325 ?_
                                      refine zz_callSI [zi 4] zd_14_24_327 zk_Md_212 rfl rfl ⟨Nat.le_of_ble_eq_true rfl, Nat.le_of_ble_eq_true rfl⟩ ⟨rfl, rfl⟩ (Nat.zero_le _) (Nat.zero_le _) (zc_roomOf_14_9 4 S489 n hn G_S489 (by omega)) (fun v592 S591 hP => ?_)
                                      obtain ⟨rfl, o593, o594⟩ := hP
                                      obtain rfl : v592 = 256 := by omega
                                      refine zz_icmp_ge (by omega) (by omega) zd_14_24_330 (fun c595 => ?_) (fun c595 => ?_)
                                      · refine zz_iconst zd_14_24_352 ?_
                                        refine zz_goto zd_14_24_353 ?_
                                        refine zz_istore [some (.ref 1079), none, none, none, some (zi 1), none, some (zi 4)] zd_14_24_357 (by decide) rfl ?_
                                        refine zz_iinc [some (.ref 1079), none, none, none, some (zi 1), none, some (zi 5)] zd_14_24_359 rfl rfl ?_
                                        refine zz_goto zd_14_24_362 ?_
                                        refine zz_iload (x := 5) rfl zd_14_24_303 ?_
                                        refine zz_iconst zd_14_24_305 ?_
                                        refine zz_icmp_ge (by omega) (by omega) zd_14_24_306 (fun c596 => ?_) (fun c596 => ?_)
                                        · refine zz_iload (x := 1) rfl zd_14_24_365 ?_
                                          exact zz_zret zd_14_24_367 rfl (by omega) (Nat.zero_le _) (Nat.zero_le _) ⟨_, _, rfl, G_S489, F_S489, by omega, fun hr => absurd hr (by decide)⟩
                                        · exfalso; omega
                                      · refine zz_aload_n (x := 1079) rfl zd_14_24_333 ?_
                                        refine zz_getr (kd := 0) (z := 1089) zd_14_24_334 zf_Md_42 zT_1079 rfl (zz_ltn hn rfl) (zz_G.eq G_S489 1079 13 1089 rfl rfl) (by decide) 1089 rfl ?_
                                        refine zz_iconst zd_14_24_337 ?_
                                        refine zz_iload (x := 4) rfl zd_14_24_338 ?_
                                        refine zz_imul zd_14_24_340 ?_
                                        refine zz_eqv (v := 8) (by decide) ?_
                                        refine zz_iconst zd_14_24_341 ?_
                                        refine zz_iadd zd_14_24_342 ?_
                                        refine zz_eqv (v := 9) (by decide) ?_
                                        have g597 := zz_G.r G_S489 1089 9 (-2147483648) 2147483647 rfl rfl
                                        refine zz_iald (z := S489 1089 9) zd_14_24_343 zT_1089 rfl (zz_ltn hn rfl) (by decide) (by decide) rfl ?_
                                        refine zz_iload (x := 4) rfl zd_14_24_344 ?_
                                        refine zz_callSI [zi 4] zd_14_24_346 zk_Md_212 rfl rfl ⟨Nat.le_of_ble_eq_true rfl, Nat.le_of_ble_eq_true rfl⟩ ⟨rfl, rfl⟩ (Nat.zero_le _) (Nat.zero_le _) (zc_roomOf_14_9 4 S489 n hn G_S489 (by omega)) (fun v599 S598 hP => ?_)
                                        obtain ⟨rfl, o600, o601⟩ := hP
                                        obtain rfl : v599 = 256 := by omega
                                        refine zz_icmp_lt (by omega) (by omega) zd_14_24_349 (fun c602 => ?_) (fun c602 => ?_)
                                        · refine zz_iconst zd_14_24_356 ?_
                                          refine zz_istore [some (.ref 1079), none, none, none, some (zi 0), none, some (zi 4)] zd_14_24_357 (by decide) rfl ?_
                                          refine zz_iinc [some (.ref 1079), none, none, none, some (zi 0), none, some (zi 5)] zd_14_24_359 rfl rfl ?_
                                          refine zz_goto zd_14_24_362 ?_
                                          refine zz_iload (x := 5) rfl zd_14_24_303 ?_
                                          refine zz_iconst zd_14_24_305 ?_
                                          refine zz_icmp_ge (by omega) (by omega) zd_14_24_306 (fun c603 => ?_) (fun c603 => ?_)
                                          · refine zz_iload (x := 0) rfl zd_14_24_365 ?_
                                            exact zz_zret zd_14_24_367 rfl (by omega) (Nat.zero_le _) (Nat.zero_le _) ⟨_, _, rfl, G_S489, F_S489, by omega, fun _ => by unfold zz_lgl; rw [← i296_1.1, ← i296_6.1, ← i296_7.1, ← i296_8.1, ← i296_9.1, ← i296_10.1, ← i296_11.1, ← i296_12.1]; exact zz_lg_mk i296_13 i296_14 i296_15 o491 o492 o493 o494 o495 o496 o497 o498 (by assumption) (by assumption) (by assumption) (by assumption) (by assumption) (by assumption) (by assumption) (by assumption) (by assumption) (by assumption)⟩
                                          · exfalso; omega
                                        · refine zz_iconst zd_14_24_352 ?_
                                          refine zz_goto zd_14_24_353 ?_
                                          refine zz_istore [some (.ref 1079), none, none, none, some (zi 1), none, some (zi 4)] zd_14_24_357 (by decide) rfl ?_
                                          refine zz_iinc [some (.ref 1079), none, none, none, some (zi 1), none, some (zi 5)] zd_14_24_359 rfl rfl ?_
                                          refine zz_goto zd_14_24_362 ?_
                                          refine zz_iload (x := 5) rfl zd_14_24_303 ?_
                                          refine zz_iconst zd_14_24_305 ?_
                                          refine zz_icmp_ge (by omega) (by omega) zd_14_24_306 (fun c604 => ?_) (fun c604 => ?_)
                                          · refine zz_iload (x := 1) rfl zd_14_24_365 ?_
                                            exact zz_zret zd_14_24_367 rfl (by omega) (Nat.zero_le _) (Nat.zero_le _) ⟨_, _, rfl, G_S489, F_S489, by omega, fun hr => absurd hr (by decide)⟩
                                          · exfalso; omega
                                · refine zz_iconst zd_14_24_352 ?_
                                  refine zz_goto zd_14_24_353 ?_
                                  refine zz_istore [some (.ref 1079), none, none, none, some (zi 1), none, some (zi 3)] zd_14_24_357 (by decide) rfl ?_
                                  refine zz_iinc [some (.ref 1079), none, none, none, some (zi 1), none, some (zi 4)] zd_14_24_359 rfl rfl ?_
                                  refine zz_goto zd_14_24_362 ?_
                                  refine zz_iload (x := 4) rfl zd_14_24_303 ?_
                                  refine zz_iconst zd_14_24_305 ?_
                                  refine zz_icmp_ge (by omega) (by omega) zd_14_24_306 (fun c605 => ?_) (fun c605 => ?_)
                                  · exfalso; omega
                                  · refine zz_iload (x := 1) rfl zd_14_24_309 ?_
                                    refine zz_if_ne (by omega) zd_14_24_311 (fun c606 => ?_) (fun c606 => ?_)
                                    · refine zz_iconst zd_14_24_352 ?_
                                      refine zz_goto zd_14_24_353 ?_
                                      refine zz_istore [some (.ref 1079), none, none, none, some (zi 1), none, some (zi 4)] zd_14_24_357 (by decide) rfl ?_
                                      refine zz_iinc [some (.ref 1079), none, none, none, some (zi 1), none, some (zi 5)] zd_14_24_359 rfl rfl ?_
                                      refine zz_goto zd_14_24_362 ?_
                                      refine zz_iload (x := 5) rfl zd_14_24_303 ?_
                                      refine zz_iconst zd_14_24_305 ?_
                                      refine zz_icmp_ge (by omega) (by omega) zd_14_24_306 (fun c607 => ?_) (fun c607 => ?_)
                                      · refine zz_iload (x := 1) rfl zd_14_24_365 ?_
                                        exact zz_zret zd_14_24_367 rfl (by omega) (Nat.zero_le _) (Nat.zero_le _) ⟨_, _, rfl, G_S489, F_S489, by omega, fun hr => absurd hr (by decide)⟩
                                      · exfalso; omega
                                    · exfalso; omega
                        · refine zz_iconst zd_14_24_352 ?_
                          refine zz_goto zd_14_24_353 ?_
                          refine zz_istore [some (.ref 1079), none, none, none, some (zi 1), none, some (zi 2)] zd_14_24_357 (by decide) rfl ?_
                          refine zz_iinc [some (.ref 1079), none, none, none, some (zi 1), none, some (zi 3)] zd_14_24_359 rfl rfl ?_
                          refine zz_goto zd_14_24_362 ?_
                          refine zz_iload (x := 3) rfl zd_14_24_303 ?_
                          refine zz_iconst zd_14_24_305 ?_
                          refine zz_icmp_ge (by omega) (by omega) zd_14_24_306 (fun c608 => ?_) (fun c608 => ?_)
                          · exfalso; omega
                          · refine zz_iload (x := 1) rfl zd_14_24_309 ?_
                            refine zz_if_ne (by omega) zd_14_24_311 (fun c609 => ?_) (fun c609 => ?_)
                            · refine zz_iconst zd_14_24_352 ?_
                              refine zz_goto zd_14_24_353 ?_
                              refine zz_istore [some (.ref 1079), none, none, none, some (zi 1), none, some (zi 3)] zd_14_24_357 (by decide) rfl ?_
                              refine zz_iinc [some (.ref 1079), none, none, none, some (zi 1), none, some (zi 4)] zd_14_24_359 rfl rfl ?_
                              refine zz_goto zd_14_24_362 ?_
                              refine zz_iload (x := 4) rfl zd_14_24_303 ?_
                              refine zz_iconst zd_14_24_305 ?_
                              refine zz_icmp_ge (by omega) (by omega) zd_14_24_306 (fun c610 => ?_) (fun c610 => ?_)
                              · exfalso; omega
                              · refine zz_iload (x := 1) rfl zd_14_24_309 ?_
                                refine zz_if_ne (by omega) zd_14_24_311 (fun c611 => ?_) (fun c611 => ?_)
                                · refine zz_iconst zd_14_24_352 ?_
                                  refine zz_goto zd_14_24_353 ?_
                                  refine zz_istore [some (.ref 1079), none, none, none, some (zi 1), none, some (zi 4)] zd_14_24_357 (by decide) rfl ?_
                                  refine zz_iinc [some (.ref 1079), none, none, none, some (zi 1), none, some (zi 5)] zd_14_24_359 rfl rfl ?_
                                  refine zz_goto zd_14_24_362 ?_
                                  refine zz_iload (x := 5) rfl zd_14_24_303 ?_
                                  refine zz_iconst zd_14_24_305 ?_
                                  refine zz_icmp_ge (by omega) (by omega) zd_14_24_306 (fun c612 => ?_) (fun c612 => ?_)
                                  · refine zz_iload (x := 1) rfl zd_14_24_365 ?_
                                    exact zz_zret zd_14_24_367 rfl (by omega) (Nat.zero_le _) (Nat.zero_le _) ⟨_, _, rfl, G_S489, F_S489, by omega, fun hr => absurd hr (by decide)⟩
                                  · exfalso; omega
                                · exfalso; omega
                            · exfalso; omega
                · refine zz_iconst zd_14_24_352 ?_
                  refine zz_goto zd_14_24_353 ?_
                  refine zz_istore [some (.ref 1079), none, none, none, some (zi 1), none, some (zi 1)] zd_14_24_357 (by decide) rfl ?_
                  refine zz_iinc [some (.ref 1079), none, none, none, some (zi 1), none, some (zi 2)] zd_14_24_359 rfl rfl ?_
                  refine zz_goto zd_14_24_362 ?_
                  refine zz_iload (x := 2) rfl zd_14_24_303 ?_
                  refine zz_iconst zd_14_24_305 ?_
                  refine zz_icmp_ge (by omega) (by omega) zd_14_24_306 (fun c613 => ?_) (fun c613 => ?_)
                  · exfalso; omega
                  · refine zz_iload (x := 1) rfl zd_14_24_309 ?_
                    refine zz_if_ne (by omega) zd_14_24_311 (fun c614 => ?_) (fun c614 => ?_)
                    · refine zz_iconst zd_14_24_352 ?_
                      refine zz_goto zd_14_24_353 ?_
                      refine zz_istore [some (.ref 1079), none, none, none, some (zi 1), none, some (zi 2)] zd_14_24_357 (by decide) rfl ?_
                      refine zz_iinc [some (.ref 1079), none, none, none, some (zi 1), none, some (zi 3)] zd_14_24_359 rfl rfl ?_
                      refine zz_goto zd_14_24_362 ?_
                      refine zz_iload (x := 3) rfl zd_14_24_303 ?_
                      refine zz_iconst zd_14_24_305 ?_
                      refine zz_icmp_ge (by omega) (by omega) zd_14_24_306 (fun c615 => ?_) (fun c615 => ?_)
                      · exfalso; omega
                      · refine zz_iload (x := 1) rfl zd_14_24_309 ?_
                        refine zz_if_ne (by omega) zd_14_24_311 (fun c616 => ?_) (fun c616 => ?_)
                        · refine zz_iconst zd_14_24_352 ?_
                          refine zz_goto zd_14_24_353 ?_
                          refine zz_istore [some (.ref 1079), none, none, none, some (zi 1), none, some (zi 3)] zd_14_24_357 (by decide) rfl ?_
                          refine zz_iinc [some (.ref 1079), none, none, none, some (zi 1), none, some (zi 4)] zd_14_24_359 rfl rfl ?_
                          refine zz_goto zd_14_24_362 ?_
                          refine zz_iload (x := 4) rfl zd_14_24_303 ?_
                          refine zz_iconst zd_14_24_305 ?_
                          refine zz_icmp_ge (by omega) (by omega) zd_14_24_306 (fun c617 => ?_) (fun c617 => ?_)
                          · exfalso; omega
                          · refine zz_iload (x := 1) rfl zd_14_24_309 ?_
                            refine zz_if_ne (by omega) zd_14_24_311 (fun c618 => ?_) (fun c618 => ?_)
                            · refine zz_iconst zd_14_24_352 ?_
                              refine zz_goto zd_14_24_353 ?_
                              refine zz_istore [some (.ref 1079), none, none, none, some (zi 1), none, some (zi 4)] zd_14_24_357 (by decide) rfl ?_
                              refine zz_iinc [some (.ref 1079), none, none, none, some (zi 1), none, some (zi 5)] zd_14_24_359 rfl rfl ?_
                              refine zz_goto zd_14_24_362 ?_
                              refine zz_iload (x := 5) rfl zd_14_24_303 ?_
                              refine zz_iconst zd_14_24_305 ?_
                              refine zz_icmp_ge (by omega) (by omega) zd_14_24_306 (fun c619 => ?_) (fun c619 => ?_)
                              · refine zz_iload (x := 1) rfl zd_14_24_365 ?_
                                exact zz_zret zd_14_24_367 rfl (by omega) (Nat.zero_le _) (Nat.zero_le _) ⟨_, _, rfl, G_S489, F_S489, by omega, fun hr => absurd hr (by decide)⟩
                              · exfalso; omega
                            · exfalso; omega
                        · exfalso; omega
                    · exfalso; omega
        · refine zz_iconst zd_14_24_352 ?_
          refine zz_goto zd_14_24_353 ?_
          refine zz_istore [some (.ref 1079), none, none, none, some (zi 1), none, some (zi 0)] zd_14_24_357 (by decide) rfl ?_
          refine zz_iinc [some (.ref 1079), none, none, none, some (zi 1), none, some (zi 1)] zd_14_24_359 rfl rfl ?_
          refine zz_goto zd_14_24_362 ?_
          refine zz_iload (x := 1) rfl zd_14_24_303 ?_
          refine zz_iconst zd_14_24_305 ?_
          refine zz_icmp_ge (by omega) (by omega) zd_14_24_306 (fun c620 => ?_) (fun c620 => ?_)
          · exfalso; omega
          · refine zz_iload (x := 1) rfl zd_14_24_309 ?_
            refine zz_if_ne (by omega) zd_14_24_311 (fun c621 => ?_) (fun c621 => ?_)
            · refine zz_iconst zd_14_24_352 ?_
              refine zz_goto zd_14_24_353 ?_
              refine zz_istore [some (.ref 1079), none, none, none, some (zi 1), none, some (zi 1)] zd_14_24_357 (by decide) rfl ?_
              refine zz_iinc [some (.ref 1079), none, none, none, some (zi 1), none, some (zi 2)] zd_14_24_359 rfl rfl ?_
              refine zz_goto zd_14_24_362 ?_
              refine zz_iload (x := 2) rfl zd_14_24_303 ?_
              refine zz_iconst zd_14_24_305 ?_
              refine zz_icmp_ge (by omega) (by omega) zd_14_24_306 (fun c622 => ?_) (fun c622 => ?_)
              · exfalso; omega
              · refine zz_iload (x := 1) rfl zd_14_24_309 ?_
                refine zz_if_ne (by omega) zd_14_24_311 (fun c623 => ?_) (fun c623 => ?_)
                · refine zz_iconst zd_14_24_352 ?_
                  refine zz_goto zd_14_24_353 ?_
                  refine zz_istore [some (.ref 1079), none, none, none, some (zi 1), none, some (zi 2)] zd_14_24_357 (by decide) rfl ?_
                  refine zz_iinc [some (.ref 1079), none, none, none, some (zi 1), none, some (zi 3)] zd_14_24_359 rfl rfl ?_
                  refine zz_goto zd_14_24_362 ?_
                  refine zz_iload (x := 3) rfl zd_14_24_303 ?_
                  refine zz_iconst zd_14_24_305 ?_
                  refine zz_icmp_ge (by omega) (by omega) zd_14_24_306 (fun c624 => ?_) (fun c624 => ?_)
                  · exfalso; omega
                  · refine zz_iload (x := 1) rfl zd_14_24_309 ?_
                    refine zz_if_ne (by omega) zd_14_24_311 (fun c625 => ?_) (fun c625 => ?_)
                    · refine zz_iconst zd_14_24_352 ?_
                      refine zz_goto zd_14_24_353 ?_
                      refine zz_istore [some (.ref 1079), none, none, none, some (zi 1), none, some (zi 3)] zd_14_24_357 (by decide) rfl ?_
                      refine zz_iinc [some (.ref 1079), none, none, none, some (zi 1), none, some (zi 4)] zd_14_24_359 rfl rfl ?_
                      refine zz_goto zd_14_24_362 ?_
                      refine zz_iload (x := 4) rfl zd_14_24_303 ?_
                      refine zz_iconst zd_14_24_305 ?_
                      refine zz_icmp_ge (by omega) (by omega) zd_14_24_306 (fun c626 => ?_) (fun c626 => ?_)
                      · exfalso; omega
                      · refine zz_iload (x := 1) rfl zd_14_24_309 ?_
                        refine zz_if_ne (by omega) zd_14_24_311 (fun c627 => ?_) (fun c627 => ?_)
                        · refine zz_iconst zd_14_24_352 ?_
                          refine zz_goto zd_14_24_353 ?_
                          refine zz_istore [some (.ref 1079), none, none, none, some (zi 1), none, some (zi 4)] zd_14_24_357 (by decide) rfl ?_
                          refine zz_iinc [some (.ref 1079), none, none, none, some (zi 1), none, some (zi 5)] zd_14_24_359 rfl rfl ?_
                          refine zz_goto zd_14_24_362 ?_
                          refine zz_iload (x := 5) rfl zd_14_24_303 ?_
                          refine zz_iconst zd_14_24_305 ?_
                          refine zz_icmp_ge (by omega) (by omega) zd_14_24_306 (fun c628 => ?_) (fun c628 => ?_)
                          · refine zz_iload (x := 1) rfl zd_14_24_365 ?_
                            exact zz_zret zd_14_24_367 rfl (by omega) (Nat.zero_le _) (Nat.zero_le _) ⟨_, _, rfl, G_S489, F_S489, by omega, fun hr => absurd hr (by decide)⟩
                          · exfalso; omega
                        · exfalso; omega
                    · exfalso; omega
                · exfalso; omega
            · exfalso; omega
theorem zi_isIllegal_14_24 {g : mm_G} {l : Launch} (p0 : Int) (S0 : zz_S) (n : Nat) (hn : zz_end ≤ n) (G_S0 : zz_G S0) (hp0 : (-9223372036854775808) ≤ p0 ∧ p0 ≤ 9223372036854775807) : ∀ N : Nat, (∀ (x3 : Int) (x4 : Int) (x5 : Int) (S : zz_S), zz_G S → zz_fr [(1087, 0), (1087, 1), (1087, 2), (1087, 3), (1087, 4), (1087, 5), (1087, 6), (1087, 7), (1087, 8), (1087, 9), (1087, 10), (1087, 11), (1088, 0), (1088, 1), (1088, 2), (1088, 3), (1088, 4), (1088, 5), (1088, 6), (1088, 7), (1088, 8), (1088, 9), (1089, 0), (1089, 1), (1089, 2), (1089, 3), (1089, 4), (1089, 5), (1089, 6), (1089, 7), (1089, 8), (1089, 9)] [] (fun _ _ => False) S0 S → (1 ≤ x3 ∧ x3 ≤ 9) → (0 ≤ x4 ∧ x4 ≤ 1) → (5 ≤ x5 ∧ x5 ≤ 12) → ((S 1087 0 = zz_fx p0 0 15) ∧ 0 ≤ S 1087 0 ∧ S 1087 0 ≤ 15) → ((S 1087 1 = zz_fx p0 4 1) ∧ 0 ≤ S 1087 1 ∧ S 1087 1 ≤ 1) → ((S 1087 2 = zz_fx p0 5 1) ∧ 0 ≤ S 1087 2 ∧ S 1087 2 ≤ 1) → ((S 1087 3 = zz_fx p0 6 1) ∧ 0 ≤ S 1087 3 ∧ S 1087 3 ≤ 1) → ((S 1087 4 = zz_fx p0 7 1) ∧ 0 ≤ S 1087 4 ∧ S 1087 4 ≤ 1) → ((S 1087 5 = zz_fx p0 8 4095) ∧ 0 ≤ S 1087 5 ∧ S 1087 5 ≤ 4095) → ((S 1087 6 = zz_fx p0 20 63) ∧ 0 ≤ S 1087 6 ∧ S 1087 6 ≤ 63) → ((S 1087 7 = zz_fx p0 26 31) ∧ 0 ≤ S 1087 7 ∧ S 1087 7 ≤ 31) → ((S 1087 8 = zz_fx p0 31 511) ∧ 0 ≤ S 1087 8 ∧ S 1087 8 ≤ 511) → ((S 1087 9 = zz_fx p0 40 511) ∧ 0 ≤ S 1087 9 ∧ S 1087 9 ≤ 511) → ((S 1087 10 = zz_fx p0 49 1023) ∧ 0 ≤ S 1087 10 ∧ S 1087 10 ≤ 1023) → ((S 1087 11 = zz_fx p0 59 31) ∧ 0 ≤ S 1087 11 ∧ S 1087 11 ≤ 31) → (x3 = S 1087 0) → (x4 = 0 → (x3 = 9 ∧ S 1087 6 = 0 ∧ S 1087 7 = 0) ∨ (x3 ≠ 9 ∧ 1 ≤ S 1087 6 ∧ 1 ≤ S 1087 7 ∧ S 1087 7 ≤ S0 1079 1)) → (34359738368 + (12 - x5).toNat) < N → zz_E g l zy_isIllegal_14_24 zr_isIllegal_14_24 (zz_QI n (zp_isIllegal_14_24 p0 S0)) S n 115 [some (.ref 1079), none, none, some (zi x3), some (zi x4), some (zi x5)] [] 0 0) ∧ (∀ (x4 : Int) (S : zz_S), zz_G S → zz_fr [(1087, 0), (1087, 1), (1087, 2), (1087, 3), (1087, 4), (1087, 5), (1087, 6), (1087, 7), (1087, 8), (1087, 9), (1087, 10), (1087, 11), (1088, 0), (1088, 1), (1088, 2), (1088, 3), (1088, 4), (1088, 5), (1088, 6), (1088, 7), (1088, 8), (1088, 9), (1089, 0), (1089, 1), (1089, 2), (1089, 3), (1089, 4), (1089, 5), (1089, 6), (1089, 7), (1089, 8), (1089, 9)] [] (fun _ _ => False) S0 S → (0 ≤ x4 ∧ x4 ≤ 1) → ((S 1087 0 = zz_fx p0 0 15) ∧ 0 ≤ S 1087 0 ∧ S 1087 0 ≤ 15) → ((S 1087 1 = zz_fx p0 4 1) ∧ 0 ≤ S 1087 1 ∧ S 1087 1 ≤ 1) → ((S 1087 2 = zz_fx p0 5 1) ∧ 0 ≤ S 1087 2 ∧ S 1087 2 ≤ 1) → ((S 1087 3 = zz_fx p0 6 1) ∧ 0 ≤ S 1087 3 ∧ S 1087 3 ≤ 1) → ((S 1087 4 = zz_fx p0 7 1) ∧ 0 ≤ S 1087 4 ∧ S 1087 4 ≤ 1) → ((S 1087 5 = zz_fx p0 8 4095) ∧ 0 ≤ S 1087 5 ∧ S 1087 5 ≤ 4095) → ((S 1087 6 = zz_fx p0 20 63) ∧ 0 ≤ S 1087 6 ∧ S 1087 6 ≤ 63) → ((S 1087 7 = zz_fx p0 26 31) ∧ 0 ≤ S 1087 7 ∧ S 1087 7 ≤ 31) → ((S 1087 8 = zz_fx p0 31 511) ∧ 0 ≤ S 1087 8 ∧ S 1087 8 ≤ 511) → ((S 1087 9 = zz_fx p0 40 511) ∧ 0 ≤ S 1087 9 ∧ S 1087 9 ≤ 511) → ((S 1087 10 = zz_fx p0 49 1023) ∧ 0 ≤ S 1087 10 ∧ S 1087 10 ≤ 1023) → ((S 1087 11 = zz_fx p0 59 31) ∧ 0 ≤ S 1087 11 ∧ S 1087 11 ≤ 31) → (1 ≤ S 1087 0 ∧ S 1087 0 ≤ 9) → ((S 1087 0 = 9 ∧ S 1087 6 = 0 ∧ S 1087 7 = 0) ∨ (S 1087 0 ≠ 9 ∧ 1 ≤ S 1087 6 ∧ 1 ≤ S 1087 7 ∧ S 1087 7 ≤ S0 1079 1)) → (S 1087 0 = 5 → 1 ≤ S 1087 11 / 2 ∧ S 1087 11 / 2 ≤ S0 1079 1) → (17179869184 + 0) < N → zz_E g l zy_isIllegal_14_24 zr_isIllegal_14_24 (zz_QI n (zp_isIllegal_14_24 p0 S0)) S n 296 [some (.ref 1079), none, none, none, some (zi x4)] [] 0 0) := by
  intro N
  induction N with
  | zero => exact ⟨fun x3 x4 x5 S _ _ _ _ _ _ _ _ _ _ _ _ _ _ _ _ _ _ _ h => absurd h (Nat.not_lt_zero _), fun x4 S _ _ _ _ _ _ _ _ _ _ _ _ _ _ _ _ _ _ h => absurd h (Nat.not_lt_zero _)⟩
  | succ N ih =>
    exact ⟨fun x3 x4 x5 S a b j0 j1 j2 j3 j4 j5 j6 j7 j8 j9 j10 j11 j12 j13 j14 j15 j16 hR => zb_isIllegal_14_24_115 p0 S0 n hn G_S0 hp0 x3 x4 x5 S a b j0 j1 j2 j3 j4 j5 j6 j7 j8 j9 j10 j11 j12 j13 j14 j15 j16 _ rfl (fun x3 x4 x5 S a b j0 j1 j2 j3 j4 j5 j6 j7 j8 j9 j10 j11 j12 j13 j14 j15 j16 h => ih.1 x3 x4 x5 S a b j0 j1 j2 j3 j4 j5 j6 j7 j8 j9 j10 j11 j12 j13 j14 j15 j16 (Nat.lt_of_lt_of_le h (Nat.le_of_lt_succ hR))) (fun x4 S a b j0 j1 j2 j3 j4 j5 j6 j7 j8 j9 j10 j11 j12 j13 j14 j15 h => ih.2 x4 S a b j0 j1 j2 j3 j4 j5 j6 j7 j8 j9 j10 j11 j12 j13 j14 j15 (Nat.lt_of_lt_of_le h (Nat.le_of_lt_succ hR))),
      fun x4 S a b j0 j1 j2 j3 j4 j5 j6 j7 j8 j9 j10 j11 j12 j13 j14 j15 hR => zb_isIllegal_14_24_296 p0 S0 n hn G_S0 hp0 x4 S a b j0 j1 j2 j3 j4 j5 j6 j7 j8 j9 j10 j11 j12 j13 j14 j15 _ rfl ⟩
theorem zc_isIllegal_14_24 {g : mm_G} {l : Launch} (p0 : Int) (S0 : zz_S) (n : Nat) (hn : zz_end ≤ n) (G_S0 : zz_G S0) (hp0 : (-9223372036854775808) ≤ p0 ∧ p0 ≤ 9223372036854775807) : mm_Met g l zy_isIllegal_14_24 zr_isIllegal_14_24 [.ref 1079, zl p0] (zz_M S0 n) n (zz_QI n (zp_isIllegal_14_24 p0 S0)) := by
  refine zz_enter (by decide) (Nat.le_of_ble_eq_true rfl) (zz_less (ls1 := [some (.ref 1079), some (zl p0), none]) ⟨rfl, ⟨rfl, trivial⟩⟩ ?_)
  have F_S0 : zz_fr [(1087, 0), (1087, 1), (1087, 2), (1087, 3), (1087, 4), (1087, 5), (1087, 6), (1087, 7), (1087, 8), (1087, 9), (1087, 10), (1087, 11), (1088, 0), (1088, 1), (1088, 2), (1088, 3), (1088, 4), (1088, 5), (1088, 6), (1088, 7), (1088, 8), (1088, 9), (1089, 0), (1089, 1), (1089, 2), (1089, 3), (1089, 4), (1089, 5), (1089, 6), (1089, 7), (1089, 8), (1089, 9)] [] (fun _ _ => False) S0 S0 := zz_fr.refl
  have k115 : ∀ (x3 : Int) (x4 : Int) (x5 : Int) (S : zz_S), zz_G S → zz_fr [(1087, 0), (1087, 1), (1087, 2), (1087, 3), (1087, 4), (1087, 5), (1087, 6), (1087, 7), (1087, 8), (1087, 9), (1087, 10), (1087, 11), (1088, 0), (1088, 1), (1088, 2), (1088, 3), (1088, 4), (1088, 5), (1088, 6), (1088, 7), (1088, 8), (1088, 9), (1089, 0), (1089, 1), (1089, 2), (1089, 3), (1089, 4), (1089, 5), (1089, 6), (1089, 7), (1089, 8), (1089, 9)] [] (fun _ _ => False) S0 S → (1 ≤ x3 ∧ x3 ≤ 9) → (0 ≤ x4 ∧ x4 ≤ 1) → (5 ≤ x5 ∧ x5 ≤ 12) → ((S 1087 0 = zz_fx p0 0 15) ∧ 0 ≤ S 1087 0 ∧ S 1087 0 ≤ 15) → ((S 1087 1 = zz_fx p0 4 1) ∧ 0 ≤ S 1087 1 ∧ S 1087 1 ≤ 1) → ((S 1087 2 = zz_fx p0 5 1) ∧ 0 ≤ S 1087 2 ∧ S 1087 2 ≤ 1) → ((S 1087 3 = zz_fx p0 6 1) ∧ 0 ≤ S 1087 3 ∧ S 1087 3 ≤ 1) → ((S 1087 4 = zz_fx p0 7 1) ∧ 0 ≤ S 1087 4 ∧ S 1087 4 ≤ 1) → ((S 1087 5 = zz_fx p0 8 4095) ∧ 0 ≤ S 1087 5 ∧ S 1087 5 ≤ 4095) → ((S 1087 6 = zz_fx p0 20 63) ∧ 0 ≤ S 1087 6 ∧ S 1087 6 ≤ 63) → ((S 1087 7 = zz_fx p0 26 31) ∧ 0 ≤ S 1087 7 ∧ S 1087 7 ≤ 31) → ((S 1087 8 = zz_fx p0 31 511) ∧ 0 ≤ S 1087 8 ∧ S 1087 8 ≤ 511) → ((S 1087 9 = zz_fx p0 40 511) ∧ 0 ≤ S 1087 9 ∧ S 1087 9 ≤ 511) → ((S 1087 10 = zz_fx p0 49 1023) ∧ 0 ≤ S 1087 10 ∧ S 1087 10 ≤ 1023) → ((S 1087 11 = zz_fx p0 59 31) ∧ 0 ≤ S 1087 11 ∧ S 1087 11 ≤ 31) → (x3 = S 1087 0) → (x4 = 0 → (x3 = 9 ∧ S 1087 6 = 0 ∧ S 1087 7 = 0) ∨ (x3 ≠ 9 ∧ 1 ≤ S 1087 6 ∧ 1 ≤ S 1087 7 ∧ S 1087 7 ≤ S0 1079 1)) → zz_E g l zy_isIllegal_14_24 zr_isIllegal_14_24 (zz_QI n (zp_isIllegal_14_24 p0 S0)) S n 115 [some (.ref 1079), none, none, some (zi x3), some (zi x4), some (zi x5)] [] 0 0 := fun x3 x4 x5 S a b j0 j1 j2 j3 j4 j5 j6 j7 j8 j9 j10 j11 j12 j13 j14 j15 j16 => (zi_isIllegal_14_24 (g := g) (l := l) p0 S0 n hn G_S0 hp0 _).1 x3 x4 x5 S a b j0 j1 j2 j3 j4 j5 j6 j7 j8 j9 j10 j11 j12 j13 j14 j15 j16 (Nat.lt_succ_self _)
  refine zz_aload_n (x := 1079) rfl zd_14_24_0 ?_
  refine zz_lload_n (x := p0) rfl zd_14_24_1 ?_
  refine zz_callVV [zl p0] zd_14_24_2 zk_Md_234 zT_1079 (zz_ltn hn rfl) rfl rfl ⟨Nat.le_of_ble_eq_true rfl, Nat.le_of_ble_eq_true rfl⟩ ⟨rfl, rfl⟩ (Nat.zero_le _) (Nat.zero_le _) (zc_take_14_18 p0 S0 n hn G_S0 (by omega)) (fun S1 hP => ?_)
  obtain ⟨G_S1, fS1, o3, o4, o5, o6, o7, o8, o9, o10, o11, o12, o13, o14⟩ := hP
  have F_S1 := zz_fr.trans F_S0 fS1 rfl zz_nv
  refine zz_aload_n (x := 1079) rfl zd_14_24_5 ?_
  refine zz_getr (kd := 0) (z := 1087) zd_14_24_6 zf_Md_36 zT_1079 rfl (zz_ltn hn rfl) (zz_G.eq G_S1 1079 11 1087 rfl rfl) (by decide) 1087 rfl ?_
  refine zz_iconst zd_14_24_9 ?_
  have g15 := zz_G.r G_S1 1087 0 (-2147483648) 2147483647 rfl rfl
  refine zz_iald (z := S1 1087 0) zd_14_24_10 zT_1087 rfl (zz_ltn hn rfl) (by decide) (by decide) rfl ?_
  refine zz_istore_n [some (.ref 1079), some (zl p0), none, some (zi (S1 1087 0))] zd_14_24_11 (by decide) rfl ?_
  refine zz_iload_n (x := S1 1087 0) rfl zd_14_24_12 ?_
  refine zz_i2l (by omega) zd_14_24_13 ?_
  refine zz_lconst (z := 1) (by decide) zd_14_24_14 ?_
  refine zz_ldc2 (z := 9) zq_Md_238 (by decide) zd_14_24_15 ?_
  refine zz_callSI [zl (S1 1087 0), zl 1, zl 9] zd_14_24_18 zk_Md_192 rfl rfl ⟨Nat.le_of_ble_eq_true rfl, Nat.le_of_ble_eq_true rfl⟩ ⟨rfl, rfl⟩ (Nat.zero_le _) (Nat.zero_le _) (zc_in_14_4 (S1 1087 0) 1 9 S1 n hn G_S1 (by omega) (by omega) (by omega)) (fun v17 S16 hP => ?_)
  obtain ⟨rfl, o18, o19⟩ := hP
  rcases (by omega : v17 = 0 ∨ v17 = 1) with rfl | rfl
  · have n20 : S1 1087 0 < 1 ∨ 9 < S1 1087 0 := by omega
    clear o19
    refine zz_if_ne (by omega) zd_14_24_21 (fun c21 => ?_) (fun c21 => ?_)
    · exfalso; omega
    · refine zz_iconst zd_14_24_24 ?_
      exact zz_zret zd_14_24_25 rfl (by omega) (Nat.zero_le _) (Nat.zero_le _) ⟨_, _, rfl, G_S1, F_S1, by omega, fun hr => absurd hr (by decide)⟩
  · have n22 : 1 ≤ S1 1087 0 ∧ S1 1087 0 ≤ 9 := by omega
    clear o19
    refine zz_if_ne (by omega) zd_14_24_21 (fun c23 => ?_) (fun c23 => ?_)
    · refine zz_iload_n (x := S1 1087 0) rfl zd_14_24_26 ?_
      refine zz_bipush (by decide) zd_14_24_27 ?_
      refine zz_icmp_ne (by omega) (by omega) zd_14_24_29 (fun c24 => ?_) (fun c24 => ?_)
      · refine zz_aload_n (x := 1079) rfl zd_14_24_71 ?_
        refine zz_getr (kd := 0) (z := 1087) zd_14_24_72 zf_Md_36 zT_1079 rfl (zz_ltn hn rfl) (zz_G.eq G_S1 1079 11 1087 rfl rfl) (by decide) 1087 rfl ?_
        refine zz_bipush (by decide) zd_14_24_75 ?_
        have g25 := zz_G.r G_S1 1087 6 (-2147483648) 2147483647 rfl rfl
        refine zz_iald (z := S1 1087 6) zd_14_24_77 zT_1087 rfl (zz_ltn hn rfl) (by decide) (by decide) rfl ?_
        refine zz_if_eq (by omega) zd_14_24_78 (fun c26 => ?_) (fun c26 => ?_)
        · refine zz_iconst zd_14_24_105 ?_
          refine zz_goto zd_14_24_106 ?_
          refine zz_istore [some (.ref 1079), some (zl p0), none, some (zi (S1 1087 0)), some (zi 1)] zd_14_24_110 (by decide) rfl ?_
          refine zz_iconst zd_14_24_112 ?_
          refine zz_istore [some (.ref 1079), some (zl p0), none, some (zi (S1 1087 0)), some (zi 1), some (zi 5)] zd_14_24_113 (by decide) rfl ?_
          have g27 := zz_G.r G_S1 1087 1 (-2147483648) 2147483647 rfl rfl
          have g28 := zz_G.r G_S1 1087 2 (-2147483648) 2147483647 rfl rfl
          have g29 := zz_G.r G_S1 1087 3 (-2147483648) 2147483647 rfl rfl
          have g30 := zz_G.r G_S1 1087 4 (-2147483648) 2147483647 rfl rfl
          have g31 := zz_G.r G_S1 1087 5 (-2147483648) 2147483647 rfl rfl
          have g32 := zz_G.r G_S1 1087 7 (-2147483648) 2147483647 rfl rfl
          have g33 := zz_G.r G_S1 1087 8 (-2147483648) 2147483647 rfl rfl
          have g34 := zz_G.r G_S1 1087 9 (-2147483648) 2147483647 rfl rfl
          have g35 := zz_G.r G_S1 1087 10 (-2147483648) 2147483647 rfl rfl
          have g36 := zz_G.r G_S1 1087 11 (-2147483648) 2147483647 rfl rfl
          refine zz_less (ls1 := [some (.ref 1079), none, none, some (zi (S1 1087 0)), some (zi 1), some (zi 5)]) ⟨rfl, ⟨rfl, ⟨rfl, ⟨rfl, trivial⟩⟩⟩⟩ ?_
          exact k115 (S1 1087 0) 1 5 S1 G_S1 F_S1 (by omega) (by omega) (by omega) (by omega) (by omega) (by omega) (by omega) (by omega) (by omega) (by omega) (by omega) (by omega) (by omega) (by omega) (by omega) (by omega) (by omega)
        · refine zz_aload_n (x := 1079) rfl zd_14_24_81 ?_
          refine zz_getr (kd := 0) (z := 1087) zd_14_24_82 zf_Md_36 zT_1079 rfl (zz_ltn hn rfl) (zz_G.eq G_S1 1079 11 1087 rfl rfl) (by decide) 1087 rfl ?_
          refine zz_bipush (by decide) zd_14_24_85 ?_
          have g37 := zz_G.r G_S1 1087 7 (-2147483648) 2147483647 rfl rfl
          refine zz_iald (z := S1 1087 7) zd_14_24_87 zT_1087 rfl (zz_ltn hn rfl) (by decide) (by decide) rfl ?_
          refine zz_if_eq (by omega) zd_14_24_88 (fun c38 => ?_) (fun c38 => ?_)
          · refine zz_iconst zd_14_24_105 ?_
            refine zz_goto zd_14_24_106 ?_
            refine zz_istore [some (.ref 1079), some (zl p0), none, some (zi (S1 1087 0)), some (zi 1)] zd_14_24_110 (by decide) rfl ?_
            refine zz_iconst zd_14_24_112 ?_
            refine zz_istore [some (.ref 1079), some (zl p0), none, some (zi (S1 1087 0)), some (zi 1), some (zi 5)] zd_14_24_113 (by decide) rfl ?_
            have g39 := zz_G.r G_S1 1087 1 (-2147483648) 2147483647 rfl rfl
            have g40 := zz_G.r G_S1 1087 2 (-2147483648) 2147483647 rfl rfl
            have g41 := zz_G.r G_S1 1087 3 (-2147483648) 2147483647 rfl rfl
            have g42 := zz_G.r G_S1 1087 4 (-2147483648) 2147483647 rfl rfl
            have g43 := zz_G.r G_S1 1087 5 (-2147483648) 2147483647 rfl rfl
            have g44 := zz_G.r G_S1 1087 8 (-2147483648) 2147483647 rfl rfl
            have g45 := zz_G.r G_S1 1087 9 (-2147483648) 2147483647 rfl rfl
            have g46 := zz_G.r G_S1 1087 10 (-2147483648) 2147483647 rfl rfl
            have g47 := zz_G.r G_S1 1087 11 (-2147483648) 2147483647 rfl rfl
            refine zz_less (ls1 := [some (.ref 1079), none, none, some (zi (S1 1087 0)), some (zi 1), some (zi 5)]) ⟨rfl, ⟨rfl, ⟨rfl, ⟨rfl, trivial⟩⟩⟩⟩ ?_
            exact k115 (S1 1087 0) 1 5 S1 G_S1 F_S1 (by omega) (by omega) (by omega) (by omega) (by omega) (by omega) (by omega) (by omega) (by omega) (by omega) (by omega) (by omega) (by omega) (by omega) (by omega) (by omega) (by omega)
          · refine zz_aload_n (x := 1079) rfl zd_14_24_91 ?_
            refine zz_getr (kd := 0) (z := 1087) zd_14_24_92 zf_Md_36 zT_1079 rfl (zz_ltn hn rfl) (zz_G.eq G_S1 1079 11 1087 rfl rfl) (by decide) 1087 rfl ?_
            refine zz_bipush (by decide) zd_14_24_95 ?_
            refine zz_iald (z := S1 1087 7) zd_14_24_97 zT_1087 rfl (zz_ltn hn rfl) (by decide) (by decide) rfl ?_
            refine zz_aload_n (x := 1079) rfl zd_14_24_98 ?_
            have g48 := zz_G.r G_S0 1079 1 2 8 rfl rfl
            refine zz_geti (z := S0 1079 1) zd_14_24_99 zf_Md_7 zT_1079 rfl (zz_ltn hn rfl) (zz_rc fS1 rfl rfl (fun h => h) rfl) ?_
            refine zz_icmp_le (by omega) (by omega) zd_14_24_102 (fun c49 => ?_) (fun c49 => ?_)
            · refine zz_iconst zd_14_24_109 ?_
              refine zz_istore [some (.ref 1079), some (zl p0), none, some (zi (S1 1087 0)), some (zi 0)] zd_14_24_110 (by decide) rfl ?_
              refine zz_iconst zd_14_24_112 ?_
              refine zz_istore [some (.ref 1079), some (zl p0), none, some (zi (S1 1087 0)), some (zi 0), some (zi 5)] zd_14_24_113 (by decide) rfl ?_
              have g50 := zz_G.r G_S1 1087 1 (-2147483648) 2147483647 rfl rfl
              have g51 := zz_G.r G_S1 1087 2 (-2147483648) 2147483647 rfl rfl
              have g52 := zz_G.r G_S1 1087 3 (-2147483648) 2147483647 rfl rfl
              have g53 := zz_G.r G_S1 1087 4 (-2147483648) 2147483647 rfl rfl
              have g54 := zz_G.r G_S1 1087 5 (-2147483648) 2147483647 rfl rfl
              have g55 := zz_G.r G_S1 1087 8 (-2147483648) 2147483647 rfl rfl
              have g56 := zz_G.r G_S1 1087 9 (-2147483648) 2147483647 rfl rfl
              have g57 := zz_G.r G_S1 1087 10 (-2147483648) 2147483647 rfl rfl
              have g58 := zz_G.r G_S1 1087 11 (-2147483648) 2147483647 rfl rfl
              refine zz_less (ls1 := [some (.ref 1079), none, none, some (zi (S1 1087 0)), some (zi 0), some (zi 5)]) ⟨rfl, ⟨rfl, ⟨rfl, ⟨rfl, trivial⟩⟩⟩⟩ ?_
              exact k115 (S1 1087 0) 0 5 S1 G_S1 F_S1 (by omega) (by omega) (by omega) (by omega) (by omega) (by omega) (by omega) (by omega) (by omega) (by omega) (by omega) (by omega) (by omega) (by omega) (by omega) (by omega) (by omega)
            · refine zz_iconst zd_14_24_105 ?_
              refine zz_goto zd_14_24_106 ?_
              refine zz_istore [some (.ref 1079), some (zl p0), none, some (zi (S1 1087 0)), some (zi 1)] zd_14_24_110 (by decide) rfl ?_
              refine zz_iconst zd_14_24_112 ?_
              refine zz_istore [some (.ref 1079), some (zl p0), none, some (zi (S1 1087 0)), some (zi 1), some (zi 5)] zd_14_24_113 (by decide) rfl ?_
              have g59 := zz_G.r G_S1 1087 1 (-2147483648) 2147483647 rfl rfl
              have g60 := zz_G.r G_S1 1087 2 (-2147483648) 2147483647 rfl rfl
              have g61 := zz_G.r G_S1 1087 3 (-2147483648) 2147483647 rfl rfl
              have g62 := zz_G.r G_S1 1087 4 (-2147483648) 2147483647 rfl rfl
              have g63 := zz_G.r G_S1 1087 5 (-2147483648) 2147483647 rfl rfl
              have g64 := zz_G.r G_S1 1087 8 (-2147483648) 2147483647 rfl rfl
              have g65 := zz_G.r G_S1 1087 9 (-2147483648) 2147483647 rfl rfl
              have g66 := zz_G.r G_S1 1087 10 (-2147483648) 2147483647 rfl rfl
              have g67 := zz_G.r G_S1 1087 11 (-2147483648) 2147483647 rfl rfl
              refine zz_less (ls1 := [some (.ref 1079), none, none, some (zi (S1 1087 0)), some (zi 1), some (zi 5)]) ⟨rfl, ⟨rfl, ⟨rfl, ⟨rfl, trivial⟩⟩⟩⟩ ?_
              exact k115 (S1 1087 0) 1 5 S1 G_S1 F_S1 (by omega) (by omega) (by omega) (by omega) (by omega) (by omega) (by omega) (by omega) (by omega) (by omega) (by omega) (by omega) (by omega) (by omega) (by omega) (by omega) (by omega)
      · refine zz_aload_n (x := 1079) rfl zd_14_24_32 ?_
        refine zz_getr (kd := 0) (z := 1087) zd_14_24_33 zf_Md_36 zT_1079 rfl (zz_ltn hn rfl) (zz_G.eq G_S1 1079 11 1087 rfl rfl) (by decide) 1087 rfl ?_
        refine zz_bipush (by decide) zd_14_24_36 ?_
        have g68 := zz_G.r G_S1 1087 6 (-2147483648) 2147483647 rfl rfl
        refine zz_iald (z := S1 1087 6) zd_14_24_38 zT_1087 rfl (zz_ltn hn rfl) (by decide) (by decide) rfl ?_
        refine zz_if_gt (by omega) zd_14_24_39 (fun c69 => ?_) (fun c69 => ?_)
        · refine zz_iconst zd_14_24_63 ?_
          refine zz_goto zd_14_24_64 ?_
          refine zz_istore [some (.ref 1079), some (zl p0), none, some (zi (S1 1087 0)), some (zi 1)] zd_14_24_110 (by decide) rfl ?_
          refine zz_iconst zd_14_24_112 ?_
          refine zz_istore [some (.ref 1079), some (zl p0), none, some (zi (S1 1087 0)), some (zi 1), some (zi 5)] zd_14_24_113 (by decide) rfl ?_
          have g70 := zz_G.r G_S1 1087 1 (-2147483648) 2147483647 rfl rfl
          have g71 := zz_G.r G_S1 1087 2 (-2147483648) 2147483647 rfl rfl
          have g72 := zz_G.r G_S1 1087 3 (-2147483648) 2147483647 rfl rfl
          have g73 := zz_G.r G_S1 1087 4 (-2147483648) 2147483647 rfl rfl
          have g74 := zz_G.r G_S1 1087 5 (-2147483648) 2147483647 rfl rfl
          have g75 := zz_G.r G_S1 1087 7 (-2147483648) 2147483647 rfl rfl
          have g76 := zz_G.r G_S1 1087 8 (-2147483648) 2147483647 rfl rfl
          have g77 := zz_G.r G_S1 1087 9 (-2147483648) 2147483647 rfl rfl
          have g78 := zz_G.r G_S1 1087 10 (-2147483648) 2147483647 rfl rfl
          have g79 := zz_G.r G_S1 1087 11 (-2147483648) 2147483647 rfl rfl
          refine zz_less (ls1 := [some (.ref 1079), none, none, some (zi (S1 1087 0)), some (zi 1), some (zi 5)]) ⟨rfl, ⟨rfl, ⟨rfl, ⟨rfl, trivial⟩⟩⟩⟩ ?_
          exact k115 (S1 1087 0) 1 5 S1 G_S1 F_S1 (by omega) (by omega) (by omega) (by omega) (by omega) (by omega) (by omega) (by omega) (by omega) (by omega) (by omega) (by omega) (by omega) (by omega) (by omega) (by omega) (by omega)
        · refine zz_aload_n (x := 1079) rfl zd_14_24_42 ?_
          refine zz_getr (kd := 0) (z := 1087) zd_14_24_43 zf_Md_36 zT_1079 rfl (zz_ltn hn rfl) (zz_G.eq G_S1 1079 11 1087 rfl rfl) (by decide) 1087 rfl ?_
          refine zz_bipush (by decide) zd_14_24_46 ?_
          have g80 := zz_G.r G_S1 1087 7 (-2147483648) 2147483647 rfl rfl
          refine zz_iald (z := S1 1087 7) zd_14_24_48 zT_1087 rfl (zz_ltn hn rfl) (by decide) (by decide) rfl ?_
          refine zz_if_gt (by omega) zd_14_24_49 (fun c81 => ?_) (fun c81 => ?_)
          · refine zz_iconst zd_14_24_63 ?_
            refine zz_goto zd_14_24_64 ?_
            refine zz_istore [some (.ref 1079), some (zl p0), none, some (zi (S1 1087 0)), some (zi 1)] zd_14_24_110 (by decide) rfl ?_
            refine zz_iconst zd_14_24_112 ?_
            refine zz_istore [some (.ref 1079), some (zl p0), none, some (zi (S1 1087 0)), some (zi 1), some (zi 5)] zd_14_24_113 (by decide) rfl ?_
            have g82 := zz_G.r G_S1 1087 1 (-2147483648) 2147483647 rfl rfl
            have g83 := zz_G.r G_S1 1087 2 (-2147483648) 2147483647 rfl rfl
            have g84 := zz_G.r G_S1 1087 3 (-2147483648) 2147483647 rfl rfl
            have g85 := zz_G.r G_S1 1087 4 (-2147483648) 2147483647 rfl rfl
            have g86 := zz_G.r G_S1 1087 5 (-2147483648) 2147483647 rfl rfl
            have g87 := zz_G.r G_S1 1087 8 (-2147483648) 2147483647 rfl rfl
            have g88 := zz_G.r G_S1 1087 9 (-2147483648) 2147483647 rfl rfl
            have g89 := zz_G.r G_S1 1087 10 (-2147483648) 2147483647 rfl rfl
            have g90 := zz_G.r G_S1 1087 11 (-2147483648) 2147483647 rfl rfl
            refine zz_less (ls1 := [some (.ref 1079), none, none, some (zi (S1 1087 0)), some (zi 1), some (zi 5)]) ⟨rfl, ⟨rfl, ⟨rfl, ⟨rfl, trivial⟩⟩⟩⟩ ?_
            exact k115 (S1 1087 0) 1 5 S1 G_S1 F_S1 (by omega) (by omega) (by omega) (by omega) (by omega) (by omega) (by omega) (by omega) (by omega) (by omega) (by omega) (by omega) (by omega) (by omega) (by omega) (by omega) (by omega)
          · refine zz_aload_n (x := 1079) rfl zd_14_24_52 ?_
            refine zz_getr (kd := 0) (z := 1087) zd_14_24_53 zf_Md_36 zT_1079 rfl (zz_ltn hn rfl) (zz_G.eq G_S1 1079 11 1087 rfl rfl) (by decide) 1087 rfl ?_
            refine zz_bipush (by decide) zd_14_24_56 ?_
            have g91 := zz_G.r G_S1 1087 11 (-2147483648) 2147483647 rfl rfl
            refine zz_iald (z := S1 1087 11) zd_14_24_58 zT_1087 rfl (zz_ltn hn rfl) (by decide) (by decide) rfl ?_
            refine zz_iconst zd_14_24_59 ?_
            refine zz_icmp_le (by omega) (by omega) zd_14_24_60 (fun c92 => ?_) (fun c92 => ?_)
            · refine zz_iconst zd_14_24_67 ?_
              refine zz_goto zd_14_24_68 ?_
              refine zz_istore [some (.ref 1079), some (zl p0), none, some (zi (S1 1087 0)), some (zi 0)] zd_14_24_110 (by decide) rfl ?_
              refine zz_iconst zd_14_24_112 ?_
              refine zz_istore [some (.ref 1079), some (zl p0), none, some (zi (S1 1087 0)), some (zi 0), some (zi 5)] zd_14_24_113 (by decide) rfl ?_
              have g93 := zz_G.r G_S1 1087 1 (-2147483648) 2147483647 rfl rfl
              have g94 := zz_G.r G_S1 1087 2 (-2147483648) 2147483647 rfl rfl
              have g95 := zz_G.r G_S1 1087 3 (-2147483648) 2147483647 rfl rfl
              have g96 := zz_G.r G_S1 1087 4 (-2147483648) 2147483647 rfl rfl
              have g97 := zz_G.r G_S1 1087 5 (-2147483648) 2147483647 rfl rfl
              have g98 := zz_G.r G_S1 1087 8 (-2147483648) 2147483647 rfl rfl
              have g99 := zz_G.r G_S1 1087 9 (-2147483648) 2147483647 rfl rfl
              have g100 := zz_G.r G_S1 1087 10 (-2147483648) 2147483647 rfl rfl
              refine zz_less (ls1 := [some (.ref 1079), none, none, some (zi (S1 1087 0)), some (zi 0), some (zi 5)]) ⟨rfl, ⟨rfl, ⟨rfl, ⟨rfl, trivial⟩⟩⟩⟩ ?_
              exact k115 (S1 1087 0) 0 5 S1 G_S1 F_S1 (by omega) (by omega) (by omega) (by omega) (by omega) (by omega) (by omega) (by omega) (by omega) (by omega) (by omega) (by omega) (by omega) (by omega) (by omega) (by omega) (by omega)
            · refine zz_iconst zd_14_24_63 ?_
              refine zz_goto zd_14_24_64 ?_
              refine zz_istore [some (.ref 1079), some (zl p0), none, some (zi (S1 1087 0)), some (zi 1)] zd_14_24_110 (by decide) rfl ?_
              refine zz_iconst zd_14_24_112 ?_
              refine zz_istore [some (.ref 1079), some (zl p0), none, some (zi (S1 1087 0)), some (zi 1), some (zi 5)] zd_14_24_113 (by decide) rfl ?_
              have g101 := zz_G.r G_S1 1087 1 (-2147483648) 2147483647 rfl rfl
              have g102 := zz_G.r G_S1 1087 2 (-2147483648) 2147483647 rfl rfl
              have g103 := zz_G.r G_S1 1087 3 (-2147483648) 2147483647 rfl rfl
              have g104 := zz_G.r G_S1 1087 4 (-2147483648) 2147483647 rfl rfl
              have g105 := zz_G.r G_S1 1087 5 (-2147483648) 2147483647 rfl rfl
              have g106 := zz_G.r G_S1 1087 8 (-2147483648) 2147483647 rfl rfl
              have g107 := zz_G.r G_S1 1087 9 (-2147483648) 2147483647 rfl rfl
              have g108 := zz_G.r G_S1 1087 10 (-2147483648) 2147483647 rfl rfl
              refine zz_less (ls1 := [some (.ref 1079), none, none, some (zi (S1 1087 0)), some (zi 1), some (zi 5)]) ⟨rfl, ⟨rfl, ⟨rfl, ⟨rfl, trivial⟩⟩⟩⟩ ?_
              exact k115 (S1 1087 0) 1 5 S1 G_S1 F_S1 (by omega) (by omega) (by omega) (by omega) (by omega) (by omega) (by omega) (by omega) (by omega) (by omega) (by omega) (by omega) (by omega) (by omega) (by omega) (by omega) (by omega)
    · exfalso; omega
abbrev zy_illegal_14_25 : mm_Y := (⟨"TensorForgeModel", "illegal", "(J)Z"⟩, prog_14_method_25_code, 3, (some .boolean))
theorem zyw_illegal_14_25 : mm_Yw zy_illegal_14_25 1 := ⟨mm_tb_1 1886 (by decide +kernel) rfl, mm_tb_1 12 (by decide +kernel) rfl, ⟨by decide, by decide⟩, by decide +kernel⟩
theorem zk_Md_250 : mm_Vl "TensorForgeModel" 250 11 1 zy_isIllegal_14_24 := ⟨zyw_isIllegal_14_24, (R_Md, F_Md, 69), rfl, mm_tb_1 1887 (by decide +kernel) rfl, mm_tb_1 1889 (by decide +kernel) rfl, mm_tb_s 88 (by decide +kernel) rfl⟩
theorem zg_14_25_0 : (decode zy_illegal_14_25.2.1 0 = .ok ((.aload_n 0), 1)) ∧ (decode zy_illegal_14_25.2.1 1 = .ok ((.iconst 0), 1)) ∧ (decode zy_illegal_14_25.2.1 2 = .ok ((.putfield 187), 3)) ∧ (decode zy_illegal_14_25.2.1 5 = .ok ((.aload_n 0), 1)) ∧ (decode zy_illegal_14_25.2.1 6 = .ok ((.lload_n 1), 1)) ∧ (decode zy_illegal_14_25.2.1 7 = .ok ((.invokevirtual 250), 3)) ∧ (decode zy_illegal_14_25.2.1 10 = .ok ((.ireturn), 1)) := by decide +kernel
theorem zd_14_25_0 : zz_D zy_illegal_14_25 0 (.aload_n 0) 1 1 := ⟨zg_14_25_0.1, rfl⟩
theorem zd_14_25_1 : zz_D zy_illegal_14_25 1 (.iconst 0) 1 2 := ⟨zg_14_25_0.2.1, rfl⟩
theorem zd_14_25_2 : zz_D zy_illegal_14_25 2 (.putfield 187) 3 5 := ⟨zg_14_25_0.2.2.1, rfl⟩
theorem zd_14_25_5 : zz_D zy_illegal_14_25 5 (.aload_n 0) 1 6 := ⟨zg_14_25_0.2.2.2.1, rfl⟩
theorem zd_14_25_6 : zz_D zy_illegal_14_25 6 (.lload_n 1) 1 7 := ⟨zg_14_25_0.2.2.2.2.1, rfl⟩
theorem zd_14_25_7 : zz_D zy_illegal_14_25 7 (.invokevirtual 250) 3 10 := ⟨zg_14_25_0.2.2.2.2.2.1, rfl⟩
theorem zd_14_25_10 : zz_D zy_illegal_14_25 10 (.ireturn) 1 11 := ⟨zg_14_25_0.2.2.2.2.2.2, rfl⟩

-- TensorForgeModel names (II)Z
abbrev zr_names_14_23 : Room := { frames := 0, cells := 0, slots := 0, locals := 0 }
def zp_names_14_23 (p0 : Int) (p1 : Int) (S0 : zz_S) : Int → zz_S → Prop := fun r S => S0 = S ∧ (0 ≤ r ∧ r ≤ 1)
theorem zc_names_14_23 {g : mm_G} {l : Launch} (p0 : Int) (p1 : Int) (S0 : zz_S) (n : Nat) (hn : zz_end ≤ n) (G_S0 : zz_G S0) (hp0 : (-2147483648) ≤ p0 ∧ p0 ≤ 2147483647) (hp1 : (-2147483648) ≤ p1 ∧ p1 ≤ 2147483647) : mm_Met g l zy_names_14_23 zr_names_14_23 [zi p0, zi p1] (zz_M S0 n) n (zz_QI n (zp_names_14_23 p0 p1 S0)) := by
  refine zz_enter (by decide) (Nat.le_of_ble_eq_true rfl) (zz_less (ls1 := [some (zi p0), some (zi p1)]) ⟨rfl, ⟨rfl, trivial⟩⟩ ?_)
  refine zz_iload_n (x := p0) rfl zd_14_23_0 ?_
  refine zz_iconst zd_14_23_1 ?_
  refine zz_icmp_eq (by omega) (by omega) zd_14_23_2 (fun c1 => ?_) (fun c1 => ?_)
  · refine zz_iconst zd_14_23_21 ?_
    refine zz_goto zd_14_23_22 ?_
    refine zz_istore_n [some (zi p0), some (zi p1), some (zi 1)] zd_14_23_26 (by decide) rfl ?_
    refine zz_iload_n (x := p0) rfl zd_14_23_27 ?_
    refine zz_iconst zd_14_23_28 ?_
    refine zz_icmp_eq (by omega) (by omega) zd_14_23_29 (fun c2 => ?_) (fun c2 => ?_)
    · exfalso; omega
    · refine zz_iload_n (x := p0) rfl zd_14_23_32 ?_
      refine zz_bipush (by decide) zd_14_23_33 ?_
      refine zz_icmp_eq (by omega) (by omega) zd_14_23_35 (fun c3 => ?_) (fun c3 => ?_)
      · exfalso; omega
      · refine zz_iload_n (x := p0) rfl zd_14_23_38 ?_
        refine zz_bipush (by decide) zd_14_23_39 ?_
        refine zz_icmp_ne (by omega) (by omega) zd_14_23_41 (fun c4 => ?_) (fun c4 => ?_)
        · refine zz_iconst zd_14_23_48 ?_
          refine zz_istore_n [some (zi p0), some (zi p1), some (zi 1), some (zi 0)] zd_14_23_49 (by decide) rfl ?_
          refine zz_iload_n (x := p1) rfl zd_14_23_50 ?_
          by_cases c5 : p1 = 5
          · refine zz_swIn 5 37 c5 (by decide) zd_14_23_51 rfl rfl ?_
            refine zz_iload_n (x := 1) rfl zd_14_23_88 ?_
            exact zz_zret zd_14_23_89 rfl (by omega) (Nat.zero_le _) (Nat.zero_le _) ⟨_, _, rfl, rfl, by omega⟩
          by_cases c6 : p1 = 6
          · refine zz_swIn 6 68 c6 (by decide) zd_14_23_51 rfl rfl ?_
            refine zz_iload_n (x := 0) rfl zd_14_23_119 ?_
            refine zz_if_ne (by omega) zd_14_23_120 (fun c7 => ?_) (fun c7 => ?_)
            · exfalso; omega
            · refine zz_iload_n (x := p0) rfl zd_14_23_123 ?_
              refine zz_bipush (by decide) zd_14_23_124 ?_
              refine zz_icmp_ne (by omega) (by omega) zd_14_23_126 (fun c8 => ?_) (fun c8 => ?_)
              · refine zz_iconst zd_14_23_133 ?_
                exact zz_zret zd_14_23_134 rfl (by omega) (Nat.zero_le _) (Nat.zero_le _) ⟨_, _, rfl, rfl, by omega⟩
              · exfalso; omega
          by_cases c9 : p1 = 7
          · refine zz_swIn 7 68 c9 (by decide) zd_14_23_51 rfl rfl ?_
            refine zz_iload_n (x := 0) rfl zd_14_23_119 ?_
            refine zz_if_ne (by omega) zd_14_23_120 (fun c10 => ?_) (fun c10 => ?_)
            · exfalso; omega
            · refine zz_iload_n (x := p0) rfl zd_14_23_123 ?_
              refine zz_bipush (by decide) zd_14_23_124 ?_
              refine zz_icmp_ne (by omega) (by omega) zd_14_23_126 (fun c11 => ?_) (fun c11 => ?_)
              · refine zz_iconst zd_14_23_133 ?_
                exact zz_zret zd_14_23_134 rfl (by omega) (Nat.zero_le _) (Nat.zero_le _) ⟨_, _, rfl, rfl, by omega⟩
              · exfalso; omega
          by_cases c12 : p1 = 8
          · refine zz_swIn 8 39 c12 (by decide) zd_14_23_51 rfl rfl ?_
            refine zz_iload_n (x := p0) rfl zd_14_23_90 ?_
            refine zz_bipush (by decide) zd_14_23_91 ?_
            refine zz_icmp_eq (by omega) (by omega) zd_14_23_93 (fun c13 => ?_) (fun c13 => ?_)
            · exfalso; omega
            · refine zz_iconst zd_14_23_96 ?_
              refine zz_goto zd_14_23_97 ?_
              exact zz_zret zd_14_23_101 rfl (by omega) (Nat.zero_le _) (Nat.zero_le _) ⟨_, _, rfl, rfl, by omega⟩
          by_cases c14 : p1 = 9
          · refine zz_swIn 9 51 c14 (by decide) zd_14_23_51 rfl rfl ?_
            refine zz_iload_n (x := 0) rfl zd_14_23_102 ?_
            exact zz_zret zd_14_23_103 rfl (by omega) (Nat.zero_le _) (Nat.zero_le _) ⟨_, _, rfl, rfl, by omega⟩
          by_cases c15 : p1 = 10
          · refine zz_swIn 10 53 c15 (by decide) zd_14_23_51 rfl rfl ?_
            refine zz_iload_n (x := 1) rfl zd_14_23_104 ?_
            refine zz_if_ne (by omega) zd_14_23_105 (fun c16 => ?_) (fun c16 => ?_)
            · refine zz_iconst zd_14_23_113 ?_
              refine zz_goto zd_14_23_114 ?_
              exact zz_zret zd_14_23_118 rfl (by omega) (Nat.zero_le _) (Nat.zero_le _) ⟨_, _, rfl, rfl, by omega⟩
            · exfalso; omega
          refine zz_swOut (by omega) (by omega) zd_14_23_51 rfl ?_
          refine zz_iload_n (x := 0) rfl zd_14_23_119 ?_
          refine zz_if_ne (by omega) zd_14_23_120 (fun c18 => ?_) (fun c18 => ?_)
          · exfalso; omega
          · refine zz_iload_n (x := p0) rfl zd_14_23_123 ?_
            refine zz_bipush (by decide) zd_14_23_124 ?_
            refine zz_icmp_ne (by omega) (by omega) zd_14_23_126 (fun c19 => ?_) (fun c19 => ?_)
            · refine zz_iconst zd_14_23_133 ?_
              exact zz_zret zd_14_23_134 rfl (by omega) (Nat.zero_le _) (Nat.zero_le _) ⟨_, _, rfl, rfl, by omega⟩
            · exfalso; omega
        · exfalso; omega
  · refine zz_iload_n (x := p0) rfl zd_14_23_5 ?_
    refine zz_iconst zd_14_23_6 ?_
    refine zz_icmp_eq (by omega) (by omega) zd_14_23_7 (fun c20 => ?_) (fun c20 => ?_)
    · refine zz_iconst zd_14_23_21 ?_
      refine zz_goto zd_14_23_22 ?_
      refine zz_istore_n [some (zi p0), some (zi p1), some (zi 1)] zd_14_23_26 (by decide) rfl ?_
      refine zz_iload_n (x := p0) rfl zd_14_23_27 ?_
      refine zz_iconst zd_14_23_28 ?_
      refine zz_icmp_eq (by omega) (by omega) zd_14_23_29 (fun c21 => ?_) (fun c21 => ?_)
      · exfalso; omega
      · refine zz_iload_n (x := p0) rfl zd_14_23_32 ?_
        refine zz_bipush (by decide) zd_14_23_33 ?_
        refine zz_icmp_eq (by omega) (by omega) zd_14_23_35 (fun c22 => ?_) (fun c22 => ?_)
        · exfalso; omega
        · refine zz_iload_n (x := p0) rfl zd_14_23_38 ?_
          refine zz_bipush (by decide) zd_14_23_39 ?_
          refine zz_icmp_ne (by omega) (by omega) zd_14_23_41 (fun c23 => ?_) (fun c23 => ?_)
          · refine zz_iconst zd_14_23_48 ?_
            refine zz_istore_n [some (zi p0), some (zi p1), some (zi 1), some (zi 0)] zd_14_23_49 (by decide) rfl ?_
            refine zz_iload_n (x := p1) rfl zd_14_23_50 ?_
            by_cases c24 : p1 = 5
            · refine zz_swIn 5 37 c24 (by decide) zd_14_23_51 rfl rfl ?_
              refine zz_iload_n (x := 1) rfl zd_14_23_88 ?_
              exact zz_zret zd_14_23_89 rfl (by omega) (Nat.zero_le _) (Nat.zero_le _) ⟨_, _, rfl, rfl, by omega⟩
            by_cases c25 : p1 = 6
            · refine zz_swIn 6 68 c25 (by decide) zd_14_23_51 rfl rfl ?_
              refine zz_iload_n (x := 0) rfl zd_14_23_119 ?_
              refine zz_if_ne (by omega) zd_14_23_120 (fun c26 => ?_) (fun c26 => ?_)
              · exfalso; omega
              · refine zz_iload_n (x := p0) rfl zd_14_23_123 ?_
                refine zz_bipush (by decide) zd_14_23_124 ?_
                refine zz_icmp_ne (by omega) (by omega) zd_14_23_126 (fun c27 => ?_) (fun c27 => ?_)
                · refine zz_iconst zd_14_23_133 ?_
                  exact zz_zret zd_14_23_134 rfl (by omega) (Nat.zero_le _) (Nat.zero_le _) ⟨_, _, rfl, rfl, by omega⟩
                · exfalso; omega
            by_cases c28 : p1 = 7
            · refine zz_swIn 7 68 c28 (by decide) zd_14_23_51 rfl rfl ?_
              refine zz_iload_n (x := 0) rfl zd_14_23_119 ?_
              refine zz_if_ne (by omega) zd_14_23_120 (fun c29 => ?_) (fun c29 => ?_)
              · exfalso; omega
              · refine zz_iload_n (x := p0) rfl zd_14_23_123 ?_
                refine zz_bipush (by decide) zd_14_23_124 ?_
                refine zz_icmp_ne (by omega) (by omega) zd_14_23_126 (fun c30 => ?_) (fun c30 => ?_)
                · refine zz_iconst zd_14_23_133 ?_
                  exact zz_zret zd_14_23_134 rfl (by omega) (Nat.zero_le _) (Nat.zero_le _) ⟨_, _, rfl, rfl, by omega⟩
                · exfalso; omega
            by_cases c31 : p1 = 8
            · refine zz_swIn 8 39 c31 (by decide) zd_14_23_51 rfl rfl ?_
              refine zz_iload_n (x := p0) rfl zd_14_23_90 ?_
              refine zz_bipush (by decide) zd_14_23_91 ?_
              refine zz_icmp_eq (by omega) (by omega) zd_14_23_93 (fun c32 => ?_) (fun c32 => ?_)
              · exfalso; omega
              · refine zz_iconst zd_14_23_96 ?_
                refine zz_goto zd_14_23_97 ?_
                exact zz_zret zd_14_23_101 rfl (by omega) (Nat.zero_le _) (Nat.zero_le _) ⟨_, _, rfl, rfl, by omega⟩
            by_cases c33 : p1 = 9
            · refine zz_swIn 9 51 c33 (by decide) zd_14_23_51 rfl rfl ?_
              refine zz_iload_n (x := 0) rfl zd_14_23_102 ?_
              exact zz_zret zd_14_23_103 rfl (by omega) (Nat.zero_le _) (Nat.zero_le _) ⟨_, _, rfl, rfl, by omega⟩
            by_cases c34 : p1 = 10
            · refine zz_swIn 10 53 c34 (by decide) zd_14_23_51 rfl rfl ?_
              refine zz_iload_n (x := 1) rfl zd_14_23_104 ?_
              refine zz_if_ne (by omega) zd_14_23_105 (fun c35 => ?_) (fun c35 => ?_)
              · refine zz_iconst zd_14_23_113 ?_
                refine zz_goto zd_14_23_114 ?_
                exact zz_zret zd_14_23_118 rfl (by omega) (Nat.zero_le _) (Nat.zero_le _) ⟨_, _, rfl, rfl, by omega⟩
              · exfalso; omega
            refine zz_swOut (by omega) (by omega) zd_14_23_51 rfl ?_
            refine zz_iload_n (x := 0) rfl zd_14_23_119 ?_
            refine zz_if_ne (by omega) zd_14_23_120 (fun c37 => ?_) (fun c37 => ?_)
            · exfalso; omega
            · refine zz_iload_n (x := p0) rfl zd_14_23_123 ?_
              refine zz_bipush (by decide) zd_14_23_124 ?_
              refine zz_icmp_ne (by omega) (by omega) zd_14_23_126 (fun c38 => ?_) (fun c38 => ?_)
              · refine zz_iconst zd_14_23_133 ?_
                exact zz_zret zd_14_23_134 rfl (by omega) (Nat.zero_le _) (Nat.zero_le _) ⟨_, _, rfl, rfl, by omega⟩
              · exfalso; omega
          · exfalso; omega
    · refine zz_iload_n (x := p0) rfl zd_14_23_10 ?_
      refine zz_iconst zd_14_23_11 ?_
      refine zz_icmp_eq (by omega) (by omega) zd_14_23_12 (fun c39 => ?_) (fun c39 => ?_)
      · refine zz_iconst zd_14_23_21 ?_
        refine zz_goto zd_14_23_22 ?_
        refine zz_istore_n [some (zi p0), some (zi p1), some (zi 1)] zd_14_23_26 (by decide) rfl ?_
        refine zz_iload_n (x := p0) rfl zd_14_23_27 ?_
        refine zz_iconst zd_14_23_28 ?_
        refine zz_icmp_eq (by omega) (by omega) zd_14_23_29 (fun c40 => ?_) (fun c40 => ?_)
        · exfalso; omega
        · refine zz_iload_n (x := p0) rfl zd_14_23_32 ?_
          refine zz_bipush (by decide) zd_14_23_33 ?_
          refine zz_icmp_eq (by omega) (by omega) zd_14_23_35 (fun c41 => ?_) (fun c41 => ?_)
          · exfalso; omega
          · refine zz_iload_n (x := p0) rfl zd_14_23_38 ?_
            refine zz_bipush (by decide) zd_14_23_39 ?_
            refine zz_icmp_ne (by omega) (by omega) zd_14_23_41 (fun c42 => ?_) (fun c42 => ?_)
            · refine zz_iconst zd_14_23_48 ?_
              refine zz_istore_n [some (zi p0), some (zi p1), some (zi 1), some (zi 0)] zd_14_23_49 (by decide) rfl ?_
              refine zz_iload_n (x := p1) rfl zd_14_23_50 ?_
              by_cases c43 : p1 = 5
              · refine zz_swIn 5 37 c43 (by decide) zd_14_23_51 rfl rfl ?_
                refine zz_iload_n (x := 1) rfl zd_14_23_88 ?_
                exact zz_zret zd_14_23_89 rfl (by omega) (Nat.zero_le _) (Nat.zero_le _) ⟨_, _, rfl, rfl, by omega⟩
              by_cases c44 : p1 = 6
              · refine zz_swIn 6 68 c44 (by decide) zd_14_23_51 rfl rfl ?_
                refine zz_iload_n (x := 0) rfl zd_14_23_119 ?_
                refine zz_if_ne (by omega) zd_14_23_120 (fun c45 => ?_) (fun c45 => ?_)
                · exfalso; omega
                · refine zz_iload_n (x := p0) rfl zd_14_23_123 ?_
                  refine zz_bipush (by decide) zd_14_23_124 ?_
                  refine zz_icmp_ne (by omega) (by omega) zd_14_23_126 (fun c46 => ?_) (fun c46 => ?_)
                  · refine zz_iconst zd_14_23_133 ?_
                    exact zz_zret zd_14_23_134 rfl (by omega) (Nat.zero_le _) (Nat.zero_le _) ⟨_, _, rfl, rfl, by omega⟩
                  · exfalso; omega
              by_cases c47 : p1 = 7
              · refine zz_swIn 7 68 c47 (by decide) zd_14_23_51 rfl rfl ?_
                refine zz_iload_n (x := 0) rfl zd_14_23_119 ?_
                refine zz_if_ne (by omega) zd_14_23_120 (fun c48 => ?_) (fun c48 => ?_)
                · exfalso; omega
                · refine zz_iload_n (x := p0) rfl zd_14_23_123 ?_
                  refine zz_bipush (by decide) zd_14_23_124 ?_
                  refine zz_icmp_ne (by omega) (by omega) zd_14_23_126 (fun c49 => ?_) (fun c49 => ?_)
                  · refine zz_iconst zd_14_23_133 ?_
                    exact zz_zret zd_14_23_134 rfl (by omega) (Nat.zero_le _) (Nat.zero_le _) ⟨_, _, rfl, rfl, by omega⟩
                  · exfalso; omega
              by_cases c50 : p1 = 8
              · refine zz_swIn 8 39 c50 (by decide) zd_14_23_51 rfl rfl ?_
                refine zz_iload_n (x := p0) rfl zd_14_23_90 ?_
                refine zz_bipush (by decide) zd_14_23_91 ?_
                refine zz_icmp_eq (by omega) (by omega) zd_14_23_93 (fun c51 => ?_) (fun c51 => ?_)
                · exfalso; omega
                · refine zz_iconst zd_14_23_96 ?_
                  refine zz_goto zd_14_23_97 ?_
                  exact zz_zret zd_14_23_101 rfl (by omega) (Nat.zero_le _) (Nat.zero_le _) ⟨_, _, rfl, rfl, by omega⟩
              by_cases c52 : p1 = 9
              · refine zz_swIn 9 51 c52 (by decide) zd_14_23_51 rfl rfl ?_
                refine zz_iload_n (x := 0) rfl zd_14_23_102 ?_
                exact zz_zret zd_14_23_103 rfl (by omega) (Nat.zero_le _) (Nat.zero_le _) ⟨_, _, rfl, rfl, by omega⟩
              by_cases c53 : p1 = 10
              · refine zz_swIn 10 53 c53 (by decide) zd_14_23_51 rfl rfl ?_
                refine zz_iload_n (x := 1) rfl zd_14_23_104 ?_
                refine zz_if_ne (by omega) zd_14_23_105 (fun c54 => ?_) (fun c54 => ?_)
                · refine zz_iconst zd_14_23_113 ?_
                  refine zz_goto zd_14_23_114 ?_
                  exact zz_zret zd_14_23_118 rfl (by omega) (Nat.zero_le _) (Nat.zero_le _) ⟨_, _, rfl, rfl, by omega⟩
                · exfalso; omega
              refine zz_swOut (by omega) (by omega) zd_14_23_51 rfl ?_
              refine zz_iload_n (x := 0) rfl zd_14_23_119 ?_
              refine zz_if_ne (by omega) zd_14_23_120 (fun c56 => ?_) (fun c56 => ?_)
              · exfalso; omega
              · refine zz_iload_n (x := p0) rfl zd_14_23_123 ?_
                refine zz_bipush (by decide) zd_14_23_124 ?_
                refine zz_icmp_ne (by omega) (by omega) zd_14_23_126 (fun c57 => ?_) (fun c57 => ?_)
                · refine zz_iconst zd_14_23_133 ?_
                  exact zz_zret zd_14_23_134 rfl (by omega) (Nat.zero_le _) (Nat.zero_le _) ⟨_, _, rfl, rfl, by omega⟩
                · exfalso; omega
            · exfalso; omega
      · refine zz_iload_n (x := p0) rfl zd_14_23_15 ?_
        refine zz_bipush (by decide) zd_14_23_16 ?_
        refine zz_icmp_ne (by omega) (by omega) zd_14_23_18 (fun c58 => ?_) (fun c58 => ?_)
        · refine zz_iconst zd_14_23_25 ?_
          refine zz_istore_n [some (zi p0), some (zi p1), some (zi 0)] zd_14_23_26 (by decide) rfl ?_
          refine zz_iload_n (x := p0) rfl zd_14_23_27 ?_
          refine zz_iconst zd_14_23_28 ?_
          refine zz_icmp_eq (by omega) (by omega) zd_14_23_29 (fun c59 => ?_) (fun c59 => ?_)
          · refine zz_iconst zd_14_23_44 ?_
            refine zz_goto zd_14_23_45 ?_
            refine zz_istore_n [some (zi p0), some (zi p1), some (zi 0), some (zi 1)] zd_14_23_49 (by decide) rfl ?_
            refine zz_iload_n (x := p1) rfl zd_14_23_50 ?_
            by_cases c60 : p1 = 5
            · refine zz_swIn 5 37 c60 (by decide) zd_14_23_51 rfl rfl ?_
              refine zz_iload_n (x := 0) rfl zd_14_23_88 ?_
              exact zz_zret zd_14_23_89 rfl (by omega) (Nat.zero_le _) (Nat.zero_le _) ⟨_, _, rfl, rfl, by omega⟩
            by_cases c61 : p1 = 6
            · refine zz_swIn 6 68 c61 (by decide) zd_14_23_51 rfl rfl ?_
              refine zz_iload_n (x := 1) rfl zd_14_23_119 ?_
              refine zz_if_ne (by omega) zd_14_23_120 (fun c62 => ?_) (fun c62 => ?_)
              · refine zz_iconst zd_14_23_129 ?_
                refine zz_goto zd_14_23_130 ?_
                exact zz_zret zd_14_23_134 rfl (by omega) (Nat.zero_le _) (Nat.zero_le _) ⟨_, _, rfl, rfl, by omega⟩
              · exfalso; omega
            by_cases c63 : p1 = 7
            · refine zz_swIn 7 68 c63 (by decide) zd_14_23_51 rfl rfl ?_
              refine zz_iload_n (x := 1) rfl zd_14_23_119 ?_
              refine zz_if_ne (by omega) zd_14_23_120 (fun c64 => ?_) (fun c64 => ?_)
              · refine zz_iconst zd_14_23_129 ?_
                refine zz_goto zd_14_23_130 ?_
                exact zz_zret zd_14_23_134 rfl (by omega) (Nat.zero_le _) (Nat.zero_le _) ⟨_, _, rfl, rfl, by omega⟩
              · exfalso; omega
            by_cases c65 : p1 = 8
            · refine zz_swIn 8 39 c65 (by decide) zd_14_23_51 rfl rfl ?_
              refine zz_iload_n (x := p0) rfl zd_14_23_90 ?_
              refine zz_bipush (by decide) zd_14_23_91 ?_
              refine zz_icmp_eq (by omega) (by omega) zd_14_23_93 (fun c66 => ?_) (fun c66 => ?_)
              · exfalso; omega
              · refine zz_iconst zd_14_23_96 ?_
                refine zz_goto zd_14_23_97 ?_
                exact zz_zret zd_14_23_101 rfl (by omega) (Nat.zero_le _) (Nat.zero_le _) ⟨_, _, rfl, rfl, by omega⟩
            by_cases c67 : p1 = 9
            · refine zz_swIn 9 51 c67 (by decide) zd_14_23_51 rfl rfl ?_
              refine zz_iload_n (x := 1) rfl zd_14_23_102 ?_
              exact zz_zret zd_14_23_103 rfl (by omega) (Nat.zero_le _) (Nat.zero_le _) ⟨_, _, rfl, rfl, by omega⟩
            by_cases c68 : p1 = 10
            · refine zz_swIn 10 53 c68 (by decide) zd_14_23_51 rfl rfl ?_
              refine zz_iload_n (x := 0) rfl zd_14_23_104 ?_
              refine zz_if_ne (by omega) zd_14_23_105 (fun c69 => ?_) (fun c69 => ?_)
              · exfalso; omega
              · refine zz_iload_n (x := p0) rfl zd_14_23_108 ?_
                refine zz_iconst zd_14_23_109 ?_
                refine zz_icmp_ne (by omega) (by omega) zd_14_23_110 (fun c70 => ?_) (fun c70 => ?_)
                · exfalso; omega
                · refine zz_iconst zd_14_23_113 ?_
                  refine zz_goto zd_14_23_114 ?_
                  exact zz_zret zd_14_23_118 rfl (by omega) (Nat.zero_le _) (Nat.zero_le _) ⟨_, _, rfl, rfl, by omega⟩
            refine zz_swOut (by omega) (by omega) zd_14_23_51 rfl ?_
            refine zz_iload_n (x := 1) rfl zd_14_23_119 ?_
            refine zz_if_ne (by omega) zd_14_23_120 (fun c72 => ?_) (fun c72 => ?_)
            · refine zz_iconst zd_14_23_129 ?_
              refine zz_goto zd_14_23_130 ?_
              exact zz_zret zd_14_23_134 rfl (by omega) (Nat.zero_le _) (Nat.zero_le _) ⟨_, _, rfl, rfl, by omega⟩
            · exfalso; omega
          · refine zz_iload_n (x := p0) rfl zd_14_23_32 ?_
            refine zz_bipush (by decide) zd_14_23_33 ?_
            refine zz_icmp_eq (by omega) (by omega) zd_14_23_35 (fun c73 => ?_) (fun c73 => ?_)
            · refine zz_iconst zd_14_23_44 ?_
              refine zz_goto zd_14_23_45 ?_
              refine zz_istore_n [some (zi p0), some (zi p1), some (zi 0), some (zi 1)] zd_14_23_49 (by decide) rfl ?_
              refine zz_iload_n (x := p1) rfl zd_14_23_50 ?_
              by_cases c74 : p1 = 5
              · refine zz_swIn 5 37 c74 (by decide) zd_14_23_51 rfl rfl ?_
                refine zz_iload_n (x := 0) rfl zd_14_23_88 ?_
                exact zz_zret zd_14_23_89 rfl (by omega) (Nat.zero_le _) (Nat.zero_le _) ⟨_, _, rfl, rfl, by omega⟩
              by_cases c75 : p1 = 6
              · refine zz_swIn 6 68 c75 (by decide) zd_14_23_51 rfl rfl ?_
                refine zz_iload_n (x := 1) rfl zd_14_23_119 ?_
                refine zz_if_ne (by omega) zd_14_23_120 (fun c76 => ?_) (fun c76 => ?_)
                · refine zz_iconst zd_14_23_129 ?_
                  refine zz_goto zd_14_23_130 ?_
                  exact zz_zret zd_14_23_134 rfl (by omega) (Nat.zero_le _) (Nat.zero_le _) ⟨_, _, rfl, rfl, by omega⟩
                · exfalso; omega
              by_cases c77 : p1 = 7
              · refine zz_swIn 7 68 c77 (by decide) zd_14_23_51 rfl rfl ?_
                refine zz_iload_n (x := 1) rfl zd_14_23_119 ?_
                refine zz_if_ne (by omega) zd_14_23_120 (fun c78 => ?_) (fun c78 => ?_)
                · refine zz_iconst zd_14_23_129 ?_
                  refine zz_goto zd_14_23_130 ?_
                  exact zz_zret zd_14_23_134 rfl (by omega) (Nat.zero_le _) (Nat.zero_le _) ⟨_, _, rfl, rfl, by omega⟩
                · exfalso; omega
              by_cases c79 : p1 = 8
              · refine zz_swIn 8 39 c79 (by decide) zd_14_23_51 rfl rfl ?_
                refine zz_iload_n (x := p0) rfl zd_14_23_90 ?_
                refine zz_bipush (by decide) zd_14_23_91 ?_
                refine zz_icmp_eq (by omega) (by omega) zd_14_23_93 (fun c80 => ?_) (fun c80 => ?_)
                · exfalso; omega
                · refine zz_iconst zd_14_23_96 ?_
                  refine zz_goto zd_14_23_97 ?_
                  exact zz_zret zd_14_23_101 rfl (by omega) (Nat.zero_le _) (Nat.zero_le _) ⟨_, _, rfl, rfl, by omega⟩
              by_cases c81 : p1 = 9
              · refine zz_swIn 9 51 c81 (by decide) zd_14_23_51 rfl rfl ?_
                refine zz_iload_n (x := 1) rfl zd_14_23_102 ?_
                exact zz_zret zd_14_23_103 rfl (by omega) (Nat.zero_le _) (Nat.zero_le _) ⟨_, _, rfl, rfl, by omega⟩
              by_cases c82 : p1 = 10
              · refine zz_swIn 10 53 c82 (by decide) zd_14_23_51 rfl rfl ?_
                refine zz_iload_n (x := 0) rfl zd_14_23_104 ?_
                refine zz_if_ne (by omega) zd_14_23_105 (fun c83 => ?_) (fun c83 => ?_)
                · exfalso; omega
                · refine zz_iload_n (x := p0) rfl zd_14_23_108 ?_
                  refine zz_iconst zd_14_23_109 ?_
                  refine zz_icmp_ne (by omega) (by omega) zd_14_23_110 (fun c84 => ?_) (fun c84 => ?_)
                  · refine zz_iconst zd_14_23_117 ?_
                    exact zz_zret zd_14_23_118 rfl (by omega) (Nat.zero_le _) (Nat.zero_le _) ⟨_, _, rfl, rfl, by omega⟩
                  · exfalso; omega
              refine zz_swOut (by omega) (by omega) zd_14_23_51 rfl ?_
              refine zz_iload_n (x := 1) rfl zd_14_23_119 ?_
              refine zz_if_ne (by omega) zd_14_23_120 (fun c86 => ?_) (fun c86 => ?_)
              · refine zz_iconst zd_14_23_129 ?_
                refine zz_goto zd_14_23_130 ?_
                exact zz_zret zd_14_23_134 rfl (by omega) (Nat.zero_le _) (Nat.zero_le _) ⟨_, _, rfl, rfl, by omega⟩
              · exfalso; omega
            · refine zz_iload_n (x := p0) rfl zd_14_23_38 ?_
              refine zz_bipush (by decide) zd_14_23_39 ?_
              refine zz_icmp_ne (by omega) (by omega) zd_14_23_41 (fun c87 => ?_) (fun c87 => ?_)
              · refine zz_iconst zd_14_23_48 ?_
                refine zz_istore_n [some (zi p0), some (zi p1), some (zi 0), some (zi 0)] zd_14_23_49 (by decide) rfl ?_
                refine zz_iload_n (x := p1) rfl zd_14_23_50 ?_
                by_cases c88 : p1 = 5
                · refine zz_swIn 5 37 c88 (by decide) zd_14_23_51 rfl rfl ?_
                  refine zz_iload_n (x := 0) rfl zd_14_23_88 ?_
                  exact zz_zret zd_14_23_89 rfl (by omega) (Nat.zero_le _) (Nat.zero_le _) ⟨_, _, rfl, rfl, by omega⟩
                by_cases c89 : p1 = 6
                · refine zz_swIn 6 68 c89 (by decide) zd_14_23_51 rfl rfl ?_
                  refine zz_iload_n (x := 0) rfl zd_14_23_119 ?_
                  refine zz_if_ne (by omega) zd_14_23_120 (fun c90 => ?_) (fun c90 => ?_)
                  · exfalso; omega
                  · refine zz_iload_n (x := p0) rfl zd_14_23_123 ?_
                    refine zz_bipush (by decide) zd_14_23_124 ?_
                    refine zz_icmp_ne (by omega) (by omega) zd_14_23_126 (fun c91 => ?_) (fun c91 => ?_)
                    · refine zz_iconst zd_14_23_133 ?_
                      exact zz_zret zd_14_23_134 rfl (by omega) (Nat.zero_le _) (Nat.zero_le _) ⟨_, _, rfl, rfl, by omega⟩
                    · refine zz_iconst zd_14_23_129 ?_
                      refine zz_goto zd_14_23_130 ?_
                      exact zz_zret zd_14_23_134 rfl (by omega) (Nat.zero_le _) (Nat.zero_le _) ⟨_, _, rfl, rfl, by omega⟩
                by_cases c92 : p1 = 7
                · refine zz_swIn 7 68 c92 (by decide) zd_14_23_51 rfl rfl ?_
                  refine zz_iload_n (x := 0) rfl zd_14_23_119 ?_
                  refine zz_if_ne (by omega) zd_14_23_120 (fun c93 => ?_) (fun c93 => ?_)
                  · exfalso; omega
                  · refine zz_iload_n (x := p0) rfl zd_14_23_123 ?_
                    refine zz_bipush (by decide) zd_14_23_124 ?_
                    refine zz_icmp_ne (by omega) (by omega) zd_14_23_126 (fun c94 => ?_) (fun c94 => ?_)
                    · refine zz_iconst zd_14_23_133 ?_
                      exact zz_zret zd_14_23_134 rfl (by omega) (Nat.zero_le _) (Nat.zero_le _) ⟨_, _, rfl, rfl, by omega⟩
                    · refine zz_iconst zd_14_23_129 ?_
                      refine zz_goto zd_14_23_130 ?_
                      exact zz_zret zd_14_23_134 rfl (by omega) (Nat.zero_le _) (Nat.zero_le _) ⟨_, _, rfl, rfl, by omega⟩
                by_cases c95 : p1 = 8
                · refine zz_swIn 8 39 c95 (by decide) zd_14_23_51 rfl rfl ?_
                  refine zz_iload_n (x := p0) rfl zd_14_23_90 ?_
                  refine zz_bipush (by decide) zd_14_23_91 ?_
                  refine zz_icmp_eq (by omega) (by omega) zd_14_23_93 (fun c96 => ?_) (fun c96 => ?_)
                  · refine zz_iconst zd_14_23_100 ?_
                    exact zz_zret zd_14_23_101 rfl (by omega) (Nat.zero_le _) (Nat.zero_le _) ⟨_, _, rfl, rfl, by omega⟩
                  · refine zz_iconst zd_14_23_96 ?_
                    refine zz_goto zd_14_23_97 ?_
                    exact zz_zret zd_14_23_101 rfl (by omega) (Nat.zero_le _) (Nat.zero_le _) ⟨_, _, rfl, rfl, by omega⟩
                by_cases c97 : p1 = 9
                · refine zz_swIn 9 51 c97 (by decide) zd_14_23_51 rfl rfl ?_
                  refine zz_iload_n (x := 0) rfl zd_14_23_102 ?_
                  exact zz_zret zd_14_23_103 rfl (by omega) (Nat.zero_le _) (Nat.zero_le _) ⟨_, _, rfl, rfl, by omega⟩
                by_cases c98 : p1 = 10
                · refine zz_swIn 10 53 c98 (by decide) zd_14_23_51 rfl rfl ?_
                  refine zz_iload_n (x := 0) rfl zd_14_23_104 ?_
                  refine zz_if_ne (by omega) zd_14_23_105 (fun c99 => ?_) (fun c99 => ?_)
                  · exfalso; omega
                  · refine zz_iload_n (x := p0) rfl zd_14_23_108 ?_
                    refine zz_iconst zd_14_23_109 ?_
                    refine zz_icmp_ne (by omega) (by omega) zd_14_23_110 (fun c100 => ?_) (fun c100 => ?_)
                    · refine zz_iconst zd_14_23_117 ?_
                      exact zz_zret zd_14_23_118 rfl (by omega) (Nat.zero_le _) (Nat.zero_le _) ⟨_, _, rfl, rfl, by omega⟩
                    · refine zz_iconst zd_14_23_113 ?_
                      refine zz_goto zd_14_23_114 ?_
                      exact zz_zret zd_14_23_118 rfl (by omega) (Nat.zero_le _) (Nat.zero_le _) ⟨_, _, rfl, rfl, by omega⟩
                refine zz_swOut (by omega) (by omega) zd_14_23_51 rfl ?_
                refine zz_iload_n (x := 0) rfl zd_14_23_119 ?_
                refine zz_if_ne (by omega) zd_14_23_120 (fun c102 => ?_) (fun c102 => ?_)
                · exfalso; omega
                · refine zz_iload_n (x := p0) rfl zd_14_23_123 ?_
                  refine zz_bipush (by decide) zd_14_23_124 ?_
                  refine zz_icmp_ne (by omega) (by omega) zd_14_23_126 (fun c103 => ?_) (fun c103 => ?_)
                  · refine zz_iconst zd_14_23_133 ?_
                    exact zz_zret zd_14_23_134 rfl (by omega) (Nat.zero_le _) (Nat.zero_le _) ⟨_, _, rfl, rfl, by omega⟩
                  · refine zz_iconst zd_14_23_129 ?_
                    refine zz_goto zd_14_23_130 ?_
                    exact zz_zret zd_14_23_134 rfl (by omega) (Nat.zero_le _) (Nat.zero_le _) ⟨_, _, rfl, rfl, by omega⟩
              · refine zz_iconst zd_14_23_44 ?_
                refine zz_goto zd_14_23_45 ?_
                refine zz_istore_n [some (zi p0), some (zi p1), some (zi 0), some (zi 1)] zd_14_23_49 (by decide) rfl ?_
                refine zz_iload_n (x := p1) rfl zd_14_23_50 ?_
                by_cases c104 : p1 = 5
                · refine zz_swIn 5 37 c104 (by decide) zd_14_23_51 rfl rfl ?_
                  refine zz_iload_n (x := 0) rfl zd_14_23_88 ?_
                  exact zz_zret zd_14_23_89 rfl (by omega) (Nat.zero_le _) (Nat.zero_le _) ⟨_, _, rfl, rfl, by omega⟩
                by_cases c105 : p1 = 6
                · refine zz_swIn 6 68 c105 (by decide) zd_14_23_51 rfl rfl ?_
                  refine zz_iload_n (x := 1) rfl zd_14_23_119 ?_
                  refine zz_if_ne (by omega) zd_14_23_120 (fun c106 => ?_) (fun c106 => ?_)
                  · refine zz_iconst zd_14_23_129 ?_
                    refine zz_goto zd_14_23_130 ?_
                    exact zz_zret zd_14_23_134 rfl (by omega) (Nat.zero_le _) (Nat.zero_le _) ⟨_, _, rfl, rfl, by omega⟩
                  · exfalso; omega
                by_cases c107 : p1 = 7
                · refine zz_swIn 7 68 c107 (by decide) zd_14_23_51 rfl rfl ?_
                  refine zz_iload_n (x := 1) rfl zd_14_23_119 ?_
                  refine zz_if_ne (by omega) zd_14_23_120 (fun c108 => ?_) (fun c108 => ?_)
                  · refine zz_iconst zd_14_23_129 ?_
                    refine zz_goto zd_14_23_130 ?_
                    exact zz_zret zd_14_23_134 rfl (by omega) (Nat.zero_le _) (Nat.zero_le _) ⟨_, _, rfl, rfl, by omega⟩
                  · exfalso; omega
                by_cases c109 : p1 = 8
                · refine zz_swIn 8 39 c109 (by decide) zd_14_23_51 rfl rfl ?_
                  refine zz_iload_n (x := p0) rfl zd_14_23_90 ?_
                  refine zz_bipush (by decide) zd_14_23_91 ?_
                  refine zz_icmp_eq (by omega) (by omega) zd_14_23_93 (fun c110 => ?_) (fun c110 => ?_)
                  · exfalso; omega
                  · refine zz_iconst zd_14_23_96 ?_
                    refine zz_goto zd_14_23_97 ?_
                    exact zz_zret zd_14_23_101 rfl (by omega) (Nat.zero_le _) (Nat.zero_le _) ⟨_, _, rfl, rfl, by omega⟩
                by_cases c111 : p1 = 9
                · refine zz_swIn 9 51 c111 (by decide) zd_14_23_51 rfl rfl ?_
                  refine zz_iload_n (x := 1) rfl zd_14_23_102 ?_
                  exact zz_zret zd_14_23_103 rfl (by omega) (Nat.zero_le _) (Nat.zero_le _) ⟨_, _, rfl, rfl, by omega⟩
                by_cases c112 : p1 = 10
                · refine zz_swIn 10 53 c112 (by decide) zd_14_23_51 rfl rfl ?_
                  refine zz_iload_n (x := 0) rfl zd_14_23_104 ?_
                  refine zz_if_ne (by omega) zd_14_23_105 (fun c113 => ?_) (fun c113 => ?_)
                  · exfalso; omega
                  · refine zz_iload_n (x := p0) rfl zd_14_23_108 ?_
                    refine zz_iconst zd_14_23_109 ?_
                    refine zz_icmp_ne (by omega) (by omega) zd_14_23_110 (fun c114 => ?_) (fun c114 => ?_)
                    · refine zz_iconst zd_14_23_117 ?_
                      exact zz_zret zd_14_23_118 rfl (by omega) (Nat.zero_le _) (Nat.zero_le _) ⟨_, _, rfl, rfl, by omega⟩
                    · exfalso; omega
                refine zz_swOut (by omega) (by omega) zd_14_23_51 rfl ?_
                refine zz_iload_n (x := 1) rfl zd_14_23_119 ?_
                refine zz_if_ne (by omega) zd_14_23_120 (fun c116 => ?_) (fun c116 => ?_)
                · refine zz_iconst zd_14_23_129 ?_
                  refine zz_goto zd_14_23_130 ?_
                  exact zz_zret zd_14_23_134 rfl (by omega) (Nat.zero_le _) (Nat.zero_le _) ⟨_, _, rfl, rfl, by omega⟩
                · exfalso; omega
        · refine zz_iconst zd_14_23_21 ?_
          refine zz_goto zd_14_23_22 ?_
          refine zz_istore_n [some (zi p0), some (zi p1), some (zi 1)] zd_14_23_26 (by decide) rfl ?_
          refine zz_iload_n (x := p0) rfl zd_14_23_27 ?_
          refine zz_iconst zd_14_23_28 ?_
          refine zz_icmp_eq (by omega) (by omega) zd_14_23_29 (fun c117 => ?_) (fun c117 => ?_)
          · exfalso; omega
          · refine zz_iload_n (x := p0) rfl zd_14_23_32 ?_
            refine zz_bipush (by decide) zd_14_23_33 ?_
            refine zz_icmp_eq (by omega) (by omega) zd_14_23_35 (fun c118 => ?_) (fun c118 => ?_)
            · exfalso; omega
            · refine zz_iload_n (x := p0) rfl zd_14_23_38 ?_
              refine zz_bipush (by decide) zd_14_23_39 ?_
              refine zz_icmp_ne (by omega) (by omega) zd_14_23_41 (fun c119 => ?_) (fun c119 => ?_)
              · refine zz_iconst zd_14_23_48 ?_
                refine zz_istore_n [some (zi p0), some (zi p1), some (zi 1), some (zi 0)] zd_14_23_49 (by decide) rfl ?_
                refine zz_iload_n (x := p1) rfl zd_14_23_50 ?_
                by_cases c120 : p1 = 5
                · refine zz_swIn 5 37 c120 (by decide) zd_14_23_51 rfl rfl ?_
                  refine zz_iload_n (x := 1) rfl zd_14_23_88 ?_
                  exact zz_zret zd_14_23_89 rfl (by omega) (Nat.zero_le _) (Nat.zero_le _) ⟨_, _, rfl, rfl, by omega⟩
                by_cases c121 : p1 = 6
                · refine zz_swIn 6 68 c121 (by decide) zd_14_23_51 rfl rfl ?_
                  refine zz_iload_n (x := 0) rfl zd_14_23_119 ?_
                  refine zz_if_ne (by omega) zd_14_23_120 (fun c122 => ?_) (fun c122 => ?_)
                  · exfalso; omega
                  · refine zz_iload_n (x := p0) rfl zd_14_23_123 ?_
                    refine zz_bipush (by decide) zd_14_23_124 ?_
                    refine zz_icmp_ne (by omega) (by omega) zd_14_23_126 (fun c123 => ?_) (fun c123 => ?_)
                    · refine zz_iconst zd_14_23_133 ?_
                      exact zz_zret zd_14_23_134 rfl (by omega) (Nat.zero_le _) (Nat.zero_le _) ⟨_, _, rfl, rfl, by omega⟩
                    · exfalso; omega
                by_cases c124 : p1 = 7
                · refine zz_swIn 7 68 c124 (by decide) zd_14_23_51 rfl rfl ?_
                  refine zz_iload_n (x := 0) rfl zd_14_23_119 ?_
                  refine zz_if_ne (by omega) zd_14_23_120 (fun c125 => ?_) (fun c125 => ?_)
                  · exfalso; omega
                  · refine zz_iload_n (x := p0) rfl zd_14_23_123 ?_
                    refine zz_bipush (by decide) zd_14_23_124 ?_
                    refine zz_icmp_ne (by omega) (by omega) zd_14_23_126 (fun c126 => ?_) (fun c126 => ?_)
                    · refine zz_iconst zd_14_23_133 ?_
                      exact zz_zret zd_14_23_134 rfl (by omega) (Nat.zero_le _) (Nat.zero_le _) ⟨_, _, rfl, rfl, by omega⟩
                    · exfalso; omega
                by_cases c127 : p1 = 8
                · refine zz_swIn 8 39 c127 (by decide) zd_14_23_51 rfl rfl ?_
                  refine zz_iload_n (x := p0) rfl zd_14_23_90 ?_
                  refine zz_bipush (by decide) zd_14_23_91 ?_
                  refine zz_icmp_eq (by omega) (by omega) zd_14_23_93 (fun c128 => ?_) (fun c128 => ?_)
                  · exfalso; omega
                  · refine zz_iconst zd_14_23_96 ?_
                    refine zz_goto zd_14_23_97 ?_
                    exact zz_zret zd_14_23_101 rfl (by omega) (Nat.zero_le _) (Nat.zero_le _) ⟨_, _, rfl, rfl, by omega⟩
                by_cases c129 : p1 = 9
                · refine zz_swIn 9 51 c129 (by decide) zd_14_23_51 rfl rfl ?_
                  refine zz_iload_n (x := 0) rfl zd_14_23_102 ?_
                  exact zz_zret zd_14_23_103 rfl (by omega) (Nat.zero_le _) (Nat.zero_le _) ⟨_, _, rfl, rfl, by omega⟩
                by_cases c130 : p1 = 10
                · refine zz_swIn 10 53 c130 (by decide) zd_14_23_51 rfl rfl ?_
                  refine zz_iload_n (x := 1) rfl zd_14_23_104 ?_
                  refine zz_if_ne (by omega) zd_14_23_105 (fun c131 => ?_) (fun c131 => ?_)
                  · refine zz_iconst zd_14_23_113 ?_
                    refine zz_goto zd_14_23_114 ?_
                    exact zz_zret zd_14_23_118 rfl (by omega) (Nat.zero_le _) (Nat.zero_le _) ⟨_, _, rfl, rfl, by omega⟩
                  · exfalso; omega
                refine zz_swOut (by omega) (by omega) zd_14_23_51 rfl ?_
                refine zz_iload_n (x := 0) rfl zd_14_23_119 ?_
                refine zz_if_ne (by omega) zd_14_23_120 (fun c133 => ?_) (fun c133 => ?_)
                · exfalso; omega
                · refine zz_iload_n (x := p0) rfl zd_14_23_123 ?_
                  refine zz_bipush (by decide) zd_14_23_124 ?_
                  refine zz_icmp_ne (by omega) (by omega) zd_14_23_126 (fun c134 => ?_) (fun c134 => ?_)
                  · refine zz_iconst zd_14_23_133 ?_
                    exact zz_zret zd_14_23_134 rfl (by omega) (Nat.zero_le _) (Nat.zero_le _) ⟨_, _, rfl, rfl, by omega⟩
                  · exfalso; omega
              · exfalso; omega
abbrev zy_isIllegal_14_24 : mm_Y := (⟨"TensorForgeModel", "isIllegal", "(J)Z"⟩, prog_14_method_24_code, 7, (some .boolean))
theorem zyw_isIllegal_14_24 : mm_Yw zy_isIllegal_14_24 1 := ⟨mm_tb_1 1890 (by decide +kernel) rfl, mm_tb_1 12 (by decide +kernel) rfl, ⟨by decide, by decide⟩, by decide +kernel⟩
theorem zk_Md_234 : mm_Vl "TensorForgeModel" 234 11 1 zy_take_14_18 := ⟨zyw_take_14_18, (R_Md, F_Md, 69), rfl, mm_tb_1 1891 (by decide +kernel) rfl, mm_tb_1 1893 (by decide +kernel) rfl, mm_tb_s 89 (by decide +kernel) rfl⟩
theorem zq_Md_238 : Cond.constantLong "TensorForgeModel" 238 (9 : Int64) ∈ mm_tb := mm_tb_1 1895 (by decide +kernel) rfl
theorem zg_14_24_0 : zq_at zy_isIllegal_14_24.2.1 0 42 ∧ zq_at zy_isIllegal_14_24.2.1 1 31 ∧ zq_at zy_isIllegal_14_24.2.1 2 182 ∧ zq_at zy_isIllegal_14_24.2.1 3 0 ∧ zq_at zy_isIllegal_14_24.2.1 4 234 ∧ zq_at zy_isIllegal_14_24.2.1 5 42 ∧ zq_at zy_isIllegal_14_24.2.1 6 180 ∧ zq_at zy_isIllegal_14_24.2.1 7 0 ∧ zq_at zy_isIllegal_14_24.2.1 8 36 ∧ zq_at zy_isIllegal_14_24.2.1 9 3 ∧ zq_at zy_isIllegal_14_24.2.1 10 46 ∧ zq_at zy_isIllegal_14_24.2.1 11 62 ∧ zq_at zy_isIllegal_14_24.2.1 12 29 ∧ zq_at zy_isIllegal_14_24.2.1 13 133 ∧ zq_at zy_isIllegal_14_24.2.1 14 10 ∧ zq_at zy_isIllegal_14_24.2.1 15 20 ∧ zq_at zy_isIllegal_14_24.2.1 16 0 ∧ zq_at zy_isIllegal_14_24.2.1 17 238 ∧ zq_at zy_isIllegal_14_24.2.1 18 184 ∧ zq_at zy_isIllegal_14_24.2.1 19 0 ∧ zq_at zy_isIllegal_14_24.2.1 20 192 ∧ zq_at zy_isIllegal_14_24.2.1 21 154 ∧ zq_at zy_isIllegal_14_24.2.1 22 0 ∧ zq_at zy_isIllegal_14_24.2.1 23 5 := by decide +kernel
theorem zd_14_24_0 : zz_D zy_isIllegal_14_24 0 (.aload_n 0) 1 1 := ⟨zq_42 zg_14_24_0.1, rfl⟩
theorem zd_14_24_1 : zz_D zy_isIllegal_14_24 1 (.lload_n 1) 1 2 := ⟨zq_31 zg_14_24_0.2.1, rfl⟩
theorem zd_14_24_2 : zz_D zy_isIllegal_14_24 2 (.invokevirtual 234) 3 5 := ⟨zq_182 zg_14_24_0.2.2.1 zg_14_24_0.2.2.2.1 zg_14_24_0.2.2.2.2.1 rfl, rfl⟩
theorem zd_14_24_5 : zz_D zy_isIllegal_14_24 5 (.aload_n 0) 1 6 := ⟨zq_42 zg_14_24_0.2.2.2.2.2.1, rfl⟩
theorem zd_14_24_6 : zz_D zy_isIllegal_14_24 6 (.getfield 36) 3 9 := ⟨zq_180 zg_14_24_0.2.2.2.2.2.2.1 zg_14_24_0.2.2.2.2.2.2.2.1 zg_14_24_0.2.2.2.2.2.2.2.2.1 rfl, rfl⟩
theorem zd_14_24_9 : zz_D zy_isIllegal_14_24 9 (.iconst 0) 1 10 := ⟨zq_3 zg_14_24_0.2.2.2.2.2.2.2.2.2.1, rfl⟩
theorem zd_14_24_10 : zz_D zy_isIllegal_14_24 10 (.iaload) 1 11 := ⟨zq_46 zg_14_24_0.2.2.2.2.2.2.2.2.2.2.1, rfl⟩
theorem zd_14_24_11 : zz_D zy_isIllegal_14_24 11 (.istore_n 3) 1 12 := ⟨zq_62 zg_14_24_0.2.2.2.2.2.2.2.2.2.2.2.1, rfl⟩
theorem zd_14_24_12 : zz_D zy_isIllegal_14_24 12 (.iload_n 3) 1 13 := ⟨zq_29 zg_14_24_0.2.2.2.2.2.2.2.2.2.2.2.2.1, rfl⟩
theorem zd_14_24_13 : zz_D zy_isIllegal_14_24 13 (.i2l) 1 14 := ⟨zq_133 zg_14_24_0.2.2.2.2.2.2.2.2.2.2.2.2.2.1, rfl⟩
theorem zd_14_24_14 : zz_D zy_isIllegal_14_24 14 (.lconst 1) 1 15 := ⟨zq_10 zg_14_24_0.2.2.2.2.2.2.2.2.2.2.2.2.2.2.1, rfl⟩
theorem zd_14_24_15 : zz_D zy_isIllegal_14_24 15 (.ldc2_w 238) 3 18 := ⟨zq_20 zg_14_24_0.2.2.2.2.2.2.2.2.2.2.2.2.2.2.2.1 zg_14_24_0.2.2.2.2.2.2.2.2.2.2.2.2.2.2.2.2.1 zg_14_24_0.2.2.2.2.2.2.2.2.2.2.2.2.2.2.2.2.2.1 rfl, rfl⟩
theorem zd_14_24_18 : zz_D zy_isIllegal_14_24 18 (.invokestatic 192) 3 21 := ⟨zq_184 zg_14_24_0.2.2.2.2.2.2.2.2.2.2.2.2.2.2.2.2.2.2.1 zg_14_24_0.2.2.2.2.2.2.2.2.2.2.2.2.2.2.2.2.2.2.2.1 zg_14_24_0.2.2.2.2.2.2.2.2.2.2.2.2.2.2.2.2.2.2.2.2.1 rfl, rfl⟩
theorem zd_14_24_21 : zz_B zy_isIllegal_14_24 21 (Instr.ifCond .ne) 26 24 := ⟨5, zq_154 zg_14_24_0.2.2.2.2.2.2.2.2.2.2.2.2.2.2.2.2.2.2.2.2.2.1 zg_14_24_0.2.2.2.2.2.2.2.2.2.2.2.2.2.2.2.2.2.2.2.2.2.2.1 zg_14_24_0.2.2.2.2.2.2.2.2.2.2.2.2.2.2.2.2.2.2.2.2.2.2.2 (by decide), rfl, rfl⟩
theorem zg_14_24_24 : zq_at zy_isIllegal_14_24.2.1 24 4 ∧ zq_at zy_isIllegal_14_24.2.1 25 172 ∧ zq_at zy_isIllegal_14_24.2.1 26 29 ∧ zq_at zy_isIllegal_14_24.2.1 27 16 ∧ zq_at zy_isIllegal_14_24.2.1 28 9 ∧ zq_at zy_isIllegal_14_24.2.1 29 160 ∧ zq_at zy_isIllegal_14_24.2.1 30 0 ∧ zq_at zy_isIllegal_14_24.2.1 31 42 ∧ zq_at zy_isIllegal_14_24.2.1 71 42 ∧ zq_at zy_isIllegal_14_24.2.1 72 180 ∧ zq_at zy_isIllegal_14_24.2.1 73 0 ∧ zq_at zy_isIllegal_14_24.2.1 74 36 ∧ zq_at zy_isIllegal_14_24.2.1 75 16 ∧ zq_at zy_isIllegal_14_24.2.1 76 6 ∧ zq_at zy_isIllegal_14_24.2.1 77 46 ∧ zq_at zy_isIllegal_14_24.2.1 78 153 ∧ zq_at zy_isIllegal_14_24.2.1 79 0 ∧ zq_at zy_isIllegal_14_24.2.1 80 27 ∧ zq_at zy_isIllegal_14_24.2.1 105 4 ∧ zq_at zy_isIllegal_14_24.2.1 106 167 ∧ zq_at zy_isIllegal_14_24.2.1 107 0 ∧ zq_at zy_isIllegal_14_24.2.1 108 4 ∧ zq_at zy_isIllegal_14_24.2.1 110 54 ∧ zq_at zy_isIllegal_14_24.2.1 111 4 := by decide +kernel
theorem zd_14_24_24 : zz_D zy_isIllegal_14_24 24 (.iconst 1) 1 25 := ⟨zq_4 zg_14_24_24.1, rfl⟩
theorem zd_14_24_25 : zz_D zy_isIllegal_14_24 25 (.ireturn) 1 26 := ⟨zq_172 zg_14_24_24.2.1, rfl⟩
theorem zd_14_24_26 : zz_D zy_isIllegal_14_24 26 (.iload_n 3) 1 27 := ⟨zq_29 zg_14_24_24.2.2.1, rfl⟩
theorem zd_14_24_27 : zz_D zy_isIllegal_14_24 27 (.bipush 9) 2 29 := ⟨zq_16 zg_14_24_24.2.2.2.1 zg_14_24_24.2.2.2.2.1 (by decide), rfl⟩
theorem zd_14_24_29 : zz_B zy_isIllegal_14_24 29 (Instr.if_icmp .ne) 71 32 := ⟨42, zq_160 zg_14_24_24.2.2.2.2.2.1 zg_14_24_24.2.2.2.2.2.2.1 zg_14_24_24.2.2.2.2.2.2.2.1 (by decide), rfl, rfl⟩
theorem zd_14_24_71 : zz_D zy_isIllegal_14_24 71 (.aload_n 0) 1 72 := ⟨zq_42 zg_14_24_24.2.2.2.2.2.2.2.2.1, rfl⟩
theorem zd_14_24_72 : zz_D zy_isIllegal_14_24 72 (.getfield 36) 3 75 := ⟨zq_180 zg_14_24_24.2.2.2.2.2.2.2.2.2.1 zg_14_24_24.2.2.2.2.2.2.2.2.2.2.1 zg_14_24_24.2.2.2.2.2.2.2.2.2.2.2.1 rfl, rfl⟩
theorem zd_14_24_75 : zz_D zy_isIllegal_14_24 75 (.bipush 6) 2 77 := ⟨zq_16 zg_14_24_24.2.2.2.2.2.2.2.2.2.2.2.2.1 zg_14_24_24.2.2.2.2.2.2.2.2.2.2.2.2.2.1 (by decide), rfl⟩
theorem zd_14_24_77 : zz_D zy_isIllegal_14_24 77 (.iaload) 1 78 := ⟨zq_46 zg_14_24_24.2.2.2.2.2.2.2.2.2.2.2.2.2.2.1, rfl⟩
theorem zd_14_24_78 : zz_B zy_isIllegal_14_24 78 (Instr.ifCond .eq) 105 81 := ⟨27, zq_153 zg_14_24_24.2.2.2.2.2.2.2.2.2.2.2.2.2.2.2.1 zg_14_24_24.2.2.2.2.2.2.2.2.2.2.2.2.2.2.2.2.1 zg_14_24_24.2.2.2.2.2.2.2.2.2.2.2.2.2.2.2.2.2.1 (by decide), rfl, rfl⟩
theorem zd_14_24_105 : zz_D zy_isIllegal_14_24 105 (.iconst 1) 1 106 := ⟨zq_4 zg_14_24_24.2.2.2.2.2.2.2.2.2.2.2.2.2.2.2.2.2.2.1, rfl⟩
theorem zd_14_24_106 : zz_B zy_isIllegal_14_24 106 Instr.goto 110 109 := ⟨4, zq_167 zg_14_24_24.2.2.2.2.2.2.2.2.2.2.2.2.2.2.2.2.2.2.2.1 zg_14_24_24.2.2.2.2.2.2.2.2.2.2.2.2.2.2.2.2.2.2.2.2.1 zg_14_24_24.2.2.2.2.2.2.2.2.2.2.2.2.2.2.2.2.2.2.2.2.2.1 (by decide), rfl, rfl⟩
theorem zd_14_24_110 : zz_D zy_isIllegal_14_24 110 (.istore 4) 2 112 := ⟨zq_54 zg_14_24_24.2.2.2.2.2.2.2.2.2.2.2.2.2.2.2.2.2.2.2.2.2.2.1 zg_14_24_24.2.2.2.2.2.2.2.2.2.2.2.2.2.2.2.2.2.2.2.2.2.2.2, rfl⟩
theorem zg_14_24_112 : zq_at zy_isIllegal_14_24.2.1 112 8 ∧ zq_at zy_isIllegal_14_24.2.1 113 54 ∧ zq_at zy_isIllegal_14_24.2.1 114 5 ∧ zq_at zy_isIllegal_14_24.2.1 81 42 ∧ zq_at zy_isIllegal_14_24.2.1 82 180 ∧ zq_at zy_isIllegal_14_24.2.1 83 0 ∧ zq_at zy_isIllegal_14_24.2.1 84 36 ∧ zq_at zy_isIllegal_14_24.2.1 85 16 ∧ zq_at zy_isIllegal_14_24.2.1 86 7 ∧ zq_at zy_isIllegal_14_24.2.1 87 46 ∧ zq_at zy_isIllegal_14_24.2.1 88 153 ∧ zq_at zy_isIllegal_14_24.2.1 89 0 ∧ zq_at zy_isIllegal_14_24.2.1 90 17 ∧ zq_at zy_isIllegal_14_24.2.1 91 42 ∧ zq_at zy_isIllegal_14_24.2.1 92 180 ∧ zq_at zy_isIllegal_14_24.2.1 93 0 ∧ zq_at zy_isIllegal_14_24.2.1 94 36 ∧ zq_at zy_isIllegal_14_24.2.1 95 16 ∧ zq_at zy_isIllegal_14_24.2.1 96 7 ∧ zq_at zy_isIllegal_14_24.2.1 97 46 ∧ zq_at zy_isIllegal_14_24.2.1 98 42 ∧ zq_at zy_isIllegal_14_24.2.1 99 180 ∧ zq_at zy_isIllegal_14_24.2.1 100 0 ∧ zq_at zy_isIllegal_14_24.2.1 101 7 := by decide +kernel
theorem zd_14_24_112 : zz_D zy_isIllegal_14_24 112 (.iconst 5) 1 113 := ⟨zq_8 zg_14_24_112.1, rfl⟩
theorem zd_14_24_113 : zz_D zy_isIllegal_14_24 113 (.istore 5) 2 115 := ⟨zq_54 zg_14_24_112.2.1 zg_14_24_112.2.2.1, rfl⟩
theorem zd_14_24_81 : zz_D zy_isIllegal_14_24 81 (.aload_n 0) 1 82 := ⟨zq_42 zg_14_24_112.2.2.2.1, rfl⟩
theorem zd_14_24_82 : zz_D zy_isIllegal_14_24 82 (.getfield 36) 3 85 := ⟨zq_180 zg_14_24_112.2.2.2.2.1 zg_14_24_112.2.2.2.2.2.1 zg_14_24_112.2.2.2.2.2.2.1 rfl, rfl⟩
theorem zd_14_24_85 : zz_D zy_isIllegal_14_24 85 (.bipush 7) 2 87 := ⟨zq_16 zg_14_24_112.2.2.2.2.2.2.2.1 zg_14_24_112.2.2.2.2.2.2.2.2.1 (by decide), rfl⟩
theorem zd_14_24_87 : zz_D zy_isIllegal_14_24 87 (.iaload) 1 88 := ⟨zq_46 zg_14_24_112.2.2.2.2.2.2.2.2.2.1, rfl⟩
theorem zd_14_24_88 : zz_B zy_isIllegal_14_24 88 (Instr.ifCond .eq) 105 91 := ⟨17, zq_153 zg_14_24_112.2.2.2.2.2.2.2.2.2.2.1 zg_14_24_112.2.2.2.2.2.2.2.2.2.2.2.1 zg_14_24_112.2.2.2.2.2.2.2.2.2.2.2.2.1 (by decide), rfl, rfl⟩
theorem zd_14_24_91 : zz_D zy_isIllegal_14_24 91 (.aload_n 0) 1 92 := ⟨zq_42 zg_14_24_112.2.2.2.2.2.2.2.2.2.2.2.2.2.1, rfl⟩
theorem zd_14_24_92 : zz_D zy_isIllegal_14_24 92 (.getfield 36) 3 95 := ⟨zq_180 zg_14_24_112.2.2.2.2.2.2.2.2.2.2.2.2.2.2.1 zg_14_24_112.2.2.2.2.2.2.2.2.2.2.2.2.2.2.2.1 zg_14_24_112.2.2.2.2.2.2.2.2.2.2.2.2.2.2.2.2.1 rfl, rfl⟩
theorem zd_14_24_95 : zz_D zy_isIllegal_14_24 95 (.bipush 7) 2 97 := ⟨zq_16 zg_14_24_112.2.2.2.2.2.2.2.2.2.2.2.2.2.2.2.2.2.1 zg_14_24_112.2.2.2.2.2.2.2.2.2.2.2.2.2.2.2.2.2.2.1 (by decide), rfl⟩
theorem zd_14_24_97 : zz_D zy_isIllegal_14_24 97 (.iaload) 1 98 := ⟨zq_46 zg_14_24_112.2.2.2.2.2.2.2.2.2.2.2.2.2.2.2.2.2.2.2.1, rfl⟩
theorem zd_14_24_98 : zz_D zy_isIllegal_14_24 98 (.aload_n 0) 1 99 := ⟨zq_42 zg_14_24_112.2.2.2.2.2.2.2.2.2.2.2.2.2.2.2.2.2.2.2.2.1, rfl⟩
theorem zd_14_24_99 : zz_D zy_isIllegal_14_24 99 (.getfield 7) 3 102 := ⟨zq_180 zg_14_24_112.2.2.2.2.2.2.2.2.2.2.2.2.2.2.2.2.2.2.2.2.2.1 zg_14_24_112.2.2.2.2.2.2.2.2.2.2.2.2.2.2.2.2.2.2.2.2.2.2.1 zg_14_24_112.2.2.2.2.2.2.2.2.2.2.2.2.2.2.2.2.2.2.2.2.2.2.2 rfl, rfl⟩
theorem zg_14_24_102 : zq_at zy_isIllegal_14_24.2.1 102 164 ∧ zq_at zy_isIllegal_14_24.2.1 103 0 ∧ zq_at zy_isIllegal_14_24.2.1 104 7 ∧ zq_at zy_isIllegal_14_24.2.1 109 3 ∧ zq_at zy_isIllegal_14_24.2.1 32 42 ∧ zq_at zy_isIllegal_14_24.2.1 33 180 ∧ zq_at zy_isIllegal_14_24.2.1 34 0 ∧ zq_at zy_isIllegal_14_24.2.1 35 36 ∧ zq_at zy_isIllegal_14_24.2.1 36 16 ∧ zq_at zy_isIllegal_14_24.2.1 37 6 ∧ zq_at zy_isIllegal_14_24.2.1 38 46 ∧ zq_at zy_isIllegal_14_24.2.1 39 157 ∧ zq_at zy_isIllegal_14_24.2.1 40 0 ∧ zq_at zy_isIllegal_14_24.2.1 41 24 ∧ zq_at zy_isIllegal_14_24.2.1 63 4 ∧ zq_at zy_isIllegal_14_24.2.1 64 167 ∧ zq_at zy_isIllegal_14_24.2.1 65 0 ∧ zq_at zy_isIllegal_14_24.2.1 66 46 ∧ zq_at zy_isIllegal_14_24.2.1 42 42 ∧ zq_at zy_isIllegal_14_24.2.1 43 180 ∧ zq_at zy_isIllegal_14_24.2.1 44 0 ∧ zq_at zy_isIllegal_14_24.2.1 45 36 ∧ zq_at zy_isIllegal_14_24.2.1 46 16 ∧ zq_at zy_isIllegal_14_24.2.1 47 7 := by decide +kernel
theorem zd_14_24_102 : zz_B zy_isIllegal_14_24 102 (Instr.if_icmp .le) 109 105 := ⟨7, zq_164 zg_14_24_102.1 zg_14_24_102.2.1 zg_14_24_102.2.2.1 (by decide), rfl, rfl⟩
theorem zd_14_24_109 : zz_D zy_isIllegal_14_24 109 (.iconst 0) 1 110 := ⟨zq_3 zg_14_24_102.2.2.2.1, rfl⟩
theorem zd_14_24_32 : zz_D zy_isIllegal_14_24 32 (.aload_n 0) 1 33 := ⟨zq_42 zg_14_24_102.2.2.2.2.1, rfl⟩
theorem zd_14_24_33 : zz_D zy_isIllegal_14_24 33 (.getfield 36) 3 36 := ⟨zq_180 zg_14_24_102.2.2.2.2.2.1 zg_14_24_102.2.2.2.2.2.2.1 zg_14_24_102.2.2.2.2.2.2.2.1 rfl, rfl⟩
theorem zd_14_24_36 : zz_D zy_isIllegal_14_24 36 (.bipush 6) 2 38 := ⟨zq_16 zg_14_24_102.2.2.2.2.2.2.2.2.1 zg_14_24_102.2.2.2.2.2.2.2.2.2.1 (by decide), rfl⟩
theorem zd_14_24_38 : zz_D zy_isIllegal_14_24 38 (.iaload) 1 39 := ⟨zq_46 zg_14_24_102.2.2.2.2.2.2.2.2.2.2.1, rfl⟩
theorem zd_14_24_39 : zz_B zy_isIllegal_14_24 39 (Instr.ifCond .gt) 63 42 := ⟨24, zq_157 zg_14_24_102.2.2.2.2.2.2.2.2.2.2.2.1 zg_14_24_102.2.2.2.2.2.2.2.2.2.2.2.2.1 zg_14_24_102.2.2.2.2.2.2.2.2.2.2.2.2.2.1 (by decide), rfl, rfl⟩
theorem zd_14_24_63 : zz_D zy_isIllegal_14_24 63 (.iconst 1) 1 64 := ⟨zq_4 zg_14_24_102.2.2.2.2.2.2.2.2.2.2.2.2.2.2.1, rfl⟩
theorem zd_14_24_64 : zz_B zy_isIllegal_14_24 64 Instr.goto 110 67 := ⟨46, zq_167 zg_14_24_102.2.2.2.2.2.2.2.2.2.2.2.2.2.2.2.1 zg_14_24_102.2.2.2.2.2.2.2.2.2.2.2.2.2.2.2.2.1 zg_14_24_102.2.2.2.2.2.2.2.2.2.2.2.2.2.2.2.2.2.1 (by decide), rfl, rfl⟩
theorem zd_14_24_42 : zz_D zy_isIllegal_14_24 42 (.aload_n 0) 1 43 := ⟨zq_42 zg_14_24_102.2.2.2.2.2.2.2.2.2.2.2.2.2.2.2.2.2.2.1, rfl⟩
theorem zd_14_24_43 : zz_D zy_isIllegal_14_24 43 (.getfield 36) 3 46 := ⟨zq_180 zg_14_24_102.2.2.2.2.2.2.2.2.2.2.2.2.2.2.2.2.2.2.2.1 zg_14_24_102.2.2.2.2.2.2.2.2.2.2.2.2.2.2.2.2.2.2.2.2.1 zg_14_24_102.2.2.2.2.2.2.2.2.2.2.2.2.2.2.2.2.2.2.2.2.2.1 rfl, rfl⟩
theorem zd_14_24_46 : zz_D zy_isIllegal_14_24 46 (.bipush 7) 2 48 := ⟨zq_16 zg_14_24_102.2.2.2.2.2.2.2.2.2.2.2.2.2.2.2.2.2.2.2.2.2.2.1 zg_14_24_102.2.2.2.2.2.2.2.2.2.2.2.2.2.2.2.2.2.2.2.2.2.2.2 (by decide), rfl⟩
theorem zg_14_24_48 : zq_at zy_isIllegal_14_24.2.1 48 46 ∧ zq_at zy_isIllegal_14_24.2.1 49 157 ∧ zq_at zy_isIllegal_14_24.2.1 50 0 ∧ zq_at zy_isIllegal_14_24.2.1 51 14 ∧ zq_at zy_isIllegal_14_24.2.1 52 42 ∧ zq_at zy_isIllegal_14_24.2.1 53 180 ∧ zq_at zy_isIllegal_14_24.2.1 54 0 ∧ zq_at zy_isIllegal_14_24.2.1 55 36 ∧ zq_at zy_isIllegal_14_24.2.1 56 16 ∧ zq_at zy_isIllegal_14_24.2.1 57 11 ∧ zq_at zy_isIllegal_14_24.2.1 58 46 ∧ zq_at zy_isIllegal_14_24.2.1 59 5 ∧ zq_at zy_isIllegal_14_24.2.1 60 164 ∧ zq_at zy_isIllegal_14_24.2.1 61 0 ∧ zq_at zy_isIllegal_14_24.2.1 62 7 ∧ zq_at zy_isIllegal_14_24.2.1 67 3 ∧ zq_at zy_isIllegal_14_24.2.1 68 167 ∧ zq_at zy_isIllegal_14_24.2.1 69 0 ∧ zq_at zy_isIllegal_14_24.2.1 70 42 ∧ zq_at zy_isIllegal_14_24.2.1 115 21 ∧ zq_at zy_isIllegal_14_24.2.1 116 5 ∧ zq_at zy_isIllegal_14_24.2.1 117 16 ∧ zq_at zy_isIllegal_14_24.2.1 118 12 := by decide +kernel
theorem zd_14_24_48 : zz_D zy_isIllegal_14_24 48 (.iaload) 1 49 := ⟨zq_46 zg_14_24_48.1, rfl⟩
theorem zd_14_24_49 : zz_B zy_isIllegal_14_24 49 (Instr.ifCond .gt) 63 52 := ⟨14, zq_157 zg_14_24_48.2.1 zg_14_24_48.2.2.1 zg_14_24_48.2.2.2.1 (by decide), rfl, rfl⟩
theorem zd_14_24_52 : zz_D zy_isIllegal_14_24 52 (.aload_n 0) 1 53 := ⟨zq_42 zg_14_24_48.2.2.2.2.1, rfl⟩
theorem zd_14_24_53 : zz_D zy_isIllegal_14_24 53 (.getfield 36) 3 56 := ⟨zq_180 zg_14_24_48.2.2.2.2.2.1 zg_14_24_48.2.2.2.2.2.2.1 zg_14_24_48.2.2.2.2.2.2.2.1 rfl, rfl⟩
theorem zd_14_24_56 : zz_D zy_isIllegal_14_24 56 (.bipush 11) 2 58 := ⟨zq_16 zg_14_24_48.2.2.2.2.2.2.2.2.1 zg_14_24_48.2.2.2.2.2.2.2.2.2.1 (by decide), rfl⟩
theorem zd_14_24_58 : zz_D zy_isIllegal_14_24 58 (.iaload) 1 59 := ⟨zq_46 zg_14_24_48.2.2.2.2.2.2.2.2.2.2.1, rfl⟩
theorem zd_14_24_59 : zz_D zy_isIllegal_14_24 59 (.iconst 2) 1 60 := ⟨zq_5 zg_14_24_48.2.2.2.2.2.2.2.2.2.2.2.1, rfl⟩
theorem zd_14_24_60 : zz_B zy_isIllegal_14_24 60 (Instr.if_icmp .le) 67 63 := ⟨7, zq_164 zg_14_24_48.2.2.2.2.2.2.2.2.2.2.2.2.1 zg_14_24_48.2.2.2.2.2.2.2.2.2.2.2.2.2.1 zg_14_24_48.2.2.2.2.2.2.2.2.2.2.2.2.2.2.1 (by decide), rfl, rfl⟩
theorem zd_14_24_67 : zz_D zy_isIllegal_14_24 67 (.iconst 0) 1 68 := ⟨zq_3 zg_14_24_48.2.2.2.2.2.2.2.2.2.2.2.2.2.2.2.1, rfl⟩
theorem zd_14_24_68 : zz_B zy_isIllegal_14_24 68 Instr.goto 110 71 := ⟨42, zq_167 zg_14_24_48.2.2.2.2.2.2.2.2.2.2.2.2.2.2.2.2.1 zg_14_24_48.2.2.2.2.2.2.2.2.2.2.2.2.2.2.2.2.2.1 zg_14_24_48.2.2.2.2.2.2.2.2.2.2.2.2.2.2.2.2.2.2.1 (by decide), rfl, rfl⟩
theorem zd_14_24_115 : zz_D zy_isIllegal_14_24 115 (.iload 5) 2 117 := ⟨zq_21 zg_14_24_48.2.2.2.2.2.2.2.2.2.2.2.2.2.2.2.2.2.2.2.1 zg_14_24_48.2.2.2.2.2.2.2.2.2.2.2.2.2.2.2.2.2.2.2.2.1, rfl⟩
theorem zd_14_24_117 : zz_D zy_isIllegal_14_24 117 (.bipush 12) 2 119 := ⟨zq_16 zg_14_24_48.2.2.2.2.2.2.2.2.2.2.2.2.2.2.2.2.2.2.2.2.2.1 zg_14_24_48.2.2.2.2.2.2.2.2.2.2.2.2.2.2.2.2.2.2.2.2.2.2 (by decide), rfl⟩
theorem zg_14_24_119 : zq_at zy_isIllegal_14_24.2.1 119 162 ∧ zq_at zy_isIllegal_14_24.2.1 120 0 ∧ zq_at zy_isIllegal_14_24.2.1 121 54 ∧ zq_at zy_isIllegal_14_24.2.1 173 21 ∧ zq_at zy_isIllegal_14_24.2.1 174 4 ∧ zq_at zy_isIllegal_14_24.2.1 175 154 ∧ zq_at zy_isIllegal_14_24.2.1 176 0 ∧ zq_at zy_isIllegal_14_24.2.1 177 47 ∧ zq_at zy_isIllegal_14_24.2.1 222 4 ∧ zq_at zy_isIllegal_14_24.2.1 223 167 ∧ zq_at zy_isIllegal_14_24.2.1 224 0 ∧ zq_at zy_isIllegal_14_24.2.1 225 4 ∧ zq_at zy_isIllegal_14_24.2.1 227 54 ∧ zq_at zy_isIllegal_14_24.2.1 228 4 ∧ zq_at zy_isIllegal_14_24.2.1 229 21 ∧ zq_at zy_isIllegal_14_24.2.1 230 4 ∧ zq_at zy_isIllegal_14_24.2.1 231 153 ∧ zq_at zy_isIllegal_14_24.2.1 232 0 ∧ zq_at zy_isIllegal_14_24.2.1 233 5 ∧ zq_at zy_isIllegal_14_24.2.1 234 4 ∧ zq_at zy_isIllegal_14_24.2.1 235 172 ∧ zq_at zy_isIllegal_14_24.2.1 178 29 ∧ zq_at zy_isIllegal_14_24.2.1 179 8 := by decide +kernel
theorem zd_14_24_119 : zz_B zy_isIllegal_14_24 119 (Instr.if_icmp .ge) 173 122 := ⟨54, zq_162 zg_14_24_119.1 zg_14_24_119.2.1 zg_14_24_119.2.2.1 (by decide), rfl, rfl⟩
theorem zd_14_24_173 : zz_D zy_isIllegal_14_24 173 (.iload 4) 2 175 := ⟨zq_21 zg_14_24_119.2.2.2.1 zg_14_24_119.2.2.2.2.1, rfl⟩
theorem zd_14_24_175 : zz_B zy_isIllegal_14_24 175 (Instr.ifCond .ne) 222 178 := ⟨47, zq_154 zg_14_24_119.2.2.2.2.2.1 zg_14_24_119.2.2.2.2.2.2.1 zg_14_24_119.2.2.2.2.2.2.2.1 (by decide), rfl, rfl⟩
theorem zd_14_24_222 : zz_D zy_isIllegal_14_24 222 (.iconst 1) 1 223 := ⟨zq_4 zg_14_24_119.2.2.2.2.2.2.2.2.1, rfl⟩
theorem zd_14_24_223 : zz_B zy_isIllegal_14_24 223 Instr.goto 227 226 := ⟨4, zq_167 zg_14_24_119.2.2.2.2.2.2.2.2.2.1 zg_14_24_119.2.2.2.2.2.2.2.2.2.2.1 zg_14_24_119.2.2.2.2.2.2.2.2.2.2.2.1 (by decide), rfl, rfl⟩
theorem zd_14_24_227 : zz_D zy_isIllegal_14_24 227 (.istore 4) 2 229 := ⟨zq_54 zg_14_24_119.2.2.2.2.2.2.2.2.2.2.2.2.1 zg_14_24_119.2.2.2.2.2.2.2.2.2.2.2.2.2.1, rfl⟩
theorem zd_14_24_229 : zz_D zy_isIllegal_14_24 229 (.iload 4) 2 231 := ⟨zq_21 zg_14_24_119.2.2.2.2.2.2.2.2.2.2.2.2.2.2.1 zg_14_24_119.2.2.2.2.2.2.2.2.2.2.2.2.2.2.2.1, rfl⟩
theorem zd_14_24_231 : zz_B zy_isIllegal_14_24 231 (Instr.ifCond .eq) 236 234 := ⟨5, zq_153 zg_14_24_119.2.2.2.2.2.2.2.2.2.2.2.2.2.2.2.2.1 zg_14_24_119.2.2.2.2.2.2.2.2.2.2.2.2.2.2.2.2.2.1 zg_14_24_119.2.2.2.2.2.2.2.2.2.2.2.2.2.2.2.2.2.2.1 (by decide), rfl, rfl⟩
theorem zd_14_24_234 : zz_D zy_isIllegal_14_24 234 (.iconst 1) 1 235 := ⟨zq_4 zg_14_24_119.2.2.2.2.2.2.2.2.2.2.2.2.2.2.2.2.2.2.2.1, rfl⟩
theorem zd_14_24_235 : zz_D zy_isIllegal_14_24 235 (.ireturn) 1 236 := ⟨zq_172 zg_14_24_119.2.2.2.2.2.2.2.2.2.2.2.2.2.2.2.2.2.2.2.2.1, rfl⟩
theorem zd_14_24_178 : zz_D zy_isIllegal_14_24 178 (.iload_n 3) 1 179 := ⟨zq_29 zg_14_24_119.2.2.2.2.2.2.2.2.2.2.2.2.2.2.2.2.2.2.2.2.2.1, rfl⟩
theorem zd_14_24_179 : zz_D zy_isIllegal_14_24 179 (.iconst 5) 1 180 := ⟨zq_8 zg_14_24_119.2.2.2.2.2.2.2.2.2.2.2.2.2.2.2.2.2.2.2.2.2.2, rfl⟩
theorem zg_14_24_180 : zq_at zy_isIllegal_14_24.2.1 180 160 ∧ zq_at zy_isIllegal_14_24.2.1 181 0 ∧ zq_at zy_isIllegal_14_24.2.1 182 25 ∧ zq_at zy_isIllegal_14_24.2.1 205 29 ∧ zq_at zy_isIllegal_14_24.2.1 206 16 ∧ zq_at zy_isIllegal_14_24.2.1 207 6 ∧ zq_at zy_isIllegal_14_24.2.1 208 160 ∧ zq_at zy_isIllegal_14_24.2.1 209 0 ∧ zq_at zy_isIllegal_14_24.2.1 210 18 ∧ zq_at zy_isIllegal_14_24.2.1 226 3 ∧ zq_at zy_isIllegal_14_24.2.1 211 42 ∧ zq_at zy_isIllegal_14_24.2.1 212 180 ∧ zq_at zy_isIllegal_14_24.2.1 213 0 ∧ zq_at zy_isIllegal_14_24.2.1 214 36 ∧ zq_at zy_isIllegal_14_24.2.1 215 16 ∧ zq_at zy_isIllegal_14_24.2.1 216 11 ∧ zq_at zy_isIllegal_14_24.2.1 217 46 ∧ zq_at zy_isIllegal_14_24.2.1 218 5 ∧ zq_at zy_isIllegal_14_24.2.1 219 164 ∧ zq_at zy_isIllegal_14_24.2.1 220 0 ∧ zq_at zy_isIllegal_14_24.2.1 221 7 ∧ zq_at zy_isIllegal_14_24.2.1 183 42 := by decide +kernel
theorem zd_14_24_180 : zz_B zy_isIllegal_14_24 180 (Instr.if_icmp .ne) 205 183 := ⟨25, zq_160 zg_14_24_180.1 zg_14_24_180.2.1 zg_14_24_180.2.2.1 (by decide), rfl, rfl⟩
theorem zd_14_24_205 : zz_D zy_isIllegal_14_24 205 (.iload_n 3) 1 206 := ⟨zq_29 zg_14_24_180.2.2.2.1, rfl⟩
theorem zd_14_24_206 : zz_D zy_isIllegal_14_24 206 (.bipush 6) 2 208 := ⟨zq_16 zg_14_24_180.2.2.2.2.1 zg_14_24_180.2.2.2.2.2.1 (by decide), rfl⟩
theorem zd_14_24_208 : zz_B zy_isIllegal_14_24 208 (Instr.if_icmp .ne) 226 211 := ⟨18, zq_160 zg_14_24_180.2.2.2.2.2.2.1 zg_14_24_180.2.2.2.2.2.2.2.1 zg_14_24_180.2.2.2.2.2.2.2.2.1 (by decide), rfl, rfl⟩
theorem zd_14_24_226 : zz_D zy_isIllegal_14_24 226 (.iconst 0) 1 227 := ⟨zq_3 zg_14_24_180.2.2.2.2.2.2.2.2.2.1, rfl⟩
theorem zd_14_24_211 : zz_D zy_isIllegal_14_24 211 (.aload_n 0) 1 212 := ⟨zq_42 zg_14_24_180.2.2.2.2.2.2.2.2.2.2.1, rfl⟩
theorem zd_14_24_212 : zz_D zy_isIllegal_14_24 212 (.getfield 36) 3 215 := ⟨zq_180 zg_14_24_180.2.2.2.2.2.2.2.2.2.2.2.1 zg_14_24_180.2.2.2.2.2.2.2.2.2.2.2.2.1 zg_14_24_180.2.2.2.2.2.2.2.2.2.2.2.2.2.1 rfl, rfl⟩
theorem zd_14_24_215 : zz_D zy_isIllegal_14_24 215 (.bipush 11) 2 217 := ⟨zq_16 zg_14_24_180.2.2.2.2.2.2.2.2.2.2.2.2.2.2.1 zg_14_24_180.2.2.2.2.2.2.2.2.2.2.2.2.2.2.2.1 (by decide), rfl⟩
theorem zd_14_24_217 : zz_D zy_isIllegal_14_24 217 (.iaload) 1 218 := ⟨zq_46 zg_14_24_180.2.2.2.2.2.2.2.2.2.2.2.2.2.2.2.2.1, rfl⟩
theorem zd_14_24_218 : zz_D zy_isIllegal_14_24 218 (.iconst 2) 1 219 := ⟨zq_5 zg_14_24_180.2.2.2.2.2.2.2.2.2.2.2.2.2.2.2.2.2.1, rfl⟩
theorem zd_14_24_219 : zz_B zy_isIllegal_14_24 219 (Instr.if_icmp .le) 226 222 := ⟨7, zq_164 zg_14_24_180.2.2.2.2.2.2.2.2.2.2.2.2.2.2.2.2.2.2.1 zg_14_24_180.2.2.2.2.2.2.2.2.2.2.2.2.2.2.2.2.2.2.2.1 zg_14_24_180.2.2.2.2.2.2.2.2.2.2.2.2.2.2.2.2.2.2.2.2.1 (by decide), rfl, rfl⟩
theorem zd_14_24_183 : zz_D zy_isIllegal_14_24 183 (.aload_n 0) 1 184 := ⟨zq_42 zg_14_24_180.2.2.2.2.2.2.2.2.2.2.2.2.2.2.2.2.2.2.2.2.2, rfl⟩
theorem zg_14_24_184 : zq_at zy_isIllegal_14_24.2.1 184 180 ∧ zq_at zy_isIllegal_14_24.2.1 185 0 ∧ zq_at zy_isIllegal_14_24.2.1 186 36 ∧ zq_at zy_isIllegal_14_24.2.1 187 16 ∧ zq_at zy_isIllegal_14_24.2.1 188 11 ∧ zq_at zy_isIllegal_14_24.2.1 189 46 ∧ zq_at zy_isIllegal_14_24.2.1 190 5 ∧ zq_at zy_isIllegal_14_24.2.1 191 108 ∧ zq_at zy_isIllegal_14_24.2.1 192 133 ∧ zq_at zy_isIllegal_14_24.2.1 193 10 ∧ zq_at zy_isIllegal_14_24.2.1 194 42 ∧ zq_at zy_isIllegal_14_24.2.1 195 180 ∧ zq_at zy_isIllegal_14_24.2.1 196 0 ∧ zq_at zy_isIllegal_14_24.2.1 197 7 ∧ zq_at zy_isIllegal_14_24.2.1 198 133 ∧ zq_at zy_isIllegal_14_24.2.1 199 184 ∧ zq_at zy_isIllegal_14_24.2.1 200 0 ∧ zq_at zy_isIllegal_14_24.2.1 201 192 ∧ zq_at zy_isIllegal_14_24.2.1 202 153 ∧ zq_at zy_isIllegal_14_24.2.1 203 0 ∧ zq_at zy_isIllegal_14_24.2.1 204 20 ∧ zq_at zy_isIllegal_14_24.2.1 122 21 ∧ zq_at zy_isIllegal_14_24.2.1 123 4 := by decide +kernel
theorem zd_14_24_184 : zz_D zy_isIllegal_14_24 184 (.getfield 36) 3 187 := ⟨zq_180 zg_14_24_184.1 zg_14_24_184.2.1 zg_14_24_184.2.2.1 rfl, rfl⟩
theorem zd_14_24_187 : zz_D zy_isIllegal_14_24 187 (.bipush 11) 2 189 := ⟨zq_16 zg_14_24_184.2.2.2.1 zg_14_24_184.2.2.2.2.1 (by decide), rfl⟩
theorem zd_14_24_189 : zz_D zy_isIllegal_14_24 189 (.iaload) 1 190 := ⟨zq_46 zg_14_24_184.2.2.2.2.2.1, rfl⟩
theorem zd_14_24_190 : zz_D zy_isIllegal_14_24 190 (.iconst 2) 1 191 := ⟨zq_5 zg_14_24_184.2.2.2.2.2.2.1, rfl⟩
theorem zd_14_24_191 : zz_D zy_isIllegal_14_24 191 (.idiv) 1 192 := ⟨zq_108 zg_14_24_184.2.2.2.2.2.2.2.1, rfl⟩
theorem zd_14_24_192 : zz_D zy_isIllegal_14_24 192 (.i2l) 1 193 := ⟨zq_133 zg_14_24_184.2.2.2.2.2.2.2.2.1, rfl⟩
theorem zd_14_24_193 : zz_D zy_isIllegal_14_24 193 (.lconst 1) 1 194 := ⟨zq_10 zg_14_24_184.2.2.2.2.2.2.2.2.2.1, rfl⟩
theorem zd_14_24_194 : zz_D zy_isIllegal_14_24 194 (.aload_n 0) 1 195 := ⟨zq_42 zg_14_24_184.2.2.2.2.2.2.2.2.2.2.1, rfl⟩
theorem zd_14_24_195 : zz_D zy_isIllegal_14_24 195 (.getfield 7) 3 198 := ⟨zq_180 zg_14_24_184.2.2.2.2.2.2.2.2.2.2.2.1 zg_14_24_184.2.2.2.2.2.2.2.2.2.2.2.2.1 zg_14_24_184.2.2.2.2.2.2.2.2.2.2.2.2.2.1 rfl, rfl⟩
theorem zd_14_24_198 : zz_D zy_isIllegal_14_24 198 (.i2l) 1 199 := ⟨zq_133 zg_14_24_184.2.2.2.2.2.2.2.2.2.2.2.2.2.2.1, rfl⟩
theorem zd_14_24_199 : zz_D zy_isIllegal_14_24 199 (.invokestatic 192) 3 202 := ⟨zq_184 zg_14_24_184.2.2.2.2.2.2.2.2.2.2.2.2.2.2.2.1 zg_14_24_184.2.2.2.2.2.2.2.2.2.2.2.2.2.2.2.2.1 zg_14_24_184.2.2.2.2.2.2.2.2.2.2.2.2.2.2.2.2.2.1 rfl, rfl⟩
theorem zd_14_24_202 : zz_B zy_isIllegal_14_24 202 (Instr.ifCond .eq) 222 205 := ⟨20, zq_153 zg_14_24_184.2.2.2.2.2.2.2.2.2.2.2.2.2.2.2.2.2.2.1 zg_14_24_184.2.2.2.2.2.2.2.2.2.2.2.2.2.2.2.2.2.2.2.1 zg_14_24_184.2.2.2.2.2.2.2.2.2.2.2.2.2.2.2.2.2.2.2.2.1 (by decide), rfl, rfl⟩
theorem zd_14_24_122 : zz_D zy_isIllegal_14_24 122 (.iload 4) 2 124 := ⟨zq_21 zg_14_24_184.2.2.2.2.2.2.2.2.2.2.2.2.2.2.2.2.2.2.2.2.2.1 zg_14_24_184.2.2.2.2.2.2.2.2.2.2.2.2.2.2.2.2.2.2.2.2.2.2, rfl⟩
theorem zg_14_24_124 : zq_at zy_isIllegal_14_24.2.1 124 154 ∧ zq_at zy_isIllegal_14_24.2.1 125 0 ∧ zq_at zy_isIllegal_14_24.2.1 126 36 ∧ zq_at zy_isIllegal_14_24.2.1 160 4 ∧ zq_at zy_isIllegal_14_24.2.1 161 167 ∧ zq_at zy_isIllegal_14_24.2.1 162 0 ∧ zq_at zy_isIllegal_14_24.2.1 163 4 ∧ zq_at zy_isIllegal_14_24.2.1 165 54 ∧ zq_at zy_isIllegal_14_24.2.1 166 4 ∧ zq_at zy_isIllegal_14_24.2.1 167 132 ∧ zq_at zy_isIllegal_14_24.2.1 168 5 ∧ zq_at zy_isIllegal_14_24.2.1 169 1 ∧ zq_at zy_isIllegal_14_24.2.1 170 167 ∧ zq_at zy_isIllegal_14_24.2.1 171 255 ∧ zq_at zy_isIllegal_14_24.2.1 172 201 ∧ zq_at zy_isIllegal_14_24.2.1 127 21 ∧ zq_at zy_isIllegal_14_24.2.1 128 5 ∧ zq_at zy_isIllegal_14_24.2.1 129 16 ∧ zq_at zy_isIllegal_14_24.2.1 130 6 ∧ zq_at zy_isIllegal_14_24.2.1 131 159 ∧ zq_at zy_isIllegal_14_24.2.1 132 0 ∧ zq_at zy_isIllegal_14_24.2.1 133 33 ∧ zq_at zy_isIllegal_14_24.2.1 134 21 ∧ zq_at zy_isIllegal_14_24.2.1 135 5 := by decide +kernel
theorem zd_14_24_124 : zz_B zy_isIllegal_14_24 124 (Instr.ifCond .ne) 160 127 := ⟨36, zq_154 zg_14_24_124.1 zg_14_24_124.2.1 zg_14_24_124.2.2.1 (by decide), rfl, rfl⟩
theorem zd_14_24_160 : zz_D zy_isIllegal_14_24 160 (.iconst 1) 1 161 := ⟨zq_4 zg_14_24_124.2.2.2.1, rfl⟩
theorem zd_14_24_161 : zz_B zy_isIllegal_14_24 161 Instr.goto 165 164 := ⟨4, zq_167 zg_14_24_124.2.2.2.2.1 zg_14_24_124.2.2.2.2.2.1 zg_14_24_124.2.2.2.2.2.2.1 (by decide), rfl, rfl⟩
theorem zd_14_24_165 : zz_D zy_isIllegal_14_24 165 (.istore 4) 2 167 := ⟨zq_54 zg_14_24_124.2.2.2.2.2.2.2.1 zg_14_24_124.2.2.2.2.2.2.2.2.1, rfl⟩
theorem zd_14_24_167 : zz_D zy_isIllegal_14_24 167 (.iinc 5 1) 3 170 := ⟨zq_132 zg_14_24_124.2.2.2.2.2.2.2.2.2.1 zg_14_24_124.2.2.2.2.2.2.2.2.2.2.1 zg_14_24_124.2.2.2.2.2.2.2.2.2.2.2.1 (by decide), rfl⟩
theorem zd_14_24_170 : zz_B zy_isIllegal_14_24 170 Instr.goto 115 173 := ⟨(-55), zq_167 zg_14_24_124.2.2.2.2.2.2.2.2.2.2.2.2.1 zg_14_24_124.2.2.2.2.2.2.2.2.2.2.2.2.2.1 zg_14_24_124.2.2.2.2.2.2.2.2.2.2.2.2.2.2.1 (by decide), rfl, rfl⟩
theorem zd_14_24_127 : zz_D zy_isIllegal_14_24 127 (.iload 5) 2 129 := ⟨zq_21 zg_14_24_124.2.2.2.2.2.2.2.2.2.2.2.2.2.2.2.1 zg_14_24_124.2.2.2.2.2.2.2.2.2.2.2.2.2.2.2.2.1, rfl⟩
theorem zd_14_24_129 : zz_D zy_isIllegal_14_24 129 (.bipush 6) 2 131 := ⟨zq_16 zg_14_24_124.2.2.2.2.2.2.2.2.2.2.2.2.2.2.2.2.2.1 zg_14_24_124.2.2.2.2.2.2.2.2.2.2.2.2.2.2.2.2.2.2.1 (by decide), rfl⟩
theorem zd_14_24_131 : zz_B zy_isIllegal_14_24 131 (Instr.if_icmp .eq) 164 134 := ⟨33, zq_159 zg_14_24_124.2.2.2.2.2.2.2.2.2.2.2.2.2.2.2.2.2.2.2.1 zg_14_24_124.2.2.2.2.2.2.2.2.2.2.2.2.2.2.2.2.2.2.2.2.1 zg_14_24_124.2.2.2.2.2.2.2.2.2.2.2.2.2.2.2.2.2.2.2.2.2.1 (by decide), rfl, rfl⟩
theorem zd_14_24_134 : zz_D zy_isIllegal_14_24 134 (.iload 5) 2 136 := ⟨zq_21 zg_14_24_124.2.2.2.2.2.2.2.2.2.2.2.2.2.2.2.2.2.2.2.2.2.2.1 zg_14_24_124.2.2.2.2.2.2.2.2.2.2.2.2.2.2.2.2.2.2.2.2.2.2.2, rfl⟩
theorem zg_14_24_136 : zq_at zy_isIllegal_14_24.2.1 136 16 ∧ zq_at zy_isIllegal_14_24.2.1 137 7 ∧ zq_at zy_isIllegal_14_24.2.1 138 159 ∧ zq_at zy_isIllegal_14_24.2.1 139 0 ∧ zq_at zy_isIllegal_14_24.2.1 140 26 ∧ zq_at zy_isIllegal_14_24.2.1 141 29 ∧ zq_at zy_isIllegal_14_24.2.1 142 21 ∧ zq_at zy_isIllegal_14_24.2.1 143 5 ∧ zq_at zy_isIllegal_14_24.2.1 144 184 ∧ zq_at zy_isIllegal_14_24.2.1 145 0 ∧ zq_at zy_isIllegal_14_24.2.1 146 240 := by decide +kernel
theorem zd_14_24_136 : zz_D zy_isIllegal_14_24 136 (.bipush 7) 2 138 := ⟨zq_16 zg_14_24_136.1 zg_14_24_136.2.1 (by decide), rfl⟩
theorem zd_14_24_138 : zz_B zy_isIllegal_14_24 138 (Instr.if_icmp .eq) 164 141 := ⟨26, zq_159 zg_14_24_136.2.2.1 zg_14_24_136.2.2.2.1 zg_14_24_136.2.2.2.2.1 (by decide), rfl, rfl⟩
theorem zd_14_24_141 : zz_D zy_isIllegal_14_24 141 (.iload_n 3) 1 142 := ⟨zq_29 zg_14_24_136.2.2.2.2.2.1, rfl⟩
theorem zd_14_24_142 : zz_D zy_isIllegal_14_24 142 (.iload 5) 2 144 := ⟨zq_21 zg_14_24_136.2.2.2.2.2.2.1 zg_14_24_136.2.2.2.2.2.2.2.1, rfl⟩
theorem zd_14_24_144 : zz_D zy_isIllegal_14_24 144 (.invokestatic 240) 3 147 := ⟨zq_184 zg_14_24_136.2.2.2.2.2.2.2.2.1 zg_14_24_136.2.2.2.2.2.2.2.2.2.1 zg_14_24_136.2.2.2.2.2.2.2.2.2.2 rfl, rfl⟩
-- TensorForgeModel names (II)Z
abbrev zr_names_14_23x_5 : Room := { frames := 0, cells := 0, slots := 0, locals := 0 }
def zp_names_14_23x_5 (p0 : Int) (S0 : zz_S) : Int → zz_S → Prop := fun r S => S0 = S ∧ (0 ≤ r ∧ r ≤ 1) ∧ (r = zz_nm p0 5)
theorem zc_names_14_23x_5 {g : mm_G} {l : Launch} (p0 : Int) (S0 : zz_S) (n : Nat) (hn : zz_end ≤ n) (G_S0 : zz_G S0) (hp0 : (-2147483648) ≤ p0 ∧ p0 ≤ 2147483647) : mm_Met g l zy_names_14_23 zr_names_14_23x_5 [zi p0, zi 5] (zz_M S0 n) n (zz_QI n (zp_names_14_23x_5 p0 S0)) := by
  refine zz_enter (by decide) (Nat.le_of_ble_eq_true rfl) (zz_less (ls1 := [some (zi p0), some (zi 5)]) ⟨rfl, ⟨rfl, trivial⟩⟩ ?_)
  refine zz_iload_n (x := p0) rfl zd_14_23_0 ?_
  refine zz_iconst zd_14_23_1 ?_
  refine zz_icmp_eq (by omega) (by omega) zd_14_23_2 (fun c1 => ?_) (fun c1 => ?_)
  · refine zz_iconst zd_14_23_21 ?_
    refine zz_goto zd_14_23_22 ?_
    refine zz_istore_n [some (zi p0), some (zi 5), some (zi 1)] zd_14_23_26 (by decide) rfl ?_
    refine zz_iload_n (x := p0) rfl zd_14_23_27 ?_
    refine zz_iconst zd_14_23_28 ?_
    refine zz_icmp_eq (by omega) (by omega) zd_14_23_29 (fun c2 => ?_) (fun c2 => ?_)
    · exfalso; omega
    · refine zz_iload_n (x := p0) rfl zd_14_23_32 ?_
      refine zz_bipush (by decide) zd_14_23_33 ?_
      refine zz_icmp_eq (by omega) (by omega) zd_14_23_35 (fun c3 => ?_) (fun c3 => ?_)
      · exfalso; omega
      · refine zz_iload_n (x := p0) rfl zd_14_23_38 ?_
        refine zz_bipush (by decide) zd_14_23_39 ?_
        refine zz_icmp_ne (by omega) (by omega) zd_14_23_41 (fun c4 => ?_) (fun c4 => ?_)
        · refine zz_iconst zd_14_23_48 ?_
          refine zz_istore_n [some (zi p0), some (zi 5), some (zi 1), some (zi 0)] zd_14_23_49 (by decide) rfl ?_
          refine zz_iload_n (x := 5) rfl zd_14_23_50 ?_
          by_cases c5 : (5 : Int) = 5
          · refine zz_swIn 5 37 c5 (by decide) zd_14_23_51 rfl rfl ?_
            refine zz_iload_n (x := 1) rfl zd_14_23_88 ?_
            exact zz_zret zd_14_23_89 rfl (by omega) (Nat.zero_le _) (Nat.zero_le _) ⟨_, _, rfl, rfl, by omega, (zz_nmx (by omega) (by omega)).symm⟩
          by_cases c6 : (5 : Int) = 6
          · exfalso; omega
          by_cases c7 : (5 : Int) = 7
          · exfalso; omega
          by_cases c8 : (5 : Int) = 8
          · exfalso; omega
          by_cases c9 : (5 : Int) = 9
          · exfalso; omega
          by_cases c10 : (5 : Int) = 10
          · exfalso; omega
          exfalso; omega
        · exfalso; omega
  · refine zz_iload_n (x := p0) rfl zd_14_23_5 ?_
    refine zz_iconst zd_14_23_6 ?_
    refine zz_icmp_eq (by omega) (by omega) zd_14_23_7 (fun c12 => ?_) (fun c12 => ?_)
    · refine zz_iconst zd_14_23_21 ?_
      refine zz_goto zd_14_23_22 ?_
      refine zz_istore_n [some (zi p0), some (zi 5), some (zi 1)] zd_14_23_26 (by decide) rfl ?_
      refine zz_iload_n (x := p0) rfl zd_14_23_27 ?_
      refine zz_iconst zd_14_23_28 ?_
      refine zz_icmp_eq (by omega) (by omega) zd_14_23_29 (fun c13 => ?_) (fun c13 => ?_)
      · exfalso; omega
      · refine zz_iload_n (x := p0) rfl zd_14_23_32 ?_
        refine zz_bipush (by decide) zd_14_23_33 ?_
        refine zz_icmp_eq (by omega) (by omega) zd_14_23_35 (fun c14 => ?_) (fun c14 => ?_)
        · exfalso; omega
        · refine zz_iload_n (x := p0) rfl zd_14_23_38 ?_
          refine zz_bipush (by decide) zd_14_23_39 ?_
          refine zz_icmp_ne (by omega) (by omega) zd_14_23_41 (fun c15 => ?_) (fun c15 => ?_)
          · refine zz_iconst zd_14_23_48 ?_
            refine zz_istore_n [some (zi p0), some (zi 5), some (zi 1), some (zi 0)] zd_14_23_49 (by decide) rfl ?_
            refine zz_iload_n (x := 5) rfl zd_14_23_50 ?_
            by_cases c16 : (5 : Int) = 5
            · refine zz_swIn 5 37 c16 (by decide) zd_14_23_51 rfl rfl ?_
              refine zz_iload_n (x := 1) rfl zd_14_23_88 ?_
              exact zz_zret zd_14_23_89 rfl (by omega) (Nat.zero_le _) (Nat.zero_le _) ⟨_, _, rfl, rfl, by omega, (zz_nmx (by omega) (by omega)).symm⟩
            by_cases c17 : (5 : Int) = 6
            · exfalso; omega
            by_cases c18 : (5 : Int) = 7
            · exfalso; omega
            by_cases c19 : (5 : Int) = 8
            · exfalso; omega
            by_cases c20 : (5 : Int) = 9
            · exfalso; omega
            by_cases c21 : (5 : Int) = 10
            · exfalso; omega
            exfalso; omega
          · exfalso; omega
    · refine zz_iload_n (x := p0) rfl zd_14_23_10 ?_
      refine zz_iconst zd_14_23_11 ?_
      refine zz_icmp_eq (by omega) (by omega) zd_14_23_12 (fun c23 => ?_) (fun c23 => ?_)
      · refine zz_iconst zd_14_23_21 ?_
        refine zz_goto zd_14_23_22 ?_
        refine zz_istore_n [some (zi p0), some (zi 5), some (zi 1)] zd_14_23_26 (by decide) rfl ?_
        refine zz_iload_n (x := p0) rfl zd_14_23_27 ?_
        refine zz_iconst zd_14_23_28 ?_
        refine zz_icmp_eq (by omega) (by omega) zd_14_23_29 (fun c24 => ?_) (fun c24 => ?_)
        · exfalso; omega
        · refine zz_iload_n (x := p0) rfl zd_14_23_32 ?_
          refine zz_bipush (by decide) zd_14_23_33 ?_
          refine zz_icmp_eq (by omega) (by omega) zd_14_23_35 (fun c25 => ?_) (fun c25 => ?_)
          · exfalso; omega
          · refine zz_iload_n (x := p0) rfl zd_14_23_38 ?_
            refine zz_bipush (by decide) zd_14_23_39 ?_
            refine zz_icmp_ne (by omega) (by omega) zd_14_23_41 (fun c26 => ?_) (fun c26 => ?_)
            · refine zz_iconst zd_14_23_48 ?_
              refine zz_istore_n [some (zi p0), some (zi 5), some (zi 1), some (zi 0)] zd_14_23_49 (by decide) rfl ?_
              refine zz_iload_n (x := 5) rfl zd_14_23_50 ?_
              by_cases c27 : (5 : Int) = 5
              · refine zz_swIn 5 37 c27 (by decide) zd_14_23_51 rfl rfl ?_
                refine zz_iload_n (x := 1) rfl zd_14_23_88 ?_
                exact zz_zret zd_14_23_89 rfl (by omega) (Nat.zero_le _) (Nat.zero_le _) ⟨_, _, rfl, rfl, by omega, (zz_nmx (by omega) (by omega)).symm⟩
              by_cases c28 : (5 : Int) = 6
              · exfalso; omega
              by_cases c29 : (5 : Int) = 7
              · exfalso; omega
              by_cases c30 : (5 : Int) = 8
              · exfalso; omega
              by_cases c31 : (5 : Int) = 9
              · exfalso; omega
              by_cases c32 : (5 : Int) = 10
              · exfalso; omega
              exfalso; omega
            · exfalso; omega
      · refine zz_iload_n (x := p0) rfl zd_14_23_15 ?_
        refine zz_bipush (by decide) zd_14_23_16 ?_
        refine zz_icmp_ne (by omega) (by omega) zd_14_23_18 (fun c34 => ?_) (fun c34 => ?_)
        · refine zz_iconst zd_14_23_25 ?_
          refine zz_istore_n [some (zi p0), some (zi 5), some (zi 0)] zd_14_23_26 (by decide) rfl ?_
          refine zz_iload_n (x := p0) rfl zd_14_23_27 ?_
          refine zz_iconst zd_14_23_28 ?_
          refine zz_icmp_eq (by omega) (by omega) zd_14_23_29 (fun c35 => ?_) (fun c35 => ?_)
          · refine zz_iconst zd_14_23_44 ?_
            refine zz_goto zd_14_23_45 ?_
            refine zz_istore_n [some (zi p0), some (zi 5), some (zi 0), some (zi 1)] zd_14_23_49 (by decide) rfl ?_
            refine zz_iload_n (x := 5) rfl zd_14_23_50 ?_
            by_cases c36 : (5 : Int) = 5
            · refine zz_swIn 5 37 c36 (by decide) zd_14_23_51 rfl rfl ?_
              refine zz_iload_n (x := 0) rfl zd_14_23_88 ?_
              exact zz_zret zd_14_23_89 rfl (by omega) (Nat.zero_le _) (Nat.zero_le _) ⟨_, _, rfl, rfl, by omega, (zz_nmx (by omega) (by omega)).symm⟩
            by_cases c37 : (5 : Int) = 6
            · exfalso; omega
            by_cases c38 : (5 : Int) = 7
            · exfalso; omega
            by_cases c39 : (5 : Int) = 8
            · exfalso; omega
            by_cases c40 : (5 : Int) = 9
            · exfalso; omega
            by_cases c41 : (5 : Int) = 10
            · exfalso; omega
            exfalso; omega
          · refine zz_iload_n (x := p0) rfl zd_14_23_32 ?_
            refine zz_bipush (by decide) zd_14_23_33 ?_
            refine zz_icmp_eq (by omega) (by omega) zd_14_23_35 (fun c43 => ?_) (fun c43 => ?_)
            · refine zz_iconst zd_14_23_44 ?_
              refine zz_goto zd_14_23_45 ?_
              refine zz_istore_n [some (zi p0), some (zi 5), some (zi 0), some (zi 1)] zd_14_23_49 (by decide) rfl ?_
              refine zz_iload_n (x := 5) rfl zd_14_23_50 ?_
              by_cases c44 : (5 : Int) = 5
              · refine zz_swIn 5 37 c44 (by decide) zd_14_23_51 rfl rfl ?_
                refine zz_iload_n (x := 0) rfl zd_14_23_88 ?_
                exact zz_zret zd_14_23_89 rfl (by omega) (Nat.zero_le _) (Nat.zero_le _) ⟨_, _, rfl, rfl, by omega, (zz_nmx (by omega) (by omega)).symm⟩
              by_cases c45 : (5 : Int) = 6
              · exfalso; omega
              by_cases c46 : (5 : Int) = 7
              · exfalso; omega
              by_cases c47 : (5 : Int) = 8
              · exfalso; omega
              by_cases c48 : (5 : Int) = 9
              · exfalso; omega
              by_cases c49 : (5 : Int) = 10
              · exfalso; omega
              exfalso; omega
            · refine zz_iload_n (x := p0) rfl zd_14_23_38 ?_
              refine zz_bipush (by decide) zd_14_23_39 ?_
              refine zz_icmp_ne (by omega) (by omega) zd_14_23_41 (fun c51 => ?_) (fun c51 => ?_)
              · refine zz_iconst zd_14_23_48 ?_
                refine zz_istore_n [some (zi p0), some (zi 5), some (zi 0), some (zi 0)] zd_14_23_49 (by decide) rfl ?_
                refine zz_iload_n (x := 5) rfl zd_14_23_50 ?_
                by_cases c52 : (5 : Int) = 5
                · refine zz_swIn 5 37 c52 (by decide) zd_14_23_51 rfl rfl ?_
                  refine zz_iload_n (x := 0) rfl zd_14_23_88 ?_
                  exact zz_zret zd_14_23_89 rfl (by omega) (Nat.zero_le _) (Nat.zero_le _) ⟨_, _, rfl, rfl, by omega, (zz_nmx (by omega) (by omega)).symm⟩
                by_cases c53 : (5 : Int) = 6
                · exfalso; omega
                by_cases c54 : (5 : Int) = 7
                · exfalso; omega
                by_cases c55 : (5 : Int) = 8
                · exfalso; omega
                by_cases c56 : (5 : Int) = 9
                · exfalso; omega
                by_cases c57 : (5 : Int) = 10
                · exfalso; omega
                exfalso; omega
              · refine zz_iconst zd_14_23_44 ?_
                refine zz_goto zd_14_23_45 ?_
                refine zz_istore_n [some (zi p0), some (zi 5), some (zi 0), some (zi 1)] zd_14_23_49 (by decide) rfl ?_
                refine zz_iload_n (x := 5) rfl zd_14_23_50 ?_
                by_cases c59 : (5 : Int) = 5
                · refine zz_swIn 5 37 c59 (by decide) zd_14_23_51 rfl rfl ?_
                  refine zz_iload_n (x := 0) rfl zd_14_23_88 ?_
                  exact zz_zret zd_14_23_89 rfl (by omega) (Nat.zero_le _) (Nat.zero_le _) ⟨_, _, rfl, rfl, by omega, (zz_nmx (by omega) (by omega)).symm⟩
                by_cases c60 : (5 : Int) = 6
                · exfalso; omega
                by_cases c61 : (5 : Int) = 7
                · exfalso; omega
                by_cases c62 : (5 : Int) = 8
                · exfalso; omega
                by_cases c63 : (5 : Int) = 9
                · exfalso; omega
                by_cases c64 : (5 : Int) = 10
                · exfalso; omega
                exfalso; omega
        · refine zz_iconst zd_14_23_21 ?_
          refine zz_goto zd_14_23_22 ?_
          refine zz_istore_n [some (zi p0), some (zi 5), some (zi 1)] zd_14_23_26 (by decide) rfl ?_
          refine zz_iload_n (x := p0) rfl zd_14_23_27 ?_
          refine zz_iconst zd_14_23_28 ?_
          refine zz_icmp_eq (by omega) (by omega) zd_14_23_29 (fun c66 => ?_) (fun c66 => ?_)
          · exfalso; omega
          · refine zz_iload_n (x := p0) rfl zd_14_23_32 ?_
            refine zz_bipush (by decide) zd_14_23_33 ?_
            refine zz_icmp_eq (by omega) (by omega) zd_14_23_35 (fun c67 => ?_) (fun c67 => ?_)
            · exfalso; omega
            · refine zz_iload_n (x := p0) rfl zd_14_23_38 ?_
              refine zz_bipush (by decide) zd_14_23_39 ?_
              refine zz_icmp_ne (by omega) (by omega) zd_14_23_41 (fun c68 => ?_) (fun c68 => ?_)
              · refine zz_iconst zd_14_23_48 ?_
                refine zz_istore_n [some (zi p0), some (zi 5), some (zi 1), some (zi 0)] zd_14_23_49 (by decide) rfl ?_
                refine zz_iload_n (x := 5) rfl zd_14_23_50 ?_
                by_cases c69 : (5 : Int) = 5
                · refine zz_swIn 5 37 c69 (by decide) zd_14_23_51 rfl rfl ?_
                  refine zz_iload_n (x := 1) rfl zd_14_23_88 ?_
                  exact zz_zret zd_14_23_89 rfl (by omega) (Nat.zero_le _) (Nat.zero_le _) ⟨_, _, rfl, rfl, by omega, (zz_nmx (by omega) (by omega)).symm⟩
                by_cases c70 : (5 : Int) = 6
                · exfalso; omega
                by_cases c71 : (5 : Int) = 7
                · exfalso; omega
                by_cases c72 : (5 : Int) = 8
                · exfalso; omega
                by_cases c73 : (5 : Int) = 9
                · exfalso; omega
                by_cases c74 : (5 : Int) = 10
                · exfalso; omega
                exfalso; omega
              · exfalso; omega

abbrev zy_names_14_23 : mm_Y := (⟨"TensorForgeModel", "names", "(II)Z"⟩, prog_14_method_23_code, 4, (some .boolean))
theorem zyw_names_14_23 : mm_Yw zy_names_14_23 2 := ⟨mm_tb_1 1898 (by decide +kernel) rfl, mm_tb_1 12 (by decide +kernel) rfl, ⟨by decide, by decide⟩, by decide +kernel⟩
theorem zd_14_23_0 : zz_D zy_names_14_23 0 (.iload_n 0) 1 1 := ⟨by decide +kernel, rfl⟩
theorem zd_14_23_1 : zz_D zy_names_14_23 1 (.iconst 1) 1 2 := ⟨by decide +kernel, rfl⟩
theorem zd_14_23_2 : zz_B zy_names_14_23 2 (Instr.if_icmp .eq) 21 5 := ⟨19, by decide +kernel, rfl, rfl⟩
theorem zd_14_23_21 : zz_D zy_names_14_23 21 (.iconst 1) 1 22 := ⟨by decide +kernel, rfl⟩
theorem zd_14_23_22 : zz_B zy_names_14_23 22 Instr.goto 26 25 := ⟨4, by decide +kernel, rfl, rfl⟩
theorem zd_14_23_26 : zz_D zy_names_14_23 26 (.istore_n 2) 1 27 := ⟨by decide +kernel, rfl⟩
theorem zd_14_23_27 : zz_D zy_names_14_23 27 (.iload_n 0) 1 28 := ⟨by decide +kernel, rfl⟩
theorem zd_14_23_28 : zz_D zy_names_14_23 28 (.iconst 5) 1 29 := ⟨by decide +kernel, rfl⟩
theorem zd_14_23_29 : zz_B zy_names_14_23 29 (Instr.if_icmp .eq) 44 32 := ⟨15, by decide +kernel, rfl, rfl⟩
theorem zd_14_23_32 : zz_D zy_names_14_23 32 (.iload_n 0) 1 33 := ⟨by decide +kernel, rfl⟩
theorem zd_14_23_33 : zz_D zy_names_14_23 33 (.bipush 6) 2 35 := ⟨by decide +kernel, rfl⟩
theorem zd_14_23_35 : zz_B zy_names_14_23 35 (Instr.if_icmp .eq) 44 38 := ⟨9, by decide +kernel, rfl, rfl⟩
theorem zd_14_23_38 : zz_D zy_names_14_23 38 (.iload_n 0) 1 39 := ⟨by decide +kernel, rfl⟩
theorem zd_14_23_39 : zz_D zy_names_14_23 39 (.bipush 7) 2 41 := ⟨by decide +kernel, rfl⟩
theorem zd_14_23_41 : zz_B zy_names_14_23 41 (Instr.if_icmp .ne) 48 44 := ⟨7, by decide +kernel, rfl, rfl⟩
theorem zd_14_23_48 : zz_D zy_names_14_23 48 (.iconst 0) 1 49 := ⟨by decide +kernel, rfl⟩
theorem zd_14_23_49 : zz_D zy_names_14_23 49 (.istore_n 3) 1 50 := ⟨by decide +kernel, rfl⟩
theorem zd_14_23_50 : zz_D zy_names_14_23 50 (.iload_n 1) 1 51 := ⟨by decide +kernel, rfl⟩
theorem zd_14_23_51 : zz_W zy_names_14_23 51 68 5 10 #[37, 68, 68, 39, 51, 53] := ⟨37, by decide +kernel⟩
theorem zd_14_23_88 : zz_D zy_names_14_23 88 (.iload_n 2) 1 89 := ⟨by decide +kernel, rfl⟩
theorem zd_14_23_89 : zz_D zy_names_14_23 89 (.ireturn) 1 90 := ⟨by decide +kernel, rfl⟩
theorem zd_14_23_119 : zz_D zy_names_14_23 119 (.iload_n 3) 1 120 := ⟨by decide +kernel, rfl⟩
theorem zd_14_23_120 : zz_B zy_names_14_23 120 (Instr.ifCond .ne) 129 123 := ⟨9, by decide +kernel, rfl, rfl⟩
theorem zd_14_23_123 : zz_D zy_names_14_23 123 (.iload_n 0) 1 124 := ⟨by decide +kernel, rfl⟩
theorem zd_14_23_124 : zz_D zy_names_14_23 124 (.bipush 9) 2 126 := ⟨by decide +kernel, rfl⟩
theorem zd_14_23_126 : zz_B zy_names_14_23 126 (Instr.if_icmp .ne) 133 129 := ⟨7, by decide +kernel, rfl, rfl⟩
theorem zd_14_23_133 : zz_D zy_names_14_23 133 (.iconst 0) 1 134 := ⟨by decide +kernel, rfl⟩
theorem zd_14_23_134 : zz_D zy_names_14_23 134 (.ireturn) 1 135 := ⟨by decide +kernel, rfl⟩
theorem zd_14_23_90 : zz_D zy_names_14_23 90 (.iload_n 0) 1 91 := ⟨by decide +kernel, rfl⟩
theorem zd_14_23_91 : zz_D zy_names_14_23 91 (.bipush 9) 2 93 := ⟨by decide +kernel, rfl⟩
theorem zd_14_23_93 : zz_B zy_names_14_23 93 (Instr.if_icmp .eq) 100 96 := ⟨7, by decide +kernel, rfl, rfl⟩
theorem zd_14_23_96 : zz_D zy_names_14_23 96 (.iconst 1) 1 97 := ⟨by decide +kernel, rfl⟩
theorem zd_14_23_97 : zz_B zy_names_14_23 97 Instr.goto 101 100 := ⟨4, by decide +kernel, rfl, rfl⟩
theorem zd_14_23_101 : zz_D zy_names_14_23 101 (.ireturn) 1 102 := ⟨by decide +kernel, rfl⟩
theorem zd_14_23_102 : zz_D zy_names_14_23 102 (.iload_n 3) 1 103 := ⟨by decide +kernel, rfl⟩
theorem zd_14_23_103 : zz_D zy_names_14_23 103 (.ireturn) 1 104 := ⟨by decide +kernel, rfl⟩
theorem zd_14_23_104 : zz_D zy_names_14_23 104 (.iload_n 2) 1 105 := ⟨by decide +kernel, rfl⟩
theorem zd_14_23_105 : zz_B zy_names_14_23 105 (Instr.ifCond .ne) 113 108 := ⟨8, by decide +kernel, rfl, rfl⟩
theorem zd_14_23_113 : zz_D zy_names_14_23 113 (.iconst 1) 1 114 := ⟨by decide +kernel, rfl⟩
theorem zd_14_23_114 : zz_B zy_names_14_23 114 Instr.goto 118 117 := ⟨4, by decide +kernel, rfl, rfl⟩
theorem zd_14_23_118 : zz_D zy_names_14_23 118 (.ireturn) 1 119 := ⟨by decide +kernel, rfl⟩
theorem zd_14_23_5 : zz_D zy_names_14_23 5 (.iload_n 0) 1 6 := ⟨by decide +kernel, rfl⟩
theorem zd_14_23_6 : zz_D zy_names_14_23 6 (.iconst 2) 1 7 := ⟨by decide +kernel, rfl⟩
theorem zd_14_23_7 : zz_B zy_names_14_23 7 (Instr.if_icmp .eq) 21 10 := ⟨14, by decide +kernel, rfl, rfl⟩
theorem zd_14_23_10 : zz_D zy_names_14_23 10 (.iload_n 0) 1 11 := ⟨by decide +kernel, rfl⟩
theorem zd_14_23_11 : zz_D zy_names_14_23 11 (.iconst 4) 1 12 := ⟨by decide +kernel, rfl⟩
theorem zd_14_23_12 : zz_B zy_names_14_23 12 (Instr.if_icmp .eq) 21 15 := ⟨9, by decide +kernel, rfl, rfl⟩
theorem zd_14_23_15 : zz_D zy_names_14_23 15 (.iload_n 0) 1 16 := ⟨by decide +kernel, rfl⟩
theorem zd_14_23_16 : zz_D zy_names_14_23 16 (.bipush 8) 2 18 := ⟨by decide +kernel, rfl⟩
theorem zd_14_23_18 : zz_B zy_names_14_23 18 (Instr.if_icmp .ne) 25 21 := ⟨7, by decide +kernel, rfl, rfl⟩
theorem zd_14_23_25 : zz_D zy_names_14_23 25 (.iconst 0) 1 26 := ⟨by decide +kernel, rfl⟩
theorem zd_14_23_44 : zz_D zy_names_14_23 44 (.iconst 1) 1 45 := ⟨by decide +kernel, rfl⟩
theorem zd_14_23_45 : zz_B zy_names_14_23 45 Instr.goto 49 48 := ⟨4, by decide +kernel, rfl, rfl⟩
theorem zd_14_23_129 : zz_D zy_names_14_23 129 (.iconst 1) 1 130 := ⟨by decide +kernel, rfl⟩
theorem zd_14_23_130 : zz_B zy_names_14_23 130 Instr.goto 134 133 := ⟨4, by decide +kernel, rfl, rfl⟩
theorem zd_14_23_108 : zz_D zy_names_14_23 108 (.iload_n 0) 1 109 := ⟨by decide +kernel, rfl⟩
theorem zd_14_23_109 : zz_D zy_names_14_23 109 (.iconst 5) 1 110 := ⟨by decide +kernel, rfl⟩
theorem zd_14_23_110 : zz_B zy_names_14_23 110 (Instr.if_icmp .ne) 117 113 := ⟨7, by decide +kernel, rfl, rfl⟩
theorem zd_14_23_117 : zz_D zy_names_14_23 117 (.iconst 0) 1 118 := ⟨by decide +kernel, rfl⟩
theorem zd_14_23_100 : zz_D zy_names_14_23 100 (.iconst 0) 1 101 := ⟨by decide +kernel, rfl⟩
-- TensorForgeModel names (II)Z
abbrev zr_names_14_23 : Room := { frames := 0, cells := 0, slots := 0, locals := 0 }
def zp_names_14_23 (p0 : Int) (p1 : Int) (S0 : zz_S) : Int → zz_S → Prop := fun r S => S0 = S ∧ (0 ≤ r ∧ r ≤ 1)
theorem zc_names_14_23 {g : mm_G} {l : Launch} (p0 : Int) (p1 : Int) (S0 : zz_S) (n : Nat) (hn : zz_end ≤ n) (G_S0 : zz_G S0) (hp0 : (-2147483648) ≤ p0 ∧ p0 ≤ 2147483647) (hp1 : (-2147483648) ≤ p1 ∧ p1 ≤ 2147483647) : mm_Met g l zy_names_14_23 zr_names_14_23 [zi p0, zi p1] (zz_M S0 n) n (zz_QI n (zp_names_14_23 p0 p1 S0)) := by
  refine zz_enter (by decide) (Nat.le_of_ble_eq_true rfl) (zz_less (ls1 := [some (zi p0), some (zi p1)]) ⟨rfl, ⟨rfl, trivial⟩⟩ ?_)
  refine zz_iload_n (x := p0) rfl zd_14_23_0 ?_
  refine zz_iconst zd_14_23_1 ?_
  refine zz_icmp_eq (by omega) (by omega) zd_14_23_2 (fun c1 => ?_) (fun c1 => ?_)
  · refine zz_iconst zd_14_23_21 ?_
    refine zz_goto zd_14_23_22 ?_
    refine zz_istore_n [some (zi p0), some (zi p1), some (zi 1)] zd_14_23_26 (by decide) rfl ?_
    refine zz_iload_n (x := p0) rfl zd_14_23_27 ?_
    refine zz_iconst zd_14_23_28 ?_
    refine zz_icmp_eq (by omega) (by omega) zd_14_23_29 (fun c2 => ?_) (fun c2 => ?_)
    · exfalso; omega
    · refine zz_iload_n (x := p0) rfl zd_14_23_32 ?_
      refine zz_bipush (by decide) zd_14_23_33 ?_
      refine zz_icmp_eq (by omega) (by omega) zd_14_23_35 (fun c3 => ?_) (fun c3 => ?_)
      · exfalso; omega
      · refine zz_iload_n (x := p0) rfl zd_14_23_38 ?_
        refine zz_bipush (by decide) zd_14_23_39 ?_
        refine zz_icmp_ne (by omega) (by omega) zd_14_23_41 (fun c4 => ?_) (fun c4 => ?_)
        · refine zz_iconst zd_14_23_48 ?_
          refine zz_istore_n [some (zi p0), some (zi p1), some (zi 1), some (zi 0)] zd_14_23_49 (by decide) rfl ?_
          refine zz_iload_n (x := p1) rfl zd_14_23_50 ?_
          by_cases c5 : p1 = 5
          · refine zz_swIn 5 37 c5 (by decide) zd_14_23_51 rfl rfl ?_
            refine zz_iload_n (x := 1) rfl zd_14_23_88 ?_
            exact zz_zret zd_14_23_89 rfl (by omega) (Nat.zero_le _) (Nat.zero_le _) ⟨_, _, rfl, rfl, by omega⟩
          by_cases c6 : p1 = 6
          · refine zz_swIn 6 68 c6 (by decide) zd_14_23_51 rfl rfl ?_
            refine zz_iload_n (x := 0) rfl zd_14_23_119 ?_
            refine zz_if_ne (by omega) zd_14_23_120 (fun c7 => ?_) (fun c7 => ?_)
            · exfalso; omega
            · refine zz_iload_n (x := p0) rfl zd_14_23_123 ?_
              refine zz_bipush (by decide) zd_14_23_124 ?_
              refine zz_icmp_ne (by omega) (by omega) zd_14_23_126 (fun c8 => ?_) (fun c8 => ?_)
              · refine zz_iconst zd_14_23_133 ?_
                exact zz_zret zd_14_23_134 rfl (by omega) (Nat.zero_le _) (Nat.zero_le _) ⟨_, _, rfl, rfl, by omega⟩
              · exfalso; omega
          by_cases c9 : p1 = 7
          · refine zz_swIn 7 68 c9 (by decide) zd_14_23_51 rfl rfl ?_
            refine zz_iload_n (x := 0) rfl zd_14_23_119 ?_
            refine zz_if_ne (by omega) zd_14_23_120 (fun c10 => ?_) (fun c10 => ?_)
            · exfalso; omega
            · refine zz_iload_n (x := p0) rfl zd_14_23_123 ?_
              refine zz_bipush (by decide) zd_14_23_124 ?_
              refine zz_icmp_ne (by omega) (by omega) zd_14_23_126 (fun c11 => ?_) (fun c11 => ?_)
              · refine zz_iconst zd_14_23_133 ?_
                exact zz_zret zd_14_23_134 rfl (by omega) (Nat.zero_le _) (Nat.zero_le _) ⟨_, _, rfl, rfl, by omega⟩
              · exfalso; omega
          by_cases c12 : p1 = 8
          · refine zz_swIn 8 39 c12 (by decide) zd_14_23_51 rfl rfl ?_
            refine zz_iload_n (x := p0) rfl zd_14_23_90 ?_
            refine zz_bipush (by decide) zd_14_23_91 ?_
            refine zz_icmp_eq (by omega) (by omega) zd_14_23_93 (fun c13 => ?_) (fun c13 => ?_)
            · exfalso; omega
            · refine zz_iconst zd_14_23_96 ?_
              refine zz_goto zd_14_23_97 ?_
              exact zz_zret zd_14_23_101 rfl (by omega) (Nat.zero_le _) (Nat.zero_le _) ⟨_, _, rfl, rfl, by omega⟩
          by_cases c14 : p1 = 9
          · refine zz_swIn 9 51 c14 (by decide) zd_14_23_51 rfl rfl ?_
            refine zz_iload_n (x := 0) rfl zd_14_23_102 ?_
            exact zz_zret zd_14_23_103 rfl (by omega) (Nat.zero_le _) (Nat.zero_le _) ⟨_, _, rfl, rfl, by omega⟩
          by_cases c15 : p1 = 10
          · refine zz_swIn 10 53 c15 (by decide) zd_14_23_51 rfl rfl ?_
            refine zz_iload_n (x := 1) rfl zd_14_23_104 ?_
            refine zz_if_ne (by omega) zd_14_23_105 (fun c16 => ?_) (fun c16 => ?_)
            · refine zz_iconst zd_14_23_113 ?_
              refine zz_goto zd_14_23_114 ?_
              exact zz_zret zd_14_23_118 rfl (by omega) (Nat.zero_le _) (Nat.zero_le _) ⟨_, _, rfl, rfl, by omega⟩
            · exfalso; omega
          refine zz_swOut (by omega) (by omega) zd_14_23_51 rfl ?_
          refine zz_iload_n (x := 0) rfl zd_14_23_119 ?_
          refine zz_if_ne (by omega) zd_14_23_120 (fun c18 => ?_) (fun c18 => ?_)
          · exfalso; omega
          · refine zz_iload_n (x := p0) rfl zd_14_23_123 ?_
            refine zz_bipush (by decide) zd_14_23_124 ?_
            refine zz_icmp_ne (by omega) (by omega) zd_14_23_126 (fun c19 => ?_) (fun c19 => ?_)
            · refine zz_iconst zd_14_23_133 ?_
              exact zz_zret zd_14_23_134 rfl (by omega) (Nat.zero_le _) (Nat.zero_le _) ⟨_, _, rfl, rfl, by omega⟩
            · exfalso; omega
        · exfalso; omega
  · refine zz_iload_n (x := p0) rfl zd_14_23_5 ?_
    refine zz_iconst zd_14_23_6 ?_
    refine zz_icmp_eq (by omega) (by omega) zd_14_23_7 (fun c20 => ?_) (fun c20 => ?_)
    · refine zz_iconst zd_14_23_21 ?_
      refine zz_goto zd_14_23_22 ?_
      refine zz_istore_n [some (zi p0), some (zi p1), some (zi 1)] zd_14_23_26 (by decide) rfl ?_
      refine zz_iload_n (x := p0) rfl zd_14_23_27 ?_
      refine zz_iconst zd_14_23_28 ?_
      refine zz_icmp_eq (by omega) (by omega) zd_14_23_29 (fun c21 => ?_) (fun c21 => ?_)
      · exfalso; omega
      · refine zz_iload_n (x := p0) rfl zd_14_23_32 ?_
        refine zz_bipush (by decide) zd_14_23_33 ?_
        refine zz_icmp_eq (by omega) (by omega) zd_14_23_35 (fun c22 => ?_) (fun c22 => ?_)
        · exfalso; omega
        · refine zz_iload_n (x := p0) rfl zd_14_23_38 ?_
          refine zz_bipush (by decide) zd_14_23_39 ?_
          refine zz_icmp_ne (by omega) (by omega) zd_14_23_41 (fun c23 => ?_) (fun c23 => ?_)
          · refine zz_iconst zd_14_23_48 ?_
            refine zz_istore_n [some (zi p0), some (zi p1), some (zi 1), some (zi 0)] zd_14_23_49 (by decide) rfl ?_
            refine zz_iload_n (x := p1) rfl zd_14_23_50 ?_
            by_cases c24 : p1 = 5
            · refine zz_swIn 5 37 c24 (by decide) zd_14_23_51 rfl rfl ?_
              refine zz_iload_n (x := 1) rfl zd_14_23_88 ?_
              exact zz_zret zd_14_23_89 rfl (by omega) (Nat.zero_le _) (Nat.zero_le _) ⟨_, _, rfl, rfl, by omega⟩
            by_cases c25 : p1 = 6
            · refine zz_swIn 6 68 c25 (by decide) zd_14_23_51 rfl rfl ?_
              refine zz_iload_n (x := 0) rfl zd_14_23_119 ?_
              refine zz_if_ne (by omega) zd_14_23_120 (fun c26 => ?_) (fun c26 => ?_)
              · exfalso; omega
              · refine zz_iload_n (x := p0) rfl zd_14_23_123 ?_
                refine zz_bipush (by decide) zd_14_23_124 ?_
                refine zz_icmp_ne (by omega) (by omega) zd_14_23_126 (fun c27 => ?_) (fun c27 => ?_)
                · refine zz_iconst zd_14_23_133 ?_
                  exact zz_zret zd_14_23_134 rfl (by omega) (Nat.zero_le _) (Nat.zero_le _) ⟨_, _, rfl, rfl, by omega⟩
                · exfalso; omega
            by_cases c28 : p1 = 7
            · refine zz_swIn 7 68 c28 (by decide) zd_14_23_51 rfl rfl ?_
              refine zz_iload_n (x := 0) rfl zd_14_23_119 ?_
              refine zz_if_ne (by omega) zd_14_23_120 (fun c29 => ?_) (fun c29 => ?_)
              · exfalso; omega
              · refine zz_iload_n (x := p0) rfl zd_14_23_123 ?_
                refine zz_bipush (by decide) zd_14_23_124 ?_
                refine zz_icmp_ne (by omega) (by omega) zd_14_23_126 (fun c30 => ?_) (fun c30 => ?_)
                · refine zz_iconst zd_14_23_133 ?_
                  exact zz_zret zd_14_23_134 rfl (by omega) (Nat.zero_le _) (Nat.zero_le _) ⟨_, _, rfl, rfl, by omega⟩
                · exfalso; omega
            by_cases c31 : p1 = 8
            · refine zz_swIn 8 39 c31 (by decide) zd_14_23_51 rfl rfl ?_
              refine zz_iload_n (x := p0) rfl zd_14_23_90 ?_
              refine zz_bipush (by decide) zd_14_23_91 ?_
              refine zz_icmp_eq (by omega) (by omega) zd_14_23_93 (fun c32 => ?_) (fun c32 => ?_)
              · exfalso; omega
              · refine zz_iconst zd_14_23_96 ?_
                refine zz_goto zd_14_23_97 ?_
                exact zz_zret zd_14_23_101 rfl (by omega) (Nat.zero_le _) (Nat.zero_le _) ⟨_, _, rfl, rfl, by omega⟩
            by_cases c33 : p1 = 9
            · refine zz_swIn 9 51 c33 (by decide) zd_14_23_51 rfl rfl ?_
              refine zz_iload_n (x := 0) rfl zd_14_23_102 ?_
              exact zz_zret zd_14_23_103 rfl (by omega) (Nat.zero_le _) (Nat.zero_le _) ⟨_, _, rfl, rfl, by omega⟩
            by_cases c34 : p1 = 10
            · refine zz_swIn 10 53 c34 (by decide) zd_14_23_51 rfl rfl ?_
              refine zz_iload_n (x := 1) rfl zd_14_23_104 ?_
              refine zz_if_ne (by omega) zd_14_23_105 (fun c35 => ?_) (fun c35 => ?_)
              · refine zz_iconst zd_14_23_113 ?_
                refine zz_goto zd_14_23_114 ?_
                exact zz_zret zd_14_23_118 rfl (by omega) (Nat.zero_le _) (Nat.zero_le _) ⟨_, _, rfl, rfl, by omega⟩
              · exfalso; omega
            refine zz_swOut (by omega) (by omega) zd_14_23_51 rfl ?_
            refine zz_iload_n (x := 0) rfl zd_14_23_119 ?_
            refine zz_if_ne (by omega) zd_14_23_120 (fun c37 => ?_) (fun c37 => ?_)
            · exfalso; omega
            · refine zz_iload_n (x := p0) rfl zd_14_23_123 ?_
              refine zz_bipush (by decide) zd_14_23_124 ?_
              refine zz_icmp_ne (by omega) (by omega) zd_14_23_126 (fun c38 => ?_) (fun c38 => ?_)
              · refine zz_iconst zd_14_23_133 ?_
                exact zz_zret zd_14_23_134 rfl (by omega) (Nat.zero_le _) (Nat.zero_le _) ⟨_, _, rfl, rfl, by omega⟩
              · exfalso; omega
          · exfalso; omega
    · refine zz_iload_n (x := p0) rfl zd_14_23_10 ?_
      refine zz_iconst zd_14_23_11 ?_
      refine zz_icmp_eq (by omega) (by omega) zd_14_23_12 (fun c39 => ?_) (fun c39 => ?_)
      · refine zz_iconst zd_14_23_21 ?_
        refine zz_goto zd_14_23_22 ?_
        refine zz_istore_n [some (zi p0), some (zi p1), some (zi 1)] zd_14_23_26 (by decide) rfl ?_
        refine zz_iload_n (x := p0) rfl zd_14_23_27 ?_
        refine zz_iconst zd_14_23_28 ?_
        refine zz_icmp_eq (by omega) (by omega) zd_14_23_29 (fun c40 => ?_) (fun c40 => ?_)
        · exfalso; omega
        · refine zz_iload_n (x := p0) rfl zd_14_23_32 ?_
          refine zz_bipush (by decide) zd_14_23_33 ?_
          refine zz_icmp_eq (by omega) (by omega) zd_14_23_35 (fun c41 => ?_) (fun c41 => ?_)
          · exfalso; omega
          · refine zz_iload_n (x := p0) rfl zd_14_23_38 ?_
            refine zz_bipush (by decide) zd_14_23_39 ?_
            refine zz_icmp_ne (by omega) (by omega) zd_14_23_41 (fun c42 => ?_) (fun c42 => ?_)
            · refine zz_iconst zd_14_23_48 ?_
              refine zz_istore_n [some (zi p0), some (zi p1), some (zi 1), some (zi 0)] zd_14_23_49 (by decide) rfl ?_
              refine zz_iload_n (x := p1) rfl zd_14_23_50 ?_
              by_cases c43 : p1 = 5
              · refine zz_swIn 5 37 c43 (by decide) zd_14_23_51 rfl rfl ?_
                refine zz_iload_n (x := 1) rfl zd_14_23_88 ?_
                exact zz_zret zd_14_23_89 rfl (by omega) (Nat.zero_le _) (Nat.zero_le _) ⟨_, _, rfl, rfl, by omega⟩
              by_cases c44 : p1 = 6
              · refine zz_swIn 6 68 c44 (by decide) zd_14_23_51 rfl rfl ?_
                refine zz_iload_n (x := 0) rfl zd_14_23_119 ?_
                refine zz_if_ne (by omega) zd_14_23_120 (fun c45 => ?_) (fun c45 => ?_)
                · exfalso; omega
                · refine zz_iload_n (x := p0) rfl zd_14_23_123 ?_
                  refine zz_bipush (by decide) zd_14_23_124 ?_
                  refine zz_icmp_ne (by omega) (by omega) zd_14_23_126 (fun c46 => ?_) (fun c46 => ?_)
                  · refine zz_iconst zd_14_23_133 ?_
                    exact zz_zret zd_14_23_134 rfl (by omega) (Nat.zero_le _) (Nat.zero_le _) ⟨_, _, rfl, rfl, by omega⟩
                  · exfalso; omega
              by_cases c47 : p1 = 7
              · refine zz_swIn 7 68 c47 (by decide) zd_14_23_51 rfl rfl ?_
                refine zz_iload_n (x := 0) rfl zd_14_23_119 ?_
                refine zz_if_ne (by omega) zd_14_23_120 (fun c48 => ?_) (fun c48 => ?_)
                · exfalso; omega
                · refine zz_iload_n (x := p0) rfl zd_14_23_123 ?_
                  refine zz_bipush (by decide) zd_14_23_124 ?_
                  refine zz_icmp_ne (by omega) (by omega) zd_14_23_126 (fun c49 => ?_) (fun c49 => ?_)
                  · refine zz_iconst zd_14_23_133 ?_
                    exact zz_zret zd_14_23_134 rfl (by omega) (Nat.zero_le _) (Nat.zero_le _) ⟨_, _, rfl, rfl, by omega⟩
                  · exfalso; omega
              by_cases c50 : p1 = 8
              · refine zz_swIn 8 39 c50 (by decide) zd_14_23_51 rfl rfl ?_
                refine zz_iload_n (x := p0) rfl zd_14_23_90 ?_
                refine zz_bipush (by decide) zd_14_23_91 ?_
                refine zz_icmp_eq (by omega) (by omega) zd_14_23_93 (fun c51 => ?_) (fun c51 => ?_)
                · exfalso; omega
                · refine zz_iconst zd_14_23_96 ?_
                  refine zz_goto zd_14_23_97 ?_
                  exact zz_zret zd_14_23_101 rfl (by omega) (Nat.zero_le _) (Nat.zero_le _) ⟨_, _, rfl, rfl, by omega⟩
              by_cases c52 : p1 = 9
              · refine zz_swIn 9 51 c52 (by decide) zd_14_23_51 rfl rfl ?_
                refine zz_iload_n (x := 0) rfl zd_14_23_102 ?_
                exact zz_zret zd_14_23_103 rfl (by omega) (Nat.zero_le _) (Nat.zero_le _) ⟨_, _, rfl, rfl, by omega⟩
              by_cases c53 : p1 = 10
              · refine zz_swIn 10 53 c53 (by decide) zd_14_23_51 rfl rfl ?_
                refine zz_iload_n (x := 1) rfl zd_14_23_104 ?_
                refine zz_if_ne (by omega) zd_14_23_105 (fun c54 => ?_) (fun c54 => ?_)
                · refine zz_iconst zd_14_23_113 ?_
                  refine zz_goto zd_14_23_114 ?_
                  exact zz_zret zd_14_23_118 rfl (by omega) (Nat.zero_le _) (Nat.zero_le _) ⟨_, _, rfl, rfl, by omega⟩
                · exfalso; omega
              refine zz_swOut (by omega) (by omega) zd_14_23_51 rfl ?_
              refine zz_iload_n (x := 0) rfl zd_14_23_119 ?_
              refine zz_if_ne (by omega) zd_14_23_120 (fun c56 => ?_) (fun c56 => ?_)
              · exfalso; omega
              · refine zz_iload_n (x := p0) rfl zd_14_23_123 ?_
                refine zz_bipush (by decide) zd_14_23_124 ?_
                refine zz_icmp_ne (by omega) (by omega) zd_14_23_126 (fun c57 => ?_) (fun c57 => ?_)
                · refine zz_iconst zd_14_23_133 ?_
                  exact zz_zret zd_14_23_134 rfl (by omega) (Nat.zero_le _) (Nat.zero_le _) ⟨_, _, rfl, rfl, by omega⟩
                · exfalso; omega
            · exfalso; omega
      · refine zz_iload_n (x := p0) rfl zd_14_23_15 ?_
        refine zz_bipush (by decide) zd_14_23_16 ?_
        refine zz_icmp_ne (by omega) (by omega) zd_14_23_18 (fun c58 => ?_) (fun c58 => ?_)
        · refine zz_iconst zd_14_23_25 ?_
          refine zz_istore_n [some (zi p0), some (zi p1), some (zi 0)] zd_14_23_26 (by decide) rfl ?_
          refine zz_iload_n (x := p0) rfl zd_14_23_27 ?_
          refine zz_iconst zd_14_23_28 ?_
          refine zz_icmp_eq (by omega) (by omega) zd_14_23_29 (fun c59 => ?_) (fun c59 => ?_)
          · refine zz_iconst zd_14_23_44 ?_
            refine zz_goto zd_14_23_45 ?_
            refine zz_istore_n [some (zi p0), some (zi p1), some (zi 0), some (zi 1)] zd_14_23_49 (by decide) rfl ?_
            refine zz_iload_n (x := p1) rfl zd_14_23_50 ?_
            by_cases c60 : p1 = 5
            · refine zz_swIn 5 37 c60 (by decide) zd_14_23_51 rfl rfl ?_
              refine zz_iload_n (x := 0) rfl zd_14_23_88 ?_
              exact zz_zret zd_14_23_89 rfl (by omega) (Nat.zero_le _) (Nat.zero_le _) ⟨_, _, rfl, rfl, by omega⟩
            by_cases c61 : p1 = 6
            · refine zz_swIn 6 68 c61 (by decide) zd_14_23_51 rfl rfl ?_
              refine zz_iload_n (x := 1) rfl zd_14_23_119 ?_
              refine zz_if_ne (by omega) zd_14_23_120 (fun c62 => ?_) (fun c62 => ?_)
              · refine zz_iconst zd_14_23_129 ?_
                refine zz_goto zd_14_23_130 ?_
                exact zz_zret zd_14_23_134 rfl (by omega) (Nat.zero_le _) (Nat.zero_le _) ⟨_, _, rfl, rfl, by omega⟩
              · exfalso; omega
            by_cases c63 : p1 = 7
            · refine zz_swIn 7 68 c63 (by decide) zd_14_23_51 rfl rfl ?_
              refine zz_iload_n (x := 1) rfl zd_14_23_119 ?_
              refine zz_if_ne (by omega) zd_14_23_120 (fun c64 => ?_) (fun c64 => ?_)
              · refine zz_iconst zd_14_23_129 ?_
                refine zz_goto zd_14_23_130 ?_
                exact zz_zret zd_14_23_134 rfl (by omega) (Nat.zero_le _) (Nat.zero_le _) ⟨_, _, rfl, rfl, by omega⟩
              · exfalso; omega
            by_cases c65 : p1 = 8
            · refine zz_swIn 8 39 c65 (by decide) zd_14_23_51 rfl rfl ?_
              refine zz_iload_n (x := p0) rfl zd_14_23_90 ?_
              refine zz_bipush (by decide) zd_14_23_91 ?_
              refine zz_icmp_eq (by omega) (by omega) zd_14_23_93 (fun c66 => ?_) (fun c66 => ?_)
              · exfalso; omega
              · refine zz_iconst zd_14_23_96 ?_
                refine zz_goto zd_14_23_97 ?_
                exact zz_zret zd_14_23_101 rfl (by omega) (Nat.zero_le _) (Nat.zero_le _) ⟨_, _, rfl, rfl, by omega⟩
            by_cases c67 : p1 = 9
            · refine zz_swIn 9 51 c67 (by decide) zd_14_23_51 rfl rfl ?_
              refine zz_iload_n (x := 1) rfl zd_14_23_102 ?_
              exact zz_zret zd_14_23_103 rfl (by omega) (Nat.zero_le _) (Nat.zero_le _) ⟨_, _, rfl, rfl, by omega⟩
            by_cases c68 : p1 = 10
            · refine zz_swIn 10 53 c68 (by decide) zd_14_23_51 rfl rfl ?_
              refine zz_iload_n (x := 0) rfl zd_14_23_104 ?_
              refine zz_if_ne (by omega) zd_14_23_105 (fun c69 => ?_) (fun c69 => ?_)
              · exfalso; omega
              · refine zz_iload_n (x := p0) rfl zd_14_23_108 ?_
                refine zz_iconst zd_14_23_109 ?_
                refine zz_icmp_ne (by omega) (by omega) zd_14_23_110 (fun c70 => ?_) (fun c70 => ?_)
                · exfalso; omega
                · refine zz_iconst zd_14_23_113 ?_
                  refine zz_goto zd_14_23_114 ?_
                  exact zz_zret zd_14_23_118 rfl (by omega) (Nat.zero_le _) (Nat.zero_le _) ⟨_, _, rfl, rfl, by omega⟩
            refine zz_swOut (by omega) (by omega) zd_14_23_51 rfl ?_
            refine zz_iload_n (x := 1) rfl zd_14_23_119 ?_
            refine zz_if_ne (by omega) zd_14_23_120 (fun c72 => ?_) (fun c72 => ?_)
            · refine zz_iconst zd_14_23_129 ?_
              refine zz_goto zd_14_23_130 ?_
              exact zz_zret zd_14_23_134 rfl (by omega) (Nat.zero_le _) (Nat.zero_le _) ⟨_, _, rfl, rfl, by omega⟩
            · exfalso; omega
          · refine zz_iload_n (x := p0) rfl zd_14_23_32 ?_
            refine zz_bipush (by decide) zd_14_23_33 ?_
            refine zz_icmp_eq (by omega) (by omega) zd_14_23_35 (fun c73 => ?_) (fun c73 => ?_)
            · refine zz_iconst zd_14_23_44 ?_
              refine zz_goto zd_14_23_45 ?_
              refine zz_istore_n [some (zi p0), some (zi p1), some (zi 0), some (zi 1)] zd_14_23_49 (by decide) rfl ?_
              refine zz_iload_n (x := p1) rfl zd_14_23_50 ?_
              by_cases c74 : p1 = 5
              · refine zz_swIn 5 37 c74 (by decide) zd_14_23_51 rfl rfl ?_
                refine zz_iload_n (x := 0) rfl zd_14_23_88 ?_
                exact zz_zret zd_14_23_89 rfl (by omega) (Nat.zero_le _) (Nat.zero_le _) ⟨_, _, rfl, rfl, by omega⟩
              by_cases c75 : p1 = 6
              · refine zz_swIn 6 68 c75 (by decide) zd_14_23_51 rfl rfl ?_
                refine zz_iload_n (x := 1) rfl zd_14_23_119 ?_
                refine zz_if_ne (by omega) zd_14_23_120 (fun c76 => ?_) (fun c76 => ?_)
                · refine zz_iconst zd_14_23_129 ?_
                  refine zz_goto zd_14_23_130 ?_
                  exact zz_zret zd_14_23_134 rfl (by omega) (Nat.zero_le _) (Nat.zero_le _) ⟨_, _, rfl, rfl, by omega⟩
                · exfalso; omega
              by_cases c77 : p1 = 7
              · refine zz_swIn 7 68 c77 (by decide) zd_14_23_51 rfl rfl ?_
                refine zz_iload_n (x := 1) rfl zd_14_23_119 ?_
                refine zz_if_ne (by omega) zd_14_23_120 (fun c78 => ?_) (fun c78 => ?_)
                · refine zz_iconst zd_14_23_129 ?_
                  refine zz_goto zd_14_23_130 ?_
                  exact zz_zret zd_14_23_134 rfl (by omega) (Nat.zero_le _) (Nat.zero_le _) ⟨_, _, rfl, rfl, by omega⟩
                · exfalso; omega
              by_cases c79 : p1 = 8
              · refine zz_swIn 8 39 c79 (by decide) zd_14_23_51 rfl rfl ?_
                refine zz_iload_n (x := p0) rfl zd_14_23_90 ?_
                refine zz_bipush (by decide) zd_14_23_91 ?_
                refine zz_icmp_eq (by omega) (by omega) zd_14_23_93 (fun c80 => ?_) (fun c80 => ?_)
                · exfalso; omega
                · refine zz_iconst zd_14_23_96 ?_
                  refine zz_goto zd_14_23_97 ?_
                  exact zz_zret zd_14_23_101 rfl (by omega) (Nat.zero_le _) (Nat.zero_le _) ⟨_, _, rfl, rfl, by omega⟩
              by_cases c81 : p1 = 9
              · refine zz_swIn 9 51 c81 (by decide) zd_14_23_51 rfl rfl ?_
                refine zz_iload_n (x := 1) rfl zd_14_23_102 ?_
                exact zz_zret zd_14_23_103 rfl (by omega) (Nat.zero_le _) (Nat.zero_le _) ⟨_, _, rfl, rfl, by omega⟩
              by_cases c82 : p1 = 10
              · refine zz_swIn 10 53 c82 (by decide) zd_14_23_51 rfl rfl ?_
                refine zz_iload_n (x := 0) rfl zd_14_23_104 ?_
                refine zz_if_ne (by omega) zd_14_23_105 (fun c83 => ?_) (fun c83 => ?_)
                · exfalso; omega
                · refine zz_iload_n (x := p0) rfl zd_14_23_108 ?_
                  refine zz_iconst zd_14_23_109 ?_
                  refine zz_icmp_ne (by omega) (by omega) zd_14_23_110 (fun c84 => ?_) (fun c84 => ?_)
                  · refine zz_iconst zd_14_23_117 ?_
                    exact zz_zret zd_14_23_118 rfl (by omega) (Nat.zero_le _) (Nat.zero_le _) ⟨_, _, rfl, rfl, by omega⟩
                  · exfalso; omega
              refine zz_swOut (by omega) (by omega) zd_14_23_51 rfl ?_
              refine zz_iload_n (x := 1) rfl zd_14_23_119 ?_
              refine zz_if_ne (by omega) zd_14_23_120 (fun c86 => ?_) (fun c86 => ?_)
              · refine zz_iconst zd_14_23_129 ?_
                refine zz_goto zd_14_23_130 ?_
                exact zz_zret zd_14_23_134 rfl (by omega) (Nat.zero_le _) (Nat.zero_le _) ⟨_, _, rfl, rfl, by omega⟩
              · exfalso; omega
            · refine zz_iload_n (x := p0) rfl zd_14_23_38 ?_
              refine zz_bipush (by decide) zd_14_23_39 ?_
              refine zz_icmp_ne (by omega) (by omega) zd_14_23_41 (fun c87 => ?_) (fun c87 => ?_)
              · refine zz_iconst zd_14_23_48 ?_
                refine zz_istore_n [some (zi p0), some (zi p1), some (zi 0), some (zi 0)] zd_14_23_49 (by decide) rfl ?_
                refine zz_iload_n (x := p1) rfl zd_14_23_50 ?_
                by_cases c88 : p1 = 5
                · refine zz_swIn 5 37 c88 (by decide) zd_14_23_51 rfl rfl ?_
                  refine zz_iload_n (x := 0) rfl zd_14_23_88 ?_
                  exact zz_zret zd_14_23_89 rfl (by omega) (Nat.zero_le _) (Nat.zero_le _) ⟨_, _, rfl, rfl, by omega⟩
                by_cases c89 : p1 = 6
                · refine zz_swIn 6 68 c89 (by decide) zd_14_23_51 rfl rfl ?_
                  refine zz_iload_n (x := 0) rfl zd_14_23_119 ?_
                  refine zz_if_ne (by omega) zd_14_23_120 (fun c90 => ?_) (fun c90 => ?_)
                  · exfalso; omega
                  · refine zz_iload_n (x := p0) rfl zd_14_23_123 ?_
                    refine zz_bipush (by decide) zd_14_23_124 ?_
                    refine zz_icmp_ne (by omega) (by omega) zd_14_23_126 (fun c91 => ?_) (fun c91 => ?_)
                    · refine zz_iconst zd_14_23_133 ?_
                      exact zz_zret zd_14_23_134 rfl (by omega) (Nat.zero_le _) (Nat.zero_le _) ⟨_, _, rfl, rfl, by omega⟩
                    · refine zz_iconst zd_14_23_129 ?_
                      refine zz_goto zd_14_23_130 ?_
                      exact zz_zret zd_14_23_134 rfl (by omega) (Nat.zero_le _) (Nat.zero_le _) ⟨_, _, rfl, rfl, by omega⟩
                by_cases c92 : p1 = 7
                · refine zz_swIn 7 68 c92 (by decide) zd_14_23_51 rfl rfl ?_
                  refine zz_iload_n (x := 0) rfl zd_14_23_119 ?_
                  refine zz_if_ne (by omega) zd_14_23_120 (fun c93 => ?_) (fun c93 => ?_)
                  · exfalso; omega
                  · refine zz_iload_n (x := p0) rfl zd_14_23_123 ?_
                    refine zz_bipush (by decide) zd_14_23_124 ?_
                    refine zz_icmp_ne (by omega) (by omega) zd_14_23_126 (fun c94 => ?_) (fun c94 => ?_)
                    · refine zz_iconst zd_14_23_133 ?_
                      exact zz_zret zd_14_23_134 rfl (by omega) (Nat.zero_le _) (Nat.zero_le _) ⟨_, _, rfl, rfl, by omega⟩
                    · refine zz_iconst zd_14_23_129 ?_
                      refine zz_goto zd_14_23_130 ?_
                      exact zz_zret zd_14_23_134 rfl (by omega) (Nat.zero_le _) (Nat.zero_le _) ⟨_, _, rfl, rfl, by omega⟩
                by_cases c95 : p1 = 8
                · refine zz_swIn 8 39 c95 (by decide) zd_14_23_51 rfl rfl ?_
                  refine zz_iload_n (x := p0) rfl zd_14_23_90 ?_
                  refine zz_bipush (by decide) zd_14_23_91 ?_
                  refine zz_icmp_eq (by omega) (by omega) zd_14_23_93 (fun c96 => ?_) (fun c96 => ?_)
                  · refine zz_iconst zd_14_23_100 ?_
                    exact zz_zret zd_14_23_101 rfl (by omega) (Nat.zero_le _) (Nat.zero_le _) ⟨_, _, rfl, rfl, by omega⟩
                  · refine zz_iconst zd_14_23_96 ?_
                    refine zz_goto zd_14_23_97 ?_
                    exact zz_zret zd_14_23_101 rfl (by omega) (Nat.zero_le _) (Nat.zero_le _) ⟨_, _, rfl, rfl, by omega⟩
                by_cases c97 : p1 = 9
                · refine zz_swIn 9 51 c97 (by decide) zd_14_23_51 rfl rfl ?_
                  refine zz_iload_n (x := 0) rfl zd_14_23_102 ?_
                  exact zz_zret zd_14_23_103 rfl (by omega) (Nat.zero_le _) (Nat.zero_le _) ⟨_, _, rfl, rfl, by omega⟩
                by_cases c98 : p1 = 10
                · refine zz_swIn 10 53 c98 (by decide) zd_14_23_51 rfl rfl ?_
                  refine zz_iload_n (x := 0) rfl zd_14_23_104 ?_
                  refine zz_if_ne (by omega) zd_14_23_105 (fun c99 => ?_) (fun c99 => ?_)
                  · exfalso; omega
                  · refine zz_iload_n (x := p0) rfl zd_14_23_108 ?_
                    refine zz_iconst zd_14_23_109 ?_
                    refine zz_icmp_ne (by omega) (by omega) zd_14_23_110 (fun c100 => ?_) (fun c100 => ?_)
                    · refine zz_iconst zd_14_23_117 ?_
                      exact zz_zret zd_14_23_118 rfl (by omega) (Nat.zero_le _) (Nat.zero_le _) ⟨_, _, rfl, rfl, by omega⟩
                    · refine zz_iconst zd_14_23_113 ?_
                      refine zz_goto zd_14_23_114 ?_
                      exact zz_zret zd_14_23_118 rfl (by omega) (Nat.zero_le _) (Nat.zero_le _) ⟨_, _, rfl, rfl, by omega⟩
                refine zz_swOut (by omega) (by omega) zd_14_23_51 rfl ?_
                refine zz_iload_n (x := 0) rfl zd_14_23_119 ?_
                refine zz_if_ne (by omega) zd_14_23_120 (fun c102 => ?_) (fun c102 => ?_)
                · exfalso; omega
                · refine zz_iload_n (x := p0) rfl zd_14_23_123 ?_
                  refine zz_bipush (by decide) zd_14_23_124 ?_
                  refine zz_icmp_ne (by omega) (by omega) zd_14_23_126 (fun c103 => ?_) (fun c103 => ?_)
                  · refine zz_iconst zd_14_23_133 ?_
                    exact zz_zret zd_14_23_134 rfl (by omega) (Nat.zero_le _) (Nat.zero_le _) ⟨_, _, rfl, rfl, by omega⟩
                  · refine zz_iconst zd_14_23_129 ?_
                    refine zz_goto zd_14_23_130 ?_
                    exact zz_zret zd_14_23_134 rfl (by omega) (Nat.zero_le _) (Nat.zero_le _) ⟨_, _, rfl, rfl, by omega⟩
              · refine zz_iconst zd_14_23_44 ?_
                refine zz_goto zd_14_23_45 ?_
                refine zz_istore_n [some (zi p0), some (zi p1), some (zi 0), some (zi 1)] zd_14_23_49 (by decide) rfl ?_
                refine zz_iload_n (x := p1) rfl zd_14_23_50 ?_
                by_cases c104 : p1 = 5
                · refine zz_swIn 5 37 c104 (by decide) zd_14_23_51 rfl rfl ?_
                  refine zz_iload_n (x := 0) rfl zd_14_23_88 ?_
                  exact zz_zret zd_14_23_89 rfl (by omega) (Nat.zero_le _) (Nat.zero_le _) ⟨_, _, rfl, rfl, by omega⟩
                by_cases c105 : p1 = 6
                · refine zz_swIn 6 68 c105 (by decide) zd_14_23_51 rfl rfl ?_
                  refine zz_iload_n (x := 1) rfl zd_14_23_119 ?_
                  refine zz_if_ne (by omega) zd_14_23_120 (fun c106 => ?_) (fun c106 => ?_)
                  · refine zz_iconst zd_14_23_129 ?_
                    refine zz_goto zd_14_23_130 ?_
                    exact zz_zret zd_14_23_134 rfl (by omega) (Nat.zero_le _) (Nat.zero_le _) ⟨_, _, rfl, rfl, by omega⟩
                  · exfalso; omega
                by_cases c107 : p1 = 7
                · refine zz_swIn 7 68 c107 (by decide) zd_14_23_51 rfl rfl ?_
                  refine zz_iload_n (x := 1) rfl zd_14_23_119 ?_
                  refine zz_if_ne (by omega) zd_14_23_120 (fun c108 => ?_) (fun c108 => ?_)
                  · refine zz_iconst zd_14_23_129 ?_
                    refine zz_goto zd_14_23_130 ?_
                    exact zz_zret zd_14_23_134 rfl (by omega) (Nat.zero_le _) (Nat.zero_le _) ⟨_, _, rfl, rfl, by omega⟩
                  · exfalso; omega
                by_cases c109 : p1 = 8
                · refine zz_swIn 8 39 c109 (by decide) zd_14_23_51 rfl rfl ?_
                  refine zz_iload_n (x := p0) rfl zd_14_23_90 ?_
                  refine zz_bipush (by decide) zd_14_23_91 ?_
                  refine zz_icmp_eq (by omega) (by omega) zd_14_23_93 (fun c110 => ?_) (fun c110 => ?_)
                  · exfalso; omega
                  · refine zz_iconst zd_14_23_96 ?_
                    refine zz_goto zd_14_23_97 ?_
                    exact zz_zret zd_14_23_101 rfl (by omega) (Nat.zero_le _) (Nat.zero_le _) ⟨_, _, rfl, rfl, by omega⟩
                by_cases c111 : p1 = 9
                · refine zz_swIn 9 51 c111 (by decide) zd_14_23_51 rfl rfl ?_
                  refine zz_iload_n (x := 1) rfl zd_14_23_102 ?_
                  exact zz_zret zd_14_23_103 rfl (by omega) (Nat.zero_le _) (Nat.zero_le _) ⟨_, _, rfl, rfl, by omega⟩
                by_cases c112 : p1 = 10
                · refine zz_swIn 10 53 c112 (by decide) zd_14_23_51 rfl rfl ?_
                  refine zz_iload_n (x := 0) rfl zd_14_23_104 ?_
                  refine zz_if_ne (by omega) zd_14_23_105 (fun c113 => ?_) (fun c113 => ?_)
                  · exfalso; omega
                  · refine zz_iload_n (x := p0) rfl zd_14_23_108 ?_
                    refine zz_iconst zd_14_23_109 ?_
                    refine zz_icmp_ne (by omega) (by omega) zd_14_23_110 (fun c114 => ?_) (fun c114 => ?_)
                    · refine zz_iconst zd_14_23_117 ?_
                      exact zz_zret zd_14_23_118 rfl (by omega) (Nat.zero_le _) (Nat.zero_le _) ⟨_, _, rfl, rfl, by omega⟩
                    · exfalso; omega
                refine zz_swOut (by omega) (by omega) zd_14_23_51 rfl ?_
                refine zz_iload_n (x := 1) rfl zd_14_23_119 ?_
                refine zz_if_ne (by omega) zd_14_23_120 (fun c116 => ?_) (fun c116 => ?_)
                · refine zz_iconst zd_14_23_129 ?_
                  refine zz_goto zd_14_23_130 ?_
                  exact zz_zret zd_14_23_134 rfl (by omega) (Nat.zero_le _) (Nat.zero_le _) ⟨_, _, rfl, rfl, by omega⟩
                · exfalso; omega
        · refine zz_iconst zd_14_23_21 ?_
          refine zz_goto zd_14_23_22 ?_
          refine zz_istore_n [some (zi p0), some (zi p1), some (zi 1)] zd_14_23_26 (by decide) rfl ?_
          refine zz_iload_n (x := p0) rfl zd_14_23_27 ?_
          refine zz_iconst zd_14_23_28 ?_
          refine zz_icmp_eq (by omega) (by omega) zd_14_23_29 (fun c117 => ?_) (fun c117 => ?_)
          · exfalso; omega
          · refine zz_iload_n (x := p0) rfl zd_14_23_32 ?_
            refine zz_bipush (by decide) zd_14_23_33 ?_
            refine zz_icmp_eq (by omega) (by omega) zd_14_23_35 (fun c118 => ?_) (fun c118 => ?_)
            · exfalso; omega
            · refine zz_iload_n (x := p0) rfl zd_14_23_38 ?_
              refine zz_bipush (by decide) zd_14_23_39 ?_
              refine zz_icmp_ne (by omega) (by omega) zd_14_23_41 (fun c119 => ?_) (fun c119 => ?_)
              · refine zz_iconst zd_14_23_48 ?_
                refine zz_istore_n [some (zi p0), some (zi p1), some (zi 1), some (zi 0)] zd_14_23_49 (by decide) rfl ?_
                refine zz_iload_n (x := p1) rfl zd_14_23_50 ?_
                by_cases c120 : p1 = 5
                · refine zz_swIn 5 37 c120 (by decide) zd_14_23_51 rfl rfl ?_
                  refine zz_iload_n (x := 1) rfl zd_14_23_88 ?_
                  exact zz_zret zd_14_23_89 rfl (by omega) (Nat.zero_le _) (Nat.zero_le _) ⟨_, _, rfl, rfl, by omega⟩
                by_cases c121 : p1 = 6
                · refine zz_swIn 6 68 c121 (by decide) zd_14_23_51 rfl rfl ?_
                  refine zz_iload_n (x := 0) rfl zd_14_23_119 ?_
                  refine zz_if_ne (by omega) zd_14_23_120 (fun c122 => ?_) (fun c122 => ?_)
                  · exfalso; omega
                  · refine zz_iload_n (x := p0) rfl zd_14_23_123 ?_
                    refine zz_bipush (by decide) zd_14_23_124 ?_
                    refine zz_icmp_ne (by omega) (by omega) zd_14_23_126 (fun c123 => ?_) (fun c123 => ?_)
                    · refine zz_iconst zd_14_23_133 ?_
                      exact zz_zret zd_14_23_134 rfl (by omega) (Nat.zero_le _) (Nat.zero_le _) ⟨_, _, rfl, rfl, by omega⟩
                    · exfalso; omega
                by_cases c124 : p1 = 7
                · refine zz_swIn 7 68 c124 (by decide) zd_14_23_51 rfl rfl ?_
                  refine zz_iload_n (x := 0) rfl zd_14_23_119 ?_
                  refine zz_if_ne (by omega) zd_14_23_120 (fun c125 => ?_) (fun c125 => ?_)
                  · exfalso; omega
                  · refine zz_iload_n (x := p0) rfl zd_14_23_123 ?_
                    refine zz_bipush (by decide) zd_14_23_124 ?_
                    refine zz_icmp_ne (by omega) (by omega) zd_14_23_126 (fun c126 => ?_) (fun c126 => ?_)
                    · refine zz_iconst zd_14_23_133 ?_
                      exact zz_zret zd_14_23_134 rfl (by omega) (Nat.zero_le _) (Nat.zero_le _) ⟨_, _, rfl, rfl, by omega⟩
                    · exfalso; omega
                by_cases c127 : p1 = 8
                · refine zz_swIn 8 39 c127 (by decide) zd_14_23_51 rfl rfl ?_
                  refine zz_iload_n (x := p0) rfl zd_14_23_90 ?_
                  refine zz_bipush (by decide) zd_14_23_91 ?_
                  refine zz_icmp_eq (by omega) (by omega) zd_14_23_93 (fun c128 => ?_) (fun c128 => ?_)
                  · exfalso; omega
                  · refine zz_iconst zd_14_23_96 ?_
                    refine zz_goto zd_14_23_97 ?_
                    exact zz_zret zd_14_23_101 rfl (by omega) (Nat.zero_le _) (Nat.zero_le _) ⟨_, _, rfl, rfl, by omega⟩
                by_cases c129 : p1 = 9
                · refine zz_swIn 9 51 c129 (by decide) zd_14_23_51 rfl rfl ?_
                  refine zz_iload_n (x := 0) rfl zd_14_23_102 ?_
                  exact zz_zret zd_14_23_103 rfl (by omega) (Nat.zero_le _) (Nat.zero_le _) ⟨_, _, rfl, rfl, by omega⟩
                by_cases c130 : p1 = 10
                · refine zz_swIn 10 53 c130 (by decide) zd_14_23_51 rfl rfl ?_
                  refine zz_iload_n (x := 1) rfl zd_14_23_104 ?_
                  refine zz_if_ne (by omega) zd_14_23_105 (fun c131 => ?_) (fun c131 => ?_)
                  · refine zz_iconst zd_14_23_113 ?_
                    refine zz_goto zd_14_23_114 ?_
                    exact zz_zret zd_14_23_118 rfl (by omega) (Nat.zero_le _) (Nat.zero_le _) ⟨_, _, rfl, rfl, by omega⟩
                  · exfalso; omega
                refine zz_swOut (by omega) (by omega) zd_14_23_51 rfl ?_
                refine zz_iload_n (x := 0) rfl zd_14_23_119 ?_
                refine zz_if_ne (by omega) zd_14_23_120 (fun c133 => ?_) (fun c133 => ?_)
                · exfalso; omega
                · refine zz_iload_n (x := p0) rfl zd_14_23_123 ?_
                  refine zz_bipush (by decide) zd_14_23_124 ?_
                  refine zz_icmp_ne (by omega) (by omega) zd_14_23_126 (fun c134 => ?_) (fun c134 => ?_)
                  · refine zz_iconst zd_14_23_133 ?_
                    exact zz_zret zd_14_23_134 rfl (by omega) (Nat.zero_le _) (Nat.zero_le _) ⟨_, _, rfl, rfl, by omega⟩
                  · exfalso; omega
              · exfalso; omega
abbrev zy_isIllegal_14_24 : mm_Y := (⟨"TensorForgeModel", "isIllegal", "(J)Z"⟩, prog_14_method_24_code, 7, (some .boolean))
theorem zyw_isIllegal_14_24 : mm_Yw zy_isIllegal_14_24 1 := ⟨mm_tb_1 1890 (by decide +kernel) rfl, mm_tb_1 12 (by decide +kernel) rfl, ⟨by decide, by decide⟩, by decide +kernel⟩
theorem zd_14_24_0 : zz_D zy_isIllegal_14_24 0 (.aload_n 0) 1 1 := ⟨by decide +kernel, rfl⟩
theorem zd_14_24_1 : zz_D zy_isIllegal_14_24 1 (.lload_n 1) 1 2 := ⟨by decide +kernel, rfl⟩
theorem zd_14_24_2 : zz_D zy_isIllegal_14_24 2 (.invokevirtual 234) 3 5 := ⟨by decide +kernel, rfl⟩
theorem zk_Md_234 : mm_Vl "TensorForgeModel" 234 11 1 zy_take_14_18 := ⟨zyw_take_14_18, (R_Md, F_Md, 69), rfl, mm_tb_1 1891 (by decide +kernel) rfl, mm_tb_1 1893 (by decide +kernel) rfl, mm_tb_s 89 (by decide +kernel) rfl⟩
theorem zd_14_24_5 : zz_D zy_isIllegal_14_24 5 (.aload_n 0) 1 6 := ⟨by decide +kernel, rfl⟩
theorem zd_14_24_6 : zz_D zy_isIllegal_14_24 6 (.getfield 36) 3 9 := ⟨by decide +kernel, rfl⟩
theorem zd_14_24_9 : zz_D zy_isIllegal_14_24 9 (.iconst 0) 1 10 := ⟨by decide +kernel, rfl⟩
theorem zd_14_24_10 : zz_D zy_isIllegal_14_24 10 (.iaload) 1 11 := ⟨by decide +kernel, rfl⟩
theorem zd_14_24_11 : zz_D zy_isIllegal_14_24 11 (.istore_n 3) 1 12 := ⟨by decide +kernel, rfl⟩
theorem zd_14_24_12 : zz_D zy_isIllegal_14_24 12 (.iload_n 3) 1 13 := ⟨by decide +kernel, rfl⟩
theorem zd_14_24_13 : zz_D zy_isIllegal_14_24 13 (.i2l) 1 14 := ⟨by decide +kernel, rfl⟩
theorem zd_14_24_14 : zz_D zy_isIllegal_14_24 14 (.lconst 1) 1 15 := ⟨by decide +kernel, rfl⟩
theorem zd_14_24_15 : zz_D zy_isIllegal_14_24 15 (.ldc2_w 238) 3 18 := ⟨by decide +kernel, rfl⟩
theorem zq_Md_238 : Cond.constantLong "TensorForgeModel" 238 (9 : Int64) ∈ mm_tb := mm_tb_1 1895 (by decide +kernel) rfl
theorem zd_14_24_18 : zz_D zy_isIllegal_14_24 18 (.invokestatic 192) 3 21 := ⟨by decide +kernel, rfl⟩
theorem zd_14_24_21 : zz_B zy_isIllegal_14_24 21 (Instr.ifCond .ne) 26 24 := ⟨5, by decide +kernel, rfl, rfl⟩
theorem zd_14_24_24 : zz_D zy_isIllegal_14_24 24 (.iconst 1) 1 25 := ⟨by decide +kernel, rfl⟩
theorem zd_14_24_25 : zz_D zy_isIllegal_14_24 25 (.ireturn) 1 26 := ⟨by decide +kernel, rfl⟩
theorem zd_14_24_26 : zz_D zy_isIllegal_14_24 26 (.iload_n 3) 1 27 := ⟨by decide +kernel, rfl⟩
theorem zd_14_24_27 : zz_D zy_isIllegal_14_24 27 (.bipush 9) 2 29 := ⟨by decide +kernel, rfl⟩
theorem zd_14_24_29 : zz_B zy_isIllegal_14_24 29 (Instr.if_icmp .ne) 71 32 := ⟨42, by decide +kernel, rfl, rfl⟩
theorem zd_14_24_71 : zz_D zy_isIllegal_14_24 71 (.aload_n 0) 1 72 := ⟨by decide +kernel, rfl⟩
theorem zd_14_24_72 : zz_D zy_isIllegal_14_24 72 (.getfield 36) 3 75 := ⟨by decide +kernel, rfl⟩
theorem zd_14_24_75 : zz_D zy_isIllegal_14_24 75 (.bipush 6) 2 77 := ⟨by decide +kernel, rfl⟩
theorem zd_14_24_77 : zz_D zy_isIllegal_14_24 77 (.iaload) 1 78 := ⟨by decide +kernel, rfl⟩
theorem zd_14_24_78 : zz_B zy_isIllegal_14_24 78 (Instr.ifCond .eq) 105 81 := ⟨27, by decide +kernel, rfl, rfl⟩
theorem zd_14_24_105 : zz_D zy_isIllegal_14_24 105 (.iconst 1) 1 106 := ⟨by decide +kernel, rfl⟩
theorem zd_14_24_106 : zz_B zy_isIllegal_14_24 106 Instr.goto 110 109 := ⟨4, by decide +kernel, rfl, rfl⟩
theorem zd_14_24_110 : zz_D zy_isIllegal_14_24 110 (.istore 4) 2 112 := ⟨by decide +kernel, rfl⟩
theorem zd_14_24_112 : zz_D zy_isIllegal_14_24 112 (.iconst 5) 1 113 := ⟨by decide +kernel, rfl⟩
theorem zd_14_24_113 : zz_D zy_isIllegal_14_24 113 (.istore 5) 2 115 := ⟨by decide +kernel, rfl⟩
theorem zd_14_24_81 : zz_D zy_isIllegal_14_24 81 (.aload_n 0) 1 82 := ⟨by decide +kernel, rfl⟩
theorem zd_14_24_82 : zz_D zy_isIllegal_14_24 82 (.getfield 36) 3 85 := ⟨by decide +kernel, rfl⟩
theorem zd_14_24_85 : zz_D zy_isIllegal_14_24 85 (.bipush 7) 2 87 := ⟨by decide +kernel, rfl⟩
theorem zd_14_24_87 : zz_D zy_isIllegal_14_24 87 (.iaload) 1 88 := ⟨by decide +kernel, rfl⟩
theorem zd_14_24_88 : zz_B zy_isIllegal_14_24 88 (Instr.ifCond .eq) 105 91 := ⟨17, by decide +kernel, rfl, rfl⟩
theorem zd_14_24_91 : zz_D zy_isIllegal_14_24 91 (.aload_n 0) 1 92 := ⟨by decide +kernel, rfl⟩
theorem zd_14_24_92 : zz_D zy_isIllegal_14_24 92 (.getfield 36) 3 95 := ⟨by decide +kernel, rfl⟩
theorem zd_14_24_95 : zz_D zy_isIllegal_14_24 95 (.bipush 7) 2 97 := ⟨by decide +kernel, rfl⟩
theorem zd_14_24_97 : zz_D zy_isIllegal_14_24 97 (.iaload) 1 98 := ⟨by decide +kernel, rfl⟩
theorem zd_14_24_98 : zz_D zy_isIllegal_14_24 98 (.aload_n 0) 1 99 := ⟨by decide +kernel, rfl⟩
theorem zd_14_24_99 : zz_D zy_isIllegal_14_24 99 (.getfield 7) 3 102 := ⟨by decide +kernel, rfl⟩
theorem zd_14_24_102 : zz_B zy_isIllegal_14_24 102 (Instr.if_icmp .le) 109 105 := ⟨7, by decide +kernel, rfl, rfl⟩
theorem zd_14_24_109 : zz_D zy_isIllegal_14_24 109 (.iconst 0) 1 110 := ⟨by decide +kernel, rfl⟩
theorem zd_14_24_32 : zz_D zy_isIllegal_14_24 32 (.aload_n 0) 1 33 := ⟨by decide +kernel, rfl⟩
theorem zd_14_24_33 : zz_D zy_isIllegal_14_24 33 (.getfield 36) 3 36 := ⟨by decide +kernel, rfl⟩
theorem zd_14_24_36 : zz_D zy_isIllegal_14_24 36 (.bipush 6) 2 38 := ⟨by decide +kernel, rfl⟩
theorem zd_14_24_38 : zz_D zy_isIllegal_14_24 38 (.iaload) 1 39 := ⟨by decide +kernel, rfl⟩
theorem zd_14_24_39 : zz_B zy_isIllegal_14_24 39 (Instr.ifCond .gt) 63 42 := ⟨24, by decide +kernel, rfl, rfl⟩
theorem zd_14_24_63 : zz_D zy_isIllegal_14_24 63 (.iconst 1) 1 64 := ⟨by decide +kernel, rfl⟩
theorem zd_14_24_64 : zz_B zy_isIllegal_14_24 64 Instr.goto 110 67 := ⟨46, by decide +kernel, rfl, rfl⟩
theorem zd_14_24_42 : zz_D zy_isIllegal_14_24 42 (.aload_n 0) 1 43 := ⟨by decide +kernel, rfl⟩
theorem zd_14_24_43 : zz_D zy_isIllegal_14_24 43 (.getfield 36) 3 46 := ⟨by decide +kernel, rfl⟩
theorem zd_14_24_46 : zz_D zy_isIllegal_14_24 46 (.bipush 7) 2 48 := ⟨by decide +kernel, rfl⟩
theorem zd_14_24_48 : zz_D zy_isIllegal_14_24 48 (.iaload) 1 49 := ⟨by decide +kernel, rfl⟩
theorem zd_14_24_49 : zz_B zy_isIllegal_14_24 49 (Instr.ifCond .gt) 63 52 := ⟨14, by decide +kernel, rfl, rfl⟩
theorem zd_14_24_52 : zz_D zy_isIllegal_14_24 52 (.aload_n 0) 1 53 := ⟨by decide +kernel, rfl⟩
theorem zd_14_24_53 : zz_D zy_isIllegal_14_24 53 (.getfield 36) 3 56 := ⟨by decide +kernel, rfl⟩
theorem zd_14_24_56 : zz_D zy_isIllegal_14_24 56 (.bipush 11) 2 58 := ⟨by decide +kernel, rfl⟩
theorem zd_14_24_58 : zz_D zy_isIllegal_14_24 58 (.iaload) 1 59 := ⟨by decide +kernel, rfl⟩
theorem zd_14_24_59 : zz_D zy_isIllegal_14_24 59 (.iconst 2) 1 60 := ⟨by decide +kernel, rfl⟩
theorem zd_14_24_60 : zz_B zy_isIllegal_14_24 60 (Instr.if_icmp .le) 67 63 := ⟨7, by decide +kernel, rfl, rfl⟩
theorem zd_14_24_67 : zz_D zy_isIllegal_14_24 67 (.iconst 0) 1 68 := ⟨by decide +kernel, rfl⟩
theorem zd_14_24_68 : zz_B zy_isIllegal_14_24 68 Instr.goto 110 71 := ⟨42, by decide +kernel, rfl, rfl⟩
theorem zd_14_24_115 : zz_D zy_isIllegal_14_24 115 (.iload 5) 2 117 := ⟨by decide +kernel, rfl⟩
theorem zd_14_24_117 : zz_D zy_isIllegal_14_24 117 (.bipush 12) 2 119 := ⟨by decide +kernel, rfl⟩
theorem zd_14_24_119 : zz_B zy_isIllegal_14_24 119 (Instr.if_icmp .ge) 173 122 := ⟨54, by decide +kernel, rfl, rfl⟩
theorem zd_14_24_122 : zz_D zy_isIllegal_14_24 122 (.iload 4) 2 124 := ⟨by decide +kernel, rfl⟩
theorem zd_14_24_124 : zz_B zy_isIllegal_14_24 124 (Instr.ifCond .ne) 160 127 := ⟨36, by decide +kernel, rfl, rfl⟩
theorem zd_14_24_160 : zz_D zy_isIllegal_14_24 160 (.iconst 1) 1 161 := ⟨by decide +kernel, rfl⟩
theorem zd_14_24_161 : zz_B zy_isIllegal_14_24 161 Instr.goto 165 164 := ⟨4, by decide +kernel, rfl, rfl⟩
theorem zd_14_24_165 : zz_D zy_isIllegal_14_24 165 (.istore 4) 2 167 := ⟨by decide +kernel, rfl⟩
theorem zd_14_24_167 : zz_D zy_isIllegal_14_24 167 (.iinc 5 1) 3 170 := ⟨by decide +kernel, rfl⟩
theorem zd_14_24_170 : zz_B zy_isIllegal_14_24 170 Instr.goto 115 173 := ⟨(-55), by decide +kernel, rfl, rfl⟩
theorem zd_14_24_127 : zz_D zy_isIllegal_14_24 127 (.iload 5) 2 129 := ⟨by decide +kernel, rfl⟩
theorem zd_14_24_129 : zz_D zy_isIllegal_14_24 129 (.bipush 6) 2 131 := ⟨by decide +kernel, rfl⟩
theorem zd_14_24_131 : zz_B zy_isIllegal_14_24 131 (Instr.if_icmp .eq) 164 134 := ⟨33, by decide +kernel, rfl, rfl⟩
theorem zd_14_24_164 : zz_D zy_isIllegal_14_24 164 (.iconst 0) 1 165 := ⟨by decide +kernel, rfl⟩
theorem zd_14_24_134 : zz_D zy_isIllegal_14_24 134 (.iload 5) 2 136 := ⟨by decide +kernel, rfl⟩
theorem zd_14_24_136 : zz_D zy_isIllegal_14_24 136 (.bipush 7) 2 138 := ⟨by decide +kernel, rfl⟩
theorem zd_14_24_138 : zz_B zy_isIllegal_14_24 138 (Instr.if_icmp .eq) 164 141 := ⟨26, by decide +kernel, rfl, rfl⟩
theorem zd_14_24_141 : zz_D zy_isIllegal_14_24 141 (.iload_n 3) 1 142 := ⟨by decide +kernel, rfl⟩
theorem zd_14_24_142 : zz_D zy_isIllegal_14_24 142 (.iload 5) 2 144 := ⟨by decide +kernel, rfl⟩
theorem zd_14_24_144 : zz_D zy_isIllegal_14_24 144 (.invokestatic 240) 3 147 := ⟨by decide +kernel, rfl⟩
theorem zk_Md_240 : mm_Sl "TensorForgeModel" 240 2 zy_names_14_23 := ⟨zyw_names_14_23, mm_tb_1 1896 (by decide +kernel) rfl, mm_tb_1 1897 (by decide +kernel) rfl⟩
theorem zd_14_24_147 : zz_B zy_isIllegal_14_24 147 (Instr.ifCond .ne) 164 150 := ⟨17, by decide +kernel, rfl, rfl⟩
theorem zd_14_24_150 : zz_D zy_isIllegal_14_24 150 (.aload_n 0) 1 151 := ⟨by decide +kernel, rfl⟩
theorem zd_14_24_151 : zz_D zy_isIllegal_14_24 151 (.getfield 36) 3 154 := ⟨by decide +kernel, rfl⟩
theorem zd_14_24_154 : zz_D zy_isIllegal_14_24 154 (.iload 5) 2 156 := ⟨by decide +kernel, rfl⟩
theorem zd_14_24_156 : zz_D zy_isIllegal_14_24 156 (.iaload) 1 157 := ⟨by decide +kernel, rfl⟩
theorem zd_14_24_157 : zz_B zy_isIllegal_14_24 157 (Instr.ifCond .eq) 164 160 := ⟨7, by decide +kernel, rfl, rfl⟩
theorem zd_14_24_173 : zz_D zy_isIllegal_14_24 173 (.iload 4) 2 175 := ⟨by decide +kernel, rfl⟩
theorem zd_14_24_175 : zz_B zy_isIllegal_14_24 175 (Instr.ifCond .ne) 222 178 := ⟨47, by decide +kernel, rfl, rfl⟩
theorem zd_14_24_222 : zz_D zy_isIllegal_14_24 222 (.iconst 1) 1 223 := ⟨by decide +kernel, rfl⟩
theorem zd_14_24_223 : zz_B zy_isIllegal_14_24 223 Instr.goto 227 226 := ⟨4, by decide +kernel, rfl, rfl⟩
theorem zd_14_24_227 : zz_D zy_isIllegal_14_24 227 (.istore 4) 2 229 := ⟨by decide +kernel, rfl⟩
theorem zd_14_24_229 : zz_D zy_isIllegal_14_24 229 (.iload 4) 2 231 := ⟨by decide +kernel, rfl⟩
theorem zd_14_24_231 : zz_B zy_isIllegal_14_24 231 (Instr.ifCond .eq) 236 234 := ⟨5, by decide +kernel, rfl, rfl⟩
theorem zd_14_24_234 : zz_D zy_isIllegal_14_24 234 (.iconst 1) 1 235 := ⟨by decide +kernel, rfl⟩
theorem zd_14_24_235 : zz_D zy_isIllegal_14_24 235 (.ireturn) 1 236 := ⟨by decide +kernel, rfl⟩
theorem zd_14_24_178 : zz_D zy_isIllegal_14_24 178 (.iload_n 3) 1 179 := ⟨by decide +kernel, rfl⟩
theorem zd_14_24_179 : zz_D zy_isIllegal_14_24 179 (.iconst 5) 1 180 := ⟨by decide +kernel, rfl⟩
theorem zd_14_24_180 : zz_B zy_isIllegal_14_24 180 (Instr.if_icmp .ne) 205 183 := ⟨25, by decide +kernel, rfl, rfl⟩
theorem zd_14_24_205 : zz_D zy_isIllegal_14_24 205 (.iload_n 3) 1 206 := ⟨by decide +kernel, rfl⟩
theorem zd_14_24_206 : zz_D zy_isIllegal_14_24 206 (.bipush 6) 2 208 := ⟨by decide +kernel, rfl⟩
theorem zd_14_24_208 : zz_B zy_isIllegal_14_24 208 (Instr.if_icmp .ne) 226 211 := ⟨18, by decide +kernel, rfl, rfl⟩
theorem zd_14_24_226 : zz_D zy_isIllegal_14_24 226 (.iconst 0) 1 227 := ⟨by decide +kernel, rfl⟩
theorem zd_14_24_236 : zz_D zy_isIllegal_14_24 236 (.aload_n 0) 1 237 := ⟨by decide +kernel, rfl⟩
theorem zd_14_24_237 : zz_D zy_isIllegal_14_24 237 (.invokevirtual 243) 3 240 := ⟨by decide +kernel, rfl⟩
theorem zk_Md_243 : mm_Vl "TensorForgeModel" 243 11 0 zy_unit_14_19 := ⟨zyw_unit_14_19, (R_Md, F_Md, 69), rfl, mm_tb_1 1899 (by decide +kernel) rfl, mm_tb_1 1901 (by decide +kernel) rfl, mm_tb_s 90 (by decide +kernel) rfl⟩
theorem zd_14_24_240 : zz_D zy_isIllegal_14_24 240 (.istore 5) 2 242 := ⟨by decide +kernel, rfl⟩
theorem zd_14_24_242 : zz_D zy_isIllegal_14_24 242 (.iload 5) 2 244 := ⟨by decide +kernel, rfl⟩
theorem zd_14_24_244 : zz_B zy_isIllegal_14_24 244 (Instr.ifCond .ne) 265 247 := ⟨21, by decide +kernel, rfl, rfl⟩
theorem zd_14_24_265 : zz_D zy_isIllegal_14_24 265 (.iload 5) 2 267 := ⟨by decide +kernel, rfl⟩
theorem zd_14_24_267 : zz_D zy_isIllegal_14_24 267 (.iconst 2) 1 268 := ⟨by decide +kernel, rfl⟩
theorem zd_14_24_268 : zz_B zy_isIllegal_14_24 268 (Instr.if_icmp .ne) 293 271 := ⟨25, by decide +kernel, rfl, rfl⟩
theorem zd_14_24_293 : zz_D zy_isIllegal_14_24 293 (.iconst 0) 1 294 := ⟨by decide +kernel, rfl⟩
theorem zd_14_24_294 : zz_D zy_isIllegal_14_24 294 (.istore 4) 2 296 := ⟨by decide +kernel, rfl⟩
theorem zd_14_24_296 : zz_D zy_isIllegal_14_24 296 (.aload_n 0) 1 297 := ⟨by decide +kernel, rfl⟩
theorem zd_14_24_297 : zz_D zy_isIllegal_14_24 297 (.invokevirtual 247) 3 300 := ⟨by decide +kernel, rfl⟩
theorem zk_Md_247 : mm_Vl "TensorForgeModel" 247 11 0 zy_reaches_14_22 := ⟨zyw_reaches_14_22, (R_Md, F_Md, 69), rfl, mm_tb_1 1903 (by decide +kernel) rfl, mm_tb_1 1905 (by decide +kernel) rfl, mm_tb_s 91 (by decide +kernel) rfl⟩
theorem zd_14_24_300 : zz_D zy_isIllegal_14_24 300 (.iconst 0) 1 301 := ⟨by decide +kernel, rfl⟩
theorem zd_14_24_301 : zz_D zy_isIllegal_14_24 301 (.istore 6) 2 303 := ⟨by decide +kernel, rfl⟩
theorem zd_14_24_271 : zz_D zy_isIllegal_14_24 271 (.aload_n 0) 1 272 := ⟨by decide +kernel, rfl⟩
theorem zd_14_24_272 : zz_D zy_isIllegal_14_24 272 (.getfield 36) 3 275 := ⟨by decide +kernel, rfl⟩
theorem zd_14_24_275 : zz_D zy_isIllegal_14_24 275 (.iconst 2) 1 276 := ⟨by decide +kernel, rfl⟩
theorem zd_14_24_276 : zz_D zy_isIllegal_14_24 276 (.iaload) 1 277 := ⟨by decide +kernel, rfl⟩
theorem zd_14_24_277 : zz_B zy_isIllegal_14_24 277 (Instr.ifCond .gt) 289 280 := ⟨12, by decide +kernel, rfl, rfl⟩
theorem zd_14_24_289 : zz_D zy_isIllegal_14_24 289 (.iconst 1) 1 290 := ⟨by decide +kernel, rfl⟩
theorem zd_14_24_290 : zz_B zy_isIllegal_14_24 290 Instr.goto 294 293 := ⟨4, by decide +kernel, rfl, rfl⟩
theorem zd_14_24_280 : zz_D zy_isIllegal_14_24 280 (.aload_n 0) 1 281 := ⟨by decide +kernel, rfl⟩
theorem zd_14_24_281 : zz_D zy_isIllegal_14_24 281 (.getfield 36) 3 284 := ⟨by decide +kernel, rfl⟩
theorem zd_14_24_284 : zz_D zy_isIllegal_14_24 284 (.iconst 4) 1 285 := ⟨by decide +kernel, rfl⟩
theorem zd_14_24_285 : zz_D zy_isIllegal_14_24 285 (.iaload) 1 286 := ⟨by decide +kernel, rfl⟩
theorem zd_14_24_286 : zz_B zy_isIllegal_14_24 286 (Instr.ifCond .le) 293 289 := ⟨7, by decide +kernel, rfl, rfl⟩
theorem zd_14_24_247 : zz_D zy_isIllegal_14_24 247 (.aload_n 0) 1 248 := ⟨by decide +kernel, rfl⟩
theorem zd_14_24_248 : zz_D zy_isIllegal_14_24 248 (.getfield 36) 3 251 := ⟨by decide +kernel, rfl⟩
theorem zd_14_24_251 : zz_D zy_isIllegal_14_24 251 (.iconst 1) 1 252 := ⟨by decide +kernel, rfl⟩
theorem zd_14_24_252 : zz_D zy_isIllegal_14_24 252 (.iaload) 1 253 := ⟨by decide +kernel, rfl⟩
theorem zd_14_24_253 : zz_B zy_isIllegal_14_24 253 (Instr.ifCond .gt) 289 256 := ⟨36, by decide +kernel, rfl, rfl⟩
theorem zd_14_24_256 : zz_D zy_isIllegal_14_24 256 (.aload_n 0) 1 257 := ⟨by decide +kernel, rfl⟩
theorem zd_14_24_257 : zz_D zy_isIllegal_14_24 257 (.getfield 36) 3 260 := ⟨by decide +kernel, rfl⟩
theorem zd_14_24_260 : zz_D zy_isIllegal_14_24 260 (.iconst 3) 1 261 := ⟨by decide +kernel, rfl⟩
theorem zd_14_24_261 : zz_D zy_isIllegal_14_24 261 (.iaload) 1 262 := ⟨by decide +kernel, rfl⟩
theorem zd_14_24_262 : zz_B zy_isIllegal_14_24 262 (Instr.ifCond .gt) 289 265 := ⟨27, by decide +kernel, rfl, rfl⟩
theorem zd_14_24_211 : zz_D zy_isIllegal_14_24 211 (.aload_n 0) 1 212 := ⟨by decide +kernel, rfl⟩
theorem zd_14_24_212 : zz_D zy_isIllegal_14_24 212 (.getfield 36) 3 215 := ⟨by decide +kernel, rfl⟩
theorem zd_14_24_215 : zz_D zy_isIllegal_14_24 215 (.bipush 11) 2 217 := ⟨by decide +kernel, rfl⟩
theorem zd_14_24_217 : zz_D zy_isIllegal_14_24 217 (.iaload) 1 218 := ⟨by decide +kernel, rfl⟩
theorem zd_14_24_218 : zz_D zy_isIllegal_14_24 218 (.iconst 2) 1 219 := ⟨by decide +kernel, rfl⟩
theorem zd_14_24_219 : zz_B zy_isIllegal_14_24 219 (Instr.if_icmp .le) 226 222 := ⟨7, by decide +kernel, rfl, rfl⟩
theorem zd_14_24_183 : zz_D zy_isIllegal_14_24 183 (.aload_n 0) 1 184 := ⟨by decide +kernel, rfl⟩
theorem zd_14_24_184 : zz_D zy_isIllegal_14_24 184 (.getfield 36) 3 187 := ⟨by decide +kernel, rfl⟩
theorem zd_14_24_187 : zz_D zy_isIllegal_14_24 187 (.bipush 11) 2 189 := ⟨by decide +kernel, rfl⟩
theorem zd_14_24_189 : zz_D zy_isIllegal_14_24 189 (.iaload) 1 190 := ⟨by decide +kernel, rfl⟩
theorem zd_14_24_190 : zz_D zy_isIllegal_14_24 190 (.iconst 2) 1 191 := ⟨by decide +kernel, rfl⟩
theorem zd_14_24_191 : zz_D zy_isIllegal_14_24 191 (.idiv) 1 192 := ⟨by decide +kernel, rfl⟩
theorem zd_14_24_192 : zz_D zy_isIllegal_14_24 192 (.i2l) 1 193 := ⟨by decide +kernel, rfl⟩
theorem zd_14_24_193 : zz_D zy_isIllegal_14_24 193 (.lconst 1) 1 194 := ⟨by decide +kernel, rfl⟩
theorem zd_14_24_194 : zz_D zy_isIllegal_14_24 194 (.aload_n 0) 1 195 := ⟨by decide +kernel, rfl⟩
theorem zd_14_24_195 : zz_D zy_isIllegal_14_24 195 (.getfield 7) 3 198 := ⟨by decide +kernel, rfl⟩
theorem zd_14_24_198 : zz_D zy_isIllegal_14_24 198 (.i2l) 1 199 := ⟨by decide +kernel, rfl⟩
theorem zd_14_24_199 : zz_D zy_isIllegal_14_24 199 (.invokestatic 192) 3 202 := ⟨by decide +kernel, rfl⟩
theorem zd_14_24_202 : zz_B zy_isIllegal_14_24 202 (Instr.ifCond .eq) 222 205 := ⟨20, by decide +kernel, rfl, rfl⟩
theorem zd_14_24_303 : zz_D zy_isIllegal_14_24 303 (.iload 6) 2 305 := ⟨by decide +kernel, rfl⟩
theorem zd_14_24_305 : zz_D zy_isIllegal_14_24 305 (.iconst 5) 1 306 := ⟨by decide +kernel, rfl⟩
theorem zd_14_24_306 : zz_B zy_isIllegal_14_24 306 (Instr.if_icmp .ge) 365 309 := ⟨59, by decide +kernel, rfl, rfl⟩
theorem zd_14_24_309 : zz_D zy_isIllegal_14_24 309 (.iload 4) 2 311 := ⟨by decide +kernel, rfl⟩
theorem zd_14_24_311 : zz_B zy_isIllegal_14_24 311 (Instr.ifCond .ne) 352 314 := ⟨41, by decide +kernel, rfl, rfl⟩
theorem zd_14_24_314 : zz_D zy_isIllegal_14_24 314 (.aload_n 0) 1 315 := ⟨by decide +kernel, rfl⟩
theorem zd_14_24_315 : zz_D zy_isIllegal_14_24 315 (.getfield 39) 3 318 := ⟨by decide +kernel, rfl⟩
theorem zd_14_24_318 : zz_D zy_isIllegal_14_24 318 (.iconst 2) 1 319 := ⟨by decide +kernel, rfl⟩
theorem zd_14_24_319 : zz_D zy_isIllegal_14_24 319 (.iload 6) 2 321 := ⟨by decide +kernel, rfl⟩
theorem zd_14_24_321 : zz_D zy_isIllegal_14_24 321 (.imul) 1 322 := ⟨by decide +kernel, rfl⟩
theorem zd_14_24_322 : zz_D zy_isIllegal_14_24 322 (.iconst 1) 1 323 := ⟨by decide +kernel, rfl⟩
theorem zd_14_24_323 : zz_D zy_isIllegal_14_24 323 (.iadd) 1 324 := ⟨by decide +kernel, rfl⟩
theorem zd_14_24_324 : zz_D zy_isIllegal_14_24 324 (.iaload) 1 325 := ⟨by decide +kernel, rfl⟩
theorem zd_14_24_325 : zz_D zy_isIllegal_14_24 325 (.iload 6) 2 327 := ⟨by decide +kernel, rfl⟩
theorem zd_14_24_327 : zz_D zy_isIllegal_14_24 327 (.invokestatic 212) 3 330 := ⟨by decide +kernel, rfl⟩
theorem zd_14_24_330 : zz_B zy_isIllegal_14_24 330 (Instr.if_icmp .ge) 352 333 := ⟨22, by decide +kernel, rfl, rfl⟩
theorem zd_14_24_352 : zz_D zy_isIllegal_14_24 352 (.iconst 1) 1 353 := ⟨by decide +kernel, rfl⟩
theorem zd_14_24_353 : zz_B zy_isIllegal_14_24 353 Instr.goto 357 356 := ⟨4, by decide +kernel, rfl, rfl⟩
theorem zd_14_24_357 : zz_D zy_isIllegal_14_24 357 (.istore 4) 2 359 := ⟨by decide +kernel, rfl⟩
theorem zd_14_24_359 : zz_D zy_isIllegal_14_24 359 (.iinc 6 1) 3 362 := ⟨by decide +kernel, rfl⟩
theorem zd_14_24_362 : zz_B zy_isIllegal_14_24 362 Instr.goto 303 365 := ⟨(-59), by decide +kernel, rfl, rfl⟩
theorem zd_14_24_333 : zz_D zy_isIllegal_14_24 333 (.aload_n 0) 1 334 := ⟨by decide +kernel, rfl⟩
theorem zd_14_24_334 : zz_D zy_isIllegal_14_24 334 (.getfield 42) 3 337 := ⟨by decide +kernel, rfl⟩
theorem zd_14_24_337 : zz_D zy_isIllegal_14_24 337 (.iconst 2) 1 338 := ⟨by decide +kernel, rfl⟩
theorem zd_14_24_338 : zz_D zy_isIllegal_14_24 338 (.iload 6) 2 340 := ⟨by decide +kernel, rfl⟩
theorem zd_14_24_340 : zz_D zy_isIllegal_14_24 340 (.imul) 1 341 := ⟨by decide +kernel, rfl⟩
theorem zd_14_24_341 : zz_D zy_isIllegal_14_24 341 (.iconst 1) 1 342 := ⟨by decide +kernel, rfl⟩
theorem zd_14_24_342 : zz_D zy_isIllegal_14_24 342 (.iadd) 1 343 := ⟨by decide +kernel, rfl⟩
theorem zd_14_24_343 : zz_D zy_isIllegal_14_24 343 (.iaload) 1 344 := ⟨by decide +kernel, rfl⟩
theorem zd_14_24_344 : zz_D zy_isIllegal_14_24 344 (.iload 6) 2 346 := ⟨by decide +kernel, rfl⟩
theorem zd_14_24_346 : zz_D zy_isIllegal_14_24 346 (.invokestatic 212) 3 349 := ⟨by decide +kernel, rfl⟩
theorem zd_14_24_349 : zz_B zy_isIllegal_14_24 349 (Instr.if_icmp .lt) 356 352 := ⟨7, by decide +kernel, rfl, rfl⟩
theorem zd_14_24_356 : zz_D zy_isIllegal_14_24 356 (.iconst 0) 1 357 := ⟨by decide +kernel, rfl⟩
theorem zd_14_24_365 : zz_D zy_isIllegal_14_24 365 (.iload 4) 2 367 := ⟨by decide +kernel, rfl⟩
theorem zd_14_24_367 : zz_D zy_isIllegal_14_24 367 (.ireturn) 1 368 := ⟨by decide +kernel, rfl⟩
-- TensorForgeModel isIllegal (J)Z
abbrev zr_isIllegal_14_24 : Room := { frames := 3, cells := 0, slots := 0, locals := 49 }
def zp_isIllegal_14_24 (p0 : Int) (S0 : zz_S) : Int → zz_S → Prop := fun r S => zz_G S ∧ zz_fr [] [1087, 1088, 1089] (fun _ _ => False) S0 S ∧ (0 ≤ r ∧ r ≤ 1)
theorem zb_isIllegal_14_24_115 {g : mm_G} {l : Launch} (p0 : Int) (S0 : zz_S) (n : Nat) (hn : zz_end ≤ n) (G_S0 : zz_G S0) (hp0 : (-9223372036854775808) ≤ p0 ∧ p0 ≤ 9223372036854775807) (x3 : Int) (x4 : Int) (x5 : Int) (S : zz_S) (G_S : zz_G S) (F_S : zz_fr [] [1087, 1088, 1089] (fun _ _ => False) S0 S) (i115_0 : 1 ≤ x3 ∧ x3 ≤ 9) (i115_1 : 0 ≤ x4 ∧ x4 ≤ 1) (i115_2 : 5 ≤ x5 ∧ x5 ≤ 12) (R : Nat) (hR : (34359738368 + (12 - x5).toNat) = R) (k115 : ∀ (x3 : Int) (x4 : Int) (x5 : Int) (S : zz_S), zz_G S → zz_fr [] [1087, 1088, 1089] (fun _ _ => False) S0 S → (1 ≤ x3 ∧ x3 ≤ 9) → (0 ≤ x4 ∧ x4 ≤ 1) → (5 ≤ x5 ∧ x5 ≤ 12) → (34359738368 + (12 - x5).toNat) < R → zz_E g l zy_isIllegal_14_24 zr_isIllegal_14_24 (zz_QI n (zp_isIllegal_14_24 p0 S0)) S n 115 [some (.ref 1079), none, none, some (zi x3), some (zi x4), some (zi x5)] [] 0 0) (k303 : ∀ (x4 : Int) (x6 : Int) (S : zz_S), zz_G S → zz_fr [] [1087, 1088, 1089] (fun _ _ => False) S0 S → (0 ≤ x4 ∧ x4 ≤ 1) → (0 ≤ x6 ∧ x6 ≤ 5) → (17179869184 + (5 - x6).toNat) < R → zz_E g l zy_isIllegal_14_24 zr_isIllegal_14_24 (zz_QI n (zp_isIllegal_14_24 p0 S0)) S n 303 [some (.ref 1079), none, none, none, some (zi x4), none, some (zi x6)] [] 0 0) : zz_E g l zy_isIllegal_14_24 zr_isIllegal_14_24 (zz_QI n (zp_isIllegal_14_24 p0 S0)) S n 115 [some (.ref 1079), none, none, some (zi x3), some (zi x4), some (zi x5)] [] 0 0 := by
  refine zz_iload (x := x5) rfl zd_14_24_115 ?_
  refine zz_bipush (by decide) zd_14_24_117 ?_
  refine zz_icmp_ge (by omega) (by omega) zd_14_24_119 (fun c23 => ?_) (fun c23 => ?_)
  · refine zz_iload (x := x4) rfl zd_14_24_173 ?_
    refine zz_if_ne (by omega) zd_14_24_175 (fun c24 => ?_) (fun c24 => ?_)
    · refine zz_iconst zd_14_24_222 ?_
      refine zz_goto zd_14_24_223 ?_
      refine zz_istore [some (.ref 1079), none, none, some (zi x3), some (zi 1), some (zi x5)] zd_14_24_227 (by decide) rfl ?_
      refine zz_iload (x := 1) rfl zd_14_24_229 ?_
      refine zz_if_eq (by omega) zd_14_24_231 (fun c25 => ?_) (fun c25 => ?_)
      · exfalso; omega
      · refine zz_iconst zd_14_24_234 ?_
        exact zz_zret zd_14_24_235 rfl (by omega) (Nat.zero_le _) (Nat.zero_le _) ⟨_, _, rfl, G_S, F_S, by omega⟩
    · refine zz_iload_n (x := x3) rfl zd_14_24_178 ?_
      refine zz_iconst zd_14_24_179 ?_
      refine zz_icmp_ne (by omega) (by omega) zd_14_24_180 (fun c26 => ?_) (fun c26 => ?_)
      · refine zz_iload_n (x := x3) rfl zd_14_24_205 ?_
        refine zz_bipush (by decide) zd_14_24_206 ?_
        refine zz_icmp_ne (by omega) (by omega) zd_14_24_208 (fun c27 => ?_) (fun c27 => ?_)
        · refine zz_iconst zd_14_24_226 ?_
          refine zz_istore [some (.ref 1079), none, none, some (zi x3), some (zi 0), some (zi x5)] zd_14_24_227 (by decide) rfl ?_
          refine zz_iload (x := 0) rfl zd_14_24_229 ?_
          refine zz_if_eq (by omega) zd_14_24_231 (fun c28 => ?_) (fun c28 => ?_)
          · refine zz_aload_n (x := 1079) rfl zd_14_24_236 ?_
            refine zz_callVI [] zd_14_24_237 zk_Md_243 zT_1079 (zz_ltn hn rfl) rfl rfl ⟨Nat.le_of_ble_eq_true rfl, Nat.le_of_ble_eq_true rfl⟩ ⟨rfl, rfl⟩ (Nat.zero_le _) (Nat.zero_le _) (zc_unit_14_19  S n hn G_S ) (fun v30 S29 hP => ?_)
            obtain ⟨rfl, o31⟩ := hP
            refine zz_istore [some (.ref 1079), none, none, some (zi x3), some (zi 0), some (zi v30)] zd_14_24_240 (by decide) rfl ?_
            refine zz_iload (x := v30) rfl zd_14_24_242 ?_
            refine zz_if_ne (by omega) zd_14_24_244 (fun c32 => ?_) (fun c32 => ?_)
            · refine zz_iload (x := v30) rfl zd_14_24_265 ?_
              refine zz_iconst zd_14_24_267 ?_
              refine zz_icmp_ne (by omega) (by omega) zd_14_24_268 (fun c33 => ?_) (fun c33 => ?_)
              · refine zz_iconst zd_14_24_293 ?_
                refine zz_istore [some (.ref 1079), none, none, some (zi x3), some (zi 0), some (zi v30)] zd_14_24_294 (by decide) rfl ?_
                refine zz_aload_n (x := 1079) rfl zd_14_24_296 ?_
                refine zz_callVV [] zd_14_24_297 zk_Md_247 zT_1079 (zz_ltn hn rfl) rfl rfl ⟨Nat.le_of_ble_eq_true rfl, Nat.le_of_ble_eq_true rfl⟩ ⟨rfl, rfl⟩ (Nat.zero_le _) (Nat.zero_le _) (zc_reaches_14_22  S n hn G_S ) (fun S34 hP => ?_)
                obtain ⟨G_S34, fS34⟩ := hP
                have F_S34 := zz_fr.trans F_S fS34 rfl zz_nv
                refine zz_iconst zd_14_24_300 ?_
                refine zz_istore [some (.ref 1079), none, none, some (zi x3), some (zi 0), some (zi v30), some (zi 0)] zd_14_24_301 (by decide) rfl ?_
                refine zz_less (ls1 := [some (.ref 1079), none, none, none, some (zi 0), none, some (zi 0)]) ⟨rfl, ⟨rfl, ⟨rfl, trivial⟩⟩⟩ ?_
                exact k303 0 0 S34 G_S34 F_S34 (by omega) (by omega) (by omega)
              · refine zz_aload_n (x := 1079) rfl zd_14_24_271 ?_
                refine zz_getr (kd := 0) (z := 1087) zd_14_24_272 zf_Md_36 zT_1079 rfl (zz_ltn hn rfl) (zz_G.eq G_S 1079 11 1087 rfl rfl) (by decide) 1087 rfl ?_
                refine zz_iconst zd_14_24_275 ?_
                have g36 := zz_G.r G_S 1087 2 (-2147483648) 2147483647 rfl rfl
                refine zz_iald (z := S 1087 2) zd_14_24_276 zT_1087 rfl (zz_ltn hn rfl) (by decide) (by decide) rfl ?_
                refine zz_if_gt (by omega) zd_14_24_277 (fun c37 => ?_) (fun c37 => ?_)
                · refine zz_iconst zd_14_24_289 ?_
                  refine zz_goto zd_14_24_290 ?_
                  refine zz_istore [some (.ref 1079), none, none, some (zi x3), some (zi 1), some (zi v30)] zd_14_24_294 (by decide) rfl ?_
                  refine zz_aload_n (x := 1079) rfl zd_14_24_296 ?_
                  refine zz_callVV [] zd_14_24_297 zk_Md_247 zT_1079 (zz_ltn hn rfl) rfl rfl ⟨Nat.le_of_ble_eq_true rfl, Nat.le_of_ble_eq_true rfl⟩ ⟨rfl, rfl⟩ (Nat.zero_le _) (Nat.zero_le _) (zc_reaches_14_22  S n hn G_S ) (fun S38 hP => ?_)
                  obtain ⟨G_S38, fS38⟩ := hP
                  have F_S38 := zz_fr.trans F_S fS38 rfl zz_nv
                  refine zz_iconst zd_14_24_300 ?_
                  refine zz_istore [some (.ref 1079), none, none, some (zi x3), some (zi 1), some (zi v30), some (zi 0)] zd_14_24_301 (by decide) rfl ?_
                  refine zz_less (ls1 := [some (.ref 1079), none, none, none, some (zi 1), none, some (zi 0)]) ⟨rfl, ⟨rfl, ⟨rfl, trivial⟩⟩⟩ ?_
                  exact k303 1 0 S38 G_S38 F_S38 (by omega) (by omega) (by omega)
                · refine zz_aload_n (x := 1079) rfl zd_14_24_280 ?_
                  refine zz_getr (kd := 0) (z := 1087) zd_14_24_281 zf_Md_36 zT_1079 rfl (zz_ltn hn rfl) (zz_G.eq G_S 1079 11 1087 rfl rfl) (by decide) 1087 rfl ?_
                  refine zz_iconst zd_14_24_284 ?_
                  have g40 := zz_G.r G_S 1087 4 (-2147483648) 2147483647 rfl rfl
                  refine zz_iald (z := S 1087 4) zd_14_24_285 zT_1087 rfl (zz_ltn hn rfl) (by decide) (by decide) rfl ?_
                  refine zz_if_le (by omega) zd_14_24_286 (fun c41 => ?_) (fun c41 => ?_)
                  · refine zz_iconst zd_14_24_293 ?_
                    refine zz_istore [some (.ref 1079), none, none, some (zi x3), some (zi 0), some (zi v30)] zd_14_24_294 (by decide) rfl ?_
                    refine zz_aload_n (x := 1079) rfl zd_14_24_296 ?_
                    refine zz_callVV [] zd_14_24_297 zk_Md_247 zT_1079 (zz_ltn hn rfl) rfl rfl ⟨Nat.le_of_ble_eq_true rfl, Nat.le_of_ble_eq_true rfl⟩ ⟨rfl, rfl⟩ (Nat.zero_le _) (Nat.zero_le _) (zc_reaches_14_22  S n hn G_S ) (fun S42 hP => ?_)
                    obtain ⟨G_S42, fS42⟩ := hP
                    have F_S42 := zz_fr.trans F_S fS42 rfl zz_nv
                    refine zz_iconst zd_14_24_300 ?_
                    refine zz_istore [some (.ref 1079), none, none, some (zi x3), some (zi 0), some (zi v30), some (zi 0)] zd_14_24_301 (by decide) rfl ?_
                    refine zz_less (ls1 := [some (.ref 1079), none, none, none, some (zi 0), none, some (zi 0)]) ⟨rfl, ⟨rfl, ⟨rfl, trivial⟩⟩⟩ ?_
                    exact k303 0 0 S42 G_S42 F_S42 (by omega) (by omega) (by omega)
                  · refine zz_iconst zd_14_24_289 ?_
                    refine zz_goto zd_14_24_290 ?_
                    refine zz_istore [some (.ref 1079), none, none, some (zi x3), some (zi 1), some (zi v30)] zd_14_24_294 (by decide) rfl ?_
                    refine zz_aload_n (x := 1079) rfl zd_14_24_296 ?_
                    refine zz_callVV [] zd_14_24_297 zk_Md_247 zT_1079 (zz_ltn hn rfl) rfl rfl ⟨Nat.le_of_ble_eq_true rfl, Nat.le_of_ble_eq_true rfl⟩ ⟨rfl, rfl⟩ (Nat.zero_le _) (Nat.zero_le _) (zc_reaches_14_22  S n hn G_S ) (fun S44 hP => ?_)
                    obtain ⟨G_S44, fS44⟩ := hP
                    have F_S44 := zz_fr.trans F_S fS44 rfl zz_nv
                    refine zz_iconst zd_14_24_300 ?_
                    refine zz_istore [some (.ref 1079), none, none, some (zi x3), some (zi 1), some (zi v30), some (zi 0)] zd_14_24_301 (by decide) rfl ?_
                    refine zz_less (ls1 := [some (.ref 1079), none, none, none, some (zi 1), none, some (zi 0)]) ⟨rfl, ⟨rfl, ⟨rfl, trivial⟩⟩⟩ ?_
                    exact k303 1 0 S44 G_S44 F_S44 (by omega) (by omega) (by omega)
            · refine zz_aload_n (x := 1079) rfl zd_14_24_247 ?_
              refine zz_getr (kd := 0) (z := 1087) zd_14_24_248 zf_Md_36 zT_1079 rfl (zz_ltn hn rfl) (zz_G.eq G_S 1079 11 1087 rfl rfl) (by decide) 1087 rfl ?_
              refine zz_iconst zd_14_24_251 ?_
              have g46 := zz_G.r G_S 1087 1 (-2147483648) 2147483647 rfl rfl
              refine zz_iald (z := S 1087 1) zd_14_24_252 zT_1087 rfl (zz_ltn hn rfl) (by decide) (by decide) rfl ?_
              refine zz_if_gt (by omega) zd_14_24_253 (fun c47 => ?_) (fun c47 => ?_)
              · refine zz_iconst zd_14_24_289 ?_
                refine zz_goto zd_14_24_290 ?_
                refine zz_istore [some (.ref 1079), none, none, some (zi x3), some (zi 1), some (zi v30)] zd_14_24_294 (by decide) rfl ?_
                refine zz_aload_n (x := 1079) rfl zd_14_24_296 ?_
                refine zz_callVV [] zd_14_24_297 zk_Md_247 zT_1079 (zz_ltn hn rfl) rfl rfl ⟨Nat.le_of_ble_eq_true rfl, Nat.le_of_ble_eq_true rfl⟩ ⟨rfl, rfl⟩ (Nat.zero_le _) (Nat.zero_le _) (zc_reaches_14_22  S n hn G_S ) (fun S48 hP => ?_)
                obtain ⟨G_S48, fS48⟩ := hP
                have F_S48 := zz_fr.trans F_S fS48 rfl zz_nv
                refine zz_iconst zd_14_24_300 ?_
                refine zz_istore [some (.ref 1079), none, none, some (zi x3), some (zi 1), some (zi v30), some (zi 0)] zd_14_24_301 (by decide) rfl ?_
                refine zz_less (ls1 := [some (.ref 1079), none, none, none, some (zi 1), none, some (zi 0)]) ⟨rfl, ⟨rfl, ⟨rfl, trivial⟩⟩⟩ ?_
                exact k303 1 0 S48 G_S48 F_S48 (by omega) (by omega) (by omega)
              · refine zz_aload_n (x := 1079) rfl zd_14_24_256 ?_
                refine zz_getr (kd := 0) (z := 1087) zd_14_24_257 zf_Md_36 zT_1079 rfl (zz_ltn hn rfl) (zz_G.eq G_S 1079 11 1087 rfl rfl) (by decide) 1087 rfl ?_
                refine zz_iconst zd_14_24_260 ?_
                have g50 := zz_G.r G_S 1087 3 (-2147483648) 2147483647 rfl rfl
                refine zz_iald (z := S 1087 3) zd_14_24_261 zT_1087 rfl (zz_ltn hn rfl) (by decide) (by decide) rfl ?_
                refine zz_if_gt (by omega) zd_14_24_262 (fun c51 => ?_) (fun c51 => ?_)
                · refine zz_iconst zd_14_24_289 ?_
                  refine zz_goto zd_14_24_290 ?_
                  refine zz_istore [some (.ref 1079), none, none, some (zi x3), some (zi 1), some (zi v30)] zd_14_24_294 (by decide) rfl ?_
                  refine zz_aload_n (x := 1079) rfl zd_14_24_296 ?_
                  refine zz_callVV [] zd_14_24_297 zk_Md_247 zT_1079 (zz_ltn hn rfl) rfl rfl ⟨Nat.le_of_ble_eq_true rfl, Nat.le_of_ble_eq_true rfl⟩ ⟨rfl, rfl⟩ (Nat.zero_le _) (Nat.zero_le _) (zc_reaches_14_22  S n hn G_S ) (fun S52 hP => ?_)
                  obtain ⟨G_S52, fS52⟩ := hP
                  have F_S52 := zz_fr.trans F_S fS52 rfl zz_nv
                  refine zz_iconst zd_14_24_300 ?_
                  refine zz_istore [some (.ref 1079), none, none, some (zi x3), some (zi 1), some (zi v30), some (zi 0)] zd_14_24_301 (by decide) rfl ?_
                  refine zz_less (ls1 := [some (.ref 1079), none, none, none, some (zi 1), none, some (zi 0)]) ⟨rfl, ⟨rfl, ⟨rfl, trivial⟩⟩⟩ ?_
                  exact k303 1 0 S52 G_S52 F_S52 (by omega) (by omega) (by omega)
                · refine zz_iload (x := v30) rfl zd_14_24_265 ?_
                  refine zz_iconst zd_14_24_267 ?_
                  refine zz_icmp_ne (by omega) (by omega) zd_14_24_268 (fun c54 => ?_) (fun c54 => ?_)
                  · refine zz_iconst zd_14_24_293 ?_
                    refine zz_istore [some (.ref 1079), none, none, some (zi x3), some (zi 0), some (zi v30)] zd_14_24_294 (by decide) rfl ?_
                    refine zz_aload_n (x := 1079) rfl zd_14_24_296 ?_
                    refine zz_callVV [] zd_14_24_297 zk_Md_247 zT_1079 (zz_ltn hn rfl) rfl rfl ⟨Nat.le_of_ble_eq_true rfl, Nat.le_of_ble_eq_true rfl⟩ ⟨rfl, rfl⟩ (Nat.zero_le _) (Nat.zero_le _) (zc_reaches_14_22  S n hn G_S ) (fun S55 hP => ?_)
                    obtain ⟨G_S55, fS55⟩ := hP
                    have F_S55 := zz_fr.trans F_S fS55 rfl zz_nv
                    refine zz_iconst zd_14_24_300 ?_
                    refine zz_istore [some (.ref 1079), none, none, some (zi x3), some (zi 0), some (zi v30), some (zi 0)] zd_14_24_301 (by decide) rfl ?_
                    refine zz_less (ls1 := [some (.ref 1079), none, none, none, some (zi 0), none, some (zi 0)]) ⟨rfl, ⟨rfl, ⟨rfl, trivial⟩⟩⟩ ?_
                    exact k303 0 0 S55 G_S55 F_S55 (by omega) (by omega) (by omega)
                  · exfalso; omega
          · exfalso; omega
        · refine zz_aload_n (x := 1079) rfl zd_14_24_211 ?_
          refine zz_getr (kd := 0) (z := 1087) zd_14_24_212 zf_Md_36 zT_1079 rfl (zz_ltn hn rfl) (zz_G.eq G_S 1079 11 1087 rfl rfl) (by decide) 1087 rfl ?_
          refine zz_bipush (by decide) zd_14_24_215 ?_
          have g57 := zz_G.r G_S 1087 11 (-2147483648) 2147483647 rfl rfl
          refine zz_iald (z := S 1087 11) zd_14_24_217 zT_1087 rfl (zz_ltn hn rfl) (by decide) (by decide) rfl ?_
          refine zz_iconst zd_14_24_218 ?_
          refine zz_icmp_le (by omega) (by omega) zd_14_24_219 (fun c58 => ?_) (fun c58 => ?_)
          · refine zz_iconst zd_14_24_226 ?_
            refine zz_istore [some (.ref 1079), none, none, some (zi x3), some (zi 0), some (zi x5)] zd_14_24_227 (by decide) rfl ?_
            refine zz_iload (x := 0) rfl zd_14_24_229 ?_
            refine zz_if_eq (by omega) zd_14_24_231 (fun c59 => ?_) (fun c59 => ?_)
            · refine zz_aload_n (x := 1079) rfl zd_14_24_236 ?_
              refine zz_callVI [] zd_14_24_237 zk_Md_243 zT_1079 (zz_ltn hn rfl) rfl rfl ⟨Nat.le_of_ble_eq_true rfl, Nat.le_of_ble_eq_true rfl⟩ ⟨rfl, rfl⟩ (Nat.zero_le _) (Nat.zero_le _) (zc_unit_14_19  S n hn G_S ) (fun v61 S60 hP => ?_)
              obtain ⟨rfl, o62⟩ := hP
              refine zz_istore [some (.ref 1079), none, none, some (zi x3), some (zi 0), some (zi v61)] zd_14_24_240 (by decide) rfl ?_
              refine zz_iload (x := v61) rfl zd_14_24_242 ?_
              refine zz_if_ne (by omega) zd_14_24_244 (fun c63 => ?_) (fun c63 => ?_)
              · refine zz_iload (x := v61) rfl zd_14_24_265 ?_
                refine zz_iconst zd_14_24_267 ?_
                refine zz_icmp_ne (by omega) (by omega) zd_14_24_268 (fun c64 => ?_) (fun c64 => ?_)
                · refine zz_iconst zd_14_24_293 ?_
                  refine zz_istore [some (.ref 1079), none, none, some (zi x3), some (zi 0), some (zi v61)] zd_14_24_294 (by decide) rfl ?_
                  refine zz_aload_n (x := 1079) rfl zd_14_24_296 ?_
                  refine zz_callVV [] zd_14_24_297 zk_Md_247 zT_1079 (zz_ltn hn rfl) rfl rfl ⟨Nat.le_of_ble_eq_true rfl, Nat.le_of_ble_eq_true rfl⟩ ⟨rfl, rfl⟩ (Nat.zero_le _) (Nat.zero_le _) (zc_reaches_14_22  S n hn G_S ) (fun S65 hP => ?_)
                  obtain ⟨G_S65, fS65⟩ := hP
                  have F_S65 := zz_fr.trans F_S fS65 rfl zz_nv
                  refine zz_iconst zd_14_24_300 ?_
                  refine zz_istore [some (.ref 1079), none, none, some (zi x3), some (zi 0), some (zi v61), some (zi 0)] zd_14_24_301 (by decide) rfl ?_
                  refine zz_less (ls1 := [some (.ref 1079), none, none, none, some (zi 0), none, some (zi 0)]) ⟨rfl, ⟨rfl, ⟨rfl, trivial⟩⟩⟩ ?_
                  exact k303 0 0 S65 G_S65 F_S65 (by omega) (by omega) (by omega)
                · refine zz_aload_n (x := 1079) rfl zd_14_24_271 ?_
                  refine zz_getr (kd := 0) (z := 1087) zd_14_24_272 zf_Md_36 zT_1079 rfl (zz_ltn hn rfl) (zz_G.eq G_S 1079 11 1087 rfl rfl) (by decide) 1087 rfl ?_
                  refine zz_iconst zd_14_24_275 ?_
                  have g67 := zz_G.r G_S 1087 2 (-2147483648) 2147483647 rfl rfl
                  refine zz_iald (z := S 1087 2) zd_14_24_276 zT_1087 rfl (zz_ltn hn rfl) (by decide) (by decide) rfl ?_
                  refine zz_if_gt (by omega) zd_14_24_277 (fun c68 => ?_) (fun c68 => ?_)
                  · refine zz_iconst zd_14_24_289 ?_
                    refine zz_goto zd_14_24_290 ?_
                    refine zz_istore [some (.ref 1079), none, none, some (zi x3), some (zi 1), some (zi v61)] zd_14_24_294 (by decide) rfl ?_
                    refine zz_aload_n (x := 1079) rfl zd_14_24_296 ?_
                    refine zz_callVV [] zd_14_24_297 zk_Md_247 zT_1079 (zz_ltn hn rfl) rfl rfl ⟨Nat.le_of_ble_eq_true rfl, Nat.le_of_ble_eq_true rfl⟩ ⟨rfl, rfl⟩ (Nat.zero_le _) (Nat.zero_le _) (zc_reaches_14_22  S n hn G_S ) (fun S69 hP => ?_)
                    obtain ⟨G_S69, fS69⟩ := hP
                    have F_S69 := zz_fr.trans F_S fS69 rfl zz_nv
                    refine zz_iconst zd_14_24_300 ?_
                    refine zz_istore [some (.ref 1079), none, none, some (zi x3), some (zi 1), some (zi v61), some (zi 0)] zd_14_24_301 (by decide) rfl ?_
                    refine zz_less (ls1 := [some (.ref 1079), none, none, none, some (zi 1), none, some (zi 0)]) ⟨rfl, ⟨rfl, ⟨rfl, trivial⟩⟩⟩ ?_
                    exact k303 1 0 S69 G_S69 F_S69 (by omega) (by omega) (by omega)
                  · refine zz_aload_n (x := 1079) rfl zd_14_24_280 ?_
                    refine zz_getr (kd := 0) (z := 1087) zd_14_24_281 zf_Md_36 zT_1079 rfl (zz_ltn hn rfl) (zz_G.eq G_S 1079 11 1087 rfl rfl) (by decide) 1087 rfl ?_
                    refine zz_iconst zd_14_24_284 ?_
                    have g71 := zz_G.r G_S 1087 4 (-2147483648) 2147483647 rfl rfl
                    refine zz_iald (z := S 1087 4) zd_14_24_285 zT_1087 rfl (zz_ltn hn rfl) (by decide) (by decide) rfl ?_
                    refine zz_if_le (by omega) zd_14_24_286 (fun c72 => ?_) (fun c72 => ?_)
                    · refine zz_iconst zd_14_24_293 ?_
                      refine zz_istore [some (.ref 1079), none, none, some (zi x3), some (zi 0), some (zi v61)] zd_14_24_294 (by decide) rfl ?_
                      refine zz_aload_n (x := 1079) rfl zd_14_24_296 ?_
                      refine zz_callVV [] zd_14_24_297 zk_Md_247 zT_1079 (zz_ltn hn rfl) rfl rfl ⟨Nat.le_of_ble_eq_true rfl, Nat.le_of_ble_eq_true rfl⟩ ⟨rfl, rfl⟩ (Nat.zero_le _) (Nat.zero_le _) (zc_reaches_14_22  S n hn G_S ) (fun S73 hP => ?_)
                      obtain ⟨G_S73, fS73⟩ := hP
                      have F_S73 := zz_fr.trans F_S fS73 rfl zz_nv
                      refine zz_iconst zd_14_24_300 ?_
                      refine zz_istore [some (.ref 1079), none, none, some (zi x3), some (zi 0), some (zi v61), some (zi 0)] zd_14_24_301 (by decide) rfl ?_
                      refine zz_less (ls1 := [some (.ref 1079), none, none, none, some (zi 0), none, some (zi 0)]) ⟨rfl, ⟨rfl, ⟨rfl, trivial⟩⟩⟩ ?_
                      exact k303 0 0 S73 G_S73 F_S73 (by omega) (by omega) (by omega)
                    · refine zz_iconst zd_14_24_289 ?_
                      refine zz_goto zd_14_24_290 ?_
                      refine zz_istore [some (.ref 1079), none, none, some (zi x3), some (zi 1), some (zi v61)] zd_14_24_294 (by decide) rfl ?_
                      refine zz_aload_n (x := 1079) rfl zd_14_24_296 ?_
                      refine zz_callVV [] zd_14_24_297 zk_Md_247 zT_1079 (zz_ltn hn rfl) rfl rfl ⟨Nat.le_of_ble_eq_true rfl, Nat.le_of_ble_eq_true rfl⟩ ⟨rfl, rfl⟩ (Nat.zero_le _) (Nat.zero_le _) (zc_reaches_14_22  S n hn G_S ) (fun S75 hP => ?_)
                      obtain ⟨G_S75, fS75⟩ := hP
                      have F_S75 := zz_fr.trans F_S fS75 rfl zz_nv
                      refine zz_iconst zd_14_24_300 ?_
                      refine zz_istore [some (.ref 1079), none, none, some (zi x3), some (zi 1), some (zi v61), some (zi 0)] zd_14_24_301 (by decide) rfl ?_
                      refine zz_less (ls1 := [some (.ref 1079), none, none, none, some (zi 1), none, some (zi 0)]) ⟨rfl, ⟨rfl, ⟨rfl, trivial⟩⟩⟩ ?_
                      exact k303 1 0 S75 G_S75 F_S75 (by omega) (by omega) (by omega)
              · refine zz_aload_n (x := 1079) rfl zd_14_24_247 ?_
                refine zz_getr (kd := 0) (z := 1087) zd_14_24_248 zf_Md_36 zT_1079 rfl (zz_ltn hn rfl) (zz_G.eq G_S 1079 11 1087 rfl rfl) (by decide) 1087 rfl ?_
                refine zz_iconst zd_14_24_251 ?_
                have g77 := zz_G.r G_S 1087 1 (-2147483648) 2147483647 rfl rfl
                refine zz_iald (z := S 1087 1) zd_14_24_252 zT_1087 rfl (zz_ltn hn rfl) (by decide) (by decide) rfl ?_
                refine zz_if_gt (by omega) zd_14_24_253 (fun c78 => ?_) (fun c78 => ?_)
                · refine zz_iconst zd_14_24_289 ?_
                  refine zz_goto zd_14_24_290 ?_
                  refine zz_istore [some (.ref 1079), none, none, some (zi x3), some (zi 1), some (zi v61)] zd_14_24_294 (by decide) rfl ?_
                  refine zz_aload_n (x := 1079) rfl zd_14_24_296 ?_
                  refine zz_callVV [] zd_14_24_297 zk_Md_247 zT_1079 (zz_ltn hn rfl) rfl rfl ⟨Nat.le_of_ble_eq_true rfl, Nat.le_of_ble_eq_true rfl⟩ ⟨rfl, rfl⟩ (Nat.zero_le _) (Nat.zero_le _) (zc_reaches_14_22  S n hn G_S ) (fun S79 hP => ?_)
                  obtain ⟨G_S79, fS79⟩ := hP
                  have F_S79 := zz_fr.trans F_S fS79 rfl zz_nv
                  refine zz_iconst zd_14_24_300 ?_
                  refine zz_istore [some (.ref 1079), none, none, some (zi x3), some (zi 1), some (zi v61), some (zi 0)] zd_14_24_301 (by decide) rfl ?_
                  refine zz_less (ls1 := [some (.ref 1079), none, none, none, some (zi 1), none, some (zi 0)]) ⟨rfl, ⟨rfl, ⟨rfl, trivial⟩⟩⟩ ?_
                  exact k303 1 0 S79 G_S79 F_S79 (by omega) (by omega) (by omega)
                · refine zz_aload_n (x := 1079) rfl zd_14_24_256 ?_
                  refine zz_getr (kd := 0) (z := 1087) zd_14_24_257 zf_Md_36 zT_1079 rfl (zz_ltn hn rfl) (zz_G.eq G_S 1079 11 1087 rfl rfl) (by decide) 1087 rfl ?_
                  refine zz_iconst zd_14_24_260 ?_
                  have g81 := zz_G.r G_S 1087 3 (-2147483648) 2147483647 rfl rfl
                  refine zz_iald (z := S 1087 3) zd_14_24_261 zT_1087 rfl (zz_ltn hn rfl) (by decide) (by decide) rfl ?_
                  refine zz_if_gt (by omega) zd_14_24_262 (fun c82 => ?_) (fun c82 => ?_)
                  · refine zz_iconst zd_14_24_289 ?_
                    refine zz_goto zd_14_24_290 ?_
                    refine zz_istore [some (.ref 1079), none, none, some (zi x3), some (zi 1), some (zi v61)] zd_14_24_294 (by decide) rfl ?_
                    refine zz_aload_n (x := 1079) rfl zd_14_24_296 ?_
                    refine zz_callVV [] zd_14_24_297 zk_Md_247 zT_1079 (zz_ltn hn rfl) rfl rfl ⟨Nat.le_of_ble_eq_true rfl, Nat.le_of_ble_eq_true rfl⟩ ⟨rfl, rfl⟩ (Nat.zero_le _) (Nat.zero_le _) (zc_reaches_14_22  S n hn G_S ) (fun S83 hP => ?_)
                    obtain ⟨G_S83, fS83⟩ := hP
                    have F_S83 := zz_fr.trans F_S fS83 rfl zz_nv
                    refine zz_iconst zd_14_24_300 ?_
                    refine zz_istore [some (.ref 1079), none, none, some (zi x3), some (zi 1), some (zi v61), some (zi 0)] zd_14_24_301 (by decide) rfl ?_
                    refine zz_less (ls1 := [some (.ref 1079), none, none, none, some (zi 1), none, some (zi 0)]) ⟨rfl, ⟨rfl, ⟨rfl, trivial⟩⟩⟩ ?_
                    exact k303 1 0 S83 G_S83 F_S83 (by omega) (by omega) (by omega)
                  · refine zz_iload (x := v61) rfl zd_14_24_265 ?_
                    refine zz_iconst zd_14_24_267 ?_
                    refine zz_icmp_ne (by omega) (by omega) zd_14_24_268 (fun c85 => ?_) (fun c85 => ?_)
                    · refine zz_iconst zd_14_24_293 ?_
                      refine zz_istore [some (.ref 1079), none, none, some (zi x3), some (zi 0), some (zi v61)] zd_14_24_294 (by decide) rfl ?_
                      refine zz_aload_n (x := 1079) rfl zd_14_24_296 ?_
                      refine zz_callVV [] zd_14_24_297 zk_Md_247 zT_1079 (zz_ltn hn rfl) rfl rfl ⟨Nat.le_of_ble_eq_true rfl, Nat.le_of_ble_eq_true rfl⟩ ⟨rfl, rfl⟩ (Nat.zero_le _) (Nat.zero_le _) (zc_reaches_14_22  S n hn G_S ) (fun S86 hP => ?_)
                      obtain ⟨G_S86, fS86⟩ := hP
                      have F_S86 := zz_fr.trans F_S fS86 rfl zz_nv
                      refine zz_iconst zd_14_24_300 ?_
                      refine zz_istore [some (.ref 1079), none, none, some (zi x3), some (zi 0), some (zi v61), some (zi 0)] zd_14_24_301 (by decide) rfl ?_
                      refine zz_less (ls1 := [some (.ref 1079), none, none, none, some (zi 0), none, some (zi 0)]) ⟨rfl, ⟨rfl, ⟨rfl, trivial⟩⟩⟩ ?_
                      exact k303 0 0 S86 G_S86 F_S86 (by omega) (by omega) (by omega)
                    · exfalso; omega
            · exfalso; omega
          · refine zz_iconst zd_14_24_222 ?_
            refine zz_goto zd_14_24_223 ?_
            refine zz_istore [some (.ref 1079), none, none, some (zi x3), some (zi 1), some (zi x5)] zd_14_24_227 (by decide) rfl ?_
            refine zz_iload (x := 1) rfl zd_14_24_229 ?_
            refine zz_if_eq (by omega) zd_14_24_231 (fun c88 => ?_) (fun c88 => ?_)
            · exfalso; omega
            · refine zz_iconst zd_14_24_234 ?_
              exact zz_zret zd_14_24_235 rfl (by omega) (Nat.zero_le _) (Nat.zero_le _) ⟨_, _, rfl, G_S, F_S, by omega⟩
      · refine zz_aload_n (x := 1079) rfl zd_14_24_183 ?_
        refine zz_getr (kd := 0) (z := 1087) zd_14_24_184 zf_Md_36 zT_1079 rfl (zz_ltn hn rfl) (zz_G.eq G_S 1079 11 1087 rfl rfl) (by decide) 1087 rfl ?_
        refine zz_bipush (by decide) zd_14_24_187 ?_
        have g89 := zz_G.r G_S 1087 11 (-2147483648) 2147483647 rfl rfl
        refine zz_iald (z := S 1087 11) zd_14_24_189 zT_1087 rfl (zz_ltn hn rfl) (by decide) (by decide) rfl ?_
        refine zz_iconst zd_14_24_190 ?_
        refine zz_idiv (by omega) (by omega) zd_14_24_191 (fun v90 hv90 av90 bv90 cv90 => ?_)
        refine zz_i2l (by omega) zd_14_24_192 ?_
        refine zz_lconst (z := 1) (by decide) zd_14_24_193 ?_
        refine zz_aload_n (x := 1079) rfl zd_14_24_194 ?_
        have g91 := zz_G.r G_S0 1079 1 2 8 rfl rfl
        refine zz_geti (z := S0 1079 1) zd_14_24_195 zf_Md_7 zT_1079 rfl (zz_ltn hn rfl) (zz_rc F_S rfl rfl (fun h => h) rfl) ?_
        refine zz_i2l (by omega) zd_14_24_198 ?_
        refine zz_callSI [zl v90, zl 1, zl (S0 1079 1)] zd_14_24_199 zk_Md_192 rfl rfl ⟨Nat.le_of_ble_eq_true rfl, Nat.le_of_ble_eq_true rfl⟩ ⟨rfl, rfl⟩ (Nat.zero_le _) (Nat.zero_le _) (zc_in_14_4 v90 1 (S0 1079 1) S n hn G_S (by omega) (by omega) (by omega)) (fun v93 S92 hP => ?_)
        obtain ⟨rfl, o94, o95⟩ := hP
        rcases (by omega : v93 = 0 ∨ v93 = 1) with rfl | rfl
        · refine zz_if_eq (by omega) zd_14_24_202 (fun c96 => ?_) (fun c96 => ?_)
          · refine zz_iconst zd_14_24_222 ?_
            refine zz_goto zd_14_24_223 ?_
            refine zz_istore [some (.ref 1079), none, none, some (zi x3), some (zi 1), some (zi x5)] zd_14_24_227 (by decide) rfl ?_
            refine zz_iload (x := 1) rfl zd_14_24_229 ?_
            refine zz_if_eq (by omega) zd_14_24_231 (fun c97 => ?_) (fun c97 => ?_)
            · exfalso; omega
            · refine zz_iconst zd_14_24_234 ?_
              exact zz_zret zd_14_24_235 rfl (by omega) (Nat.zero_le _) (Nat.zero_le _) ⟨_, _, rfl, G_S, F_S, by omega⟩
          · exfalso; omega
        · refine zz_if_eq (by omega) zd_14_24_202 (fun c98 => ?_) (fun c98 => ?_)
          · exfalso; omega
          · refine zz_iload_n (x := x3) rfl zd_14_24_205 ?_
            refine zz_bipush (by decide) zd_14_24_206 ?_
            refine zz_icmp_ne (by omega) (by omega) zd_14_24_208 (fun c99 => ?_) (fun c99 => ?_)
            · refine zz_iconst zd_14_24_226 ?_
              refine zz_istore [some (.ref 1079), none, none, some (zi x3), some (zi 0), some (zi x5)] zd_14_24_227 (by decide) rfl ?_
              refine zz_iload (x := 0) rfl zd_14_24_229 ?_
              refine zz_if_eq (by omega) zd_14_24_231 (fun c100 => ?_) (fun c100 => ?_)
              · refine zz_aload_n (x := 1079) rfl zd_14_24_236 ?_
                refine zz_callVI [] zd_14_24_237 zk_Md_243 zT_1079 (zz_ltn hn rfl) rfl rfl ⟨Nat.le_of_ble_eq_true rfl, Nat.le_of_ble_eq_true rfl⟩ ⟨rfl, rfl⟩ (Nat.zero_le _) (Nat.zero_le _) (zc_unit_14_19  S n hn G_S ) (fun v102 S101 hP => ?_)
                obtain ⟨rfl, o103⟩ := hP
                refine zz_istore [some (.ref 1079), none, none, some (zi x3), some (zi 0), some (zi v102)] zd_14_24_240 (by decide) rfl ?_
                refine zz_iload (x := v102) rfl zd_14_24_242 ?_
                refine zz_if_ne (by omega) zd_14_24_244 (fun c104 => ?_) (fun c104 => ?_)
                · refine zz_iload (x := v102) rfl zd_14_24_265 ?_
                  refine zz_iconst zd_14_24_267 ?_
                  refine zz_icmp_ne (by omega) (by omega) zd_14_24_268 (fun c105 => ?_) (fun c105 => ?_)
                  · refine zz_iconst zd_14_24_293 ?_
                    refine zz_istore [some (.ref 1079), none, none, some (zi x3), some (zi 0), some (zi v102)] zd_14_24_294 (by decide) rfl ?_
                    refine zz_aload_n (x := 1079) rfl zd_14_24_296 ?_
                    refine zz_callVV [] zd_14_24_297 zk_Md_247 zT_1079 (zz_ltn hn rfl) rfl rfl ⟨Nat.le_of_ble_eq_true rfl, Nat.le_of_ble_eq_true rfl⟩ ⟨rfl, rfl⟩ (Nat.zero_le _) (Nat.zero_le _) (zc_reaches_14_22  S n hn G_S ) (fun S106 hP => ?_)
                    obtain ⟨G_S106, fS106⟩ := hP
                    have F_S106 := zz_fr.trans F_S fS106 rfl zz_nv
                    refine zz_iconst zd_14_24_300 ?_
                    refine zz_istore [some (.ref 1079), none, none, some (zi x3), some (zi 0), some (zi v102), some (zi 0)] zd_14_24_301 (by decide) rfl ?_
                    refine zz_less (ls1 := [some (.ref 1079), none, none, none, some (zi 0), none, some (zi 0)]) ⟨rfl, ⟨rfl, ⟨rfl, trivial⟩⟩⟩ ?_
                    exact k303 0 0 S106 G_S106 F_S106 (by omega) (by omega) (by omega)
                  · refine zz_aload_n (x := 1079) rfl zd_14_24_271 ?_
                    refine zz_getr (kd := 0) (z := 1087) zd_14_24_272 zf_Md_36 zT_1079 rfl (zz_ltn hn rfl) (zz_G.eq G_S 1079 11 1087 rfl rfl) (by decide) 1087 rfl ?_
                    refine zz_iconst zd_14_24_275 ?_
                    have g108 := zz_G.r G_S 1087 2 (-2147483648) 2147483647 rfl rfl
                    refine zz_iald (z := S 1087 2) zd_14_24_276 zT_1087 rfl (zz_ltn hn rfl) (by decide) (by decide) rfl ?_
                    refine zz_if_gt (by omega) zd_14_24_277 (fun c109 => ?_) (fun c109 => ?_)
                    · refine zz_iconst zd_14_24_289 ?_
                      refine zz_goto zd_14_24_290 ?_
                      refine zz_istore [some (.ref 1079), none, none, some (zi x3), some (zi 1), some (zi v102)] zd_14_24_294 (by decide) rfl ?_
                      refine zz_aload_n (x := 1079) rfl zd_14_24_296 ?_
                      refine zz_callVV [] zd_14_24_297 zk_Md_247 zT_1079 (zz_ltn hn rfl) rfl rfl ⟨Nat.le_of_ble_eq_true rfl, Nat.le_of_ble_eq_true rfl⟩ ⟨rfl, rfl⟩ (Nat.zero_le _) (Nat.zero_le _) (zc_reaches_14_22  S n hn G_S ) (fun S110 hP => ?_)
                      obtain ⟨G_S110, fS110⟩ := hP
                      have F_S110 := zz_fr.trans F_S fS110 rfl zz_nv
                      refine zz_iconst zd_14_24_300 ?_
                      refine zz_istore [some (.ref 1079), none, none, some (zi x3), some (zi 1), some (zi v102), some (zi 0)] zd_14_24_301 (by decide) rfl ?_
                      refine zz_less (ls1 := [some (.ref 1079), none, none, none, some (zi 1), none, some (zi 0)]) ⟨rfl, ⟨rfl, ⟨rfl, trivial⟩⟩⟩ ?_
                      exact k303 1 0 S110 G_S110 F_S110 (by omega) (by omega) (by omega)
                    · refine zz_aload_n (x := 1079) rfl zd_14_24_280 ?_
                      refine zz_getr (kd := 0) (z := 1087) zd_14_24_281 zf_Md_36 zT_1079 rfl (zz_ltn hn rfl) (zz_G.eq G_S 1079 11 1087 rfl rfl) (by decide) 1087 rfl ?_
                      refine zz_iconst zd_14_24_284 ?_
                      have g112 := zz_G.r G_S 1087 4 (-2147483648) 2147483647 rfl rfl
                      refine zz_iald (z := S 1087 4) zd_14_24_285 zT_1087 rfl (zz_ltn hn rfl) (by decide) (by decide) rfl ?_
                      refine zz_if_le (by omega) zd_14_24_286 (fun c113 => ?_) (fun c113 => ?_)
                      · refine zz_iconst zd_14_24_293 ?_
                        refine zz_istore [some (.ref 1079), none, none, some (zi x3), some (zi 0), some (zi v102)] zd_14_24_294 (by decide) rfl ?_
                        refine zz_aload_n (x := 1079) rfl zd_14_24_296 ?_
                        refine zz_callVV [] zd_14_24_297 zk_Md_247 zT_1079 (zz_ltn hn rfl) rfl rfl ⟨Nat.le_of_ble_eq_true rfl, Nat.le_of_ble_eq_true rfl⟩ ⟨rfl, rfl⟩ (Nat.zero_le _) (Nat.zero_le _) (zc_reaches_14_22  S n hn G_S ) (fun S114 hP => ?_)
                        obtain ⟨G_S114, fS114⟩ := hP
                        have F_S114 := zz_fr.trans F_S fS114 rfl zz_nv
                        refine zz_iconst zd_14_24_300 ?_
                        refine zz_istore [some (.ref 1079), none, none, some (zi x3), some (zi 0), some (zi v102), some (zi 0)] zd_14_24_301 (by decide) rfl ?_
                        refine zz_less (ls1 := [some (.ref 1079), none, none, none, some (zi 0), none, some (zi 0)]) ⟨rfl, ⟨rfl, ⟨rfl, trivial⟩⟩⟩ ?_
                        exact k303 0 0 S114 G_S114 F_S114 (by omega) (by omega) (by omega)
                      · refine zz_iconst zd_14_24_289 ?_
                        refine zz_goto zd_14_24_290 ?_
                        refine zz_istore [some (.ref 1079), none, none, some (zi x3), some (zi 1), some (zi v102)] zd_14_24_294 (by decide) rfl ?_
                        refine zz_aload_n (x := 1079) rfl zd_14_24_296 ?_
                        refine zz_callVV [] zd_14_24_297 zk_Md_247 zT_1079 (zz_ltn hn rfl) rfl rfl ⟨Nat.le_of_ble_eq_true rfl, Nat.le_of_ble_eq_true rfl⟩ ⟨rfl, rfl⟩ (Nat.zero_le _) (Nat.zero_le _) (zc_reaches_14_22  S n hn G_S ) (fun S116 hP => ?_)
                        obtain ⟨G_S116, fS116⟩ := hP
                        have F_S116 := zz_fr.trans F_S fS116 rfl zz_nv
                        refine zz_iconst zd_14_24_300 ?_
                        refine zz_istore [some (.ref 1079), none, none, some (zi x3), some (zi 1), some (zi v102), some (zi 0)] zd_14_24_301 (by decide) rfl ?_
                        refine zz_less (ls1 := [some (.ref 1079), none, none, none, some (zi 1), none, some (zi 0)]) ⟨rfl, ⟨rfl, ⟨rfl, trivial⟩⟩⟩ ?_
                        exact k303 1 0 S116 G_S116 F_S116 (by omega) (by omega) (by omega)
                · refine zz_aload_n (x := 1079) rfl zd_14_24_247 ?_
                  refine zz_getr (kd := 0) (z := 1087) zd_14_24_248 zf_Md_36 zT_1079 rfl (zz_ltn hn rfl) (zz_G.eq G_S 1079 11 1087 rfl rfl) (by decide) 1087 rfl ?_
                  refine zz_iconst zd_14_24_251 ?_
                  have g118 := zz_G.r G_S 1087 1 (-2147483648) 2147483647 rfl rfl
                  refine zz_iald (z := S 1087 1) zd_14_24_252 zT_1087 rfl (zz_ltn hn rfl) (by decide) (by decide) rfl ?_
                  refine zz_if_gt (by omega) zd_14_24_253 (fun c119 => ?_) (fun c119 => ?_)
                  · refine zz_iconst zd_14_24_289 ?_
                    refine zz_goto zd_14_24_290 ?_
                    refine zz_istore [some (.ref 1079), none, none, some (zi x3), some (zi 1), some (zi v102)] zd_14_24_294 (by decide) rfl ?_
                    refine zz_aload_n (x := 1079) rfl zd_14_24_296 ?_
                    refine zz_callVV [] zd_14_24_297 zk_Md_247 zT_1079 (zz_ltn hn rfl) rfl rfl ⟨Nat.le_of_ble_eq_true rfl, Nat.le_of_ble_eq_true rfl⟩ ⟨rfl, rfl⟩ (Nat.zero_le _) (Nat.zero_le _) (zc_reaches_14_22  S n hn G_S ) (fun S120 hP => ?_)
                    obtain ⟨G_S120, fS120⟩ := hP
                    have F_S120 := zz_fr.trans F_S fS120 rfl zz_nv
                    refine zz_iconst zd_14_24_300 ?_
                    refine zz_istore [some (.ref 1079), none, none, some (zi x3), some (zi 1), some (zi v102), some (zi 0)] zd_14_24_301 (by decide) rfl ?_
                    refine zz_less (ls1 := [some (.ref 1079), none, none, none, some (zi 1), none, some (zi 0)]) ⟨rfl, ⟨rfl, ⟨rfl, trivial⟩⟩⟩ ?_
                    exact k303 1 0 S120 G_S120 F_S120 (by omega) (by omega) (by omega)
                  · refine zz_aload_n (x := 1079) rfl zd_14_24_256 ?_
                    refine zz_getr (kd := 0) (z := 1087) zd_14_24_257 zf_Md_36 zT_1079 rfl (zz_ltn hn rfl) (zz_G.eq G_S 1079 11 1087 rfl rfl) (by decide) 1087 rfl ?_
                    refine zz_iconst zd_14_24_260 ?_
                    have g122 := zz_G.r G_S 1087 3 (-2147483648) 2147483647 rfl rfl
                    refine zz_iald (z := S 1087 3) zd_14_24_261 zT_1087 rfl (zz_ltn hn rfl) (by decide) (by decide) rfl ?_
                    refine zz_if_gt (by omega) zd_14_24_262 (fun c123 => ?_) (fun c123 => ?_)
                    · refine zz_iconst zd_14_24_289 ?_
                      refine zz_goto zd_14_24_290 ?_
                      refine zz_istore [some (.ref 1079), none, none, some (zi x3), some (zi 1), some (zi v102)] zd_14_24_294 (by decide) rfl ?_
                      refine zz_aload_n (x := 1079) rfl zd_14_24_296 ?_
                      refine zz_callVV [] zd_14_24_297 zk_Md_247 zT_1079 (zz_ltn hn rfl) rfl rfl ⟨Nat.le_of_ble_eq_true rfl, Nat.le_of_ble_eq_true rfl⟩ ⟨rfl, rfl⟩ (Nat.zero_le _) (Nat.zero_le _) (zc_reaches_14_22  S n hn G_S ) (fun S124 hP => ?_)
                      obtain ⟨G_S124, fS124⟩ := hP
                      have F_S124 := zz_fr.trans F_S fS124 rfl zz_nv
                      refine zz_iconst zd_14_24_300 ?_
                      refine zz_istore [some (.ref 1079), none, none, some (zi x3), some (zi 1), some (zi v102), some (zi 0)] zd_14_24_301 (by decide) rfl ?_
                      refine zz_less (ls1 := [some (.ref 1079), none, none, none, some (zi 1), none, some (zi 0)]) ⟨rfl, ⟨rfl, ⟨rfl, trivial⟩⟩⟩ ?_
                      exact k303 1 0 S124 G_S124 F_S124 (by omega) (by omega) (by omega)
                    · refine zz_iload (x := v102) rfl zd_14_24_265 ?_
                      refine zz_iconst zd_14_24_267 ?_
                      refine zz_icmp_ne (by omega) (by omega) zd_14_24_268 (fun c126 => ?_) (fun c126 => ?_)
                      · refine zz_iconst zd_14_24_293 ?_
                        refine zz_istore [some (.ref 1079), none, none, some (zi x3), some (zi 0), some (zi v102)] zd_14_24_294 (by decide) rfl ?_
                        refine zz_aload_n (x := 1079) rfl zd_14_24_296 ?_
                        refine zz_callVV [] zd_14_24_297 zk_Md_247 zT_1079 (zz_ltn hn rfl) rfl rfl ⟨Nat.le_of_ble_eq_true rfl, Nat.le_of_ble_eq_true rfl⟩ ⟨rfl, rfl⟩ (Nat.zero_le _) (Nat.zero_le _) (zc_reaches_14_22  S n hn G_S ) (fun S127 hP => ?_)
                        obtain ⟨G_S127, fS127⟩ := hP
                        have F_S127 := zz_fr.trans F_S fS127 rfl zz_nv
                        refine zz_iconst zd_14_24_300 ?_
                        refine zz_istore [some (.ref 1079), none, none, some (zi x3), some (zi 0), some (zi v102), some (zi 0)] zd_14_24_301 (by decide) rfl ?_
                        refine zz_less (ls1 := [some (.ref 1079), none, none, none, some (zi 0), none, some (zi 0)]) ⟨rfl, ⟨rfl, ⟨rfl, trivial⟩⟩⟩ ?_
                        exact k303 0 0 S127 G_S127 F_S127 (by omega) (by omega) (by omega)
                      · exfalso; omega
              · exfalso; omega
            · exfalso; omega
  · refine zz_iload (x := x4) rfl zd_14_24_122 ?_
    refine zz_if_ne (by omega) zd_14_24_124 (fun c129 => ?_) (fun c129 => ?_)
    · refine zz_iconst zd_14_24_160 ?_
      refine zz_goto zd_14_24_161 ?_
      refine zz_istore [some (.ref 1079), none, none, some (zi x3), some (zi 1), some (zi x5)] zd_14_24_165 (by decide) rfl ?_
      refine zz_iinc [some (.ref 1079), none, none, some (zi x3), some (zi 1), some (zi (x5 + 1))] zd_14_24_167 rfl rfl ?_
      refine zz_goto zd_14_24_170 ?_
      refine zz_less (ls1 := [some (.ref 1079), none, none, some (zi x3), some (zi 1), some (zi (x5 + 1))]) ⟨rfl, ⟨rfl, ⟨rfl, ⟨rfl, trivial⟩⟩⟩⟩ ?_
      exact k115 x3 1 (x5 + 1) S G_S F_S (by omega) (by omega) (by omega) (by omega)
    · refine zz_iload (x := x5) rfl zd_14_24_127 ?_
      refine zz_bipush (by decide) zd_14_24_129 ?_
      refine zz_icmp_eq (by omega) (by omega) zd_14_24_131 (fun c130 => ?_) (fun c130 => ?_)
      · refine zz_iconst zd_14_24_164 ?_
        refine zz_istore [some (.ref 1079), none, none, some (zi x3), some (zi 0), some (zi x5)] zd_14_24_165 (by decide) rfl ?_
        refine zz_iinc [some (.ref 1079), none, none, some (zi x3), some (zi 0), some (zi (x5 + 1))] zd_14_24_167 rfl rfl ?_
        refine zz_goto zd_14_24_170 ?_
        refine zz_less (ls1 := [some (.ref 1079), none, none, some (zi x3), some (zi 0), some (zi (x5 + 1))]) ⟨rfl, ⟨rfl, ⟨rfl, ⟨rfl, trivial⟩⟩⟩⟩ ?_
        exact k115 x3 0 (x5 + 1) S G_S F_S (by omega) (by omega) (by omega) (by omega)
      · refine zz_iload (x := x5) rfl zd_14_24_134 ?_
        refine zz_bipush (by decide) zd_14_24_136 ?_
        refine zz_icmp_eq (by omega) (by omega) zd_14_24_138 (fun c131 => ?_) (fun c131 => ?_)
        · refine zz_iconst zd_14_24_164 ?_
          refine zz_istore [some (.ref 1079), none, none, some (zi x3), some (zi 0), some (zi x5)] zd_14_24_165 (by decide) rfl ?_
          refine zz_iinc [some (.ref 1079), none, none, some (zi x3), some (zi 0), some (zi (x5 + 1))] zd_14_24_167 rfl rfl ?_
          refine zz_goto zd_14_24_170 ?_
          refine zz_less (ls1 := [some (.ref 1079), none, none, some (zi x3), some (zi 0), some (zi (x5 + 1))]) ⟨rfl, ⟨rfl, ⟨rfl, ⟨rfl, trivial⟩⟩⟩⟩ ?_
          exact k115 x3 0 (x5 + 1) S G_S F_S (by omega) (by omega) (by omega) (by omega)
        · refine zz_iload_n (x := x3) rfl zd_14_24_141 ?_
          refine zz_iload (x := x5) rfl zd_14_24_142 ?_
          refine zz_callSI [zi x3, zi x5] zd_14_24_144 zk_Md_240 rfl rfl ⟨Nat.le_of_ble_eq_true rfl, Nat.le_of_ble_eq_true rfl⟩ ⟨rfl, rfl⟩ (Nat.zero_le _) (Nat.zero_le _) (zc_names_14_23 x3 x5 S n hn G_S (by omega) (by omega)) (fun v133 S132 hP => ?_)
          obtain ⟨rfl, o134⟩ := hP
          rcases (by omega : v133 = 0 ∨ v133 = 1) with rfl | rfl
          · refine zz_if_ne (by omega) zd_14_24_147 (fun c135 => ?_) (fun c135 => ?_)
            · exfalso; omega
            · refine zz_aload_n (x := 1079) rfl zd_14_24_150 ?_
              refine zz_getr (kd := 0) (z := 1087) zd_14_24_151 zf_Md_36 zT_1079 rfl (zz_ltn hn rfl) (zz_G.eq G_S 1079 11 1087 rfl rfl) (by decide) 1087 rfl ?_
              refine zz_iload (x := x5) rfl zd_14_24_154 ?_
              have g136 := zz_G.r G_S 1087 x5.toNat (-2147483648) 2147483647 rfl rfl
              refine zz_iald (z := S 1087 x5.toNat) zd_14_24_156 zT_1087 rfl (zz_ltn hn rfl) (by decide) (by omega) rfl ?_
              refine zz_if_eq (by omega) zd_14_24_157 (fun c137 => ?_) (fun c137 => ?_)
              · refine zz_iconst zd_14_24_164 ?_
                refine zz_istore [some (.ref 1079), none, none, some (zi x3), some (zi 0), some (zi x5)] zd_14_24_165 (by decide) rfl ?_
                refine zz_iinc [some (.ref 1079), none, none, some (zi x3), some (zi 0), some (zi (x5 + 1))] zd_14_24_167 rfl rfl ?_
                refine zz_goto zd_14_24_170 ?_
                refine zz_less (ls1 := [some (.ref 1079), none, none, some (zi x3), some (zi 0), some (zi (x5 + 1))]) ⟨rfl, ⟨rfl, ⟨rfl, ⟨rfl, trivial⟩⟩⟩⟩ ?_
                exact k115 x3 0 (x5 + 1) S G_S F_S (by omega) (by omega) (by omega) (by omega)
              · refine zz_iconst zd_14_24_160 ?_
                refine zz_goto zd_14_24_161 ?_
                refine zz_istore [some (.ref 1079), none, none, some (zi x3), some (zi 1), some (zi x5)] zd_14_24_165 (by decide) rfl ?_
                refine zz_iinc [some (.ref 1079), none, none, some (zi x3), some (zi 1), some (zi (x5 + 1))] zd_14_24_167 rfl rfl ?_
                refine zz_goto zd_14_24_170 ?_
                refine zz_less (ls1 := [some (.ref 1079), none, none, some (zi x3), some (zi 1), some (zi (x5 + 1))]) ⟨rfl, ⟨rfl, ⟨rfl, ⟨rfl, trivial⟩⟩⟩⟩ ?_
                exact k115 x3 1 (x5 + 1) S G_S F_S (by omega) (by omega) (by omega) (by omega)
          · refine zz_if_ne (by omega) zd_14_24_147 (fun c138 => ?_) (fun c138 => ?_)
            · refine zz_iconst zd_14_24_164 ?_
              refine zz_istore [some (.ref 1079), none, none, some (zi x3), some (zi 0), some (zi x5)] zd_14_24_165 (by decide) rfl ?_
              refine zz_iinc [some (.ref 1079), none, none, some (zi x3), some (zi 0), some (zi (x5 + 1))] zd_14_24_167 rfl rfl ?_
              refine zz_goto zd_14_24_170 ?_
              refine zz_less (ls1 := [some (.ref 1079), none, none, some (zi x3), some (zi 0), some (zi (x5 + 1))]) ⟨rfl, ⟨rfl, ⟨rfl, ⟨rfl, trivial⟩⟩⟩⟩ ?_
              exact k115 x3 0 (x5 + 1) S G_S F_S (by omega) (by omega) (by omega) (by omega)
            · exfalso; omega
theorem zb_isIllegal_14_24_303 {g : mm_G} {l : Launch} (p0 : Int) (S0 : zz_S) (n : Nat) (hn : zz_end ≤ n) (G_S0 : zz_G S0) (hp0 : (-9223372036854775808) ≤ p0 ∧ p0 ≤ 9223372036854775807) (x4 : Int) (x6 : Int) (S : zz_S) (G_S : zz_G S) (F_S : zz_fr [] [1087, 1088, 1089] (fun _ _ => False) S0 S) (i303_0 : 0 ≤ x4 ∧ x4 ≤ 1) (i303_1 : 0 ≤ x6 ∧ x6 ≤ 5) (R : Nat) (hR : (17179869184 + (5 - x6).toNat) = R) (k303 : ∀ (x4 : Int) (x6 : Int) (S : zz_S), zz_G S → zz_fr [] [1087, 1088, 1089] (fun _ _ => False) S0 S → (0 ≤ x4 ∧ x4 ≤ 1) → (0 ≤ x6 ∧ x6 ≤ 5) → (17179869184 + (5 - x6).toNat) < R → zz_E g l zy_isIllegal_14_24 zr_isIllegal_14_24 (zz_QI n (zp_isIllegal_14_24 p0 S0)) S n 303 [some (.ref 1079), none, none, none, some (zi x4), none, some (zi x6)] [] 0 0) : zz_E g l zy_isIllegal_14_24 zr_isIllegal_14_24 (zz_QI n (zp_isIllegal_14_24 p0 S0)) S n 303 [some (.ref 1079), none, none, none, some (zi x4), none, some (zi x6)] [] 0 0 := by
  refine zz_iload (x := x6) rfl zd_14_24_303 ?_
  refine zz_iconst zd_14_24_305 ?_
  refine zz_icmp_ge (by omega) (by omega) zd_14_24_306 (fun c139 => ?_) (fun c139 => ?_)
  · refine zz_iload (x := x4) rfl zd_14_24_365 ?_
    exact zz_zret zd_14_24_367 rfl (by omega) (Nat.zero_le _) (Nat.zero_le _) ⟨_, _, rfl, G_S, F_S, by omega⟩
  · refine zz_iload (x := x4) rfl zd_14_24_309 ?_
    refine zz_if_ne (by omega) zd_14_24_311 (fun c140 => ?_) (fun c140 => ?_)
    · refine zz_iconst zd_14_24_352 ?_
      refine zz_goto zd_14_24_353 ?_
      refine zz_istore [some (.ref 1079), none, none, none, some (zi 1), none, some (zi x6)] zd_14_24_357 (by decide) rfl ?_
      refine zz_iinc [some (.ref 1079), none, none, none, some (zi 1), none, some (zi (x6 + 1))] zd_14_24_359 rfl rfl ?_
      refine zz_goto zd_14_24_362 ?_
      refine zz_less (ls1 := [some (.ref 1079), none, none, none, some (zi 1), none, some (zi (x6 + 1))]) ⟨rfl, ⟨rfl, ⟨rfl, trivial⟩⟩⟩ ?_
      exact k303 1 (x6 + 1) S G_S F_S (by omega) (by omega) (by omega)
    · refine zz_aload_n (x := 1079) rfl zd_14_24_314 ?_
      refine zz_getr (kd := 0) (z := 1088) zd_14_24_315 zf_Md_39 zT_1079 rfl (zz_ltn hn rfl) (zz_G.eq G_S 1079 12 1088 rfl rfl) (by decide) 1088 rfl ?_
      refine zz_iconst zd_14_24_318 ?_
      refine zz_iload (x := x6) rfl zd_14_24_319 ?_
      refine zz_imul zd_14_24_321 ?_
      refine zz_iconst zd_14_24_322 ?_
      refine zz_iadd zd_14_24_323 ?_
      have g141 := zz_G.r G_S 1088 (((2 * x6) + 1).toNat) (-2147483648) 2147483647 rfl rfl
      refine zz_iald (z := S 1088 (((2 * x6) + 1).toNat)) zd_14_24_324 zT_1088 rfl (zz_ltn hn rfl) (by decide) (by omega) rfl ?_
      refine zz_iload (x := x6) rfl zd_14_24_325 ?_
      refine zz_callSI [zi x6] zd_14_24_327 zk_Md_212 rfl rfl ⟨Nat.le_of_ble_eq_true rfl, Nat.le_of_ble_eq_true rfl⟩ ⟨rfl, rfl⟩ (Nat.zero_le _) (Nat.zero_le _) (zc_roomOf_14_9 x6 S n hn G_S (by omega)) (fun v143 S142 hP => ?_)
      obtain ⟨rfl, o144, o145⟩ := hP
      refine zz_icmp_ge (by omega) (by omega) zd_14_24_330 (fun c146 => ?_) (fun c146 => ?_)
      · refine zz_iconst zd_14_24_352 ?_
        refine zz_goto zd_14_24_353 ?_
        refine zz_istore [some (.ref 1079), none, none, none, some (zi 1), none, some (zi x6)] zd_14_24_357 (by decide) rfl ?_
        refine zz_iinc [some (.ref 1079), none, none, none, some (zi 1), none, some (zi (x6 + 1))] zd_14_24_359 rfl rfl ?_
        refine zz_goto zd_14_24_362 ?_
        refine zz_less (ls1 := [some (.ref 1079), none, none, none, some (zi 1), none, some (zi (x6 + 1))]) ⟨rfl, ⟨rfl, ⟨rfl, trivial⟩⟩⟩ ?_
        exact k303 1 (x6 + 1) S G_S F_S (by omega) (by omega) (by omega)
      · refine zz_aload_n (x := 1079) rfl zd_14_24_333 ?_
        refine zz_getr (kd := 0) (z := 1089) zd_14_24_334 zf_Md_42 zT_1079 rfl (zz_ltn hn rfl) (zz_G.eq G_S 1079 13 1089 rfl rfl) (by decide) 1089 rfl ?_
        refine zz_iconst zd_14_24_337 ?_
        refine zz_iload (x := x6) rfl zd_14_24_338 ?_
        refine zz_imul zd_14_24_340 ?_
        refine zz_iconst zd_14_24_341 ?_
        refine zz_iadd zd_14_24_342 ?_
        have g147 := zz_G.r G_S 1089 (((2 * x6) + 1).toNat) (-2147483648) 2147483647 rfl rfl
        refine zz_iald (z := S 1089 (((2 * x6) + 1).toNat)) zd_14_24_343 zT_1089 rfl (zz_ltn hn rfl) (by decide) (by omega) rfl ?_
        refine zz_iload (x := x6) rfl zd_14_24_344 ?_
        refine zz_callSI [zi x6] zd_14_24_346 zk_Md_212 rfl rfl ⟨Nat.le_of_ble_eq_true rfl, Nat.le_of_ble_eq_true rfl⟩ ⟨rfl, rfl⟩ (Nat.zero_le _) (Nat.zero_le _) (zc_roomOf_14_9 x6 S n hn G_S (by omega)) (fun v149 S148 hP => ?_)
        obtain ⟨rfl, o150, o151⟩ := hP
        refine zz_icmp_lt (by omega) (by omega) zd_14_24_349 (fun c152 => ?_) (fun c152 => ?_)
        · refine zz_iconst zd_14_24_356 ?_
          refine zz_istore [some (.ref 1079), none, none, none, some (zi 0), none, some (zi x6)] zd_14_24_357 (by decide) rfl ?_
          refine zz_iinc [some (.ref 1079), none, none, none, some (zi 0), none, some (zi (x6 + 1))] zd_14_24_359 rfl rfl ?_
          refine zz_goto zd_14_24_362 ?_
          refine zz_less (ls1 := [some (.ref 1079), none, none, none, some (zi 0), none, some (zi (x6 + 1))]) ⟨rfl, ⟨rfl, ⟨rfl, trivial⟩⟩⟩ ?_
          exact k303 0 (x6 + 1) S G_S F_S (by omega) (by omega) (by omega)
        · refine zz_iconst zd_14_24_352 ?_
          refine zz_goto zd_14_24_353 ?_
          refine zz_istore [some (.ref 1079), none, none, none, some (zi 1), none, some (zi x6)] zd_14_24_357 (by decide) rfl ?_
          refine zz_iinc [some (.ref 1079), none, none, none, some (zi 1), none, some (zi (x6 + 1))] zd_14_24_359 rfl rfl ?_
          refine zz_goto zd_14_24_362 ?_
          refine zz_less (ls1 := [some (.ref 1079), none, none, none, some (zi 1), none, some (zi (x6 + 1))]) ⟨rfl, ⟨rfl, ⟨rfl, trivial⟩⟩⟩ ?_
          exact k303 1 (x6 + 1) S G_S F_S (by omega) (by omega) (by omega)
theorem zi_isIllegal_14_24 {g : mm_G} {l : Launch} (p0 : Int) (S0 : zz_S) (n : Nat) (hn : zz_end ≤ n) (G_S0 : zz_G S0) (hp0 : (-9223372036854775808) ≤ p0 ∧ p0 ≤ 9223372036854775807) : ∀ N : Nat, (∀ (x3 : Int) (x4 : Int) (x5 : Int) (S : zz_S), zz_G S → zz_fr [] [1087, 1088, 1089] (fun _ _ => False) S0 S → (1 ≤ x3 ∧ x3 ≤ 9) → (0 ≤ x4 ∧ x4 ≤ 1) → (5 ≤ x5 ∧ x5 ≤ 12) → (34359738368 + (12 - x5).toNat) < N → zz_E g l zy_isIllegal_14_24 zr_isIllegal_14_24 (zz_QI n (zp_isIllegal_14_24 p0 S0)) S n 115 [some (.ref 1079), none, none, some (zi x3), some (zi x4), some (zi x5)] [] 0 0) ∧ (∀ (x4 : Int) (x6 : Int) (S : zz_S), zz_G S → zz_fr [] [1087, 1088, 1089] (fun _ _ => False) S0 S → (0 ≤ x4 ∧ x4 ≤ 1) → (0 ≤ x6 ∧ x6 ≤ 5) → (17179869184 + (5 - x6).toNat) < N → zz_E g l zy_isIllegal_14_24 zr_isIllegal_14_24 (zz_QI n (zp_isIllegal_14_24 p0 S0)) S n 303 [some (.ref 1079), none, none, none, some (zi x4), none, some (zi x6)] [] 0 0) := by
  intro N
  induction N with
  | zero => exact ⟨fun x3 x4 x5 S _ _ _ _ _ h => absurd h (Nat.not_lt_zero _), fun x4 x6 S _ _ _ _ h => absurd h (Nat.not_lt_zero _)⟩
  | succ N ih =>
    exact ⟨fun x3 x4 x5 S a b j0 j1 j2 hR => zb_isIllegal_14_24_115 p0 S0 n hn G_S0 hp0 x3 x4 x5 S a b j0 j1 j2 _ rfl (fun x3 x4 x5 S a b j0 j1 j2 h => ih.1 x3 x4 x5 S a b j0 j1 j2 (Nat.lt_of_lt_of_le h (Nat.le_of_lt_succ hR))) (fun x4 x6 S a b j0 j1 h => ih.2 x4 x6 S a b j0 j1 (Nat.lt_of_lt_of_le h (Nat.le_of_lt_succ hR))),
      fun x4 x6 S a b j0 j1 hR => zb_isIllegal_14_24_303 p0 S0 n hn G_S0 hp0 x4 x6 S a b j0 j1 _ rfl (fun x4 x6 S a b j0 j1 h => ih.2 x4 x6 S a b j0 j1 (Nat.lt_of_lt_of_le h (Nat.le_of_lt_succ hR)))⟩
theorem zc_isIllegal_14_24 {g : mm_G} {l : Launch} (p0 : Int) (S0 : zz_S) (n : Nat) (hn : zz_end ≤ n) (G_S0 : zz_G S0) (hp0 : (-9223372036854775808) ≤ p0 ∧ p0 ≤ 9223372036854775807) : mm_Met g l zy_isIllegal_14_24 zr_isIllegal_14_24 [.ref 1079, zl p0] (zz_M S0 n) n (zz_QI n (zp_isIllegal_14_24 p0 S0)) := by
  refine zz_enter (by decide) (Nat.le_of_ble_eq_true rfl) (zz_less (ls1 := [some (.ref 1079), some (zl p0), none]) ⟨rfl, ⟨rfl, trivial⟩⟩ ?_)
  have F_S0 : zz_fr [] [1087, 1088, 1089] (fun _ _ => False) S0 S0 := zz_fr.refl
  have k115 : ∀ (x3 : Int) (x4 : Int) (x5 : Int) (S : zz_S), zz_G S → zz_fr [] [1087, 1088, 1089] (fun _ _ => False) S0 S → (1 ≤ x3 ∧ x3 ≤ 9) → (0 ≤ x4 ∧ x4 ≤ 1) → (5 ≤ x5 ∧ x5 ≤ 12) → zz_E g l zy_isIllegal_14_24 zr_isIllegal_14_24 (zz_QI n (zp_isIllegal_14_24 p0 S0)) S n 115 [some (.ref 1079), none, none, some (zi x3), some (zi x4), some (zi x5)] [] 0 0 := fun x3 x4 x5 S a b j0 j1 j2 => (zi_isIllegal_14_24 (g := g) (l := l) p0 S0 n hn G_S0 hp0 _).1 x3 x4 x5 S a b j0 j1 j2 (Nat.lt_succ_self _)
  refine zz_aload_n (x := 1079) rfl zd_14_24_0 ?_
  refine zz_lload_n (x := p0) rfl zd_14_24_1 ?_
  refine zz_callVV [zl p0] zd_14_24_2 zk_Md_234 zT_1079 (zz_ltn hn rfl) rfl rfl ⟨Nat.le_of_ble_eq_true rfl, Nat.le_of_ble_eq_true rfl⟩ ⟨rfl, rfl⟩ (Nat.zero_le _) (Nat.zero_le _) (zc_take_14_18 p0 S0 n hn G_S0 (by omega)) (fun S1 hP => ?_)
  obtain ⟨G_S1, fS1⟩ := hP
  have F_S1 := zz_fr.trans F_S0 fS1 rfl zz_nv
  refine zz_aload_n (x := 1079) rfl zd_14_24_5 ?_
  refine zz_getr (kd := 0) (z := 1087) zd_14_24_6 zf_Md_36 zT_1079 rfl (zz_ltn hn rfl) (zz_G.eq G_S1 1079 11 1087 rfl rfl) (by decide) 1087 rfl ?_
  refine zz_iconst zd_14_24_9 ?_
  have g3 := zz_G.r G_S1 1087 0 (-2147483648) 2147483647 rfl rfl
  refine zz_iald (z := S1 1087 0) zd_14_24_10 zT_1087 rfl (zz_ltn hn rfl) (by decide) (by decide) rfl ?_
  refine zz_istore_n [some (.ref 1079), some (zl p0), none, some (zi (S1 1087 0))] zd_14_24_11 (by decide) rfl ?_
  refine zz_iload_n (x := S1 1087 0) rfl zd_14_24_12 ?_
  refine zz_i2l (by omega) zd_14_24_13 ?_
  refine zz_lconst (z := 1) (by decide) zd_14_24_14 ?_
  refine zz_ldc2 (z := 9) zq_Md_238 (by decide) zd_14_24_15 ?_
  refine zz_callSI [zl (S1 1087 0), zl 1, zl 9] zd_14_24_18 zk_Md_192 rfl rfl ⟨Nat.le_of_ble_eq_true rfl, Nat.le_of_ble_eq_true rfl⟩ ⟨rfl, rfl⟩ (Nat.zero_le _) (Nat.zero_le _) (zc_in_14_4 (S1 1087 0) 1 9 S1 n hn G_S1 (by omega) (by omega) (by omega)) (fun v5 S4 hP => ?_)
  obtain ⟨rfl, o6, o7⟩ := hP
  rcases (by omega : v5 = 0 ∨ v5 = 1) with rfl | rfl
  · refine zz_if_ne (by omega) zd_14_24_21 (fun c8 => ?_) (fun c8 => ?_)
    · exfalso; omega
    · refine zz_iconst zd_14_24_24 ?_
      exact zz_zret zd_14_24_25 rfl (by omega) (Nat.zero_le _) (Nat.zero_le _) ⟨_, _, rfl, G_S1, F_S1, by omega⟩
  · refine zz_if_ne (by omega) zd_14_24_21 (fun c9 => ?_) (fun c9 => ?_)
    · refine zz_iload_n (x := S1 1087 0) rfl zd_14_24_26 ?_
      refine zz_bipush (by decide) zd_14_24_27 ?_
      refine zz_icmp_ne (by omega) (by omega) zd_14_24_29 (fun c10 => ?_) (fun c10 => ?_)
      · refine zz_aload_n (x := 1079) rfl zd_14_24_71 ?_
        refine zz_getr (kd := 0) (z := 1087) zd_14_24_72 zf_Md_36 zT_1079 rfl (zz_ltn hn rfl) (zz_G.eq G_S1 1079 11 1087 rfl rfl) (by decide) 1087 rfl ?_
        refine zz_bipush (by decide) zd_14_24_75 ?_
        have g11 := zz_G.r G_S1 1087 6 (-2147483648) 2147483647 rfl rfl
        refine zz_iald (z := S1 1087 6) zd_14_24_77 zT_1087 rfl (zz_ltn hn rfl) (by decide) (by decide) rfl ?_
        refine zz_if_eq (by omega) zd_14_24_78 (fun c12 => ?_) (fun c12 => ?_)
        · refine zz_iconst zd_14_24_105 ?_
          refine zz_goto zd_14_24_106 ?_
          refine zz_istore [some (.ref 1079), some (zl p0), none, some (zi (S1 1087 0)), some (zi 1)] zd_14_24_110 (by decide) rfl ?_
          refine zz_iconst zd_14_24_112 ?_
          refine zz_istore [some (.ref 1079), some (zl p0), none, some (zi (S1 1087 0)), some (zi 1), some (zi 5)] zd_14_24_113 (by decide) rfl ?_
          refine zz_less (ls1 := [some (.ref 1079), none, none, some (zi (S1 1087 0)), some (zi 1), some (zi 5)]) ⟨rfl, ⟨rfl, ⟨rfl, ⟨rfl, trivial⟩⟩⟩⟩ ?_
          exact k115 (S1 1087 0) 1 5 S1 G_S1 F_S1 (by omega) (by omega) (by omega)
        · refine zz_aload_n (x := 1079) rfl zd_14_24_81 ?_
          refine zz_getr (kd := 0) (z := 1087) zd_14_24_82 zf_Md_36 zT_1079 rfl (zz_ltn hn rfl) (zz_G.eq G_S1 1079 11 1087 rfl rfl) (by decide) 1087 rfl ?_
          refine zz_bipush (by decide) zd_14_24_85 ?_
          have g13 := zz_G.r G_S1 1087 7 (-2147483648) 2147483647 rfl rfl
          refine zz_iald (z := S1 1087 7) zd_14_24_87 zT_1087 rfl (zz_ltn hn rfl) (by decide) (by decide) rfl ?_
          refine zz_if_eq (by omega) zd_14_24_88 (fun c14 => ?_) (fun c14 => ?_)
          · refine zz_iconst zd_14_24_105 ?_
            refine zz_goto zd_14_24_106 ?_
            refine zz_istore [some (.ref 1079), some (zl p0), none, some (zi (S1 1087 0)), some (zi 1)] zd_14_24_110 (by decide) rfl ?_
            refine zz_iconst zd_14_24_112 ?_
            refine zz_istore [some (.ref 1079), some (zl p0), none, some (zi (S1 1087 0)), some (zi 1), some (zi 5)] zd_14_24_113 (by decide) rfl ?_
            refine zz_less (ls1 := [some (.ref 1079), none, none, some (zi (S1 1087 0)), some (zi 1), some (zi 5)]) ⟨rfl, ⟨rfl, ⟨rfl, ⟨rfl, trivial⟩⟩⟩⟩ ?_
            exact k115 (S1 1087 0) 1 5 S1 G_S1 F_S1 (by omega) (by omega) (by omega)
          · refine zz_aload_n (x := 1079) rfl zd_14_24_91 ?_
            refine zz_getr (kd := 0) (z := 1087) zd_14_24_92 zf_Md_36 zT_1079 rfl (zz_ltn hn rfl) (zz_G.eq G_S1 1079 11 1087 rfl rfl) (by decide) 1087 rfl ?_
            refine zz_bipush (by decide) zd_14_24_95 ?_
            refine zz_iald (z := S1 1087 7) zd_14_24_97 zT_1087 rfl (zz_ltn hn rfl) (by decide) (by decide) rfl ?_
            refine zz_aload_n (x := 1079) rfl zd_14_24_98 ?_
            have g15 := zz_G.r G_S0 1079 1 2 8 rfl rfl
            refine zz_geti (z := S0 1079 1) zd_14_24_99 zf_Md_7 zT_1079 rfl (zz_ltn hn rfl) (zz_rc fS1 rfl rfl (fun h => h) rfl) ?_
            refine zz_icmp_le (by omega) (by omega) zd_14_24_102 (fun c16 => ?_) (fun c16 => ?_)
            · refine zz_iconst zd_14_24_109 ?_
              refine zz_istore [some (.ref 1079), some (zl p0), none, some (zi (S1 1087 0)), some (zi 0)] zd_14_24_110 (by decide) rfl ?_
              refine zz_iconst zd_14_24_112 ?_
              refine zz_istore [some (.ref 1079), some (zl p0), none, some (zi (S1 1087 0)), some (zi 0), some (zi 5)] zd_14_24_113 (by decide) rfl ?_
              refine zz_less (ls1 := [some (.ref 1079), none, none, some (zi (S1 1087 0)), some (zi 0), some (zi 5)]) ⟨rfl, ⟨rfl, ⟨rfl, ⟨rfl, trivial⟩⟩⟩⟩ ?_
              exact k115 (S1 1087 0) 0 5 S1 G_S1 F_S1 (by omega) (by omega) (by omega)
            · refine zz_iconst zd_14_24_105 ?_
              refine zz_goto zd_14_24_106 ?_
              refine zz_istore [some (.ref 1079), some (zl p0), none, some (zi (S1 1087 0)), some (zi 1)] zd_14_24_110 (by decide) rfl ?_
              refine zz_iconst zd_14_24_112 ?_
              refine zz_istore [some (.ref 1079), some (zl p0), none, some (zi (S1 1087 0)), some (zi 1), some (zi 5)] zd_14_24_113 (by decide) rfl ?_
              refine zz_less (ls1 := [some (.ref 1079), none, none, some (zi (S1 1087 0)), some (zi 1), some (zi 5)]) ⟨rfl, ⟨rfl, ⟨rfl, ⟨rfl, trivial⟩⟩⟩⟩ ?_
              exact k115 (S1 1087 0) 1 5 S1 G_S1 F_S1 (by omega) (by omega) (by omega)
      · refine zz_aload_n (x := 1079) rfl zd_14_24_32 ?_
        refine zz_getr (kd := 0) (z := 1087) zd_14_24_33 zf_Md_36 zT_1079 rfl (zz_ltn hn rfl) (zz_G.eq G_S1 1079 11 1087 rfl rfl) (by decide) 1087 rfl ?_
        refine zz_bipush (by decide) zd_14_24_36 ?_
        have g17 := zz_G.r G_S1 1087 6 (-2147483648) 2147483647 rfl rfl
        refine zz_iald (z := S1 1087 6) zd_14_24_38 zT_1087 rfl (zz_ltn hn rfl) (by decide) (by decide) rfl ?_
        refine zz_if_gt (by omega) zd_14_24_39 (fun c18 => ?_) (fun c18 => ?_)
        · refine zz_iconst zd_14_24_63 ?_
          refine zz_goto zd_14_24_64 ?_
          refine zz_istore [some (.ref 1079), some (zl p0), none, some (zi (S1 1087 0)), some (zi 1)] zd_14_24_110 (by decide) rfl ?_
          refine zz_iconst zd_14_24_112 ?_
          refine zz_istore [some (.ref 1079), some (zl p0), none, some (zi (S1 1087 0)), some (zi 1), some (zi 5)] zd_14_24_113 (by decide) rfl ?_
          refine zz_less (ls1 := [some (.ref 1079), none, none, some (zi (S1 1087 0)), some (zi 1), some (zi 5)]) ⟨rfl, ⟨rfl, ⟨rfl, ⟨rfl, trivial⟩⟩⟩⟩ ?_
          exact k115 (S1 1087 0) 1 5 S1 G_S1 F_S1 (by omega) (by omega) (by omega)
        · refine zz_aload_n (x := 1079) rfl zd_14_24_42 ?_
          refine zz_getr (kd := 0) (z := 1087) zd_14_24_43 zf_Md_36 zT_1079 rfl (zz_ltn hn rfl) (zz_G.eq G_S1 1079 11 1087 rfl rfl) (by decide) 1087 rfl ?_
          refine zz_bipush (by decide) zd_14_24_46 ?_
          have g19 := zz_G.r G_S1 1087 7 (-2147483648) 2147483647 rfl rfl
          refine zz_iald (z := S1 1087 7) zd_14_24_48 zT_1087 rfl (zz_ltn hn rfl) (by decide) (by decide) rfl ?_
          refine zz_if_gt (by omega) zd_14_24_49 (fun c20 => ?_) (fun c20 => ?_)
          · refine zz_iconst zd_14_24_63 ?_
            refine zz_goto zd_14_24_64 ?_
            refine zz_istore [some (.ref 1079), some (zl p0), none, some (zi (S1 1087 0)), some (zi 1)] zd_14_24_110 (by decide) rfl ?_
            refine zz_iconst zd_14_24_112 ?_
            refine zz_istore [some (.ref 1079), some (zl p0), none, some (zi (S1 1087 0)), some (zi 1), some (zi 5)] zd_14_24_113 (by decide) rfl ?_
            refine zz_less (ls1 := [some (.ref 1079), none, none, some (zi (S1 1087 0)), some (zi 1), some (zi 5)]) ⟨rfl, ⟨rfl, ⟨rfl, ⟨rfl, trivial⟩⟩⟩⟩ ?_
            exact k115 (S1 1087 0) 1 5 S1 G_S1 F_S1 (by omega) (by omega) (by omega)
          · refine zz_aload_n (x := 1079) rfl zd_14_24_52 ?_
            refine zz_getr (kd := 0) (z := 1087) zd_14_24_53 zf_Md_36 zT_1079 rfl (zz_ltn hn rfl) (zz_G.eq G_S1 1079 11 1087 rfl rfl) (by decide) 1087 rfl ?_
            refine zz_bipush (by decide) zd_14_24_56 ?_
            have g21 := zz_G.r G_S1 1087 11 (-2147483648) 2147483647 rfl rfl
            refine zz_iald (z := S1 1087 11) zd_14_24_58 zT_1087 rfl (zz_ltn hn rfl) (by decide) (by decide) rfl ?_
            refine zz_iconst zd_14_24_59 ?_
            refine zz_icmp_le (by omega) (by omega) zd_14_24_60 (fun c22 => ?_) (fun c22 => ?_)
            · refine zz_iconst zd_14_24_67 ?_
              refine zz_goto zd_14_24_68 ?_
              refine zz_istore [some (.ref 1079), some (zl p0), none, some (zi (S1 1087 0)), some (zi 0)] zd_14_24_110 (by decide) rfl ?_
              refine zz_iconst zd_14_24_112 ?_
              refine zz_istore [some (.ref 1079), some (zl p0), none, some (zi (S1 1087 0)), some (zi 0), some (zi 5)] zd_14_24_113 (by decide) rfl ?_
              refine zz_less (ls1 := [some (.ref 1079), none, none, some (zi (S1 1087 0)), some (zi 0), some (zi 5)]) ⟨rfl, ⟨rfl, ⟨rfl, ⟨rfl, trivial⟩⟩⟩⟩ ?_
              exact k115 (S1 1087 0) 0 5 S1 G_S1 F_S1 (by omega) (by omega) (by omega)
            · refine zz_iconst zd_14_24_63 ?_
              refine zz_goto zd_14_24_64 ?_
              refine zz_istore [some (.ref 1079), some (zl p0), none, some (zi (S1 1087 0)), some (zi 1)] zd_14_24_110 (by decide) rfl ?_
              refine zz_iconst zd_14_24_112 ?_
              refine zz_istore [some (.ref 1079), some (zl p0), none, some (zi (S1 1087 0)), some (zi 1), some (zi 5)] zd_14_24_113 (by decide) rfl ?_
              refine zz_less (ls1 := [some (.ref 1079), none, none, some (zi (S1 1087 0)), some (zi 1), some (zi 5)]) ⟨rfl, ⟨rfl, ⟨rfl, ⟨rfl, trivial⟩⟩⟩⟩ ?_
              exact k115 (S1 1087 0) 1 5 S1 G_S1 F_S1 (by omega) (by omega) (by omega)
    · exfalso; omega
abbrev zy_illegal_14_25 : mm_Y := (⟨"TensorForgeModel", "illegal", "(J)Z"⟩, prog_14_method_25_code, 3, (some .boolean))
theorem zyw_illegal_14_25 : mm_Yw zy_illegal_14_25 1 := ⟨mm_tb_1 1886 (by decide +kernel) rfl, mm_tb_1 12 (by decide +kernel) rfl, ⟨by decide, by decide⟩, by decide +kernel⟩
theorem zd_14_25_0 : zz_D zy_illegal_14_25 0 (.aload_n 0) 1 1 := ⟨by decide +kernel, rfl⟩
theorem zd_14_25_1 : zz_D zy_illegal_14_25 1 (.iconst 0) 1 2 := ⟨by decide +kernel, rfl⟩
theorem zd_14_25_2 : zz_D zy_illegal_14_25 2 (.putfield 187) 3 5 := ⟨by decide +kernel, rfl⟩
theorem zd_14_25_5 : zz_D zy_illegal_14_25 5 (.aload_n 0) 1 6 := ⟨by decide +kernel, rfl⟩
theorem zd_14_25_6 : zz_D zy_illegal_14_25 6 (.lload_n 1) 1 7 := ⟨by decide +kernel, rfl⟩
theorem zd_14_25_7 : zz_D zy_illegal_14_25 7 (.invokevirtual 250) 3 10 := ⟨by decide +kernel, rfl⟩
theorem zk_Md_250 : mm_Vl "TensorForgeModel" 250 11 1 zy_isIllegal_14_24 := ⟨zyw_isIllegal_14_24, (R_Md, F_Md, 69), rfl, mm_tb_1 1887 (by decide +kernel) rfl, mm_tb_1 1889 (by decide +kernel) rfl, mm_tb_s 88 (by decide +kernel) rfl⟩
theorem zd_14_25_10 : zz_D zy_illegal_14_25 10 (.ireturn) 1 11 := ⟨by decide +kernel, rfl⟩
-- TensorForgeModel illegal (J)Z
abbrev zr_illegal_14_25 : Room := { frames := 4, cells := 0, slots := 0, locals := 67 }
def zp_illegal_14_25 (p0 : Int) (S0 : zz_S) : Int → zz_S → Prop := fun r S => zz_G S ∧ zz_fr [(1079, 0)] [1087, 1088, 1089] (fun _ _ => False) S0 S ∧ (0 ≤ r ∧ r ≤ 1)
theorem zc_illegal_14_25 {g : mm_G} {l : Launch} (p0 : Int) (S0 : zz_S) (n : Nat) (hn : zz_end ≤ n) (G_S0 : zz_G S0) (hp0 : (-9223372036854775808) ≤ p0 ∧ p0 ≤ 9223372036854775807) : mm_Met g l zy_illegal_14_25 zr_illegal_14_25 [.ref 1079, zl p0] (zz_M S0 n) n (zz_QI n (zp_illegal_14_25 p0 S0)) := by
  refine zz_enter (by decide) (Nat.le_of_ble_eq_true rfl) (zz_less (ls1 := [some (.ref 1079), some (zl p0), none]) ⟨rfl, ⟨rfl, trivial⟩⟩ ?_)
  have F_S0 : zz_fr [(1079, 0)] [1087, 1088, 1089] (fun _ _ => False) S0 S0 := zz_fr.refl
  refine zz_aload_n (x := 1079) rfl zd_14_25_0 ?_
  refine zz_iconst zd_14_25_1 ?_
  refine zz_puti zd_14_25_2 zf_Md_187 zT_1079 rfl (zz_ltn hn rfl) (fun S1 qS1 => ?_)
  have G_S1 := zz_G.put G_S0 qS1 0 3 rfl (by omega)
  have F_S1 := zz_fr.puts F_S0 qS1 rfl
  refine zz_aload_n (x := 1079) rfl zd_14_25_5 ?_
  refine zz_lload_n (x := p0) rfl zd_14_25_6 ?_
  refine zz_callVI [zl p0] zd_14_25_7 zk_Md_250 zT_1079 (zz_ltn hn rfl) rfl rfl ⟨Nat.le_of_ble_eq_true rfl, Nat.le_of_ble_eq_true rfl⟩ ⟨rfl, rfl⟩ (Nat.zero_le _) (Nat.zero_le _) (zc_isIllegal_14_24 p0 S1 n hn G_S1 (by omega)) (fun v3 S2 hP => ?_)
  obtain ⟨G_S2, fS2, o4⟩ := hP
  have F_S2 := zz_fr.trans F_S1 fS2 rfl zz_nv
  rcases (by omega : v3 = 0 ∨ v3 = 1) with rfl | rfl
  · exact zz_zret zd_14_25_10 rfl (by omega) (Nat.zero_le _) (Nat.zero_le _) ⟨_, _, rfl, G_S2, F_S2, by omega⟩
  · exact zz_zret zd_14_25_10 rfl (by omega) (Nat.zero_le _) (Nat.zero_le _) ⟨_, _, rfl, G_S2, F_S2, by omega⟩
abbrev zy_narrowed_14_26 : mm_Y := (⟨"TensorForgeModel", "narrowed", "(II)I"⟩, prog_14_method_26_code, 5, (some .int))
theorem zyw_narrowed_14_26 : mm_Yw zy_narrowed_14_26 2 := ⟨mm_tb_1 1986 (by decide +kernel) rfl, mm_tb_1 12 (by decide +kernel) rfl, ⟨by decide, by decide⟩, by decide +kernel⟩
theorem zd_14_26_0 : zz_D zy_narrowed_14_26 0 (.iload_n 1) 1 1 := ⟨by decide +kernel, rfl⟩
theorem zd_14_26_1 : zz_D zy_narrowed_14_26 1 (.bipush 15) 2 3 := ⟨by decide +kernel, rfl⟩
theorem zd_14_26_3 : zz_D zy_narrowed_14_26 3 (.iand) 1 4 := ⟨by decide +kernel, rfl⟩
theorem zd_14_26_4 : zz_D zy_narrowed_14_26 4 (.istore_n 2) 1 5 := ⟨by decide +kernel, rfl⟩
theorem zd_14_26_5 : zz_D zy_narrowed_14_26 5 (.iload_n 2) 1 6 := ⟨by decide +kernel, rfl⟩
theorem zd_14_26_6 : zz_B zy_narrowed_14_26 6 (Instr.ifCond .le) 22 9 := ⟨16, by decide +kernel, rfl, rfl⟩
theorem zd_14_26_22 : zz_D zy_narrowed_14_26 22 (.iload_n 0) 1 23 := ⟨by decide +kernel, rfl⟩
theorem zd_14_26_23 : zz_D zy_narrowed_14_26 23 (.i2l) 1 24 := ⟨by decide +kernel, rfl⟩
theorem zd_14_26_24 : zz_D zy_narrowed_14_26 24 (.lstore_n 3) 1 25 := ⟨by decide +kernel, rfl⟩
theorem zd_14_26_25 : zz_D zy_narrowed_14_26 25 (.lload_n 3) 1 26 := ⟨by decide +kernel, rfl⟩
theorem zd_14_26_26 : zz_D zy_narrowed_14_26 26 (.ldc2_w 254) 3 29 := ⟨by decide +kernel, rfl⟩
theorem zq_Md_254 : Cond.constantLong "TensorForgeModel" 254 (-128 : Int64) ∈ mm_tb := mm_tb_1 1987 (by decide +kernel) rfl
theorem zd_14_26_29 : zz_D zy_narrowed_14_26 29 (.lcmp) 1 30 := ⟨by decide +kernel, rfl⟩
theorem zd_14_26_30 : zz_B zy_narrowed_14_26 30 (Instr.ifCond .ge) 39 33 := ⟨9, by decide +kernel, rfl, rfl⟩
theorem zd_14_26_39 : zz_D zy_narrowed_14_26 39 (.lload_n 3) 1 40 := ⟨by decide +kernel, rfl⟩
theorem zd_14_26_40 : zz_D zy_narrowed_14_26 40 (.ldc2_w 256) 3 43 := ⟨by decide +kernel, rfl⟩
theorem zq_Md_256 : Cond.constantLong "TensorForgeModel" 256 (127 : Int64) ∈ mm_tb := mm_tb_1 1988 (by decide +kernel) rfl
theorem zd_14_26_43 : zz_D zy_narrowed_14_26 43 (.lcmp) 1 44 := ⟨by decide +kernel, rfl⟩
theorem zd_14_26_44 : zz_B zy_narrowed_14_26 44 (Instr.ifCond .le) 53 47 := ⟨9, by decide +kernel, rfl, rfl⟩
theorem zd_14_26_53 : zz_D zy_narrowed_14_26 53 (.lload_n 3) 1 54 := ⟨by decide +kernel, rfl⟩
theorem zd_14_26_54 : zz_D zy_narrowed_14_26 54 (.lstore_n 3) 1 55 := ⟨by decide +kernel, rfl⟩
theorem zd_14_26_55 : zz_D zy_narrowed_14_26 55 (.iload_n 1) 1 56 := ⟨by decide +kernel, rfl⟩
theorem zd_14_26_56 : zz_D zy_narrowed_14_26 56 (.bipush 15) 2 58 := ⟨by decide +kernel, rfl⟩
theorem zd_14_26_58 : zz_B zy_narrowed_14_26 58 (Instr.if_icmp .le) 71 61 := ⟨13, by decide +kernel, rfl, rfl⟩
theorem zd_14_26_71 : zz_D zy_narrowed_14_26 71 (.lload_n 3) 1 72 := ⟨by decide +kernel, rfl⟩
theorem zd_14_26_72 : zz_D zy_narrowed_14_26 72 (.l2i) 1 73 := ⟨by decide +kernel, rfl⟩
theorem zd_14_26_73 : zz_D zy_narrowed_14_26 73 (.ireturn) 1 74 := ⟨by decide +kernel, rfl⟩
theorem zd_14_26_61 : zz_D zy_narrowed_14_26 61 (.lload_n 3) 1 62 := ⟨by decide +kernel, rfl⟩
theorem zd_14_26_62 : zz_D zy_narrowed_14_26 62 (.lconst 0) 1 63 := ⟨by decide +kernel, rfl⟩
theorem zd_14_26_63 : zz_D zy_narrowed_14_26 63 (.lcmp) 1 64 := ⟨by decide +kernel, rfl⟩
theorem zd_14_26_64 : zz_B zy_narrowed_14_26 64 (Instr.ifCond .ge) 71 67 := ⟨7, by decide +kernel, rfl, rfl⟩
theorem zd_14_26_67 : zz_D zy_narrowed_14_26 67 (.iconst 0) 1 68 := ⟨by decide +kernel, rfl⟩
theorem zd_14_26_68 : zz_B zy_narrowed_14_26 68 Instr.goto 73 71 := ⟨5, by decide +kernel, rfl, rfl⟩
theorem zd_14_26_47 : zz_D zy_narrowed_14_26 47 (.ldc2_w 256) 3 50 := ⟨by decide +kernel, rfl⟩
theorem zd_14_26_50 : zz_B zy_narrowed_14_26 50 Instr.goto 54 53 := ⟨4, by decide +kernel, rfl, rfl⟩
theorem zd_14_26_33 : zz_D zy_narrowed_14_26 33 (.ldc2_w 254) 3 36 := ⟨by decide +kernel, rfl⟩
theorem zd_14_26_36 : zz_B zy_narrowed_14_26 36 Instr.goto 54 39 := ⟨18, by decide +kernel, rfl, rfl⟩
theorem zd_14_26_9 : zz_D zy_narrowed_14_26 9 (.iload_n 0) 1 10 := ⟨by decide +kernel, rfl⟩
theorem zd_14_26_10 : zz_D zy_narrowed_14_26 10 (.i2l) 1 11 := ⟨by decide +kernel, rfl⟩
theorem zd_14_26_11 : zz_D zy_narrowed_14_26 11 (.lconst 1) 1 12 := ⟨by decide +kernel, rfl⟩
theorem zd_14_26_12 : zz_D zy_narrowed_14_26 12 (.iload_n 2) 1 13 := ⟨by decide +kernel, rfl⟩
theorem zd_14_26_13 : zz_D zy_narrowed_14_26 13 (.iconst 1) 1 14 := ⟨by decide +kernel, rfl⟩
theorem zd_14_26_14 : zz_D zy_narrowed_14_26 14 (.isub) 1 15 := ⟨by decide +kernel, rfl⟩
theorem zd_14_26_15 : zz_D zy_narrowed_14_26 15 (.lshl) 1 16 := ⟨by decide +kernel, rfl⟩
theorem zd_14_26_16 : zz_D zy_narrowed_14_26 16 (.ladd) 1 17 := ⟨by decide +kernel, rfl⟩
theorem zd_14_26_17 : zz_D zy_narrowed_14_26 17 (.iload_n 2) 1 18 := ⟨by decide +kernel, rfl⟩
theorem zd_14_26_18 : zz_D zy_narrowed_14_26 18 (.lshr) 1 19 := ⟨by decide +kernel, rfl⟩
theorem zd_14_26_19 : zz_B zy_narrowed_14_26 19 Instr.goto 24 22 := ⟨5, by decide +kernel, rfl, rfl⟩
-- TensorForgeModel narrowed (II)I
abbrev zr_narrowed_14_26 : Room := { frames := 0, cells := 0, slots := 0, locals := 0 }
def zp_narrowed_14_26 (p0 : Int) (p1 : Int) (S0 : zz_S) : Int → zz_S → Prop := fun r S => S0 = S ∧ ((-2147483648) ≤ r ∧ r ≤ 2147483647)
theorem zc_narrowed_14_26 {g : mm_G} {l : Launch} (p0 : Int) (p1 : Int) (S0 : zz_S) (n : Nat) (hn : zz_end ≤ n) (G_S0 : zz_G S0) (hp0 : (-2147483648) ≤ p0 ∧ p0 ≤ 2147483647) (hp1 : (-2147483648) ≤ p1 ∧ p1 ≤ 2147483647) : mm_Met g l zy_narrowed_14_26 zr_narrowed_14_26 [zi p0, zi p1] (zz_M S0 n) n (zz_QI n (zp_narrowed_14_26 p0 p1 S0)) := by
  refine zz_enter (by decide) (Nat.le_of_ble_eq_true rfl) (zz_less (ls1 := [some (zi p0), some (zi p1)]) ⟨rfl, ⟨rfl, trivial⟩⟩ ?_)
  refine zz_iload_n (x := p1) rfl zd_14_26_0 ?_
  refine zz_bipush (by decide) zd_14_26_1 ?_
  refine zz_iand (by omega) (by omega) zd_14_26_3 (fun v1 hv1 av1 bv1 ev1 => ?_)
  refine zz_istore_n [some (zi p0), some (zi p1), some (zi v1)] zd_14_26_4 (by decide) rfl ?_
  refine zz_iload_n (x := v1) rfl zd_14_26_5 ?_
  refine zz_if_le (by omega) zd_14_26_6 (fun c2 => ?_) (fun c2 => ?_)
  · refine zz_iload_n (x := p0) rfl zd_14_26_22 ?_
    refine zz_i2l (by omega) zd_14_26_23 ?_
    refine zz_lstore_n [some (zi p0), some (zi p1), some (zi v1), some (zl p0), none] zd_14_26_24 (by decide) rfl ?_
    refine zz_lload_n (x := p0) rfl zd_14_26_25 ?_
    refine zz_ldc2 (z := (-128)) zq_Md_254 (by decide) zd_14_26_26 ?_
    refine zz_lcmp (by omega) (by omega) zd_14_26_29 (fun v3 hv3 => ?_)
    refine zz_if_ge (by omega) zd_14_26_30 (fun c4 => ?_) (fun c4 => ?_)
    · refine zz_lload_n (x := p0) rfl zd_14_26_39 ?_
      refine zz_ldc2 (z := 127) zq_Md_256 (by decide) zd_14_26_40 ?_
      refine zz_lcmp (by omega) (by omega) zd_14_26_43 (fun v5 hv5 => ?_)
      refine zz_if_le (by omega) zd_14_26_44 (fun c6 => ?_) (fun c6 => ?_)
      · refine zz_lload_n (x := p0) rfl zd_14_26_53 ?_
        refine zz_lstore_n [some (zi p0), some (zi p1), some (zi v1), some (zl p0), none] zd_14_26_54 (by decide) rfl ?_
        refine zz_iload_n (x := p1) rfl zd_14_26_55 ?_
        refine zz_bipush (by decide) zd_14_26_56 ?_
        refine zz_icmp_le (by omega) (by omega) zd_14_26_58 (fun c7 => ?_) (fun c7 => ?_)
        · refine zz_lload_n (x := p0) rfl zd_14_26_71 ?_
          refine zz_l2i (by omega) zd_14_26_72 (fun v8 hv8 av8 ev8 => ?_)
          exact zz_iret zd_14_26_73 rfl (Nat.zero_le _) (Nat.zero_le _) ⟨_, _, rfl, rfl, by omega⟩
        · refine zz_lload_n (x := p0) rfl zd_14_26_61 ?_
          refine zz_lconst (z := 0) (by decide) zd_14_26_62 ?_
          refine zz_lcmp (by omega) (by omega) zd_14_26_63 (fun v9 hv9 => ?_)
          refine zz_if_ge (by omega) zd_14_26_64 (fun c10 => ?_) (fun c10 => ?_)
          · refine zz_lload_n (x := p0) rfl zd_14_26_71 ?_
            refine zz_l2i (by omega) zd_14_26_72 (fun v11 hv11 av11 ev11 => ?_)
            exact zz_iret zd_14_26_73 rfl (Nat.zero_le _) (Nat.zero_le _) ⟨_, _, rfl, rfl, by omega⟩
          · refine zz_iconst zd_14_26_67 ?_
            refine zz_goto zd_14_26_68 ?_
            exact zz_iret zd_14_26_73 rfl (Nat.zero_le _) (Nat.zero_le _) ⟨_, _, rfl, rfl, by omega⟩
      · refine zz_ldc2 (z := 127) zq_Md_256 (by decide) zd_14_26_47 ?_
        refine zz_goto zd_14_26_50 ?_
        refine zz_lstore_n [some (zi p0), some (zi p1), some (zi v1), some (zl 127), none] zd_14_26_54 (by decide) rfl ?_
        refine zz_iload_n (x := p1) rfl zd_14_26_55 ?_
        refine zz_bipush (by decide) zd_14_26_56 ?_
        refine zz_icmp_le (by omega) (by omega) zd_14_26_58 (fun c12 => ?_) (fun c12 => ?_)
        · refine zz_lload_n (x := 127) rfl zd_14_26_71 ?_
          refine zz_l2i (by omega) zd_14_26_72 (fun v13 hv13 av13 ev13 => ?_)
          exact zz_iret zd_14_26_73 rfl (Nat.zero_le _) (Nat.zero_le _) ⟨_, _, rfl, rfl, by omega⟩
        · refine zz_lload_n (x := 127) rfl zd_14_26_61 ?_
          refine zz_lconst (z := 0) (by decide) zd_14_26_62 ?_
          refine zz_lcmp (by omega) (by omega) zd_14_26_63 (fun v14 hv14 => ?_)
          refine zz_if_ge (by omega) zd_14_26_64 (fun c15 => ?_) (fun c15 => ?_)
          · refine zz_lload_n (x := 127) rfl zd_14_26_71 ?_
            refine zz_l2i (by omega) zd_14_26_72 (fun v16 hv16 av16 ev16 => ?_)
            exact zz_iret zd_14_26_73 rfl (Nat.zero_le _) (Nat.zero_le _) ⟨_, _, rfl, rfl, by omega⟩
          · refine zz_iconst zd_14_26_67 ?_
            refine zz_goto zd_14_26_68 ?_
            exact zz_iret zd_14_26_73 rfl (Nat.zero_le _) (Nat.zero_le _) ⟨_, _, rfl, rfl, by omega⟩
    · refine zz_ldc2 (z := (-128)) zq_Md_254 (by decide) zd_14_26_33 ?_
      refine zz_goto zd_14_26_36 ?_
      refine zz_lstore_n [some (zi p0), some (zi p1), some (zi v1), some (zl (-128)), none] zd_14_26_54 (by decide) rfl ?_
      refine zz_iload_n (x := p1) rfl zd_14_26_55 ?_
      refine zz_bipush (by decide) zd_14_26_56 ?_
      refine zz_icmp_le (by omega) (by omega) zd_14_26_58 (fun c17 => ?_) (fun c17 => ?_)
      · refine zz_lload_n (x := (-128)) rfl zd_14_26_71 ?_
        refine zz_l2i (by omega) zd_14_26_72 (fun v18 hv18 av18 ev18 => ?_)
        exact zz_iret zd_14_26_73 rfl (Nat.zero_le _) (Nat.zero_le _) ⟨_, _, rfl, rfl, by omega⟩
      · refine zz_lload_n (x := (-128)) rfl zd_14_26_61 ?_
        refine zz_lconst (z := 0) (by decide) zd_14_26_62 ?_
        refine zz_lcmp (by omega) (by omega) zd_14_26_63 (fun v19 hv19 => ?_)
        refine zz_if_ge (by omega) zd_14_26_64 (fun c20 => ?_) (fun c20 => ?_)
        · refine zz_lload_n (x := (-128)) rfl zd_14_26_71 ?_
          refine zz_l2i (by omega) zd_14_26_72 (fun v21 hv21 av21 ev21 => ?_)
          exact zz_iret zd_14_26_73 rfl (Nat.zero_le _) (Nat.zero_le _) ⟨_, _, rfl, rfl, by omega⟩
        · refine zz_iconst zd_14_26_67 ?_
          refine zz_goto zd_14_26_68 ?_
          exact zz_iret zd_14_26_73 rfl (Nat.zero_le _) (Nat.zero_le _) ⟨_, _, rfl, rfl, by omega⟩
  · refine zz_iload_n (x := p0) rfl zd_14_26_9 ?_
    refine zz_i2l (by omega) zd_14_26_10 ?_
    refine zz_lconst (z := 1) (by decide) zd_14_26_11 ?_
    refine zz_iload_n (x := v1) rfl zd_14_26_12 ?_
    refine zz_iconst zd_14_26_13 ?_
    refine zz_isub zd_14_26_14 ?_
    refine zz_lshl zd_14_26_15 (fun v22 hv22 ev22 => ?_)
    refine zz_ladd zd_14_26_16 ?_
    refine zz_nrml (fun v23 hv23 ev23 => ?_)
    refine zz_iload_n (x := v1) rfl zd_14_26_17 ?_
    refine zz_lshr zd_14_26_18 (fun v24 hv24 ev24 => ?_)
    refine zz_goto zd_14_26_19 ?_
    refine zz_lstore_n [some (zi p0), some (zi p1), some (zi v1), some (zl v24), none] zd_14_26_24 (by decide) rfl ?_
    refine zz_lload_n (x := v24) rfl zd_14_26_25 ?_
    refine zz_ldc2 (z := (-128)) zq_Md_254 (by decide) zd_14_26_26 ?_
    refine zz_lcmp (by omega) (by omega) zd_14_26_29 (fun v25 hv25 => ?_)
    refine zz_if_ge (by omega) zd_14_26_30 (fun c26 => ?_) (fun c26 => ?_)
    · refine zz_lload_n (x := v24) rfl zd_14_26_39 ?_
      refine zz_ldc2 (z := 127) zq_Md_256 (by decide) zd_14_26_40 ?_
      refine zz_lcmp (by omega) (by omega) zd_14_26_43 (fun v27 hv27 => ?_)
      refine zz_if_le (by omega) zd_14_26_44 (fun c28 => ?_) (fun c28 => ?_)
      · refine zz_lload_n (x := v24) rfl zd_14_26_53 ?_
        refine zz_lstore_n [some (zi p0), some (zi p1), some (zi v1), some (zl v24), none] zd_14_26_54 (by decide) rfl ?_
        refine zz_iload_n (x := p1) rfl zd_14_26_55 ?_
        refine zz_bipush (by decide) zd_14_26_56 ?_
        refine zz_icmp_le (by omega) (by omega) zd_14_26_58 (fun c29 => ?_) (fun c29 => ?_)
        · refine zz_lload_n (x := v24) rfl zd_14_26_71 ?_
          refine zz_l2i (by omega) zd_14_26_72 (fun v30 hv30 av30 ev30 => ?_)
          exact zz_iret zd_14_26_73 rfl (Nat.zero_le _) (Nat.zero_le _) ⟨_, _, rfl, rfl, by omega⟩
        · refine zz_lload_n (x := v24) rfl zd_14_26_61 ?_
          refine zz_lconst (z := 0) (by decide) zd_14_26_62 ?_
          refine zz_lcmp (by omega) (by omega) zd_14_26_63 (fun v31 hv31 => ?_)
          refine zz_if_ge (by omega) zd_14_26_64 (fun c32 => ?_) (fun c32 => ?_)
          · refine zz_lload_n (x := v24) rfl zd_14_26_71 ?_
            refine zz_l2i (by omega) zd_14_26_72 (fun v33 hv33 av33 ev33 => ?_)
            exact zz_iret zd_14_26_73 rfl (Nat.zero_le _) (Nat.zero_le _) ⟨_, _, rfl, rfl, by omega⟩
          · refine zz_iconst zd_14_26_67 ?_
            refine zz_goto zd_14_26_68 ?_
            exact zz_iret zd_14_26_73 rfl (Nat.zero_le _) (Nat.zero_le _) ⟨_, _, rfl, rfl, by omega⟩
      · refine zz_ldc2 (z := 127) zq_Md_256 (by decide) zd_14_26_47 ?_
        refine zz_goto zd_14_26_50 ?_
        refine zz_lstore_n [some (zi p0), some (zi p1), some (zi v1), some (zl 127), none] zd_14_26_54 (by decide) rfl ?_
        refine zz_iload_n (x := p1) rfl zd_14_26_55 ?_
        refine zz_bipush (by decide) zd_14_26_56 ?_
        refine zz_icmp_le (by omega) (by omega) zd_14_26_58 (fun c34 => ?_) (fun c34 => ?_)
        · refine zz_lload_n (x := 127) rfl zd_14_26_71 ?_
          refine zz_l2i (by omega) zd_14_26_72 (fun v35 hv35 av35 ev35 => ?_)
          exact zz_iret zd_14_26_73 rfl (Nat.zero_le _) (Nat.zero_le _) ⟨_, _, rfl, rfl, by omega⟩
        · refine zz_lload_n (x := 127) rfl zd_14_26_61 ?_
          refine zz_lconst (z := 0) (by decide) zd_14_26_62 ?_
          refine zz_lcmp (by omega) (by omega) zd_14_26_63 (fun v36 hv36 => ?_)
          refine zz_if_ge (by omega) zd_14_26_64 (fun c37 => ?_) (fun c37 => ?_)
          · refine zz_lload_n (x := 127) rfl zd_14_26_71 ?_
            refine zz_l2i (by omega) zd_14_26_72 (fun v38 hv38 av38 ev38 => ?_)
            exact zz_iret zd_14_26_73 rfl (Nat.zero_le _) (Nat.zero_le _) ⟨_, _, rfl, rfl, by omega⟩
          · refine zz_iconst zd_14_26_67 ?_
            refine zz_goto zd_14_26_68 ?_
            exact zz_iret zd_14_26_73 rfl (Nat.zero_le _) (Nat.zero_le _) ⟨_, _, rfl, rfl, by omega⟩
    · refine zz_ldc2 (z := (-128)) zq_Md_254 (by decide) zd_14_26_33 ?_
      refine zz_goto zd_14_26_36 ?_
      refine zz_lstore_n [some (zi p0), some (zi p1), some (zi v1), some (zl (-128)), none] zd_14_26_54 (by decide) rfl ?_
      refine zz_iload_n (x := p1) rfl zd_14_26_55 ?_
      refine zz_bipush (by decide) zd_14_26_56 ?_
      refine zz_icmp_le (by omega) (by omega) zd_14_26_58 (fun c39 => ?_) (fun c39 => ?_)
      · refine zz_lload_n (x := (-128)) rfl zd_14_26_71 ?_
        refine zz_l2i (by omega) zd_14_26_72 (fun v40 hv40 av40 ev40 => ?_)
        exact zz_iret zd_14_26_73 rfl (Nat.zero_le _) (Nat.zero_le _) ⟨_, _, rfl, rfl, by omega⟩
      · refine zz_lload_n (x := (-128)) rfl zd_14_26_61 ?_
        refine zz_lconst (z := 0) (by decide) zd_14_26_62 ?_
        refine zz_lcmp (by omega) (by omega) zd_14_26_63 (fun v41 hv41 => ?_)
        refine zz_if_ge (by omega) zd_14_26_64 (fun c42 => ?_) (fun c42 => ?_)
        · refine zz_lload_n (x := (-128)) rfl zd_14_26_71 ?_
          refine zz_l2i (by omega) zd_14_26_72 (fun v43 hv43 av43 ev43 => ?_)
          exact zz_iret zd_14_26_73 rfl (Nat.zero_le _) (Nat.zero_le _) ⟨_, _, rfl, rfl, by omega⟩
        · refine zz_iconst zd_14_26_67 ?_
          refine zz_goto zd_14_26_68 ?_
          exact zz_iret zd_14_26_73 rfl (Nat.zero_le _) (Nat.zero_le _) ⟨_, _, rfl, rfl, by omega⟩
abbrev zy_intAt_14_27 : mm_Y := (⟨"TensorForgeModel", "intAt", "(I)I"⟩, prog_14_method_27_code, 2, (some .int))
theorem zyw_intAt_14_27 : mm_Yw zy_intAt_14_27 1 := ⟨mm_tb_1 1983 (by decide +kernel) rfl, mm_tb_1 12 (by decide +kernel) rfl, ⟨by decide, by decide⟩, by decide +kernel⟩
theorem zd_14_27_0 : zz_D zy_intAt_14_27 0 (.aload_n 0) 1 1 := ⟨by decide +kernel, rfl⟩
theorem zd_14_27_1 : zz_D zy_intAt_14_27 1 (.getfield 13) 3 4 := ⟨by decide +kernel, rfl⟩
theorem zd_14_27_4 : zz_D zy_intAt_14_27 4 (.iload_n 1) 1 5 := ⟨by decide +kernel, rfl⟩
theorem zd_14_27_5 : zz_D zy_intAt_14_27 5 (.iaload) 1 6 := ⟨by decide +kernel, rfl⟩
theorem zd_14_27_6 : zz_D zy_intAt_14_27 6 (.sipush 255) 3 9 := ⟨by decide +kernel, rfl⟩
theorem zd_14_27_9 : zz_D zy_intAt_14_27 9 (.iand) 1 10 := ⟨by decide +kernel, rfl⟩
theorem zd_14_27_10 : zz_D zy_intAt_14_27 10 (.aload_n 0) 1 11 := ⟨by decide +kernel, rfl⟩
theorem zd_14_27_11 : zz_D zy_intAt_14_27 11 (.getfield 13) 3 14 := ⟨by decide +kernel, rfl⟩
theorem zd_14_27_14 : zz_D zy_intAt_14_27 14 (.iload_n 1) 1 15 := ⟨by decide +kernel, rfl⟩
theorem zd_14_27_15 : zz_D zy_intAt_14_27 15 (.iconst 1) 1 16 := ⟨by decide +kernel, rfl⟩
theorem zd_14_27_16 : zz_D zy_intAt_14_27 16 (.iadd) 1 17 := ⟨by decide +kernel, rfl⟩
theorem zd_14_27_17 : zz_D zy_intAt_14_27 17 (.iaload) 1 18 := ⟨by decide +kernel, rfl⟩
theorem zd_14_27_18 : zz_D zy_intAt_14_27 18 (.sipush 255) 3 21 := ⟨by decide +kernel, rfl⟩
theorem zd_14_27_21 : zz_D zy_intAt_14_27 21 (.iand) 1 22 := ⟨by decide +kernel, rfl⟩
theorem zd_14_27_22 : zz_D zy_intAt_14_27 22 (.bipush 8) 2 24 := ⟨by decide +kernel, rfl⟩
theorem zd_14_27_24 : zz_D zy_intAt_14_27 24 (.ishl) 1 25 := ⟨by decide +kernel, rfl⟩
theorem zd_14_27_25 : zz_D zy_intAt_14_27 25 (.ior) 1 26 := ⟨by decide +kernel, rfl⟩
theorem zd_14_27_26 : zz_D zy_intAt_14_27 26 (.aload_n 0) 1 27 := ⟨by decide +kernel, rfl⟩
theorem zd_14_27_27 : zz_D zy_intAt_14_27 27 (.getfield 13) 3 30 := ⟨by decide +kernel, rfl⟩
theorem zd_14_27_30 : zz_D zy_intAt_14_27 30 (.iload_n 1) 1 31 := ⟨by decide +kernel, rfl⟩
theorem zd_14_27_31 : zz_D zy_intAt_14_27 31 (.iconst 2) 1 32 := ⟨by decide +kernel, rfl⟩
theorem zd_14_27_32 : zz_D zy_intAt_14_27 32 (.iadd) 1 33 := ⟨by decide +kernel, rfl⟩
theorem zd_14_27_33 : zz_D zy_intAt_14_27 33 (.iaload) 1 34 := ⟨by decide +kernel, rfl⟩
theorem zd_14_27_34 : zz_D zy_intAt_14_27 34 (.sipush 255) 3 37 := ⟨by decide +kernel, rfl⟩
theorem zd_14_27_37 : zz_D zy_intAt_14_27 37 (.iand) 1 38 := ⟨by decide +kernel, rfl⟩
theorem zd_14_27_38 : zz_D zy_intAt_14_27 38 (.bipush 16) 2 40 := ⟨by decide +kernel, rfl⟩
theorem zd_14_27_40 : zz_D zy_intAt_14_27 40 (.ishl) 1 41 := ⟨by decide +kernel, rfl⟩
theorem zd_14_27_41 : zz_D zy_intAt_14_27 41 (.ior) 1 42 := ⟨by decide +kernel, rfl⟩
theorem zd_14_27_42 : zz_D zy_intAt_14_27 42 (.aload_n 0) 1 43 := ⟨by decide +kernel, rfl⟩
theorem zd_14_27_43 : zz_D zy_intAt_14_27 43 (.getfield 13) 3 46 := ⟨by decide +kernel, rfl⟩
theorem zd_14_27_46 : zz_D zy_intAt_14_27 46 (.iload_n 1) 1 47 := ⟨by decide +kernel, rfl⟩
theorem zd_14_27_47 : zz_D zy_intAt_14_27 47 (.iconst 3) 1 48 := ⟨by decide +kernel, rfl⟩
theorem zd_14_27_48 : zz_D zy_intAt_14_27 48 (.iadd) 1 49 := ⟨by decide +kernel, rfl⟩
theorem zd_14_27_49 : zz_D zy_intAt_14_27 49 (.iaload) 1 50 := ⟨by decide +kernel, rfl⟩
theorem zd_14_27_50 : zz_D zy_intAt_14_27 50 (.bipush 24) 2 52 := ⟨by decide +kernel, rfl⟩
theorem zd_14_27_52 : zz_D zy_intAt_14_27 52 (.ishl) 1 53 := ⟨by decide +kernel, rfl⟩
theorem zd_14_27_53 : zz_D zy_intAt_14_27 53 (.ior) 1 54 := ⟨by decide +kernel, rfl⟩
theorem zd_14_27_54 : zz_D zy_intAt_14_27 54 (.ireturn) 1 55 := ⟨by decide +kernel, rfl⟩
-- TensorForgeModel intAt (I)I
abbrev zr_intAt_14_27 : Room := { frames := 0, cells := 0, slots := 0, locals := 0 }
def zp_intAt_14_27 (p0 : Int) (S0 : zz_S) : Int → zz_S → Prop := fun r S => S0 = S ∧ ((-2147483648) ≤ r ∧ r ≤ 2147483647)
theorem zc_intAt_14_27 {g : mm_G} {l : Launch} (p0 : Int) (S0 : zz_S) (n : Nat) (hn : zz_end ≤ n) (G_S0 : zz_G S0) (hp0 : 0 ≤ p0 ∧ p0 ≤ 4092) : mm_Met g l zy_intAt_14_27 zr_intAt_14_27 [.ref 1079, zi p0] (zz_M S0 n) n (zz_QI n (zp_intAt_14_27 p0 S0)) := by
  refine zz_enter (by decide) (Nat.le_of_ble_eq_true rfl) (zz_less (ls1 := [some (.ref 1079), some (zi p0)]) ⟨rfl, ⟨rfl, trivial⟩⟩ ?_)
  refine zz_aload_n (x := 1079) rfl zd_14_27_0 ?_
  refine zz_getr (kd := 0) (z := 1080) zd_14_27_1 zf_Md_13 zT_1079 rfl (zz_ltn hn rfl) (zz_G.eq G_S0 1079 2 1080 rfl rfl) (by decide) 1080 rfl ?_
  refine zz_iload_n (x := p0) rfl zd_14_27_4 ?_
  have g1 := zz_G.r G_S0 1080 p0.toNat (-2147483648) 2147483647 rfl rfl
  refine zz_iald (z := S0 1080 p0.toNat) zd_14_27_5 zT_1080 rfl (zz_ltn hn rfl) (by decide) (by omega) rfl ?_
  refine zz_sipush (by decide) zd_14_27_6 ?_
  refine zz_iand (by omega) (by omega) zd_14_27_9 (fun v2 hv2 av2 bv2 ev2 => ?_)
  refine zz_aload_n (x := 1079) rfl zd_14_27_10 ?_
  refine zz_getr (kd := 0) (z := 1080) zd_14_27_11 zf_Md_13 zT_1079 rfl (zz_ltn hn rfl) (zz_G.eq G_S0 1079 2 1080 rfl rfl) (by decide) 1080 rfl ?_
  refine zz_iload_n (x := p0) rfl zd_14_27_14 ?_
  refine zz_iconst zd_14_27_15 ?_
  refine zz_iadd zd_14_27_16 ?_
  have g3 := zz_G.r G_S0 1080 ((p0 + 1).toNat) (-2147483648) 2147483647 rfl rfl
  refine zz_iald (z := S0 1080 ((p0 + 1).toNat)) zd_14_27_17 zT_1080 rfl (zz_ltn hn rfl) (by decide) (by omega) rfl ?_
  refine zz_sipush (by decide) zd_14_27_18 ?_
  refine zz_iand (by omega) (by omega) zd_14_27_21 (fun v4 hv4 av4 bv4 ev4 => ?_)
  refine zz_bipush (by decide) zd_14_27_22 ?_
  refine zz_ishl zd_14_27_24 (fun v5 hv5 ev5 => ?_)
  refine zz_ior (by omega) (by omega) zd_14_27_25 (fun v6 hv6 av6 ev6 => ?_)
  refine zz_aload_n (x := 1079) rfl zd_14_27_26 ?_
  refine zz_getr (kd := 0) (z := 1080) zd_14_27_27 zf_Md_13 zT_1079 rfl (zz_ltn hn rfl) (zz_G.eq G_S0 1079 2 1080 rfl rfl) (by decide) 1080 rfl ?_
  refine zz_iload_n (x := p0) rfl zd_14_27_30 ?_
  refine zz_iconst zd_14_27_31 ?_
  refine zz_iadd zd_14_27_32 ?_
  have g7 := zz_G.r G_S0 1080 ((p0 + 2).toNat) (-2147483648) 2147483647 rfl rfl
  refine zz_iald (z := S0 1080 ((p0 + 2).toNat)) zd_14_27_33 zT_1080 rfl (zz_ltn hn rfl) (by decide) (by omega) rfl ?_
  refine zz_sipush (by decide) zd_14_27_34 ?_
  refine zz_iand (by omega) (by omega) zd_14_27_37 (fun v8 hv8 av8 bv8 ev8 => ?_)
  refine zz_bipush (by decide) zd_14_27_38 ?_
  refine zz_ishl zd_14_27_40 (fun v9 hv9 ev9 => ?_)
  refine zz_ior (by omega) (by omega) zd_14_27_41 (fun v10 hv10 av10 ev10 => ?_)
  refine zz_aload_n (x := 1079) rfl zd_14_27_42 ?_
  refine zz_getr (kd := 0) (z := 1080) zd_14_27_43 zf_Md_13 zT_1079 rfl (zz_ltn hn rfl) (zz_G.eq G_S0 1079 2 1080 rfl rfl) (by decide) 1080 rfl ?_
  refine zz_iload_n (x := p0) rfl zd_14_27_46 ?_
  refine zz_iconst zd_14_27_47 ?_
  refine zz_iadd zd_14_27_48 ?_
  have g11 := zz_G.r G_S0 1080 ((p0 + 3).toNat) (-2147483648) 2147483647 rfl rfl
  refine zz_iald (z := S0 1080 ((p0 + 3).toNat)) zd_14_27_49 zT_1080 rfl (zz_ltn hn rfl) (by decide) (by omega) rfl ?_
  refine zz_bipush (by decide) zd_14_27_50 ?_
  refine zz_ishl zd_14_27_52 (fun v12 hv12 ev12 => ?_)
  refine zz_ior (by omega) (by omega) zd_14_27_53 (fun v13 hv13 av13 ev13 => ?_)
  exact zz_iret zd_14_27_54 rfl (Nat.zero_le _) (Nat.zero_le _) ⟨_, _, rfl, rfl, by omega⟩
abbrev zy_cycles_14_30 : mm_Y := (⟨"TensorForgeModel", "cycles", "()I"⟩, prog_14_method_30_code, 2, (some .int))
theorem zyw_cycles_14_30 : mm_Yw zy_cycles_14_30 0 := ⟨mm_tb_1 1971 (by decide +kernel) rfl, mm_tb_1 12 (by decide +kernel) rfl, ⟨by decide, by decide⟩, by decide +kernel⟩
theorem zd_14_30_0 : zz_D zy_cycles_14_30 0 (.aload_n 0) 1 1 := ⟨by decide +kernel, rfl⟩
theorem zd_14_30_1 : zz_D zy_cycles_14_30 1 (.getfield 36) 3 4 := ⟨by decide +kernel, rfl⟩
theorem zd_14_30_4 : zz_D zy_cycles_14_30 4 (.bipush 6) 2 6 := ⟨by decide +kernel, rfl⟩
theorem zd_14_30_6 : zz_D zy_cycles_14_30 6 (.iaload) 1 7 := ⟨by decide +kernel, rfl⟩
theorem zd_14_30_7 : zz_D zy_cycles_14_30 7 (.aload_n 0) 1 8 := ⟨by decide +kernel, rfl⟩
theorem zd_14_30_8 : zz_D zy_cycles_14_30 8 (.getfield 36) 3 11 := ⟨by decide +kernel, rfl⟩
theorem zd_14_30_11 : zz_D zy_cycles_14_30 11 (.bipush 7) 2 13 := ⟨by decide +kernel, rfl⟩
theorem zd_14_30_13 : zz_D zy_cycles_14_30 13 (.iaload) 1 14 := ⟨by decide +kernel, rfl⟩
theorem zd_14_30_14 : zz_D zy_cycles_14_30 14 (.imul) 1 15 := ⟨by decide +kernel, rfl⟩
theorem zd_14_30_15 : zz_D zy_cycles_14_30 15 (.istore_n 1) 1 16 := ⟨by decide +kernel, rfl⟩
theorem zd_14_30_16 : zz_D zy_cycles_14_30 16 (.aload_n 0) 1 17 := ⟨by decide +kernel, rfl⟩
theorem zd_14_30_17 : zz_D zy_cycles_14_30 17 (.getfield 36) 3 20 := ⟨by decide +kernel, rfl⟩
theorem zd_14_30_20 : zz_D zy_cycles_14_30 20 (.iconst 0) 1 21 := ⟨by decide +kernel, rfl⟩
theorem zd_14_30_21 : zz_D zy_cycles_14_30 21 (.iaload) 1 22 := ⟨by decide +kernel, rfl⟩
theorem zd_14_30_22 : zz_D zy_cycles_14_30 22 (.bipush 9) 2 24 := ⟨by decide +kernel, rfl⟩
theorem zd_14_30_24 : zz_B zy_cycles_14_30 24 (Instr.if_icmp .ne) 31 27 := ⟨7, by decide +kernel, rfl, rfl⟩
theorem zd_14_30_31 : zz_D zy_cycles_14_30 31 (.aload_n 0) 1 32 := ⟨by decide +kernel, rfl⟩
theorem zd_14_30_32 : zz_D zy_cycles_14_30 32 (.getfield 36) 3 35 := ⟨by decide +kernel, rfl⟩
theorem zd_14_30_35 : zz_D zy_cycles_14_30 35 (.iconst 0) 1 36 := ⟨by decide +kernel, rfl⟩
theorem zd_14_30_36 : zz_D zy_cycles_14_30 36 (.iaload) 1 37 := ⟨by decide +kernel, rfl⟩
theorem zd_14_30_37 : zz_D zy_cycles_14_30 37 (.iconst 5) 1 38 := ⟨by decide +kernel, rfl⟩
theorem zd_14_30_38 : zz_B zy_cycles_14_30 38 (Instr.if_icmp .ne) 60 41 := ⟨22, by decide +kernel, rfl, rfl⟩
theorem zd_14_30_60 : zz_D zy_cycles_14_30 60 (.aload_n 0) 1 61 := ⟨by decide +kernel, rfl⟩
theorem zd_14_30_61 : zz_D zy_cycles_14_30 61 (.getfield 36) 3 64 := ⟨by decide +kernel, rfl⟩
theorem zd_14_30_64 : zz_D zy_cycles_14_30 64 (.iconst 0) 1 65 := ⟨by decide +kernel, rfl⟩
theorem zd_14_30_65 : zz_D zy_cycles_14_30 65 (.iaload) 1 66 := ⟨by decide +kernel, rfl⟩
theorem zd_14_30_66 : zz_D zy_cycles_14_30 66 (.iconst 4) 1 67 := ⟨by decide +kernel, rfl⟩
theorem zd_14_30_67 : zz_B zy_cycles_14_30 67 (Instr.if_icmp .ne) 76 70 := ⟨9, by decide +kernel, rfl, rfl⟩
theorem zd_14_30_76 : zz_D zy_cycles_14_30 76 (.iload_n 1) 1 77 := ⟨by decide +kernel, rfl⟩
theorem zd_14_30_77 : zz_D zy_cycles_14_30 77 (.ireturn) 1 78 := ⟨by decide +kernel, rfl⟩
theorem zd_14_30_70 : zz_D zy_cycles_14_30 70 (.iconst 4) 1 71 := ⟨by decide +kernel, rfl⟩
theorem zd_14_30_71 : zz_D zy_cycles_14_30 71 (.iload_n 1) 1 72 := ⟨by decide +kernel, rfl⟩
theorem zd_14_30_72 : zz_D zy_cycles_14_30 72 (.imul) 1 73 := ⟨by decide +kernel, rfl⟩
theorem zd_14_30_73 : zz_B zy_cycles_14_30 73 Instr.goto 77 76 := ⟨4, by decide +kernel, rfl, rfl⟩
theorem zd_14_30_41 : zz_D zy_cycles_14_30 41 (.aload_n 0) 1 42 := ⟨by decide +kernel, rfl⟩
theorem zd_14_30_42 : zz_D zy_cycles_14_30 42 (.getfield 36) 3 45 := ⟨by decide +kernel, rfl⟩
theorem zd_14_30_45 : zz_D zy_cycles_14_30 45 (.bipush 6) 2 47 := ⟨by decide +kernel, rfl⟩
theorem zd_14_30_47 : zz_D zy_cycles_14_30 47 (.iaload) 1 48 := ⟨by decide +kernel, rfl⟩
theorem zd_14_30_48 : zz_D zy_cycles_14_30 48 (.iconst 2) 1 49 := ⟨by decide +kernel, rfl⟩
theorem zd_14_30_49 : zz_D zy_cycles_14_30 49 (.aload_n 0) 1 50 := ⟨by decide +kernel, rfl⟩
theorem zd_14_30_50 : zz_D zy_cycles_14_30 50 (.getfield 7) 3 53 := ⟨by decide +kernel, rfl⟩
theorem zd_14_30_53 : zz_D zy_cycles_14_30 53 (.imul) 1 54 := ⟨by decide +kernel, rfl⟩
theorem zd_14_30_54 : zz_D zy_cycles_14_30 54 (.iadd) 1 55 := ⟨by decide +kernel, rfl⟩
theorem zd_14_30_55 : zz_D zy_cycles_14_30 55 (.iconst 2) 1 56 := ⟨by decide +kernel, rfl⟩
theorem zd_14_30_56 : zz_D zy_cycles_14_30 56 (.isub) 1 57 := ⟨by decide +kernel, rfl⟩
theorem zd_14_30_57 : zz_B zy_cycles_14_30 57 Instr.goto 77 60 := ⟨20, by decide +kernel, rfl, rfl⟩
theorem zd_14_30_27 : zz_D zy_cycles_14_30 27 (.iconst 1) 1 28 := ⟨by decide +kernel, rfl⟩
theorem zd_14_30_28 : zz_B zy_cycles_14_30 28 Instr.goto 77 31 := ⟨49, by decide +kernel, rfl, rfl⟩
-- TensorForgeModel cycles ()I
abbrev zr_cycles_14_30 : Room := { frames := 0, cells := 0, slots := 0, locals := 0 }
def zp_cycles_14_30  (S0 : zz_S) : Int → zz_S → Prop := fun r S => S0 = S ∧ ((-2147483648) ≤ r ∧ r ≤ 2147483647)
theorem zc_cycles_14_30 {g : mm_G} {l : Launch}  (S0 : zz_S) (n : Nat) (hn : zz_end ≤ n) (G_S0 : zz_G S0)  : mm_Met g l zy_cycles_14_30 zr_cycles_14_30 [.ref 1079] (zz_M S0 n) n (zz_QI n (zp_cycles_14_30  S0)) := by
  refine zz_enter (by decide) (Nat.le_of_ble_eq_true rfl) (zz_less (ls1 := [some (.ref 1079)]) ⟨rfl, trivial⟩ ?_)
  refine zz_aload_n (x := 1079) rfl zd_14_30_0 ?_
  refine zz_getr (kd := 0) (z := 1087) zd_14_30_1 zf_Md_36 zT_1079 rfl (zz_ltn hn rfl) (zz_G.eq G_S0 1079 11 1087 rfl rfl) (by decide) 1087 rfl ?_
  refine zz_bipush (by decide) zd_14_30_4 ?_
  have g1 := zz_G.r G_S0 1087 6 (-2147483648) 2147483647 rfl rfl
  refine zz_iald (z := S0 1087 6) zd_14_30_6 zT_1087 rfl (zz_ltn hn rfl) (by decide) (by decide) rfl ?_
  refine zz_aload_n (x := 1079) rfl zd_14_30_7 ?_
  refine zz_getr (kd := 0) (z := 1087) zd_14_30_8 zf_Md_36 zT_1079 rfl (zz_ltn hn rfl) (zz_G.eq G_S0 1079 11 1087 rfl rfl) (by decide) 1087 rfl ?_
  refine zz_bipush (by decide) zd_14_30_11 ?_
  have g2 := zz_G.r G_S0 1087 7 (-2147483648) 2147483647 rfl rfl
  refine zz_iald (z := S0 1087 7) zd_14_30_13 zT_1087 rfl (zz_ltn hn rfl) (by decide) (by decide) rfl ?_
  refine zz_imul zd_14_30_14 ?_
  refine zz_nrm (fun v3 hv3 ev3 => ?_)
  refine zz_istore_n [some (.ref 1079), some (zi v3)] zd_14_30_15 (by decide) rfl ?_
  refine zz_aload_n (x := 1079) rfl zd_14_30_16 ?_
  refine zz_getr (kd := 0) (z := 1087) zd_14_30_17 zf_Md_36 zT_1079 rfl (zz_ltn hn rfl) (zz_G.eq G_S0 1079 11 1087 rfl rfl) (by decide) 1087 rfl ?_
  refine zz_iconst zd_14_30_20 ?_
  have g4 := zz_G.r G_S0 1087 0 (-2147483648) 2147483647 rfl rfl
  refine zz_iald (z := S0 1087 0) zd_14_30_21 zT_1087 rfl (zz_ltn hn rfl) (by decide) (by decide) rfl ?_
  refine zz_bipush (by decide) zd_14_30_22 ?_
  refine zz_icmp_ne (by omega) (by omega) zd_14_30_24 (fun c5 => ?_) (fun c5 => ?_)
  · refine zz_aload_n (x := 1079) rfl zd_14_30_31 ?_
    refine zz_getr (kd := 0) (z := 1087) zd_14_30_32 zf_Md_36 zT_1079 rfl (zz_ltn hn rfl) (zz_G.eq G_S0 1079 11 1087 rfl rfl) (by decide) 1087 rfl ?_
    refine zz_iconst zd_14_30_35 ?_
    refine zz_iald (z := S0 1087 0) zd_14_30_36 zT_1087 rfl (zz_ltn hn rfl) (by decide) (by decide) rfl ?_
    refine zz_iconst zd_14_30_37 ?_
    refine zz_icmp_ne (by omega) (by omega) zd_14_30_38 (fun c6 => ?_) (fun c6 => ?_)
    · refine zz_aload_n (x := 1079) rfl zd_14_30_60 ?_
      refine zz_getr (kd := 0) (z := 1087) zd_14_30_61 zf_Md_36 zT_1079 rfl (zz_ltn hn rfl) (zz_G.eq G_S0 1079 11 1087 rfl rfl) (by decide) 1087 rfl ?_
      refine zz_iconst zd_14_30_64 ?_
      refine zz_iald (z := S0 1087 0) zd_14_30_65 zT_1087 rfl (zz_ltn hn rfl) (by decide) (by decide) rfl ?_
      refine zz_iconst zd_14_30_66 ?_
      refine zz_icmp_ne (by omega) (by omega) zd_14_30_67 (fun c7 => ?_) (fun c7 => ?_)
      · refine zz_iload_n (x := v3) rfl zd_14_30_76 ?_
        exact zz_iret zd_14_30_77 rfl (Nat.zero_le _) (Nat.zero_le _) ⟨_, _, rfl, rfl, by omega⟩
      · refine zz_iconst zd_14_30_70 ?_
        refine zz_iload_n (x := v3) rfl zd_14_30_71 ?_
        refine zz_imul zd_14_30_72 ?_
        refine zz_nrm (fun v8 hv8 ev8 => ?_)
        refine zz_goto zd_14_30_73 ?_
        exact zz_iret zd_14_30_77 rfl (Nat.zero_le _) (Nat.zero_le _) ⟨_, _, rfl, rfl, by omega⟩
    · refine zz_aload_n (x := 1079) rfl zd_14_30_41 ?_
      refine zz_getr (kd := 0) (z := 1087) zd_14_30_42 zf_Md_36 zT_1079 rfl (zz_ltn hn rfl) (zz_G.eq G_S0 1079 11 1087 rfl rfl) (by decide) 1087 rfl ?_
      refine zz_bipush (by decide) zd_14_30_45 ?_
      refine zz_iald (z := S0 1087 6) zd_14_30_47 zT_1087 rfl (zz_ltn hn rfl) (by decide) (by decide) rfl ?_
      refine zz_iconst zd_14_30_48 ?_
      refine zz_aload_n (x := 1079) rfl zd_14_30_49 ?_
      have g9 := zz_G.r G_S0 1079 1 2 8 rfl rfl
      refine zz_geti (z := S0 1079 1) zd_14_30_50 zf_Md_7 zT_1079 rfl (zz_ltn hn rfl) rfl ?_
      refine zz_imul zd_14_30_53 ?_
      refine zz_iadd zd_14_30_54 ?_
      refine zz_nrm (fun v10 hv10 ev10 => ?_)
      refine zz_iconst zd_14_30_55 ?_
      refine zz_isub zd_14_30_56 ?_
      refine zz_nrm (fun v11 hv11 ev11 => ?_)
      refine zz_goto zd_14_30_57 ?_
      exact zz_iret zd_14_30_77 rfl (Nat.zero_le _) (Nat.zero_le _) ⟨_, _, rfl, rfl, by omega⟩
  · refine zz_iconst zd_14_30_27 ?_
    refine zz_goto zd_14_30_28 ?_
    exact zz_iret zd_14_30_77 rfl (Nat.zero_le _) (Nat.zero_le _) ⟨_, _, rfl, rfl, by omega⟩
abbrev zy_popped_14_31 : mm_Y := (⟨"TensorForgeModel", "popped", "(IZ)I"⟩, prog_14_method_31_code, 2, (some .int))
theorem zyw_popped_14_31 : mm_Yw zy_popped_14_31 2 := ⟨mm_tb_1 1956 (by decide +kernel) rfl, mm_tb_1 12 (by decide +kernel) rfl, ⟨by decide, by decide⟩, by decide +kernel⟩
theorem zd_14_31_0 : zz_D zy_popped_14_31 0 (.iload_n 1) 1 1 := ⟨by decide +kernel, rfl⟩
theorem zd_14_31_1 : zz_B zy_popped_14_31 1 (Instr.ifCond .eq) 16 4 := ⟨15, by decide +kernel, rfl, rfl⟩
theorem zd_14_31_16 : zz_D zy_popped_14_31 16 (.iload_n 0) 1 17 := ⟨by decide +kernel, rfl⟩
theorem zd_14_31_17 : zz_D zy_popped_14_31 17 (.iconst 1) 1 18 := ⟨by decide +kernel, rfl⟩
theorem zd_14_31_18 : zz_B zy_popped_14_31 18 (Instr.if_icmp .ne) 25 21 := ⟨7, by decide +kernel, rfl, rfl⟩
theorem zd_14_31_25 : zz_D zy_popped_14_31 25 (.iconst 2) 1 26 := ⟨by decide +kernel, rfl⟩
theorem zd_14_31_26 : zz_D zy_popped_14_31 26 (.ireturn) 1 27 := ⟨by decide +kernel, rfl⟩
theorem zd_14_31_21 : zz_D zy_popped_14_31 21 (.iconst 0) 1 22 := ⟨by decide +kernel, rfl⟩
theorem zd_14_31_22 : zz_B zy_popped_14_31 22 Instr.goto 26 25 := ⟨4, by decide +kernel, rfl, rfl⟩
theorem zd_14_31_4 : zz_D zy_popped_14_31 4 (.iload_n 0) 1 5 := ⟨by decide +kernel, rfl⟩
theorem zd_14_31_5 : zz_B zy_popped_14_31 5 (Instr.ifCond .ne) 12 8 := ⟨7, by decide +kernel, rfl, rfl⟩
theorem zd_14_31_12 : zz_D zy_popped_14_31 12 (.iconst 3) 1 13 := ⟨by decide +kernel, rfl⟩
theorem zd_14_31_13 : zz_B zy_popped_14_31 13 Instr.goto 26 16 := ⟨13, by decide +kernel, rfl, rfl⟩
theorem zd_14_31_8 : zz_D zy_popped_14_31 8 (.iconst 1) 1 9 := ⟨by decide +kernel, rfl⟩
theorem zd_14_31_9 : zz_B zy_popped_14_31 9 Instr.goto 26 12 := ⟨17, by decide +kernel, rfl, rfl⟩
-- TensorForgeModel popped (IZ)I
abbrev zr_popped_14_31 : Room := { frames := 0, cells := 0, slots := 0, locals := 0 }
def zp_popped_14_31 (p0 : Int) (p1 : Int) (S0 : zz_S) : Int → zz_S → Prop := fun r S => S0 = S ∧ (0 ≤ r ∧ r ≤ 3)
theorem zc_popped_14_31 {g : mm_G} {l : Launch} (p0 : Int) (p1 : Int) (S0 : zz_S) (n : Nat) (hn : zz_end ≤ n) (G_S0 : zz_G S0) (hp0 : (-2147483648) ≤ p0 ∧ p0 ≤ 2147483647) (hp1 : 0 ≤ p1 ∧ p1 ≤ 1) : mm_Met g l zy_popped_14_31 zr_popped_14_31 [zi p0, zi p1] (zz_M S0 n) n (zz_QI n (zp_popped_14_31 p0 p1 S0)) := by
  refine zz_enter (by decide) (Nat.le_of_ble_eq_true rfl) (zz_less (ls1 := [some (zi p0), some (zi p1)]) ⟨rfl, ⟨rfl, trivial⟩⟩ ?_)
  refine zz_iload_n (x := p1) rfl zd_14_31_0 ?_
  refine zz_if_eq (by omega) zd_14_31_1 (fun c1 => ?_) (fun c1 => ?_)
  · refine zz_iload_n (x := p0) rfl zd_14_31_16 ?_
    refine zz_iconst zd_14_31_17 ?_
    refine zz_icmp_ne (by omega) (by omega) zd_14_31_18 (fun c2 => ?_) (fun c2 => ?_)
    · refine zz_iconst zd_14_31_25 ?_
      exact zz_iret zd_14_31_26 rfl (Nat.zero_le _) (Nat.zero_le _) ⟨_, _, rfl, rfl, by omega⟩
    · refine zz_iconst zd_14_31_21 ?_
      refine zz_goto zd_14_31_22 ?_
      exact zz_iret zd_14_31_26 rfl (Nat.zero_le _) (Nat.zero_le _) ⟨_, _, rfl, rfl, by omega⟩
  · refine zz_iload_n (x := p0) rfl zd_14_31_4 ?_
    refine zz_if_ne (by omega) zd_14_31_5 (fun c3 => ?_) (fun c3 => ?_)
    · refine zz_iconst zd_14_31_12 ?_
      refine zz_goto zd_14_31_13 ?_
      exact zz_iret zd_14_31_26 rfl (Nat.zero_le _) (Nat.zero_le _) ⟨_, _, rfl, rfl, by omega⟩
    · refine zz_iconst zd_14_31_8 ?_
      refine zz_goto zd_14_31_9 ?_
      exact zz_iret zd_14_31_26 rfl (Nat.zero_le _) (Nat.zero_le _) ⟨_, _, rfl, rfl, by omega⟩
abbrev zy_pushes_14_32 : mm_Y := (⟨"TensorForgeModel", "pushes", "(IZ)I"⟩, prog_14_method_32_code, 2, (some .int))
theorem zyw_pushes_14_32 : mm_Yw zy_pushes_14_32 2 := ⟨mm_tb_1 1945 (by decide +kernel) rfl, mm_tb_1 12 (by decide +kernel) rfl, ⟨by decide, by decide⟩, by decide +kernel⟩
theorem zd_14_32_0 : zz_D zy_pushes_14_32 0 (.iload_n 1) 1 1 := ⟨by decide +kernel, rfl⟩
theorem zd_14_32_1 : zz_B zy_pushes_14_32 1 (Instr.ifCond .eq) 16 4 := ⟨15, by decide +kernel, rfl, rfl⟩
theorem zd_14_32_16 : zz_D zy_pushes_14_32 16 (.iload_n 0) 1 17 := ⟨by decide +kernel, rfl⟩
theorem zd_14_32_17 : zz_D zy_pushes_14_32 17 (.iconst 1) 1 18 := ⟨by decide +kernel, rfl⟩
theorem zd_14_32_18 : zz_B zy_pushes_14_32 18 (Instr.if_icmp .ne) 25 21 := ⟨7, by decide +kernel, rfl, rfl⟩
theorem zd_14_32_25 : zz_D zy_pushes_14_32 25 (.iconst 3) 1 26 := ⟨by decide +kernel, rfl⟩
theorem zd_14_32_26 : zz_D zy_pushes_14_32 26 (.ireturn) 1 27 := ⟨by decide +kernel, rfl⟩
theorem zd_14_32_21 : zz_D zy_pushes_14_32 21 (.iconst 1) 1 22 := ⟨by decide +kernel, rfl⟩
theorem zd_14_32_22 : zz_B zy_pushes_14_32 22 Instr.goto 26 25 := ⟨4, by decide +kernel, rfl, rfl⟩
theorem zd_14_32_4 : zz_D zy_pushes_14_32 4 (.iload_n 0) 1 5 := ⟨by decide +kernel, rfl⟩
theorem zd_14_32_5 : zz_B zy_pushes_14_32 5 (Instr.ifCond .ne) 12 8 := ⟨7, by decide +kernel, rfl, rfl⟩
theorem zd_14_32_12 : zz_D zy_pushes_14_32 12 (.iconst 2) 1 13 := ⟨by decide +kernel, rfl⟩
theorem zd_14_32_13 : zz_B zy_pushes_14_32 13 Instr.goto 26 16 := ⟨13, by decide +kernel, rfl, rfl⟩
theorem zd_14_32_8 : zz_D zy_pushes_14_32 8 (.iconst 0) 1 9 := ⟨by decide +kernel, rfl⟩
theorem zd_14_32_9 : zz_B zy_pushes_14_32 9 Instr.goto 26 12 := ⟨17, by decide +kernel, rfl, rfl⟩
-- TensorForgeModel pushes (IZ)I
abbrev zr_pushes_14_32 : Room := { frames := 0, cells := 0, slots := 0, locals := 0 }
def zp_pushes_14_32 (p0 : Int) (p1 : Int) (S0 : zz_S) : Int → zz_S → Prop := fun r S => S0 = S ∧ (0 ≤ r ∧ r ≤ 3)
theorem zc_pushes_14_32 {g : mm_G} {l : Launch} (p0 : Int) (p1 : Int) (S0 : zz_S) (n : Nat) (hn : zz_end ≤ n) (G_S0 : zz_G S0) (hp0 : (-2147483648) ≤ p0 ∧ p0 ≤ 2147483647) (hp1 : 0 ≤ p1 ∧ p1 ≤ 1) : mm_Met g l zy_pushes_14_32 zr_pushes_14_32 [zi p0, zi p1] (zz_M S0 n) n (zz_QI n (zp_pushes_14_32 p0 p1 S0)) := by
  refine zz_enter (by decide) (Nat.le_of_ble_eq_true rfl) (zz_less (ls1 := [some (zi p0), some (zi p1)]) ⟨rfl, ⟨rfl, trivial⟩⟩ ?_)
  refine zz_iload_n (x := p1) rfl zd_14_32_0 ?_
  refine zz_if_eq (by omega) zd_14_32_1 (fun c1 => ?_) (fun c1 => ?_)
  · refine zz_iload_n (x := p0) rfl zd_14_32_16 ?_
    refine zz_iconst zd_14_32_17 ?_
    refine zz_icmp_ne (by omega) (by omega) zd_14_32_18 (fun c2 => ?_) (fun c2 => ?_)
    · refine zz_iconst zd_14_32_25 ?_
      exact zz_iret zd_14_32_26 rfl (Nat.zero_le _) (Nat.zero_le _) ⟨_, _, rfl, rfl, by omega⟩
    · refine zz_iconst zd_14_32_21 ?_
      refine zz_goto zd_14_32_22 ?_
      exact zz_iret zd_14_32_26 rfl (Nat.zero_le _) (Nat.zero_le _) ⟨_, _, rfl, rfl, by omega⟩
  · refine zz_iload_n (x := p0) rfl zd_14_32_4 ?_
    refine zz_if_ne (by omega) zd_14_32_5 (fun c3 => ?_) (fun c3 => ?_)
    · refine zz_iconst zd_14_32_12 ?_
      refine zz_goto zd_14_32_13 ?_
      exact zz_iret zd_14_32_26 rfl (Nat.zero_le _) (Nat.zero_le _) ⟨_, _, rfl, rfl, by omega⟩
    · refine zz_iconst zd_14_32_8 ?_
      refine zz_goto zd_14_32_9 ?_
      exact zz_iret zd_14_32_26 rfl (Nat.zero_le _) (Nat.zero_le _) ⟨_, _, rfl, rfl, by omega⟩
abbrev zy_pushAll_14_33 : mm_Y := (⟨"TensorForgeModel", "pushAll", "(I)V"⟩, prog_14_method_33_code, 4, none)
theorem zyw_pushAll_14_33 : mm_Yw zy_pushAll_14_33 1 := ⟨mm_tb_1 1942 (by decide +kernel) rfl, mm_tb_1 12 (by decide +kernel) rfl, ⟨by decide, by decide⟩, by decide +kernel⟩
theorem zd_14_33_0 : zz_D zy_pushAll_14_33 0 (.iconst 0) 1 1 := ⟨by decide +kernel, rfl⟩
theorem zd_14_33_1 : zz_D zy_pushAll_14_33 1 (.istore_n 2) 1 2 := ⟨by decide +kernel, rfl⟩
theorem zd_14_33_2 : zz_D zy_pushAll_14_33 2 (.iload_n 2) 1 3 := ⟨by decide +kernel, rfl⟩
theorem zd_14_33_3 : zz_D zy_pushAll_14_33 3 (.iconst 3) 1 4 := ⟨by decide +kernel, rfl⟩
theorem zd_14_33_4 : zz_B zy_pushAll_14_33 4 (Instr.if_icmp .ge) 108 7 := ⟨104, by decide +kernel, rfl, rfl⟩
theorem zd_14_33_7 : zz_D zy_pushAll_14_33 7 (.aload_n 0) 1 8 := ⟨by decide +kernel, rfl⟩
theorem zd_14_33_8 : zz_D zy_pushAll_14_33 8 (.getfield 70) 3 11 := ⟨by decide +kernel, rfl⟩
theorem zf_Md_70 : mm_Fl "TensorForgeModel" 70 11 25 (.array .int) true := ⟨R_Md, F_Md, 69, t_Md, rfl, i_Md, by decide, mm_tb_1 1636 (by decide +kernel) rfl, rfl, t_Md_ok, n_Md, rfl, by decide +kernel⟩
theorem zd_14_33_11 : zz_D zy_pushAll_14_33 11 (.iload_n 2) 1 12 := ⟨by decide +kernel, rfl⟩
theorem zd_14_33_12 : zz_D zy_pushAll_14_33 12 (.iaload) 1 13 := ⟨by decide +kernel, rfl⟩
theorem zd_14_33_13 : zz_D zy_pushAll_14_33 13 (.istore_n 3) 1 14 := ⟨by decide +kernel, rfl⟩
theorem zd_14_33_14 : zz_D zy_pushAll_14_33 14 (.iload_n 3) 1 15 := ⟨by decide +kernel, rfl⟩
theorem zd_14_33_15 : zz_B zy_pushAll_14_33 15 (Instr.ifCond .lt) 102 18 := ⟨87, by decide +kernel, rfl, rfl⟩
theorem zd_14_33_102 : zz_D zy_pushAll_14_33 102 (.iinc 2 1) 3 105 := ⟨by decide +kernel, rfl⟩
theorem zd_14_33_105 : zz_B zy_pushAll_14_33 105 Instr.goto 2 108 := ⟨(-103), by decide +kernel, rfl, rfl⟩
theorem zd_14_33_18 : zz_D zy_pushAll_14_33 18 (.aload_n 0) 1 19 := ⟨by decide +kernel, rfl⟩
theorem zd_14_33_19 : zz_D zy_pushAll_14_33 19 (.getfield 60) 3 22 := ⟨by decide +kernel, rfl⟩
theorem zf_Md_60 : mm_Fl "TensorForgeModel" 60 11 22 (.array .int) true := ⟨R_Md, F_Md, 69, t_Md, rfl, i_Md, by decide, mm_tb_1 1633 (by decide +kernel) rfl, rfl, t_Md_ok, n_Md, rfl, by decide +kernel⟩
theorem zd_14_33_22 : zz_D zy_pushAll_14_33 22 (.iload_n 3) 1 23 := ⟨by decide +kernel, rfl⟩
theorem zd_14_33_23 : zz_D zy_pushAll_14_33 23 (.iaload) 1 24 := ⟨by decide +kernel, rfl⟩
theorem zd_14_33_24 : zz_D zy_pushAll_14_33 24 (.iload_n 1) 1 25 := ⟨by decide +kernel, rfl⟩
theorem zd_14_33_25 : zz_B zy_pushAll_14_33 25 (Instr.if_icmp .gt) 102 28 := ⟨77, by decide +kernel, rfl, rfl⟩
theorem zd_14_33_28 : zz_D zy_pushAll_14_33 28 (.aload_n 0) 1 29 := ⟨by decide +kernel, rfl⟩
theorem zd_14_33_29 : zz_D zy_pushAll_14_33 29 (.getfield 63) 3 32 := ⟨by decide +kernel, rfl⟩
theorem zf_Md_63 : mm_Fl "TensorForgeModel" 63 11 23 (.array .boolean) true := ⟨R_Md, F_Md, 69, t_Md, rfl, i_Md, by decide, mm_tb_1 1634 (by decide +kernel) rfl, rfl, t_Md_ok, n_Md, rfl, by decide +kernel⟩
theorem zd_14_33_32 : zz_D zy_pushAll_14_33 32 (.iload_n 3) 1 33 := ⟨by decide +kernel, rfl⟩
theorem zd_14_33_33 : zz_D zy_pushAll_14_33 33 (.baload) 1 34 := ⟨by decide +kernel, rfl⟩
theorem zd_14_33_34 : zz_B zy_pushAll_14_33 34 (Instr.ifCond .ne) 102 37 := ⟨68, by decide +kernel, rfl, rfl⟩
theorem zd_14_33_37 : zz_D zy_pushAll_14_33 37 (.aload_n 0) 1 38 := ⟨by decide +kernel, rfl⟩
theorem zd_14_33_38 : zz_D zy_pushAll_14_33 38 (.aload_n 0) 1 39 := ⟨by decide +kernel, rfl⟩
theorem zd_14_33_39 : zz_D zy_pushAll_14_33 39 (.getfield 29) 3 42 := ⟨by decide +kernel, rfl⟩
theorem zd_14_33_42 : zz_D zy_pushAll_14_33 42 (.iload_n 3) 1 43 := ⟨by decide +kernel, rfl⟩
theorem zd_14_33_43 : zz_D zy_pushAll_14_33 43 (.laload) 1 44 := ⟨by decide +kernel, rfl⟩
theorem zd_14_33_44 : zz_D zy_pushAll_14_33 44 (.invokevirtual 234) 3 47 := ⟨by decide +kernel, rfl⟩
theorem zd_14_33_47 : zz_D zy_pushAll_14_33 47 (.aload_n 0) 1 48 := ⟨by decide +kernel, rfl⟩
theorem zd_14_33_48 : zz_D zy_pushAll_14_33 48 (.getfield 63) 3 51 := ⟨by decide +kernel, rfl⟩
theorem zd_14_33_51 : zz_D zy_pushAll_14_33 51 (.iload_n 3) 1 52 := ⟨by decide +kernel, rfl⟩
theorem zd_14_33_52 : zz_D zy_pushAll_14_33 52 (.iconst 1) 1 53 := ⟨by decide +kernel, rfl⟩
theorem zd_14_33_53 : zz_D zy_pushAll_14_33 53 (.bastore) 1 54 := ⟨by decide +kernel, rfl⟩
theorem zd_14_33_54 : zz_D zy_pushAll_14_33 54 (.aload_n 0) 1 55 := ⟨by decide +kernel, rfl⟩
theorem zd_14_33_55 : zz_D zy_pushAll_14_33 55 (.getfield 51) 3 58 := ⟨by decide +kernel, rfl⟩
theorem zf_Md_51 : mm_Fl "TensorForgeModel" 51 11 18 (.array .int) true := ⟨R_Md, F_Md, 69, t_Md, rfl, i_Md, by decide, mm_tb_1 1629 (by decide +kernel) rfl, rfl, t_Md_ok, n_Md, rfl, by decide +kernel⟩
theorem zd_14_33_58 : zz_D zy_pushAll_14_33 58 (.aload_n 0) 1 59 := ⟨by decide +kernel, rfl⟩
theorem zd_14_33_59 : zz_D zy_pushAll_14_33 59 (.getfield 54) 3 62 := ⟨by decide +kernel, rfl⟩
theorem zf_Md_54 : mm_Fl "TensorForgeModel" 54 11 20 (.array .int) true := ⟨R_Md, F_Md, 69, t_Md, rfl, i_Md, by decide, mm_tb_1 1631 (by decide +kernel) rfl, rfl, t_Md_ok, n_Md, rfl, by decide +kernel⟩
theorem zd_14_33_62 : zz_D zy_pushAll_14_33 62 (.iload_n 3) 1 63 := ⟨by decide +kernel, rfl⟩
theorem zd_14_33_63 : zz_D zy_pushAll_14_33 63 (.iaload) 1 64 := ⟨by decide +kernel, rfl⟩
theorem zd_14_33_64 : zz_D zy_pushAll_14_33 64 (.iconst 0) 1 65 := ⟨by decide +kernel, rfl⟩
theorem zd_14_33_65 : zz_D zy_pushAll_14_33 65 (.invokestatic 268) 3 68 := ⟨by decide +kernel, rfl⟩
theorem zk_Md_268 : mm_Sl "TensorForgeModel" 268 2 zy_pushes_14_32 := ⟨zyw_pushes_14_32, mm_tb_1 1943 (by decide +kernel) rfl, mm_tb_1 1944 (by decide +kernel) rfl⟩
theorem zd_14_33_68 : zz_D zy_pushAll_14_33 68 (.dup2) 1 69 := ⟨by decide +kernel, rfl⟩
theorem zd_14_33_69 : zz_D zy_pushAll_14_33 69 (.iaload) 1 70 := ⟨by decide +kernel, rfl⟩
theorem zd_14_33_70 : zz_D zy_pushAll_14_33 70 (.aload_n 0) 1 71 := ⟨by decide +kernel, rfl⟩
theorem zd_14_33_71 : zz_D zy_pushAll_14_33 71 (.getfield 36) 3 74 := ⟨by decide +kernel, rfl⟩
theorem zd_14_33_74 : zz_D zy_pushAll_14_33 74 (.iconst 3) 1 75 := ⟨by decide +kernel, rfl⟩
theorem zd_14_33_75 : zz_D zy_pushAll_14_33 75 (.iaload) 1 76 := ⟨by decide +kernel, rfl⟩
theorem zd_14_33_76 : zz_D zy_pushAll_14_33 76 (.iadd) 1 77 := ⟨by decide +kernel, rfl⟩
theorem zd_14_33_77 : zz_D zy_pushAll_14_33 77 (.iastore) 1 78 := ⟨by decide +kernel, rfl⟩
theorem zd_14_33_78 : zz_D zy_pushAll_14_33 78 (.aload_n 0) 1 79 := ⟨by decide +kernel, rfl⟩
theorem zd_14_33_79 : zz_D zy_pushAll_14_33 79 (.getfield 51) 3 82 := ⟨by decide +kernel, rfl⟩
theorem zd_14_33_82 : zz_D zy_pushAll_14_33 82 (.aload_n 0) 1 83 := ⟨by decide +kernel, rfl⟩
theorem zd_14_33_83 : zz_D zy_pushAll_14_33 83 (.getfield 54) 3 86 := ⟨by decide +kernel, rfl⟩
theorem zd_14_33_86 : zz_D zy_pushAll_14_33 86 (.iload_n 3) 1 87 := ⟨by decide +kernel, rfl⟩
theorem zd_14_33_87 : zz_D zy_pushAll_14_33 87 (.iaload) 1 88 := ⟨by decide +kernel, rfl⟩
theorem zd_14_33_88 : zz_D zy_pushAll_14_33 88 (.iconst 1) 1 89 := ⟨by decide +kernel, rfl⟩
theorem zd_14_33_89 : zz_D zy_pushAll_14_33 89 (.invokestatic 268) 3 92 := ⟨by decide +kernel, rfl⟩
theorem zd_14_33_92 : zz_D zy_pushAll_14_33 92 (.dup2) 1 93 := ⟨by decide +kernel, rfl⟩
theorem zd_14_33_93 : zz_D zy_pushAll_14_33 93 (.iaload) 1 94 := ⟨by decide +kernel, rfl⟩
theorem zd_14_33_94 : zz_D zy_pushAll_14_33 94 (.aload_n 0) 1 95 := ⟨by decide +kernel, rfl⟩
theorem zd_14_33_95 : zz_D zy_pushAll_14_33 95 (.getfield 36) 3 98 := ⟨by decide +kernel, rfl⟩
theorem zd_14_33_98 : zz_D zy_pushAll_14_33 98 (.iconst 4) 1 99 := ⟨by decide +kernel, rfl⟩
theorem zd_14_33_99 : zz_D zy_pushAll_14_33 99 (.iaload) 1 100 := ⟨by decide +kernel, rfl⟩
theorem zd_14_33_100 : zz_D zy_pushAll_14_33 100 (.iadd) 1 101 := ⟨by decide +kernel, rfl⟩
theorem zd_14_33_101 : zz_D zy_pushAll_14_33 101 (.iastore) 1 102 := ⟨by decide +kernel, rfl⟩
theorem zd_14_33_108 : zz_D zy_pushAll_14_33 108 (.return_) 1 109 := ⟨by decide +kernel, rfl⟩
-- TensorForgeModel pushAll (I)V
abbrev zr_pushAll_14_33 : Room := { frames := 3, cells := 0, slots := 0, locals := 49 }
def zp_pushAll_14_33 (p0 : Int) (S0 : zz_S) : zz_S → Prop := fun S => zz_G S ∧ zz_fr [] [1087, 1091, 1095] (fun _ _ => False) S0 S
theorem zb_pushAll_14_33_2 {g : mm_G} {l : Launch} (p0 : Int) (S0 : zz_S) (n : Nat) (hn : zz_end ≤ n) (G_S0 : zz_G S0) (hp0 : (-2147483648) ≤ p0 ∧ p0 ≤ 2147483647) (x2 : Int) (S : zz_S) (G_S : zz_G S) (F_S : zz_fr [] [1087, 1091, 1095] (fun _ _ => False) S0 S) (i2_0 : 0 ≤ x2 ∧ x2 ≤ 3) (R : Nat) (hR : (3 - x2).toNat = R) (k2 : ∀ (x2 : Int) (S : zz_S), zz_G S → zz_fr [] [1087, 1091, 1095] (fun _ _ => False) S0 S → (0 ≤ x2 ∧ x2 ≤ 3) → (3 - x2).toNat < R → zz_E g l zy_pushAll_14_33 zr_pushAll_14_33 (zz_QV n (zp_pushAll_14_33 p0 S0)) S n 2 [some (.ref 1079), some (zi p0), some (zi x2)] [] 0 0) : zz_E g l zy_pushAll_14_33 zr_pushAll_14_33 (zz_QV n (zp_pushAll_14_33 p0 S0)) S n 2 [some (.ref 1079), some (zi p0), some (zi x2)] [] 0 0 := by
  refine zz_iload_n (x := x2) rfl zd_14_33_2 ?_
  refine zz_iconst zd_14_33_3 ?_
  refine zz_icmp_ge (by omega) (by omega) zd_14_33_4 (fun c1 => ?_) (fun c1 => ?_)
  · exact zz_vret zd_14_33_108 rfl (Nat.zero_le _) (Nat.zero_le _) ⟨_, rfl, G_S, F_S⟩
  · refine zz_aload_n (x := 1079) rfl zd_14_33_7 ?_
    refine zz_getr (kd := 0) (z := 1097) zd_14_33_8 zf_Md_70 zT_1079 rfl (zz_ltn hn rfl) (zz_G.eq G_S 1079 25 1097 rfl rfl) (by decide) 1097 rfl ?_
    refine zz_iload_n (x := x2) rfl zd_14_33_11 ?_
    have g2 := zz_G.r G_S0 1097 x2.toNat (-1) 600 rfl rfl
    refine zz_iald (z := S0 1097 x2.toNat) zd_14_33_12 zT_1097 rfl (zz_ltn hn rfl) (by decide) (by omega) (zz_rc F_S (zz_nc1 rfl) rfl (fun h => h) rfl) ?_
    refine zz_istore_n [some (.ref 1079), some (zi p0), some (zi x2), some (zi (S0 1097 x2.toNat))] zd_14_33_13 (by decide) rfl ?_
    refine zz_iload_n (x := S0 1097 x2.toNat) rfl zd_14_33_14 ?_
    refine zz_if_lt (by omega) zd_14_33_15 (fun c3 => ?_) (fun c3 => ?_)
    · refine zz_iinc [some (.ref 1079), some (zi p0), some (zi (x2 + 1)), some (zi (S0 1097 x2.toNat))] zd_14_33_102 rfl rfl ?_
      refine zz_goto zd_14_33_105 ?_
      refine zz_less (ls1 := [some (.ref 1079), some (zi p0), some (zi (x2 + 1))]) ⟨rfl, ⟨rfl, ⟨rfl, trivial⟩⟩⟩ ?_
      exact k2 (x2 + 1) S G_S F_S (by omega) (by omega)
    · refine zz_aload_n (x := 1079) rfl zd_14_33_18 ?_
      refine zz_getr (kd := 0) (z := 1094) zd_14_33_19 zf_Md_60 zT_1079 rfl (zz_ltn hn rfl) (zz_G.eq G_S 1079 22 1094 rfl rfl) (by decide) 1094 rfl ?_
      refine zz_iload_n (x := S0 1097 x2.toNat) rfl zd_14_33_22 ?_
      have g4 := zz_G.r G_S0 1094 ((S0 1097 x2.toNat).toNat) (-2147483648) 2147483647 rfl rfl
      refine zz_iald (z := S0 1094 ((S0 1097 x2.toNat).toNat)) zd_14_33_23 zT_1094 rfl (zz_ltn hn rfl) (by decide) (by omega) (zz_rc F_S (zz_nc1 rfl) rfl (fun h => h) rfl) ?_
      refine zz_iload_n (x := p0) rfl zd_14_33_24 ?_
      refine zz_icmp_gt (by omega) (by omega) zd_14_33_25 (fun c5 => ?_) (fun c5 => ?_)
      · refine zz_iinc [some (.ref 1079), some (zi p0), some (zi (x2 + 1)), some (zi (S0 1097 x2.toNat))] zd_14_33_102 rfl rfl ?_
        refine zz_goto zd_14_33_105 ?_
        refine zz_less (ls1 := [some (.ref 1079), some (zi p0), some (zi (x2 + 1))]) ⟨rfl, ⟨rfl, ⟨rfl, trivial⟩⟩⟩ ?_
        exact k2 (x2 + 1) S G_S F_S (by omega) (by omega)
      · refine zz_aload_n (x := 1079) rfl zd_14_33_28 ?_
        refine zz_getr (kd := 0) (z := 1095) zd_14_33_29 zf_Md_63 zT_1079 rfl (zz_ltn hn rfl) (zz_G.eq G_S 1079 23 1095 rfl rfl) (by decide) 1095 rfl ?_
        refine zz_iload_n (x := S0 1097 x2.toNat) rfl zd_14_33_32 ?_
        have g6 := zz_G.r G_S 1095 ((S0 1097 x2.toNat).toNat) 0 1 rfl rfl
        refine zz_zald (z := S 1095 ((S0 1097 x2.toNat).toNat)) zd_14_33_33 zT_1095 rfl (zz_ltn hn rfl) (by decide) (by omega) rfl ?_
        refine zz_if_ne (by omega) zd_14_33_34 (fun c7 => ?_) (fun c7 => ?_)
        · refine zz_iinc [some (.ref 1079), some (zi p0), some (zi (x2 + 1)), some (zi (S0 1097 x2.toNat))] zd_14_33_102 rfl rfl ?_
          refine zz_goto zd_14_33_105 ?_
          refine zz_less (ls1 := [some (.ref 1079), some (zi p0), some (zi (x2 + 1))]) ⟨rfl, ⟨rfl, ⟨rfl, trivial⟩⟩⟩ ?_
          exact k2 (x2 + 1) S G_S F_S (by omega) (by omega)
        · refine zz_aload_n (x := 1079) rfl zd_14_33_37 ?_
          refine zz_aload_n (x := 1079) rfl zd_14_33_38 ?_
          refine zz_getr (kd := 0) (z := 1085) zd_14_33_39 zf_Md_29 zT_1079 rfl (zz_ltn hn rfl) (zz_G.eq G_S 1079 8 1085 rfl rfl) (by decide) 1085 rfl ?_
          refine zz_iload_n (x := S0 1097 x2.toNat) rfl zd_14_33_42 ?_
          have g8 := zz_G.r G_S0 1085 ((S0 1097 x2.toNat).toNat) (-9223372036854775808) 9223372036854775807 rfl rfl
          refine zz_lald (z := S0 1085 ((S0 1097 x2.toNat).toNat)) zd_14_33_43 zT_1085 rfl (zz_ltn hn rfl) (by decide) (by omega) (zz_rc F_S (zz_nc1 rfl) rfl (fun h => h) rfl) ?_
          refine zz_callVV [zl (S0 1085 ((S0 1097 x2.toNat).toNat))] zd_14_33_44 zk_Md_234 zT_1079 (zz_ltn hn rfl) rfl rfl ⟨Nat.le_of_ble_eq_true rfl, Nat.le_of_ble_eq_true rfl⟩ ⟨rfl, rfl⟩ (Nat.zero_le _) (Nat.zero_le _) (zc_take_14_18 (S0 1085 ((S0 1097 x2.toNat).toNat)) S n hn G_S (by omega)) (fun S9 hP => ?_)
          obtain ⟨G_S9, fS9⟩ := hP
          have F_S9 := zz_fr.trans F_S fS9 rfl zz_nv
          refine zz_aload_n (x := 1079) rfl zd_14_33_47 ?_
          refine zz_getr (kd := 0) (z := 1095) zd_14_33_48 zf_Md_63 zT_1079 rfl (zz_ltn hn rfl) (zz_G.eq G_S9 1079 23 1095 rfl rfl) (by decide) 1095 rfl ?_
          refine zz_iload_n (x := S0 1097 x2.toNat) rfl zd_14_33_51 ?_
          refine zz_iconst zd_14_33_52 ?_
          refine zz_zast zd_14_33_53 zT_1095 rfl (zz_ltn hn rfl) (by decide) (by omega) (by omega) (fun S11 qS11 => ?_)
          have G_S11 := zz_G.put G_S9 qS11 0 1 rfl (by omega)
          have F_S11 := zz_fr.putc F_S9 qS11 rfl
          refine zz_aload_n (x := 1079) rfl zd_14_33_54 ?_
          refine zz_getr (kd := 0) (z := 1091) zd_14_33_55 zf_Md_51 zT_1079 rfl (zz_ltn hn rfl) (zz_G.eq G_S11 1079 18 1091 rfl rfl) (by decide) 1091 rfl ?_
          refine zz_aload_n (x := 1079) rfl zd_14_33_58 ?_
          refine zz_getr (kd := 0) (z := 1092) zd_14_33_59 zf_Md_54 zT_1079 rfl (zz_ltn hn rfl) (zz_G.eq G_S11 1079 20 1092 rfl rfl) (by decide) 1092 rfl ?_
          refine zz_iload_n (x := S0 1097 x2.toNat) rfl zd_14_33_62 ?_
          have g12 := zz_G.r G_S0 1092 ((S0 1097 x2.toNat).toNat) (-2147483648) 2147483647 rfl rfl
          refine zz_iald (z := S0 1092 ((S0 1097 x2.toNat).toNat)) zd_14_33_63 zT_1092 rfl (zz_ltn hn rfl) (by decide) (by omega) (zz_ro qS11 (fun h => absurd h.1 (by decide)) (zz_rc fS9 (zz_nc1 rfl) rfl (fun h => h) (zz_rc F_S (zz_nc1 rfl) rfl (fun h => h) rfl))) ?_
          refine zz_iconst zd_14_33_64 ?_
          refine zz_callSI [zi (S0 1092 ((S0 1097 x2.toNat).toNat)), zi 0] zd_14_33_65 zk_Md_268 rfl rfl ⟨Nat.le_of_ble_eq_true rfl, Nat.le_of_ble_eq_true rfl⟩ ⟨rfl, rfl⟩ (Nat.zero_le _) (Nat.zero_le _) (zc_pushes_14_32 (S0 1092 ((S0 1097 x2.toNat).toNat)) 0 S11 n hn G_S11 (by omega) (by omega)) (fun v14 S13 hP => ?_)
          obtain ⟨rfl, o15⟩ := hP
          refine zz_dup2_11 rfl rfl zd_14_33_68 ?_
          have g16 := zz_G.r G_S 1091 v14.toNat (-2147483648) 2147483647 rfl rfl
          refine zz_iald (z := S 1091 v14.toNat) zd_14_33_69 zT_1091 rfl (zz_ltn hn rfl) (by decide) (by omega) (zz_ro qS11 (fun h => absurd h.1 (by decide)) (zz_rc fS9 (zz_nc1 rfl) rfl (fun h => h) rfl)) ?_
          refine zz_aload_n (x := 1079) rfl zd_14_33_70 ?_
          refine zz_getr (kd := 0) (z := 1087) zd_14_33_71 zf_Md_36 zT_1079 rfl (zz_ltn hn rfl) (zz_G.eq G_S11 1079 11 1087 rfl rfl) (by decide) 1087 rfl ?_
          refine zz_iconst zd_14_33_74 ?_
          have g17 := zz_G.r G_S9 1087 3 (-2147483648) 2147483647 rfl rfl
          refine zz_iald (z := S9 1087 3) zd_14_33_75 zT_1087 rfl (zz_ltn hn rfl) (by decide) (by decide) (zz_ro qS11 (fun h => absurd h.1 (by decide)) rfl) ?_
          refine zz_iadd zd_14_33_76 ?_
          refine zz_nrm (fun v18 hv18 ev18 => ?_)
          refine zz_iast zd_14_33_77 zT_1091 rfl (zz_ltn hn rfl) (by decide) (by omega) (fun S19 qS19 => ?_)
          have G_S19 := zz_G.put G_S11 qS19 (-2147483648) 2147483647 rfl (by omega)
          have F_S19 := zz_fr.putc F_S11 qS19 rfl
          refine zz_aload_n (x := 1079) rfl zd_14_33_78 ?_
          refine zz_getr (kd := 0) (z := 1091) zd_14_33_79 zf_Md_51 zT_1079 rfl (zz_ltn hn rfl) (zz_G.eq G_S19 1079 18 1091 rfl rfl) (by decide) 1091 rfl ?_
          refine zz_aload_n (x := 1079) rfl zd_14_33_82 ?_
          refine zz_getr (kd := 0) (z := 1092) zd_14_33_83 zf_Md_54 zT_1079 rfl (zz_ltn hn rfl) (zz_G.eq G_S19 1079 20 1092 rfl rfl) (by decide) 1092 rfl ?_
          refine zz_iload_n (x := S0 1097 x2.toNat) rfl zd_14_33_86 ?_
          refine zz_iald (z := S0 1092 ((S0 1097 x2.toNat).toNat)) zd_14_33_87 zT_1092 rfl (zz_ltn hn rfl) (by decide) (by omega) (zz_ro qS19 (fun h => absurd h.1 (by decide)) (zz_ro qS11 (fun h => absurd h.1 (by decide)) (zz_rc fS9 (zz_nc1 rfl) rfl (fun h => h) (zz_rc F_S (zz_nc1 rfl) rfl (fun h => h) rfl)))) ?_
          refine zz_iconst zd_14_33_88 ?_
          refine zz_callSI [zi (S0 1092 ((S0 1097 x2.toNat).toNat)), zi 1] zd_14_33_89 zk_Md_268 rfl rfl ⟨Nat.le_of_ble_eq_true rfl, Nat.le_of_ble_eq_true rfl⟩ ⟨rfl, rfl⟩ (Nat.zero_le _) (Nat.zero_le _) (zc_pushes_14_32 (S0 1092 ((S0 1097 x2.toNat).toNat)) 1 S19 n hn G_S19 (by omega) (by omega)) (fun v21 S20 hP => ?_)
          obtain ⟨rfl, o22⟩ := hP
          refine zz_dup2_11 rfl rfl zd_14_33_92 ?_
          have g23 := zz_G.r G_S19 1091 v21.toNat (-2147483648) 2147483647 rfl rfl
          refine zz_iald (z := S19 1091 v21.toNat) zd_14_33_93 zT_1091 rfl (zz_ltn hn rfl) (by decide) (by omega) rfl ?_
          refine zz_aload_n (x := 1079) rfl zd_14_33_94 ?_
          refine zz_getr (kd := 0) (z := 1087) zd_14_33_95 zf_Md_36 zT_1079 rfl (zz_ltn hn rfl) (zz_G.eq G_S19 1079 11 1087 rfl rfl) (by decide) 1087 rfl ?_
          refine zz_iconst zd_14_33_98 ?_
          have g24 := zz_G.r G_S9 1087 4 (-2147483648) 2147483647 rfl rfl
          refine zz_iald (z := S9 1087 4) zd_14_33_99 zT_1087 rfl (zz_ltn hn rfl) (by decide) (by decide) (zz_ro qS19 (fun h => absurd h.1 (by decide)) (zz_ro qS11 (fun h => absurd h.1 (by decide)) rfl)) ?_
          refine zz_iadd zd_14_33_100 ?_
          refine zz_nrm (fun v25 hv25 ev25 => ?_)
          refine zz_iast zd_14_33_101 zT_1091 rfl (zz_ltn hn rfl) (by decide) (by omega) (fun S26 qS26 => ?_)
          have G_S26 := zz_G.put G_S19 qS26 (-2147483648) 2147483647 rfl (by omega)
          have F_S26 := zz_fr.putc F_S19 qS26 rfl
          refine zz_iinc [some (.ref 1079), some (zi p0), some (zi (x2 + 1)), some (zi (S0 1097 x2.toNat))] zd_14_33_102 rfl rfl ?_
          refine zz_goto zd_14_33_105 ?_
          refine zz_less (ls1 := [some (.ref 1079), some (zi p0), some (zi (x2 + 1))]) ⟨rfl, ⟨rfl, ⟨rfl, trivial⟩⟩⟩ ?_
          exact k2 (x2 + 1) S26 G_S26 F_S26 (by omega) (by omega)
theorem zi_pushAll_14_33 {g : mm_G} {l : Launch} (p0 : Int) (S0 : zz_S) (n : Nat) (hn : zz_end ≤ n) (G_S0 : zz_G S0) (hp0 : (-2147483648) ≤ p0 ∧ p0 ≤ 2147483647) : ∀ N : Nat, (∀ (x2 : Int) (S : zz_S), zz_G S → zz_fr [] [1087, 1091, 1095] (fun _ _ => False) S0 S → (0 ≤ x2 ∧ x2 ≤ 3) → (3 - x2).toNat < N → zz_E g l zy_pushAll_14_33 zr_pushAll_14_33 (zz_QV n (zp_pushAll_14_33 p0 S0)) S n 2 [some (.ref 1079), some (zi p0), some (zi x2)] [] 0 0) := by
  intro N
  induction N with
  | zero => exact fun x2 S _ _ _ h => absurd h (Nat.not_lt_zero _)
  | succ N ih =>
    exact fun x2 S a b j0 hR => zb_pushAll_14_33_2 p0 S0 n hn G_S0 hp0 x2 S a b j0 _ rfl (fun x2 S a b j0 h => ih x2 S a b j0 (Nat.lt_of_lt_of_le h (Nat.le_of_lt_succ hR)))
theorem zc_pushAll_14_33 {g : mm_G} {l : Launch} (p0 : Int) (S0 : zz_S) (n : Nat) (hn : zz_end ≤ n) (G_S0 : zz_G S0) (hp0 : (-2147483648) ≤ p0 ∧ p0 ≤ 2147483647) : mm_Met g l zy_pushAll_14_33 zr_pushAll_14_33 [.ref 1079, zi p0] (zz_M S0 n) n (zz_QV n (zp_pushAll_14_33 p0 S0)) := by
  refine zz_enter (by decide) (Nat.le_of_ble_eq_true rfl) (zz_less (ls1 := [some (.ref 1079), some (zi p0)]) ⟨rfl, ⟨rfl, trivial⟩⟩ ?_)
  have F_S0 : zz_fr [] [1087, 1091, 1095] (fun _ _ => False) S0 S0 := zz_fr.refl
  have k2 : ∀ (x2 : Int) (S : zz_S), zz_G S → zz_fr [] [1087, 1091, 1095] (fun _ _ => False) S0 S → (0 ≤ x2 ∧ x2 ≤ 3) → zz_E g l zy_pushAll_14_33 zr_pushAll_14_33 (zz_QV n (zp_pushAll_14_33 p0 S0)) S n 2 [some (.ref 1079), some (zi p0), some (zi x2)] [] 0 0 := fun x2 S a b j0 => (zi_pushAll_14_33 (g := g) (l := l) p0 S0 n hn G_S0 hp0 _) x2 S a b j0 (Nat.lt_succ_self _)
  refine zz_iconst zd_14_33_0 ?_
  refine zz_istore_n [some (.ref 1079), some (zi p0), some (zi 0)] zd_14_33_1 (by decide) rfl ?_
  refine zz_less (ls1 := [some (.ref 1079), some (zi p0), some (zi 0)]) ⟨rfl, ⟨rfl, ⟨rfl, trivial⟩⟩⟩ ?_
  exact k2 0 S0 G_S0 F_S0 (by omega)
abbrev zy_findNext_14_34 : mm_Y := (⟨"TensorForgeModel", "findNext", "(I)V"⟩, prog_14_method_34_code, 2, none)
theorem zyw_findNext_14_34 : mm_Yw zy_findNext_14_34 1 := ⟨mm_tb_1 1930 (by decide +kernel) rfl, mm_tb_1 12 (by decide +kernel) rfl, ⟨by decide, by decide⟩, by decide +kernel⟩
theorem zd_14_34_0 : zz_D zy_findNext_14_34 0 (.aload_n 0) 1 1 := ⟨by decide +kernel, rfl⟩
theorem zd_14_34_1 : zz_D zy_findNext_14_34 1 (.getfield 73) 3 4 := ⟨by decide +kernel, rfl⟩
theorem zf_Md_73 : mm_Fl "TensorForgeModel" 73 11 26 (.array .int) true := ⟨R_Md, F_Md, 69, t_Md, rfl, i_Md, by decide, mm_tb_1 1637 (by decide +kernel) rfl, rfl, t_Md_ok, n_Md, rfl, by decide +kernel⟩
theorem zd_14_34_4 : zz_D zy_findNext_14_34 4 (.iload_n 1) 1 5 := ⟨by decide +kernel, rfl⟩
theorem zd_14_34_5 : zz_D zy_findNext_14_34 5 (.dup2) 1 6 := ⟨by decide +kernel, rfl⟩
theorem zd_14_34_6 : zz_D zy_findNext_14_34 6 (.iaload) 1 7 := ⟨by decide +kernel, rfl⟩
theorem zd_14_34_7 : zz_D zy_findNext_14_34 7 (.iconst 1) 1 8 := ⟨by decide +kernel, rfl⟩
theorem zd_14_34_8 : zz_D zy_findNext_14_34 8 (.iadd) 1 9 := ⟨by decide +kernel, rfl⟩
theorem zd_14_34_9 : zz_D zy_findNext_14_34 9 (.iastore) 1 10 := ⟨by decide +kernel, rfl⟩
theorem zd_14_34_10 : zz_D zy_findNext_14_34 10 (.aload_n 0) 1 11 := ⟨by decide +kernel, rfl⟩
theorem zd_14_34_11 : zz_D zy_findNext_14_34 11 (.getfield 73) 3 14 := ⟨by decide +kernel, rfl⟩
theorem zd_14_34_14 : zz_D zy_findNext_14_34 14 (.iload_n 1) 1 15 := ⟨by decide +kernel, rfl⟩
theorem zd_14_34_15 : zz_D zy_findNext_14_34 15 (.iaload) 1 16 := ⟨by decide +kernel, rfl⟩
theorem zd_14_34_16 : zz_D zy_findNext_14_34 16 (.aload_n 0) 1 17 := ⟨by decide +kernel, rfl⟩
theorem zd_14_34_17 : zz_D zy_findNext_14_34 17 (.getfield 272) 3 20 := ⟨by decide +kernel, rfl⟩
theorem zf_Md_272 : mm_Fl "TensorForgeModel" 272 11 19 .int false := ⟨R_Md, F_Md, 69, t_Md, rfl, i_Md, by decide, mm_tb_1 1630 (by decide +kernel) rfl, rfl, t_Md_ok, n_Md, rfl, by decide +kernel⟩
theorem zd_14_34_20 : zz_B zy_findNext_14_34 20 (Instr.if_icmp .ge) 51 23 := ⟨31, by decide +kernel, rfl, rfl⟩
theorem zd_14_34_51 : zz_D zy_findNext_14_34 51 (.return_) 1 52 := ⟨by decide +kernel, rfl⟩
theorem zd_14_34_23 : zz_D zy_findNext_14_34 23 (.aload_n 0) 1 24 := ⟨by decide +kernel, rfl⟩
theorem zd_14_34_24 : zz_D zy_findNext_14_34 24 (.getfield 54) 3 27 := ⟨by decide +kernel, rfl⟩
theorem zd_14_34_27 : zz_D zy_findNext_14_34 27 (.aload_n 0) 1 28 := ⟨by decide +kernel, rfl⟩
theorem zd_14_34_28 : zz_D zy_findNext_14_34 28 (.getfield 73) 3 31 := ⟨by decide +kernel, rfl⟩
theorem zd_14_34_31 : zz_D zy_findNext_14_34 31 (.iload_n 1) 1 32 := ⟨by decide +kernel, rfl⟩
theorem zd_14_34_32 : zz_D zy_findNext_14_34 32 (.iaload) 1 33 := ⟨by decide +kernel, rfl⟩
theorem zd_14_34_33 : zz_D zy_findNext_14_34 33 (.iaload) 1 34 := ⟨by decide +kernel, rfl⟩
theorem zd_14_34_34 : zz_D zy_findNext_14_34 34 (.iload_n 1) 1 35 := ⟨by decide +kernel, rfl⟩
theorem zd_14_34_35 : zz_B zy_findNext_14_34 35 (Instr.if_icmp .eq) 51 38 := ⟨16, by decide +kernel, rfl, rfl⟩
theorem zd_14_34_38 : zz_D zy_findNext_14_34 38 (.aload_n 0) 1 39 := ⟨by decide +kernel, rfl⟩
theorem zd_14_34_39 : zz_D zy_findNext_14_34 39 (.getfield 73) 3 42 := ⟨by decide +kernel, rfl⟩
theorem zd_14_34_42 : zz_D zy_findNext_14_34 42 (.iload_n 1) 1 43 := ⟨by decide +kernel, rfl⟩
theorem zd_14_34_43 : zz_D zy_findNext_14_34 43 (.dup2) 1 44 := ⟨by decide +kernel, rfl⟩
theorem zd_14_34_44 : zz_D zy_findNext_14_34 44 (.iaload) 1 45 := ⟨by decide +kernel, rfl⟩
theorem zd_14_34_45 : zz_D zy_findNext_14_34 45 (.iconst 1) 1 46 := ⟨by decide +kernel, rfl⟩
theorem zd_14_34_46 : zz_D zy_findNext_14_34 46 (.iadd) 1 47 := ⟨by decide +kernel, rfl⟩
theorem zd_14_34_47 : zz_D zy_findNext_14_34 47 (.iastore) 1 48 := ⟨by decide +kernel, rfl⟩
theorem zd_14_34_48 : zz_B zy_findNext_14_34 48 Instr.goto 10 51 := ⟨(-38), by decide +kernel, rfl, rfl⟩
-- TensorForgeModel findNext (I)V
abbrev zr_findNext_14_34 : Room := { frames := 0, cells := 0, slots := 0, locals := 0 }
def zp_findNext_14_34 (p0 : Int) (S0 : zz_S) : zz_S → Prop := fun S => zz_G S ∧ zz_fr [] [1098] (fun _ _ => False) S0 S ∧ (S 1098 p0.toNat > S0 1098 p0.toNat)
theorem zb_findNext_14_34_10 {g : mm_G} {l : Launch} (p0 : Int) (S0 : zz_S) (n : Nat) (hn : zz_end ≤ n) (G_S0 : zz_G S0) (hp0 : 0 ≤ p0 ∧ p0 ≤ 2) (hq : S0 1098 p0.toNat ≤ 600)  (S : zz_S) (G_S : zz_G S) (F_S : zz_fr [] [1098] (fun _ _ => False) S0 S) (i10_0 : S 1098 p0.toNat > S0 1098 p0.toNat) (i10_1 : 0 ≤ S 1098 p0.toNat) (R : Nat) (hR : (601 - S 1098 p0.toNat).toNat = R) (k10 : ∀  (S : zz_S), zz_G S → zz_fr [] [1098] (fun _ _ => False) S0 S → (S 1098 p0.toNat > S0 1098 p0.toNat) → (0 ≤ S 1098 p0.toNat) → (601 - S 1098 p0.toNat).toNat < R → zz_E g l zy_findNext_14_34 zr_findNext_14_34 (zz_QV n (zp_findNext_14_34 p0 S0)) S n 10 [some (.ref 1079), some (zi p0)] [] 0 0) : zz_E g l zy_findNext_14_34 zr_findNext_14_34 (zz_QV n (zp_findNext_14_34 p0 S0)) S n 10 [some (.ref 1079), some (zi p0)] [] 0 0 := by
  refine zz_aload_n (x := 1079) rfl zd_14_34_10 ?_
  refine zz_getr (kd := 0) (z := 1098) zd_14_34_11 zf_Md_73 zT_1079 rfl (zz_ltn hn rfl) (zz_G.eq G_S 1079 26 1098 rfl rfl) (by decide) 1098 rfl ?_
  refine zz_iload_n (x := p0) rfl zd_14_34_14 ?_
  have g4 := zz_G.r G_S 1098 p0.toNat (-1) 601 rfl rfl
  refine zz_iald (z := S 1098 p0.toNat) zd_14_34_15 zT_1098 rfl (zz_ltn hn rfl) (by decide) (by omega) rfl ?_
  refine zz_aload_n (x := 1079) rfl zd_14_34_16 ?_
  have g5 := zz_G.r G_S0 1079 19 (-1) 600 rfl rfl
  refine zz_geti (z := S0 1079 19) zd_14_34_17 zf_Md_272 zT_1079 rfl (zz_ltn hn rfl) (zz_rc F_S rfl rfl (fun h => h) rfl) ?_
  refine zz_icmp_ge (by omega) (by omega) zd_14_34_20 (fun c6 => ?_) (fun c6 => ?_)
  · exact zz_vret zd_14_34_51 rfl (Nat.zero_le _) (Nat.zero_le _) ⟨_, rfl, G_S, F_S, by omega⟩
  · refine zz_aload_n (x := 1079) rfl zd_14_34_23 ?_
    refine zz_getr (kd := 0) (z := 1092) zd_14_34_24 zf_Md_54 zT_1079 rfl (zz_ltn hn rfl) (zz_G.eq G_S 1079 20 1092 rfl rfl) (by decide) 1092 rfl ?_
    refine zz_aload_n (x := 1079) rfl zd_14_34_27 ?_
    refine zz_getr (kd := 0) (z := 1098) zd_14_34_28 zf_Md_73 zT_1079 rfl (zz_ltn hn rfl) (zz_G.eq G_S 1079 26 1098 rfl rfl) (by decide) 1098 rfl ?_
    refine zz_iload_n (x := p0) rfl zd_14_34_31 ?_
    refine zz_iald (z := S 1098 p0.toNat) zd_14_34_32 zT_1098 rfl (zz_ltn hn rfl) (by decide) (by omega) rfl ?_
    have g7 := zz_G.r G_S0 1092 ((S 1098 p0.toNat).toNat) (-2147483648) 2147483647 rfl rfl
    refine zz_iald (z := S0 1092 ((S 1098 p0.toNat).toNat)) zd_14_34_33 zT_1092 rfl (zz_ltn hn rfl) (by decide) (by omega) (zz_rc F_S (zz_nc1 rfl) rfl (fun h => h) rfl) ?_
    refine zz_iload_n (x := p0) rfl zd_14_34_34 ?_
    refine zz_icmp_eq (by omega) (by omega) zd_14_34_35 (fun c8 => ?_) (fun c8 => ?_)
    · exact zz_vret zd_14_34_51 rfl (Nat.zero_le _) (Nat.zero_le _) ⟨_, rfl, G_S, F_S, by omega⟩
    · refine zz_aload_n (x := 1079) rfl zd_14_34_38 ?_
      refine zz_getr (kd := 0) (z := 1098) zd_14_34_39 zf_Md_73 zT_1079 rfl (zz_ltn hn rfl) (zz_G.eq G_S 1079 26 1098 rfl rfl) (by decide) 1098 rfl ?_
      refine zz_iload_n (x := p0) rfl zd_14_34_42 ?_
      refine zz_dup2_11 rfl rfl zd_14_34_43 ?_
      refine zz_iald (z := S 1098 p0.toNat) zd_14_34_44 zT_1098 rfl (zz_ltn hn rfl) (by decide) (by omega) rfl ?_
      refine zz_iconst zd_14_34_45 ?_
      refine zz_iadd zd_14_34_46 ?_
      refine zz_iast zd_14_34_47 zT_1098 rfl (zz_ltn hn rfl) (by decide) (by omega) (fun S9 qS9 => ?_)
      have G_S9 := zz_G.put G_S qS9 (-1) 601 rfl (by omega)
      have F_S9 := zz_fr.putc F_S qS9 rfl
      refine zz_goto zd_14_34_48 ?_
      have e10 : S9 1098 p0.toNat = (S 1098 p0.toNat) + 1 := (zz_rs qS9)
      exact k10 S9 G_S9 F_S9 (by omega) (by omega) (by omega)
theorem zi_findNext_14_34 {g : mm_G} {l : Launch} (p0 : Int) (S0 : zz_S) (n : Nat) (hn : zz_end ≤ n) (G_S0 : zz_G S0) (hp0 : 0 ≤ p0 ∧ p0 ≤ 2) (hq : S0 1098 p0.toNat ≤ 600) : ∀ N : Nat, (∀  (S : zz_S), zz_G S → zz_fr [] [1098] (fun _ _ => False) S0 S → (S 1098 p0.toNat > S0 1098 p0.toNat) → (0 ≤ S 1098 p0.toNat) → (601 - S 1098 p0.toNat).toNat < N → zz_E g l zy_findNext_14_34 zr_findNext_14_34 (zz_QV n (zp_findNext_14_34 p0 S0)) S n 10 [some (.ref 1079), some (zi p0)] [] 0 0) := by
  intro N
  induction N with
  | zero => exact fun  S _ _ _ _ h => absurd h (Nat.not_lt_zero _)
  | succ N ih =>
    exact fun  S a b j0 j1 hR => zb_findNext_14_34_10 p0 S0 n hn G_S0 hp0 hq  S a b j0 j1 _ rfl (fun  S a b j0 j1 h => ih  S a b j0 j1 (Nat.lt_of_lt_of_le h (Nat.le_of_lt_succ hR)))
theorem zc_findNext_14_34 {g : mm_G} {l : Launch} (p0 : Int) (S0 : zz_S) (n : Nat) (hn : zz_end ≤ n) (G_S0 : zz_G S0) (hp0 : 0 ≤ p0 ∧ p0 ≤ 2) (hq : S0 1098 p0.toNat ≤ 600) : mm_Met g l zy_findNext_14_34 zr_findNext_14_34 [.ref 1079, zi p0] (zz_M S0 n) n (zz_QV n (zp_findNext_14_34 p0 S0)) := by
  refine zz_enter (by decide) (Nat.le_of_ble_eq_true rfl) (zz_less (ls1 := [some (.ref 1079), some (zi p0)]) ⟨rfl, ⟨rfl, trivial⟩⟩ ?_)
  have F_S0 : zz_fr [] [1098] (fun _ _ => False) S0 S0 := zz_fr.refl
  have k10 : ∀  (S : zz_S), zz_G S → zz_fr [] [1098] (fun _ _ => False) S0 S → (S 1098 p0.toNat > S0 1098 p0.toNat) → (0 ≤ S 1098 p0.toNat) → zz_E g l zy_findNext_14_34 zr_findNext_14_34 (zz_QV n (zp_findNext_14_34 p0 S0)) S n 10 [some (.ref 1079), some (zi p0)] [] 0 0 := fun  S a b j0 j1 => (zi_findNext_14_34 (g := g) (l := l) p0 S0 n hn G_S0 hp0 hq _)  S a b j0 j1 (Nat.lt_succ_self _)
  refine zz_aload_n (x := 1079) rfl zd_14_34_0 ?_
  refine zz_getr (kd := 0) (z := 1098) zd_14_34_1 zf_Md_73 zT_1079 rfl (zz_ltn hn rfl) (zz_G.eq G_S0 1079 26 1098 rfl rfl) (by decide) 1098 rfl ?_
  refine zz_iload_n (x := p0) rfl zd_14_34_4 ?_
  refine zz_dup2_11 rfl rfl zd_14_34_5 ?_
  have g1 := zz_G.r G_S0 1098 p0.toNat (-1) 601 rfl rfl
  refine zz_iald (z := S0 1098 p0.toNat) zd_14_34_6 zT_1098 rfl (zz_ltn hn rfl) (by decide) (by omega) rfl ?_
  refine zz_iconst zd_14_34_7 ?_
  refine zz_iadd zd_14_34_8 ?_
  refine zz_iast zd_14_34_9 zT_1098 rfl (zz_ltn hn rfl) (by decide) (by omega) (fun S2 qS2 => ?_)
  have G_S2 := zz_G.put G_S0 qS2 (-1) 601 rfl (by omega)
  have F_S2 := zz_fr.putc F_S0 qS2 rfl
  have e3 : S2 1098 p0.toNat = (S0 1098 p0.toNat) + 1 := (zz_rs qS2)
  exact k10 S2 G_S2 F_S2 (by omega) (by omega)

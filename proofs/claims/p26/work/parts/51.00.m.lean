-- TensorForgeModel fieldOf (JI)I
abbrev zr_fieldOf_14_12x_6 : Room := { frames := 1, cells := 0, slots := 0, locals := 16 }
def zp_fieldOf_14_12x_6 (p0 : Int) (S0 : zz_S) : Int → zz_S → Prop := fun r S => S0 = S ∧ (0 ≤ r ∧ r ≤ 63) ∧ (r = zz_fx p0 20 63)
theorem zc_fieldOf_14_12x_6 {g : mm_G} {l : Launch} (p0 : Int) (S0 : zz_S) (n : Nat) (hn : zz_end ≤ n) (G_S0 : zz_G S0) (hp0 : (-9223372036854775808) ≤ p0 ∧ p0 ≤ 9223372036854775807) : mm_Met g l zy_fieldOf_14_12 zr_fieldOf_14_12x_6 [zl p0, zi 6] (zz_M S0 n) n (zz_QI n (zp_fieldOf_14_12x_6 p0 S0)) := by
  refine zz_enter (by decide) (Nat.le_of_ble_eq_true rfl) (zz_less (ls1 := [some (zl p0), none, some (zi 6)]) ⟨rfl, ⟨rfl, trivial⟩⟩ ?_)
  refine zz_iconst zd_14_12_0 ?_
  refine zz_istore_n [some (zl p0), none, some (zi 6), some (zi 0)] zd_14_12_1 (by decide) rfl ?_
  refine zz_iconst zd_14_12_2 ?_
  refine zz_istore [some (zl p0), none, some (zi 6), some (zi 0), some (zi 0)] zd_14_12_3 (by decide) rfl ?_
  refine zz_iload (x := 0) rfl zd_14_12_5 ?_
  refine zz_iload_n (x := 6) rfl zd_14_12_7 ?_
  refine zz_icmp_ge (by omega) (by omega) zd_14_12_8 (fun c1 => ?_) (fun c1 => ?_)
  · exfalso; omega
  · refine zz_iload_n (x := 0) rfl zd_14_12_11 ?_
    refine zz_iload (x := 0) rfl zd_14_12_12 ?_
    refine zz_callSI [zi 0] zd_14_12_14 zk_Md_215 rfl rfl ⟨Nat.le_of_ble_eq_true rfl, Nat.le_of_ble_eq_true rfl⟩ ⟨rfl, rfl⟩ (Nat.zero_le _) (Nat.zero_le _) (zc_bitsOf_14_11 0 S0 n hn G_S0 (by omega)) (fun v3 S2 hP => ?_)
    obtain ⟨rfl, o4, o5⟩ := hP
    obtain rfl : v3 = 4 := by omega
    refine zz_iadd zd_14_12_17 ?_
    refine zz_eqv (v := 4) (by decide) ?_
    refine zz_istore_n [some (zl p0), none, some (zi 6), some (zi 4), some (zi 0)] zd_14_12_18 (by decide) rfl ?_
    refine zz_iinc [some (zl p0), none, some (zi 6), some (zi 4), some (zi 1)] zd_14_12_19 rfl rfl ?_
    refine zz_goto zd_14_12_22 ?_
    refine zz_iload (x := 1) rfl zd_14_12_5 ?_
    refine zz_iload_n (x := 6) rfl zd_14_12_7 ?_
    refine zz_icmp_ge (by omega) (by omega) zd_14_12_8 (fun c6 => ?_) (fun c6 => ?_)
    · exfalso; omega
    · refine zz_iload_n (x := 4) rfl zd_14_12_11 ?_
      refine zz_iload (x := 1) rfl zd_14_12_12 ?_
      refine zz_callSI [zi 1] zd_14_12_14 zk_Md_215 rfl rfl ⟨Nat.le_of_ble_eq_true rfl, Nat.le_of_ble_eq_true rfl⟩ ⟨rfl, rfl⟩ (Nat.zero_le _) (Nat.zero_le _) (zc_bitsOf_14_11 1 S0 n hn G_S0 (by omega)) (fun v8 S7 hP => ?_)
      obtain ⟨rfl, o9, o10⟩ := hP
      obtain rfl : v8 = 1 := by omega
      refine zz_iadd zd_14_12_17 ?_
      refine zz_eqv (v := 5) (by decide) ?_
      refine zz_istore_n [some (zl p0), none, some (zi 6), some (zi 5), some (zi 1)] zd_14_12_18 (by decide) rfl ?_
      refine zz_iinc [some (zl p0), none, some (zi 6), some (zi 5), some (zi 2)] zd_14_12_19 rfl rfl ?_
      refine zz_goto zd_14_12_22 ?_
      refine zz_iload (x := 2) rfl zd_14_12_5 ?_
      refine zz_iload_n (x := 6) rfl zd_14_12_7 ?_
      refine zz_icmp_ge (by omega) (by omega) zd_14_12_8 (fun c11 => ?_) (fun c11 => ?_)
      · exfalso; omega
      · refine zz_iload_n (x := 5) rfl zd_14_12_11 ?_
        refine zz_iload (x := 2) rfl zd_14_12_12 ?_
        refine zz_callSI [zi 2] zd_14_12_14 zk_Md_215 rfl rfl ⟨Nat.le_of_ble_eq_true rfl, Nat.le_of_ble_eq_true rfl⟩ ⟨rfl, rfl⟩ (Nat.zero_le _) (Nat.zero_le _) (zc_bitsOf_14_11 2 S0 n hn G_S0 (by omega)) (fun v13 S12 hP => ?_)
        obtain ⟨rfl, o14, o15⟩ := hP
        obtain rfl : v13 = 1 := by omega
        refine zz_iadd zd_14_12_17 ?_
        refine zz_eqv (v := 6) (by decide) ?_
        refine zz_istore_n [some (zl p0), none, some (zi 6), some (zi 6), some (zi 2)] zd_14_12_18 (by decide) rfl ?_
        refine zz_iinc [some (zl p0), none, some (zi 6), some (zi 6), some (zi 3)] zd_14_12_19 rfl rfl ?_
        refine zz_goto zd_14_12_22 ?_
        refine zz_iload (x := 3) rfl zd_14_12_5 ?_
        refine zz_iload_n (x := 6) rfl zd_14_12_7 ?_
        refine zz_icmp_ge (by omega) (by omega) zd_14_12_8 (fun c16 => ?_) (fun c16 => ?_)
        · exfalso; omega
        · refine zz_iload_n (x := 6) rfl zd_14_12_11 ?_
          refine zz_iload (x := 3) rfl zd_14_12_12 ?_
          refine zz_callSI [zi 3] zd_14_12_14 zk_Md_215 rfl rfl ⟨Nat.le_of_ble_eq_true rfl, Nat.le_of_ble_eq_true rfl⟩ ⟨rfl, rfl⟩ (Nat.zero_le _) (Nat.zero_le _) (zc_bitsOf_14_11 3 S0 n hn G_S0 (by omega)) (fun v18 S17 hP => ?_)
          obtain ⟨rfl, o19, o20⟩ := hP
          obtain rfl : v18 = 1 := by omega
          refine zz_iadd zd_14_12_17 ?_
          refine zz_eqv (v := 7) (by decide) ?_
          refine zz_istore_n [some (zl p0), none, some (zi 6), some (zi 7), some (zi 3)] zd_14_12_18 (by decide) rfl ?_
          refine zz_iinc [some (zl p0), none, some (zi 6), some (zi 7), some (zi 4)] zd_14_12_19 rfl rfl ?_
          refine zz_goto zd_14_12_22 ?_
          refine zz_iload (x := 4) rfl zd_14_12_5 ?_
          refine zz_iload_n (x := 6) rfl zd_14_12_7 ?_
          refine zz_icmp_ge (by omega) (by omega) zd_14_12_8 (fun c21 => ?_) (fun c21 => ?_)
          · exfalso; omega
          · refine zz_iload_n (x := 7) rfl zd_14_12_11 ?_
            refine zz_iload (x := 4) rfl zd_14_12_12 ?_
            refine zz_callSI [zi 4] zd_14_12_14 zk_Md_215 rfl rfl ⟨Nat.le_of_ble_eq_true rfl, Nat.le_of_ble_eq_true rfl⟩ ⟨rfl, rfl⟩ (Nat.zero_le _) (Nat.zero_le _) (zc_bitsOf_14_11 4 S0 n hn G_S0 (by omega)) (fun v23 S22 hP => ?_)
            obtain ⟨rfl, o24, o25⟩ := hP
            obtain rfl : v23 = 1 := by omega
            refine zz_iadd zd_14_12_17 ?_
            refine zz_eqv (v := 8) (by decide) ?_
            refine zz_istore_n [some (zl p0), none, some (zi 6), some (zi 8), some (zi 4)] zd_14_12_18 (by decide) rfl ?_
            refine zz_iinc [some (zl p0), none, some (zi 6), some (zi 8), some (zi 5)] zd_14_12_19 rfl rfl ?_
            refine zz_goto zd_14_12_22 ?_
            refine zz_iload (x := 5) rfl zd_14_12_5 ?_
            refine zz_iload_n (x := 6) rfl zd_14_12_7 ?_
            refine zz_icmp_ge (by omega) (by omega) zd_14_12_8 (fun c26 => ?_) (fun c26 => ?_)
            · exfalso; omega
            · refine zz_iload_n (x := 8) rfl zd_14_12_11 ?_
              refine zz_iload (x := 5) rfl zd_14_12_12 ?_
              refine zz_callSI [zi 5] zd_14_12_14 zk_Md_215 rfl rfl ⟨Nat.le_of_ble_eq_true rfl, Nat.le_of_ble_eq_true rfl⟩ ⟨rfl, rfl⟩ (Nat.zero_le _) (Nat.zero_le _) (zc_bitsOf_14_11 5 S0 n hn G_S0 (by omega)) (fun v28 S27 hP => ?_)
              obtain ⟨rfl, o29, o30⟩ := hP
              obtain rfl : v28 = 12 := by omega
              refine zz_iadd zd_14_12_17 ?_
              refine zz_eqv (v := 20) (by decide) ?_
              refine zz_istore_n [some (zl p0), none, some (zi 6), some (zi 20), some (zi 5)] zd_14_12_18 (by decide) rfl ?_
              refine zz_iinc [some (zl p0), none, some (zi 6), some (zi 20), some (zi 6)] zd_14_12_19 rfl rfl ?_
              refine zz_goto zd_14_12_22 ?_
              refine zz_iload (x := 6) rfl zd_14_12_5 ?_
              refine zz_iload_n (x := 6) rfl zd_14_12_7 ?_
              refine zz_icmp_ge (by omega) (by omega) zd_14_12_8 (fun c31 => ?_) (fun c31 => ?_)
              · refine zz_lload_n (x := p0) rfl zd_14_12_25 ?_
                refine zz_iload_n (x := 20) rfl zd_14_12_26 ?_
                refine zz_lushr zd_14_12_27 (fun v32 hv32 ev32 => ?_)
                refine zz_lconst (z := 1) (by decide) zd_14_12_28 ?_
                refine zz_iload_n (x := 6) rfl zd_14_12_29 ?_
                refine zz_callSI [zi 6] zd_14_12_30 zk_Md_215 rfl rfl ⟨Nat.le_of_ble_eq_true rfl, Nat.le_of_ble_eq_true rfl⟩ ⟨rfl, rfl⟩ (Nat.zero_le _) (Nat.zero_le _) (zc_bitsOf_14_11 6 S0 n hn G_S0 (by omega)) (fun v34 S33 hP => ?_)
                obtain ⟨rfl, o35, o36⟩ := hP
                obtain rfl : v34 = 6 := by omega
                refine zz_lshl zd_14_12_33 (fun v37 hv37 ev37 => ?_)
                have av37 := zz_sl1 (by omega) ev37
                refine zz_eqvl (v := 64) (by omega) ?_
                refine zz_lconst (z := 1) (by decide) zd_14_12_34 ?_
                refine zz_lsub zd_14_12_35 ?_
                refine zz_eqvl (v := 63) (by decide) ?_
                refine zz_land zd_14_12_36 (fun v38 hv38 ev38 => ?_)
                have av38 := zz_band64 (by omega) (by omega) ev38
                refine zz_l2i (by omega) zd_14_12_37 (fun v39 hv39 av39 ev39 => ?_)
                exact zz_iret zd_14_12_38 rfl (Nat.zero_le _) (Nat.zero_le _) ⟨_, _, rfl, rfl, by omega, by subst_vars; rfl⟩
              · exfalso; omega
-- TensorForgeModel fieldOf (JI)I
abbrev zr_fieldOf_14_12x_7 : Room := { frames := 1, cells := 0, slots := 0, locals := 16 }
def zp_fieldOf_14_12x_7 (p0 : Int) (S0 : zz_S) : Int → zz_S → Prop := fun r S => S0 = S ∧ (0 ≤ r ∧ r ≤ 31) ∧ (r = zz_fx p0 26 31)
theorem zc_fieldOf_14_12x_7 {g : mm_G} {l : Launch} (p0 : Int) (S0 : zz_S) (n : Nat) (hn : zz_end ≤ n) (G_S0 : zz_G S0) (hp0 : (-9223372036854775808) ≤ p0 ∧ p0 ≤ 9223372036854775807) : mm_Met g l zy_fieldOf_14_12 zr_fieldOf_14_12x_7 [zl p0, zi 7] (zz_M S0 n) n (zz_QI n (zp_fieldOf_14_12x_7 p0 S0)) := by
  refine zz_enter (by decide) (Nat.le_of_ble_eq_true rfl) (zz_less (ls1 := [some (zl p0), none, some (zi 7)]) ⟨rfl, ⟨rfl, trivial⟩⟩ ?_)
  refine zz_iconst zd_14_12_0 ?_
  refine zz_istore_n [some (zl p0), none, some (zi 7), some (zi 0)] zd_14_12_1 (by decide) rfl ?_
  refine zz_iconst zd_14_12_2 ?_
  refine zz_istore [some (zl p0), none, some (zi 7), some (zi 0), some (zi 0)] zd_14_12_3 (by decide) rfl ?_
  refine zz_iload (x := 0) rfl zd_14_12_5 ?_
  refine zz_iload_n (x := 7) rfl zd_14_12_7 ?_
  refine zz_icmp_ge (by omega) (by omega) zd_14_12_8 (fun c1 => ?_) (fun c1 => ?_)
  · exfalso; omega
  · refine zz_iload_n (x := 0) rfl zd_14_12_11 ?_
    refine zz_iload (x := 0) rfl zd_14_12_12 ?_
    refine zz_callSI [zi 0] zd_14_12_14 zk_Md_215 rfl rfl ⟨Nat.le_of_ble_eq_true rfl, Nat.le_of_ble_eq_true rfl⟩ ⟨rfl, rfl⟩ (Nat.zero_le _) (Nat.zero_le _) (zc_bitsOf_14_11 0 S0 n hn G_S0 (by omega)) (fun v3 S2 hP => ?_)
    obtain ⟨rfl, o4, o5⟩ := hP
    obtain rfl : v3 = 4 := by omega
    refine zz_iadd zd_14_12_17 ?_
    refine zz_eqv (v := 4) (by decide) ?_
    refine zz_istore_n [some (zl p0), none, some (zi 7), some (zi 4), some (zi 0)] zd_14_12_18 (by decide) rfl ?_
    refine zz_iinc [some (zl p0), none, some (zi 7), some (zi 4), some (zi 1)] zd_14_12_19 rfl rfl ?_
    refine zz_goto zd_14_12_22 ?_
    refine zz_iload (x := 1) rfl zd_14_12_5 ?_
    refine zz_iload_n (x := 7) rfl zd_14_12_7 ?_
    refine zz_icmp_ge (by omega) (by omega) zd_14_12_8 (fun c6 => ?_) (fun c6 => ?_)
    · exfalso; omega
    · refine zz_iload_n (x := 4) rfl zd_14_12_11 ?_
      refine zz_iload (x := 1) rfl zd_14_12_12 ?_
      refine zz_callSI [zi 1] zd_14_12_14 zk_Md_215 rfl rfl ⟨Nat.le_of_ble_eq_true rfl, Nat.le_of_ble_eq_true rfl⟩ ⟨rfl, rfl⟩ (Nat.zero_le _) (Nat.zero_le _) (zc_bitsOf_14_11 1 S0 n hn G_S0 (by omega)) (fun v8 S7 hP => ?_)
      obtain ⟨rfl, o9, o10⟩ := hP
      obtain rfl : v8 = 1 := by omega
      refine zz_iadd zd_14_12_17 ?_
      refine zz_eqv (v := 5) (by decide) ?_
      refine zz_istore_n [some (zl p0), none, some (zi 7), some (zi 5), some (zi 1)] zd_14_12_18 (by decide) rfl ?_
      refine zz_iinc [some (zl p0), none, some (zi 7), some (zi 5), some (zi 2)] zd_14_12_19 rfl rfl ?_
      refine zz_goto zd_14_12_22 ?_
      refine zz_iload (x := 2) rfl zd_14_12_5 ?_
      refine zz_iload_n (x := 7) rfl zd_14_12_7 ?_
      refine zz_icmp_ge (by omega) (by omega) zd_14_12_8 (fun c11 => ?_) (fun c11 => ?_)
      · exfalso; omega
      · refine zz_iload_n (x := 5) rfl zd_14_12_11 ?_
        refine zz_iload (x := 2) rfl zd_14_12_12 ?_
        refine zz_callSI [zi 2] zd_14_12_14 zk_Md_215 rfl rfl ⟨Nat.le_of_ble_eq_true rfl, Nat.le_of_ble_eq_true rfl⟩ ⟨rfl, rfl⟩ (Nat.zero_le _) (Nat.zero_le _) (zc_bitsOf_14_11 2 S0 n hn G_S0 (by omega)) (fun v13 S12 hP => ?_)
        obtain ⟨rfl, o14, o15⟩ := hP
        obtain rfl : v13 = 1 := by omega
        refine zz_iadd zd_14_12_17 ?_
        refine zz_eqv (v := 6) (by decide) ?_
        refine zz_istore_n [some (zl p0), none, some (zi 7), some (zi 6), some (zi 2)] zd_14_12_18 (by decide) rfl ?_
        refine zz_iinc [some (zl p0), none, some (zi 7), some (zi 6), some (zi 3)] zd_14_12_19 rfl rfl ?_
        refine zz_goto zd_14_12_22 ?_
        refine zz_iload (x := 3) rfl zd_14_12_5 ?_
        refine zz_iload_n (x := 7) rfl zd_14_12_7 ?_
        refine zz_icmp_ge (by omega) (by omega) zd_14_12_8 (fun c16 => ?_) (fun c16 => ?_)
        · exfalso; omega
        · refine zz_iload_n (x := 6) rfl zd_14_12_11 ?_
          refine zz_iload (x := 3) rfl zd_14_12_12 ?_
          refine zz_callSI [zi 3] zd_14_12_14 zk_Md_215 rfl rfl ⟨Nat.le_of_ble_eq_true rfl, Nat.le_of_ble_eq_true rfl⟩ ⟨rfl, rfl⟩ (Nat.zero_le _) (Nat.zero_le _) (zc_bitsOf_14_11 3 S0 n hn G_S0 (by omega)) (fun v18 S17 hP => ?_)
          obtain ⟨rfl, o19, o20⟩ := hP
          obtain rfl : v18 = 1 := by omega
          refine zz_iadd zd_14_12_17 ?_
          refine zz_eqv (v := 7) (by decide) ?_
          refine zz_istore_n [some (zl p0), none, some (zi 7), some (zi 7), some (zi 3)] zd_14_12_18 (by decide) rfl ?_
          refine zz_iinc [some (zl p0), none, some (zi 7), some (zi 7), some (zi 4)] zd_14_12_19 rfl rfl ?_
          refine zz_goto zd_14_12_22 ?_
          refine zz_iload (x := 4) rfl zd_14_12_5 ?_
          refine zz_iload_n (x := 7) rfl zd_14_12_7 ?_
          refine zz_icmp_ge (by omega) (by omega) zd_14_12_8 (fun c21 => ?_) (fun c21 => ?_)
          · exfalso; omega
          · refine zz_iload_n (x := 7) rfl zd_14_12_11 ?_
            refine zz_iload (x := 4) rfl zd_14_12_12 ?_
            refine zz_callSI [zi 4] zd_14_12_14 zk_Md_215 rfl rfl ⟨Nat.le_of_ble_eq_true rfl, Nat.le_of_ble_eq_true rfl⟩ ⟨rfl, rfl⟩ (Nat.zero_le _) (Nat.zero_le _) (zc_bitsOf_14_11 4 S0 n hn G_S0 (by omega)) (fun v23 S22 hP => ?_)
            obtain ⟨rfl, o24, o25⟩ := hP
            obtain rfl : v23 = 1 := by omega
            refine zz_iadd zd_14_12_17 ?_
            refine zz_eqv (v := 8) (by decide) ?_
            refine zz_istore_n [some (zl p0), none, some (zi 7), some (zi 8), some (zi 4)] zd_14_12_18 (by decide) rfl ?_
            refine zz_iinc [some (zl p0), none, some (zi 7), some (zi 8), some (zi 5)] zd_14_12_19 rfl rfl ?_
            refine zz_goto zd_14_12_22 ?_
            refine zz_iload (x := 5) rfl zd_14_12_5 ?_
            refine zz_iload_n (x := 7) rfl zd_14_12_7 ?_
            refine zz_icmp_ge (by omega) (by omega) zd_14_12_8 (fun c26 => ?_) (fun c26 => ?_)
            · exfalso; omega
            · refine zz_iload_n (x := 8) rfl zd_14_12_11 ?_
              refine zz_iload (x := 5) rfl zd_14_12_12 ?_
              refine zz_callSI [zi 5] zd_14_12_14 zk_Md_215 rfl rfl ⟨Nat.le_of_ble_eq_true rfl, Nat.le_of_ble_eq_true rfl⟩ ⟨rfl, rfl⟩ (Nat.zero_le _) (Nat.zero_le _) (zc_bitsOf_14_11 5 S0 n hn G_S0 (by omega)) (fun v28 S27 hP => ?_)
              obtain ⟨rfl, o29, o30⟩ := hP
              obtain rfl : v28 = 12 := by omega
              refine zz_iadd zd_14_12_17 ?_
              refine zz_eqv (v := 20) (by decide) ?_
              refine zz_istore_n [some (zl p0), none, some (zi 7), some (zi 20), some (zi 5)] zd_14_12_18 (by decide) rfl ?_
              refine zz_iinc [some (zl p0), none, some (zi 7), some (zi 20), some (zi 6)] zd_14_12_19 rfl rfl ?_
              refine zz_goto zd_14_12_22 ?_
              refine zz_iload (x := 6) rfl zd_14_12_5 ?_
              refine zz_iload_n (x := 7) rfl zd_14_12_7 ?_
              refine zz_icmp_ge (by omega) (by omega) zd_14_12_8 (fun c31 => ?_) (fun c31 => ?_)
              · exfalso; omega
              · refine zz_iload_n (x := 20) rfl zd_14_12_11 ?_
                refine zz_iload (x := 6) rfl zd_14_12_12 ?_
                refine zz_callSI [zi 6] zd_14_12_14 zk_Md_215 rfl rfl ⟨Nat.le_of_ble_eq_true rfl, Nat.le_of_ble_eq_true rfl⟩ ⟨rfl, rfl⟩ (Nat.zero_le _) (Nat.zero_le _) (zc_bitsOf_14_11 6 S0 n hn G_S0 (by omega)) (fun v33 S32 hP => ?_)
                obtain ⟨rfl, o34, o35⟩ := hP
                obtain rfl : v33 = 6 := by omega
                refine zz_iadd zd_14_12_17 ?_
                refine zz_eqv (v := 26) (by decide) ?_
                refine zz_istore_n [some (zl p0), none, some (zi 7), some (zi 26), some (zi 6)] zd_14_12_18 (by decide) rfl ?_
                refine zz_iinc [some (zl p0), none, some (zi 7), some (zi 26), some (zi 7)] zd_14_12_19 rfl rfl ?_
                refine zz_goto zd_14_12_22 ?_
                refine zz_iload (x := 7) rfl zd_14_12_5 ?_
                refine zz_iload_n (x := 7) rfl zd_14_12_7 ?_
                refine zz_icmp_ge (by omega) (by omega) zd_14_12_8 (fun c36 => ?_) (fun c36 => ?_)
                · refine zz_lload_n (x := p0) rfl zd_14_12_25 ?_
                  refine zz_iload_n (x := 26) rfl zd_14_12_26 ?_
                  refine zz_lushr zd_14_12_27 (fun v37 hv37 ev37 => ?_)
                  refine zz_lconst (z := 1) (by decide) zd_14_12_28 ?_
                  refine zz_iload_n (x := 7) rfl zd_14_12_29 ?_
                  refine zz_callSI [zi 7] zd_14_12_30 zk_Md_215 rfl rfl ⟨Nat.le_of_ble_eq_true rfl, Nat.le_of_ble_eq_true rfl⟩ ⟨rfl, rfl⟩ (Nat.zero_le _) (Nat.zero_le _) (zc_bitsOf_14_11 7 S0 n hn G_S0 (by omega)) (fun v39 S38 hP => ?_)
                  obtain ⟨rfl, o40, o41⟩ := hP
                  obtain rfl : v39 = 5 := by omega
                  refine zz_lshl zd_14_12_33 (fun v42 hv42 ev42 => ?_)
                  have av42 := zz_sl1 (by omega) ev42
                  refine zz_eqvl (v := 32) (by omega) ?_
                  refine zz_lconst (z := 1) (by decide) zd_14_12_34 ?_
                  refine zz_lsub zd_14_12_35 ?_
                  refine zz_eqvl (v := 31) (by decide) ?_
                  refine zz_land zd_14_12_36 (fun v43 hv43 ev43 => ?_)
                  have av43 := zz_band64 (by omega) (by omega) ev43
                  refine zz_l2i (by omega) zd_14_12_37 (fun v44 hv44 av44 ev44 => ?_)
                  exact zz_iret zd_14_12_38 rfl (Nat.zero_le _) (Nat.zero_le _) ⟨_, _, rfl, rfl, by omega, by subst_vars; rfl⟩
                · exfalso; omega
-- TensorForgeModel fieldOf (JI)I
abbrev zr_fieldOf_14_12x_8 : Room := { frames := 1, cells := 0, slots := 0, locals := 16 }
def zp_fieldOf_14_12x_8 (p0 : Int) (S0 : zz_S) : Int → zz_S → Prop := fun r S => S0 = S ∧ (0 ≤ r ∧ r ≤ 511) ∧ (r = zz_fx p0 31 511)
theorem zc_fieldOf_14_12x_8 {g : mm_G} {l : Launch} (p0 : Int) (S0 : zz_S) (n : Nat) (hn : zz_end ≤ n) (G_S0 : zz_G S0) (hp0 : (-9223372036854775808) ≤ p0 ∧ p0 ≤ 9223372036854775807) : mm_Met g l zy_fieldOf_14_12 zr_fieldOf_14_12x_8 [zl p0, zi 8] (zz_M S0 n) n (zz_QI n (zp_fieldOf_14_12x_8 p0 S0)) := by
  refine zz_enter (by decide) (Nat.le_of_ble_eq_true rfl) (zz_less (ls1 := [some (zl p0), none, some (zi 8)]) ⟨rfl, ⟨rfl, trivial⟩⟩ ?_)
  refine zz_iconst zd_14_12_0 ?_
  refine zz_istore_n [some (zl p0), none, some (zi 8), some (zi 0)] zd_14_12_1 (by decide) rfl ?_
  refine zz_iconst zd_14_12_2 ?_
  refine zz_istore [some (zl p0), none, some (zi 8), some (zi 0), some (zi 0)] zd_14_12_3 (by decide) rfl ?_
  refine zz_iload (x := 0) rfl zd_14_12_5 ?_
  refine zz_iload_n (x := 8) rfl zd_14_12_7 ?_
  refine zz_icmp_ge (by omega) (by omega) zd_14_12_8 (fun c1 => ?_) (fun c1 => ?_)
  · exfalso; omega
  · refine zz_iload_n (x := 0) rfl zd_14_12_11 ?_
    refine zz_iload (x := 0) rfl zd_14_12_12 ?_
    refine zz_callSI [zi 0] zd_14_12_14 zk_Md_215 rfl rfl ⟨Nat.le_of_ble_eq_true rfl, Nat.le_of_ble_eq_true rfl⟩ ⟨rfl, rfl⟩ (Nat.zero_le _) (Nat.zero_le _) (zc_bitsOf_14_11 0 S0 n hn G_S0 (by omega)) (fun v3 S2 hP => ?_)
    obtain ⟨rfl, o4, o5⟩ := hP
    obtain rfl : v3 = 4 := by omega
    refine zz_iadd zd_14_12_17 ?_
    refine zz_eqv (v := 4) (by decide) ?_
    refine zz_istore_n [some (zl p0), none, some (zi 8), some (zi 4), some (zi 0)] zd_14_12_18 (by decide) rfl ?_
    refine zz_iinc [some (zl p0), none, some (zi 8), some (zi 4), some (zi 1)] zd_14_12_19 rfl rfl ?_
    refine zz_goto zd_14_12_22 ?_
    refine zz_iload (x := 1) rfl zd_14_12_5 ?_
    refine zz_iload_n (x := 8) rfl zd_14_12_7 ?_
    refine zz_icmp_ge (by omega) (by omega) zd_14_12_8 (fun c6 => ?_) (fun c6 => ?_)
    · exfalso; omega
    · refine zz_iload_n (x := 4) rfl zd_14_12_11 ?_
      refine zz_iload (x := 1) rfl zd_14_12_12 ?_
      refine zz_callSI [zi 1] zd_14_12_14 zk_Md_215 rfl rfl ⟨Nat.le_of_ble_eq_true rfl, Nat.le_of_ble_eq_true rfl⟩ ⟨rfl, rfl⟩ (Nat.zero_le _) (Nat.zero_le _) (zc_bitsOf_14_11 1 S0 n hn G_S0 (by omega)) (fun v8 S7 hP => ?_)
      obtain ⟨rfl, o9, o10⟩ := hP
      obtain rfl : v8 = 1 := by omega
      refine zz_iadd zd_14_12_17 ?_
      refine zz_eqv (v := 5) (by decide) ?_
      refine zz_istore_n [some (zl p0), none, some (zi 8), some (zi 5), some (zi 1)] zd_14_12_18 (by decide) rfl ?_
      refine zz_iinc [some (zl p0), none, some (zi 8), some (zi 5), some (zi 2)] zd_14_12_19 rfl rfl ?_
      refine zz_goto zd_14_12_22 ?_
      refine zz_iload (x := 2) rfl zd_14_12_5 ?_
      refine zz_iload_n (x := 8) rfl zd_14_12_7 ?_
      refine zz_icmp_ge (by omega) (by omega) zd_14_12_8 (fun c11 => ?_) (fun c11 => ?_)
      · exfalso; omega
      · refine zz_iload_n (x := 5) rfl zd_14_12_11 ?_
        refine zz_iload (x := 2) rfl zd_14_12_12 ?_
        refine zz_callSI [zi 2] zd_14_12_14 zk_Md_215 rfl rfl ⟨Nat.le_of_ble_eq_true rfl, Nat.le_of_ble_eq_true rfl⟩ ⟨rfl, rfl⟩ (Nat.zero_le _) (Nat.zero_le _) (zc_bitsOf_14_11 2 S0 n hn G_S0 (by omega)) (fun v13 S12 hP => ?_)
        obtain ⟨rfl, o14, o15⟩ := hP
        obtain rfl : v13 = 1 := by omega
        refine zz_iadd zd_14_12_17 ?_
        refine zz_eqv (v := 6) (by decide) ?_
        refine zz_istore_n [some (zl p0), none, some (zi 8), some (zi 6), some (zi 2)] zd_14_12_18 (by decide) rfl ?_
        refine zz_iinc [some (zl p0), none, some (zi 8), some (zi 6), some (zi 3)] zd_14_12_19 rfl rfl ?_
        refine zz_goto zd_14_12_22 ?_
        refine zz_iload (x := 3) rfl zd_14_12_5 ?_
        refine zz_iload_n (x := 8) rfl zd_14_12_7 ?_
        refine zz_icmp_ge (by omega) (by omega) zd_14_12_8 (fun c16 => ?_) (fun c16 => ?_)
        · exfalso; omega
        · refine zz_iload_n (x := 6) rfl zd_14_12_11 ?_
          refine zz_iload (x := 3) rfl zd_14_12_12 ?_
          refine zz_callSI [zi 3] zd_14_12_14 zk_Md_215 rfl rfl ⟨Nat.le_of_ble_eq_true rfl, Nat.le_of_ble_eq_true rfl⟩ ⟨rfl, rfl⟩ (Nat.zero_le _) (Nat.zero_le _) (zc_bitsOf_14_11 3 S0 n hn G_S0 (by omega)) (fun v18 S17 hP => ?_)
          obtain ⟨rfl, o19, o20⟩ := hP
          obtain rfl : v18 = 1 := by omega
          refine zz_iadd zd_14_12_17 ?_
          refine zz_eqv (v := 7) (by decide) ?_
          refine zz_istore_n [some (zl p0), none, some (zi 8), some (zi 7), some (zi 3)] zd_14_12_18 (by decide) rfl ?_
          refine zz_iinc [some (zl p0), none, some (zi 8), some (zi 7), some (zi 4)] zd_14_12_19 rfl rfl ?_
          refine zz_goto zd_14_12_22 ?_
          refine zz_iload (x := 4) rfl zd_14_12_5 ?_
          refine zz_iload_n (x := 8) rfl zd_14_12_7 ?_
          refine zz_icmp_ge (by omega) (by omega) zd_14_12_8 (fun c21 => ?_) (fun c21 => ?_)
          · exfalso; omega
          · refine zz_iload_n (x := 7) rfl zd_14_12_11 ?_
            refine zz_iload (x := 4) rfl zd_14_12_12 ?_
            refine zz_callSI [zi 4] zd_14_12_14 zk_Md_215 rfl rfl ⟨Nat.le_of_ble_eq_true rfl, Nat.le_of_ble_eq_true rfl⟩ ⟨rfl, rfl⟩ (Nat.zero_le _) (Nat.zero_le _) (zc_bitsOf_14_11 4 S0 n hn G_S0 (by omega)) (fun v23 S22 hP => ?_)
            obtain ⟨rfl, o24, o25⟩ := hP
            obtain rfl : v23 = 1 := by omega
            refine zz_iadd zd_14_12_17 ?_
            refine zz_eqv (v := 8) (by decide) ?_
            refine zz_istore_n [some (zl p0), none, some (zi 8), some (zi 8), some (zi 4)] zd_14_12_18 (by decide) rfl ?_
            refine zz_iinc [some (zl p0), none, some (zi 8), some (zi 8), some (zi 5)] zd_14_12_19 rfl rfl ?_
            refine zz_goto zd_14_12_22 ?_
            refine zz_iload (x := 5) rfl zd_14_12_5 ?_
            refine zz_iload_n (x := 8) rfl zd_14_12_7 ?_
            refine zz_icmp_ge (by omega) (by omega) zd_14_12_8 (fun c26 => ?_) (fun c26 => ?_)
            · exfalso; omega
            · refine zz_iload_n (x := 8) rfl zd_14_12_11 ?_
              refine zz_iload (x := 5) rfl zd_14_12_12 ?_
              refine zz_callSI [zi 5] zd_14_12_14 zk_Md_215 rfl rfl ⟨Nat.le_of_ble_eq_true rfl, Nat.le_of_ble_eq_true rfl⟩ ⟨rfl, rfl⟩ (Nat.zero_le _) (Nat.zero_le _) (zc_bitsOf_14_11 5 S0 n hn G_S0 (by omega)) (fun v28 S27 hP => ?_)
              obtain ⟨rfl, o29, o30⟩ := hP
              obtain rfl : v28 = 12 := by omega
              refine zz_iadd zd_14_12_17 ?_
              refine zz_eqv (v := 20) (by decide) ?_
              refine zz_istore_n [some (zl p0), none, some (zi 8), some (zi 20), some (zi 5)] zd_14_12_18 (by decide) rfl ?_
              refine zz_iinc [some (zl p0), none, some (zi 8), some (zi 20), some (zi 6)] zd_14_12_19 rfl rfl ?_
              refine zz_goto zd_14_12_22 ?_
              refine zz_iload (x := 6) rfl zd_14_12_5 ?_
              refine zz_iload_n (x := 8) rfl zd_14_12_7 ?_
              refine zz_icmp_ge (by omega) (by omega) zd_14_12_8 (fun c31 => ?_) (fun c31 => ?_)
              · exfalso; omega
              · refine zz_iload_n (x := 20) rfl zd_14_12_11 ?_
                refine zz_iload (x := 6) rfl zd_14_12_12 ?_
                refine zz_callSI [zi 6] zd_14_12_14 zk_Md_215 rfl rfl ⟨Nat.le_of_ble_eq_true rfl, Nat.le_of_ble_eq_true rfl⟩ ⟨rfl, rfl⟩ (Nat.zero_le _) (Nat.zero_le _) (zc_bitsOf_14_11 6 S0 n hn G_S0 (by omega)) (fun v33 S32 hP => ?_)
                obtain ⟨rfl, o34, o35⟩ := hP
                obtain rfl : v33 = 6 := by omega
                refine zz_iadd zd_14_12_17 ?_
                refine zz_eqv (v := 26) (by decide) ?_
                refine zz_istore_n [some (zl p0), none, some (zi 8), some (zi 26), some (zi 6)] zd_14_12_18 (by decide) rfl ?_
                refine zz_iinc [some (zl p0), none, some (zi 8), some (zi 26), some (zi 7)] zd_14_12_19 rfl rfl ?_
                refine zz_goto zd_14_12_22 ?_
                refine zz_iload (x := 7) rfl zd_14_12_5 ?_
                refine zz_iload_n (x := 8) rfl zd_14_12_7 ?_
                refine zz_icmp_ge (by omega) (by omega) zd_14_12_8 (fun c36 => ?_) (fun c36 => ?_)
                · exfalso; omega
                · refine zz_iload_n (x := 26) rfl zd_14_12_11 ?_
                  refine zz_iload (x := 7) rfl zd_14_12_12 ?_
                  refine zz_callSI [zi 7] zd_14_12_14 zk_Md_215 rfl rfl ⟨Nat.le_of_ble_eq_true rfl, Nat.le_of_ble_eq_true rfl⟩ ⟨rfl, rfl⟩ (Nat.zero_le _) (Nat.zero_le _) (zc_bitsOf_14_11 7 S0 n hn G_S0 (by omega)) (fun v38 S37 hP => ?_)
                  obtain ⟨rfl, o39, o40⟩ := hP
                  obtain rfl : v38 = 5 := by omega
                  refine zz_iadd zd_14_12_17 ?_
                  refine zz_eqv (v := 31) (by decide) ?_
                  refine zz_istore_n [some (zl p0), none, some (zi 8), some (zi 31), some (zi 7)] zd_14_12_18 (by decide) rfl ?_
                  refine zz_iinc [some (zl p0), none, some (zi 8), some (zi 31), some (zi 8)] zd_14_12_19 rfl rfl ?_
                  refine zz_goto zd_14_12_22 ?_
                  refine zz_iload (x := 8) rfl zd_14_12_5 ?_
                  refine zz_iload_n (x := 8) rfl zd_14_12_7 ?_
                  refine zz_icmp_ge (by omega) (by omega) zd_14_12_8 (fun c41 => ?_) (fun c41 => ?_)
                  · refine zz_lload_n (x := p0) rfl zd_14_12_25 ?_
                    refine zz_iload_n (x := 31) rfl zd_14_12_26 ?_
                    refine zz_lushr zd_14_12_27 (fun v42 hv42 ev42 => ?_)
                    refine zz_lconst (z := 1) (by decide) zd_14_12_28 ?_
                    refine zz_iload_n (x := 8) rfl zd_14_12_29 ?_
                    refine zz_callSI [zi 8] zd_14_12_30 zk_Md_215 rfl rfl ⟨Nat.le_of_ble_eq_true rfl, Nat.le_of_ble_eq_true rfl⟩ ⟨rfl, rfl⟩ (Nat.zero_le _) (Nat.zero_le _) (zc_bitsOf_14_11 8 S0 n hn G_S0 (by omega)) (fun v44 S43 hP => ?_)
                    obtain ⟨rfl, o45, o46⟩ := hP
                    obtain rfl : v44 = 9 := by omega
                    refine zz_lshl zd_14_12_33 (fun v47 hv47 ev47 => ?_)
                    have av47 := zz_sl1 (by omega) ev47
                    refine zz_eqvl (v := 512) (by omega) ?_
                    refine zz_lconst (z := 1) (by decide) zd_14_12_34 ?_
                    refine zz_lsub zd_14_12_35 ?_
                    refine zz_eqvl (v := 511) (by decide) ?_
                    refine zz_land zd_14_12_36 (fun v48 hv48 ev48 => ?_)
                    have av48 := zz_band64 (by omega) (by omega) ev48
                    refine zz_l2i (by omega) zd_14_12_37 (fun v49 hv49 av49 ev49 => ?_)
                    exact zz_iret zd_14_12_38 rfl (Nat.zero_le _) (Nat.zero_le _) ⟨_, _, rfl, rfl, by omega, by subst_vars; rfl⟩
                  · exfalso; omega
-- TensorForgeModel fieldOf (JI)I
abbrev zr_fieldOf_14_12x_9 : Room := { frames := 1, cells := 0, slots := 0, locals := 16 }
def zp_fieldOf_14_12x_9 (p0 : Int) (S0 : zz_S) : Int → zz_S → Prop := fun r S => S0 = S ∧ (0 ≤ r ∧ r ≤ 511) ∧ (r = zz_fx p0 40 511)
theorem zc_fieldOf_14_12x_9 {g : mm_G} {l : Launch} (p0 : Int) (S0 : zz_S) (n : Nat) (hn : zz_end ≤ n) (G_S0 : zz_G S0) (hp0 : (-9223372036854775808) ≤ p0 ∧ p0 ≤ 9223372036854775807) : mm_Met g l zy_fieldOf_14_12 zr_fieldOf_14_12x_9 [zl p0, zi 9] (zz_M S0 n) n (zz_QI n (zp_fieldOf_14_12x_9 p0 S0)) := by
  refine zz_enter (by decide) (Nat.le_of_ble_eq_true rfl) (zz_less (ls1 := [some (zl p0), none, some (zi 9)]) ⟨rfl, ⟨rfl, trivial⟩⟩ ?_)
  refine zz_iconst zd_14_12_0 ?_
  refine zz_istore_n [some (zl p0), none, some (zi 9), some (zi 0)] zd_14_12_1 (by decide) rfl ?_
  refine zz_iconst zd_14_12_2 ?_
  refine zz_istore [some (zl p0), none, some (zi 9), some (zi 0), some (zi 0)] zd_14_12_3 (by decide) rfl ?_
  refine zz_iload (x := 0) rfl zd_14_12_5 ?_
  refine zz_iload_n (x := 9) rfl zd_14_12_7 ?_
  refine zz_icmp_ge (by omega) (by omega) zd_14_12_8 (fun c1 => ?_) (fun c1 => ?_)
  · exfalso; omega
  · refine zz_iload_n (x := 0) rfl zd_14_12_11 ?_
    refine zz_iload (x := 0) rfl zd_14_12_12 ?_
    refine zz_callSI [zi 0] zd_14_12_14 zk_Md_215 rfl rfl ⟨Nat.le_of_ble_eq_true rfl, Nat.le_of_ble_eq_true rfl⟩ ⟨rfl, rfl⟩ (Nat.zero_le _) (Nat.zero_le _) (zc_bitsOf_14_11 0 S0 n hn G_S0 (by omega)) (fun v3 S2 hP => ?_)
    obtain ⟨rfl, o4, o5⟩ := hP
    obtain rfl : v3 = 4 := by omega
    refine zz_iadd zd_14_12_17 ?_
    refine zz_eqv (v := 4) (by decide) ?_
    refine zz_istore_n [some (zl p0), none, some (zi 9), some (zi 4), some (zi 0)] zd_14_12_18 (by decide) rfl ?_
    refine zz_iinc [some (zl p0), none, some (zi 9), some (zi 4), some (zi 1)] zd_14_12_19 rfl rfl ?_
    refine zz_goto zd_14_12_22 ?_
    refine zz_iload (x := 1) rfl zd_14_12_5 ?_
    refine zz_iload_n (x := 9) rfl zd_14_12_7 ?_
    refine zz_icmp_ge (by omega) (by omega) zd_14_12_8 (fun c6 => ?_) (fun c6 => ?_)
    · exfalso; omega
    · refine zz_iload_n (x := 4) rfl zd_14_12_11 ?_
      refine zz_iload (x := 1) rfl zd_14_12_12 ?_
      refine zz_callSI [zi 1] zd_14_12_14 zk_Md_215 rfl rfl ⟨Nat.le_of_ble_eq_true rfl, Nat.le_of_ble_eq_true rfl⟩ ⟨rfl, rfl⟩ (Nat.zero_le _) (Nat.zero_le _) (zc_bitsOf_14_11 1 S0 n hn G_S0 (by omega)) (fun v8 S7 hP => ?_)
      obtain ⟨rfl, o9, o10⟩ := hP
      obtain rfl : v8 = 1 := by omega
      refine zz_iadd zd_14_12_17 ?_
      refine zz_eqv (v := 5) (by decide) ?_
      refine zz_istore_n [some (zl p0), none, some (zi 9), some (zi 5), some (zi 1)] zd_14_12_18 (by decide) rfl ?_
      refine zz_iinc [some (zl p0), none, some (zi 9), some (zi 5), some (zi 2)] zd_14_12_19 rfl rfl ?_
      refine zz_goto zd_14_12_22 ?_
      refine zz_iload (x := 2) rfl zd_14_12_5 ?_
      refine zz_iload_n (x := 9) rfl zd_14_12_7 ?_
      refine zz_icmp_ge (by omega) (by omega) zd_14_12_8 (fun c11 => ?_) (fun c11 => ?_)
      · exfalso; omega
      · refine zz_iload_n (x := 5) rfl zd_14_12_11 ?_
        refine zz_iload (x := 2) rfl zd_14_12_12 ?_
        refine zz_callSI [zi 2] zd_14_12_14 zk_Md_215 rfl rfl ⟨Nat.le_of_ble_eq_true rfl, Nat.le_of_ble_eq_true rfl⟩ ⟨rfl, rfl⟩ (Nat.zero_le _) (Nat.zero_le _) (zc_bitsOf_14_11 2 S0 n hn G_S0 (by omega)) (fun v13 S12 hP => ?_)
        obtain ⟨rfl, o14, o15⟩ := hP
        obtain rfl : v13 = 1 := by omega
        refine zz_iadd zd_14_12_17 ?_
        refine zz_eqv (v := 6) (by decide) ?_
        refine zz_istore_n [some (zl p0), none, some (zi 9), some (zi 6), some (zi 2)] zd_14_12_18 (by decide) rfl ?_
        refine zz_iinc [some (zl p0), none, some (zi 9), some (zi 6), some (zi 3)] zd_14_12_19 rfl rfl ?_
        refine zz_goto zd_14_12_22 ?_
        refine zz_iload (x := 3) rfl zd_14_12_5 ?_
        refine zz_iload_n (x := 9) rfl zd_14_12_7 ?_
        refine zz_icmp_ge (by omega) (by omega) zd_14_12_8 (fun c16 => ?_) (fun c16 => ?_)
        · exfalso; omega
        · refine zz_iload_n (x := 6) rfl zd_14_12_11 ?_
          refine zz_iload (x := 3) rfl zd_14_12_12 ?_
          refine zz_callSI [zi 3] zd_14_12_14 zk_Md_215 rfl rfl ⟨Nat.le_of_ble_eq_true rfl, Nat.le_of_ble_eq_true rfl⟩ ⟨rfl, rfl⟩ (Nat.zero_le _) (Nat.zero_le _) (zc_bitsOf_14_11 3 S0 n hn G_S0 (by omega)) (fun v18 S17 hP => ?_)
          obtain ⟨rfl, o19, o20⟩ := hP
          obtain rfl : v18 = 1 := by omega
          refine zz_iadd zd_14_12_17 ?_
          refine zz_eqv (v := 7) (by decide) ?_
          refine zz_istore_n [some (zl p0), none, some (zi 9), some (zi 7), some (zi 3)] zd_14_12_18 (by decide) rfl ?_
          refine zz_iinc [some (zl p0), none, some (zi 9), some (zi 7), some (zi 4)] zd_14_12_19 rfl rfl ?_
          refine zz_goto zd_14_12_22 ?_
          refine zz_iload (x := 4) rfl zd_14_12_5 ?_
          refine zz_iload_n (x := 9) rfl zd_14_12_7 ?_
          refine zz_icmp_ge (by omega) (by omega) zd_14_12_8 (fun c21 => ?_) (fun c21 => ?_)
          · exfalso; omega
          · refine zz_iload_n (x := 7) rfl zd_14_12_11 ?_
            refine zz_iload (x := 4) rfl zd_14_12_12 ?_
            refine zz_callSI [zi 4] zd_14_12_14 zk_Md_215 rfl rfl ⟨Nat.le_of_ble_eq_true rfl, Nat.le_of_ble_eq_true rfl⟩ ⟨rfl, rfl⟩ (Nat.zero_le _) (Nat.zero_le _) (zc_bitsOf_14_11 4 S0 n hn G_S0 (by omega)) (fun v23 S22 hP => ?_)
            obtain ⟨rfl, o24, o25⟩ := hP
            obtain rfl : v23 = 1 := by omega
            refine zz_iadd zd_14_12_17 ?_
            refine zz_eqv (v := 8) (by decide) ?_
            refine zz_istore_n [some (zl p0), none, some (zi 9), some (zi 8), some (zi 4)] zd_14_12_18 (by decide) rfl ?_
            refine zz_iinc [some (zl p0), none, some (zi 9), some (zi 8), some (zi 5)] zd_14_12_19 rfl rfl ?_
            refine zz_goto zd_14_12_22 ?_
            refine zz_iload (x := 5) rfl zd_14_12_5 ?_
            refine zz_iload_n (x := 9) rfl zd_14_12_7 ?_
            refine zz_icmp_ge (by omega) (by omega) zd_14_12_8 (fun c26 => ?_) (fun c26 => ?_)
            · exfalso; omega
            · refine zz_iload_n (x := 8) rfl zd_14_12_11 ?_
              refine zz_iload (x := 5) rfl zd_14_12_12 ?_
              refine zz_callSI [zi 5] zd_14_12_14 zk_Md_215 rfl rfl ⟨Nat.le_of_ble_eq_true rfl, Nat.le_of_ble_eq_true rfl⟩ ⟨rfl, rfl⟩ (Nat.zero_le _) (Nat.zero_le _) (zc_bitsOf_14_11 5 S0 n hn G_S0 (by omega)) (fun v28 S27 hP => ?_)
              obtain ⟨rfl, o29, o30⟩ := hP
              obtain rfl : v28 = 12 := by omega
              refine zz_iadd zd_14_12_17 ?_
              refine zz_eqv (v := 20) (by decide) ?_
              refine zz_istore_n [some (zl p0), none, some (zi 9), some (zi 20), some (zi 5)] zd_14_12_18 (by decide) rfl ?_
              refine zz_iinc [some (zl p0), none, some (zi 9), some (zi 20), some (zi 6)] zd_14_12_19 rfl rfl ?_
              refine zz_goto zd_14_12_22 ?_
              refine zz_iload (x := 6) rfl zd_14_12_5 ?_
              refine zz_iload_n (x := 9) rfl zd_14_12_7 ?_
              refine zz_icmp_ge (by omega) (by omega) zd_14_12_8 (fun c31 => ?_) (fun c31 => ?_)
              · exfalso; omega
              · refine zz_iload_n (x := 20) rfl zd_14_12_11 ?_
                refine zz_iload (x := 6) rfl zd_14_12_12 ?_
                refine zz_callSI [zi 6] zd_14_12_14 zk_Md_215 rfl rfl ⟨Nat.le_of_ble_eq_true rfl, Nat.le_of_ble_eq_true rfl⟩ ⟨rfl, rfl⟩ (Nat.zero_le _) (Nat.zero_le _) (zc_bitsOf_14_11 6 S0 n hn G_S0 (by omega)) (fun v33 S32 hP => ?_)
                obtain ⟨rfl, o34, o35⟩ := hP
                obtain rfl : v33 = 6 := by omega
                refine zz_iadd zd_14_12_17 ?_
                refine zz_eqv (v := 26) (by decide) ?_
                refine zz_istore_n [some (zl p0), none, some (zi 9), some (zi 26), some (zi 6)] zd_14_12_18 (by decide) rfl ?_
                refine zz_iinc [some (zl p0), none, some (zi 9), some (zi 26), some (zi 7)] zd_14_12_19 rfl rfl ?_
                refine zz_goto zd_14_12_22 ?_
                refine zz_iload (x := 7) rfl zd_14_12_5 ?_
                refine zz_iload_n (x := 9) rfl zd_14_12_7 ?_
                refine zz_icmp_ge (by omega) (by omega) zd_14_12_8 (fun c36 => ?_) (fun c36 => ?_)
                · exfalso; omega
                · refine zz_iload_n (x := 26) rfl zd_14_12_11 ?_
                  refine zz_iload (x := 7) rfl zd_14_12_12 ?_
                  refine zz_callSI [zi 7] zd_14_12_14 zk_Md_215 rfl rfl ⟨Nat.le_of_ble_eq_true rfl, Nat.le_of_ble_eq_true rfl⟩ ⟨rfl, rfl⟩ (Nat.zero_le _) (Nat.zero_le _) (zc_bitsOf_14_11 7 S0 n hn G_S0 (by omega)) (fun v38 S37 hP => ?_)
                  obtain ⟨rfl, o39, o40⟩ := hP
                  obtain rfl : v38 = 5 := by omega
                  refine zz_iadd zd_14_12_17 ?_
                  refine zz_eqv (v := 31) (by decide) ?_
                  refine zz_istore_n [some (zl p0), none, some (zi 9), some (zi 31), some (zi 7)] zd_14_12_18 (by decide) rfl ?_
                  refine zz_iinc [some (zl p0), none, some (zi 9), some (zi 31), some (zi 8)] zd_14_12_19 rfl rfl ?_
                  refine zz_goto zd_14_12_22 ?_
                  refine zz_iload (x := 8) rfl zd_14_12_5 ?_
                  refine zz_iload_n (x := 9) rfl zd_14_12_7 ?_
                  refine zz_icmp_ge (by omega) (by omega) zd_14_12_8 (fun c41 => ?_) (fun c41 => ?_)
                  · exfalso; omega
                  · refine zz_iload_n (x := 31) rfl zd_14_12_11 ?_
                    refine zz_iload (x := 8) rfl zd_14_12_12 ?_
                    refine zz_callSI [zi 8] zd_14_12_14 zk_Md_215 rfl rfl ⟨Nat.le_of_ble_eq_true rfl, Nat.le_of_ble_eq_true rfl⟩ ⟨rfl, rfl⟩ (Nat.zero_le _) (Nat.zero_le _) (zc_bitsOf_14_11 8 S0 n hn G_S0 (by omega)) (fun v43 S42 hP => ?_)
                    obtain ⟨rfl, o44, o45⟩ := hP
                    obtain rfl : v43 = 9 := by omega
                    refine zz_iadd zd_14_12_17 ?_
                    refine zz_eqv (v := 40) (by decide) ?_
                    refine zz_istore_n [some (zl p0), none, some (zi 9), some (zi 40), some (zi 8)] zd_14_12_18 (by decide) rfl ?_
                    refine zz_iinc [some (zl p0), none, some (zi 9), some (zi 40), some (zi 9)] zd_14_12_19 rfl rfl ?_
                    refine zz_goto zd_14_12_22 ?_
                    refine zz_iload (x := 9) rfl zd_14_12_5 ?_
                    refine zz_iload_n (x := 9) rfl zd_14_12_7 ?_
                    refine zz_icmp_ge (by omega) (by omega) zd_14_12_8 (fun c46 => ?_) (fun c46 => ?_)
                    · refine zz_lload_n (x := p0) rfl zd_14_12_25 ?_
                      refine zz_iload_n (x := 40) rfl zd_14_12_26 ?_
                      refine zz_lushr zd_14_12_27 (fun v47 hv47 ev47 => ?_)
                      refine zz_lconst (z := 1) (by decide) zd_14_12_28 ?_
                      refine zz_iload_n (x := 9) rfl zd_14_12_29 ?_
                      refine zz_callSI [zi 9] zd_14_12_30 zk_Md_215 rfl rfl ⟨Nat.le_of_ble_eq_true rfl, Nat.le_of_ble_eq_true rfl⟩ ⟨rfl, rfl⟩ (Nat.zero_le _) (Nat.zero_le _) (zc_bitsOf_14_11 9 S0 n hn G_S0 (by omega)) (fun v49 S48 hP => ?_)
                      obtain ⟨rfl, o50, o51⟩ := hP
                      obtain rfl : v49 = 9 := by omega
                      refine zz_lshl zd_14_12_33 (fun v52 hv52 ev52 => ?_)
                      have av52 := zz_sl1 (by omega) ev52
                      refine zz_eqvl (v := 512) (by omega) ?_
                      refine zz_lconst (z := 1) (by decide) zd_14_12_34 ?_
                      refine zz_lsub zd_14_12_35 ?_
                      refine zz_eqvl (v := 511) (by decide) ?_
                      refine zz_land zd_14_12_36 (fun v53 hv53 ev53 => ?_)
                      have av53 := zz_band64 (by omega) (by omega) ev53
                      refine zz_l2i (by omega) zd_14_12_37 (fun v54 hv54 av54 ev54 => ?_)
                      exact zz_iret zd_14_12_38 rfl (Nat.zero_le _) (Nat.zero_le _) ⟨_, _, rfl, rfl, by omega, by subst_vars; rfl⟩
                    · exfalso; omega
-- TensorForgeModel fieldOf (JI)I
abbrev zr_fieldOf_14_12x_10 : Room := { frames := 1, cells := 0, slots := 0, locals := 16 }
def zp_fieldOf_14_12x_10 (p0 : Int) (S0 : zz_S) : Int → zz_S → Prop := fun r S => S0 = S ∧ (0 ≤ r ∧ r ≤ 1023) ∧ (r = zz_fx p0 49 1023)
theorem zc_fieldOf_14_12x_10 {g : mm_G} {l : Launch} (p0 : Int) (S0 : zz_S) (n : Nat) (hn : zz_end ≤ n) (G_S0 : zz_G S0) (hp0 : (-9223372036854775808) ≤ p0 ∧ p0 ≤ 9223372036854775807) : mm_Met g l zy_fieldOf_14_12 zr_fieldOf_14_12x_10 [zl p0, zi 10] (zz_M S0 n) n (zz_QI n (zp_fieldOf_14_12x_10 p0 S0)) := by
  refine zz_enter (by decide) (Nat.le_of_ble_eq_true rfl) (zz_less (ls1 := [some (zl p0), none, some (zi 10)]) ⟨rfl, ⟨rfl, trivial⟩⟩ ?_)
  refine zz_iconst zd_14_12_0 ?_
  refine zz_istore_n [some (zl p0), none, some (zi 10), some (zi 0)] zd_14_12_1 (by decide) rfl ?_
  refine zz_iconst zd_14_12_2 ?_
  refine zz_istore [some (zl p0), none, some (zi 10), some (zi 0), some (zi 0)] zd_14_12_3 (by decide) rfl ?_
  refine zz_iload (x := 0) rfl zd_14_12_5 ?_
  refine zz_iload_n (x := 10) rfl zd_14_12_7 ?_
  refine zz_icmp_ge (by omega) (by omega) zd_14_12_8 (fun c1 => ?_) (fun c1 => ?_)
  · exfalso; omega
  · refine zz_iload_n (x := 0) rfl zd_14_12_11 ?_
    refine zz_iload (x := 0) rfl zd_14_12_12 ?_
    refine zz_callSI [zi 0] zd_14_12_14 zk_Md_215 rfl rfl ⟨Nat.le_of_ble_eq_true rfl, Nat.le_of_ble_eq_true rfl⟩ ⟨rfl, rfl⟩ (Nat.zero_le _) (Nat.zero_le _) (zc_bitsOf_14_11 0 S0 n hn G_S0 (by omega)) (fun v3 S2 hP => ?_)
    obtain ⟨rfl, o4, o5⟩ := hP
    obtain rfl : v3 = 4 := by omega
    refine zz_iadd zd_14_12_17 ?_
    refine zz_eqv (v := 4) (by decide) ?_
    refine zz_istore_n [some (zl p0), none, some (zi 10), some (zi 4), some (zi 0)] zd_14_12_18 (by decide) rfl ?_
    refine zz_iinc [some (zl p0), none, some (zi 10), some (zi 4), some (zi 1)] zd_14_12_19 rfl rfl ?_
    refine zz_goto zd_14_12_22 ?_
    refine zz_iload (x := 1) rfl zd_14_12_5 ?_
    refine zz_iload_n (x := 10) rfl zd_14_12_7 ?_
    refine zz_icmp_ge (by omega) (by omega) zd_14_12_8 (fun c6 => ?_) (fun c6 => ?_)
    · exfalso; omega
    · refine zz_iload_n (x := 4) rfl zd_14_12_11 ?_
      refine zz_iload (x := 1) rfl zd_14_12_12 ?_
      refine zz_callSI [zi 1] zd_14_12_14 zk_Md_215 rfl rfl ⟨Nat.le_of_ble_eq_true rfl, Nat.le_of_ble_eq_true rfl⟩ ⟨rfl, rfl⟩ (Nat.zero_le _) (Nat.zero_le _) (zc_bitsOf_14_11 1 S0 n hn G_S0 (by omega)) (fun v8 S7 hP => ?_)
      obtain ⟨rfl, o9, o10⟩ := hP
      obtain rfl : v8 = 1 := by omega
      refine zz_iadd zd_14_12_17 ?_
      refine zz_eqv (v := 5) (by decide) ?_
      refine zz_istore_n [some (zl p0), none, some (zi 10), some (zi 5), some (zi 1)] zd_14_12_18 (by decide) rfl ?_
      refine zz_iinc [some (zl p0), none, some (zi 10), some (zi 5), some (zi 2)] zd_14_12_19 rfl rfl ?_
      refine zz_goto zd_14_12_22 ?_
      refine zz_iload (x := 2) rfl zd_14_12_5 ?_
      refine zz_iload_n (x := 10) rfl zd_14_12_7 ?_
      refine zz_icmp_ge (by omega) (by omega) zd_14_12_8 (fun c11 => ?_) (fun c11 => ?_)
      · exfalso; omega
      · refine zz_iload_n (x := 5) rfl zd_14_12_11 ?_
        refine zz_iload (x := 2) rfl zd_14_12_12 ?_
        refine zz_callSI [zi 2] zd_14_12_14 zk_Md_215 rfl rfl ⟨Nat.le_of_ble_eq_true rfl, Nat.le_of_ble_eq_true rfl⟩ ⟨rfl, rfl⟩ (Nat.zero_le _) (Nat.zero_le _) (zc_bitsOf_14_11 2 S0 n hn G_S0 (by omega)) (fun v13 S12 hP => ?_)
        obtain ⟨rfl, o14, o15⟩ := hP
        obtain rfl : v13 = 1 := by omega
        refine zz_iadd zd_14_12_17 ?_
        refine zz_eqv (v := 6) (by decide) ?_
        refine zz_istore_n [some (zl p0), none, some (zi 10), some (zi 6), some (zi 2)] zd_14_12_18 (by decide) rfl ?_
        refine zz_iinc [some (zl p0), none, some (zi 10), some (zi 6), some (zi 3)] zd_14_12_19 rfl rfl ?_
        refine zz_goto zd_14_12_22 ?_
        refine zz_iload (x := 3) rfl zd_14_12_5 ?_
        refine zz_iload_n (x := 10) rfl zd_14_12_7 ?_
        refine zz_icmp_ge (by omega) (by omega) zd_14_12_8 (fun c16 => ?_) (fun c16 => ?_)
        · exfalso; omega
        · refine zz_iload_n (x := 6) rfl zd_14_12_11 ?_
          refine zz_iload (x := 3) rfl zd_14_12_12 ?_
          refine zz_callSI [zi 3] zd_14_12_14 zk_Md_215 rfl rfl ⟨Nat.le_of_ble_eq_true rfl, Nat.le_of_ble_eq_true rfl⟩ ⟨rfl, rfl⟩ (Nat.zero_le _) (Nat.zero_le _) (zc_bitsOf_14_11 3 S0 n hn G_S0 (by omega)) (fun v18 S17 hP => ?_)
          obtain ⟨rfl, o19, o20⟩ := hP
          obtain rfl : v18 = 1 := by omega
          refine zz_iadd zd_14_12_17 ?_
          refine zz_eqv (v := 7) (by decide) ?_
          refine zz_istore_n [some (zl p0), none, some (zi 10), some (zi 7), some (zi 3)] zd_14_12_18 (by decide) rfl ?_
          refine zz_iinc [some (zl p0), none, some (zi 10), some (zi 7), some (zi 4)] zd_14_12_19 rfl rfl ?_
          refine zz_goto zd_14_12_22 ?_
          refine zz_iload (x := 4) rfl zd_14_12_5 ?_
          refine zz_iload_n (x := 10) rfl zd_14_12_7 ?_
          refine zz_icmp_ge (by omega) (by omega) zd_14_12_8 (fun c21 => ?_) (fun c21 => ?_)
          · exfalso; omega
          · refine zz_iload_n (x := 7) rfl zd_14_12_11 ?_
            refine zz_iload (x := 4) rfl zd_14_12_12 ?_
            refine zz_callSI [zi 4] zd_14_12_14 zk_Md_215 rfl rfl ⟨Nat.le_of_ble_eq_true rfl, Nat.le_of_ble_eq_true rfl⟩ ⟨rfl, rfl⟩ (Nat.zero_le _) (Nat.zero_le _) (zc_bitsOf_14_11 4 S0 n hn G_S0 (by omega)) (fun v23 S22 hP => ?_)
            obtain ⟨rfl, o24, o25⟩ := hP
            obtain rfl : v23 = 1 := by omega
            refine zz_iadd zd_14_12_17 ?_
            refine zz_eqv (v := 8) (by decide) ?_
            refine zz_istore_n [some (zl p0), none, some (zi 10), some (zi 8), some (zi 4)] zd_14_12_18 (by decide) rfl ?_
            refine zz_iinc [some (zl p0), none, some (zi 10), some (zi 8), some (zi 5)] zd_14_12_19 rfl rfl ?_
            refine zz_goto zd_14_12_22 ?_
            refine zz_iload (x := 5) rfl zd_14_12_5 ?_
            refine zz_iload_n (x := 10) rfl zd_14_12_7 ?_
            refine zz_icmp_ge (by omega) (by omega) zd_14_12_8 (fun c26 => ?_) (fun c26 => ?_)
            · exfalso; omega
            · refine zz_iload_n (x := 8) rfl zd_14_12_11 ?_
              refine zz_iload (x := 5) rfl zd_14_12_12 ?_
              refine zz_callSI [zi 5] zd_14_12_14 zk_Md_215 rfl rfl ⟨Nat.le_of_ble_eq_true rfl, Nat.le_of_ble_eq_true rfl⟩ ⟨rfl, rfl⟩ (Nat.zero_le _) (Nat.zero_le _) (zc_bitsOf_14_11 5 S0 n hn G_S0 (by omega)) (fun v28 S27 hP => ?_)
              obtain ⟨rfl, o29, o30⟩ := hP
              obtain rfl : v28 = 12 := by omega
              refine zz_iadd zd_14_12_17 ?_
              refine zz_eqv (v := 20) (by decide) ?_
              refine zz_istore_n [some (zl p0), none, some (zi 10), some (zi 20), some (zi 5)] zd_14_12_18 (by decide) rfl ?_
              refine zz_iinc [some (zl p0), none, some (zi 10), some (zi 20), some (zi 6)] zd_14_12_19 rfl rfl ?_
              refine zz_goto zd_14_12_22 ?_
              refine zz_iload (x := 6) rfl zd_14_12_5 ?_
              refine zz_iload_n (x := 10) rfl zd_14_12_7 ?_
              refine zz_icmp_ge (by omega) (by omega) zd_14_12_8 (fun c31 => ?_) (fun c31 => ?_)
              · exfalso; omega
              · refine zz_iload_n (x := 20) rfl zd_14_12_11 ?_
                refine zz_iload (x := 6) rfl zd_14_12_12 ?_
                refine zz_callSI [zi 6] zd_14_12_14 zk_Md_215 rfl rfl ⟨Nat.le_of_ble_eq_true rfl, Nat.le_of_ble_eq_true rfl⟩ ⟨rfl, rfl⟩ (Nat.zero_le _) (Nat.zero_le _) (zc_bitsOf_14_11 6 S0 n hn G_S0 (by omega)) (fun v33 S32 hP => ?_)
                obtain ⟨rfl, o34, o35⟩ := hP
                obtain rfl : v33 = 6 := by omega
                refine zz_iadd zd_14_12_17 ?_
                refine zz_eqv (v := 26) (by decide) ?_
                refine zz_istore_n [some (zl p0), none, some (zi 10), some (zi 26), some (zi 6)] zd_14_12_18 (by decide) rfl ?_
                refine zz_iinc [some (zl p0), none, some (zi 10), some (zi 26), some (zi 7)] zd_14_12_19 rfl rfl ?_
                refine zz_goto zd_14_12_22 ?_
                refine zz_iload (x := 7) rfl zd_14_12_5 ?_
                refine zz_iload_n (x := 10) rfl zd_14_12_7 ?_
                refine zz_icmp_ge (by omega) (by omega) zd_14_12_8 (fun c36 => ?_) (fun c36 => ?_)
                · exfalso; omega
                · refine zz_iload_n (x := 26) rfl zd_14_12_11 ?_
                  refine zz_iload (x := 7) rfl zd_14_12_12 ?_
                  refine zz_callSI [zi 7] zd_14_12_14 zk_Md_215 rfl rfl ⟨Nat.le_of_ble_eq_true rfl, Nat.le_of_ble_eq_true rfl⟩ ⟨rfl, rfl⟩ (Nat.zero_le _) (Nat.zero_le _) (zc_bitsOf_14_11 7 S0 n hn G_S0 (by omega)) (fun v38 S37 hP => ?_)
                  obtain ⟨rfl, o39, o40⟩ := hP
                  obtain rfl : v38 = 5 := by omega
                  refine zz_iadd zd_14_12_17 ?_
                  refine zz_eqv (v := 31) (by decide) ?_
                  refine zz_istore_n [some (zl p0), none, some (zi 10), some (zi 31), some (zi 7)] zd_14_12_18 (by decide) rfl ?_
                  refine zz_iinc [some (zl p0), none, some (zi 10), some (zi 31), some (zi 8)] zd_14_12_19 rfl rfl ?_
                  refine zz_goto zd_14_12_22 ?_
                  refine zz_iload (x := 8) rfl zd_14_12_5 ?_
                  refine zz_iload_n (x := 10) rfl zd_14_12_7 ?_
                  refine zz_icmp_ge (by omega) (by omega) zd_14_12_8 (fun c41 => ?_) (fun c41 => ?_)
                  · exfalso; omega
                  · refine zz_iload_n (x := 31) rfl zd_14_12_11 ?_
                    refine zz_iload (x := 8) rfl zd_14_12_12 ?_
                    refine zz_callSI [zi 8] zd_14_12_14 zk_Md_215 rfl rfl ⟨Nat.le_of_ble_eq_true rfl, Nat.le_of_ble_eq_true rfl⟩ ⟨rfl, rfl⟩ (Nat.zero_le _) (Nat.zero_le _) (zc_bitsOf_14_11 8 S0 n hn G_S0 (by omega)) (fun v43 S42 hP => ?_)
                    obtain ⟨rfl, o44, o45⟩ := hP
                    obtain rfl : v43 = 9 := by omega
                    refine zz_iadd zd_14_12_17 ?_
                    refine zz_eqv (v := 40) (by decide) ?_
                    refine zz_istore_n [some (zl p0), none, some (zi 10), some (zi 40), some (zi 8)] zd_14_12_18 (by decide) rfl ?_
                    refine zz_iinc [some (zl p0), none, some (zi 10), some (zi 40), some (zi 9)] zd_14_12_19 rfl rfl ?_
                    refine zz_goto zd_14_12_22 ?_
                    refine zz_iload (x := 9) rfl zd_14_12_5 ?_
                    refine zz_iload_n (x := 10) rfl zd_14_12_7 ?_
                    refine zz_icmp_ge (by omega) (by omega) zd_14_12_8 (fun c46 => ?_) (fun c46 => ?_)
                    · exfalso; omega
                    · refine zz_iload_n (x := 40) rfl zd_14_12_11 ?_
                      refine zz_iload (x := 9) rfl zd_14_12_12 ?_
                      refine zz_callSI [zi 9] zd_14_12_14 zk_Md_215 rfl rfl ⟨Nat.le_of_ble_eq_true rfl, Nat.le_of_ble_eq_true rfl⟩ ⟨rfl, rfl⟩ (Nat.zero_le _) (Nat.zero_le _) (zc_bitsOf_14_11 9 S0 n hn G_S0 (by omega)) (fun v48 S47 hP => ?_)
                      obtain ⟨rfl, o49, o50⟩ := hP
                      obtain rfl : v48 = 9 := by omega
                      refine zz_iadd zd_14_12_17 ?_
                      refine zz_eqv (v := 49) (by decide) ?_
                      refine zz_istore_n [some (zl p0), none, some (zi 10), some (zi 49), some (zi 9)] zd_14_12_18 (by decide) rfl ?_
                      refine zz_iinc [some (zl p0), none, some (zi 10), some (zi 49), some (zi 10)] zd_14_12_19 rfl rfl ?_
                      refine zz_goto zd_14_12_22 ?_
                      refine zz_iload (x := 10) rfl zd_14_12_5 ?_
                      refine zz_iload_n (x := 10) rfl zd_14_12_7 ?_
                      refine zz_icmp_ge (by omega) (by omega) zd_14_12_8 (fun c51 => ?_) (fun c51 => ?_)
                      · refine zz_lload_n (x := p0) rfl zd_14_12_25 ?_
                        refine zz_iload_n (x := 49) rfl zd_14_12_26 ?_
                        refine zz_lushr zd_14_12_27 (fun v52 hv52 ev52 => ?_)
                        refine zz_lconst (z := 1) (by decide) zd_14_12_28 ?_
                        refine zz_iload_n (x := 10) rfl zd_14_12_29 ?_
                        refine zz_callSI [zi 10] zd_14_12_30 zk_Md_215 rfl rfl ⟨Nat.le_of_ble_eq_true rfl, Nat.le_of_ble_eq_true rfl⟩ ⟨rfl, rfl⟩ (Nat.zero_le _) (Nat.zero_le _) (zc_bitsOf_14_11 10 S0 n hn G_S0 (by omega)) (fun v54 S53 hP => ?_)
                        obtain ⟨rfl, o55, o56⟩ := hP
                        obtain rfl : v54 = 10 := by omega
                        refine zz_lshl zd_14_12_33 (fun v57 hv57 ev57 => ?_)
                        have av57 := zz_sl1 (by omega) ev57
                        refine zz_eqvl (v := 1024) (by omega) ?_
                        refine zz_lconst (z := 1) (by decide) zd_14_12_34 ?_
                        refine zz_lsub zd_14_12_35 ?_
                        refine zz_eqvl (v := 1023) (by decide) ?_
                        refine zz_land zd_14_12_36 (fun v58 hv58 ev58 => ?_)
                        have av58 := zz_band64 (by omega) (by omega) ev58
                        refine zz_l2i (by omega) zd_14_12_37 (fun v59 hv59 av59 ev59 => ?_)
                        exact zz_iret zd_14_12_38 rfl (Nat.zero_le _) (Nat.zero_le _) ⟨_, _, rfl, rfl, by omega, by subst_vars; rfl⟩
                      · exfalso; omega
-- TensorForgeModel fieldOf (JI)I
abbrev zr_fieldOf_14_12x_11 : Room := { frames := 1, cells := 0, slots := 0, locals := 16 }
def zp_fieldOf_14_12x_11 (p0 : Int) (S0 : zz_S) : Int → zz_S → Prop := fun r S => S0 = S ∧ (0 ≤ r ∧ r ≤ 31) ∧ (r = zz_fx p0 59 31)
theorem zc_fieldOf_14_12x_11 {g : mm_G} {l : Launch} (p0 : Int) (S0 : zz_S) (n : Nat) (hn : zz_end ≤ n) (G_S0 : zz_G S0) (hp0 : (-9223372036854775808) ≤ p0 ∧ p0 ≤ 9223372036854775807) : mm_Met g l zy_fieldOf_14_12 zr_fieldOf_14_12x_11 [zl p0, zi 11] (zz_M S0 n) n (zz_QI n (zp_fieldOf_14_12x_11 p0 S0)) := by
  refine zz_enter (by decide) (Nat.le_of_ble_eq_true rfl) (zz_less (ls1 := [some (zl p0), none, some (zi 11)]) ⟨rfl, ⟨rfl, trivial⟩⟩ ?_)
  refine zz_iconst zd_14_12_0 ?_
  refine zz_istore_n [some (zl p0), none, some (zi 11), some (zi 0)] zd_14_12_1 (by decide) rfl ?_
  refine zz_iconst zd_14_12_2 ?_
  refine zz_istore [some (zl p0), none, some (zi 11), some (zi 0), some (zi 0)] zd_14_12_3 (by decide) rfl ?_
  refine zz_iload (x := 0) rfl zd_14_12_5 ?_
  refine zz_iload_n (x := 11) rfl zd_14_12_7 ?_
  refine zz_icmp_ge (by omega) (by omega) zd_14_12_8 (fun c1 => ?_) (fun c1 => ?_)
  · exfalso; omega
  · refine zz_iload_n (x := 0) rfl zd_14_12_11 ?_
    refine zz_iload (x := 0) rfl zd_14_12_12 ?_
    refine zz_callSI [zi 0] zd_14_12_14 zk_Md_215 rfl rfl ⟨Nat.le_of_ble_eq_true rfl, Nat.le_of_ble_eq_true rfl⟩ ⟨rfl, rfl⟩ (Nat.zero_le _) (Nat.zero_le _) (zc_bitsOf_14_11 0 S0 n hn G_S0 (by omega)) (fun v3 S2 hP => ?_)
    obtain ⟨rfl, o4, o5⟩ := hP
    obtain rfl : v3 = 4 := by omega
    refine zz_iadd zd_14_12_17 ?_
    refine zz_eqv (v := 4) (by decide) ?_
    refine zz_istore_n [some (zl p0), none, some (zi 11), some (zi 4), some (zi 0)] zd_14_12_18 (by decide) rfl ?_
    refine zz_iinc [some (zl p0), none, some (zi 11), some (zi 4), some (zi 1)] zd_14_12_19 rfl rfl ?_
    refine zz_goto zd_14_12_22 ?_
    refine zz_iload (x := 1) rfl zd_14_12_5 ?_
    refine zz_iload_n (x := 11) rfl zd_14_12_7 ?_
    refine zz_icmp_ge (by omega) (by omega) zd_14_12_8 (fun c6 => ?_) (fun c6 => ?_)
    · exfalso; omega
    · refine zz_iload_n (x := 4) rfl zd_14_12_11 ?_
      refine zz_iload (x := 1) rfl zd_14_12_12 ?_
      refine zz_callSI [zi 1] zd_14_12_14 zk_Md_215 rfl rfl ⟨Nat.le_of_ble_eq_true rfl, Nat.le_of_ble_eq_true rfl⟩ ⟨rfl, rfl⟩ (Nat.zero_le _) (Nat.zero_le _) (zc_bitsOf_14_11 1 S0 n hn G_S0 (by omega)) (fun v8 S7 hP => ?_)
      obtain ⟨rfl, o9, o10⟩ := hP
      obtain rfl : v8 = 1 := by omega
      refine zz_iadd zd_14_12_17 ?_
      refine zz_eqv (v := 5) (by decide) ?_
      refine zz_istore_n [some (zl p0), none, some (zi 11), some (zi 5), some (zi 1)] zd_14_12_18 (by decide) rfl ?_
      refine zz_iinc [some (zl p0), none, some (zi 11), some (zi 5), some (zi 2)] zd_14_12_19 rfl rfl ?_
      refine zz_goto zd_14_12_22 ?_
      refine zz_iload (x := 2) rfl zd_14_12_5 ?_
      refine zz_iload_n (x := 11) rfl zd_14_12_7 ?_
      refine zz_icmp_ge (by omega) (by omega) zd_14_12_8 (fun c11 => ?_) (fun c11 => ?_)
      · exfalso; omega
      · refine zz_iload_n (x := 5) rfl zd_14_12_11 ?_
        refine zz_iload (x := 2) rfl zd_14_12_12 ?_
        refine zz_callSI [zi 2] zd_14_12_14 zk_Md_215 rfl rfl ⟨Nat.le_of_ble_eq_true rfl, Nat.le_of_ble_eq_true rfl⟩ ⟨rfl, rfl⟩ (Nat.zero_le _) (Nat.zero_le _) (zc_bitsOf_14_11 2 S0 n hn G_S0 (by omega)) (fun v13 S12 hP => ?_)
        obtain ⟨rfl, o14, o15⟩ := hP
        obtain rfl : v13 = 1 := by omega
        refine zz_iadd zd_14_12_17 ?_
        refine zz_eqv (v := 6) (by decide) ?_
        refine zz_istore_n [some (zl p0), none, some (zi 11), some (zi 6), some (zi 2)] zd_14_12_18 (by decide) rfl ?_
        refine zz_iinc [some (zl p0), none, some (zi 11), some (zi 6), some (zi 3)] zd_14_12_19 rfl rfl ?_
        refine zz_goto zd_14_12_22 ?_
        refine zz_iload (x := 3) rfl zd_14_12_5 ?_
        refine zz_iload_n (x := 11) rfl zd_14_12_7 ?_
        refine zz_icmp_ge (by omega) (by omega) zd_14_12_8 (fun c16 => ?_) (fun c16 => ?_)
        · exfalso; omega
        · refine zz_iload_n (x := 6) rfl zd_14_12_11 ?_
          refine zz_iload (x := 3) rfl zd_14_12_12 ?_
          refine zz_callSI [zi 3] zd_14_12_14 zk_Md_215 rfl rfl ⟨Nat.le_of_ble_eq_true rfl, Nat.le_of_ble_eq_true rfl⟩ ⟨rfl, rfl⟩ (Nat.zero_le _) (Nat.zero_le _) (zc_bitsOf_14_11 3 S0 n hn G_S0 (by omega)) (fun v18 S17 hP => ?_)
          obtain ⟨rfl, o19, o20⟩ := hP
          obtain rfl : v18 = 1 := by omega
          refine zz_iadd zd_14_12_17 ?_
          refine zz_eqv (v := 7) (by decide) ?_
          refine zz_istore_n [some (zl p0), none, some (zi 11), some (zi 7), some (zi 3)] zd_14_12_18 (by decide) rfl ?_
          refine zz_iinc [some (zl p0), none, some (zi 11), some (zi 7), some (zi 4)] zd_14_12_19 rfl rfl ?_
          refine zz_goto zd_14_12_22 ?_
          refine zz_iload (x := 4) rfl zd_14_12_5 ?_
          refine zz_iload_n (x := 11) rfl zd_14_12_7 ?_
          refine zz_icmp_ge (by omega) (by omega) zd_14_12_8 (fun c21 => ?_) (fun c21 => ?_)
          · exfalso; omega
          · refine zz_iload_n (x := 7) rfl zd_14_12_11 ?_
            refine zz_iload (x := 4) rfl zd_14_12_12 ?_
            refine zz_callSI [zi 4] zd_14_12_14 zk_Md_215 rfl rfl ⟨Nat.le_of_ble_eq_true rfl, Nat.le_of_ble_eq_true rfl⟩ ⟨rfl, rfl⟩ (Nat.zero_le _) (Nat.zero_le _) (zc_bitsOf_14_11 4 S0 n hn G_S0 (by omega)) (fun v23 S22 hP => ?_)
            obtain ⟨rfl, o24, o25⟩ := hP
            obtain rfl : v23 = 1 := by omega
            refine zz_iadd zd_14_12_17 ?_
            refine zz_eqv (v := 8) (by decide) ?_
            refine zz_istore_n [some (zl p0), none, some (zi 11), some (zi 8), some (zi 4)] zd_14_12_18 (by decide) rfl ?_
            refine zz_iinc [some (zl p0), none, some (zi 11), some (zi 8), some (zi 5)] zd_14_12_19 rfl rfl ?_
            refine zz_goto zd_14_12_22 ?_
            refine zz_iload (x := 5) rfl zd_14_12_5 ?_
            refine zz_iload_n (x := 11) rfl zd_14_12_7 ?_
            refine zz_icmp_ge (by omega) (by omega) zd_14_12_8 (fun c26 => ?_) (fun c26 => ?_)
            · exfalso; omega
            · refine zz_iload_n (x := 8) rfl zd_14_12_11 ?_
              refine zz_iload (x := 5) rfl zd_14_12_12 ?_
              refine zz_callSI [zi 5] zd_14_12_14 zk_Md_215 rfl rfl ⟨Nat.le_of_ble_eq_true rfl, Nat.le_of_ble_eq_true rfl⟩ ⟨rfl, rfl⟩ (Nat.zero_le _) (Nat.zero_le _) (zc_bitsOf_14_11 5 S0 n hn G_S0 (by omega)) (fun v28 S27 hP => ?_)
              obtain ⟨rfl, o29, o30⟩ := hP
              obtain rfl : v28 = 12 := by omega
              refine zz_iadd zd_14_12_17 ?_
              refine zz_eqv (v := 20) (by decide) ?_
              refine zz_istore_n [some (zl p0), none, some (zi 11), some (zi 20), some (zi 5)] zd_14_12_18 (by decide) rfl ?_
              refine zz_iinc [some (zl p0), none, some (zi 11), some (zi 20), some (zi 6)] zd_14_12_19 rfl rfl ?_
              refine zz_goto zd_14_12_22 ?_
              refine zz_iload (x := 6) rfl zd_14_12_5 ?_
              refine zz_iload_n (x := 11) rfl zd_14_12_7 ?_
              refine zz_icmp_ge (by omega) (by omega) zd_14_12_8 (fun c31 => ?_) (fun c31 => ?_)
              · exfalso; omega
              · refine zz_iload_n (x := 20) rfl zd_14_12_11 ?_
                refine zz_iload (x := 6) rfl zd_14_12_12 ?_
                refine zz_callSI [zi 6] zd_14_12_14 zk_Md_215 rfl rfl ⟨Nat.le_of_ble_eq_true rfl, Nat.le_of_ble_eq_true rfl⟩ ⟨rfl, rfl⟩ (Nat.zero_le _) (Nat.zero_le _) (zc_bitsOf_14_11 6 S0 n hn G_S0 (by omega)) (fun v33 S32 hP => ?_)
                obtain ⟨rfl, o34, o35⟩ := hP
                obtain rfl : v33 = 6 := by omega
                refine zz_iadd zd_14_12_17 ?_
                refine zz_eqv (v := 26) (by decide) ?_
                refine zz_istore_n [some (zl p0), none, some (zi 11), some (zi 26), some (zi 6)] zd_14_12_18 (by decide) rfl ?_
                refine zz_iinc [some (zl p0), none, some (zi 11), some (zi 26), some (zi 7)] zd_14_12_19 rfl rfl ?_
                refine zz_goto zd_14_12_22 ?_
                refine zz_iload (x := 7) rfl zd_14_12_5 ?_
                refine zz_iload_n (x := 11) rfl zd_14_12_7 ?_
                refine zz_icmp_ge (by omega) (by omega) zd_14_12_8 (fun c36 => ?_) (fun c36 => ?_)
                · exfalso; omega
                · refine zz_iload_n (x := 26) rfl zd_14_12_11 ?_
                  refine zz_iload (x := 7) rfl zd_14_12_12 ?_
                  refine zz_callSI [zi 7] zd_14_12_14 zk_Md_215 rfl rfl ⟨Nat.le_of_ble_eq_true rfl, Nat.le_of_ble_eq_true rfl⟩ ⟨rfl, rfl⟩ (Nat.zero_le _) (Nat.zero_le _) (zc_bitsOf_14_11 7 S0 n hn G_S0 (by omega)) (fun v38 S37 hP => ?_)
                  obtain ⟨rfl, o39, o40⟩ := hP
                  obtain rfl : v38 = 5 := by omega
                  refine zz_iadd zd_14_12_17 ?_
                  refine zz_eqv (v := 31) (by decide) ?_
                  refine zz_istore_n [some (zl p0), none, some (zi 11), some (zi 31), some (zi 7)] zd_14_12_18 (by decide) rfl ?_
                  refine zz_iinc [some (zl p0), none, some (zi 11), some (zi 31), some (zi 8)] zd_14_12_19 rfl rfl ?_
                  refine zz_goto zd_14_12_22 ?_
                  refine zz_iload (x := 8) rfl zd_14_12_5 ?_
                  refine zz_iload_n (x := 11) rfl zd_14_12_7 ?_
                  refine zz_icmp_ge (by omega) (by omega) zd_14_12_8 (fun c41 => ?_) (fun c41 => ?_)
                  · exfalso; omega
                  · refine zz_iload_n (x := 31) rfl zd_14_12_11 ?_
                    refine zz_iload (x := 8) rfl zd_14_12_12 ?_
                    refine zz_callSI [zi 8] zd_14_12_14 zk_Md_215 rfl rfl ⟨Nat.le_of_ble_eq_true rfl, Nat.le_of_ble_eq_true rfl⟩ ⟨rfl, rfl⟩ (Nat.zero_le _) (Nat.zero_le _) (zc_bitsOf_14_11 8 S0 n hn G_S0 (by omega)) (fun v43 S42 hP => ?_)
                    obtain ⟨rfl, o44, o45⟩ := hP
                    obtain rfl : v43 = 9 := by omega
                    refine zz_iadd zd_14_12_17 ?_
                    refine zz_eqv (v := 40) (by decide) ?_
                    refine zz_istore_n [some (zl p0), none, some (zi 11), some (zi 40), some (zi 8)] zd_14_12_18 (by decide) rfl ?_
                    refine zz_iinc [some (zl p0), none, some (zi 11), some (zi 40), some (zi 9)] zd_14_12_19 rfl rfl ?_
                    refine zz_goto zd_14_12_22 ?_
                    refine zz_iload (x := 9) rfl zd_14_12_5 ?_
                    refine zz_iload_n (x := 11) rfl zd_14_12_7 ?_
                    refine zz_icmp_ge (by omega) (by omega) zd_14_12_8 (fun c46 => ?_) (fun c46 => ?_)
                    · exfalso; omega
                    · refine zz_iload_n (x := 40) rfl zd_14_12_11 ?_
                      refine zz_iload (x := 9) rfl zd_14_12_12 ?_
                      refine zz_callSI [zi 9] zd_14_12_14 zk_Md_215 rfl rfl ⟨Nat.le_of_ble_eq_true rfl, Nat.le_of_ble_eq_true rfl⟩ ⟨rfl, rfl⟩ (Nat.zero_le _) (Nat.zero_le _) (zc_bitsOf_14_11 9 S0 n hn G_S0 (by omega)) (fun v48 S47 hP => ?_)
                      obtain ⟨rfl, o49, o50⟩ := hP
                      obtain rfl : v48 = 9 := by omega
                      refine zz_iadd zd_14_12_17 ?_
                      refine zz_eqv (v := 49) (by decide) ?_
                      refine zz_istore_n [some (zl p0), none, some (zi 11), some (zi 49), some (zi 9)] zd_14_12_18 (by decide) rfl ?_
                      refine zz_iinc [some (zl p0), none, some (zi 11), some (zi 49), some (zi 10)] zd_14_12_19 rfl rfl ?_
                      refine zz_goto zd_14_12_22 ?_
                      refine zz_iload (x := 10) rfl zd_14_12_5 ?_
                      refine zz_iload_n (x := 11) rfl zd_14_12_7 ?_
                      refine zz_icmp_ge (by omega) (by omega) zd_14_12_8 (fun c51 => ?_) (fun c51 => ?_)
                      · exfalso; omega
                      · refine zz_iload_n (x := 49) rfl zd_14_12_11 ?_
                        refine zz_iload (x := 10) rfl zd_14_12_12 ?_
                        refine zz_callSI [zi 10] zd_14_12_14 zk_Md_215 rfl rfl ⟨Nat.le_of_ble_eq_true rfl, Nat.le_of_ble_eq_true rfl⟩ ⟨rfl, rfl⟩ (Nat.zero_le _) (Nat.zero_le _) (zc_bitsOf_14_11 10 S0 n hn G_S0 (by omega)) (fun v53 S52 hP => ?_)
                        obtain ⟨rfl, o54, o55⟩ := hP
                        obtain rfl : v53 = 10 := by omega
                        refine zz_iadd zd_14_12_17 ?_
                        refine zz_eqv (v := 59) (by decide) ?_
                        refine zz_istore_n [some (zl p0), none, some (zi 11), some (zi 59), some (zi 10)] zd_14_12_18 (by decide) rfl ?_
                        refine zz_iinc [some (zl p0), none, some (zi 11), some (zi 59), some (zi 11)] zd_14_12_19 rfl rfl ?_
                        refine zz_goto zd_14_12_22 ?_
                        refine zz_iload (x := 11) rfl zd_14_12_5 ?_
                        refine zz_iload_n (x := 11) rfl zd_14_12_7 ?_
                        refine zz_icmp_ge (by omega) (by omega) zd_14_12_8 (fun c56 => ?_) (fun c56 => ?_)
                        · refine zz_lload_n (x := p0) rfl zd_14_12_25 ?_
                          refine zz_iload_n (x := 59) rfl zd_14_12_26 ?_
                          refine zz_lushr zd_14_12_27 (fun v57 hv57 ev57 => ?_)
                          refine zz_lconst (z := 1) (by decide) zd_14_12_28 ?_
                          refine zz_iload_n (x := 11) rfl zd_14_12_29 ?_
                          refine zz_callSI [zi 11] zd_14_12_30 zk_Md_215 rfl rfl ⟨Nat.le_of_ble_eq_true rfl, Nat.le_of_ble_eq_true rfl⟩ ⟨rfl, rfl⟩ (Nat.zero_le _) (Nat.zero_le _) (zc_bitsOf_14_11 11 S0 n hn G_S0 (by omega)) (fun v59 S58 hP => ?_)
                          obtain ⟨rfl, o60, o61⟩ := hP
                          obtain rfl : v59 = 5 := by omega
                          refine zz_lshl zd_14_12_33 (fun v62 hv62 ev62 => ?_)
                          have av62 := zz_sl1 (by omega) ev62
                          refine zz_eqvl (v := 32) (by omega) ?_
                          refine zz_lconst (z := 1) (by decide) zd_14_12_34 ?_
                          refine zz_lsub zd_14_12_35 ?_
                          refine zz_eqvl (v := 31) (by decide) ?_
                          refine zz_land zd_14_12_36 (fun v63 hv63 ev63 => ?_)
                          have av63 := zz_band64 (by omega) (by omega) ev63
                          refine zz_l2i (by omega) zd_14_12_37 (fun v64 hv64 av64 ev64 => ?_)
                          exact zz_iret zd_14_12_38 rfl (Nat.zero_le _) (Nat.zero_le _) ⟨_, _, rfl, rfl, by omega, by subst_vars; rfl⟩
                        · exfalso; omega

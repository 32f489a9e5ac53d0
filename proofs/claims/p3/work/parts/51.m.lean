-- TensorForgeModel length ()I
abbrev zr_length_14_17 : Room := { frames := 0, cells := 0, slots := 0, locals := 0 }
def zp_length_14_17  (S0 : zz_S) : Int → zz_S → Prop := fun r S => zz_G S ∧ zz_fr [(1079, 0)] [] (fun _ _ => False) S0 S ∧ ((-2147483648) ≤ r ∧ r ≤ 2147483647)
theorem zc_length_14_17 {g : mm_G} {l : Launch}  (S0 : zz_S) (n : Nat) (hn : zz_end ≤ n) (G_S0 : zz_G S0)  : mm_Met g l zy_length_14_17 zr_length_14_17 [.ref 1079] (zz_M S0 n) n (zz_QI n (zp_length_14_17  S0)) := by
  refine zz_enter (by decide) (Nat.le_of_ble_eq_true rfl) (zz_less (ls1 := [some (.ref 1079)]) ⟨rfl, trivial⟩ ?_)
  have F_S0 : zz_fr [(1079, 0)] [] (fun _ _ => False) S0 S0 := zz_fr.refl
  refine zz_aload_n (x := 1079) rfl zd_14_17_0 ?_
  refine zz_iconst zd_14_17_1 ?_
  refine zz_puti zd_14_17_2 zf_Md_187 zT_1079 rfl (zz_ltn hn rfl) (fun S1 qS1 => ?_)
  have G_S1 := zz_G.put G_S0 qS1 0 3 rfl (by omega)
  have F_S1 := zz_fr.puts F_S0 qS1 rfl
  refine zz_aload_n (x := 1079) rfl zd_14_17_5 ?_
  have g2 := zz_G.r G_S0 1079 7 0 600 rfl rfl
  refine zz_geti (z := S0 1079 7) zd_14_17_6 zf_Md_224 zT_1079 rfl (zz_ltn hn rfl) (zz_ro qS1 (fun h => absurd h.2 (by decide)) rfl) ?_
  exact zz_iret zd_14_17_9 rfl (Nat.zero_le _) (Nat.zero_le _) ⟨_, _, rfl, G_S1, F_S1, by omega⟩
abbrev zy_take_14_18 : mm_Y := (⟨"TensorForgeModel", "take", "(J)V"⟩, prog_14_method_18_code, 4, none)
theorem zyw_take_14_18 : mm_Yw zy_take_14_18 1 := ⟨mm_tb_1 1894 (by decide +kernel) rfl, mm_tb_1 12 (by decide +kernel) rfl, ⟨by decide, by decide⟩, by decide +kernel⟩
theorem zf_Md_36 : mm_Fl "TensorForgeModel" 36 11 11 (.array .int) true := ⟨R_Md, F_Md, 69, t_Md, rfl, i_Md, by decide, mm_tb_1 1622 (by decide +kernel) rfl, rfl, t_Md_ok, n_Md, rfl, by decide +kernel⟩
theorem zg_14_18_0 : (decode zy_take_14_18.2.1 0 = .ok ((.iconst 0), 1)) ∧ (decode zy_take_14_18.2.1 1 = .ok ((.istore_n 3), 1)) ∧ (decode zy_take_14_18.2.1 2 = .ok ((.iload_n 3), 1)) ∧ (decode zy_take_14_18.2.1 3 = .ok ((.bipush 12), 2)) ∧ (decode zy_take_14_18.2.1 5 = .ok ((Instr.if_icmp .ge) 20, 3)) ∧ (decode zy_take_14_18.2.1 8 = .ok ((.aload_n 0), 1)) ∧ (decode zy_take_14_18.2.1 9 = .ok ((.getfield 36), 3)) ∧ (decode zy_take_14_18.2.1 12 = .ok ((.iload_n 3), 1)) ∧ (decode zy_take_14_18.2.1 13 = .ok ((.lload_n 1), 1)) ∧ (decode zy_take_14_18.2.1 14 = .ok ((.iload_n 3), 1)) := by decide +kernel
theorem zd_14_18_0 : zz_D zy_take_14_18 0 (.iconst 0) 1 1 := ⟨zg_14_18_0.1, rfl⟩
theorem zd_14_18_1 : zz_D zy_take_14_18 1 (.istore_n 3) 1 2 := ⟨zg_14_18_0.2.1, rfl⟩
theorem zd_14_18_2 : zz_D zy_take_14_18 2 (.iload_n 3) 1 3 := ⟨zg_14_18_0.2.2.1, rfl⟩
theorem zd_14_18_3 : zz_D zy_take_14_18 3 (.bipush 12) 2 5 := ⟨zg_14_18_0.2.2.2.1, rfl⟩
theorem zd_14_18_5 : zz_B zy_take_14_18 5 (Instr.if_icmp .ge) 25 8 := ⟨20, zg_14_18_0.2.2.2.2.1, rfl, rfl⟩
theorem zd_14_18_8 : zz_D zy_take_14_18 8 (.aload_n 0) 1 9 := ⟨zg_14_18_0.2.2.2.2.2.1, rfl⟩
theorem zd_14_18_9 : zz_D zy_take_14_18 9 (.getfield 36) 3 12 := ⟨zg_14_18_0.2.2.2.2.2.2.1, rfl⟩
theorem zd_14_18_12 : zz_D zy_take_14_18 12 (.iload_n 3) 1 13 := ⟨zg_14_18_0.2.2.2.2.2.2.2.1, rfl⟩
theorem zd_14_18_13 : zz_D zy_take_14_18 13 (.lload_n 1) 1 14 := ⟨zg_14_18_0.2.2.2.2.2.2.2.2.1, rfl⟩
theorem zd_14_18_14 : zz_D zy_take_14_18 14 (.iload_n 3) 1 15 := ⟨zg_14_18_0.2.2.2.2.2.2.2.2.2, rfl⟩
theorem zd_14_18_15 : zz_D zy_take_14_18 15 (.invokestatic 220) 3 18 := ⟨by decide +kernel, rfl⟩
-- TensorForgeModel fieldOf (JI)I
abbrev zr_fieldOf_14_12x_0 : Room := { frames := 1, cells := 0, slots := 0, locals := 16 }
def zp_fieldOf_14_12x_0 (p0 : Int) (S0 : zz_S) : Int → zz_S → Prop := fun r S => S0 = S ∧ (0 ≤ r ∧ r ≤ 15) ∧ (r = zz_fx p0 0 15)
theorem zc_fieldOf_14_12x_0 {g : mm_G} {l : Launch} (p0 : Int) (S0 : zz_S) (n : Nat) (hn : zz_end ≤ n) (G_S0 : zz_G S0) (hp0 : (-9223372036854775808) ≤ p0 ∧ p0 ≤ 9223372036854775807) : mm_Met g l zy_fieldOf_14_12 zr_fieldOf_14_12x_0 [zl p0, zi 0] (zz_M S0 n) n (zz_QI n (zp_fieldOf_14_12x_0 p0 S0)) := by
  refine zz_enter (by decide) (Nat.le_of_ble_eq_true rfl) (zz_less (ls1 := [some (zl p0), none, some (zi 0)]) ⟨rfl, ⟨rfl, trivial⟩⟩ ?_)
  refine zz_iconst zd_14_12_0 ?_
  refine zz_istore_n [some (zl p0), none, some (zi 0), some (zi 0)] zd_14_12_1 (by decide) rfl ?_
  refine zz_iconst zd_14_12_2 ?_
  refine zz_istore [some (zl p0), none, some (zi 0), some (zi 0), some (zi 0)] zd_14_12_3 (by decide) rfl ?_
  refine zz_iload (x := 0) rfl zd_14_12_5 ?_
  refine zz_iload_n (x := 0) rfl zd_14_12_7 ?_
  refine zz_icmp_ge (by omega) (by omega) zd_14_12_8 (fun c1 => ?_) (fun c1 => ?_)
  · refine zz_lload_n (x := p0) rfl zd_14_12_25 ?_
    refine zz_iload_n (x := 0) rfl zd_14_12_26 ?_
    refine zz_lushr zd_14_12_27 (fun v2 hv2 ev2 => ?_)
    refine zz_lconst (z := 1) (by decide) zd_14_12_28 ?_
    refine zz_iload_n (x := 0) rfl zd_14_12_29 ?_
    refine zz_callSI [zi 0] zd_14_12_30 zk_Md_215 rfl rfl ⟨Nat.le_of_ble_eq_true rfl, Nat.le_of_ble_eq_true rfl⟩ ⟨rfl, rfl⟩ (Nat.zero_le _) (Nat.zero_le _) (zc_bitsOf_14_11 0 S0 n hn G_S0 (by omega)) (fun v4 S3 hP => ?_)
    obtain ⟨rfl, o5, o6⟩ := hP
    obtain rfl : v4 = 4 := by omega
    refine zz_lshl zd_14_12_33 (fun v7 hv7 ev7 => ?_)
    have av7 := zz_sl1 (by omega) ev7
    refine zz_eqvl (v := 16) (by omega) ?_
    refine zz_lconst (z := 1) (by decide) zd_14_12_34 ?_
    refine zz_lsub zd_14_12_35 ?_
    refine zz_eqvl (v := 15) (by decide) ?_
    refine zz_land zd_14_12_36 (fun v8 hv8 ev8 => ?_)
    have av8 := zz_band64 (by omega) (by omega) ev8
    refine zz_l2i (by omega) zd_14_12_37 (fun v9 hv9 av9 ev9 => ?_)
    exact zz_iret zd_14_12_38 rfl (Nat.zero_le _) (Nat.zero_le _) ⟨_, _, rfl, rfl, by omega, by subst_vars; rfl⟩
  · exfalso; omega
theorem zg_14_18_18 : (decode zy_take_14_18.2.1 18 = .ok ((.iastore), 1)) ∧ (decode zy_take_14_18.2.1 19 = .ok ((.iinc 3 1), 3)) ∧ (decode zy_take_14_18.2.1 22 = .ok (Instr.goto (-20), 3)) := by decide +kernel
theorem zd_14_18_18 : zz_D zy_take_14_18 18 (.iastore) 1 19 := ⟨zg_14_18_18.1, rfl⟩
theorem zd_14_18_19 : zz_D zy_take_14_18 19 (.iinc 3 1) 3 22 := ⟨zg_14_18_18.2.1, rfl⟩
theorem zd_14_18_22 : zz_B zy_take_14_18 22 Instr.goto 2 25 := ⟨(-20), zg_14_18_18.2.2, rfl, rfl⟩
-- TensorForgeModel fieldOf (JI)I
abbrev zr_fieldOf_14_12x_1 : Room := { frames := 1, cells := 0, slots := 0, locals := 16 }
def zp_fieldOf_14_12x_1 (p0 : Int) (S0 : zz_S) : Int → zz_S → Prop := fun r S => S0 = S ∧ (0 ≤ r ∧ r ≤ 1) ∧ (r = zz_fx p0 4 1)
theorem zc_fieldOf_14_12x_1 {g : mm_G} {l : Launch} (p0 : Int) (S0 : zz_S) (n : Nat) (hn : zz_end ≤ n) (G_S0 : zz_G S0) (hp0 : (-9223372036854775808) ≤ p0 ∧ p0 ≤ 9223372036854775807) : mm_Met g l zy_fieldOf_14_12 zr_fieldOf_14_12x_1 [zl p0, zi 1] (zz_M S0 n) n (zz_QI n (zp_fieldOf_14_12x_1 p0 S0)) := by
  refine zz_enter (by decide) (Nat.le_of_ble_eq_true rfl) (zz_less (ls1 := [some (zl p0), none, some (zi 1)]) ⟨rfl, ⟨rfl, trivial⟩⟩ ?_)
  refine zz_iconst zd_14_12_0 ?_
  refine zz_istore_n [some (zl p0), none, some (zi 1), some (zi 0)] zd_14_12_1 (by decide) rfl ?_
  refine zz_iconst zd_14_12_2 ?_
  refine zz_istore [some (zl p0), none, some (zi 1), some (zi 0), some (zi 0)] zd_14_12_3 (by decide) rfl ?_
  refine zz_iload (x := 0) rfl zd_14_12_5 ?_
  refine zz_iload_n (x := 1) rfl zd_14_12_7 ?_
  refine zz_icmp_ge (by omega) (by omega) zd_14_12_8 (fun c1 => ?_) (fun c1 => ?_)
  · exfalso; omega
  · refine zz_iload_n (x := 0) rfl zd_14_12_11 ?_
    refine zz_iload (x := 0) rfl zd_14_12_12 ?_
    refine zz_callSI [zi 0] zd_14_12_14 zk_Md_215 rfl rfl ⟨Nat.le_of_ble_eq_true rfl, Nat.le_of_ble_eq_true rfl⟩ ⟨rfl, rfl⟩ (Nat.zero_le _) (Nat.zero_le _) (zc_bitsOf_14_11 0 S0 n hn G_S0 (by omega)) (fun v3 S2 hP => ?_)
    obtain ⟨rfl, o4, o5⟩ := hP
    obtain rfl : v3 = 4 := by omega
    refine zz_iadd zd_14_12_17 ?_
    refine zz_eqv (v := 4) (by decide) ?_
    refine zz_istore_n [some (zl p0), none, some (zi 1), some (zi 4), some (zi 0)] zd_14_12_18 (by decide) rfl ?_
    refine zz_iinc [some (zl p0), none, some (zi 1), some (zi 4), some (zi 1)] zd_14_12_19 rfl rfl ?_
    refine zz_goto zd_14_12_22 ?_
    refine zz_iload (x := 1) rfl zd_14_12_5 ?_
    refine zz_iload_n (x := 1) rfl zd_14_12_7 ?_
    refine zz_icmp_ge (by omega) (by omega) zd_14_12_8 (fun c6 => ?_) (fun c6 => ?_)
    · refine zz_lload_n (x := p0) rfl zd_14_12_25 ?_
      refine zz_iload_n (x := 4) rfl zd_14_12_26 ?_
      refine zz_lushr zd_14_12_27 (fun v7 hv7 ev7 => ?_)
      refine zz_lconst (z := 1) (by decide) zd_14_12_28 ?_
      refine zz_iload_n (x := 1) rfl zd_14_12_29 ?_
      refine zz_callSI [zi 1] zd_14_12_30 zk_Md_215 rfl rfl ⟨Nat.le_of_ble_eq_true rfl, Nat.le_of_ble_eq_true rfl⟩ ⟨rfl, rfl⟩ (Nat.zero_le _) (Nat.zero_le _) (zc_bitsOf_14_11 1 S0 n hn G_S0 (by omega)) (fun v9 S8 hP => ?_)
      obtain ⟨rfl, o10, o11⟩ := hP
      obtain rfl : v9 = 1 := by omega
      refine zz_lshl zd_14_12_33 (fun v12 hv12 ev12 => ?_)
      have av12 := zz_sl1 (by omega) ev12
      refine zz_eqvl (v := 2) (by omega) ?_
      refine zz_lconst (z := 1) (by decide) zd_14_12_34 ?_
      refine zz_lsub zd_14_12_35 ?_
      refine zz_eqvl (v := 1) (by decide) ?_
      refine zz_land zd_14_12_36 (fun v13 hv13 ev13 => ?_)
      have av13 := zz_band64 (by omega) (by omega) ev13
      refine zz_l2i (by omega) zd_14_12_37 (fun v14 hv14 av14 ev14 => ?_)
      exact zz_iret zd_14_12_38 rfl (Nat.zero_le _) (Nat.zero_le _) ⟨_, _, rfl, rfl, by omega, by subst_vars; rfl⟩
    · exfalso; omega
-- TensorForgeModel fieldOf (JI)I
abbrev zr_fieldOf_14_12x_2 : Room := { frames := 1, cells := 0, slots := 0, locals := 16 }
def zp_fieldOf_14_12x_2 (p0 : Int) (S0 : zz_S) : Int → zz_S → Prop := fun r S => S0 = S ∧ (0 ≤ r ∧ r ≤ 1) ∧ (r = zz_fx p0 5 1)
theorem zc_fieldOf_14_12x_2 {g : mm_G} {l : Launch} (p0 : Int) (S0 : zz_S) (n : Nat) (hn : zz_end ≤ n) (G_S0 : zz_G S0) (hp0 : (-9223372036854775808) ≤ p0 ∧ p0 ≤ 9223372036854775807) : mm_Met g l zy_fieldOf_14_12 zr_fieldOf_14_12x_2 [zl p0, zi 2] (zz_M S0 n) n (zz_QI n (zp_fieldOf_14_12x_2 p0 S0)) := by
  refine zz_enter (by decide) (Nat.le_of_ble_eq_true rfl) (zz_less (ls1 := [some (zl p0), none, some (zi 2)]) ⟨rfl, ⟨rfl, trivial⟩⟩ ?_)
  refine zz_iconst zd_14_12_0 ?_
  refine zz_istore_n [some (zl p0), none, some (zi 2), some (zi 0)] zd_14_12_1 (by decide) rfl ?_
  refine zz_iconst zd_14_12_2 ?_
  refine zz_istore [some (zl p0), none, some (zi 2), some (zi 0), some (zi 0)] zd_14_12_3 (by decide) rfl ?_
  refine zz_iload (x := 0) rfl zd_14_12_5 ?_
  refine zz_iload_n (x := 2) rfl zd_14_12_7 ?_
  refine zz_icmp_ge (by omega) (by omega) zd_14_12_8 (fun c1 => ?_) (fun c1 => ?_)
  · exfalso; omega
  · refine zz_iload_n (x := 0) rfl zd_14_12_11 ?_
    refine zz_iload (x := 0) rfl zd_14_12_12 ?_
    refine zz_callSI [zi 0] zd_14_12_14 zk_Md_215 rfl rfl ⟨Nat.le_of_ble_eq_true rfl, Nat.le_of_ble_eq_true rfl⟩ ⟨rfl, rfl⟩ (Nat.zero_le _) (Nat.zero_le _) (zc_bitsOf_14_11 0 S0 n hn G_S0 (by omega)) (fun v3 S2 hP => ?_)
    obtain ⟨rfl, o4, o5⟩ := hP
    obtain rfl : v3 = 4 := by omega
    refine zz_iadd zd_14_12_17 ?_
    refine zz_eqv (v := 4) (by decide) ?_
    refine zz_istore_n [some (zl p0), none, some (zi 2), some (zi 4), some (zi 0)] zd_14_12_18 (by decide) rfl ?_
    refine zz_iinc [some (zl p0), none, some (zi 2), some (zi 4), some (zi 1)] zd_14_12_19 rfl rfl ?_
    refine zz_goto zd_14_12_22 ?_
    refine zz_iload (x := 1) rfl zd_14_12_5 ?_
    refine zz_iload_n (x := 2) rfl zd_14_12_7 ?_
    refine zz_icmp_ge (by omega) (by omega) zd_14_12_8 (fun c6 => ?_) (fun c6 => ?_)
    · exfalso; omega
    · refine zz_iload_n (x := 4) rfl zd_14_12_11 ?_
      refine zz_iload (x := 1) rfl zd_14_12_12 ?_
      refine zz_callSI [zi 1] zd_14_12_14 zk_Md_215 rfl rfl ⟨Nat.le_of_ble_eq_true rfl, Nat.le_of_ble_eq_true rfl⟩ ⟨rfl, rfl⟩ (Nat.zero_le _) (Nat.zero_le _) (zc_bitsOf_14_11 1 S0 n hn G_S0 (by omega)) (fun v8 S7 hP => ?_)
      obtain ⟨rfl, o9, o10⟩ := hP
      obtain rfl : v8 = 1 := by omega
      refine zz_iadd zd_14_12_17 ?_
      refine zz_eqv (v := 5) (by decide) ?_
      refine zz_istore_n [some (zl p0), none, some (zi 2), some (zi 5), some (zi 1)] zd_14_12_18 (by decide) rfl ?_
      refine zz_iinc [some (zl p0), none, some (zi 2), some (zi 5), some (zi 2)] zd_14_12_19 rfl rfl ?_
      refine zz_goto zd_14_12_22 ?_
      refine zz_iload (x := 2) rfl zd_14_12_5 ?_
      refine zz_iload_n (x := 2) rfl zd_14_12_7 ?_
      refine zz_icmp_ge (by omega) (by omega) zd_14_12_8 (fun c11 => ?_) (fun c11 => ?_)
      · refine zz_lload_n (x := p0) rfl zd_14_12_25 ?_
        refine zz_iload_n (x := 5) rfl zd_14_12_26 ?_
        refine zz_lushr zd_14_12_27 (fun v12 hv12 ev12 => ?_)
        refine zz_lconst (z := 1) (by decide) zd_14_12_28 ?_
        refine zz_iload_n (x := 2) rfl zd_14_12_29 ?_
        refine zz_callSI [zi 2] zd_14_12_30 zk_Md_215 rfl rfl ⟨Nat.le_of_ble_eq_true rfl, Nat.le_of_ble_eq_true rfl⟩ ⟨rfl, rfl⟩ (Nat.zero_le _) (Nat.zero_le _) (zc_bitsOf_14_11 2 S0 n hn G_S0 (by omega)) (fun v14 S13 hP => ?_)
        obtain ⟨rfl, o15, o16⟩ := hP
        obtain rfl : v14 = 1 := by omega
        refine zz_lshl zd_14_12_33 (fun v17 hv17 ev17 => ?_)
        have av17 := zz_sl1 (by omega) ev17
        refine zz_eqvl (v := 2) (by omega) ?_
        refine zz_lconst (z := 1) (by decide) zd_14_12_34 ?_
        refine zz_lsub zd_14_12_35 ?_
        refine zz_eqvl (v := 1) (by decide) ?_
        refine zz_land zd_14_12_36 (fun v18 hv18 ev18 => ?_)
        have av18 := zz_band64 (by omega) (by omega) ev18
        refine zz_l2i (by omega) zd_14_12_37 (fun v19 hv19 av19 ev19 => ?_)
        exact zz_iret zd_14_12_38 rfl (Nat.zero_le _) (Nat.zero_le _) ⟨_, _, rfl, rfl, by omega, by subst_vars; rfl⟩
      · exfalso; omega
-- TensorForgeModel fieldOf (JI)I
abbrev zr_fieldOf_14_12x_3 : Room := { frames := 1, cells := 0, slots := 0, locals := 16 }
def zp_fieldOf_14_12x_3 (p0 : Int) (S0 : zz_S) : Int → zz_S → Prop := fun r S => S0 = S ∧ (0 ≤ r ∧ r ≤ 1) ∧ (r = zz_fx p0 6 1)
theorem zc_fieldOf_14_12x_3 {g : mm_G} {l : Launch} (p0 : Int) (S0 : zz_S) (n : Nat) (hn : zz_end ≤ n) (G_S0 : zz_G S0) (hp0 : (-9223372036854775808) ≤ p0 ∧ p0 ≤ 9223372036854775807) : mm_Met g l zy_fieldOf_14_12 zr_fieldOf_14_12x_3 [zl p0, zi 3] (zz_M S0 n) n (zz_QI n (zp_fieldOf_14_12x_3 p0 S0)) := by
  refine zz_enter (by decide) (Nat.le_of_ble_eq_true rfl) (zz_less (ls1 := [some (zl p0), none, some (zi 3)]) ⟨rfl, ⟨rfl, trivial⟩⟩ ?_)
  refine zz_iconst zd_14_12_0 ?_
  refine zz_istore_n [some (zl p0), none, some (zi 3), some (zi 0)] zd_14_12_1 (by decide) rfl ?_
  refine zz_iconst zd_14_12_2 ?_
  refine zz_istore [some (zl p0), none, some (zi 3), some (zi 0), some (zi 0)] zd_14_12_3 (by decide) rfl ?_
  refine zz_iload (x := 0) rfl zd_14_12_5 ?_
  refine zz_iload_n (x := 3) rfl zd_14_12_7 ?_
  refine zz_icmp_ge (by omega) (by omega) zd_14_12_8 (fun c1 => ?_) (fun c1 => ?_)
  · exfalso; omega
  · refine zz_iload_n (x := 0) rfl zd_14_12_11 ?_
    refine zz_iload (x := 0) rfl zd_14_12_12 ?_
    refine zz_callSI [zi 0] zd_14_12_14 zk_Md_215 rfl rfl ⟨Nat.le_of_ble_eq_true rfl, Nat.le_of_ble_eq_true rfl⟩ ⟨rfl, rfl⟩ (Nat.zero_le _) (Nat.zero_le _) (zc_bitsOf_14_11 0 S0 n hn G_S0 (by omega)) (fun v3 S2 hP => ?_)
    obtain ⟨rfl, o4, o5⟩ := hP
    obtain rfl : v3 = 4 := by omega
    refine zz_iadd zd_14_12_17 ?_
    refine zz_eqv (v := 4) (by decide) ?_
    refine zz_istore_n [some (zl p0), none, some (zi 3), some (zi 4), some (zi 0)] zd_14_12_18 (by decide) rfl ?_
    refine zz_iinc [some (zl p0), none, some (zi 3), some (zi 4), some (zi 1)] zd_14_12_19 rfl rfl ?_
    refine zz_goto zd_14_12_22 ?_
    refine zz_iload (x := 1) rfl zd_14_12_5 ?_
    refine zz_iload_n (x := 3) rfl zd_14_12_7 ?_
    refine zz_icmp_ge (by omega) (by omega) zd_14_12_8 (fun c6 => ?_) (fun c6 => ?_)
    · exfalso; omega
    · refine zz_iload_n (x := 4) rfl zd_14_12_11 ?_
      refine zz_iload (x := 1) rfl zd_14_12_12 ?_
      refine zz_callSI [zi 1] zd_14_12_14 zk_Md_215 rfl rfl ⟨Nat.le_of_ble_eq_true rfl, Nat.le_of_ble_eq_true rfl⟩ ⟨rfl, rfl⟩ (Nat.zero_le _) (Nat.zero_le _) (zc_bitsOf_14_11 1 S0 n hn G_S0 (by omega)) (fun v8 S7 hP => ?_)
      obtain ⟨rfl, o9, o10⟩ := hP
      obtain rfl : v8 = 1 := by omega
      refine zz_iadd zd_14_12_17 ?_
      refine zz_eqv (v := 5) (by decide) ?_
      refine zz_istore_n [some (zl p0), none, some (zi 3), some (zi 5), some (zi 1)] zd_14_12_18 (by decide) rfl ?_
      refine zz_iinc [some (zl p0), none, some (zi 3), some (zi 5), some (zi 2)] zd_14_12_19 rfl rfl ?_
      refine zz_goto zd_14_12_22 ?_
      refine zz_iload (x := 2) rfl zd_14_12_5 ?_
      refine zz_iload_n (x := 3) rfl zd_14_12_7 ?_
      refine zz_icmp_ge (by omega) (by omega) zd_14_12_8 (fun c11 => ?_) (fun c11 => ?_)
      · exfalso; omega
      · refine zz_iload_n (x := 5) rfl zd_14_12_11 ?_
        refine zz_iload (x := 2) rfl zd_14_12_12 ?_
        refine zz_callSI [zi 2] zd_14_12_14 zk_Md_215 rfl rfl ⟨Nat.le_of_ble_eq_true rfl, Nat.le_of_ble_eq_true rfl⟩ ⟨rfl, rfl⟩ (Nat.zero_le _) (Nat.zero_le _) (zc_bitsOf_14_11 2 S0 n hn G_S0 (by omega)) (fun v13 S12 hP => ?_)
        obtain ⟨rfl, o14, o15⟩ := hP
        obtain rfl : v13 = 1 := by omega
        refine zz_iadd zd_14_12_17 ?_
        refine zz_eqv (v := 6) (by decide) ?_
        refine zz_istore_n [some (zl p0), none, some (zi 3), some (zi 6), some (zi 2)] zd_14_12_18 (by decide) rfl ?_
        refine zz_iinc [some (zl p0), none, some (zi 3), some (zi 6), some (zi 3)] zd_14_12_19 rfl rfl ?_
        refine zz_goto zd_14_12_22 ?_
        refine zz_iload (x := 3) rfl zd_14_12_5 ?_
        refine zz_iload_n (x := 3) rfl zd_14_12_7 ?_
        refine zz_icmp_ge (by omega) (by omega) zd_14_12_8 (fun c16 => ?_) (fun c16 => ?_)
        · refine zz_lload_n (x := p0) rfl zd_14_12_25 ?_
          refine zz_iload_n (x := 6) rfl zd_14_12_26 ?_
          refine zz_lushr zd_14_12_27 (fun v17 hv17 ev17 => ?_)
          refine zz_lconst (z := 1) (by decide) zd_14_12_28 ?_
          refine zz_iload_n (x := 3) rfl zd_14_12_29 ?_
          refine zz_callSI [zi 3] zd_14_12_30 zk_Md_215 rfl rfl ⟨Nat.le_of_ble_eq_true rfl, Nat.le_of_ble_eq_true rfl⟩ ⟨rfl, rfl⟩ (Nat.zero_le _) (Nat.zero_le _) (zc_bitsOf_14_11 3 S0 n hn G_S0 (by omega)) (fun v19 S18 hP => ?_)
          obtain ⟨rfl, o20, o21⟩ := hP
          obtain rfl : v19 = 1 := by omega
          refine zz_lshl zd_14_12_33 (fun v22 hv22 ev22 => ?_)
          have av22 := zz_sl1 (by omega) ev22
          refine zz_eqvl (v := 2) (by omega) ?_
          refine zz_lconst (z := 1) (by decide) zd_14_12_34 ?_
          refine zz_lsub zd_14_12_35 ?_
          refine zz_eqvl (v := 1) (by decide) ?_
          refine zz_land zd_14_12_36 (fun v23 hv23 ev23 => ?_)
          have av23 := zz_band64 (by omega) (by omega) ev23
          refine zz_l2i (by omega) zd_14_12_37 (fun v24 hv24 av24 ev24 => ?_)
          exact zz_iret zd_14_12_38 rfl (Nat.zero_le _) (Nat.zero_le _) ⟨_, _, rfl, rfl, by omega, by subst_vars; rfl⟩
        · exfalso; omega
-- TensorForgeModel fieldOf (JI)I
abbrev zr_fieldOf_14_12x_4 : Room := { frames := 1, cells := 0, slots := 0, locals := 16 }
def zp_fieldOf_14_12x_4 (p0 : Int) (S0 : zz_S) : Int → zz_S → Prop := fun r S => S0 = S ∧ (0 ≤ r ∧ r ≤ 1) ∧ (r = zz_fx p0 7 1)
theorem zc_fieldOf_14_12x_4 {g : mm_G} {l : Launch} (p0 : Int) (S0 : zz_S) (n : Nat) (hn : zz_end ≤ n) (G_S0 : zz_G S0) (hp0 : (-9223372036854775808) ≤ p0 ∧ p0 ≤ 9223372036854775807) : mm_Met g l zy_fieldOf_14_12 zr_fieldOf_14_12x_4 [zl p0, zi 4] (zz_M S0 n) n (zz_QI n (zp_fieldOf_14_12x_4 p0 S0)) := by
  refine zz_enter (by decide) (Nat.le_of_ble_eq_true rfl) (zz_less (ls1 := [some (zl p0), none, some (zi 4)]) ⟨rfl, ⟨rfl, trivial⟩⟩ ?_)
  refine zz_iconst zd_14_12_0 ?_
  refine zz_istore_n [some (zl p0), none, some (zi 4), some (zi 0)] zd_14_12_1 (by decide) rfl ?_
  refine zz_iconst zd_14_12_2 ?_
  refine zz_istore [some (zl p0), none, some (zi 4), some (zi 0), some (zi 0)] zd_14_12_3 (by decide) rfl ?_
  refine zz_iload (x := 0) rfl zd_14_12_5 ?_
  refine zz_iload_n (x := 4) rfl zd_14_12_7 ?_
  refine zz_icmp_ge (by omega) (by omega) zd_14_12_8 (fun c1 => ?_) (fun c1 => ?_)
  · exfalso; omega
  · refine zz_iload_n (x := 0) rfl zd_14_12_11 ?_
    refine zz_iload (x := 0) rfl zd_14_12_12 ?_
    refine zz_callSI [zi 0] zd_14_12_14 zk_Md_215 rfl rfl ⟨Nat.le_of_ble_eq_true rfl, Nat.le_of_ble_eq_true rfl⟩ ⟨rfl, rfl⟩ (Nat.zero_le _) (Nat.zero_le _) (zc_bitsOf_14_11 0 S0 n hn G_S0 (by omega)) (fun v3 S2 hP => ?_)
    obtain ⟨rfl, o4, o5⟩ := hP
    obtain rfl : v3 = 4 := by omega
    refine zz_iadd zd_14_12_17 ?_
    refine zz_eqv (v := 4) (by decide) ?_
    refine zz_istore_n [some (zl p0), none, some (zi 4), some (zi 4), some (zi 0)] zd_14_12_18 (by decide) rfl ?_
    refine zz_iinc [some (zl p0), none, some (zi 4), some (zi 4), some (zi 1)] zd_14_12_19 rfl rfl ?_
    refine zz_goto zd_14_12_22 ?_
    refine zz_iload (x := 1) rfl zd_14_12_5 ?_
    refine zz_iload_n (x := 4) rfl zd_14_12_7 ?_
    refine zz_icmp_ge (by omega) (by omega) zd_14_12_8 (fun c6 => ?_) (fun c6 => ?_)
    · exfalso; omega
    · refine zz_iload_n (x := 4) rfl zd_14_12_11 ?_
      refine zz_iload (x := 1) rfl zd_14_12_12 ?_
      refine zz_callSI [zi 1] zd_14_12_14 zk_Md_215 rfl rfl ⟨Nat.le_of_ble_eq_true rfl, Nat.le_of_ble_eq_true rfl⟩ ⟨rfl, rfl⟩ (Nat.zero_le _) (Nat.zero_le _) (zc_bitsOf_14_11 1 S0 n hn G_S0 (by omega)) (fun v8 S7 hP => ?_)
      obtain ⟨rfl, o9, o10⟩ := hP
      obtain rfl : v8 = 1 := by omega
      refine zz_iadd zd_14_12_17 ?_
      refine zz_eqv (v := 5) (by decide) ?_
      refine zz_istore_n [some (zl p0), none, some (zi 4), some (zi 5), some (zi 1)] zd_14_12_18 (by decide) rfl ?_
      refine zz_iinc [some (zl p0), none, some (zi 4), some (zi 5), some (zi 2)] zd_14_12_19 rfl rfl ?_
      refine zz_goto zd_14_12_22 ?_
      refine zz_iload (x := 2) rfl zd_14_12_5 ?_
      refine zz_iload_n (x := 4) rfl zd_14_12_7 ?_
      refine zz_icmp_ge (by omega) (by omega) zd_14_12_8 (fun c11 => ?_) (fun c11 => ?_)
      · exfalso; omega
      · refine zz_iload_n (x := 5) rfl zd_14_12_11 ?_
        refine zz_iload (x := 2) rfl zd_14_12_12 ?_
        refine zz_callSI [zi 2] zd_14_12_14 zk_Md_215 rfl rfl ⟨Nat.le_of_ble_eq_true rfl, Nat.le_of_ble_eq_true rfl⟩ ⟨rfl, rfl⟩ (Nat.zero_le _) (Nat.zero_le _) (zc_bitsOf_14_11 2 S0 n hn G_S0 (by omega)) (fun v13 S12 hP => ?_)
        obtain ⟨rfl, o14, o15⟩ := hP
        obtain rfl : v13 = 1 := by omega
        refine zz_iadd zd_14_12_17 ?_
        refine zz_eqv (v := 6) (by decide) ?_
        refine zz_istore_n [some (zl p0), none, some (zi 4), some (zi 6), some (zi 2)] zd_14_12_18 (by decide) rfl ?_
        refine zz_iinc [some (zl p0), none, some (zi 4), some (zi 6), some (zi 3)] zd_14_12_19 rfl rfl ?_
        refine zz_goto zd_14_12_22 ?_
        refine zz_iload (x := 3) rfl zd_14_12_5 ?_
        refine zz_iload_n (x := 4) rfl zd_14_12_7 ?_
        refine zz_icmp_ge (by omega) (by omega) zd_14_12_8 (fun c16 => ?_) (fun c16 => ?_)
        · exfalso; omega
        · refine zz_iload_n (x := 6) rfl zd_14_12_11 ?_
          refine zz_iload (x := 3) rfl zd_14_12_12 ?_
          refine zz_callSI [zi 3] zd_14_12_14 zk_Md_215 rfl rfl ⟨Nat.le_of_ble_eq_true rfl, Nat.le_of_ble_eq_true rfl⟩ ⟨rfl, rfl⟩ (Nat.zero_le _) (Nat.zero_le _) (zc_bitsOf_14_11 3 S0 n hn G_S0 (by omega)) (fun v18 S17 hP => ?_)
          obtain ⟨rfl, o19, o20⟩ := hP
          obtain rfl : v18 = 1 := by omega
          refine zz_iadd zd_14_12_17 ?_
          refine zz_eqv (v := 7) (by decide) ?_
          refine zz_istore_n [some (zl p0), none, some (zi 4), some (zi 7), some (zi 3)] zd_14_12_18 (by decide) rfl ?_
          refine zz_iinc [some (zl p0), none, some (zi 4), some (zi 7), some (zi 4)] zd_14_12_19 rfl rfl ?_
          refine zz_goto zd_14_12_22 ?_
          refine zz_iload (x := 4) rfl zd_14_12_5 ?_
          refine zz_iload_n (x := 4) rfl zd_14_12_7 ?_
          refine zz_icmp_ge (by omega) (by omega) zd_14_12_8 (fun c21 => ?_) (fun c21 => ?_)
          · refine zz_lload_n (x := p0) rfl zd_14_12_25 ?_
            refine zz_iload_n (x := 7) rfl zd_14_12_26 ?_
            refine zz_lushr zd_14_12_27 (fun v22 hv22 ev22 => ?_)
            refine zz_lconst (z := 1) (by decide) zd_14_12_28 ?_
            refine zz_iload_n (x := 4) rfl zd_14_12_29 ?_
            refine zz_callSI [zi 4] zd_14_12_30 zk_Md_215 rfl rfl ⟨Nat.le_of_ble_eq_true rfl, Nat.le_of_ble_eq_true rfl⟩ ⟨rfl, rfl⟩ (Nat.zero_le _) (Nat.zero_le _) (zc_bitsOf_14_11 4 S0 n hn G_S0 (by omega)) (fun v24 S23 hP => ?_)
            obtain ⟨rfl, o25, o26⟩ := hP
            obtain rfl : v24 = 1 := by omega
            refine zz_lshl zd_14_12_33 (fun v27 hv27 ev27 => ?_)
            have av27 := zz_sl1 (by omega) ev27
            refine zz_eqvl (v := 2) (by omega) ?_
            refine zz_lconst (z := 1) (by decide) zd_14_12_34 ?_
            refine zz_lsub zd_14_12_35 ?_
            refine zz_eqvl (v := 1) (by decide) ?_
            refine zz_land zd_14_12_36 (fun v28 hv28 ev28 => ?_)
            have av28 := zz_band64 (by omega) (by omega) ev28
            refine zz_l2i (by omega) zd_14_12_37 (fun v29 hv29 av29 ev29 => ?_)
            exact zz_iret zd_14_12_38 rfl (Nat.zero_le _) (Nat.zero_le _) ⟨_, _, rfl, rfl, by omega, by subst_vars; rfl⟩
          · exfalso; omega
-- TensorForgeModel fieldOf (JI)I
abbrev zr_fieldOf_14_12x_5 : Room := { frames := 1, cells := 0, slots := 0, locals := 16 }
def zp_fieldOf_14_12x_5 (p0 : Int) (S0 : zz_S) : Int → zz_S → Prop := fun r S => S0 = S ∧ (0 ≤ r ∧ r ≤ 4095) ∧ (r = zz_fx p0 8 4095)
theorem zc_fieldOf_14_12x_5 {g : mm_G} {l : Launch} (p0 : Int) (S0 : zz_S) (n : Nat) (hn : zz_end ≤ n) (G_S0 : zz_G S0) (hp0 : (-9223372036854775808) ≤ p0 ∧ p0 ≤ 9223372036854775807) : mm_Met g l zy_fieldOf_14_12 zr_fieldOf_14_12x_5 [zl p0, zi 5] (zz_M S0 n) n (zz_QI n (zp_fieldOf_14_12x_5 p0 S0)) := by
  refine zz_enter (by decide) (Nat.le_of_ble_eq_true rfl) (zz_less (ls1 := [some (zl p0), none, some (zi 5)]) ⟨rfl, ⟨rfl, trivial⟩⟩ ?_)
  refine zz_iconst zd_14_12_0 ?_
  refine zz_istore_n [some (zl p0), none, some (zi 5), some (zi 0)] zd_14_12_1 (by decide) rfl ?_
  refine zz_iconst zd_14_12_2 ?_
  refine zz_istore [some (zl p0), none, some (zi 5), some (zi 0), some (zi 0)] zd_14_12_3 (by decide) rfl ?_
  refine zz_iload (x := 0) rfl zd_14_12_5 ?_
  refine zz_iload_n (x := 5) rfl zd_14_12_7 ?_
  refine zz_icmp_ge (by omega) (by omega) zd_14_12_8 (fun c1 => ?_) (fun c1 => ?_)
  · exfalso; omega
  · refine zz_iload_n (x := 0) rfl zd_14_12_11 ?_
    refine zz_iload (x := 0) rfl zd_14_12_12 ?_
    refine zz_callSI [zi 0] zd_14_12_14 zk_Md_215 rfl rfl ⟨Nat.le_of_ble_eq_true rfl, Nat.le_of_ble_eq_true rfl⟩ ⟨rfl, rfl⟩ (Nat.zero_le _) (Nat.zero_le _) (zc_bitsOf_14_11 0 S0 n hn G_S0 (by omega)) (fun v3 S2 hP => ?_)
    obtain ⟨rfl, o4, o5⟩ := hP
    obtain rfl : v3 = 4 := by omega
    refine zz_iadd zd_14_12_17 ?_
    refine zz_eqv (v := 4) (by decide) ?_
    refine zz_istore_n [some (zl p0), none, some (zi 5), some (zi 4), some (zi 0)] zd_14_12_18 (by decide) rfl ?_
    refine zz_iinc [some (zl p0), none, some (zi 5), some (zi 4), some (zi 1)] zd_14_12_19 rfl rfl ?_
    refine zz_goto zd_14_12_22 ?_
    refine zz_iload (x := 1) rfl zd_14_12_5 ?_
    refine zz_iload_n (x := 5) rfl zd_14_12_7 ?_
    refine zz_icmp_ge (by omega) (by omega) zd_14_12_8 (fun c6 => ?_) (fun c6 => ?_)
    · exfalso; omega
    · refine zz_iload_n (x := 4) rfl zd_14_12_11 ?_
      refine zz_iload (x := 1) rfl zd_14_12_12 ?_
      refine zz_callSI [zi 1] zd_14_12_14 zk_Md_215 rfl rfl ⟨Nat.le_of_ble_eq_true rfl, Nat.le_of_ble_eq_true rfl⟩ ⟨rfl, rfl⟩ (Nat.zero_le _) (Nat.zero_le _) (zc_bitsOf_14_11 1 S0 n hn G_S0 (by omega)) (fun v8 S7 hP => ?_)
      obtain ⟨rfl, o9, o10⟩ := hP
      obtain rfl : v8 = 1 := by omega
      refine zz_iadd zd_14_12_17 ?_
      refine zz_eqv (v := 5) (by decide) ?_
      refine zz_istore_n [some (zl p0), none, some (zi 5), some (zi 5), some (zi 1)] zd_14_12_18 (by decide) rfl ?_
      refine zz_iinc [some (zl p0), none, some (zi 5), some (zi 5), some (zi 2)] zd_14_12_19 rfl rfl ?_
      refine zz_goto zd_14_12_22 ?_
      refine zz_iload (x := 2) rfl zd_14_12_5 ?_
      refine zz_iload_n (x := 5) rfl zd_14_12_7 ?_
      refine zz_icmp_ge (by omega) (by omega) zd_14_12_8 (fun c11 => ?_) (fun c11 => ?_)
      · exfalso; omega
      · refine zz_iload_n (x := 5) rfl zd_14_12_11 ?_
        refine zz_iload (x := 2) rfl zd_14_12_12 ?_
        refine zz_callSI [zi 2] zd_14_12_14 zk_Md_215 rfl rfl ⟨Nat.le_of_ble_eq_true rfl, Nat.le_of_ble_eq_true rfl⟩ ⟨rfl, rfl⟩ (Nat.zero_le _) (Nat.zero_le _) (zc_bitsOf_14_11 2 S0 n hn G_S0 (by omega)) (fun v13 S12 hP => ?_)
        obtain ⟨rfl, o14, o15⟩ := hP
        obtain rfl : v13 = 1 := by omega
        refine zz_iadd zd_14_12_17 ?_
        refine zz_eqv (v := 6) (by decide) ?_
        refine zz_istore_n [some (zl p0), none, some (zi 5), some (zi 6), some (zi 2)] zd_14_12_18 (by decide) rfl ?_
        refine zz_iinc [some (zl p0), none, some (zi 5), some (zi 6), some (zi 3)] zd_14_12_19 rfl rfl ?_
        refine zz_goto zd_14_12_22 ?_
        refine zz_iload (x := 3) rfl zd_14_12_5 ?_
        refine zz_iload_n (x := 5) rfl zd_14_12_7 ?_
        refine zz_icmp_ge (by omega) (by omega) zd_14_12_8 (fun c16 => ?_) (fun c16 => ?_)
        · exfalso; omega
        · refine zz_iload_n (x := 6) rfl zd_14_12_11 ?_
          refine zz_iload (x := 3) rfl zd_14_12_12 ?_
          refine zz_callSI [zi 3] zd_14_12_14 zk_Md_215 rfl rfl ⟨Nat.le_of_ble_eq_true rfl, Nat.le_of_ble_eq_true rfl⟩ ⟨rfl, rfl⟩ (Nat.zero_le _) (Nat.zero_le _) (zc_bitsOf_14_11 3 S0 n hn G_S0 (by omega)) (fun v18 S17 hP => ?_)
          obtain ⟨rfl, o19, o20⟩ := hP
          obtain rfl : v18 = 1 := by omega
          refine zz_iadd zd_14_12_17 ?_
          refine zz_eqv (v := 7) (by decide) ?_
          refine zz_istore_n [some (zl p0), none, some (zi 5), some (zi 7), some (zi 3)] zd_14_12_18 (by decide) rfl ?_
          refine zz_iinc [some (zl p0), none, some (zi 5), some (zi 7), some (zi 4)] zd_14_12_19 rfl rfl ?_
          refine zz_goto zd_14_12_22 ?_
          refine zz_iload (x := 4) rfl zd_14_12_5 ?_
          refine zz_iload_n (x := 5) rfl zd_14_12_7 ?_
          refine zz_icmp_ge (by omega) (by omega) zd_14_12_8 (fun c21 => ?_) (fun c21 => ?_)
          · exfalso; omega
          · refine zz_iload_n (x := 7) rfl zd_14_12_11 ?_
            refine zz_iload (x := 4) rfl zd_14_12_12 ?_
            refine zz_callSI [zi 4] zd_14_12_14 zk_Md_215 rfl rfl ⟨Nat.le_of_ble_eq_true rfl, Nat.le_of_ble_eq_true rfl⟩ ⟨rfl, rfl⟩ (Nat.zero_le _) (Nat.zero_le _) (zc_bitsOf_14_11 4 S0 n hn G_S0 (by omega)) (fun v23 S22 hP => ?_)
            obtain ⟨rfl, o24, o25⟩ := hP
            obtain rfl : v23 = 1 := by omega
            refine zz_iadd zd_14_12_17 ?_
            refine zz_eqv (v := 8) (by decide) ?_
            refine zz_istore_n [some (zl p0), none, some (zi 5), some (zi 8), some (zi 4)] zd_14_12_18 (by decide) rfl ?_
            refine zz_iinc [some (zl p0), none, some (zi 5), some (zi 8), some (zi 5)] zd_14_12_19 rfl rfl ?_
            refine zz_goto zd_14_12_22 ?_
            refine zz_iload (x := 5) rfl zd_14_12_5 ?_
            refine zz_iload_n (x := 5) rfl zd_14_12_7 ?_
            refine zz_icmp_ge (by omega) (by omega) zd_14_12_8 (fun c26 => ?_) (fun c26 => ?_)
            · refine zz_lload_n (x := p0) rfl zd_14_12_25 ?_
              refine zz_iload_n (x := 8) rfl zd_14_12_26 ?_
              refine zz_lushr zd_14_12_27 (fun v27 hv27 ev27 => ?_)
              refine zz_lconst (z := 1) (by decide) zd_14_12_28 ?_
              refine zz_iload_n (x := 5) rfl zd_14_12_29 ?_
              refine zz_callSI [zi 5] zd_14_12_30 zk_Md_215 rfl rfl ⟨Nat.le_of_ble_eq_true rfl, Nat.le_of_ble_eq_true rfl⟩ ⟨rfl, rfl⟩ (Nat.zero_le _) (Nat.zero_le _) (zc_bitsOf_14_11 5 S0 n hn G_S0 (by omega)) (fun v29 S28 hP => ?_)
              obtain ⟨rfl, o30, o31⟩ := hP
              obtain rfl : v29 = 12 := by omega
              refine zz_lshl zd_14_12_33 (fun v32 hv32 ev32 => ?_)
              have av32 := zz_sl1 (by omega) ev32
              refine zz_eqvl (v := 4096) (by omega) ?_
              refine zz_lconst (z := 1) (by decide) zd_14_12_34 ?_
              refine zz_lsub zd_14_12_35 ?_
              refine zz_eqvl (v := 4095) (by decide) ?_
              refine zz_land zd_14_12_36 (fun v33 hv33 ev33 => ?_)
              have av33 := zz_band64 (by omega) (by omega) ev33
              refine zz_l2i (by omega) zd_14_12_37 (fun v34 hv34 av34 ev34 => ?_)
              exact zz_iret zd_14_12_38 rfl (Nat.zero_le _) (Nat.zero_le _) ⟨_, _, rfl, rfl, by omega, by subst_vars; rfl⟩
            · exfalso; omega
-- TensorForgeModel fieldOf (JI)I
abbrev zr_fieldOf_14_12x_6 : Room := { frames := 1, cells := 0, slots := 0, locals := 16 }
def zp_fieldOf_14_12x_6 (p0 : Int) (S0 : zz_S) : Int → zz_S → Prop := fun r S => S0 = S ∧ (0 ≤ r ∧ r ≤ 63) ∧ (r = zz_fx p0 20 63)
theorem zc_fieldOf_14_12x_6 {g : mm_G} {l : Launch} (p0 : Int) (S0 : zz_S) (n : Nat) (hn : zz_end ≤ n) (G_S0 : zz_G S0) (hp0 : (-9223372036854775808) ≤ p0 ∧ p0 ≤ 9223372036854775807) : mm_Met g l zy_fieldOf_14_12 zr_fieldOf_14_12x_6 [zl p0, zi 6] (zz_M S0 n) n (zz_QI n (zp_fieldOf_14_12x_6 p0 S0)) := by
  refine zz_enter (by decide) (Nat.le_of_ble_eq_true rfl) (zz_less (ls1 := [some (zl p0), none, some (zi 6)]) ⟨rfl, ⟨rfl, trivial⟩⟩ ?_)
  refine zz_iconst zd_14_12_0 ?_
  refine zz_istore_n [some (zl p0), none, some (zi 6), some (zi 0)] zd_14_12_1 (by decide) rfl ?_
  refine zz_iconst zd_14_12_2 ?_
  refine zz_istore [some (zl p0), none, some (zi 6), some (zi 0), some (zi 0)] zd_14_12_3 (by decide) rfl ?_
  refine zz_iload (x := 0) rfl zd_14_12_5 ?_
  refine zz_iload_n (x := 6) rfl zd_14_12_7 ?_
  refine zz_icmp_ge (by omega) (by omega) zd_14_12_8 (fun c1 => ?_) (fun c1 => ?_)
  · exfalso; omega
  · refine zz_iload_n (x := 0) rfl zd_14_12_11 ?_
    refine zz_iload (x := 0) rfl zd_14_12_12 ?_
    refine zz_callSI [zi 0] zd_14_12_14 zk_Md_215 rfl rfl ⟨Nat.le_of_ble_eq_true rfl, Nat.le_of_ble_eq_true rfl⟩ ⟨rfl, rfl⟩ (Nat.zero_le _) (Nat.zero_le _) (zc_bitsOf_14_11 0 S0 n hn G_S0 (by omega)) (fun v3 S2 hP => ?_)
    obtain ⟨rfl, o4, o5⟩ := hP
    obtain rfl : v3 = 4 := by omega
    refine zz_iadd zd_14_12_17 ?_
    refine zz_eqv (v := 4) (by decide) ?_
    refine zz_istore_n [some (zl p0), none, some (zi 6), some (zi 4), some (zi 0)] zd_14_12_18 (by decide) rfl ?_
    refine zz_iinc [some (zl p0), none, some (zi 6), some (zi 4), some (zi 1)] zd_14_12_19 rfl rfl ?_
    refine zz_goto zd_14_12_22 ?_
    refine zz_iload (x := 1) rfl zd_14_12_5 ?_
    refine zz_iload_n (x := 6) rfl zd_14_12_7 ?_
    refine zz_icmp_ge (by omega) (by omega) zd_14_12_8 (fun c6 => ?_) (fun c6 => ?_)
    · exfalso; omega
    · refine zz_iload_n (x := 4) rfl zd_14_12_11 ?_
      refine zz_iload (x := 1) rfl zd_14_12_12 ?_
      refine zz_callSI [zi 1] zd_14_12_14 zk_Md_215 rfl rfl ⟨Nat.le_of_ble_eq_true rfl, Nat.le_of_ble_eq_true rfl⟩ ⟨rfl, rfl⟩ (Nat.zero_le _) (Nat.zero_le _) (zc_bitsOf_14_11 1 S0 n hn G_S0 (by omega)) (fun v8 S7 hP => ?_)
      obtain ⟨rfl, o9, o10⟩ := hP
      obtain rfl : v8 = 1 := by omega
      refine zz_iadd zd_14_12_17 ?_
      refine zz_eqv (v := 5) (by decide) ?_
      refine zz_istore_n [some (zl p0), none, some (zi 6), some (zi 5), some (zi 1)] zd_14_12_18 (by decide) rfl ?_
      refine zz_iinc [some (zl p0), none, some (zi 6), some (zi 5), some (zi 2)] zd_14_12_19 rfl rfl ?_
      refine zz_goto zd_14_12_22 ?_
      refine zz_iload (x := 2) rfl zd_14_12_5 ?_
      refine zz_iload_n (x := 6) rfl zd_14_12_7 ?_
      refine zz_icmp_ge (by omega) (by omega) zd_14_12_8 (fun c11 => ?_) (fun c11 => ?_)
      · exfalso; omega
      · refine zz_iload_n (x := 5) rfl zd_14_12_11 ?_
        refine zz_iload (x := 2) rfl zd_14_12_12 ?_
        refine zz_callSI [zi 2] zd_14_12_14 zk_Md_215 rfl rfl ⟨Nat.le_of_ble_eq_true rfl, Nat.le_of_ble_eq_true rfl⟩ ⟨rfl, rfl⟩ (Nat.zero_le _) (Nat.zero_le _) (zc_bitsOf_14_11 2 S0 n hn G_S0 (by omega)) (fun v13 S12 hP => ?_)
        obtain ⟨rfl, o14, o15⟩ := hP
        obtain rfl : v13 = 1 := by omega
        refine zz_iadd zd_14_12_17 ?_
        refine zz_eqv (v := 6) (by decide) ?_
        refine zz_istore_n [some (zl p0), none, some (zi 6), some (zi 6), some (zi 2)] zd_14_12_18 (by decide) rfl ?_
        refine zz_iinc [some (zl p0), none, some (zi 6), some (zi 6), some (zi 3)] zd_14_12_19 rfl rfl ?_
        refine zz_goto zd_14_12_22 ?_
        refine zz_iload (x := 3) rfl zd_14_12_5 ?_
        refine zz_iload_n (x := 6) rfl zd_14_12_7 ?_
        refine zz_icmp_ge (by omega) (by omega) zd_14_12_8 (fun c16 => ?_) (fun c16 => ?_)
        · exfalso; omega
        · refine zz_iload_n (x := 6) rfl zd_14_12_11 ?_
          refine zz_iload (x := 3) rfl zd_14_12_12 ?_
          refine zz_callSI [zi 3] zd_14_12_14 zk_Md_215 rfl rfl ⟨Nat.le_of_ble_eq_true rfl, Nat.le_of_ble_eq_true rfl⟩ ⟨rfl, rfl⟩ (Nat.zero_le _) (Nat.zero_le _) (zc_bitsOf_14_11 3 S0 n hn G_S0 (by omega)) (fun v18 S17 hP => ?_)
          obtain ⟨rfl, o19, o20⟩ := hP
          obtain rfl : v18 = 1 := by omega
          refine zz_iadd zd_14_12_17 ?_
          refine zz_eqv (v := 7) (by decide) ?_
          refine zz_istore_n [some (zl p0), none, some (zi 6), some (zi 7), some (zi 3)] zd_14_12_18 (by decide) rfl ?_
          refine zz_iinc [some (zl p0), none, some (zi 6), some (zi 7), some (zi 4)] zd_14_12_19 rfl rfl ?_
          refine zz_goto zd_14_12_22 ?_
          refine zz_iload (x := 4) rfl zd_14_12_5 ?_
          refine zz_iload_n (x := 6) rfl zd_14_12_7 ?_
          refine zz_icmp_ge (by omega) (by omega) zd_14_12_8 (fun c21 => ?_) (fun c21 => ?_)
          · exfalso; omega
          · refine zz_iload_n (x := 7) rfl zd_14_12_11 ?_
            refine zz_iload (x := 4) rfl zd_14_12_12 ?_
            refine zz_callSI [zi 4] zd_14_12_14 zk_Md_215 rfl rfl ⟨Nat.le_of_ble_eq_true rfl, Nat.le_of_ble_eq_true rfl⟩ ⟨rfl, rfl⟩ (Nat.zero_le _) (Nat.zero_le _) (zc_bitsOf_14_11 4 S0 n hn G_S0 (by omega)) (fun v23 S22 hP => ?_)
            obtain ⟨rfl, o24, o25⟩ := hP
            obtain rfl : v23 = 1 := by omega
            refine zz_iadd zd_14_12_17 ?_
            refine zz_eqv (v := 8) (by decide) ?_
            refine zz_istore_n [some (zl p0), none, some (zi 6), some (zi 8), some (zi 4)] zd_14_12_18 (by decide) rfl ?_
            refine zz_iinc [some (zl p0), none, some (zi 6), some (zi 8), some (zi 5)] zd_14_12_19 rfl rfl ?_
            refine zz_goto zd_14_12_22 ?_
            refine zz_iload (x := 5) rfl zd_14_12_5 ?_
            refine zz_iload_n (x := 6) rfl zd_14_12_7 ?_
            refine zz_icmp_ge (by omega) (by omega) zd_14_12_8 (fun c26 => ?_) (fun c26 => ?_)
            · exfalso; omega
            · refine zz_iload_n (x := 8) rfl zd_14_12_11 ?_
              refine zz_iload (x := 5) rfl zd_14_12_12 ?_
              refine zz_callSI [zi 5] zd_14_12_14 zk_Md_215 rfl rfl ⟨Nat.le_of_ble_eq_true rfl, Nat.le_of_ble_eq_true rfl⟩ ⟨rfl, rfl⟩ (Nat.zero_le _) (Nat.zero_le _) (zc_bitsOf_14_11 5 S0 n hn G_S0 (by omega)) (fun v28 S27 hP => ?_)
              obtain ⟨rfl, o29, o30⟩ := hP
              obtain rfl : v28 = 12 := by omega
              refine zz_iadd zd_14_12_17 ?_
              refine zz_eqv (v := 20) (by decide) ?_
              refine zz_istore_n [some (zl p0), none, some (zi 6), some (zi 20), some (zi 5)] zd_14_12_18 (by decide) rfl ?_
              refine zz_iinc [some (zl p0), none, some (zi 6), some (zi 20), some (zi 6)] zd_14_12_19 rfl rfl ?_
              refine zz_goto zd_14_12_22 ?_
              refine zz_iload (x := 6) rfl zd_14_12_5 ?_
              refine zz_iload_n (x := 6) rfl zd_14_12_7 ?_
              refine zz_icmp_ge (by omega) (by omega) zd_14_12_8 (fun c31 => ?_) (fun c31 => ?_)
              · refine zz_lload_n (x := p0) rfl zd_14_12_25 ?_
                refine zz_iload_n (x := 20) rfl zd_14_12_26 ?_
                refine zz_lushr zd_14_12_27 (fun v32 hv32 ev32 => ?_)
                refine zz_lconst (z := 1) (by decide) zd_14_12_28 ?_
                refine zz_iload_n (x := 6) rfl zd_14_12_29 ?_
                refine zz_callSI [zi 6] zd_14_12_30 zk_Md_215 rfl rfl ⟨Nat.le_of_ble_eq_true rfl, Nat.le_of_ble_eq_true rfl⟩ ⟨rfl, rfl⟩ (Nat.zero_le _) (Nat.zero_le _) (zc_bitsOf_14_11 6 S0 n hn G_S0 (by omega)) (fun v34 S33 hP => ?_)
                obtain ⟨rfl, o35, o36⟩ := hP
                obtain rfl : v34 = 6 := by omega
                refine zz_lshl zd_14_12_33 (fun v37 hv37 ev37 => ?_)
                have av37 := zz_sl1 (by omega) ev37
                refine zz_eqvl (v := 64) (by omega) ?_
                refine zz_lconst (z := 1) (by decide) zd_14_12_34 ?_
                refine zz_lsub zd_14_12_35 ?_
                refine zz_eqvl (v := 63) (by decide) ?_
                refine zz_land zd_14_12_36 (fun v38 hv38 ev38 => ?_)
                have av38 := zz_band64 (by omega) (by omega) ev38
                refine zz_l2i (by omega) zd_14_12_37 (fun v39 hv39 av39 ev39 => ?_)
                exact zz_iret zd_14_12_38 rfl (Nat.zero_le _) (Nat.zero_le _) ⟨_, _, rfl, rfl, by omega, by subst_vars; rfl⟩
              · exfalso; omega
-- TensorForgeModel fieldOf (JI)I
abbrev zr_fieldOf_14_12x_7 : Room := { frames := 1, cells := 0, slots := 0, locals := 16 }
def zp_fieldOf_14_12x_7 (p0 : Int) (S0 : zz_S) : Int → zz_S → Prop := fun r S => S0 = S ∧ (0 ≤ r ∧ r ≤ 31) ∧ (r = zz_fx p0 26 31)
theorem zc_fieldOf_14_12x_7 {g : mm_G} {l : Launch} (p0 : Int) (S0 : zz_S) (n : Nat) (hn : zz_end ≤ n) (G_S0 : zz_G S0) (hp0 : (-9223372036854775808) ≤ p0 ∧ p0 ≤ 9223372036854775807) : mm_Met g l zy_fieldOf_14_12 zr_fieldOf_14_12x_7 [zl p0, zi 7] (zz_M S0 n) n (zz_QI n (zp_fieldOf_14_12x_7 p0 S0)) := by
  refine zz_enter (by decide) (Nat.le_of_ble_eq_true rfl) (zz_less (ls1 := [some (zl p0), none, some (zi 7)]) ⟨rfl, ⟨rfl, trivial⟩⟩ ?_)
  refine zz_iconst zd_14_12_0 ?_
  refine zz_istore_n [some (zl p0), none, some (zi 7), some (zi 0)] zd_14_12_1 (by decide) rfl ?_
  refine zz_iconst zd_14_12_2 ?_
  refine zz_istore [some (zl p0), none, some (zi 7), some (zi 0), some (zi 0)] zd_14_12_3 (by decide) rfl ?_
  refine zz_iload (x := 0) rfl zd_14_12_5 ?_
  refine zz_iload_n (x := 7) rfl zd_14_12_7 ?_
  refine zz_icmp_ge (by omega) (by omega) zd_14_12_8 (fun c1 => ?_) (fun c1 => ?_)
  · exfalso; omega
  · refine zz_iload_n (x := 0) rfl zd_14_12_11 ?_
    refine zz_iload (x := 0) rfl zd_14_12_12 ?_
    refine zz_callSI [zi 0] zd_14_12_14 zk_Md_215 rfl rfl ⟨Nat.le_of_ble_eq_true rfl, Nat.le_of_ble_eq_true rfl⟩ ⟨rfl, rfl⟩ (Nat.zero_le _) (Nat.zero_le _) (zc_bitsOf_14_11 0 S0 n hn G_S0 (by omega)) (fun v3 S2 hP => ?_)
    obtain ⟨rfl, o4, o5⟩ := hP
    obtain rfl : v3 = 4 := by omega
    refine zz_iadd zd_14_12_17 ?_
    refine zz_eqv (v := 4) (by decide) ?_
    refine zz_istore_n [some (zl p0), none, some (zi 7), some (zi 4), some (zi 0)] zd_14_12_18 (by decide) rfl ?_
    refine zz_iinc [some (zl p0), none, some (zi 7), some (zi 4), some (zi 1)] zd_14_12_19 rfl rfl ?_
    refine zz_goto zd_14_12_22 ?_
    refine zz_iload (x := 1) rfl zd_14_12_5 ?_
    refine zz_iload_n (x := 7) rfl zd_14_12_7 ?_
    refine zz_icmp_ge (by omega) (by omega) zd_14_12_8 (fun c6 => ?_) (fun c6 => ?_)
    · exfalso; omega
    · refine zz_iload_n (x := 4) rfl zd_14_12_11 ?_
      refine zz_iload (x := 1) rfl zd_14_12_12 ?_
      refine zz_callSI [zi 1] zd_14_12_14 zk_Md_215 rfl rfl ⟨Nat.le_of_ble_eq_true rfl, Nat.le_of_ble_eq_true rfl⟩ ⟨rfl, rfl⟩ (Nat.zero_le _) (Nat.zero_le _) (zc_bitsOf_14_11 1 S0 n hn G_S0 (by omega)) (fun v8 S7 hP => ?_)
      obtain ⟨rfl, o9, o10⟩ := hP
      obtain rfl : v8 = 1 := by omega
      refine zz_iadd zd_14_12_17 ?_
      refine zz_eqv (v := 5) (by decide) ?_
      refine zz_istore_n [some (zl p0), none, some (zi 7), some (zi 5), some (zi 1)] zd_14_12_18 (by decide) rfl ?_
      refine zz_iinc [some (zl p0), none, some (zi 7), some (zi 5), some (zi 2)] zd_14_12_19 rfl rfl ?_
      refine zz_goto zd_14_12_22 ?_
      refine zz_iload (x := 2) rfl zd_14_12_5 ?_
      refine zz_iload_n (x := 7) rfl zd_14_12_7 ?_
      refine zz_icmp_ge (by omega) (by omega) zd_14_12_8 (fun c11 => ?_) (fun c11 => ?_)
      · exfalso; omega
      · refine zz_iload_n (x := 5) rfl zd_14_12_11 ?_
        refine zz_iload (x := 2) rfl zd_14_12_12 ?_
        refine zz_callSI [zi 2] zd_14_12_14 zk_Md_215 rfl rfl ⟨Nat.le_of_ble_eq_true rfl, Nat.le_of_ble_eq_true rfl⟩ ⟨rfl, rfl⟩ (Nat.zero_le _) (Nat.zero_le _) (zc_bitsOf_14_11 2 S0 n hn G_S0 (by omega)) (fun v13 S12 hP => ?_)
        obtain ⟨rfl, o14, o15⟩ := hP
        obtain rfl : v13 = 1 := by omega
        refine zz_iadd zd_14_12_17 ?_
        refine zz_eqv (v := 6) (by decide) ?_
        refine zz_istore_n [some (zl p0), none, some (zi 7), some (zi 6), some (zi 2)] zd_14_12_18 (by decide) rfl ?_
        refine zz_iinc [some (zl p0), none, some (zi 7), some (zi 6), some (zi 3)] zd_14_12_19 rfl rfl ?_
        refine zz_goto zd_14_12_22 ?_
        refine zz_iload (x := 3) rfl zd_14_12_5 ?_
        refine zz_iload_n (x := 7) rfl zd_14_12_7 ?_
        refine zz_icmp_ge (by omega) (by omega) zd_14_12_8 (fun c16 => ?_) (fun c16 => ?_)
        · exfalso; omega
        · refine zz_iload_n (x := 6) rfl zd_14_12_11 ?_
          refine zz_iload (x := 3) rfl zd_14_12_12 ?_
          refine zz_callSI [zi 3] zd_14_12_14 zk_Md_215 rfl rfl ⟨Nat.le_of_ble_eq_true rfl, Nat.le_of_ble_eq_true rfl⟩ ⟨rfl, rfl⟩ (Nat.zero_le _) (Nat.zero_le _) (zc_bitsOf_14_11 3 S0 n hn G_S0 (by omega)) (fun v18 S17 hP => ?_)
          obtain ⟨rfl, o19, o20⟩ := hP
          obtain rfl : v18 = 1 := by omega
          refine zz_iadd zd_14_12_17 ?_
          refine zz_eqv (v := 7) (by decide) ?_
          refine zz_istore_n [some (zl p0), none, some (zi 7), some (zi 7), some (zi 3)] zd_14_12_18 (by decide) rfl ?_
          refine zz_iinc [some (zl p0), none, some (zi 7), some (zi 7), some (zi 4)] zd_14_12_19 rfl rfl ?_
          refine zz_goto zd_14_12_22 ?_
          refine zz_iload (x := 4) rfl zd_14_12_5 ?_
          refine zz_iload_n (x := 7) rfl zd_14_12_7 ?_
          refine zz_icmp_ge (by omega) (by omega) zd_14_12_8 (fun c21 => ?_) (fun c21 => ?_)
          · exfalso; omega
          · refine zz_iload_n (x := 7) rfl zd_14_12_11 ?_
            refine zz_iload (x := 4) rfl zd_14_12_12 ?_
            refine zz_callSI [zi 4] zd_14_12_14 zk_Md_215 rfl rfl ⟨Nat.le_of_ble_eq_true rfl, Nat.le_of_ble_eq_true rfl⟩ ⟨rfl, rfl⟩ (Nat.zero_le _) (Nat.zero_le _) (zc_bitsOf_14_11 4 S0 n hn G_S0 (by omega)) (fun v23 S22 hP => ?_)
            obtain ⟨rfl, o24, o25⟩ := hP
            obtain rfl : v23 = 1 := by omega
            refine zz_iadd zd_14_12_17 ?_
            refine zz_eqv (v := 8) (by decide) ?_
            refine zz_istore_n [some (zl p0), none, some (zi 7), some (zi 8), some (zi 4)] zd_14_12_18 (by decide) rfl ?_
            refine zz_iinc [some (zl p0), none, some (zi 7), some (zi 8), some (zi 5)] zd_14_12_19 rfl rfl ?_
            refine zz_goto zd_14_12_22 ?_
            refine zz_iload (x := 5) rfl zd_14_12_5 ?_
            refine zz_iload_n (x := 7) rfl zd_14_12_7 ?_
            refine zz_icmp_ge (by omega) (by omega) zd_14_12_8 (fun c26 => ?_) (fun c26 => ?_)
            · exfalso; omega
            · refine zz_iload_n (x := 8) rfl zd_14_12_11 ?_
              refine zz_iload (x := 5) rfl zd_14_12_12 ?_
              refine zz_callSI [zi 5] zd_14_12_14 zk_Md_215 rfl rfl ⟨Nat.le_of_ble_eq_true rfl, Nat.le_of_ble_eq_true rfl⟩ ⟨rfl, rfl⟩ (Nat.zero_le _) (Nat.zero_le _) (zc_bitsOf_14_11 5 S0 n hn G_S0 (by omega)) (fun v28 S27 hP => ?_)
              obtain ⟨rfl, o29, o30⟩ := hP
              obtain rfl : v28 = 12 := by omega
              refine zz_iadd zd_14_12_17 ?_
              refine zz_eqv (v := 20) (by decide) ?_
              refine zz_istore_n [some (zl p0), none, some (zi 7), some (zi 20), some (zi 5)] zd_14_12_18 (by decide) rfl ?_
              refine zz_iinc [some (zl p0), none, some (zi 7), some (zi 20), some (zi 6)] zd_14_12_19 rfl rfl ?_
              refine zz_goto zd_14_12_22 ?_
              refine zz_iload (x := 6) rfl zd_14_12_5 ?_
              refine zz_iload_n (x := 7) rfl zd_14_12_7 ?_
              refine zz_icmp_ge (by omega) (by omega) zd_14_12_8 (fun c31 => ?_) (fun c31 => ?_)
              · exfalso; omega
              · refine zz_iload_n (x := 20) rfl zd_14_12_11 ?_
                refine zz_iload (x := 6) rfl zd_14_12_12 ?_
                refine zz_callSI [zi 6] zd_14_12_14 zk_Md_215 rfl rfl ⟨Nat.le_of_ble_eq_true rfl, Nat.le_of_ble_eq_true rfl⟩ ⟨rfl, rfl⟩ (Nat.zero_le _) (Nat.zero_le _) (zc_bitsOf_14_11 6 S0 n hn G_S0 (by omega)) (fun v33 S32 hP => ?_)
                obtain ⟨rfl, o34, o35⟩ := hP
                obtain rfl : v33 = 6 := by omega
                refine zz_iadd zd_14_12_17 ?_
                refine zz_eqv (v := 26) (by decide) ?_
                refine zz_istore_n [some (zl p0), none, some (zi 7), some (zi 26), some (zi 6)] zd_14_12_18 (by decide) rfl ?_
                refine zz_iinc [some (zl p0), none, some (zi 7), some (zi 26), some (zi 7)] zd_14_12_19 rfl rfl ?_
                refine zz_goto zd_14_12_22 ?_
                refine zz_iload (x := 7) rfl zd_14_12_5 ?_
                refine zz_iload_n (x := 7) rfl zd_14_12_7 ?_
                refine zz_icmp_ge (by omega) (by omega) zd_14_12_8 (fun c36 => ?_) (fun c36 => ?_)
                · refine zz_lload_n (x := p0) rfl zd_14_12_25 ?_
                  refine zz_iload_n (x := 26) rfl zd_14_12_26 ?_
                  refine zz_lushr zd_14_12_27 (fun v37 hv37 ev37 => ?_)
                  refine zz_lconst (z := 1) (by decide) zd_14_12_28 ?_
                  refine zz_iload_n (x := 7) rfl zd_14_12_29 ?_
                  refine zz_callSI [zi 7] zd_14_12_30 zk_Md_215 rfl rfl ⟨Nat.le_of_ble_eq_true rfl, Nat.le_of_ble_eq_true rfl⟩ ⟨rfl, rfl⟩ (Nat.zero_le _) (Nat.zero_le _) (zc_bitsOf_14_11 7 S0 n hn G_S0 (by omega)) (fun v39 S38 hP => ?_)
                  obtain ⟨rfl, o40, o41⟩ := hP
                  obtain rfl : v39 = 5 := by omega
                  refine zz_lshl zd_14_12_33 (fun v42 hv42 ev42 => ?_)
                  have av42 := zz_sl1 (by omega) ev42
                  refine zz_eqvl (v := 32) (by omega) ?_
                  refine zz_lconst (z := 1) (by decide) zd_14_12_34 ?_
                  refine zz_lsub zd_14_12_35 ?_
                  refine zz_eqvl (v := 31) (by decide) ?_
                  refine zz_land zd_14_12_36 (fun v43 hv43 ev43 => ?_)
                  have av43 := zz_band64 (by omega) (by omega) ev43
                  refine zz_l2i (by omega) zd_14_12_37 (fun v44 hv44 av44 ev44 => ?_)
                  exact zz_iret zd_14_12_38 rfl (Nat.zero_le _) (Nat.zero_le _) ⟨_, _, rfl, rfl, by omega, by subst_vars; rfl⟩
                · exfalso; omega
-- TensorForgeModel fieldOf (JI)I
abbrev zr_fieldOf_14_12x_8 : Room := { frames := 1, cells := 0, slots := 0, locals := 16 }
def zp_fieldOf_14_12x_8 (p0 : Int) (S0 : zz_S) : Int → zz_S → Prop := fun r S => S0 = S ∧ (0 ≤ r ∧ r ≤ 511) ∧ (r = zz_fx p0 31 511)
theorem zc_fieldOf_14_12x_8 {g : mm_G} {l : Launch} (p0 : Int) (S0 : zz_S) (n : Nat) (hn : zz_end ≤ n) (G_S0 : zz_G S0) (hp0 : (-9223372036854775808) ≤ p0 ∧ p0 ≤ 9223372036854775807) : mm_Met g l zy_fieldOf_14_12 zr_fieldOf_14_12x_8 [zl p0, zi 8] (zz_M S0 n) n (zz_QI n (zp_fieldOf_14_12x_8 p0 S0)) := by
  refine zz_enter (by decide) (Nat.le_of_ble_eq_true rfl) (zz_less (ls1 := [some (zl p0), none, some (zi 8)]) ⟨rfl, ⟨rfl, trivial⟩⟩ ?_)
  refine zz_iconst zd_14_12_0 ?_
  refine zz_istore_n [some (zl p0), none, some (zi 8), some (zi 0)] zd_14_12_1 (by decide) rfl ?_
  refine zz_iconst zd_14_12_2 ?_
  refine zz_istore [some (zl p0), none, some (zi 8), some (zi 0), some (zi 0)] zd_14_12_3 (by decide) rfl ?_
  refine zz_iload (x := 0) rfl zd_14_12_5 ?_
  refine zz_iload_n (x := 8) rfl zd_14_12_7 ?_
  refine zz_icmp_ge (by omega) (by omega) zd_14_12_8 (fun c1 => ?_) (fun c1 => ?_)
  · exfalso; omega
  · refine zz_iload_n (x := 0) rfl zd_14_12_11 ?_
    refine zz_iload (x := 0) rfl zd_14_12_12 ?_
    refine zz_callSI [zi 0] zd_14_12_14 zk_Md_215 rfl rfl ⟨Nat.le_of_ble_eq_true rfl, Nat.le_of_ble_eq_true rfl⟩ ⟨rfl, rfl⟩ (Nat.zero_le _) (Nat.zero_le _) (zc_bitsOf_14_11 0 S0 n hn G_S0 (by omega)) (fun v3 S2 hP => ?_)
    obtain ⟨rfl, o4, o5⟩ := hP
    obtain rfl : v3 = 4 := by omega
    refine zz_iadd zd_14_12_17 ?_
    refine zz_eqv (v := 4) (by decide) ?_
    refine zz_istore_n [some (zl p0), none, some (zi 8), some (zi 4), some (zi 0)] zd_14_12_18 (by decide) rfl ?_
    refine zz_iinc [some (zl p0), none, some (zi 8), some (zi 4), some (zi 1)] zd_14_12_19 rfl rfl ?_
    refine zz_goto zd_14_12_22 ?_
    refine zz_iload (x := 1) rfl zd_14_12_5 ?_
    refine zz_iload_n (x := 8) rfl zd_14_12_7 ?_
    refine zz_icmp_ge (by omega) (by omega) zd_14_12_8 (fun c6 => ?_) (fun c6 => ?_)
    · exfalso; omega
    · refine zz_iload_n (x := 4) rfl zd_14_12_11 ?_
      refine zz_iload (x := 1) rfl zd_14_12_12 ?_
      refine zz_callSI [zi 1] zd_14_12_14 zk_Md_215 rfl rfl ⟨Nat.le_of_ble_eq_true rfl, Nat.le_of_ble_eq_true rfl⟩ ⟨rfl, rfl⟩ (Nat.zero_le _) (Nat.zero_le _) (zc_bitsOf_14_11 1 S0 n hn G_S0 (by omega)) (fun v8 S7 hP => ?_)
      obtain ⟨rfl, o9, o10⟩ := hP
      obtain rfl : v8 = 1 := by omega
      refine zz_iadd zd_14_12_17 ?_
      refine zz_eqv (v := 5) (by decide) ?_
      refine zz_istore_n [some (zl p0), none, some (zi 8), some (zi 5), some (zi 1)] zd_14_12_18 (by decide) rfl ?_
      refine zz_iinc [some (zl p0), none, some (zi 8), some (zi 5), some (zi 2)] zd_14_12_19 rfl rfl ?_
      refine zz_goto zd_14_12_22 ?_
      refine zz_iload (x := 2) rfl zd_14_12_5 ?_
      refine zz_iload_n (x := 8) rfl zd_14_12_7 ?_
      refine zz_icmp_ge (by omega) (by omega) zd_14_12_8 (fun c11 => ?_) (fun c11 => ?_)
      · exfalso; omega
      · refine zz_iload_n (x := 5) rfl zd_14_12_11 ?_
        refine zz_iload (x := 2) rfl zd_14_12_12 ?_
        refine zz_callSI [zi 2] zd_14_12_14 zk_Md_215 rfl rfl ⟨Nat.le_of_ble_eq_true rfl, Nat.le_of_ble_eq_true rfl⟩ ⟨rfl, rfl⟩ (Nat.zero_le _) (Nat.zero_le _) (zc_bitsOf_14_11 2 S0 n hn G_S0 (by omega)) (fun v13 S12 hP => ?_)
        obtain ⟨rfl, o14, o15⟩ := hP
        obtain rfl : v13 = 1 := by omega
        refine zz_iadd zd_14_12_17 ?_
        refine zz_eqv (v := 6) (by decide) ?_
        refine zz_istore_n [some (zl p0), none, some (zi 8), some (zi 6), some (zi 2)] zd_14_12_18 (by decide) rfl ?_
        refine zz_iinc [some (zl p0), none, some (zi 8), some (zi 6), some (zi 3)] zd_14_12_19 rfl rfl ?_
        refine zz_goto zd_14_12_22 ?_
        refine zz_iload (x := 3) rfl zd_14_12_5 ?_
        refine zz_iload_n (x := 8) rfl zd_14_12_7 ?_
        refine zz_icmp_ge (by omega) (by omega) zd_14_12_8 (fun c16 => ?_) (fun c16 => ?_)
        · exfalso; omega
        · refine zz_iload_n (x := 6) rfl zd_14_12_11 ?_
          refine zz_iload (x := 3) rfl zd_14_12_12 ?_
          refine zz_callSI [zi 3] zd_14_12_14 zk_Md_215 rfl rfl ⟨Nat.le_of_ble_eq_true rfl, Nat.le_of_ble_eq_true rfl⟩ ⟨rfl, rfl⟩ (Nat.zero_le _) (Nat.zero_le _) (zc_bitsOf_14_11 3 S0 n hn G_S0 (by omega)) (fun v18 S17 hP => ?_)
          obtain ⟨rfl, o19, o20⟩ := hP
          obtain rfl : v18 = 1 := by omega
          refine zz_iadd zd_14_12_17 ?_
          refine zz_eqv (v := 7) (by decide) ?_
          refine zz_istore_n [some (zl p0), none, some (zi 8), some (zi 7), some (zi 3)] zd_14_12_18 (by decide) rfl ?_
          refine zz_iinc [some (zl p0), none, some (zi 8), some (zi 7), some (zi 4)] zd_14_12_19 rfl rfl ?_
          refine zz_goto zd_14_12_22 ?_
          refine zz_iload (x := 4) rfl zd_14_12_5 ?_
          refine zz_iload_n (x := 8) rfl zd_14_12_7 ?_
          refine zz_icmp_ge (by omega) (by omega) zd_14_12_8 (fun c21 => ?_) (fun c21 => ?_)
          · exfalso; omega
          · refine zz_iload_n (x := 7) rfl zd_14_12_11 ?_
            refine zz_iload (x := 4) rfl zd_14_12_12 ?_
            refine zz_callSI [zi 4] zd_14_12_14 zk_Md_215 rfl rfl ⟨Nat.le_of_ble_eq_true rfl, Nat.le_of_ble_eq_true rfl⟩ ⟨rfl, rfl⟩ (Nat.zero_le _) (Nat.zero_le _) (zc_bitsOf_14_11 4 S0 n hn G_S0 (by omega)) (fun v23 S22 hP => ?_)
            obtain ⟨rfl, o24, o25⟩ := hP
            obtain rfl : v23 = 1 := by omega
            refine zz_iadd zd_14_12_17 ?_
            refine zz_eqv (v := 8) (by decide) ?_
            refine zz_istore_n [some (zl p0), none, some (zi 8), some (zi 8), some (zi 4)] zd_14_12_18 (by decide) rfl ?_
            refine zz_iinc [some (zl p0), none, some (zi 8), some (zi 8), some (zi 5)] zd_14_12_19 rfl rfl ?_
            refine zz_goto zd_14_12_22 ?_
            refine zz_iload (x := 5) rfl zd_14_12_5 ?_
            refine zz_iload_n (x := 8) rfl zd_14_12_7 ?_
            refine zz_icmp_ge (by omega) (by omega) zd_14_12_8 (fun c26 => ?_) (fun c26 => ?_)
            · exfalso; omega
            · refine zz_iload_n (x := 8) rfl zd_14_12_11 ?_
              refine zz_iload (x := 5) rfl zd_14_12_12 ?_
              refine zz_callSI [zi 5] zd_14_12_14 zk_Md_215 rfl rfl ⟨Nat.le_of_ble_eq_true rfl, Nat.le_of_ble_eq_true rfl⟩ ⟨rfl, rfl⟩ (Nat.zero_le _) (Nat.zero_le _) (zc_bitsOf_14_11 5 S0 n hn G_S0 (by omega)) (fun v28 S27 hP => ?_)
              obtain ⟨rfl, o29, o30⟩ := hP
              obtain rfl : v28 = 12 := by omega
              refine zz_iadd zd_14_12_17 ?_
              refine zz_eqv (v := 20) (by decide) ?_
              refine zz_istore_n [some (zl p0), none, some (zi 8), some (zi 20), some (zi 5)] zd_14_12_18 (by decide) rfl ?_
              refine zz_iinc [some (zl p0), none, some (zi 8), some (zi 20), some (zi 6)] zd_14_12_19 rfl rfl ?_
              refine zz_goto zd_14_12_22 ?_
              refine zz_iload (x := 6) rfl zd_14_12_5 ?_
              refine zz_iload_n (x := 8) rfl zd_14_12_7 ?_
              refine zz_icmp_ge (by omega) (by omega) zd_14_12_8 (fun c31 => ?_) (fun c31 => ?_)
              · exfalso; omega
              · refine zz_iload_n (x := 20) rfl zd_14_12_11 ?_
                refine zz_iload (x := 6) rfl zd_14_12_12 ?_
                refine zz_callSI [zi 6] zd_14_12_14 zk_Md_215 rfl rfl ⟨Nat.le_of_ble_eq_true rfl, Nat.le_of_ble_eq_true rfl⟩ ⟨rfl, rfl⟩ (Nat.zero_le _) (Nat.zero_le _) (zc_bitsOf_14_11 6 S0 n hn G_S0 (by omega)) (fun v33 S32 hP => ?_)
                obtain ⟨rfl, o34, o35⟩ := hP
                obtain rfl : v33 = 6 := by omega
                refine zz_iadd zd_14_12_17 ?_
                refine zz_eqv (v := 26) (by decide) ?_
                refine zz_istore_n [some (zl p0), none, some (zi 8), some (zi 26), some (zi 6)] zd_14_12_18 (by decide) rfl ?_
                refine zz_iinc [some (zl p0), none, some (zi 8), some (zi 26), some (zi 7)] zd_14_12_19 rfl rfl ?_
                refine zz_goto zd_14_12_22 ?_
                refine zz_iload (x := 7) rfl zd_14_12_5 ?_
                refine zz_iload_n (x := 8) rfl zd_14_12_7 ?_
                refine zz_icmp_ge (by omega) (by omega) zd_14_12_8 (fun c36 => ?_) (fun c36 => ?_)
                · exfalso; omega
                · refine zz_iload_n (x := 26) rfl zd_14_12_11 ?_
                  refine zz_iload (x := 7) rfl zd_14_12_12 ?_
                  refine zz_callSI [zi 7] zd_14_12_14 zk_Md_215 rfl rfl ⟨Nat.le_of_ble_eq_true rfl, Nat.le_of_ble_eq_true rfl⟩ ⟨rfl, rfl⟩ (Nat.zero_le _) (Nat.zero_le _) (zc_bitsOf_14_11 7 S0 n hn G_S0 (by omega)) (fun v38 S37 hP => ?_)
                  obtain ⟨rfl, o39, o40⟩ := hP
                  obtain rfl : v38 = 5 := by omega
                  refine zz_iadd zd_14_12_17 ?_
                  refine zz_eqv (v := 31) (by decide) ?_
                  refine zz_istore_n [some (zl p0), none, some (zi 8), some (zi 31), some (zi 7)] zd_14_12_18 (by decide) rfl ?_
                  refine zz_iinc [some (zl p0), none, some (zi 8), some (zi 31), some (zi 8)] zd_14_12_19 rfl rfl ?_
                  refine zz_goto zd_14_12_22 ?_
                  refine zz_iload (x := 8) rfl zd_14_12_5 ?_
                  refine zz_iload_n (x := 8) rfl zd_14_12_7 ?_
                  refine zz_icmp_ge (by omega) (by omega) zd_14_12_8 (fun c41 => ?_) (fun c41 => ?_)
                  · refine zz_lload_n (x := p0) rfl zd_14_12_25 ?_
                    refine zz_iload_n (x := 31) rfl zd_14_12_26 ?_
                    refine zz_lushr zd_14_12_27 (fun v42 hv42 ev42 => ?_)
                    refine zz_lconst (z := 1) (by decide) zd_14_12_28 ?_
                    refine zz_iload_n (x := 8) rfl zd_14_12_29 ?_
                    refine zz_callSI [zi 8] zd_14_12_30 zk_Md_215 rfl rfl ⟨Nat.le_of_ble_eq_true rfl, Nat.le_of_ble_eq_true rfl⟩ ⟨rfl, rfl⟩ (Nat.zero_le _) (Nat.zero_le _) (zc_bitsOf_14_11 8 S0 n hn G_S0 (by omega)) (fun v44 S43 hP => ?_)
                    obtain ⟨rfl, o45, o46⟩ := hP
                    obtain rfl : v44 = 9 := by omega
                    refine zz_lshl zd_14_12_33 (fun v47 hv47 ev47 => ?_)
                    have av47 := zz_sl1 (by omega) ev47
                    refine zz_eqvl (v := 512) (by omega) ?_
                    refine zz_lconst (z := 1) (by decide) zd_14_12_34 ?_
                    refine zz_lsub zd_14_12_35 ?_
                    refine zz_eqvl (v := 511) (by decide) ?_
                    refine zz_land zd_14_12_36 (fun v48 hv48 ev48 => ?_)
                    have av48 := zz_band64 (by omega) (by omega) ev48
                    refine zz_l2i (by omega) zd_14_12_37 (fun v49 hv49 av49 ev49 => ?_)
                    exact zz_iret zd_14_12_38 rfl (Nat.zero_le _) (Nat.zero_le _) ⟨_, _, rfl, rfl, by omega, by subst_vars; rfl⟩
                  · exfalso; omega
-- TensorForgeModel fieldOf (JI)I
abbrev zr_fieldOf_14_12x_9 : Room := { frames := 1, cells := 0, slots := 0, locals := 16 }
def zp_fieldOf_14_12x_9 (p0 : Int) (S0 : zz_S) : Int → zz_S → Prop := fun r S => S0 = S ∧ (0 ≤ r ∧ r ≤ 511) ∧ (r = zz_fx p0 40 511)
theorem zc_fieldOf_14_12x_9 {g : mm_G} {l : Launch} (p0 : Int) (S0 : zz_S) (n : Nat) (hn : zz_end ≤ n) (G_S0 : zz_G S0) (hp0 : (-9223372036854775808) ≤ p0 ∧ p0 ≤ 9223372036854775807) : mm_Met g l zy_fieldOf_14_12 zr_fieldOf_14_12x_9 [zl p0, zi 9] (zz_M S0 n) n (zz_QI n (zp_fieldOf_14_12x_9 p0 S0)) := by
  refine zz_enter (by decide) (Nat.le_of_ble_eq_true rfl) (zz_less (ls1 := [some (zl p0), none, some (zi 9)]) ⟨rfl, ⟨rfl, trivial⟩⟩ ?_)
  refine zz_iconst zd_14_12_0 ?_
  refine zz_istore_n [some (zl p0), none, some (zi 9), some (zi 0)] zd_14_12_1 (by decide) rfl ?_
  refine zz_iconst zd_14_12_2 ?_
  refine zz_istore [some (zl p0), none, some (zi 9), some (zi 0), some (zi 0)] zd_14_12_3 (by decide) rfl ?_
  refine zz_iload (x := 0) rfl zd_14_12_5 ?_
  refine zz_iload_n (x := 9) rfl zd_14_12_7 ?_
  refine zz_icmp_ge (by omega) (by omega) zd_14_12_8 (fun c1 => ?_) (fun c1 => ?_)
  · exfalso; omega
  · refine zz_iload_n (x := 0) rfl zd_14_12_11 ?_
    refine zz_iload (x := 0) rfl zd_14_12_12 ?_
    refine zz_callSI [zi 0] zd_14_12_14 zk_Md_215 rfl rfl ⟨Nat.le_of_ble_eq_true rfl, Nat.le_of_ble_eq_true rfl⟩ ⟨rfl, rfl⟩ (Nat.zero_le _) (Nat.zero_le _) (zc_bitsOf_14_11 0 S0 n hn G_S0 (by omega)) (fun v3 S2 hP => ?_)
    obtain ⟨rfl, o4, o5⟩ := hP
    obtain rfl : v3 = 4 := by omega
    refine zz_iadd zd_14_12_17 ?_
    refine zz_eqv (v := 4) (by decide) ?_
    refine zz_istore_n [some (zl p0), none, some (zi 9), some (zi 4), some (zi 0)] zd_14_12_18 (by decide) rfl ?_
    refine zz_iinc [some (zl p0), none, some (zi 9), some (zi 4), some (zi 1)] zd_14_12_19 rfl rfl ?_
    refine zz_goto zd_14_12_22 ?_
    refine zz_iload (x := 1) rfl zd_14_12_5 ?_
    refine zz_iload_n (x := 9) rfl zd_14_12_7 ?_
    refine zz_icmp_ge (by omega) (by omega) zd_14_12_8 (fun c6 => ?_) (fun c6 => ?_)
    · exfalso; omega
    · refine zz_iload_n (x := 4) rfl zd_14_12_11 ?_
      refine zz_iload (x := 1) rfl zd_14_12_12 ?_
      refine zz_callSI [zi 1] zd_14_12_14 zk_Md_215 rfl rfl ⟨Nat.le_of_ble_eq_true rfl, Nat.le_of_ble_eq_true rfl⟩ ⟨rfl, rfl⟩ (Nat.zero_le _) (Nat.zero_le _) (zc_bitsOf_14_11 1 S0 n hn G_S0 (by omega)) (fun v8 S7 hP => ?_)
      obtain ⟨rfl, o9, o10⟩ := hP
      obtain rfl : v8 = 1 := by omega
      refine zz_iadd zd_14_12_17 ?_
      refine zz_eqv (v := 5) (by decide) ?_
      refine zz_istore_n [some (zl p0), none, some (zi 9), some (zi 5), some (zi 1)] zd_14_12_18 (by decide) rfl ?_
      refine zz_iinc [some (zl p0), none, some (zi 9), some (zi 5), some (zi 2)] zd_14_12_19 rfl rfl ?_
      refine zz_goto zd_14_12_22 ?_
      refine zz_iload (x := 2) rfl zd_14_12_5 ?_
      refine zz_iload_n (x := 9) rfl zd_14_12_7 ?_
      refine zz_icmp_ge (by omega) (by omega) zd_14_12_8 (fun c11 => ?_) (fun c11 => ?_)
      · exfalso; omega
      · refine zz_iload_n (x := 5) rfl zd_14_12_11 ?_
        refine zz_iload (x := 2) rfl zd_14_12_12 ?_
        refine zz_callSI [zi 2] zd_14_12_14 zk_Md_215 rfl rfl ⟨Nat.le_of_ble_eq_true rfl, Nat.le_of_ble_eq_true rfl⟩ ⟨rfl, rfl⟩ (Nat.zero_le _) (Nat.zero_le _) (zc_bitsOf_14_11 2 S0 n hn G_S0 (by omega)) (fun v13 S12 hP => ?_)
        obtain ⟨rfl, o14, o15⟩ := hP
        obtain rfl : v13 = 1 := by omega
        refine zz_iadd zd_14_12_17 ?_
        refine zz_eqv (v := 6) (by decide) ?_
        refine zz_istore_n [some (zl p0), none, some (zi 9), some (zi 6), some (zi 2)] zd_14_12_18 (by decide) rfl ?_
        refine zz_iinc [some (zl p0), none, some (zi 9), some (zi 6), some (zi 3)] zd_14_12_19 rfl rfl ?_
        refine zz_goto zd_14_12_22 ?_
        refine zz_iload (x := 3) rfl zd_14_12_5 ?_
        refine zz_iload_n (x := 9) rfl zd_14_12_7 ?_
        refine zz_icmp_ge (by omega) (by omega) zd_14_12_8 (fun c16 => ?_) (fun c16 => ?_)
        · exfalso; omega
        · refine zz_iload_n (x := 6) rfl zd_14_12_11 ?_
          refine zz_iload (x := 3) rfl zd_14_12_12 ?_
          refine zz_callSI [zi 3] zd_14_12_14 zk_Md_215 rfl rfl ⟨Nat.le_of_ble_eq_true rfl, Nat.le_of_ble_eq_true rfl⟩ ⟨rfl, rfl⟩ (Nat.zero_le _) (Nat.zero_le _) (zc_bitsOf_14_11 3 S0 n hn G_S0 (by omega)) (fun v18 S17 hP => ?_)
          obtain ⟨rfl, o19, o20⟩ := hP
          obtain rfl : v18 = 1 := by omega
          refine zz_iadd zd_14_12_17 ?_
          refine zz_eqv (v := 7) (by decide) ?_
          refine zz_istore_n [some (zl p0), none, some (zi 9), some (zi 7), some (zi 3)] zd_14_12_18 (by decide) rfl ?_
          refine zz_iinc [some (zl p0), none, some (zi 9), some (zi 7), some (zi 4)] zd_14_12_19 rfl rfl ?_
          refine zz_goto zd_14_12_22 ?_
          refine zz_iload (x := 4) rfl zd_14_12_5 ?_
          refine zz_iload_n (x := 9) rfl zd_14_12_7 ?_
          refine zz_icmp_ge (by omega) (by omega) zd_14_12_8 (fun c21 => ?_) (fun c21 => ?_)
          · exfalso; omega
          · refine zz_iload_n (x := 7) rfl zd_14_12_11 ?_
            refine zz_iload (x := 4) rfl zd_14_12_12 ?_
            refine zz_callSI [zi 4] zd_14_12_14 zk_Md_215 rfl rfl ⟨Nat.le_of_ble_eq_true rfl, Nat.le_of_ble_eq_true rfl⟩ ⟨rfl, rfl⟩ (Nat.zero_le _) (Nat.zero_le _) (zc_bitsOf_14_11 4 S0 n hn G_S0 (by omega)) (fun v23 S22 hP => ?_)
            obtain ⟨rfl, o24, o25⟩ := hP
            obtain rfl : v23 = 1 := by omega
            refine zz_iadd zd_14_12_17 ?_
            refine zz_eqv (v := 8) (by decide) ?_
            refine zz_istore_n [some (zl p0), none, some (zi 9), some (zi 8), some (zi 4)] zd_14_12_18 (by decide) rfl ?_
            refine zz_iinc [some (zl p0), none, some (zi 9), some (zi 8), some (zi 5)] zd_14_12_19 rfl rfl ?_
            refine zz_goto zd_14_12_22 ?_
            refine zz_iload (x := 5) rfl zd_14_12_5 ?_
            refine zz_iload_n (x := 9) rfl zd_14_12_7 ?_
            refine zz_icmp_ge (by omega) (by omega) zd_14_12_8 (fun c26 => ?_) (fun c26 => ?_)
            · exfalso; omega
            · refine zz_iload_n (x := 8) rfl zd_14_12_11 ?_
              refine zz_iload (x := 5) rfl zd_14_12_12 ?_
              refine zz_callSI [zi 5] zd_14_12_14 zk_Md_215 rfl rfl ⟨Nat.le_of_ble_eq_true rfl, Nat.le_of_ble_eq_true rfl⟩ ⟨rfl, rfl⟩ (Nat.zero_le _) (Nat.zero_le _) (zc_bitsOf_14_11 5 S0 n hn G_S0 (by omega)) (fun v28 S27 hP => ?_)
              obtain ⟨rfl, o29, o30⟩ := hP
              obtain rfl : v28 = 12 := by omega
              refine zz_iadd zd_14_12_17 ?_
              refine zz_eqv (v := 20) (by decide) ?_
              refine zz_istore_n [some (zl p0), none, some (zi 9), some (zi 20), some (zi 5)] zd_14_12_18 (by decide) rfl ?_
              refine zz_iinc [some (zl p0), none, some (zi 9), some (zi 20), some (zi 6)] zd_14_12_19 rfl rfl ?_
              refine zz_goto zd_14_12_22 ?_
              refine zz_iload (x := 6) rfl zd_14_12_5 ?_
              refine zz_iload_n (x := 9) rfl zd_14_12_7 ?_
              refine zz_icmp_ge (by omega) (by omega) zd_14_12_8 (fun c31 => ?_) (fun c31 => ?_)
              · exfalso; omega
              · refine zz_iload_n (x := 20) rfl zd_14_12_11 ?_
                refine zz_iload (x := 6) rfl zd_14_12_12 ?_
                refine zz_callSI [zi 6] zd_14_12_14 zk_Md_215 rfl rfl ⟨Nat.le_of_ble_eq_true rfl, Nat.le_of_ble_eq_true rfl⟩ ⟨rfl, rfl⟩ (Nat.zero_le _) (Nat.zero_le _) (zc_bitsOf_14_11 6 S0 n hn G_S0 (by omega)) (fun v33 S32 hP => ?_)
                obtain ⟨rfl, o34, o35⟩ := hP
                obtain rfl : v33 = 6 := by omega
                refine zz_iadd zd_14_12_17 ?_
                refine zz_eqv (v := 26) (by decide) ?_
                refine zz_istore_n [some (zl p0), none, some (zi 9), some (zi 26), some (zi 6)] zd_14_12_18 (by decide) rfl ?_
                refine zz_iinc [some (zl p0), none, some (zi 9), some (zi 26), some (zi 7)] zd_14_12_19 rfl rfl ?_
                refine zz_goto zd_14_12_22 ?_
                refine zz_iload (x := 7) rfl zd_14_12_5 ?_
                refine zz_iload_n (x := 9) rfl zd_14_12_7 ?_
                refine zz_icmp_ge (by omega) (by omega) zd_14_12_8 (fun c36 => ?_) (fun c36 => ?_)
                · exfalso; omega
                · refine zz_iload_n (x := 26) rfl zd_14_12_11 ?_
                  refine zz_iload (x := 7) rfl zd_14_12_12 ?_
                  refine zz_callSI [zi 7] zd_14_12_14 zk_Md_215 rfl rfl ⟨Nat.le_of_ble_eq_true rfl, Nat.le_of_ble_eq_true rfl⟩ ⟨rfl, rfl⟩ (Nat.zero_le _) (Nat.zero_le _) (zc_bitsOf_14_11 7 S0 n hn G_S0 (by omega)) (fun v38 S37 hP => ?_)
                  obtain ⟨rfl, o39, o40⟩ := hP
                  obtain rfl : v38 = 5 := by omega
                  refine zz_iadd zd_14_12_17 ?_
                  refine zz_eqv (v := 31) (by decide) ?_
                  refine zz_istore_n [some (zl p0), none, some (zi 9), some (zi 31), some (zi 7)] zd_14_12_18 (by decide) rfl ?_
                  refine zz_iinc [some (zl p0), none, some (zi 9), some (zi 31), some (zi 8)] zd_14_12_19 rfl rfl ?_
                  refine zz_goto zd_14_12_22 ?_
                  refine zz_iload (x := 8) rfl zd_14_12_5 ?_
                  refine zz_iload_n (x := 9) rfl zd_14_12_7 ?_
                  refine zz_icmp_ge (by omega) (by omega) zd_14_12_8 (fun c41 => ?_) (fun c41 => ?_)
                  · exfalso; omega
                  · refine zz_iload_n (x := 31) rfl zd_14_12_11 ?_
                    refine zz_iload (x := 8) rfl zd_14_12_12 ?_
                    refine zz_callSI [zi 8] zd_14_12_14 zk_Md_215 rfl rfl ⟨Nat.le_of_ble_eq_true rfl, Nat.le_of_ble_eq_true rfl⟩ ⟨rfl, rfl⟩ (Nat.zero_le _) (Nat.zero_le _) (zc_bitsOf_14_11 8 S0 n hn G_S0 (by omega)) (fun v43 S42 hP => ?_)
                    obtain ⟨rfl, o44, o45⟩ := hP
                    obtain rfl : v43 = 9 := by omega
                    refine zz_iadd zd_14_12_17 ?_
                    refine zz_eqv (v := 40) (by decide) ?_
                    refine zz_istore_n [some (zl p0), none, some (zi 9), some (zi 40), some (zi 8)] zd_14_12_18 (by decide) rfl ?_
                    refine zz_iinc [some (zl p0), none, some (zi 9), some (zi 40), some (zi 9)] zd_14_12_19 rfl rfl ?_
                    refine zz_goto zd_14_12_22 ?_
                    refine zz_iload (x := 9) rfl zd_14_12_5 ?_
                    refine zz_iload_n (x := 9) rfl zd_14_12_7 ?_
                    refine zz_icmp_ge (by omega) (by omega) zd_14_12_8 (fun c46 => ?_) (fun c46 => ?_)
                    · refine zz_lload_n (x := p0) rfl zd_14_12_25 ?_
                      refine zz_iload_n (x := 40) rfl zd_14_12_26 ?_
                      refine zz_lushr zd_14_12_27 (fun v47 hv47 ev47 => ?_)
                      refine zz_lconst (z := 1) (by decide) zd_14_12_28 ?_
                      refine zz_iload_n (x := 9) rfl zd_14_12_29 ?_
                      refine zz_callSI [zi 9] zd_14_12_30 zk_Md_215 rfl rfl ⟨Nat.le_of_ble_eq_true rfl, Nat.le_of_ble_eq_true rfl⟩ ⟨rfl, rfl⟩ (Nat.zero_le _) (Nat.zero_le _) (zc_bitsOf_14_11 9 S0 n hn G_S0 (by omega)) (fun v49 S48 hP => ?_)
                      obtain ⟨rfl, o50, o51⟩ := hP
                      obtain rfl : v49 = 9 := by omega
                      refine zz_lshl zd_14_12_33 (fun v52 hv52 ev52 => ?_)
                      have av52 := zz_sl1 (by omega) ev52
                      refine zz_eqvl (v := 512) (by omega) ?_
                      refine zz_lconst (z := 1) (by decide) zd_14_12_34 ?_
                      refine zz_lsub zd_14_12_35 ?_
                      refine zz_eqvl (v := 511) (by decide) ?_
                      refine zz_land zd_14_12_36 (fun v53 hv53 ev53 => ?_)
                      have av53 := zz_band64 (by omega) (by omega) ev53
                      refine zz_l2i (by omega) zd_14_12_37 (fun v54 hv54 av54 ev54 => ?_)
                      exact zz_iret zd_14_12_38 rfl (Nat.zero_le _) (Nat.zero_le _) ⟨_, _, rfl, rfl, by omega, by subst_vars; rfl⟩
                    · exfalso; omega
-- TensorForgeModel fieldOf (JI)I
abbrev zr_fieldOf_14_12x_10 : Room := { frames := 1, cells := 0, slots := 0, locals := 16 }
def zp_fieldOf_14_12x_10 (p0 : Int) (S0 : zz_S) : Int → zz_S → Prop := fun r S => S0 = S ∧ (0 ≤ r ∧ r ≤ 1023) ∧ (r = zz_fx p0 49 1023)
theorem zc_fieldOf_14_12x_10 {g : mm_G} {l : Launch} (p0 : Int) (S0 : zz_S) (n : Nat) (hn : zz_end ≤ n) (G_S0 : zz_G S0) (hp0 : (-9223372036854775808) ≤ p0 ∧ p0 ≤ 9223372036854775807) : mm_Met g l zy_fieldOf_14_12 zr_fieldOf_14_12x_10 [zl p0, zi 10] (zz_M S0 n) n (zz_QI n (zp_fieldOf_14_12x_10 p0 S0)) := by
  refine zz_enter (by decide) (Nat.le_of_ble_eq_true rfl) (zz_less (ls1 := [some (zl p0), none, some (zi 10)]) ⟨rfl, ⟨rfl, trivial⟩⟩ ?_)
  refine zz_iconst zd_14_12_0 ?_
  refine zz_istore_n [some (zl p0), none, some (zi 10), some (zi 0)] zd_14_12_1 (by decide) rfl ?_
  refine zz_iconst zd_14_12_2 ?_
  refine zz_istore [some (zl p0), none, some (zi 10), some (zi 0), some (zi 0)] zd_14_12_3 (by decide) rfl ?_
  refine zz_iload (x := 0) rfl zd_14_12_5 ?_
  refine zz_iload_n (x := 10) rfl zd_14_12_7 ?_
  refine zz_icmp_ge (by omega) (by omega) zd_14_12_8 (fun c1 => ?_) (fun c1 => ?_)
  · exfalso; omega
  · refine zz_iload_n (x := 0) rfl zd_14_12_11 ?_
    refine zz_iload (x := 0) rfl zd_14_12_12 ?_
    refine zz_callSI [zi 0] zd_14_12_14 zk_Md_215 rfl rfl ⟨Nat.le_of_ble_eq_true rfl, Nat.le_of_ble_eq_true rfl⟩ ⟨rfl, rfl⟩ (Nat.zero_le _) (Nat.zero_le _) (zc_bitsOf_14_11 0 S0 n hn G_S0 (by omega)) (fun v3 S2 hP => ?_)
    obtain ⟨rfl, o4, o5⟩ := hP
    obtain rfl : v3 = 4 := by omega
    refine zz_iadd zd_14_12_17 ?_
    refine zz_eqv (v := 4) (by decide) ?_
    refine zz_istore_n [some (zl p0), none, some (zi 10), some (zi 4), some (zi 0)] zd_14_12_18 (by decide) rfl ?_
    refine zz_iinc [some (zl p0), none, some (zi 10), some (zi 4), some (zi 1)] zd_14_12_19 rfl rfl ?_
    refine zz_goto zd_14_12_22 ?_
    refine zz_iload (x := 1) rfl zd_14_12_5 ?_
    refine zz_iload_n (x := 10) rfl zd_14_12_7 ?_
    refine zz_icmp_ge (by omega) (by omega) zd_14_12_8 (fun c6 => ?_) (fun c6 => ?_)
    · exfalso; omega
    · refine zz_iload_n (x := 4) rfl zd_14_12_11 ?_
      refine zz_iload (x := 1) rfl zd_14_12_12 ?_
      refine zz_callSI [zi 1] zd_14_12_14 zk_Md_215 rfl rfl ⟨Nat.le_of_ble_eq_true rfl, Nat.le_of_ble_eq_true rfl⟩ ⟨rfl, rfl⟩ (Nat.zero_le _) (Nat.zero_le _) (zc_bitsOf_14_11 1 S0 n hn G_S0 (by omega)) (fun v8 S7 hP => ?_)
      obtain ⟨rfl, o9, o10⟩ := hP
      obtain rfl : v8 = 1 := by omega
      refine zz_iadd zd_14_12_17 ?_
      refine zz_eqv (v := 5) (by decide) ?_
      refine zz_istore_n [some (zl p0), none, some (zi 10), some (zi 5), some (zi 1)] zd_14_12_18 (by decide) rfl ?_
      refine zz_iinc [some (zl p0), none, some (zi 10), some (zi 5), some (zi 2)] zd_14_12_19 rfl rfl ?_
      refine zz_goto zd_14_12_22 ?_
      refine zz_iload (x := 2) rfl zd_14_12_5 ?_
      refine zz_iload_n (x := 10) rfl zd_14_12_7 ?_
      refine zz_icmp_ge (by omega) (by omega) zd_14_12_8 (fun c11 => ?_) (fun c11 => ?_)
      · exfalso; omega
      · refine zz_iload_n (x := 5) rfl zd_14_12_11 ?_
        refine zz_iload (x := 2) rfl zd_14_12_12 ?_
        refine zz_callSI [zi 2] zd_14_12_14 zk_Md_215 rfl rfl ⟨Nat.le_of_ble_eq_true rfl, Nat.le_of_ble_eq_true rfl⟩ ⟨rfl, rfl⟩ (Nat.zero_le _) (Nat.zero_le _) (zc_bitsOf_14_11 2 S0 n hn G_S0 (by omega)) (fun v13 S12 hP => ?_)
        obtain ⟨rfl, o14, o15⟩ := hP
        obtain rfl : v13 = 1 := by omega
        refine zz_iadd zd_14_12_17 ?_
        refine zz_eqv (v := 6) (by decide) ?_
        refine zz_istore_n [some (zl p0), none, some (zi 10), some (zi 6), some (zi 2)] zd_14_12_18 (by decide) rfl ?_
        refine zz_iinc [some (zl p0), none, some (zi 10), some (zi 6), some (zi 3)] zd_14_12_19 rfl rfl ?_
        refine zz_goto zd_14_12_22 ?_
        refine zz_iload (x := 3) rfl zd_14_12_5 ?_
        refine zz_iload_n (x := 10) rfl zd_14_12_7 ?_
        refine zz_icmp_ge (by omega) (by omega) zd_14_12_8 (fun c16 => ?_) (fun c16 => ?_)
        · exfalso; omega
        · refine zz_iload_n (x := 6) rfl zd_14_12_11 ?_
          refine zz_iload (x := 3) rfl zd_14_12_12 ?_
          refine zz_callSI [zi 3] zd_14_12_14 zk_Md_215 rfl rfl ⟨Nat.le_of_ble_eq_true rfl, Nat.le_of_ble_eq_true rfl⟩ ⟨rfl, rfl⟩ (Nat.zero_le _) (Nat.zero_le _) (zc_bitsOf_14_11 3 S0 n hn G_S0 (by omega)) (fun v18 S17 hP => ?_)
          obtain ⟨rfl, o19, o20⟩ := hP
          obtain rfl : v18 = 1 := by omega
          refine zz_iadd zd_14_12_17 ?_
          refine zz_eqv (v := 7) (by decide) ?_
          refine zz_istore_n [some (zl p0), none, some (zi 10), some (zi 7), some (zi 3)] zd_14_12_18 (by decide) rfl ?_
          refine zz_iinc [some (zl p0), none, some (zi 10), some (zi 7), some (zi 4)] zd_14_12_19 rfl rfl ?_
          refine zz_goto zd_14_12_22 ?_
          refine zz_iload (x := 4) rfl zd_14_12_5 ?_
          refine zz_iload_n (x := 10) rfl zd_14_12_7 ?_
          refine zz_icmp_ge (by omega) (by omega) zd_14_12_8 (fun c21 => ?_) (fun c21 => ?_)
          · exfalso; omega
          · refine zz_iload_n (x := 7) rfl zd_14_12_11 ?_
            refine zz_iload (x := 4) rfl zd_14_12_12 ?_
            refine zz_callSI [zi 4] zd_14_12_14 zk_Md_215 rfl rfl ⟨Nat.le_of_ble_eq_true rfl, Nat.le_of_ble_eq_true rfl⟩ ⟨rfl, rfl⟩ (Nat.zero_le _) (Nat.zero_le _) (zc_bitsOf_14_11 4 S0 n hn G_S0 (by omega)) (fun v23 S22 hP => ?_)
            obtain ⟨rfl, o24, o25⟩ := hP
            obtain rfl : v23 = 1 := by omega
            refine zz_iadd zd_14_12_17 ?_
            refine zz_eqv (v := 8) (by decide) ?_
            refine zz_istore_n [some (zl p0), none, some (zi 10), some (zi 8), some (zi 4)] zd_14_12_18 (by decide) rfl ?_
            refine zz_iinc [some (zl p0), none, some (zi 10), some (zi 8), some (zi 5)] zd_14_12_19 rfl rfl ?_
            refine zz_goto zd_14_12_22 ?_
            refine zz_iload (x := 5) rfl zd_14_12_5 ?_
            refine zz_iload_n (x := 10) rfl zd_14_12_7 ?_
            refine zz_icmp_ge (by omega) (by omega) zd_14_12_8 (fun c26 => ?_) (fun c26 => ?_)
            · exfalso; omega
            · refine zz_iload_n (x := 8) rfl zd_14_12_11 ?_
              refine zz_iload (x := 5) rfl zd_14_12_12 ?_
              refine zz_callSI [zi 5] zd_14_12_14 zk_Md_215 rfl rfl ⟨Nat.le_of_ble_eq_true rfl, Nat.le_of_ble_eq_true rfl⟩ ⟨rfl, rfl⟩ (Nat.zero_le _) (Nat.zero_le _) (zc_bitsOf_14_11 5 S0 n hn G_S0 (by omega)) (fun v28 S27 hP => ?_)
              obtain ⟨rfl, o29, o30⟩ := hP
              obtain rfl : v28 = 12 := by omega
              refine zz_iadd zd_14_12_17 ?_
              refine zz_eqv (v := 20) (by decide) ?_
              refine zz_istore_n [some (zl p0), none, some (zi 10), some (zi 20), some (zi 5)] zd_14_12_18 (by decide) rfl ?_
              refine zz_iinc [some (zl p0), none, some (zi 10), some (zi 20), some (zi 6)] zd_14_12_19 rfl rfl ?_
              refine zz_goto zd_14_12_22 ?_
              refine zz_iload (x := 6) rfl zd_14_12_5 ?_
              refine zz_iload_n (x := 10) rfl zd_14_12_7 ?_
              refine zz_icmp_ge (by omega) (by omega) zd_14_12_8 (fun c31 => ?_) (fun c31 => ?_)
              · exfalso; omega
              · refine zz_iload_n (x := 20) rfl zd_14_12_11 ?_
                refine zz_iload (x := 6) rfl zd_14_12_12 ?_
                refine zz_callSI [zi 6] zd_14_12_14 zk_Md_215 rfl rfl ⟨Nat.le_of_ble_eq_true rfl, Nat.le_of_ble_eq_true rfl⟩ ⟨rfl, rfl⟩ (Nat.zero_le _) (Nat.zero_le _) (zc_bitsOf_14_11 6 S0 n hn G_S0 (by omega)) (fun v33 S32 hP => ?_)
                obtain ⟨rfl, o34, o35⟩ := hP
                obtain rfl : v33 = 6 := by omega
                refine zz_iadd zd_14_12_17 ?_
                refine zz_eqv (v := 26) (by decide) ?_
                refine zz_istore_n [some (zl p0), none, some (zi 10), some (zi 26), some (zi 6)] zd_14_12_18 (by decide) rfl ?_
                refine zz_iinc [some (zl p0), none, some (zi 10), some (zi 26), some (zi 7)] zd_14_12_19 rfl rfl ?_
                refine zz_goto zd_14_12_22 ?_
                refine zz_iload (x := 7) rfl zd_14_12_5 ?_
                refine zz_iload_n (x := 10) rfl zd_14_12_7 ?_
                refine zz_icmp_ge (by omega) (by omega) zd_14_12_8 (fun c36 => ?_) (fun c36 => ?_)
                · exfalso; omega
                · refine zz_iload_n (x := 26) rfl zd_14_12_11 ?_
                  refine zz_iload (x := 7) rfl zd_14_12_12 ?_
                  refine zz_callSI [zi 7] zd_14_12_14 zk_Md_215 rfl rfl ⟨Nat.le_of_ble_eq_true rfl, Nat.le_of_ble_eq_true rfl⟩ ⟨rfl, rfl⟩ (Nat.zero_le _) (Nat.zero_le _) (zc_bitsOf_14_11 7 S0 n hn G_S0 (by omega)) (fun v38 S37 hP => ?_)
                  obtain ⟨rfl, o39, o40⟩ := hP
                  obtain rfl : v38 = 5 := by omega
                  refine zz_iadd zd_14_12_17 ?_
                  refine zz_eqv (v := 31) (by decide) ?_
                  refine zz_istore_n [some (zl p0), none, some (zi 10), some (zi 31), some (zi 7)] zd_14_12_18 (by decide) rfl ?_
                  refine zz_iinc [some (zl p0), none, some (zi 10), some (zi 31), some (zi 8)] zd_14_12_19 rfl rfl ?_
                  refine zz_goto zd_14_12_22 ?_
                  refine zz_iload (x := 8) rfl zd_14_12_5 ?_
                  refine zz_iload_n (x := 10) rfl zd_14_12_7 ?_
                  refine zz_icmp_ge (by omega) (by omega) zd_14_12_8 (fun c41 => ?_) (fun c41 => ?_)
                  · exfalso; omega
                  · refine zz_iload_n (x := 31) rfl zd_14_12_11 ?_
                    refine zz_iload (x := 8) rfl zd_14_12_12 ?_
                    refine zz_callSI [zi 8] zd_14_12_14 zk_Md_215 rfl rfl ⟨Nat.le_of_ble_eq_true rfl, Nat.le_of_ble_eq_true rfl⟩ ⟨rfl, rfl⟩ (Nat.zero_le _) (Nat.zero_le _) (zc_bitsOf_14_11 8 S0 n hn G_S0 (by omega)) (fun v43 S42 hP => ?_)
                    obtain ⟨rfl, o44, o45⟩ := hP
                    obtain rfl : v43 = 9 := by omega
                    refine zz_iadd zd_14_12_17 ?_
                    refine zz_eqv (v := 40) (by decide) ?_
                    refine zz_istore_n [some (zl p0), none, some (zi 10), some (zi 40), some (zi 8)] zd_14_12_18 (by decide) rfl ?_
                    refine zz_iinc [some (zl p0), none, some (zi 10), some (zi 40), some (zi 9)] zd_14_12_19 rfl rfl ?_
                    refine zz_goto zd_14_12_22 ?_
                    refine zz_iload (x := 9) rfl zd_14_12_5 ?_
                    refine zz_iload_n (x := 10) rfl zd_14_12_7 ?_
                    refine zz_icmp_ge (by omega) (by omega) zd_14_12_8 (fun c46 => ?_) (fun c46 => ?_)
                    · exfalso; omega
                    · refine zz_iload_n (x := 40) rfl zd_14_12_11 ?_
                      refine zz_iload (x := 9) rfl zd_14_12_12 ?_
                      refine zz_callSI [zi 9] zd_14_12_14 zk_Md_215 rfl rfl ⟨Nat.le_of_ble_eq_true rfl, Nat.le_of_ble_eq_true rfl⟩ ⟨rfl, rfl⟩ (Nat.zero_le _) (Nat.zero_le _) (zc_bitsOf_14_11 9 S0 n hn G_S0 (by omega)) (fun v48 S47 hP => ?_)
                      obtain ⟨rfl, o49, o50⟩ := hP
                      obtain rfl : v48 = 9 := by omega
                      refine zz_iadd zd_14_12_17 ?_
                      refine zz_eqv (v := 49) (by decide) ?_
                      refine zz_istore_n [some (zl p0), none, some (zi 10), some (zi 49), some (zi 9)] zd_14_12_18 (by decide) rfl ?_
                      refine zz_iinc [some (zl p0), none, some (zi 10), some (zi 49), some (zi 10)] zd_14_12_19 rfl rfl ?_
                      refine zz_goto zd_14_12_22 ?_
                      refine zz_iload (x := 10) rfl zd_14_12_5 ?_
                      refine zz_iload_n (x := 10) rfl zd_14_12_7 ?_
                      refine zz_icmp_ge (by omega) (by omega) zd_14_12_8 (fun c51 => ?_) (fun c51 => ?_)
                      · refine zz_lload_n (x := p0) rfl zd_14_12_25 ?_
                        refine zz_iload_n (x := 49) rfl zd_14_12_26 ?_
                        refine zz_lushr zd_14_12_27 (fun v52 hv52 ev52 => ?_)
                        refine zz_lconst (z := 1) (by decide) zd_14_12_28 ?_
                        refine zz_iload_n (x := 10) rfl zd_14_12_29 ?_
                        refine zz_callSI [zi 10] zd_14_12_30 zk_Md_215 rfl rfl ⟨Nat.le_of_ble_eq_true rfl, Nat.le_of_ble_eq_true rfl⟩ ⟨rfl, rfl⟩ (Nat.zero_le _) (Nat.zero_le _) (zc_bitsOf_14_11 10 S0 n hn G_S0 (by omega)) (fun v54 S53 hP => ?_)
                        obtain ⟨rfl, o55, o56⟩ := hP
                        obtain rfl : v54 = 10 := by omega
                        refine zz_lshl zd_14_12_33 (fun v57 hv57 ev57 => ?_)
                        have av57 := zz_sl1 (by omega) ev57
                        refine zz_eqvl (v := 1024) (by omega) ?_
                        refine zz_lconst (z := 1) (by decide) zd_14_12_34 ?_
                        refine zz_lsub zd_14_12_35 ?_
                        refine zz_eqvl (v := 1023) (by decide) ?_
                        refine zz_land zd_14_12_36 (fun v58 hv58 ev58 => ?_)
                        have av58 := zz_band64 (by omega) (by omega) ev58
                        refine zz_l2i (by omega) zd_14_12_37 (fun v59 hv59 av59 ev59 => ?_)
                        exact zz_iret zd_14_12_38 rfl (Nat.zero_le _) (Nat.zero_le _) ⟨_, _, rfl, rfl, by omega, by subst_vars; rfl⟩
                      · exfalso; omega
-- TensorForgeModel fieldOf (JI)I
abbrev zr_fieldOf_14_12x_11 : Room := { frames := 1, cells := 0, slots := 0, locals := 16 }
def zp_fieldOf_14_12x_11 (p0 : Int) (S0 : zz_S) : Int → zz_S → Prop := fun r S => S0 = S ∧ (0 ≤ r ∧ r ≤ 31) ∧ (r = zz_fx p0 59 31)
theorem zc_fieldOf_14_12x_11 {g : mm_G} {l : Launch} (p0 : Int) (S0 : zz_S) (n : Nat) (hn : zz_end ≤ n) (G_S0 : zz_G S0) (hp0 : (-9223372036854775808) ≤ p0 ∧ p0 ≤ 9223372036854775807) : mm_Met g l zy_fieldOf_14_12 zr_fieldOf_14_12x_11 [zl p0, zi 11] (zz_M S0 n) n (zz_QI n (zp_fieldOf_14_12x_11 p0 S0)) := by
  refine zz_enter (by decide) (Nat.le_of_ble_eq_true rfl) (zz_less (ls1 := [some (zl p0), none, some (zi 11)]) ⟨rfl, ⟨rfl, trivial⟩⟩ ?_)
  refine zz_iconst zd_14_12_0 ?_
  refine zz_istore_n [some (zl p0), none, some (zi 11), some (zi 0)] zd_14_12_1 (by decide) rfl ?_
  refine zz_iconst zd_14_12_2 ?_
  refine zz_istore [some (zl p0), none, some (zi 11), some (zi 0), some (zi 0)] zd_14_12_3 (by decide) rfl ?_
  refine zz_iload (x := 0) rfl zd_14_12_5 ?_
  refine zz_iload_n (x := 11) rfl zd_14_12_7 ?_
  refine zz_icmp_ge (by omega) (by omega) zd_14_12_8 (fun c1 => ?_) (fun c1 => ?_)
  · exfalso; omega
  · refine zz_iload_n (x := 0) rfl zd_14_12_11 ?_
    refine zz_iload (x := 0) rfl zd_14_12_12 ?_
    refine zz_callSI [zi 0] zd_14_12_14 zk_Md_215 rfl rfl ⟨Nat.le_of_ble_eq_true rfl, Nat.le_of_ble_eq_true rfl⟩ ⟨rfl, rfl⟩ (Nat.zero_le _) (Nat.zero_le _) (zc_bitsOf_14_11 0 S0 n hn G_S0 (by omega)) (fun v3 S2 hP => ?_)
    obtain ⟨rfl, o4, o5⟩ := hP
    obtain rfl : v3 = 4 := by omega
    refine zz_iadd zd_14_12_17 ?_
    refine zz_eqv (v := 4) (by decide) ?_
    refine zz_istore_n [some (zl p0), none, some (zi 11), some (zi 4), some (zi 0)] zd_14_12_18 (by decide) rfl ?_
    refine zz_iinc [some (zl p0), none, some (zi 11), some (zi 4), some (zi 1)] zd_14_12_19 rfl rfl ?_
    refine zz_goto zd_14_12_22 ?_
    refine zz_iload (x := 1) rfl zd_14_12_5 ?_
    refine zz_iload_n (x := 11) rfl zd_14_12_7 ?_
    refine zz_icmp_ge (by omega) (by omega) zd_14_12_8 (fun c6 => ?_) (fun c6 => ?_)
    · exfalso; omega
    · refine zz_iload_n (x := 4) rfl zd_14_12_11 ?_
      refine zz_iload (x := 1) rfl zd_14_12_12 ?_
      refine zz_callSI [zi 1] zd_14_12_14 zk_Md_215 rfl rfl ⟨Nat.le_of_ble_eq_true rfl, Nat.le_of_ble_eq_true rfl⟩ ⟨rfl, rfl⟩ (Nat.zero_le _) (Nat.zero_le _) (zc_bitsOf_14_11 1 S0 n hn G_S0 (by omega)) (fun v8 S7 hP => ?_)
      obtain ⟨rfl, o9, o10⟩ := hP
      obtain rfl : v8 = 1 := by omega
      refine zz_iadd zd_14_12_17 ?_
      refine zz_eqv (v := 5) (by decide) ?_
      refine zz_istore_n [some (zl p0), none, some (zi 11), some (zi 5), some (zi 1)] zd_14_12_18 (by decide) rfl ?_
      refine zz_iinc [some (zl p0), none, some (zi 11), some (zi 5), some (zi 2)] zd_14_12_19 rfl rfl ?_
      refine zz_goto zd_14_12_22 ?_
      refine zz_iload (x := 2) rfl zd_14_12_5 ?_
      refine zz_iload_n (x := 11) rfl zd_14_12_7 ?_
      refine zz_icmp_ge (by omega) (by omega) zd_14_12_8 (fun c11 => ?_) (fun c11 => ?_)
      · exfalso; omega
      · refine zz_iload_n (x := 5) rfl zd_14_12_11 ?_
        refine zz_iload (x := 2) rfl zd_14_12_12 ?_
        refine zz_callSI [zi 2] zd_14_12_14 zk_Md_215 rfl rfl ⟨Nat.le_of_ble_eq_true rfl, Nat.le_of_ble_eq_true rfl⟩ ⟨rfl, rfl⟩ (Nat.zero_le _) (Nat.zero_le _) (zc_bitsOf_14_11 2 S0 n hn G_S0 (by omega)) (fun v13 S12 hP => ?_)
        obtain ⟨rfl, o14, o15⟩ := hP
        obtain rfl : v13 = 1 := by omega
        refine zz_iadd zd_14_12_17 ?_
        refine zz_eqv (v := 6) (by decide) ?_
        refine zz_istore_n [some (zl p0), none, some (zi 11), some (zi 6), some (zi 2)] zd_14_12_18 (by decide) rfl ?_
        refine zz_iinc [some (zl p0), none, some (zi 11), some (zi 6), some (zi 3)] zd_14_12_19 rfl rfl ?_
        refine zz_goto zd_14_12_22 ?_
        refine zz_iload (x := 3) rfl zd_14_12_5 ?_
        refine zz_iload_n (x := 11) rfl zd_14_12_7 ?_
        refine zz_icmp_ge (by omega) (by omega) zd_14_12_8 (fun c16 => ?_) (fun c16 => ?_)
        · exfalso; omega
        · refine zz_iload_n (x := 6) rfl zd_14_12_11 ?_
          refine zz_iload (x := 3) rfl zd_14_12_12 ?_
          refine zz_callSI [zi 3] zd_14_12_14 zk_Md_215 rfl rfl ⟨Nat.le_of_ble_eq_true rfl, Nat.le_of_ble_eq_true rfl⟩ ⟨rfl, rfl⟩ (Nat.zero_le _) (Nat.zero_le _) (zc_bitsOf_14_11 3 S0 n hn G_S0 (by omega)) (fun v18 S17 hP => ?_)
          obtain ⟨rfl, o19, o20⟩ := hP
          obtain rfl : v18 = 1 := by omega
          refine zz_iadd zd_14_12_17 ?_
          refine zz_eqv (v := 7) (by decide) ?_
          refine zz_istore_n [some (zl p0), none, some (zi 11), some (zi 7), some (zi 3)] zd_14_12_18 (by decide) rfl ?_
          refine zz_iinc [some (zl p0), none, some (zi 11), some (zi 7), some (zi 4)] zd_14_12_19 rfl rfl ?_
          refine zz_goto zd_14_12_22 ?_
          refine zz_iload (x := 4) rfl zd_14_12_5 ?_
          refine zz_iload_n (x := 11) rfl zd_14_12_7 ?_
          refine zz_icmp_ge (by omega) (by omega) zd_14_12_8 (fun c21 => ?_) (fun c21 => ?_)
          · exfalso; omega
          · refine zz_iload_n (x := 7) rfl zd_14_12_11 ?_
            refine zz_iload (x := 4) rfl zd_14_12_12 ?_
            refine zz_callSI [zi 4] zd_14_12_14 zk_Md_215 rfl rfl ⟨Nat.le_of_ble_eq_true rfl, Nat.le_of_ble_eq_true rfl⟩ ⟨rfl, rfl⟩ (Nat.zero_le _) (Nat.zero_le _) (zc_bitsOf_14_11 4 S0 n hn G_S0 (by omega)) (fun v23 S22 hP => ?_)
            obtain ⟨rfl, o24, o25⟩ := hP
            obtain rfl : v23 = 1 := by omega
            refine zz_iadd zd_14_12_17 ?_
            refine zz_eqv (v := 8) (by decide) ?_
            refine zz_istore_n [some (zl p0), none, some (zi 11), some (zi 8), some (zi 4)] zd_14_12_18 (by decide) rfl ?_
            refine zz_iinc [some (zl p0), none, some (zi 11), some (zi 8), some (zi 5)] zd_14_12_19 rfl rfl ?_
            refine zz_goto zd_14_12_22 ?_
            refine zz_iload (x := 5) rfl zd_14_12_5 ?_
            refine zz_iload_n (x := 11) rfl zd_14_12_7 ?_
            refine zz_icmp_ge (by omega) (by omega) zd_14_12_8 (fun c26 => ?_) (fun c26 => ?_)
            · exfalso; omega
            · refine zz_iload_n (x := 8) rfl zd_14_12_11 ?_
              refine zz_iload (x := 5) rfl zd_14_12_12 ?_
              refine zz_callSI [zi 5] zd_14_12_14 zk_Md_215 rfl rfl ⟨Nat.le_of_ble_eq_true rfl, Nat.le_of_ble_eq_true rfl⟩ ⟨rfl, rfl⟩ (Nat.zero_le _) (Nat.zero_le _) (zc_bitsOf_14_11 5 S0 n hn G_S0 (by omega)) (fun v28 S27 hP => ?_)
              obtain ⟨rfl, o29, o30⟩ := hP
              obtain rfl : v28 = 12 := by omega
              refine zz_iadd zd_14_12_17 ?_
              refine zz_eqv (v := 20) (by decide) ?_
              refine zz_istore_n [some (zl p0), none, some (zi 11), some (zi 20), some (zi 5)] zd_14_12_18 (by decide) rfl ?_
              refine zz_iinc [some (zl p0), none, some (zi 11), some (zi 20), some (zi 6)] zd_14_12_19 rfl rfl ?_
              refine zz_goto zd_14_12_22 ?_
              refine zz_iload (x := 6) rfl zd_14_12_5 ?_
              refine zz_iload_n (x := 11) rfl zd_14_12_7 ?_
              refine zz_icmp_ge (by omega) (by omega) zd_14_12_8 (fun c31 => ?_) (fun c31 => ?_)
              · exfalso; omega
              · refine zz_iload_n (x := 20) rfl zd_14_12_11 ?_
                refine zz_iload (x := 6) rfl zd_14_12_12 ?_
                refine zz_callSI [zi 6] zd_14_12_14 zk_Md_215 rfl rfl ⟨Nat.le_of_ble_eq_true rfl, Nat.le_of_ble_eq_true rfl⟩ ⟨rfl, rfl⟩ (Nat.zero_le _) (Nat.zero_le _) (zc_bitsOf_14_11 6 S0 n hn G_S0 (by omega)) (fun v33 S32 hP => ?_)
                obtain ⟨rfl, o34, o35⟩ := hP
                obtain rfl : v33 = 6 := by omega
                refine zz_iadd zd_14_12_17 ?_
                refine zz_eqv (v := 26) (by decide) ?_
                refine zz_istore_n [some (zl p0), none, some (zi 11), some (zi 26), some (zi 6)] zd_14_12_18 (by decide) rfl ?_
                refine zz_iinc [some (zl p0), none, some (zi 11), some (zi 26), some (zi 7)] zd_14_12_19 rfl rfl ?_
                refine zz_goto zd_14_12_22 ?_
                refine zz_iload (x := 7) rfl zd_14_12_5 ?_
                refine zz_iload_n (x := 11) rfl zd_14_12_7 ?_
                refine zz_icmp_ge (by omega) (by omega) zd_14_12_8 (fun c36 => ?_) (fun c36 => ?_)
                · exfalso; omega
                · refine zz_iload_n (x := 26) rfl zd_14_12_11 ?_
                  refine zz_iload (x := 7) rfl zd_14_12_12 ?_
                  refine zz_callSI [zi 7] zd_14_12_14 zk_Md_215 rfl rfl ⟨Nat.le_of_ble_eq_true rfl, Nat.le_of_ble_eq_true rfl⟩ ⟨rfl, rfl⟩ (Nat.zero_le _) (Nat.zero_le _) (zc_bitsOf_14_11 7 S0 n hn G_S0 (by omega)) (fun v38 S37 hP => ?_)
                  obtain ⟨rfl, o39, o40⟩ := hP
                  obtain rfl : v38 = 5 := by omega
                  refine zz_iadd zd_14_12_17 ?_
                  refine zz_eqv (v := 31) (by decide) ?_
                  refine zz_istore_n [some (zl p0), none, some (zi 11), some (zi 31), some (zi 7)] zd_14_12_18 (by decide) rfl ?_
                  refine zz_iinc [some (zl p0), none, some (zi 11), some (zi 31), some (zi 8)] zd_14_12_19 rfl rfl ?_
                  refine zz_goto zd_14_12_22 ?_
                  refine zz_iload (x := 8) rfl zd_14_12_5 ?_
                  refine zz_iload_n (x := 11) rfl zd_14_12_7 ?_
                  refine zz_icmp_ge (by omega) (by omega) zd_14_12_8 (fun c41 => ?_) (fun c41 => ?_)
                  · exfalso; omega
                  · refine zz_iload_n (x := 31) rfl zd_14_12_11 ?_
                    refine zz_iload (x := 8) rfl zd_14_12_12 ?_
                    refine zz_callSI [zi 8] zd_14_12_14 zk_Md_215 rfl rfl ⟨Nat.le_of_ble_eq_true rfl, Nat.le_of_ble_eq_true rfl⟩ ⟨rfl, rfl⟩ (Nat.zero_le _) (Nat.zero_le _) (zc_bitsOf_14_11 8 S0 n hn G_S0 (by omega)) (fun v43 S42 hP => ?_)
                    obtain ⟨rfl, o44, o45⟩ := hP
                    obtain rfl : v43 = 9 := by omega
                    refine zz_iadd zd_14_12_17 ?_
                    refine zz_eqv (v := 40) (by decide) ?_
                    refine zz_istore_n [some (zl p0), none, some (zi 11), some (zi 40), some (zi 8)] zd_14_12_18 (by decide) rfl ?_
                    refine zz_iinc [some (zl p0), none, some (zi 11), some (zi 40), some (zi 9)] zd_14_12_19 rfl rfl ?_
                    refine zz_goto zd_14_12_22 ?_
                    refine zz_iload (x := 9) rfl zd_14_12_5 ?_
                    refine zz_iload_n (x := 11) rfl zd_14_12_7 ?_
                    refine zz_icmp_ge (by omega) (by omega) zd_14_12_8 (fun c46 => ?_) (fun c46 => ?_)
                    · exfalso; omega
                    · refine zz_iload_n (x := 40) rfl zd_14_12_11 ?_
                      refine zz_iload (x := 9) rfl zd_14_12_12 ?_
                      refine zz_callSI [zi 9] zd_14_12_14 zk_Md_215 rfl rfl ⟨Nat.le_of_ble_eq_true rfl, Nat.le_of_ble_eq_true rfl⟩ ⟨rfl, rfl⟩ (Nat.zero_le _) (Nat.zero_le _) (zc_bitsOf_14_11 9 S0 n hn G_S0 (by omega)) (fun v48 S47 hP => ?_)
                      obtain ⟨rfl, o49, o50⟩ := hP
                      obtain rfl : v48 = 9 := by omega
                      refine zz_iadd zd_14_12_17 ?_
                      refine zz_eqv (v := 49) (by decide) ?_
                      refine zz_istore_n [some (zl p0), none, some (zi 11), some (zi 49), some (zi 9)] zd_14_12_18 (by decide) rfl ?_
                      refine zz_iinc [some (zl p0), none, some (zi 11), some (zi 49), some (zi 10)] zd_14_12_19 rfl rfl ?_
                      refine zz_goto zd_14_12_22 ?_
                      refine zz_iload (x := 10) rfl zd_14_12_5 ?_
                      refine zz_iload_n (x := 11) rfl zd_14_12_7 ?_
                      refine zz_icmp_ge (by omega) (by omega) zd_14_12_8 (fun c51 => ?_) (fun c51 => ?_)
                      · exfalso; omega
                      · refine zz_iload_n (x := 49) rfl zd_14_12_11 ?_
                        refine zz_iload (x := 10) rfl zd_14_12_12 ?_
                        refine zz_callSI [zi 10] zd_14_12_14 zk_Md_215 rfl rfl ⟨Nat.le_of_ble_eq_true rfl, Nat.le_of_ble_eq_true rfl⟩ ⟨rfl, rfl⟩ (Nat.zero_le _) (Nat.zero_le _) (zc_bitsOf_14_11 10 S0 n hn G_S0 (by omega)) (fun v53 S52 hP => ?_)
                        obtain ⟨rfl, o54, o55⟩ := hP
                        obtain rfl : v53 = 10 := by omega
                        refine zz_iadd zd_14_12_17 ?_
                        refine zz_eqv (v := 59) (by decide) ?_
                        refine zz_istore_n [some (zl p0), none, some (zi 11), some (zi 59), some (zi 10)] zd_14_12_18 (by decide) rfl ?_
                        refine zz_iinc [some (zl p0), none, some (zi 11), some (zi 59), some (zi 11)] zd_14_12_19 rfl rfl ?_
                        refine zz_goto zd_14_12_22 ?_
                        refine zz_iload (x := 11) rfl zd_14_12_5 ?_
                        refine zz_iload_n (x := 11) rfl zd_14_12_7 ?_
                        refine zz_icmp_ge (by omega) (by omega) zd_14_12_8 (fun c56 => ?_) (fun c56 => ?_)
                        · refine zz_lload_n (x := p0) rfl zd_14_12_25 ?_
                          refine zz_iload_n (x := 59) rfl zd_14_12_26 ?_
                          refine zz_lushr zd_14_12_27 (fun v57 hv57 ev57 => ?_)
                          refine zz_lconst (z := 1) (by decide) zd_14_12_28 ?_
                          refine zz_iload_n (x := 11) rfl zd_14_12_29 ?_
                          refine zz_callSI [zi 11] zd_14_12_30 zk_Md_215 rfl rfl ⟨Nat.le_of_ble_eq_true rfl, Nat.le_of_ble_eq_true rfl⟩ ⟨rfl, rfl⟩ (Nat.zero_le _) (Nat.zero_le _) (zc_bitsOf_14_11 11 S0 n hn G_S0 (by omega)) (fun v59 S58 hP => ?_)
                          obtain ⟨rfl, o60, o61⟩ := hP
                          obtain rfl : v59 = 5 := by omega
                          refine zz_lshl zd_14_12_33 (fun v62 hv62 ev62 => ?_)
                          have av62 := zz_sl1 (by omega) ev62
                          refine zz_eqvl (v := 32) (by omega) ?_
                          refine zz_lconst (z := 1) (by decide) zd_14_12_34 ?_
                          refine zz_lsub zd_14_12_35 ?_
                          refine zz_eqvl (v := 31) (by decide) ?_
                          refine zz_land zd_14_12_36 (fun v63 hv63 ev63 => ?_)
                          have av63 := zz_band64 (by omega) (by omega) ev63
                          refine zz_l2i (by omega) zd_14_12_37 (fun v64 hv64 av64 ev64 => ?_)
                          exact zz_iret zd_14_12_38 rfl (Nat.zero_le _) (Nat.zero_le _) ⟨_, _, rfl, rfl, by omega, by subst_vars; rfl⟩
                        · exfalso; omega
theorem zd_14_18_25 : zz_D zy_take_14_18 25 (.return_) 1 26 := ⟨by decide +kernel, rfl⟩
-- TensorForgeModel take (J)V
abbrev zr_take_14_18 : Room := { frames := 2, cells := 0, slots := 0, locals := 34 }
def zp_take_14_18 (p0 : Int) (S0 : zz_S) : zz_S → Prop := fun S => zz_G S ∧ zz_fr [(1087, 0), (1087, 1), (1087, 2), (1087, 3), (1087, 4), (1087, 5), (1087, 6), (1087, 7), (1087, 8), (1087, 9), (1087, 10), (1087, 11)] [] (fun _ _ => False) S0 S ∧ ((S 1087 0 = zz_fx p0 0 15) ∧ 0 ≤ S 1087 0 ∧ S 1087 0 ≤ 15) ∧ ((S 1087 1 = zz_fx p0 4 1) ∧ 0 ≤ S 1087 1 ∧ S 1087 1 ≤ 1) ∧ ((S 1087 2 = zz_fx p0 5 1) ∧ 0 ≤ S 1087 2 ∧ S 1087 2 ≤ 1) ∧ ((S 1087 3 = zz_fx p0 6 1) ∧ 0 ≤ S 1087 3 ∧ S 1087 3 ≤ 1) ∧ ((S 1087 4 = zz_fx p0 7 1) ∧ 0 ≤ S 1087 4 ∧ S 1087 4 ≤ 1) ∧ ((S 1087 5 = zz_fx p0 8 4095) ∧ 0 ≤ S 1087 5 ∧ S 1087 5 ≤ 4095) ∧ ((S 1087 6 = zz_fx p0 20 63) ∧ 0 ≤ S 1087 6 ∧ S 1087 6 ≤ 63) ∧ ((S 1087 7 = zz_fx p0 26 31) ∧ 0 ≤ S 1087 7 ∧ S 1087 7 ≤ 31) ∧ ((S 1087 8 = zz_fx p0 31 511) ∧ 0 ≤ S 1087 8 ∧ S 1087 8 ≤ 511) ∧ ((S 1087 9 = zz_fx p0 40 511) ∧ 0 ≤ S 1087 9 ∧ S 1087 9 ≤ 511) ∧ ((S 1087 10 = zz_fx p0 49 1023) ∧ 0 ≤ S 1087 10 ∧ S 1087 10 ≤ 1023) ∧ ((S 1087 11 = zz_fx p0 59 31) ∧ 0 ≤ S 1087 11 ∧ S 1087 11 ≤ 31)
theorem zc_take_14_18 {g : mm_G} {l : Launch} (p0 : Int) (S0 : zz_S) (n : Nat) (hn : zz_end ≤ n) (G_S0 : zz_G S0) (hp0 : (-9223372036854775808) ≤ p0 ∧ p0 ≤ 9223372036854775807) : mm_Met g l zy_take_14_18 zr_take_14_18 [.ref 1079, zl p0] (zz_M S0 n) n (zz_QV n (zp_take_14_18 p0 S0)) := by
  refine zz_enter (by decide) (Nat.le_of_ble_eq_true rfl) (zz_less (ls1 := [some (.ref 1079), some (zl p0), none]) ⟨rfl, ⟨rfl, trivial⟩⟩ ?_)
  have F_S0 : zz_fr [(1087, 0), (1087, 1), (1087, 2), (1087, 3), (1087, 4), (1087, 5), (1087, 6), (1087, 7), (1087, 8), (1087, 9), (1087, 10), (1087, 11)] [] (fun _ _ => False) S0 S0 := zz_fr.refl
  refine zz_iconst zd_14_18_0 ?_
  refine zz_istore_n [some (.ref 1079), some (zl p0), none, some (zi 0)] zd_14_18_1 (by decide) rfl ?_
  refine zz_iload_n (x := 0) rfl zd_14_18_2 ?_
  refine zz_bipush (by decide) zd_14_18_3 ?_
  refine zz_icmp_ge (by omega) (by omega) zd_14_18_5 (fun c1 => ?_) (fun c1 => ?_)
  · exfalso; omega
  · refine zz_aload_n (x := 1079) rfl zd_14_18_8 ?_
    refine zz_getr (kd := 0) (z := 1087) zd_14_18_9 zf_Md_36 zT_1079 rfl (zz_ltn hn rfl) (zz_G.eq G_S0 1079 11 1087 rfl rfl) (by decide) 1087 rfl ?_
    refine zz_iload_n (x := 0) rfl zd_14_18_12 ?_
    refine zz_lload_n (x := p0) rfl zd_14_18_13 ?_
    refine zz_iload_n (x := 0) rfl zd_14_18_14 ?_
    refine zz_callSI [zl p0, zi 0] zd_14_18_15 zk_Md_220 rfl rfl ⟨Nat.le_of_ble_eq_true rfl, Nat.le_of_ble_eq_true rfl⟩ ⟨rfl, rfl⟩ (Nat.zero_le _) (Nat.zero_le _) (zc_fieldOf_14_12x_0 p0 S0 n hn G_S0 (by omega)) (fun v3 S2 hP => ?_)
    obtain ⟨rfl, o4, o5⟩ := hP
    refine zz_iast zd_14_18_18 zT_1087 rfl (zz_ltn hn rfl) (by decide) (by decide) (fun S6 qS6 => ?_)
    have G_S6 := zz_G.put G_S0 qS6 (-2147483648) 2147483647 rfl (by omega)
    have F_S6 := zz_fr.puts F_S0 qS6 rfl
    refine zz_iinc [some (.ref 1079), some (zl p0), none, some (zi 1)] zd_14_18_19 rfl rfl ?_
    refine zz_goto zd_14_18_22 ?_
    refine zz_iload_n (x := 1) rfl zd_14_18_2 ?_
    refine zz_bipush (by decide) zd_14_18_3 ?_
    refine zz_icmp_ge (by omega) (by omega) zd_14_18_5 (fun c7 => ?_) (fun c7 => ?_)
    · exfalso; omega
    · refine zz_aload_n (x := 1079) rfl zd_14_18_8 ?_
      refine zz_getr (kd := 0) (z := 1087) zd_14_18_9 zf_Md_36 zT_1079 rfl (zz_ltn hn rfl) (zz_G.eq G_S6 1079 11 1087 rfl rfl) (by decide) 1087 rfl ?_
      refine zz_iload_n (x := 1) rfl zd_14_18_12 ?_
      refine zz_lload_n (x := p0) rfl zd_14_18_13 ?_
      refine zz_iload_n (x := 1) rfl zd_14_18_14 ?_
      refine zz_callSI [zl p0, zi 1] zd_14_18_15 zk_Md_220 rfl rfl ⟨Nat.le_of_ble_eq_true rfl, Nat.le_of_ble_eq_true rfl⟩ ⟨rfl, rfl⟩ (Nat.zero_le _) (Nat.zero_le _) (zc_fieldOf_14_12x_1 p0 S6 n hn G_S6 (by omega)) (fun v9 S8 hP => ?_)
      obtain ⟨rfl, o10, o11⟩ := hP
      refine zz_iast zd_14_18_18 zT_1087 rfl (zz_ltn hn rfl) (by decide) (by decide) (fun S12 qS12 => ?_)
      have G_S12 := zz_G.put G_S6 qS12 (-2147483648) 2147483647 rfl (by omega)
      have F_S12 := zz_fr.puts F_S6 qS12 rfl
      refine zz_iinc [some (.ref 1079), some (zl p0), none, some (zi 2)] zd_14_18_19 rfl rfl ?_
      refine zz_goto zd_14_18_22 ?_
      refine zz_iload_n (x := 2) rfl zd_14_18_2 ?_
      refine zz_bipush (by decide) zd_14_18_3 ?_
      refine zz_icmp_ge (by omega) (by omega) zd_14_18_5 (fun c13 => ?_) (fun c13 => ?_)
      · exfalso; omega
      · refine zz_aload_n (x := 1079) rfl zd_14_18_8 ?_
        refine zz_getr (kd := 0) (z := 1087) zd_14_18_9 zf_Md_36 zT_1079 rfl (zz_ltn hn rfl) (zz_G.eq G_S12 1079 11 1087 rfl rfl) (by decide) 1087 rfl ?_
        refine zz_iload_n (x := 2) rfl zd_14_18_12 ?_
        refine zz_lload_n (x := p0) rfl zd_14_18_13 ?_
        refine zz_iload_n (x := 2) rfl zd_14_18_14 ?_
        refine zz_callSI [zl p0, zi 2] zd_14_18_15 zk_Md_220 rfl rfl ⟨Nat.le_of_ble_eq_true rfl, Nat.le_of_ble_eq_true rfl⟩ ⟨rfl, rfl⟩ (Nat.zero_le _) (Nat.zero_le _) (zc_fieldOf_14_12x_2 p0 S12 n hn G_S12 (by omega)) (fun v15 S14 hP => ?_)
        obtain ⟨rfl, o16, o17⟩ := hP
        refine zz_iast zd_14_18_18 zT_1087 rfl (zz_ltn hn rfl) (by decide) (by decide) (fun S18 qS18 => ?_)
        have G_S18 := zz_G.put G_S12 qS18 (-2147483648) 2147483647 rfl (by omega)
        have F_S18 := zz_fr.puts F_S12 qS18 rfl
        refine zz_iinc [some (.ref 1079), some (zl p0), none, some (zi 3)] zd_14_18_19 rfl rfl ?_
        refine zz_goto zd_14_18_22 ?_
        refine zz_iload_n (x := 3) rfl zd_14_18_2 ?_
        refine zz_bipush (by decide) zd_14_18_3 ?_
        refine zz_icmp_ge (by omega) (by omega) zd_14_18_5 (fun c19 => ?_) (fun c19 => ?_)
        · exfalso; omega
        · refine zz_aload_n (x := 1079) rfl zd_14_18_8 ?_
          refine zz_getr (kd := 0) (z := 1087) zd_14_18_9 zf_Md_36 zT_1079 rfl (zz_ltn hn rfl) (zz_G.eq G_S18 1079 11 1087 rfl rfl) (by decide) 1087 rfl ?_
          refine zz_iload_n (x := 3) rfl zd_14_18_12 ?_
          refine zz_lload_n (x := p0) rfl zd_14_18_13 ?_
          refine zz_iload_n (x := 3) rfl zd_14_18_14 ?_
          refine zz_callSI [zl p0, zi 3] zd_14_18_15 zk_Md_220 rfl rfl ⟨Nat.le_of_ble_eq_true rfl, Nat.le_of_ble_eq_true rfl⟩ ⟨rfl, rfl⟩ (Nat.zero_le _) (Nat.zero_le _) (zc_fieldOf_14_12x_3 p0 S18 n hn G_S18 (by omega)) (fun v21 S20 hP => ?_)
          obtain ⟨rfl, o22, o23⟩ := hP
          refine zz_iast zd_14_18_18 zT_1087 rfl (zz_ltn hn rfl) (by decide) (by decide) (fun S24 qS24 => ?_)
          have G_S24 := zz_G.put G_S18 qS24 (-2147483648) 2147483647 rfl (by omega)
          have F_S24 := zz_fr.puts F_S18 qS24 rfl
          refine zz_iinc [some (.ref 1079), some (zl p0), none, some (zi 4)] zd_14_18_19 rfl rfl ?_
          refine zz_goto zd_14_18_22 ?_
          refine zz_iload_n (x := 4) rfl zd_14_18_2 ?_
          refine zz_bipush (by decide) zd_14_18_3 ?_
          refine zz_icmp_ge (by omega) (by omega) zd_14_18_5 (fun c25 => ?_) (fun c25 => ?_)
          · exfalso; omega
          · refine zz_aload_n (x := 1079) rfl zd_14_18_8 ?_
            refine zz_getr (kd := 0) (z := 1087) zd_14_18_9 zf_Md_36 zT_1079 rfl (zz_ltn hn rfl) (zz_G.eq G_S24 1079 11 1087 rfl rfl) (by decide) 1087 rfl ?_
            refine zz_iload_n (x := 4) rfl zd_14_18_12 ?_
            refine zz_lload_n (x := p0) rfl zd_14_18_13 ?_
            refine zz_iload_n (x := 4) rfl zd_14_18_14 ?_
            refine zz_callSI [zl p0, zi 4] zd_14_18_15 zk_Md_220 rfl rfl ⟨Nat.le_of_ble_eq_true rfl, Nat.le_of_ble_eq_true rfl⟩ ⟨rfl, rfl⟩ (Nat.zero_le _) (Nat.zero_le _) (zc_fieldOf_14_12x_4 p0 S24 n hn G_S24 (by omega)) (fun v27 S26 hP => ?_)
            obtain ⟨rfl, o28, o29⟩ := hP
            refine zz_iast zd_14_18_18 zT_1087 rfl (zz_ltn hn rfl) (by decide) (by decide) (fun S30 qS30 => ?_)
            have G_S30 := zz_G.put G_S24 qS30 (-2147483648) 2147483647 rfl (by omega)
            have F_S30 := zz_fr.puts F_S24 qS30 rfl
            refine zz_iinc [some (.ref 1079), some (zl p0), none, some (zi 5)] zd_14_18_19 rfl rfl ?_
            refine zz_goto zd_14_18_22 ?_
            refine zz_iload_n (x := 5) rfl zd_14_18_2 ?_
            refine zz_bipush (by decide) zd_14_18_3 ?_
            refine zz_icmp_ge (by omega) (by omega) zd_14_18_5 (fun c31 => ?_) (fun c31 => ?_)
            · exfalso; omega
            · refine zz_aload_n (x := 1079) rfl zd_14_18_8 ?_
              refine zz_getr (kd := 0) (z := 1087) zd_14_18_9 zf_Md_36 zT_1079 rfl (zz_ltn hn rfl) (zz_G.eq G_S30 1079 11 1087 rfl rfl) (by decide) 1087 rfl ?_
              refine zz_iload_n (x := 5) rfl zd_14_18_12 ?_
              refine zz_lload_n (x := p0) rfl zd_14_18_13 ?_
              refine zz_iload_n (x := 5) rfl zd_14_18_14 ?_
              refine zz_callSI [zl p0, zi 5] zd_14_18_15 zk_Md_220 rfl rfl ⟨Nat.le_of_ble_eq_true rfl, Nat.le_of_ble_eq_true rfl⟩ ⟨rfl, rfl⟩ (Nat.zero_le _) (Nat.zero_le _) (zc_fieldOf_14_12x_5 p0 S30 n hn G_S30 (by omega)) (fun v33 S32 hP => ?_)
              obtain ⟨rfl, o34, o35⟩ := hP
              refine zz_iast zd_14_18_18 zT_1087 rfl (zz_ltn hn rfl) (by decide) (by decide) (fun S36 qS36 => ?_)
              have G_S36 := zz_G.put G_S30 qS36 (-2147483648) 2147483647 rfl (by omega)
              have F_S36 := zz_fr.puts F_S30 qS36 rfl
              refine zz_iinc [some (.ref 1079), some (zl p0), none, some (zi 6)] zd_14_18_19 rfl rfl ?_
              refine zz_goto zd_14_18_22 ?_
              refine zz_iload_n (x := 6) rfl zd_14_18_2 ?_
              refine zz_bipush (by decide) zd_14_18_3 ?_
              refine zz_icmp_ge (by omega) (by omega) zd_14_18_5 (fun c37 => ?_) (fun c37 => ?_)
              · exfalso; omega
              · refine zz_aload_n (x := 1079) rfl zd_14_18_8 ?_
                refine zz_getr (kd := 0) (z := 1087) zd_14_18_9 zf_Md_36 zT_1079 rfl (zz_ltn hn rfl) (zz_G.eq G_S36 1079 11 1087 rfl rfl) (by decide) 1087 rfl ?_
                refine zz_iload_n (x := 6) rfl zd_14_18_12 ?_
                refine zz_lload_n (x := p0) rfl zd_14_18_13 ?_
                refine zz_iload_n (x := 6) rfl zd_14_18_14 ?_
                refine zz_callSI [zl p0, zi 6] zd_14_18_15 zk_Md_220 rfl rfl ⟨Nat.le_of_ble_eq_true rfl, Nat.le_of_ble_eq_true rfl⟩ ⟨rfl, rfl⟩ (Nat.zero_le _) (Nat.zero_le _) (zc_fieldOf_14_12x_6 p0 S36 n hn G_S36 (by omega)) (fun v39 S38 hP => ?_)
                obtain ⟨rfl, o40, o41⟩ := hP
                refine zz_iast zd_14_18_18 zT_1087 rfl (zz_ltn hn rfl) (by decide) (by decide) (fun S42 qS42 => ?_)
                have G_S42 := zz_G.put G_S36 qS42 (-2147483648) 2147483647 rfl (by omega)
                have F_S42 := zz_fr.puts F_S36 qS42 rfl
                refine zz_iinc [some (.ref 1079), some (zl p0), none, some (zi 7)] zd_14_18_19 rfl rfl ?_
                refine zz_goto zd_14_18_22 ?_
                refine zz_iload_n (x := 7) rfl zd_14_18_2 ?_
                refine zz_bipush (by decide) zd_14_18_3 ?_
                refine zz_icmp_ge (by omega) (by omega) zd_14_18_5 (fun c43 => ?_) (fun c43 => ?_)
                · exfalso; omega
                · refine zz_aload_n (x := 1079) rfl zd_14_18_8 ?_
                  refine zz_getr (kd := 0) (z := 1087) zd_14_18_9 zf_Md_36 zT_1079 rfl (zz_ltn hn rfl) (zz_G.eq G_S42 1079 11 1087 rfl rfl) (by decide) 1087 rfl ?_
                  refine zz_iload_n (x := 7) rfl zd_14_18_12 ?_
                  refine zz_lload_n (x := p0) rfl zd_14_18_13 ?_
                  refine zz_iload_n (x := 7) rfl zd_14_18_14 ?_
                  refine zz_callSI [zl p0, zi 7] zd_14_18_15 zk_Md_220 rfl rfl ⟨Nat.le_of_ble_eq_true rfl, Nat.le_of_ble_eq_true rfl⟩ ⟨rfl, rfl⟩ (Nat.zero_le _) (Nat.zero_le _) (zc_fieldOf_14_12x_7 p0 S42 n hn G_S42 (by omega)) (fun v45 S44 hP => ?_)
                  obtain ⟨rfl, o46, o47⟩ := hP
                  refine zz_iast zd_14_18_18 zT_1087 rfl (zz_ltn hn rfl) (by decide) (by decide) (fun S48 qS48 => ?_)
                  have G_S48 := zz_G.put G_S42 qS48 (-2147483648) 2147483647 rfl (by omega)
                  have F_S48 := zz_fr.puts F_S42 qS48 rfl
                  refine zz_iinc [some (.ref 1079), some (zl p0), none, some (zi 8)] zd_14_18_19 rfl rfl ?_
                  refine zz_goto zd_14_18_22 ?_
                  refine zz_iload_n (x := 8) rfl zd_14_18_2 ?_
                  refine zz_bipush (by decide) zd_14_18_3 ?_
                  refine zz_icmp_ge (by omega) (by omega) zd_14_18_5 (fun c49 => ?_) (fun c49 => ?_)
                  · exfalso; omega
                  · refine zz_aload_n (x := 1079) rfl zd_14_18_8 ?_
                    refine zz_getr (kd := 0) (z := 1087) zd_14_18_9 zf_Md_36 zT_1079 rfl (zz_ltn hn rfl) (zz_G.eq G_S48 1079 11 1087 rfl rfl) (by decide) 1087 rfl ?_
                    refine zz_iload_n (x := 8) rfl zd_14_18_12 ?_
                    refine zz_lload_n (x := p0) rfl zd_14_18_13 ?_
                    refine zz_iload_n (x := 8) rfl zd_14_18_14 ?_
                    refine zz_callSI [zl p0, zi 8] zd_14_18_15 zk_Md_220 rfl rfl ⟨Nat.le_of_ble_eq_true rfl, Nat.le_of_ble_eq_true rfl⟩ ⟨rfl, rfl⟩ (Nat.zero_le _) (Nat.zero_le _) (zc_fieldOf_14_12x_8 p0 S48 n hn G_S48 (by omega)) (fun v51 S50 hP => ?_)
                    obtain ⟨rfl, o52, o53⟩ := hP
                    refine zz_iast zd_14_18_18 zT_1087 rfl (zz_ltn hn rfl) (by decide) (by decide) (fun S54 qS54 => ?_)
                    have G_S54 := zz_G.put G_S48 qS54 (-2147483648) 2147483647 rfl (by omega)
                    have F_S54 := zz_fr.puts F_S48 qS54 rfl
                    refine zz_iinc [some (.ref 1079), some (zl p0), none, some (zi 9)] zd_14_18_19 rfl rfl ?_
                    refine zz_goto zd_14_18_22 ?_
                    refine zz_iload_n (x := 9) rfl zd_14_18_2 ?_
                    refine zz_bipush (by decide) zd_14_18_3 ?_
                    refine zz_icmp_ge (by omega) (by omega) zd_14_18_5 (fun c55 => ?_) (fun c55 => ?_)
                    · exfalso; omega
                    · refine zz_aload_n (x := 1079) rfl zd_14_18_8 ?_
                      refine zz_getr (kd := 0) (z := 1087) zd_14_18_9 zf_Md_36 zT_1079 rfl (zz_ltn hn rfl) (zz_G.eq G_S54 1079 11 1087 rfl rfl) (by decide) 1087 rfl ?_
                      refine zz_iload_n (x := 9) rfl zd_14_18_12 ?_
                      refine zz_lload_n (x := p0) rfl zd_14_18_13 ?_
                      refine zz_iload_n (x := 9) rfl zd_14_18_14 ?_
                      refine zz_callSI [zl p0, zi 9] zd_14_18_15 zk_Md_220 rfl rfl ⟨Nat.le_of_ble_eq_true rfl, Nat.le_of_ble_eq_true rfl⟩ ⟨rfl, rfl⟩ (Nat.zero_le _) (Nat.zero_le _) (zc_fieldOf_14_12x_9 p0 S54 n hn G_S54 (by omega)) (fun v57 S56 hP => ?_)
                      obtain ⟨rfl, o58, o59⟩ := hP
                      refine zz_iast zd_14_18_18 zT_1087 rfl (zz_ltn hn rfl) (by decide) (by decide) (fun S60 qS60 => ?_)
                      have G_S60 := zz_G.put G_S54 qS60 (-2147483648) 2147483647 rfl (by omega)
                      have F_S60 := zz_fr.puts F_S54 qS60 rfl
                      refine zz_iinc [some (.ref 1079), some (zl p0), none, some (zi 10)] zd_14_18_19 rfl rfl ?_
                      refine zz_goto zd_14_18_22 ?_
                      refine zz_iload_n (x := 10) rfl zd_14_18_2 ?_
                      refine zz_bipush (by decide) zd_14_18_3 ?_
                      refine zz_icmp_ge (by omega) (by omega) zd_14_18_5 (fun c61 => ?_) (fun c61 => ?_)
                      · exfalso; omega
                      · refine zz_aload_n (x := 1079) rfl zd_14_18_8 ?_
                        refine zz_getr (kd := 0) (z := 1087) zd_14_18_9 zf_Md_36 zT_1079 rfl (zz_ltn hn rfl) (zz_G.eq G_S60 1079 11 1087 rfl rfl) (by decide) 1087 rfl ?_
                        refine zz_iload_n (x := 10) rfl zd_14_18_12 ?_
                        refine zz_lload_n (x := p0) rfl zd_14_18_13 ?_
                        refine zz_iload_n (x := 10) rfl zd_14_18_14 ?_
                        refine zz_callSI [zl p0, zi 10] zd_14_18_15 zk_Md_220 rfl rfl ⟨Nat.le_of_ble_eq_true rfl, Nat.le_of_ble_eq_true rfl⟩ ⟨rfl, rfl⟩ (Nat.zero_le _) (Nat.zero_le _) (zc_fieldOf_14_12x_10 p0 S60 n hn G_S60 (by omega)) (fun v63 S62 hP => ?_)
                        obtain ⟨rfl, o64, o65⟩ := hP
                        refine zz_iast zd_14_18_18 zT_1087 rfl (zz_ltn hn rfl) (by decide) (by decide) (fun S66 qS66 => ?_)
                        have G_S66 := zz_G.put G_S60 qS66 (-2147483648) 2147483647 rfl (by omega)
                        have F_S66 := zz_fr.puts F_S60 qS66 rfl
                        refine zz_iinc [some (.ref 1079), some (zl p0), none, some (zi 11)] zd_14_18_19 rfl rfl ?_
                        refine zz_goto zd_14_18_22 ?_
                        refine zz_iload_n (x := 11) rfl zd_14_18_2 ?_
                        refine zz_bipush (by decide) zd_14_18_3 ?_
                        refine zz_icmp_ge (by omega) (by omega) zd_14_18_5 (fun c67 => ?_) (fun c67 => ?_)
                        · exfalso; omega
                        · refine zz_aload_n (x := 1079) rfl zd_14_18_8 ?_
                          refine zz_getr (kd := 0) (z := 1087) zd_14_18_9 zf_Md_36 zT_1079 rfl (zz_ltn hn rfl) (zz_G.eq G_S66 1079 11 1087 rfl rfl) (by decide) 1087 rfl ?_
                          refine zz_iload_n (x := 11) rfl zd_14_18_12 ?_
                          refine zz_lload_n (x := p0) rfl zd_14_18_13 ?_
                          refine zz_iload_n (x := 11) rfl zd_14_18_14 ?_
                          refine zz_callSI [zl p0, zi 11] zd_14_18_15 zk_Md_220 rfl rfl ⟨Nat.le_of_ble_eq_true rfl, Nat.le_of_ble_eq_true rfl⟩ ⟨rfl, rfl⟩ (Nat.zero_le _) (Nat.zero_le _) (zc_fieldOf_14_12x_11 p0 S66 n hn G_S66 (by omega)) (fun v69 S68 hP => ?_)
                          obtain ⟨rfl, o70, o71⟩ := hP
                          refine zz_iast zd_14_18_18 zT_1087 rfl (zz_ltn hn rfl) (by decide) (by decide) (fun S72 qS72 => ?_)
                          have G_S72 := zz_G.put G_S66 qS72 (-2147483648) 2147483647 rfl (by omega)
                          have F_S72 := zz_fr.puts F_S66 qS72 rfl
                          refine zz_iinc [some (.ref 1079), some (zl p0), none, some (zi 12)] zd_14_18_19 rfl rfl ?_
                          refine zz_goto zd_14_18_22 ?_
                          refine zz_iload_n (x := 12) rfl zd_14_18_2 ?_
                          refine zz_bipush (by decide) zd_14_18_3 ?_
                          refine zz_icmp_ge (by omega) (by omega) zd_14_18_5 (fun c73 => ?_) (fun c73 => ?_)
                          · have e74 : S72 1087 0 = v3 := (zz_ro qS72 (fun h => absurd h.2 (by decide)) (zz_ro qS66 (fun h => absurd h.2 (by decide)) (zz_ro qS60 (fun h => absurd h.2 (by decide)) (zz_ro qS54 (fun h => absurd h.2 (by decide)) (zz_ro qS48 (fun h => absurd h.2 (by decide)) (zz_ro qS42 (fun h => absurd h.2 (by decide)) (zz_ro qS36 (fun h => absurd h.2 (by decide)) (zz_ro qS30 (fun h => absurd h.2 (by decide)) (zz_ro qS24 (fun h => absurd h.2 (by decide)) (zz_ro qS18 (fun h => absurd h.2 (by decide)) (zz_ro qS12 (fun h => absurd h.2 (by decide)) (zz_rs qS6))))))))))))
                            have e75 : S72 1087 1 = v9 := (zz_ro qS72 (fun h => absurd h.2 (by decide)) (zz_ro qS66 (fun h => absurd h.2 (by decide)) (zz_ro qS60 (fun h => absurd h.2 (by decide)) (zz_ro qS54 (fun h => absurd h.2 (by decide)) (zz_ro qS48 (fun h => absurd h.2 (by decide)) (zz_ro qS42 (fun h => absurd h.2 (by decide)) (zz_ro qS36 (fun h => absurd h.2 (by decide)) (zz_ro qS30 (fun h => absurd h.2 (by decide)) (zz_ro qS24 (fun h => absurd h.2 (by decide)) (zz_ro qS18 (fun h => absurd h.2 (by decide)) (zz_rs qS12)))))))))))
                            have e76 : S72 1087 2 = v15 := (zz_ro qS72 (fun h => absurd h.2 (by decide)) (zz_ro qS66 (fun h => absurd h.2 (by decide)) (zz_ro qS60 (fun h => absurd h.2 (by decide)) (zz_ro qS54 (fun h => absurd h.2 (by decide)) (zz_ro qS48 (fun h => absurd h.2 (by decide)) (zz_ro qS42 (fun h => absurd h.2 (by decide)) (zz_ro qS36 (fun h => absurd h.2 (by decide)) (zz_ro qS30 (fun h => absurd h.2 (by decide)) (zz_ro qS24 (fun h => absurd h.2 (by decide)) (zz_rs qS18))))))))))
                            have e77 : S72 1087 3 = v21 := (zz_ro qS72 (fun h => absurd h.2 (by decide)) (zz_ro qS66 (fun h => absurd h.2 (by decide)) (zz_ro qS60 (fun h => absurd h.2 (by decide)) (zz_ro qS54 (fun h => absurd h.2 (by decide)) (zz_ro qS48 (fun h => absurd h.2 (by decide)) (zz_ro qS42 (fun h => absurd h.2 (by decide)) (zz_ro qS36 (fun h => absurd h.2 (by decide)) (zz_ro qS30 (fun h => absurd h.2 (by decide)) (zz_rs qS24)))))))))
                            have e78 : S72 1087 4 = v27 := (zz_ro qS72 (fun h => absurd h.2 (by decide)) (zz_ro qS66 (fun h => absurd h.2 (by decide)) (zz_ro qS60 (fun h => absurd h.2 (by decide)) (zz_ro qS54 (fun h => absurd h.2 (by decide)) (zz_ro qS48 (fun h => absurd h.2 (by decide)) (zz_ro qS42 (fun h => absurd h.2 (by decide)) (zz_ro qS36 (fun h => absurd h.2 (by decide)) (zz_rs qS30))))))))
                            have e79 : S72 1087 5 = v33 := (zz_ro qS72 (fun h => absurd h.2 (by decide)) (zz_ro qS66 (fun h => absurd h.2 (by decide)) (zz_ro qS60 (fun h => absurd h.2 (by decide)) (zz_ro qS54 (fun h => absurd h.2 (by decide)) (zz_ro qS48 (fun h => absurd h.2 (by decide)) (zz_ro qS42 (fun h => absurd h.2 (by decide)) (zz_rs qS36)))))))
                            have e80 : S72 1087 6 = v39 := (zz_ro qS72 (fun h => absurd h.2 (by decide)) (zz_ro qS66 (fun h => absurd h.2 (by decide)) (zz_ro qS60 (fun h => absurd h.2 (by decide)) (zz_ro qS54 (fun h => absurd h.2 (by decide)) (zz_ro qS48 (fun h => absurd h.2 (by decide)) (zz_rs qS42))))))
                            have e81 : S72 1087 7 = v45 := (zz_ro qS72 (fun h => absurd h.2 (by decide)) (zz_ro qS66 (fun h => absurd h.2 (by decide)) (zz_ro qS60 (fun h => absurd h.2 (by decide)) (zz_ro qS54 (fun h => absurd h.2 (by decide)) (zz_rs qS48)))))
                            have e82 : S72 1087 8 = v51 := (zz_ro qS72 (fun h => absurd h.2 (by decide)) (zz_ro qS66 (fun h => absurd h.2 (by decide)) (zz_ro qS60 (fun h => absurd h.2 (by decide)) (zz_rs qS54))))
                            have e83 : S72 1087 9 = v57 := (zz_ro qS72 (fun h => absurd h.2 (by decide)) (zz_ro qS66 (fun h => absurd h.2 (by decide)) (zz_rs qS60)))
                            have e84 : S72 1087 10 = v63 := (zz_ro qS72 (fun h => absurd h.2 (by decide)) (zz_rs qS66))
                            have e85 : S72 1087 11 = v69 := (zz_rs qS72)
                            exact zz_vret zd_14_18_25 rfl (Nat.zero_le _) (Nat.zero_le _) ⟨_, rfl, G_S72, F_S72, by omega, by omega, by omega, by omega, by omega, by omega, by omega, by omega, by omega, by omega, by omega, by omega⟩
                          · exfalso; omega
abbrev zy_unit_14_19 : mm_Y := (⟨"TensorForgeModel", "unit", "()I"⟩, prog_14_method_19_code, 1, (some .int))
theorem zyw_unit_14_19 : mm_Yw zy_unit_14_19 0 := ⟨mm_tb_1 1902 (by decide +kernel) rfl, mm_tb_1 12 (by decide +kernel) rfl, ⟨by decide, by decide⟩, by decide +kernel⟩
theorem zg_14_19_0 : (decode zy_unit_14_19.2.1 0 = .ok ((.aload_n 0), 1)) ∧ (decode zy_unit_14_19.2.1 1 = .ok ((.getfield 36), 3)) ∧ (decode zy_unit_14_19.2.1 4 = .ok ((.iconst 0), 1)) ∧ (decode zy_unit_14_19.2.1 5 = .ok ((.iaload), 1)) ∧ (decode zy_unit_14_19.2.1 6 = .ok ((.bipush 9), 2)) ∧ (decode zy_unit_14_19.2.1 8 = .ok ((Instr.if_icmp .ne) 13, 3)) ∧ (decode zy_unit_14_19.2.1 21 = .ok ((.aload_n 0), 1)) ∧ (decode zy_unit_14_19.2.1 22 = .ok ((.getfield 36), 3)) ∧ (decode zy_unit_14_19.2.1 25 = .ok ((.iconst 0), 1)) ∧ (decode zy_unit_14_19.2.1 26 = .ok ((.iaload), 1)) := by decide +kernel
theorem zd_14_19_0 : zz_D zy_unit_14_19 0 (.aload_n 0) 1 1 := ⟨zg_14_19_0.1, rfl⟩
theorem zd_14_19_1 : zz_D zy_unit_14_19 1 (.getfield 36) 3 4 := ⟨zg_14_19_0.2.1, rfl⟩
theorem zd_14_19_4 : zz_D zy_unit_14_19 4 (.iconst 0) 1 5 := ⟨zg_14_19_0.2.2.1, rfl⟩
theorem zd_14_19_5 : zz_D zy_unit_14_19 5 (.iaload) 1 6 := ⟨zg_14_19_0.2.2.2.1, rfl⟩
theorem zd_14_19_6 : zz_D zy_unit_14_19 6 (.bipush 9) 2 8 := ⟨zg_14_19_0.2.2.2.2.1, rfl⟩
theorem zd_14_19_8 : zz_B zy_unit_14_19 8 (Instr.if_icmp .ne) 21 11 := ⟨13, zg_14_19_0.2.2.2.2.2.1, rfl, rfl⟩
theorem zd_14_19_21 : zz_D zy_unit_14_19 21 (.aload_n 0) 1 22 := ⟨zg_14_19_0.2.2.2.2.2.2.1, rfl⟩
theorem zd_14_19_22 : zz_D zy_unit_14_19 22 (.getfield 36) 3 25 := ⟨zg_14_19_0.2.2.2.2.2.2.2.1, rfl⟩
theorem zd_14_19_25 : zz_D zy_unit_14_19 25 (.iconst 0) 1 26 := ⟨zg_14_19_0.2.2.2.2.2.2.2.2.1, rfl⟩
theorem zd_14_19_26 : zz_D zy_unit_14_19 26 (.iaload) 1 27 := ⟨zg_14_19_0.2.2.2.2.2.2.2.2.2, rfl⟩
theorem zg_14_19_27 : (decode zy_unit_14_19.2.1 27 = .ok ((.iconst 5), 1)) ∧ (decode zy_unit_14_19.2.1 28 = .ok ((Instr.if_icmp .ge) 7, 3)) ∧ (decode zy_unit_14_19.2.1 35 = .ok ((.aload_n 0), 1)) ∧ (decode zy_unit_14_19.2.1 36 = .ok ((.getfield 36), 3)) ∧ (decode zy_unit_14_19.2.1 39 = .ok ((.iconst 0), 1)) ∧ (decode zy_unit_14_19.2.1 40 = .ok ((.iaload), 1)) ∧ (decode zy_unit_14_19.2.1 41 = .ok ((.bipush 8), 2)) ∧ (decode zy_unit_14_19.2.1 43 = .ok ((Instr.if_icmp .ge) 7, 3)) ∧ (decode zy_unit_14_19.2.1 50 = .ok ((.iconst 2), 1)) ∧ (decode zy_unit_14_19.2.1 51 = .ok ((.ireturn), 1)) := by decide +kernel
theorem zd_14_19_27 : zz_D zy_unit_14_19 27 (.iconst 5) 1 28 := ⟨zg_14_19_27.1, rfl⟩
theorem zd_14_19_28 : zz_B zy_unit_14_19 28 (Instr.if_icmp .ge) 35 31 := ⟨7, zg_14_19_27.2.1, rfl, rfl⟩
theorem zd_14_19_35 : zz_D zy_unit_14_19 35 (.aload_n 0) 1 36 := ⟨zg_14_19_27.2.2.1, rfl⟩
theorem zd_14_19_36 : zz_D zy_unit_14_19 36 (.getfield 36) 3 39 := ⟨zg_14_19_27.2.2.2.1, rfl⟩
theorem zd_14_19_39 : zz_D zy_unit_14_19 39 (.iconst 0) 1 40 := ⟨zg_14_19_27.2.2.2.2.1, rfl⟩
theorem zd_14_19_40 : zz_D zy_unit_14_19 40 (.iaload) 1 41 := ⟨zg_14_19_27.2.2.2.2.2.1, rfl⟩
theorem zd_14_19_41 : zz_D zy_unit_14_19 41 (.bipush 8) 2 43 := ⟨zg_14_19_27.2.2.2.2.2.2.1, rfl⟩
theorem zd_14_19_43 : zz_B zy_unit_14_19 43 (Instr.if_icmp .ge) 50 46 := ⟨7, zg_14_19_27.2.2.2.2.2.2.2.1, rfl, rfl⟩
theorem zd_14_19_50 : zz_D zy_unit_14_19 50 (.iconst 2) 1 51 := ⟨zg_14_19_27.2.2.2.2.2.2.2.2.1, rfl⟩
theorem zd_14_19_51 : zz_D zy_unit_14_19 51 (.ireturn) 1 52 := ⟨zg_14_19_27.2.2.2.2.2.2.2.2.2, rfl⟩
theorem zg_14_19_46 : (decode zy_unit_14_19.2.1 46 = .ok ((.iconst 1), 1)) ∧ (decode zy_unit_14_19.2.1 47 = .ok (Instr.goto 4, 3)) ∧ (decode zy_unit_14_19.2.1 31 = .ok ((.iconst 0), 1)) ∧ (decode zy_unit_14_19.2.1 32 = .ok (Instr.goto 19, 3)) ∧ (decode zy_unit_14_19.2.1 11 = .ok ((.aload_n 0), 1)) ∧ (decode zy_unit_14_19.2.1 12 = .ok ((.getfield 36), 3)) ∧ (decode zy_unit_14_19.2.1 15 = .ok ((.bipush 11), 2)) ∧ (decode zy_unit_14_19.2.1 17 = .ok ((.iaload), 1)) ∧ (decode zy_unit_14_19.2.1 18 = .ok (Instr.goto 33, 3)) := by decide +kernel
theorem zd_14_19_46 : zz_D zy_unit_14_19 46 (.iconst 1) 1 47 := ⟨zg_14_19_46.1, rfl⟩
theorem zd_14_19_47 : zz_B zy_unit_14_19 47 Instr.goto 51 50 := ⟨4, zg_14_19_46.2.1, rfl, rfl⟩
theorem zd_14_19_31 : zz_D zy_unit_14_19 31 (.iconst 0) 1 32 := ⟨zg_14_19_46.2.2.1, rfl⟩
theorem zd_14_19_32 : zz_B zy_unit_14_19 32 Instr.goto 51 35 := ⟨19, zg_14_19_46.2.2.2.1, rfl, rfl⟩
theorem zd_14_19_11 : zz_D zy_unit_14_19 11 (.aload_n 0) 1 12 := ⟨zg_14_19_46.2.2.2.2.1, rfl⟩
theorem zd_14_19_12 : zz_D zy_unit_14_19 12 (.getfield 36) 3 15 := ⟨zg_14_19_46.2.2.2.2.2.1, rfl⟩
theorem zd_14_19_15 : zz_D zy_unit_14_19 15 (.bipush 11) 2 17 := ⟨zg_14_19_46.2.2.2.2.2.2.1, rfl⟩
theorem zd_14_19_17 : zz_D zy_unit_14_19 17 (.iaload) 1 18 := ⟨zg_14_19_46.2.2.2.2.2.2.2.1, rfl⟩
theorem zd_14_19_18 : zz_B zy_unit_14_19 18 Instr.goto 51 21 := ⟨33, zg_14_19_46.2.2.2.2.2.2.2.2, rfl, rfl⟩

theorem zd_1_9_7 : zz_B zy_field_1_9 7 (Instr.if_icmp .lt) 20 10 := ⟨13, zq_161 zg_1_9_0.2.2.2.2.2.2.2.1 zg_1_9_0.2.2.2.2.2.2.2.2.1 zg_1_9_0.2.2.2.2.2.2.2.2.2.1 (by decide), rfl, rfl⟩
theorem zd_1_9_20 : zz_D zy_field_1_9 20 (.lload_n 1) 1 21 := ⟨zq_31 zg_1_9_0.2.2.2.2.2.2.2.2.2.2.1, rfl⟩
theorem zd_1_9_21 : zz_D zy_field_1_9 21 (.iload_n 3) 1 22 := ⟨zq_29 zg_1_9_0.2.2.2.2.2.2.2.2.2.2.2.1, rfl⟩
theorem zd_1_9_22 : zz_D zy_field_1_9 22 (.invokestatic 137) 3 25 := ⟨zq_184 zg_1_9_0.2.2.2.2.2.2.2.2.2.2.2.2.1 zg_1_9_0.2.2.2.2.2.2.2.2.2.2.2.2.2.1 zg_1_9_0.2.2.2.2.2.2.2.2.2.2.2.2.2.2 rfl, rfl⟩
theorem zg_12_2_0 : zq_at zy_get_12_2.2.1 0 28 ∧ zq_at zy_get_12_2.2.1 1 155 ∧ zq_at zy_get_12_2.2.1 2 0 ∧ zq_at zy_get_12_2.2.1 3 9 ∧ zq_at zy_get_12_2.2.1 4 28 ∧ zq_at zy_get_12_2.2.1 5 16 ∧ zq_at zy_get_12_2.2.1 6 12 ∧ zq_at zy_get_12_2.2.1 7 161 ∧ zq_at zy_get_12_2.2.1 8 0 ∧ zq_at zy_get_12_2.2.1 9 5 ∧ zq_at zy_get_12_2.2.1 12 30 ∧ zq_at zy_get_12_2.2.1 13 178 ∧ zq_at zy_get_12_2.2.1 14 0 ∧ zq_at zy_get_12_2.2.1 15 9 ∧ zq_at zy_get_12_2.2.1 16 28 ∧ zq_at zy_get_12_2.2.1 17 46 ∧ zq_at zy_get_12_2.2.1 18 125 ∧ zq_at zy_get_12_2.2.1 19 136 ∧ zq_at zy_get_12_2.2.1 20 178 ∧ zq_at zy_get_12_2.2.1 21 0 ∧ zq_at zy_get_12_2.2.1 22 13 ∧ zq_at zy_get_12_2.2.1 23 28 ∧ zq_at zy_get_12_2.2.1 24 46 ∧ zq_at zy_get_12_2.2.1 25 126 := by decide +kernel
theorem zd_12_2_0 : zz_D zy_get_12_2 0 (.iload_n 2) 1 1 := ⟨zq_28 zg_12_2_0.1, rfl⟩
theorem zd_12_2_1 : zz_B zy_get_12_2 1 (Instr.ifCond .lt) 10 4 := ⟨9, zq_155 zg_12_2_0.2.1 zg_12_2_0.2.2.1 zg_12_2_0.2.2.2.1 (by decide), rfl, rfl⟩
theorem zd_12_2_4 : zz_D zy_get_12_2 4 (.iload_n 2) 1 5 := ⟨zq_28 zg_12_2_0.2.2.2.2.1, rfl⟩
theorem zd_12_2_5 : zz_D zy_get_12_2 5 (.bipush 12) 2 7 := ⟨zq_16 zg_12_2_0.2.2.2.2.2.1 zg_12_2_0.2.2.2.2.2.2.1 (by decide), rfl⟩
theorem zd_12_2_7 : zz_B zy_get_12_2 7 (Instr.if_icmp .lt) 12 10 := ⟨5, zq_161 zg_12_2_0.2.2.2.2.2.2.2.1 zg_12_2_0.2.2.2.2.2.2.2.2.1 zg_12_2_0.2.2.2.2.2.2.2.2.2.1 (by decide), rfl, rfl⟩
theorem zd_12_2_12 : zz_D zy_get_12_2 12 (.lload_n 0) 1 13 := ⟨zq_30 zg_12_2_0.2.2.2.2.2.2.2.2.2.2.1, rfl⟩
theorem zd_12_2_13 : zz_D zy_get_12_2 13 (.getstatic 9) 3 16 := ⟨zq_178 zg_12_2_0.2.2.2.2.2.2.2.2.2.2.2.1 zg_12_2_0.2.2.2.2.2.2.2.2.2.2.2.2.1 zg_12_2_0.2.2.2.2.2.2.2.2.2.2.2.2.2.1 rfl, rfl⟩
theorem zd_12_2_16 : zz_D zy_get_12_2 16 (.iload_n 2) 1 17 := ⟨zq_28 zg_12_2_0.2.2.2.2.2.2.2.2.2.2.2.2.2.2.1, rfl⟩
theorem zd_12_2_17 : zz_D zy_get_12_2 17 (.iaload) 1 18 := ⟨zq_46 zg_12_2_0.2.2.2.2.2.2.2.2.2.2.2.2.2.2.2.1, rfl⟩
theorem zd_12_2_18 : zz_D zy_get_12_2 18 (.lushr) 1 19 := ⟨zq_125 zg_12_2_0.2.2.2.2.2.2.2.2.2.2.2.2.2.2.2.2.1, rfl⟩
theorem zd_12_2_19 : zz_D zy_get_12_2 19 (.l2i) 1 20 := ⟨zq_136 zg_12_2_0.2.2.2.2.2.2.2.2.2.2.2.2.2.2.2.2.2.1, rfl⟩
theorem zd_12_2_20 : zz_D zy_get_12_2 20 (.getstatic 13) 3 23 := ⟨zq_178 zg_12_2_0.2.2.2.2.2.2.2.2.2.2.2.2.2.2.2.2.2.2.1 zg_12_2_0.2.2.2.2.2.2.2.2.2.2.2.2.2.2.2.2.2.2.2.1 zg_12_2_0.2.2.2.2.2.2.2.2.2.2.2.2.2.2.2.2.2.2.2.2.1 rfl, rfl⟩
theorem zd_12_2_23 : zz_D zy_get_12_2 23 (.iload_n 2) 1 24 := ⟨zq_28 zg_12_2_0.2.2.2.2.2.2.2.2.2.2.2.2.2.2.2.2.2.2.2.2.2.1, rfl⟩
theorem zd_12_2_24 : zz_D zy_get_12_2 24 (.iaload) 1 25 := ⟨zq_46 zg_12_2_0.2.2.2.2.2.2.2.2.2.2.2.2.2.2.2.2.2.2.2.2.2.2.1, rfl⟩
theorem zd_12_2_25 : zz_D zy_get_12_2 25 (.iand) 1 26 := ⟨zq_126 zg_12_2_0.2.2.2.2.2.2.2.2.2.2.2.2.2.2.2.2.2.2.2.2.2.2.2, rfl⟩
theorem zg_12_2_26 : zq_at zy_get_12_2.2.1 26 172 := by decide +kernel
theorem zd_12_2_26 : zz_D zy_get_12_2 26 (.ireturn) 1 27 := ⟨zq_172 zg_12_2_26, rfl⟩
-- TensorForge$Words get (JI)I
abbrev zr_get_12_2x_0 : Room := { frames := 0, cells := 0, slots := 0, locals := 0 }
def zp_get_12_2x_0 (p0 : Int) (S0 : zz_S) : Int → zz_S → Prop := fun r S => S0 = S ∧ (0 ≤ r ∧ r ≤ 15) ∧ (r = zz_fy p0 0 15)
theorem zc_get_12_2x_0 {g : mm_G} {l : Launch} (p0 : Int) (S0 : zz_S) (n : Nat) (hn : zz_end ≤ n) (G_S0 : zz_G S0) (hp0 : (-9223372036854775808) ≤ p0 ∧ p0 ≤ 9223372036854775807) : mm_Met g l zy_get_12_2 zr_get_12_2x_0 [zl p0, zi 0] (zz_M S0 n) n (zz_QI n (zp_get_12_2x_0 p0 S0)) := by
  refine zz_enter (by decide) (Nat.le_of_ble_eq_true rfl) (zz_less (ls1 := [some (zl p0), none, some (zi 0)]) ⟨rfl, ⟨rfl, trivial⟩⟩ ?_)
  refine zz_iload_n (x := 0) rfl zd_12_2_0 ?_
  refine zz_if_lt (by omega) zd_12_2_1 (fun c1 => ?_) (fun c1 => ?_)
  · exfalso; omega
  · refine zz_iload_n (x := 0) rfl zd_12_2_4 ?_
    refine zz_bipush (by decide) zd_12_2_5 ?_
    refine zz_icmp_lt (by omega) (by omega) zd_12_2_7 (fun c2 => ?_) (fun c2 => ?_)
    · refine zz_lload_n (x := p0) rfl zd_12_2_12 ?_
      refine zz_gets (q0 := 1) zd_12_2_13 rfl (by decide) zs_Words_9 ?_
      refine zz_iload_n (x := 0) rfl zd_12_2_16 ?_
      refine zz_tiald 0 zd_12_2_17 rfl (by decide) rfl (by decide) (by decide) rfl ?_
      refine zz_lushr zd_12_2_18 (fun v3 hv3 ev3 => ?_)
      refine zz_l2i (by omega) zd_12_2_19 (fun v4 hv4 av4 ev4 => ?_)
      refine zz_gets (q0 := 2) zd_12_2_20 rfl (by decide) zs_Words_13 ?_
      refine zz_iload_n (x := 0) rfl zd_12_2_23 ?_
      refine zz_tiald 15 zd_12_2_24 rfl (by decide) rfl (by decide) (by decide) rfl ?_
      refine zz_iand (by omega) (by omega) zd_12_2_25 (fun v5 hv5 av5 bv5 ev5 => ?_)
      exact zz_iret zd_12_2_26 rfl (Nat.zero_le _) (Nat.zero_le _) ⟨_, _, rfl, rfl, by omega, by subst_vars; rfl⟩
    · exfalso; omega
theorem zk_TF_137 : mm_Sl "TensorForge" 137 2 zy_get_12_2 := ⟨zyw_get_12_2, mm_tb_1 1215 (by decide +kernel) rfl, mm_tb_1 493 (by decide +kernel) rfl⟩
theorem zg_1_9_25 : zq_at zy_field_1_9.2.1 25 172 := by decide +kernel
theorem zd_1_9_25 : zz_D zy_field_1_9 25 (.ireturn) 1 26 := ⟨zq_172 zg_1_9_25, rfl⟩
-- TensorForge$Words get (JI)I
abbrev zr_get_12_2x_1 : Room := { frames := 0, cells := 0, slots := 0, locals := 0 }
def zp_get_12_2x_1 (p0 : Int) (S0 : zz_S) : Int → zz_S → Prop := fun r S => S0 = S ∧ (0 ≤ r ∧ r ≤ 1) ∧ (r = zz_fy p0 4 1)
theorem zc_get_12_2x_1 {g : mm_G} {l : Launch} (p0 : Int) (S0 : zz_S) (n : Nat) (hn : zz_end ≤ n) (G_S0 : zz_G S0) (hp0 : (-9223372036854775808) ≤ p0 ∧ p0 ≤ 9223372036854775807) : mm_Met g l zy_get_12_2 zr_get_12_2x_1 [zl p0, zi 1] (zz_M S0 n) n (zz_QI n (zp_get_12_2x_1 p0 S0)) := by
  refine zz_enter (by decide) (Nat.le_of_ble_eq_true rfl) (zz_less (ls1 := [some (zl p0), none, some (zi 1)]) ⟨rfl, ⟨rfl, trivial⟩⟩ ?_)
  refine zz_iload_n (x := 1) rfl zd_12_2_0 ?_
  refine zz_if_lt (by omega) zd_12_2_1 (fun c1 => ?_) (fun c1 => ?_)
  · exfalso; omega
  · refine zz_iload_n (x := 1) rfl zd_12_2_4 ?_
    refine zz_bipush (by decide) zd_12_2_5 ?_
    refine zz_icmp_lt (by omega) (by omega) zd_12_2_7 (fun c2 => ?_) (fun c2 => ?_)
    · refine zz_lload_n (x := p0) rfl zd_12_2_12 ?_
      refine zz_gets (q0 := 1) zd_12_2_13 rfl (by decide) zs_Words_9 ?_
      refine zz_iload_n (x := 1) rfl zd_12_2_16 ?_
      refine zz_tiald 4 zd_12_2_17 rfl (by decide) rfl (by decide) (by decide) rfl ?_
      refine zz_lushr zd_12_2_18 (fun v3 hv3 ev3 => ?_)
      refine zz_l2i (by omega) zd_12_2_19 (fun v4 hv4 av4 ev4 => ?_)
      refine zz_gets (q0 := 2) zd_12_2_20 rfl (by decide) zs_Words_13 ?_
      refine zz_iload_n (x := 1) rfl zd_12_2_23 ?_
      refine zz_tiald 1 zd_12_2_24 rfl (by decide) rfl (by decide) (by decide) rfl ?_
      refine zz_iand (by omega) (by omega) zd_12_2_25 (fun v5 hv5 av5 bv5 ev5 => ?_)
      exact zz_iret zd_12_2_26 rfl (Nat.zero_le _) (Nat.zero_le _) ⟨_, _, rfl, rfl, by omega, by subst_vars; rfl⟩
    · exfalso; omega
-- TensorForge$Words get (JI)I
abbrev zr_get_12_2x_2 : Room := { frames := 0, cells := 0, slots := 0, locals := 0 }
def zp_get_12_2x_2 (p0 : Int) (S0 : zz_S) : Int → zz_S → Prop := fun r S => S0 = S ∧ (0 ≤ r ∧ r ≤ 1) ∧ (r = zz_fy p0 5 1)
theorem zc_get_12_2x_2 {g : mm_G} {l : Launch} (p0 : Int) (S0 : zz_S) (n : Nat) (hn : zz_end ≤ n) (G_S0 : zz_G S0) (hp0 : (-9223372036854775808) ≤ p0 ∧ p0 ≤ 9223372036854775807) : mm_Met g l zy_get_12_2 zr_get_12_2x_2 [zl p0, zi 2] (zz_M S0 n) n (zz_QI n (zp_get_12_2x_2 p0 S0)) := by
  refine zz_enter (by decide) (Nat.le_of_ble_eq_true rfl) (zz_less (ls1 := [some (zl p0), none, some (zi 2)]) ⟨rfl, ⟨rfl, trivial⟩⟩ ?_)
  refine zz_iload_n (x := 2) rfl zd_12_2_0 ?_
  refine zz_if_lt (by omega) zd_12_2_1 (fun c1 => ?_) (fun c1 => ?_)
  · exfalso; omega
  · refine zz_iload_n (x := 2) rfl zd_12_2_4 ?_
    refine zz_bipush (by decide) zd_12_2_5 ?_
    refine zz_icmp_lt (by omega) (by omega) zd_12_2_7 (fun c2 => ?_) (fun c2 => ?_)
    · refine zz_lload_n (x := p0) rfl zd_12_2_12 ?_
      refine zz_gets (q0 := 1) zd_12_2_13 rfl (by decide) zs_Words_9 ?_
      refine zz_iload_n (x := 2) rfl zd_12_2_16 ?_
      refine zz_tiald 5 zd_12_2_17 rfl (by decide) rfl (by decide) (by decide) rfl ?_
      refine zz_lushr zd_12_2_18 (fun v3 hv3 ev3 => ?_)
      refine zz_l2i (by omega) zd_12_2_19 (fun v4 hv4 av4 ev4 => ?_)
      refine zz_gets (q0 := 2) zd_12_2_20 rfl (by decide) zs_Words_13 ?_
      refine zz_iload_n (x := 2) rfl zd_12_2_23 ?_
      refine zz_tiald 1 zd_12_2_24 rfl (by decide) rfl (by decide) (by decide) rfl ?_
      refine zz_iand (by omega) (by omega) zd_12_2_25 (fun v5 hv5 av5 bv5 ev5 => ?_)
      exact zz_iret zd_12_2_26 rfl (Nat.zero_le _) (Nat.zero_le _) ⟨_, _, rfl, rfl, by omega, by subst_vars; rfl⟩
    · exfalso; omega
-- TensorForge$Words get (JI)I
abbrev zr_get_12_2x_3 : Room := { frames := 0, cells := 0, slots := 0, locals := 0 }
def zp_get_12_2x_3 (p0 : Int) (S0 : zz_S) : Int → zz_S → Prop := fun r S => S0 = S ∧ (0 ≤ r ∧ r ≤ 1) ∧ (r = zz_fy p0 6 1)
theorem zc_get_12_2x_3 {g : mm_G} {l : Launch} (p0 : Int) (S0 : zz_S) (n : Nat) (hn : zz_end ≤ n) (G_S0 : zz_G S0) (hp0 : (-9223372036854775808) ≤ p0 ∧ p0 ≤ 9223372036854775807) : mm_Met g l zy_get_12_2 zr_get_12_2x_3 [zl p0, zi 3] (zz_M S0 n) n (zz_QI n (zp_get_12_2x_3 p0 S0)) := by
  refine zz_enter (by decide) (Nat.le_of_ble_eq_true rfl) (zz_less (ls1 := [some (zl p0), none, some (zi 3)]) ⟨rfl, ⟨rfl, trivial⟩⟩ ?_)
  refine zz_iload_n (x := 3) rfl zd_12_2_0 ?_
  refine zz_if_lt (by omega) zd_12_2_1 (fun c1 => ?_) (fun c1 => ?_)
  · exfalso; omega
  · refine zz_iload_n (x := 3) rfl zd_12_2_4 ?_
    refine zz_bipush (by decide) zd_12_2_5 ?_
    refine zz_icmp_lt (by omega) (by omega) zd_12_2_7 (fun c2 => ?_) (fun c2 => ?_)
    · refine zz_lload_n (x := p0) rfl zd_12_2_12 ?_
      refine zz_gets (q0 := 1) zd_12_2_13 rfl (by decide) zs_Words_9 ?_
      refine zz_iload_n (x := 3) rfl zd_12_2_16 ?_
      refine zz_tiald 6 zd_12_2_17 rfl (by decide) rfl (by decide) (by decide) rfl ?_
      refine zz_lushr zd_12_2_18 (fun v3 hv3 ev3 => ?_)
      refine zz_l2i (by omega) zd_12_2_19 (fun v4 hv4 av4 ev4 => ?_)
      refine zz_gets (q0 := 2) zd_12_2_20 rfl (by decide) zs_Words_13 ?_
      refine zz_iload_n (x := 3) rfl zd_12_2_23 ?_
      refine zz_tiald 1 zd_12_2_24 rfl (by decide) rfl (by decide) (by decide) rfl ?_
      refine zz_iand (by omega) (by omega) zd_12_2_25 (fun v5 hv5 av5 bv5 ev5 => ?_)
      exact zz_iret zd_12_2_26 rfl (Nat.zero_le _) (Nat.zero_le _) ⟨_, _, rfl, rfl, by omega, by subst_vars; rfl⟩
    · exfalso; omega
-- TensorForge$Words get (JI)I
abbrev zr_get_12_2x_4 : Room := { frames := 0, cells := 0, slots := 0, locals := 0 }
def zp_get_12_2x_4 (p0 : Int) (S0 : zz_S) : Int → zz_S → Prop := fun r S => S0 = S ∧ (0 ≤ r ∧ r ≤ 1) ∧ (r = zz_fy p0 7 1)
theorem zc_get_12_2x_4 {g : mm_G} {l : Launch} (p0 : Int) (S0 : zz_S) (n : Nat) (hn : zz_end ≤ n) (G_S0 : zz_G S0) (hp0 : (-9223372036854775808) ≤ p0 ∧ p0 ≤ 9223372036854775807) : mm_Met g l zy_get_12_2 zr_get_12_2x_4 [zl p0, zi 4] (zz_M S0 n) n (zz_QI n (zp_get_12_2x_4 p0 S0)) := by
  refine zz_enter (by decide) (Nat.le_of_ble_eq_true rfl) (zz_less (ls1 := [some (zl p0), none, some (zi 4)]) ⟨rfl, ⟨rfl, trivial⟩⟩ ?_)
  refine zz_iload_n (x := 4) rfl zd_12_2_0 ?_
  refine zz_if_lt (by omega) zd_12_2_1 (fun c1 => ?_) (fun c1 => ?_)
  · exfalso; omega
  · refine zz_iload_n (x := 4) rfl zd_12_2_4 ?_
    refine zz_bipush (by decide) zd_12_2_5 ?_
    refine zz_icmp_lt (by omega) (by omega) zd_12_2_7 (fun c2 => ?_) (fun c2 => ?_)
    · refine zz_lload_n (x := p0) rfl zd_12_2_12 ?_
      refine zz_gets (q0 := 1) zd_12_2_13 rfl (by decide) zs_Words_9 ?_
      refine zz_iload_n (x := 4) rfl zd_12_2_16 ?_
      refine zz_tiald 7 zd_12_2_17 rfl (by decide) rfl (by decide) (by decide) rfl ?_
      refine zz_lushr zd_12_2_18 (fun v3 hv3 ev3 => ?_)
      refine zz_l2i (by omega) zd_12_2_19 (fun v4 hv4 av4 ev4 => ?_)
      refine zz_gets (q0 := 2) zd_12_2_20 rfl (by decide) zs_Words_13 ?_
      refine zz_iload_n (x := 4) rfl zd_12_2_23 ?_
      refine zz_tiald 1 zd_12_2_24 rfl (by decide) rfl (by decide) (by decide) rfl ?_
      refine zz_iand (by omega) (by omega) zd_12_2_25 (fun v5 hv5 av5 bv5 ev5 => ?_)
      exact zz_iret zd_12_2_26 rfl (Nat.zero_le _) (Nat.zero_le _) ⟨_, _, rfl, rfl, by omega, by subst_vars; rfl⟩
    · exfalso; omega
-- TensorForge$Words get (JI)I
abbrev zr_get_12_2x_5 : Room := { frames := 0, cells := 0, slots := 0, locals := 0 }
def zp_get_12_2x_5 (p0 : Int) (S0 : zz_S) : Int → zz_S → Prop := fun r S => S0 = S ∧ (0 ≤ r ∧ r ≤ 4095) ∧ (r = zz_fy p0 8 4095)
theorem zc_get_12_2x_5 {g : mm_G} {l : Launch} (p0 : Int) (S0 : zz_S) (n : Nat) (hn : zz_end ≤ n) (G_S0 : zz_G S0) (hp0 : (-9223372036854775808) ≤ p0 ∧ p0 ≤ 9223372036854775807) : mm_Met g l zy_get_12_2 zr_get_12_2x_5 [zl p0, zi 5] (zz_M S0 n) n (zz_QI n (zp_get_12_2x_5 p0 S0)) := by
  refine zz_enter (by decide) (Nat.le_of_ble_eq_true rfl) (zz_less (ls1 := [some (zl p0), none, some (zi 5)]) ⟨rfl, ⟨rfl, trivial⟩⟩ ?_)
  refine zz_iload_n (x := 5) rfl zd_12_2_0 ?_
  refine zz_if_lt (by omega) zd_12_2_1 (fun c1 => ?_) (fun c1 => ?_)
  · exfalso; omega
  · refine zz_iload_n (x := 5) rfl zd_12_2_4 ?_
    refine zz_bipush (by decide) zd_12_2_5 ?_
    refine zz_icmp_lt (by omega) (by omega) zd_12_2_7 (fun c2 => ?_) (fun c2 => ?_)
    · refine zz_lload_n (x := p0) rfl zd_12_2_12 ?_
      refine zz_gets (q0 := 1) zd_12_2_13 rfl (by decide) zs_Words_9 ?_
      refine zz_iload_n (x := 5) rfl zd_12_2_16 ?_
      refine zz_tiald 8 zd_12_2_17 rfl (by decide) rfl (by decide) (by decide) rfl ?_
      refine zz_lushr zd_12_2_18 (fun v3 hv3 ev3 => ?_)
      refine zz_l2i (by omega) zd_12_2_19 (fun v4 hv4 av4 ev4 => ?_)
      refine zz_gets (q0 := 2) zd_12_2_20 rfl (by decide) zs_Words_13 ?_
      refine zz_iload_n (x := 5) rfl zd_12_2_23 ?_
      refine zz_tiald 4095 zd_12_2_24 rfl (by decide) rfl (by decide) (by decide) rfl ?_
      refine zz_iand (by omega) (by omega) zd_12_2_25 (fun v5 hv5 av5 bv5 ev5 => ?_)
      exact zz_iret zd_12_2_26 rfl (Nat.zero_le _) (Nat.zero_le _) ⟨_, _, rfl, rfl, by omega, by subst_vars; rfl⟩
    · exfalso; omega
-- TensorForge$Words get (JI)I
abbrev zr_get_12_2x_6 : Room := { frames := 0, cells := 0, slots := 0, locals := 0 }
def zp_get_12_2x_6 (p0 : Int) (S0 : zz_S) : Int → zz_S → Prop := fun r S => S0 = S ∧ (0 ≤ r ∧ r ≤ 63) ∧ (r = zz_fy p0 20 63)
theorem zc_get_12_2x_6 {g : mm_G} {l : Launch} (p0 : Int) (S0 : zz_S) (n : Nat) (hn : zz_end ≤ n) (G_S0 : zz_G S0) (hp0 : (-9223372036854775808) ≤ p0 ∧ p0 ≤ 9223372036854775807) : mm_Met g l zy_get_12_2 zr_get_12_2x_6 [zl p0, zi 6] (zz_M S0 n) n (zz_QI n (zp_get_12_2x_6 p0 S0)) := by
  refine zz_enter (by decide) (Nat.le_of_ble_eq_true rfl) (zz_less (ls1 := [some (zl p0), none, some (zi 6)]) ⟨rfl, ⟨rfl, trivial⟩⟩ ?_)
  refine zz_iload_n (x := 6) rfl zd_12_2_0 ?_
  refine zz_if_lt (by omega) zd_12_2_1 (fun c1 => ?_) (fun c1 => ?_)
  · exfalso; omega
  · refine zz_iload_n (x := 6) rfl zd_12_2_4 ?_
    refine zz_bipush (by decide) zd_12_2_5 ?_
    refine zz_icmp_lt (by omega) (by omega) zd_12_2_7 (fun c2 => ?_) (fun c2 => ?_)
    · refine zz_lload_n (x := p0) rfl zd_12_2_12 ?_
      refine zz_gets (q0 := 1) zd_12_2_13 rfl (by decide) zs_Words_9 ?_
      refine zz_iload_n (x := 6) rfl zd_12_2_16 ?_
      refine zz_tiald 20 zd_12_2_17 rfl (by decide) rfl (by decide) (by decide) rfl ?_
      refine zz_lushr zd_12_2_18 (fun v3 hv3 ev3 => ?_)
      refine zz_l2i (by omega) zd_12_2_19 (fun v4 hv4 av4 ev4 => ?_)
      refine zz_gets (q0 := 2) zd_12_2_20 rfl (by decide) zs_Words_13 ?_
      refine zz_iload_n (x := 6) rfl zd_12_2_23 ?_
      refine zz_tiald 63 zd_12_2_24 rfl (by decide) rfl (by decide) (by decide) rfl ?_
      refine zz_iand (by omega) (by omega) zd_12_2_25 (fun v5 hv5 av5 bv5 ev5 => ?_)
      exact zz_iret zd_12_2_26 rfl (Nat.zero_le _) (Nat.zero_le _) ⟨_, _, rfl, rfl, by omega, by subst_vars; rfl⟩
    · exfalso; omega
-- TensorForge$Words get (JI)I
abbrev zr_get_12_2x_7 : Room := { frames := 0, cells := 0, slots := 0, locals := 0 }
def zp_get_12_2x_7 (p0 : Int) (S0 : zz_S) : Int → zz_S → Prop := fun r S => S0 = S ∧ (0 ≤ r ∧ r ≤ 31) ∧ (r = zz_fy p0 26 31)
theorem zc_get_12_2x_7 {g : mm_G} {l : Launch} (p0 : Int) (S0 : zz_S) (n : Nat) (hn : zz_end ≤ n) (G_S0 : zz_G S0) (hp0 : (-9223372036854775808) ≤ p0 ∧ p0 ≤ 9223372036854775807) : mm_Met g l zy_get_12_2 zr_get_12_2x_7 [zl p0, zi 7] (zz_M S0 n) n (zz_QI n (zp_get_12_2x_7 p0 S0)) := by
  refine zz_enter (by decide) (Nat.le_of_ble_eq_true rfl) (zz_less (ls1 := [some (zl p0), none, some (zi 7)]) ⟨rfl, ⟨rfl, trivial⟩⟩ ?_)
  refine zz_iload_n (x := 7) rfl zd_12_2_0 ?_
  refine zz_if_lt (by omega) zd_12_2_1 (fun c1 => ?_) (fun c1 => ?_)
  · exfalso; omega
  · refine zz_iload_n (x := 7) rfl zd_12_2_4 ?_
    refine zz_bipush (by decide) zd_12_2_5 ?_
    refine zz_icmp_lt (by omega) (by omega) zd_12_2_7 (fun c2 => ?_) (fun c2 => ?_)
    · refine zz_lload_n (x := p0) rfl zd_12_2_12 ?_
      refine zz_gets (q0 := 1) zd_12_2_13 rfl (by decide) zs_Words_9 ?_
      refine zz_iload_n (x := 7) rfl zd_12_2_16 ?_
      refine zz_tiald 26 zd_12_2_17 rfl (by decide) rfl (by decide) (by decide) rfl ?_
      refine zz_lushr zd_12_2_18 (fun v3 hv3 ev3 => ?_)
      refine zz_l2i (by omega) zd_12_2_19 (fun v4 hv4 av4 ev4 => ?_)
      refine zz_gets (q0 := 2) zd_12_2_20 rfl (by decide) zs_Words_13 ?_
      refine zz_iload_n (x := 7) rfl zd_12_2_23 ?_
      refine zz_tiald 31 zd_12_2_24 rfl (by decide) rfl (by decide) (by decide) rfl ?_
      refine zz_iand (by omega) (by omega) zd_12_2_25 (fun v5 hv5 av5 bv5 ev5 => ?_)
      exact zz_iret zd_12_2_26 rfl (Nat.zero_le _) (Nat.zero_le _) ⟨_, _, rfl, rfl, by omega, by subst_vars; rfl⟩
    · exfalso; omega
-- TensorForge$Words get (JI)I
abbrev zr_get_12_2x_8 : Room := { frames := 0, cells := 0, slots := 0, locals := 0 }
def zp_get_12_2x_8 (p0 : Int) (S0 : zz_S) : Int → zz_S → Prop := fun r S => S0 = S ∧ (0 ≤ r ∧ r ≤ 511) ∧ (r = zz_fy p0 31 511)
theorem zc_get_12_2x_8 {g : mm_G} {l : Launch} (p0 : Int) (S0 : zz_S) (n : Nat) (hn : zz_end ≤ n) (G_S0 : zz_G S0) (hp0 : (-9223372036854775808) ≤ p0 ∧ p0 ≤ 9223372036854775807) : mm_Met g l zy_get_12_2 zr_get_12_2x_8 [zl p0, zi 8] (zz_M S0 n) n (zz_QI n (zp_get_12_2x_8 p0 S0)) := by
  refine zz_enter (by decide) (Nat.le_of_ble_eq_true rfl) (zz_less (ls1 := [some (zl p0), none, some (zi 8)]) ⟨rfl, ⟨rfl, trivial⟩⟩ ?_)
  refine zz_iload_n (x := 8) rfl zd_12_2_0 ?_
  refine zz_if_lt (by omega) zd_12_2_1 (fun c1 => ?_) (fun c1 => ?_)
  · exfalso; omega
  · refine zz_iload_n (x := 8) rfl zd_12_2_4 ?_
    refine zz_bipush (by decide) zd_12_2_5 ?_
    refine zz_icmp_lt (by omega) (by omega) zd_12_2_7 (fun c2 => ?_) (fun c2 => ?_)
    · refine zz_lload_n (x := p0) rfl zd_12_2_12 ?_
      refine zz_gets (q0 := 1) zd_12_2_13 rfl (by decide) zs_Words_9 ?_
      refine zz_iload_n (x := 8) rfl zd_12_2_16 ?_
      refine zz_tiald 31 zd_12_2_17 rfl (by decide) rfl (by decide) (by decide) rfl ?_
      refine zz_lushr zd_12_2_18 (fun v3 hv3 ev3 => ?_)
      refine zz_l2i (by omega) zd_12_2_19 (fun v4 hv4 av4 ev4 => ?_)
      refine zz_gets (q0 := 2) zd_12_2_20 rfl (by decide) zs_Words_13 ?_
      refine zz_iload_n (x := 8) rfl zd_12_2_23 ?_
      refine zz_tiald 511 zd_12_2_24 rfl (by decide) rfl (by decide) (by decide) rfl ?_
      refine zz_iand (by omega) (by omega) zd_12_2_25 (fun v5 hv5 av5 bv5 ev5 => ?_)
      exact zz_iret zd_12_2_26 rfl (Nat.zero_le _) (Nat.zero_le _) ⟨_, _, rfl, rfl, by omega, by subst_vars; rfl⟩
    · exfalso; omega
-- TensorForge$Words get (JI)I
abbrev zr_get_12_2x_9 : Room := { frames := 0, cells := 0, slots := 0, locals := 0 }
def zp_get_12_2x_9 (p0 : Int) (S0 : zz_S) : Int → zz_S → Prop := fun r S => S0 = S ∧ (0 ≤ r ∧ r ≤ 511) ∧ (r = zz_fy p0 40 511)
theorem zc_get_12_2x_9 {g : mm_G} {l : Launch} (p0 : Int) (S0 : zz_S) (n : Nat) (hn : zz_end ≤ n) (G_S0 : zz_G S0) (hp0 : (-9223372036854775808) ≤ p0 ∧ p0 ≤ 9223372036854775807) : mm_Met g l zy_get_12_2 zr_get_12_2x_9 [zl p0, zi 9] (zz_M S0 n) n (zz_QI n (zp_get_12_2x_9 p0 S0)) := by
  refine zz_enter (by decide) (Nat.le_of_ble_eq_true rfl) (zz_less (ls1 := [some (zl p0), none, some (zi 9)]) ⟨rfl, ⟨rfl, trivial⟩⟩ ?_)
  refine zz_iload_n (x := 9) rfl zd_12_2_0 ?_
  refine zz_if_lt (by omega) zd_12_2_1 (fun c1 => ?_) (fun c1 => ?_)
  · exfalso; omega
  · refine zz_iload_n (x := 9) rfl zd_12_2_4 ?_
    refine zz_bipush (by decide) zd_12_2_5 ?_
    refine zz_icmp_lt (by omega) (by omega) zd_12_2_7 (fun c2 => ?_) (fun c2 => ?_)
    · refine zz_lload_n (x := p0) rfl zd_12_2_12 ?_
      refine zz_gets (q0 := 1) zd_12_2_13 rfl (by decide) zs_Words_9 ?_
      refine zz_iload_n (x := 9) rfl zd_12_2_16 ?_
      refine zz_tiald 40 zd_12_2_17 rfl (by decide) rfl (by decide) (by decide) rfl ?_
      refine zz_lushr zd_12_2_18 (fun v3 hv3 ev3 => ?_)
      refine zz_l2i (by omega) zd_12_2_19 (fun v4 hv4 av4 ev4 => ?_)
      refine zz_gets (q0 := 2) zd_12_2_20 rfl (by decide) zs_Words_13 ?_
      refine zz_iload_n (x := 9) rfl zd_12_2_23 ?_
      refine zz_tiald 511 zd_12_2_24 rfl (by decide) rfl (by decide) (by decide) rfl ?_
      refine zz_iand (by omega) (by omega) zd_12_2_25 (fun v5 hv5 av5 bv5 ev5 => ?_)
      exact zz_iret zd_12_2_26 rfl (Nat.zero_le _) (Nat.zero_le _) ⟨_, _, rfl, rfl, by omega, by subst_vars; rfl⟩
    · exfalso; omega
-- TensorForge$Words get (JI)I
abbrev zr_get_12_2x_10 : Room := { frames := 0, cells := 0, slots := 0, locals := 0 }
def zp_get_12_2x_10 (p0 : Int) (S0 : zz_S) : Int → zz_S → Prop := fun r S => S0 = S ∧ (0 ≤ r ∧ r ≤ 1023) ∧ (r = zz_fy p0 49 1023)
theorem zc_get_12_2x_10 {g : mm_G} {l : Launch} (p0 : Int) (S0 : zz_S) (n : Nat) (hn : zz_end ≤ n) (G_S0 : zz_G S0) (hp0 : (-9223372036854775808) ≤ p0 ∧ p0 ≤ 9223372036854775807) : mm_Met g l zy_get_12_2 zr_get_12_2x_10 [zl p0, zi 10] (zz_M S0 n) n (zz_QI n (zp_get_12_2x_10 p0 S0)) := by
  refine zz_enter (by decide) (Nat.le_of_ble_eq_true rfl) (zz_less (ls1 := [some (zl p0), none, some (zi 10)]) ⟨rfl, ⟨rfl, trivial⟩⟩ ?_)
  refine zz_iload_n (x := 10) rfl zd_12_2_0 ?_
  refine zz_if_lt (by omega) zd_12_2_1 (fun c1 => ?_) (fun c1 => ?_)
  · exfalso; omega
  · refine zz_iload_n (x := 10) rfl zd_12_2_4 ?_
    refine zz_bipush (by decide) zd_12_2_5 ?_
    refine zz_icmp_lt (by omega) (by omega) zd_12_2_7 (fun c2 => ?_) (fun c2 => ?_)
    · refine zz_lload_n (x := p0) rfl zd_12_2_12 ?_
      refine zz_gets (q0 := 1) zd_12_2_13 rfl (by decide) zs_Words_9 ?_
      refine zz_iload_n (x := 10) rfl zd_12_2_16 ?_
      refine zz_tiald 49 zd_12_2_17 rfl (by decide) rfl (by decide) (by decide) rfl ?_
      refine zz_lushr zd_12_2_18 (fun v3 hv3 ev3 => ?_)
      refine zz_l2i (by omega) zd_12_2_19 (fun v4 hv4 av4 ev4 => ?_)
      refine zz_gets (q0 := 2) zd_12_2_20 rfl (by decide) zs_Words_13 ?_
      refine zz_iload_n (x := 10) rfl zd_12_2_23 ?_
      refine zz_tiald 1023 zd_12_2_24 rfl (by decide) rfl (by decide) (by decide) rfl ?_
      refine zz_iand (by omega) (by omega) zd_12_2_25 (fun v5 hv5 av5 bv5 ev5 => ?_)
      exact zz_iret zd_12_2_26 rfl (Nat.zero_le _) (Nat.zero_le _) ⟨_, _, rfl, rfl, by omega, by subst_vars; rfl⟩
    · exfalso; omega
-- TensorForge$Words get (JI)I
abbrev zr_get_12_2x_11 : Room := { frames := 0, cells := 0, slots := 0, locals := 0 }
def zp_get_12_2x_11 (p0 : Int) (S0 : zz_S) : Int → zz_S → Prop := fun r S => S0 = S ∧ (0 ≤ r ∧ r ≤ 31) ∧ (r = zz_fy p0 59 31)
theorem zc_get_12_2x_11 {g : mm_G} {l : Launch} (p0 : Int) (S0 : zz_S) (n : Nat) (hn : zz_end ≤ n) (G_S0 : zz_G S0) (hp0 : (-9223372036854775808) ≤ p0 ∧ p0 ≤ 9223372036854775807) : mm_Met g l zy_get_12_2 zr_get_12_2x_11 [zl p0, zi 11] (zz_M S0 n) n (zz_QI n (zp_get_12_2x_11 p0 S0)) := by
  refine zz_enter (by decide) (Nat.le_of_ble_eq_true rfl) (zz_less (ls1 := [some (zl p0), none, some (zi 11)]) ⟨rfl, ⟨rfl, trivial⟩⟩ ?_)
  refine zz_iload_n (x := 11) rfl zd_12_2_0 ?_
  refine zz_if_lt (by omega) zd_12_2_1 (fun c1 => ?_) (fun c1 => ?_)
  · exfalso; omega
  · refine zz_iload_n (x := 11) rfl zd_12_2_4 ?_
    refine zz_bipush (by decide) zd_12_2_5 ?_
    refine zz_icmp_lt (by omega) (by omega) zd_12_2_7 (fun c2 => ?_) (fun c2 => ?_)
    · refine zz_lload_n (x := p0) rfl zd_12_2_12 ?_
      refine zz_gets (q0 := 1) zd_12_2_13 rfl (by decide) zs_Words_9 ?_
      refine zz_iload_n (x := 11) rfl zd_12_2_16 ?_
      refine zz_tiald 59 zd_12_2_17 rfl (by decide) rfl (by decide) (by decide) rfl ?_
      refine zz_lushr zd_12_2_18 (fun v3 hv3 ev3 => ?_)
      refine zz_l2i (by omega) zd_12_2_19 (fun v4 hv4 av4 ev4 => ?_)
      refine zz_gets (q0 := 2) zd_12_2_20 rfl (by decide) zs_Words_13 ?_
      refine zz_iload_n (x := 11) rfl zd_12_2_23 ?_
      refine zz_tiald 31 zd_12_2_24 rfl (by decide) rfl (by decide) (by decide) rfl ?_
      refine zz_iand (by omega) (by omega) zd_12_2_25 (fun v5 hv5 av5 bv5 ev5 => ?_)
      exact zz_iret zd_12_2_26 rfl (Nat.zero_le _) (Nat.zero_le _) ⟨_, _, rfl, rfl, by omega, by subst_vars; rfl⟩
    · exfalso; omega
-- TensorForge field (JI)I
abbrev zr_field_1_9 : Room := { frames := 6, cells := 1, slots := 6, locals := 82 }
def zp_field_1_9 (p0 : Int) (p1 : Int) (S0 : zz_S) : Int → zz_S → Prop := fun r S => S0 = S ∧ ((-2147483648) ≤ r ∧ r ≤ 2147483647) ∧ (0 ≤ p1 ∧ p1 ≤ 11) ∧ (r = zz_fyk p0 p1)
def zx_field_1_9 (p0 : Int) (p1 : Int) (S0 : zz_S) : Nat → zz_S → Prop := fun i S => S0 = S ∧ (i < 4) ∧ (i = 0 ∧ (p1 < 0 ∨ 11 < p1))
theorem zc_field_1_9 {g : mm_G} {l : Launch} (p0 : Int) (p1 : Int) (S0 : zz_S) (n : Nat) (hn : zz_end ≤ n) (hfl : l.flags = flags0) (G_S0 : zz_G S0) (hp0 : (-9223372036854775808) ≤ p0 ∧ p0 ≤ 9223372036854775807) (hp1 : (-2147483648) ≤ p1 ∧ p1 ≤ 2147483647) : mm_Met g l zy_field_1_9 zr_field_1_9 [.ref 1000, zl p0, zi p1] (zz_M S0 n) n (zz_XI n (zp_field_1_9 p0 p1 S0) (zx_field_1_9 p0 p1 S0)) := by
  refine zz_enter (by decide) (Nat.le_of_ble_eq_true rfl) (zz_less (ls1 := [some (.ref 1000), some (zl p0), none, some (zi p1)]) ⟨rfl, ⟨rfl, ⟨rfl, trivial⟩⟩⟩ ?_)
  refine zz_iload_n (x := p1) rfl zd_1_9_0 ?_
  refine zz_if_lt (by omega) zd_1_9_1 (fun c1 => ?_) (fun c1 => ?_)
  · exact zz_throw (i := 0) hfl hn zt_1_9_10 zyw_field_1_9 zxl_TF_87_135_91 (Nat.le_of_ble_eq_true rfl) (Nat.le_of_ble_eq_true rfl) ⟨Nat.le_of_ble_eq_true rfl, Nat.le_of_ble_eq_true rfl⟩ (Or.inr ⟨_, _, rfl, rfl, by omega, by omega⟩)
  · refine zz_iload_n (x := p1) rfl zd_1_9_4 ?_
    refine zz_bipush (by decide) zd_1_9_5 ?_
    refine zz_icmp_lt (by omega) (by omega) zd_1_9_7 (fun c2 => ?_) (fun c2 => ?_)
    · rcases (by omega : p1 = 0 ∨ p1 = 1 ∨ p1 = 2 ∨ p1 = 3 ∨ p1 = 4 ∨ p1 = 5 ∨ p1 = 6 ∨ p1 = 7 ∨ p1 = 8 ∨ p1 = 9 ∨ p1 = 10 ∨ p1 = 11) with rfl | rfl | rfl | rfl | rfl | rfl | rfl | rfl | rfl | rfl | rfl | rfl
      · refine zz_lload_n (x := p0) rfl zd_1_9_20 ?_
        refine zz_iload_n (x := 0) rfl zd_1_9_21 ?_
        refine zz_callSI [zl p0, zi 0] zd_1_9_22 zk_TF_137 rfl rfl ⟨Nat.le_of_ble_eq_true rfl, Nat.le_of_ble_eq_true rfl⟩ ⟨rfl, rfl⟩ (Nat.zero_le _) (Nat.zero_le _) (zc_get_12_2x_0 p0 S0 n hn G_S0 (by omega)) (fun v4 S3 hP => ?_)
        obtain ⟨rfl, o5, o6⟩ := hP
        subst o6
        exact zz_iret zd_1_9_25 rfl (Nat.le_of_ble_eq_true rfl) (Nat.le_of_ble_eq_true rfl) (Or.inl ⟨_, _, rfl, rfl, by omega, by omega, rfl⟩)
      · refine zz_lload_n (x := p0) rfl zd_1_9_20 ?_
        refine zz_iload_n (x := 1) rfl zd_1_9_21 ?_
        refine zz_callSI [zl p0, zi 1] zd_1_9_22 zk_TF_137 rfl rfl ⟨Nat.le_of_ble_eq_true rfl, Nat.le_of_ble_eq_true rfl⟩ ⟨rfl, rfl⟩ (Nat.zero_le _) (Nat.zero_le _) (zc_get_12_2x_1 p0 S0 n hn G_S0 (by omega)) (fun v8 S7 hP => ?_)
        obtain ⟨rfl, o9, o10⟩ := hP
        subst o10
        exact zz_iret zd_1_9_25 rfl (Nat.le_of_ble_eq_true rfl) (Nat.le_of_ble_eq_true rfl) (Or.inl ⟨_, _, rfl, rfl, by omega, by omega, rfl⟩)
      · refine zz_lload_n (x := p0) rfl zd_1_9_20 ?_
        refine zz_iload_n (x := 2) rfl zd_1_9_21 ?_
        refine zz_callSI [zl p0, zi 2] zd_1_9_22 zk_TF_137 rfl rfl ⟨Nat.le_of_ble_eq_true rfl, Nat.le_of_ble_eq_true rfl⟩ ⟨rfl, rfl⟩ (Nat.zero_le _) (Nat.zero_le _) (zc_get_12_2x_2 p0 S0 n hn G_S0 (by omega)) (fun v12 S11 hP => ?_)
        obtain ⟨rfl, o13, o14⟩ := hP
        subst o14
        exact zz_iret zd_1_9_25 rfl (Nat.le_of_ble_eq_true rfl) (Nat.le_of_ble_eq_true rfl) (Or.inl ⟨_, _, rfl, rfl, by omega, by omega, rfl⟩)
      · refine zz_lload_n (x := p0) rfl zd_1_9_20 ?_
        refine zz_iload_n (x := 3) rfl zd_1_9_21 ?_
        refine zz_callSI [zl p0, zi 3] zd_1_9_22 zk_TF_137 rfl rfl ⟨Nat.le_of_ble_eq_true rfl, Nat.le_of_ble_eq_true rfl⟩ ⟨rfl, rfl⟩ (Nat.zero_le _) (Nat.zero_le _) (zc_get_12_2x_3 p0 S0 n hn G_S0 (by omega)) (fun v16 S15 hP => ?_)
        obtain ⟨rfl, o17, o18⟩ := hP
        subst o18
        exact zz_iret zd_1_9_25 rfl (Nat.le_of_ble_eq_true rfl) (Nat.le_of_ble_eq_true rfl) (Or.inl ⟨_, _, rfl, rfl, by omega, by omega, rfl⟩)
      · refine zz_lload_n (x := p0) rfl zd_1_9_20 ?_
        refine zz_iload_n (x := 4) rfl zd_1_9_21 ?_
        refine zz_callSI [zl p0, zi 4] zd_1_9_22 zk_TF_137 rfl rfl ⟨Nat.le_of_ble_eq_true rfl, Nat.le_of_ble_eq_true rfl⟩ ⟨rfl, rfl⟩ (Nat.zero_le _) (Nat.zero_le _) (zc_get_12_2x_4 p0 S0 n hn G_S0 (by omega)) (fun v20 S19 hP => ?_)
        obtain ⟨rfl, o21, o22⟩ := hP
        subst o22
        exact zz_iret zd_1_9_25 rfl (Nat.le_of_ble_eq_true rfl) (Nat.le_of_ble_eq_true rfl) (Or.inl ⟨_, _, rfl, rfl, by omega, by omega, rfl⟩)
      · refine zz_lload_n (x := p0) rfl zd_1_9_20 ?_
        refine zz_iload_n (x := 5) rfl zd_1_9_21 ?_
        refine zz_callSI [zl p0, zi 5] zd_1_9_22 zk_TF_137 rfl rfl ⟨Nat.le_of_ble_eq_true rfl, Nat.le_of_ble_eq_true rfl⟩ ⟨rfl, rfl⟩ (Nat.zero_le _) (Nat.zero_le _) (zc_get_12_2x_5 p0 S0 n hn G_S0 (by omega)) (fun v24 S23 hP => ?_)
        obtain ⟨rfl, o25, o26⟩ := hP
        subst o26
        exact zz_iret zd_1_9_25 rfl (Nat.le_of_ble_eq_true rfl) (Nat.le_of_ble_eq_true rfl) (Or.inl ⟨_, _, rfl, rfl, by omega, by omega, rfl⟩)
      · refine zz_lload_n (x := p0) rfl zd_1_9_20 ?_
        refine zz_iload_n (x := 6) rfl zd_1_9_21 ?_
        refine zz_callSI [zl p0, zi 6] zd_1_9_22 zk_TF_137 rfl rfl ⟨Nat.le_of_ble_eq_true rfl, Nat.le_of_ble_eq_true rfl⟩ ⟨rfl, rfl⟩ (Nat.zero_le _) (Nat.zero_le _) (zc_get_12_2x_6 p0 S0 n hn G_S0 (by omega)) (fun v28 S27 hP => ?_)
        obtain ⟨rfl, o29, o30⟩ := hP
        subst o30
        exact zz_iret zd_1_9_25 rfl (Nat.le_of_ble_eq_true rfl) (Nat.le_of_ble_eq_true rfl) (Or.inl ⟨_, _, rfl, rfl, by omega, by omega, rfl⟩)
      · refine zz_lload_n (x := p0) rfl zd_1_9_20 ?_
        refine zz_iload_n (x := 7) rfl zd_1_9_21 ?_
        refine zz_callSI [zl p0, zi 7] zd_1_9_22 zk_TF_137 rfl rfl ⟨Nat.le_of_ble_eq_true rfl, Nat.le_of_ble_eq_true rfl⟩ ⟨rfl, rfl⟩ (Nat.zero_le _) (Nat.zero_le _) (zc_get_12_2x_7 p0 S0 n hn G_S0 (by omega)) (fun v32 S31 hP => ?_)
        obtain ⟨rfl, o33, o34⟩ := hP
        subst o34
        exact zz_iret zd_1_9_25 rfl (Nat.le_of_ble_eq_true rfl) (Nat.le_of_ble_eq_true rfl) (Or.inl ⟨_, _, rfl, rfl, by omega, by omega, rfl⟩)
      · refine zz_lload_n (x := p0) rfl zd_1_9_20 ?_
        refine zz_iload_n (x := 8) rfl zd_1_9_21 ?_
        refine zz_callSI [zl p0, zi 8] zd_1_9_22 zk_TF_137 rfl rfl ⟨Nat.le_of_ble_eq_true rfl, Nat.le_of_ble_eq_true rfl⟩ ⟨rfl, rfl⟩ (Nat.zero_le _) (Nat.zero_le _) (zc_get_12_2x_8 p0 S0 n hn G_S0 (by omega)) (fun v36 S35 hP => ?_)
        obtain ⟨rfl, o37, o38⟩ := hP
        subst o38
        exact zz_iret zd_1_9_25 rfl (Nat.le_of_ble_eq_true rfl) (Nat.le_of_ble_eq_true rfl) (Or.inl ⟨_, _, rfl, rfl, by omega, by omega, rfl⟩)
      · refine zz_lload_n (x := p0) rfl zd_1_9_20 ?_
        refine zz_iload_n (x := 9) rfl zd_1_9_21 ?_
        refine zz_callSI [zl p0, zi 9] zd_1_9_22 zk_TF_137 rfl rfl ⟨Nat.le_of_ble_eq_true rfl, Nat.le_of_ble_eq_true rfl⟩ ⟨rfl, rfl⟩ (Nat.zero_le _) (Nat.zero_le _) (zc_get_12_2x_9 p0 S0 n hn G_S0 (by omega)) (fun v40 S39 hP => ?_)
        obtain ⟨rfl, o41, o42⟩ := hP
        subst o42
        exact zz_iret zd_1_9_25 rfl (Nat.le_of_ble_eq_true rfl) (Nat.le_of_ble_eq_true rfl) (Or.inl ⟨_, _, rfl, rfl, by omega, by omega, rfl⟩)
      · refine zz_lload_n (x := p0) rfl zd_1_9_20 ?_
        refine zz_iload_n (x := 10) rfl zd_1_9_21 ?_
        refine zz_callSI [zl p0, zi 10] zd_1_9_22 zk_TF_137 rfl rfl ⟨Nat.le_of_ble_eq_true rfl, Nat.le_of_ble_eq_true rfl⟩ ⟨rfl, rfl⟩ (Nat.zero_le _) (Nat.zero_le _) (zc_get_12_2x_10 p0 S0 n hn G_S0 (by omega)) (fun v44 S43 hP => ?_)
        obtain ⟨rfl, o45, o46⟩ := hP
        subst o46
        exact zz_iret zd_1_9_25 rfl (Nat.le_of_ble_eq_true rfl) (Nat.le_of_ble_eq_true rfl) (Or.inl ⟨_, _, rfl, rfl, by omega, by omega, rfl⟩)
      · refine zz_lload_n (x := p0) rfl zd_1_9_20 ?_
        refine zz_iload_n (x := 11) rfl zd_1_9_21 ?_
        refine zz_callSI [zl p0, zi 11] zd_1_9_22 zk_TF_137 rfl rfl ⟨Nat.le_of_ble_eq_true rfl, Nat.le_of_ble_eq_true rfl⟩ ⟨rfl, rfl⟩ (Nat.zero_le _) (Nat.zero_le _) (zc_get_12_2x_11 p0 S0 n hn G_S0 (by omega)) (fun v48 S47 hP => ?_)
        obtain ⟨rfl, o49, o50⟩ := hP
        subst o50
        exact zz_iret zd_1_9_25 rfl (Nat.le_of_ble_eq_true rfl) (Nat.le_of_ble_eq_true rfl) (Or.inl ⟨_, _, rfl, rfl, by omega, by omega, rfl⟩)
    · exact zz_throw (i := 0) hfl hn zt_1_9_10 zyw_field_1_9 zxl_TF_87_135_91 (Nat.le_of_ble_eq_true rfl) (Nat.le_of_ble_eq_true rfl) ⟨Nat.le_of_ble_eq_true rfl, Nat.le_of_ble_eq_true rfl⟩ (Or.inr ⟨_, _, rfl, rfl, by omega, by omega⟩)
abbrev zy_illegal_1_10 : mm_Y := (⟨"TensorForge", "illegal", "(J)Z"⟩, prog_1_method_10_code, 3, (some .boolean))
theorem zyw_illegal_1_10 : mm_Yw zy_illegal_1_10 1 := ⟨mm_tb_1 484 (by decide +kernel) rfl, mm_tb_1 1 (by decide +kernel) rfl, ⟨by decide, by decide⟩, by decide +kernel⟩
abbrev zy_forbids_6_6 : mm_Y := (⟨"TensorForge$Machine", "forbids", "(J)Z"⟩, prog_6_method_6_code, 3, (some .boolean))
theorem zyw_forbids_6_6 : mm_Yw zy_forbids_6_6 1 := ⟨mm_tb_1 488 (by decide +kernel) rfl, mm_tb_1 4 (by decide +kernel) rfl, ⟨by decide, by decide⟩, by decide +kernel⟩
abbrev zy_hasStrangeField_12_9 : mm_Y := (⟨"TensorForge$Words", "hasStrangeField", "(J)Z"⟩, prog_12_method_9_code, 4, (some .boolean))
theorem zyw_hasStrangeField_12_9 : mm_Yw zy_hasStrangeField_12_9 1 := ⟨mm_tb_1 491 (by decide +kernel) rfl, mm_tb_1 20 (by decide +kernel) rfl, ⟨by decide, by decide⟩, by decide +kernel⟩
theorem zk_Words_16 : mm_Sl "TensorForge$Words" 16 2 zy_get_12_2 := ⟨zyw_get_12_2, mm_tb_1 492 (by decide +kernel) rfl, mm_tb_1 493 (by decide +kernel) rfl⟩
abbrev zy_isKind_12_8 : mm_Y := (⟨"TensorForge$Words", "isKind", "(I)Z"⟩, prog_12_method_8_code, 1, (some .boolean))
theorem zyw_isKind_12_8 : mm_Yw zy_isKind_12_8 1 := ⟨mm_tb_1 501 (by decide +kernel) rfl, mm_tb_1 20 (by decide +kernel) rfl, ⟨by decide, by decide⟩, by decide +kernel⟩
theorem zg_1_10_0 : zq_at zy_illegal_1_10.2.1 0 42 ∧ zq_at zy_illegal_1_10.2.1 1 180 ∧ zq_at zy_illegal_1_10.2.1 2 0 ∧ zq_at zy_illegal_1_10.2.1 3 33 ∧ zq_at zy_illegal_1_10.2.1 4 31 ∧ zq_at zy_illegal_1_10.2.1 5 182 ∧ zq_at zy_illegal_1_10.2.1 6 0 ∧ zq_at zy_illegal_1_10.2.1 7 141 := by decide +kernel
theorem zd_1_10_0 : zz_D zy_illegal_1_10 0 (.aload_n 0) 1 1 := ⟨zq_42 zg_1_10_0.1, rfl⟩
theorem zd_1_10_1 : zz_D zy_illegal_1_10 1 (.getfield 33) 3 4 := ⟨zq_180 zg_1_10_0.2.1 zg_1_10_0.2.2.1 zg_1_10_0.2.2.2.1 rfl, rfl⟩
theorem zd_1_10_4 : zz_D zy_illegal_1_10 4 (.lload_n 1) 1 5 := ⟨zq_31 zg_1_10_0.2.2.2.2.1, rfl⟩
theorem zd_1_10_5 : zz_D zy_illegal_1_10 5 (.invokevirtual 141) 3 8 := ⟨zq_182 zg_1_10_0.2.2.2.2.2.1 zg_1_10_0.2.2.2.2.2.2.1 zg_1_10_0.2.2.2.2.2.2.2 rfl, rfl⟩
theorem zg_6_6_0 : zq_at zy_forbids_6_6.2.1 0 31 ∧ zq_at zy_forbids_6_6.2.1 1 184 ∧ zq_at zy_forbids_6_6.2.1 2 0 ∧ zq_at zy_forbids_6_6.2.1 3 49 := by decide +kernel
theorem zd_6_6_0 : zz_D zy_forbids_6_6 0 (.lload_n 1) 1 1 := ⟨zq_31 zg_6_6_0.1, rfl⟩
theorem zd_6_6_1 : zz_D zy_forbids_6_6 1 (.invokestatic 49) 3 4 := ⟨zq_184 zg_6_6_0.2.1 zg_6_6_0.2.2.1 zg_6_6_0.2.2.2 rfl, rfl⟩
theorem zg_12_9_0 : zq_at zy_hasStrangeField_12_9.2.1 0 30 ∧ zq_at zy_hasStrangeField_12_9.2.1 1 3 ∧ zq_at zy_hasStrangeField_12_9.2.1 2 184 ∧ zq_at zy_hasStrangeField_12_9.2.1 3 0 ∧ zq_at zy_hasStrangeField_12_9.2.1 4 16 ∧ zq_at zy_hasStrangeField_12_9.2.1 5 61 ∧ zq_at zy_hasStrangeField_12_9.2.1 6 28 ∧ zq_at zy_hasStrangeField_12_9.2.1 7 184 ∧ zq_at zy_hasStrangeField_12_9.2.1 8 0 ∧ zq_at zy_hasStrangeField_12_9.2.1 9 24 := by decide +kernel
theorem zd_12_9_0 : zz_D zy_hasStrangeField_12_9 0 (.lload_n 0) 1 1 := ⟨zq_30 zg_12_9_0.1, rfl⟩
theorem zd_12_9_1 : zz_D zy_hasStrangeField_12_9 1 (.iconst 0) 1 2 := ⟨zq_3 zg_12_9_0.2.1, rfl⟩
theorem zd_12_9_2 : zz_D zy_hasStrangeField_12_9 2 (.invokestatic 16) 3 5 := ⟨zq_184 zg_12_9_0.2.2.1 zg_12_9_0.2.2.2.1 zg_12_9_0.2.2.2.2.1 rfl, rfl⟩
theorem zd_12_9_5 : zz_D zy_hasStrangeField_12_9 5 (.istore_n 2) 1 6 := ⟨zq_61 zg_12_9_0.2.2.2.2.2.1, rfl⟩
theorem zd_12_9_6 : zz_D zy_hasStrangeField_12_9 6 (.iload_n 2) 1 7 := ⟨zq_28 zg_12_9_0.2.2.2.2.2.2.1, rfl⟩
theorem zd_12_9_7 : zz_D zy_hasStrangeField_12_9 7 (.invokestatic 24) 3 10 := ⟨zq_184 zg_12_9_0.2.2.2.2.2.2.2.1 zg_12_9_0.2.2.2.2.2.2.2.2.1 zg_12_9_0.2.2.2.2.2.2.2.2.2 rfl, rfl⟩
theorem zg_12_8_0 : zq_at zy_isKind_12_8.2.1 0 26 ∧ zq_at zy_isKind_12_8.2.1 1 4 ∧ zq_at zy_isKind_12_8.2.1 2 161 ∧ zq_at zy_isKind_12_8.2.1 3 0 ∧ zq_at zy_isKind_12_8.2.1 4 13 ∧ zq_at zy_isKind_12_8.2.1 15 3 ∧ zq_at zy_isKind_12_8.2.1 16 172 ∧ zq_at zy_isKind_12_8.2.1 5 26 ∧ zq_at zy_isKind_12_8.2.1 6 16 ∧ zq_at zy_isKind_12_8.2.1 7 9 ∧ zq_at zy_isKind_12_8.2.1 8 163 ∧ zq_at zy_isKind_12_8.2.1 9 0 ∧ zq_at zy_isKind_12_8.2.1 10 7 ∧ zq_at zy_isKind_12_8.2.1 11 4 ∧ zq_at zy_isKind_12_8.2.1 12 167 ∧ zq_at zy_isKind_12_8.2.1 13 0 ∧ zq_at zy_isKind_12_8.2.1 14 4 := by decide +kernel
theorem zd_12_8_0 : zz_D zy_isKind_12_8 0 (.iload_n 0) 1 1 := ⟨zq_26 zg_12_8_0.1, rfl⟩
theorem zd_12_8_1 : zz_D zy_isKind_12_8 1 (.iconst 1) 1 2 := ⟨zq_4 zg_12_8_0.2.1, rfl⟩
theorem zd_12_8_2 : zz_B zy_isKind_12_8 2 (Instr.if_icmp .lt) 15 5 := ⟨13, zq_161 zg_12_8_0.2.2.1 zg_12_8_0.2.2.2.1 zg_12_8_0.2.2.2.2.1 (by decide), rfl, rfl⟩
theorem zd_12_8_15 : zz_D zy_isKind_12_8 15 (.iconst 0) 1 16 := ⟨zq_3 zg_12_8_0.2.2.2.2.2.1, rfl⟩
theorem zd_12_8_16 : zz_D zy_isKind_12_8 16 (.ireturn) 1 17 := ⟨zq_172 zg_12_8_0.2.2.2.2.2.2.1, rfl⟩
theorem zd_12_8_5 : zz_D zy_isKind_12_8 5 (.iload_n 0) 1 6 := ⟨zq_26 zg_12_8_0.2.2.2.2.2.2.2.1, rfl⟩
theorem zd_12_8_6 : zz_D zy_isKind_12_8 6 (.bipush 9) 2 8 := ⟨zq_16 zg_12_8_0.2.2.2.2.2.2.2.2.1 zg_12_8_0.2.2.2.2.2.2.2.2.2.1 (by decide), rfl⟩
theorem zd_12_8_8 : zz_B zy_isKind_12_8 8 (Instr.if_icmp .gt) 15 11 := ⟨7, zq_163 zg_12_8_0.2.2.2.2.2.2.2.2.2.2.1 zg_12_8_0.2.2.2.2.2.2.2.2.2.2.2.1 zg_12_8_0.2.2.2.2.2.2.2.2.2.2.2.2.1 (by decide), rfl, rfl⟩
theorem zd_12_8_11 : zz_D zy_isKind_12_8 11 (.iconst 1) 1 12 := ⟨zq_4 zg_12_8_0.2.2.2.2.2.2.2.2.2.2.2.2.2.1, rfl⟩
theorem zd_12_8_12 : zz_B zy_isKind_12_8 12 Instr.goto 16 15 := ⟨4, zq_167 zg_12_8_0.2.2.2.2.2.2.2.2.2.2.2.2.2.2.1 zg_12_8_0.2.2.2.2.2.2.2.2.2.2.2.2.2.2.2.1 zg_12_8_0.2.2.2.2.2.2.2.2.2.2.2.2.2.2.2.2 (by decide), rfl, rfl⟩
-- TensorForge$Words isKind (I)Z
abbrev zr_isKind_12_8 : Room := { frames := 0, cells := 0, slots := 0, locals := 0 }
def zp_isKind_12_8 (p0 : Int) (S0 : zz_S) : Int → zz_S → Prop := fun r S => S0 = S ∧ (0 ≤ r ∧ r ≤ 1) ∧ ((r = 1 ∧ 1 ≤ p0 ∧ p0 ≤ 9) ∨ (r = 0 ∧ (p0 < 1 ∨ 9 < p0)))
theorem zc_isKind_12_8 {g : mm_G} {l : Launch} (p0 : Int) (S0 : zz_S) (n : Nat) (hn : zz_end ≤ n) (G_S0 : zz_G S0) (hp0 : (-2147483648) ≤ p0 ∧ p0 ≤ 2147483647) : mm_Met g l zy_isKind_12_8 zr_isKind_12_8 [zi p0] (zz_M S0 n) n (zz_QI n (zp_isKind_12_8 p0 S0)) := by
  refine zz_enter (by decide) (Nat.le_of_ble_eq_true rfl) (zz_less (ls1 := [some (zi p0)]) ⟨rfl, trivial⟩ ?_)
  refine zz_iload_n (x := p0) rfl zd_12_8_0 ?_
  refine zz_iconst zd_12_8_1 ?_
  refine zz_icmp_lt (by omega) (by omega) zd_12_8_2 (fun c1 => ?_) (fun c1 => ?_)
  · refine zz_iconst zd_12_8_15 ?_
    exact zz_zret zd_12_8_16 rfl (by omega) (Nat.zero_le _) (Nat.zero_le _) ⟨_, _, rfl, rfl, by omega, by omega⟩
  · refine zz_iload_n (x := p0) rfl zd_12_8_5 ?_
    refine zz_bipush (by decide) zd_12_8_6 ?_
    refine zz_icmp_gt (by omega) (by omega) zd_12_8_8 (fun c2 => ?_) (fun c2 => ?_)
    · refine zz_iconst zd_12_8_15 ?_
      exact zz_zret zd_12_8_16 rfl (by omega) (Nat.zero_le _) (Nat.zero_le _) ⟨_, _, rfl, rfl, by omega, by omega⟩
    · refine zz_iconst zd_12_8_11 ?_
      refine zz_goto zd_12_8_12 ?_
      exact zz_zret zd_12_8_16 rfl (by omega) (Nat.zero_le _) (Nat.zero_le _) ⟨_, _, rfl, rfl, by omega, by omega⟩
theorem zk_Words_24 : mm_Sl "TensorForge$Words" 24 1 zy_isKind_12_8 := ⟨zyw_isKind_12_8, mm_tb_1 499 (by decide +kernel) rfl, mm_tb_1 500 (by decide +kernel) rfl⟩
theorem zs_Words_28 : Cond.fieldLink "TensorForge$Words" 28 "TensorForge$Words" "NAMED" "[I" ∈ mm_tb := mm_tb_1 502 (by decide +kernel) rfl
theorem zz_sta3 {i : Int} (h : 0 ≤ i ∧ i < 10) : ∃ z : Int, (0 ≤ z ∧ z ≤ 4032) ∧ ([0, 1504, 1504, 448, 1504, 4032, 3008, 3008, 1504, 2048] : List Int32).getD i.toNat 0 = Int32.ofInt z := by
  have : i = 0 ∨ i = 1 ∨ i = 2 ∨ i = 3 ∨ i = 4 ∨ i = 5 ∨ i = 6 ∨ i = 7 ∨ i = 8 ∨ i = 9 := by omega
  rcases this with rfl | rfl | rfl | rfl | rfl | rfl | rfl | rfl | rfl | rfl
  · exact ⟨0, by decide, by decide⟩
  · exact ⟨1504, by decide, by decide⟩
  · exact ⟨1504, by decide, by decide⟩
  · exact ⟨448, by decide, by decide⟩
  · exact ⟨1504, by decide, by decide⟩
  · exact ⟨4032, by decide, by decide⟩
  · exact ⟨3008, by decide, by decide⟩
  · exact ⟨3008, by decide, by decide⟩
  · exact ⟨1504, by decide, by decide⟩
  · exact ⟨2048, by decide, by decide⟩
abbrev zy_has_12_3 : mm_Y := (⟨"TensorForge$Words", "has", "(JI)Z"⟩, prog_12_method_3_code, 3, (some .boolean))
theorem zyw_has_12_3 : mm_Yw zy_has_12_3 2 := ⟨mm_tb_1 506 (by decide +kernel) rfl, mm_tb_1 20 (by decide +kernel) rfl, ⟨by decide, by decide⟩, by decide +kernel⟩
theorem zg_12_9_10 : zq_at zy_hasStrangeField_12_9.2.1 10 154 ∧ zq_at zy_hasStrangeField_12_9.2.1 11 0 ∧ zq_at zy_hasStrangeField_12_9.2.1 12 5 ∧ zq_at zy_hasStrangeField_12_9.2.1 13 4 ∧ zq_at zy_hasStrangeField_12_9.2.1 14 172 ∧ zq_at zy_hasStrangeField_12_9.2.1 15 8 ∧ zq_at zy_hasStrangeField_12_9.2.1 16 62 ∧ zq_at zy_hasStrangeField_12_9.2.1 17 29 ∧ zq_at zy_hasStrangeField_12_9.2.1 18 16 ∧ zq_at zy_hasStrangeField_12_9.2.1 19 12 ∧ zq_at zy_hasStrangeField_12_9.2.1 20 162 ∧ zq_at zy_hasStrangeField_12_9.2.1 21 0 ∧ zq_at zy_hasStrangeField_12_9.2.1 22 31 ∧ zq_at zy_hasStrangeField_12_9.2.1 51 3 ∧ zq_at zy_hasStrangeField_12_9.2.1 52 172 ∧ zq_at zy_hasStrangeField_12_9.2.1 23 178 ∧ zq_at zy_hasStrangeField_12_9.2.1 24 0 ∧ zq_at zy_hasStrangeField_12_9.2.1 25 28 ∧ zq_at zy_hasStrangeField_12_9.2.1 26 28 ∧ zq_at zy_hasStrangeField_12_9.2.1 27 46 ∧ zq_at zy_hasStrangeField_12_9.2.1 28 29 ∧ zq_at zy_hasStrangeField_12_9.2.1 29 122 ∧ zq_at zy_hasStrangeField_12_9.2.1 30 4 ∧ zq_at zy_hasStrangeField_12_9.2.1 31 126 := by decide +kernel
theorem zd_12_9_10 : zz_B zy_hasStrangeField_12_9 10 (Instr.ifCond .ne) 15 13 := ⟨5, zq_154 zg_12_9_10.1 zg_12_9_10.2.1 zg_12_9_10.2.2.1 (by decide), rfl, rfl⟩
theorem zd_12_9_13 : zz_D zy_hasStrangeField_12_9 13 (.iconst 1) 1 14 := ⟨zq_4 zg_12_9_10.2.2.2.1, rfl⟩
theorem zd_12_9_14 : zz_D zy_hasStrangeField_12_9 14 (.ireturn) 1 15 := ⟨zq_172 zg_12_9_10.2.2.2.2.1, rfl⟩
theorem zd_12_9_15 : zz_D zy_hasStrangeField_12_9 15 (.iconst 5) 1 16 := ⟨zq_8 zg_12_9_10.2.2.2.2.2.1, rfl⟩
theorem zd_12_9_16 : zz_D zy_hasStrangeField_12_9 16 (.istore_n 3) 1 17 := ⟨zq_62 zg_12_9_10.2.2.2.2.2.2.1, rfl⟩
theorem zd_12_9_17 : zz_D zy_hasStrangeField_12_9 17 (.iload_n 3) 1 18 := ⟨zq_29 zg_12_9_10.2.2.2.2.2.2.2.1, rfl⟩
theorem zd_12_9_18 : zz_D zy_hasStrangeField_12_9 18 (.bipush 12) 2 20 := ⟨zq_16 zg_12_9_10.2.2.2.2.2.2.2.2.1 zg_12_9_10.2.2.2.2.2.2.2.2.2.1 (by decide), rfl⟩
theorem zd_12_9_20 : zz_B zy_hasStrangeField_12_9 20 (Instr.if_icmp .ge) 51 23 := ⟨31, zq_162 zg_12_9_10.2.2.2.2.2.2.2.2.2.2.1 zg_12_9_10.2.2.2.2.2.2.2.2.2.2.2.1 zg_12_9_10.2.2.2.2.2.2.2.2.2.2.2.2.1 (by decide), rfl, rfl⟩
theorem zd_12_9_51 : zz_D zy_hasStrangeField_12_9 51 (.iconst 0) 1 52 := ⟨zq_3 zg_12_9_10.2.2.2.2.2.2.2.2.2.2.2.2.2.1, rfl⟩
theorem zd_12_9_52 : zz_D zy_hasStrangeField_12_9 52 (.ireturn) 1 53 := ⟨zq_172 zg_12_9_10.2.2.2.2.2.2.2.2.2.2.2.2.2.2.1, rfl⟩
theorem zd_12_9_23 : zz_D zy_hasStrangeField_12_9 23 (.getstatic 28) 3 26 := ⟨zq_178 zg_12_9_10.2.2.2.2.2.2.2.2.2.2.2.2.2.2.2.1 zg_12_9_10.2.2.2.2.2.2.2.2.2.2.2.2.2.2.2.2.1 zg_12_9_10.2.2.2.2.2.2.2.2.2.2.2.2.2.2.2.2.2.1 rfl, rfl⟩
theorem zd_12_9_26 : zz_D zy_hasStrangeField_12_9 26 (.iload_n 2) 1 27 := ⟨zq_28 zg_12_9_10.2.2.2.2.2.2.2.2.2.2.2.2.2.2.2.2.2.2.1, rfl⟩
theorem zd_12_9_27 : zz_D zy_hasStrangeField_12_9 27 (.iaload) 1 28 := ⟨zq_46 zg_12_9_10.2.2.2.2.2.2.2.2.2.2.2.2.2.2.2.2.2.2.2.1, rfl⟩
theorem zd_12_9_28 : zz_D zy_hasStrangeField_12_9 28 (.iload_n 3) 1 29 := ⟨zq_29 zg_12_9_10.2.2.2.2.2.2.2.2.2.2.2.2.2.2.2.2.2.2.2.2.1, rfl⟩
theorem zd_12_9_29 : zz_D zy_hasStrangeField_12_9 29 (.ishr) 1 30 := ⟨zq_122 zg_12_9_10.2.2.2.2.2.2.2.2.2.2.2.2.2.2.2.2.2.2.2.2.2.1, rfl⟩
theorem zd_12_9_30 : zz_D zy_hasStrangeField_12_9 30 (.iconst 1) 1 31 := ⟨zq_4 zg_12_9_10.2.2.2.2.2.2.2.2.2.2.2.2.2.2.2.2.2.2.2.2.2.2.1, rfl⟩
theorem zd_12_9_31 : zz_D zy_hasStrangeField_12_9 31 (.iand) 1 32 := ⟨zq_126 zg_12_9_10.2.2.2.2.2.2.2.2.2.2.2.2.2.2.2.2.2.2.2.2.2.2.2, rfl⟩
theorem zg_12_9_32 : zq_at zy_hasStrangeField_12_9.2.1 32 154 ∧ zq_at zy_hasStrangeField_12_9.2.1 33 0 ∧ zq_at zy_hasStrangeField_12_9.2.1 34 13 ∧ zq_at zy_hasStrangeField_12_9.2.1 45 132 ∧ zq_at zy_hasStrangeField_12_9.2.1 46 3 ∧ zq_at zy_hasStrangeField_12_9.2.1 47 1 ∧ zq_at zy_hasStrangeField_12_9.2.1 48 167 ∧ zq_at zy_hasStrangeField_12_9.2.1 49 255 ∧ zq_at zy_hasStrangeField_12_9.2.1 50 225 ∧ zq_at zy_hasStrangeField_12_9.2.1 35 30 ∧ zq_at zy_hasStrangeField_12_9.2.1 36 29 ∧ zq_at zy_hasStrangeField_12_9.2.1 37 184 ∧ zq_at zy_hasStrangeField_12_9.2.1 38 0 ∧ zq_at zy_hasStrangeField_12_9.2.1 39 31 := by decide +kernel
theorem zd_12_9_32 : zz_B zy_hasStrangeField_12_9 32 (Instr.ifCond .ne) 45 35 := ⟨13, zq_154 zg_12_9_32.1 zg_12_9_32.2.1 zg_12_9_32.2.2.1 (by decide), rfl, rfl⟩
theorem zd_12_9_45 : zz_D zy_hasStrangeField_12_9 45 (.iinc 3 1) 3 48 := ⟨zq_132 zg_12_9_32.2.2.2.1 zg_12_9_32.2.2.2.2.1 zg_12_9_32.2.2.2.2.2.1 (by decide), rfl⟩
theorem zd_12_9_48 : zz_B zy_hasStrangeField_12_9 48 Instr.goto 17 51 := ⟨(-31), zq_167 zg_12_9_32.2.2.2.2.2.2.1 zg_12_9_32.2.2.2.2.2.2.2.1 zg_12_9_32.2.2.2.2.2.2.2.2.1 (by decide), rfl, rfl⟩
theorem zd_12_9_35 : zz_D zy_hasStrangeField_12_9 35 (.lload_n 0) 1 36 := ⟨zq_30 zg_12_9_32.2.2.2.2.2.2.2.2.2.1, rfl⟩
theorem zd_12_9_36 : zz_D zy_hasStrangeField_12_9 36 (.iload_n 3) 1 37 := ⟨zq_29 zg_12_9_32.2.2.2.2.2.2.2.2.2.2.1, rfl⟩
theorem zd_12_9_37 : zz_D zy_hasStrangeField_12_9 37 (.invokestatic 31) 3 40 := ⟨zq_184 zg_12_9_32.2.2.2.2.2.2.2.2.2.2.2.1 zg_12_9_32.2.2.2.2.2.2.2.2.2.2.2.2.1 zg_12_9_32.2.2.2.2.2.2.2.2.2.2.2.2.2 rfl, rfl⟩
theorem zg_12_3_0 : zq_at zy_has_12_3.2.1 0 30 ∧ zq_at zy_has_12_3.2.1 1 28 ∧ zq_at zy_has_12_3.2.1 2 184 ∧ zq_at zy_has_12_3.2.1 3 0 ∧ zq_at zy_has_12_3.2.1 4 16 ∧ zq_at zy_has_12_3.2.1 5 153 ∧ zq_at zy_has_12_3.2.1 6 0 ∧ zq_at zy_has_12_3.2.1 7 7 ∧ zq_at zy_has_12_3.2.1 12 3 ∧ zq_at zy_has_12_3.2.1 13 172 ∧ zq_at zy_has_12_3.2.1 8 4 ∧ zq_at zy_has_12_3.2.1 9 167 ∧ zq_at zy_has_12_3.2.1 10 0 ∧ zq_at zy_has_12_3.2.1 11 4 := by decide +kernel
theorem zd_12_3_0 : zz_D zy_has_12_3 0 (.lload_n 0) 1 1 := ⟨zq_30 zg_12_3_0.1, rfl⟩
theorem zd_12_3_1 : zz_D zy_has_12_3 1 (.iload_n 2) 1 2 := ⟨zq_28 zg_12_3_0.2.1, rfl⟩
theorem zd_12_3_2 : zz_D zy_has_12_3 2 (.invokestatic 16) 3 5 := ⟨zq_184 zg_12_3_0.2.2.1 zg_12_3_0.2.2.2.1 zg_12_3_0.2.2.2.2.1 rfl, rfl⟩
theorem zd_12_3_5 : zz_B zy_has_12_3 5 (Instr.ifCond .eq) 12 8 := ⟨7, zq_153 zg_12_3_0.2.2.2.2.2.1 zg_12_3_0.2.2.2.2.2.2.1 zg_12_3_0.2.2.2.2.2.2.2.1 (by decide), rfl, rfl⟩
theorem zd_12_3_12 : zz_D zy_has_12_3 12 (.iconst 0) 1 13 := ⟨zq_3 zg_12_3_0.2.2.2.2.2.2.2.2.1, rfl⟩
theorem zd_12_3_13 : zz_D zy_has_12_3 13 (.ireturn) 1 14 := ⟨zq_172 zg_12_3_0.2.2.2.2.2.2.2.2.2.1, rfl⟩
theorem zd_12_3_8 : zz_D zy_has_12_3 8 (.iconst 1) 1 9 := ⟨zq_4 zg_12_3_0.2.2.2.2.2.2.2.2.2.2.1, rfl⟩
theorem zd_12_3_9 : zz_B zy_has_12_3 9 Instr.goto 13 12 := ⟨4, zq_167 zg_12_3_0.2.2.2.2.2.2.2.2.2.2.2.1 zg_12_3_0.2.2.2.2.2.2.2.2.2.2.2.2.1 zg_12_3_0.2.2.2.2.2.2.2.2.2.2.2.2.2 (by decide), rfl, rfl⟩
-- TensorForge$Words has (JI)Z
abbrev zr_has_12_3x_5 : Room := { frames := 1, cells := 0, slots := 0, locals := 14 }
def zp_has_12_3x_5 (p0 : Int) (S0 : zz_S) : Int → zz_S → Prop := fun r S => S0 = S ∧ (0 ≤ r ∧ r ≤ 1) ∧ ((r = 1 ∧ zz_fy p0 8 4095 ≠ 0) ∨ (r = 0 ∧ zz_fy p0 8 4095 = 0))
theorem zc_has_12_3x_5 {g : mm_G} {l : Launch} (p0 : Int) (S0 : zz_S) (n : Nat) (hn : zz_end ≤ n) (G_S0 : zz_G S0) (hp0 : (-9223372036854775808) ≤ p0 ∧ p0 ≤ 9223372036854775807) : mm_Met g l zy_has_12_3 zr_has_12_3x_5 [zl p0, zi 5] (zz_M S0 n) n (zz_QI n (zp_has_12_3x_5 p0 S0)) := by
  refine zz_enter (by decide) (Nat.le_of_ble_eq_true rfl) (zz_less (ls1 := [some (zl p0), none, some (zi 5)]) ⟨rfl, ⟨rfl, trivial⟩⟩ ?_)
  refine zz_lload_n (x := p0) rfl zd_12_3_0 ?_
  refine zz_iload_n (x := 5) rfl zd_12_3_1 ?_
  refine zz_callSI [zl p0, zi 5] zd_12_3_2 zk_Words_16 rfl rfl ⟨Nat.le_of_ble_eq_true rfl, Nat.le_of_ble_eq_true rfl⟩ ⟨rfl, rfl⟩ (Nat.zero_le _) (Nat.zero_le _) (zc_get_12_2x_5 p0 S0 n hn G_S0 (by omega)) (fun v2 S1 hP => ?_)
  obtain ⟨rfl, o3, o4⟩ := hP
  subst o4
  refine zz_if_eq (by omega) zd_12_3_5 (fun c5 => ?_) (fun c5 => ?_)
  · refine zz_iconst zd_12_3_12 ?_
    exact zz_zret zd_12_3_13 rfl (by omega) (Nat.zero_le _) (Nat.zero_le _) ⟨_, _, rfl, rfl, by omega, by omega⟩
  · refine zz_iconst zd_12_3_8 ?_
    refine zz_goto zd_12_3_9 ?_
    exact zz_zret zd_12_3_13 rfl (by omega) (Nat.zero_le _) (Nat.zero_le _) ⟨_, _, rfl, rfl, by omega, by omega⟩
theorem zk_Words_31 : mm_Sl "TensorForge$Words" 31 2 zy_has_12_3 := ⟨zyw_has_12_3, mm_tb_1 504 (by decide +kernel) rfl, mm_tb_1 505 (by decide +kernel) rfl⟩
theorem zg_12_9_40 : zq_at zy_hasStrangeField_12_9.2.1 40 153 ∧ zq_at zy_hasStrangeField_12_9.2.1 41 0 ∧ zq_at zy_hasStrangeField_12_9.2.1 42 5 ∧ zq_at zy_hasStrangeField_12_9.2.1 43 4 ∧ zq_at zy_hasStrangeField_12_9.2.1 44 172 := by decide +kernel
theorem zd_12_9_40 : zz_B zy_hasStrangeField_12_9 40 (Instr.ifCond .eq) 45 43 := ⟨5, zq_153 zg_12_9_40.1 zg_12_9_40.2.1 zg_12_9_40.2.2.1 (by decide), rfl, rfl⟩
theorem zd_12_9_43 : zz_D zy_hasStrangeField_12_9 43 (.iconst 1) 1 44 := ⟨zq_4 zg_12_9_40.2.2.2.1, rfl⟩
theorem zd_12_9_44 : zz_D zy_hasStrangeField_12_9 44 (.ireturn) 1 45 := ⟨zq_172 zg_12_9_40.2.2.2.2, rfl⟩
-- TensorForge$Words has (JI)Z
abbrev zr_has_12_3x_6 : Room := { frames := 1, cells := 0, slots := 0, locals := 14 }
def zp_has_12_3x_6 (p0 : Int) (S0 : zz_S) : Int → zz_S → Prop := fun r S => S0 = S ∧ (0 ≤ r ∧ r ≤ 1) ∧ ((r = 1 ∧ zz_fy p0 20 63 ≠ 0) ∨ (r = 0 ∧ zz_fy p0 20 63 = 0))
theorem zc_has_12_3x_6 {g : mm_G} {l : Launch} (p0 : Int) (S0 : zz_S) (n : Nat) (hn : zz_end ≤ n) (G_S0 : zz_G S0) (hp0 : (-9223372036854775808) ≤ p0 ∧ p0 ≤ 9223372036854775807) : mm_Met g l zy_has_12_3 zr_has_12_3x_6 [zl p0, zi 6] (zz_M S0 n) n (zz_QI n (zp_has_12_3x_6 p0 S0)) := by
  refine zz_enter (by decide) (Nat.le_of_ble_eq_true rfl) (zz_less (ls1 := [some (zl p0), none, some (zi 6)]) ⟨rfl, ⟨rfl, trivial⟩⟩ ?_)
  refine zz_lload_n (x := p0) rfl zd_12_3_0 ?_
  refine zz_iload_n (x := 6) rfl zd_12_3_1 ?_
  refine zz_callSI [zl p0, zi 6] zd_12_3_2 zk_Words_16 rfl rfl ⟨Nat.le_of_ble_eq_true rfl, Nat.le_of_ble_eq_true rfl⟩ ⟨rfl, rfl⟩ (Nat.zero_le _) (Nat.zero_le _) (zc_get_12_2x_6 p0 S0 n hn G_S0 (by omega)) (fun v2 S1 hP => ?_)
  obtain ⟨rfl, o3, o4⟩ := hP
  subst o4
  refine zz_if_eq (by omega) zd_12_3_5 (fun c5 => ?_) (fun c5 => ?_)
  · refine zz_iconst zd_12_3_12 ?_
    exact zz_zret zd_12_3_13 rfl (by omega) (Nat.zero_le _) (Nat.zero_le _) ⟨_, _, rfl, rfl, by omega, by omega⟩
  · refine zz_iconst zd_12_3_8 ?_
    refine zz_goto zd_12_3_9 ?_
    exact zz_zret zd_12_3_13 rfl (by omega) (Nat.zero_le _) (Nat.zero_le _) ⟨_, _, rfl, rfl, by omega, by omega⟩
-- TensorForge$Words has (JI)Z
abbrev zr_has_12_3x_7 : Room := { frames := 1, cells := 0, slots := 0, locals := 14 }
def zp_has_12_3x_7 (p0 : Int) (S0 : zz_S) : Int → zz_S → Prop := fun r S => S0 = S ∧ (0 ≤ r ∧ r ≤ 1) ∧ ((r = 1 ∧ zz_fy p0 26 31 ≠ 0) ∨ (r = 0 ∧ zz_fy p0 26 31 = 0))
theorem zc_has_12_3x_7 {g : mm_G} {l : Launch} (p0 : Int) (S0 : zz_S) (n : Nat) (hn : zz_end ≤ n) (G_S0 : zz_G S0) (hp0 : (-9223372036854775808) ≤ p0 ∧ p0 ≤ 9223372036854775807) : mm_Met g l zy_has_12_3 zr_has_12_3x_7 [zl p0, zi 7] (zz_M S0 n) n (zz_QI n (zp_has_12_3x_7 p0 S0)) := by
  refine zz_enter (by decide) (Nat.le_of_ble_eq_true rfl) (zz_less (ls1 := [some (zl p0), none, some (zi 7)]) ⟨rfl, ⟨rfl, trivial⟩⟩ ?_)
  refine zz_lload_n (x := p0) rfl zd_12_3_0 ?_
  refine zz_iload_n (x := 7) rfl zd_12_3_1 ?_
  refine zz_callSI [zl p0, zi 7] zd_12_3_2 zk_Words_16 rfl rfl ⟨Nat.le_of_ble_eq_true rfl, Nat.le_of_ble_eq_true rfl⟩ ⟨rfl, rfl⟩ (Nat.zero_le _) (Nat.zero_le _) (zc_get_12_2x_7 p0 S0 n hn G_S0 (by omega)) (fun v2 S1 hP => ?_)
  obtain ⟨rfl, o3, o4⟩ := hP
  subst o4
  refine zz_if_eq (by omega) zd_12_3_5 (fun c5 => ?_) (fun c5 => ?_)
  · refine zz_iconst zd_12_3_12 ?_
    exact zz_zret zd_12_3_13 rfl (by omega) (Nat.zero_le _) (Nat.zero_le _) ⟨_, _, rfl, rfl, by omega, by omega⟩
  · refine zz_iconst zd_12_3_8 ?_
    refine zz_goto zd_12_3_9 ?_
    exact zz_zret zd_12_3_13 rfl (by omega) (Nat.zero_le _) (Nat.zero_le _) ⟨_, _, rfl, rfl, by omega, by omega⟩
-- TensorForge$Words has (JI)Z
abbrev zr_has_12_3x_8 : Room := { frames := 1, cells := 0, slots := 0, locals := 14 }
def zp_has_12_3x_8 (p0 : Int) (S0 : zz_S) : Int → zz_S → Prop := fun r S => S0 = S ∧ (0 ≤ r ∧ r ≤ 1) ∧ ((r = 1 ∧ zz_fy p0 31 511 ≠ 0) ∨ (r = 0 ∧ zz_fy p0 31 511 = 0))
theorem zc_has_12_3x_8 {g : mm_G} {l : Launch} (p0 : Int) (S0 : zz_S) (n : Nat) (hn : zz_end ≤ n) (G_S0 : zz_G S0) (hp0 : (-9223372036854775808) ≤ p0 ∧ p0 ≤ 9223372036854775807) : mm_Met g l zy_has_12_3 zr_has_12_3x_8 [zl p0, zi 8] (zz_M S0 n) n (zz_QI n (zp_has_12_3x_8 p0 S0)) := by
  refine zz_enter (by decide) (Nat.le_of_ble_eq_true rfl) (zz_less (ls1 := [some (zl p0), none, some (zi 8)]) ⟨rfl, ⟨rfl, trivial⟩⟩ ?_)
  refine zz_lload_n (x := p0) rfl zd_12_3_0 ?_
  refine zz_iload_n (x := 8) rfl zd_12_3_1 ?_
  refine zz_callSI [zl p0, zi 8] zd_12_3_2 zk_Words_16 rfl rfl ⟨Nat.le_of_ble_eq_true rfl, Nat.le_of_ble_eq_true rfl⟩ ⟨rfl, rfl⟩ (Nat.zero_le _) (Nat.zero_le _) (zc_get_12_2x_8 p0 S0 n hn G_S0 (by omega)) (fun v2 S1 hP => ?_)
  obtain ⟨rfl, o3, o4⟩ := hP
  subst o4
  refine zz_if_eq (by omega) zd_12_3_5 (fun c5 => ?_) (fun c5 => ?_)
  · refine zz_iconst zd_12_3_12 ?_
    exact zz_zret zd_12_3_13 rfl (by omega) (Nat.zero_le _) (Nat.zero_le _) ⟨_, _, rfl, rfl, by omega, by omega⟩
  · refine zz_iconst zd_12_3_8 ?_
    refine zz_goto zd_12_3_9 ?_
    exact zz_zret zd_12_3_13 rfl (by omega) (Nat.zero_le _) (Nat.zero_le _) ⟨_, _, rfl, rfl, by omega, by omega⟩
-- TensorForge$Words has (JI)Z
abbrev zr_has_12_3x_9 : Room := { frames := 1, cells := 0, slots := 0, locals := 14 }
def zp_has_12_3x_9 (p0 : Int) (S0 : zz_S) : Int → zz_S → Prop := fun r S => S0 = S ∧ (0 ≤ r ∧ r ≤ 1) ∧ ((r = 1 ∧ zz_fy p0 40 511 ≠ 0) ∨ (r = 0 ∧ zz_fy p0 40 511 = 0))
theorem zc_has_12_3x_9 {g : mm_G} {l : Launch} (p0 : Int) (S0 : zz_S) (n : Nat) (hn : zz_end ≤ n) (G_S0 : zz_G S0) (hp0 : (-9223372036854775808) ≤ p0 ∧ p0 ≤ 9223372036854775807) : mm_Met g l zy_has_12_3 zr_has_12_3x_9 [zl p0, zi 9] (zz_M S0 n) n (zz_QI n (zp_has_12_3x_9 p0 S0)) := by
  refine zz_enter (by decide) (Nat.le_of_ble_eq_true rfl) (zz_less (ls1 := [some (zl p0), none, some (zi 9)]) ⟨rfl, ⟨rfl, trivial⟩⟩ ?_)
  refine zz_lload_n (x := p0) rfl zd_12_3_0 ?_
  refine zz_iload_n (x := 9) rfl zd_12_3_1 ?_
  refine zz_callSI [zl p0, zi 9] zd_12_3_2 zk_Words_16 rfl rfl ⟨Nat.le_of_ble_eq_true rfl, Nat.le_of_ble_eq_true rfl⟩ ⟨rfl, rfl⟩ (Nat.zero_le _) (Nat.zero_le _) (zc_get_12_2x_9 p0 S0 n hn G_S0 (by omega)) (fun v2 S1 hP => ?_)
  obtain ⟨rfl, o3, o4⟩ := hP
  subst o4
  refine zz_if_eq (by omega) zd_12_3_5 (fun c5 => ?_) (fun c5 => ?_)
  · refine zz_iconst zd_12_3_12 ?_
    exact zz_zret zd_12_3_13 rfl (by omega) (Nat.zero_le _) (Nat.zero_le _) ⟨_, _, rfl, rfl, by omega, by omega⟩
  · refine zz_iconst zd_12_3_8 ?_
    refine zz_goto zd_12_3_9 ?_
    exact zz_zret zd_12_3_13 rfl (by omega) (Nat.zero_le _) (Nat.zero_le _) ⟨_, _, rfl, rfl, by omega, by omega⟩
-- TensorForge$Words has (JI)Z
abbrev zr_has_12_3x_10 : Room := { frames := 1, cells := 0, slots := 0, locals := 14 }
def zp_has_12_3x_10 (p0 : Int) (S0 : zz_S) : Int → zz_S → Prop := fun r S => S0 = S ∧ (0 ≤ r ∧ r ≤ 1) ∧ ((r = 1 ∧ zz_fy p0 49 1023 ≠ 0) ∨ (r = 0 ∧ zz_fy p0 49 1023 = 0))
theorem zc_has_12_3x_10 {g : mm_G} {l : Launch} (p0 : Int) (S0 : zz_S) (n : Nat) (hn : zz_end ≤ n) (G_S0 : zz_G S0) (hp0 : (-9223372036854775808) ≤ p0 ∧ p0 ≤ 9223372036854775807) : mm_Met g l zy_has_12_3 zr_has_12_3x_10 [zl p0, zi 10] (zz_M S0 n) n (zz_QI n (zp_has_12_3x_10 p0 S0)) := by
  refine zz_enter (by decide) (Nat.le_of_ble_eq_true rfl) (zz_less (ls1 := [some (zl p0), none, some (zi 10)]) ⟨rfl, ⟨rfl, trivial⟩⟩ ?_)
  refine zz_lload_n (x := p0) rfl zd_12_3_0 ?_
  refine zz_iload_n (x := 10) rfl zd_12_3_1 ?_
  refine zz_callSI [zl p0, zi 10] zd_12_3_2 zk_Words_16 rfl rfl ⟨Nat.le_of_ble_eq_true rfl, Nat.le_of_ble_eq_true rfl⟩ ⟨rfl, rfl⟩ (Nat.zero_le _) (Nat.zero_le _) (zc_get_12_2x_10 p0 S0 n hn G_S0 (by omega)) (fun v2 S1 hP => ?_)
  obtain ⟨rfl, o3, o4⟩ := hP
  subst o4
  refine zz_if_eq (by omega) zd_12_3_5 (fun c5 => ?_) (fun c5 => ?_)
  · refine zz_iconst zd_12_3_12 ?_
    exact zz_zret zd_12_3_13 rfl (by omega) (Nat.zero_le _) (Nat.zero_le _) ⟨_, _, rfl, rfl, by omega, by omega⟩
  · refine zz_iconst zd_12_3_8 ?_
    refine zz_goto zd_12_3_9 ?_
    exact zz_zret zd_12_3_13 rfl (by omega) (Nat.zero_le _) (Nat.zero_le _) ⟨_, _, rfl, rfl, by omega, by omega⟩
-- TensorForge$Words has (JI)Z
abbrev zr_has_12_3x_11 : Room := { frames := 1, cells := 0, slots := 0, locals := 14 }
def zp_has_12_3x_11 (p0 : Int) (S0 : zz_S) : Int → zz_S → Prop := fun r S => S0 = S ∧ (0 ≤ r ∧ r ≤ 1) ∧ ((r = 1 ∧ zz_fy p0 59 31 ≠ 0) ∨ (r = 0 ∧ zz_fy p0 59 31 = 0))
theorem zc_has_12_3x_11 {g : mm_G} {l : Launch} (p0 : Int) (S0 : zz_S) (n : Nat) (hn : zz_end ≤ n) (G_S0 : zz_G S0) (hp0 : (-9223372036854775808) ≤ p0 ∧ p0 ≤ 9223372036854775807) : mm_Met g l zy_has_12_3 zr_has_12_3x_11 [zl p0, zi 11] (zz_M S0 n) n (zz_QI n (zp_has_12_3x_11 p0 S0)) := by
  refine zz_enter (by decide) (Nat.le_of_ble_eq_true rfl) (zz_less (ls1 := [some (zl p0), none, some (zi 11)]) ⟨rfl, ⟨rfl, trivial⟩⟩ ?_)
  refine zz_lload_n (x := p0) rfl zd_12_3_0 ?_
  refine zz_iload_n (x := 11) rfl zd_12_3_1 ?_
  refine zz_callSI [zl p0, zi 11] zd_12_3_2 zk_Words_16 rfl rfl ⟨Nat.le_of_ble_eq_true rfl, Nat.le_of_ble_eq_true rfl⟩ ⟨rfl, rfl⟩ (Nat.zero_le _) (Nat.zero_le _) (zc_get_12_2x_11 p0 S0 n hn G_S0 (by omega)) (fun v2 S1 hP => ?_)
  obtain ⟨rfl, o3, o4⟩ := hP
  subst o4
  refine zz_if_eq (by omega) zd_12_3_5 (fun c5 => ?_) (fun c5 => ?_)
  · refine zz_iconst zd_12_3_12 ?_
    exact zz_zret zd_12_3_13 rfl (by omega) (Nat.zero_le _) (Nat.zero_le _) ⟨_, _, rfl, rfl, by omega, by omega⟩
  · refine zz_iconst zd_12_3_8 ?_
    refine zz_goto zd_12_3_9 ?_
    exact zz_zret zd_12_3_13 rfl (by omega) (Nat.zero_le _) (Nat.zero_le _) ⟨_, _, rfl, rfl, by omega, by omega⟩
-- TensorForge$Words hasStrangeField (J)Z
abbrev zr_hasStrangeField_12_9 : Room := { frames := 2, cells := 0, slots := 0, locals := 28 }
def zp_hasStrangeField_12_9 (p0 : Int) (S0 : zz_S) : Int → zz_S → Prop := fun r S => S0 = S ∧ (0 ≤ r ∧ r ≤ 1) ∧ (r = 0 → 1 ≤ zz_fy p0 0 15 ∧ zz_fy p0 0 15 ≤ 9) ∧ (r = zz_sf (zz_fy p0 0 15) (zz_fy p0 8 4095) (zz_fy p0 20 63) (zz_fy p0 26 31) (zz_fy p0 31 511) (zz_fy p0 40 511) (zz_fy p0 49 1023) (zz_fy p0 59 31))
theorem zb_hasStrangeField_12_9_17 {g : mm_G} {l : Launch} (p0 : Int) (S0 : zz_S) (n : Nat) (hn : zz_end ≤ n) (G_S0 : zz_G S0) (hp0 : (-9223372036854775808) ≤ p0 ∧ p0 ≤ 9223372036854775807) (x3 : Int) (S : zz_S) (G_S : zz_G S) (F_S : zz_fr [] [] (fun _ _ => False) S0 S) (i17_0 : 5 ≤ x3 ∧ x3 ≤ 12) (i17_1 : (1 = 1 ∧ 1 ≤ (zz_fy p0 0 15) ∧ (zz_fy p0 0 15) ≤ 9) ∨ (1 = 0 ∧ ((zz_fy p0 0 15) < 1 ∨ 9 < (zz_fy p0 0 15)))) (i17_2 : (zz_fy p0 0 15) = zz_fy p0 0 15) (i17_3 : 0 ≤ (zz_fy p0 0 15) ∧ (zz_fy p0 0 15) ≤ 15) (i17_4 : zz_sa (zz_fy p0 0 15) (zz_fy p0 8 4095) (zz_fy p0 20 63) (zz_fy p0 26 31) (zz_fy p0 31 511) (zz_fy p0 40 511) (zz_fy p0 49 1023) (zz_fy p0 59 31) x3 = 0) (R : Nat) (hR : (12 - x3).toNat = R) (k17 : ∀ (x3 : Int) (S : zz_S), zz_G S → zz_fr [] [] (fun _ _ => False) S0 S → (5 ≤ x3 ∧ x3 ≤ 12) → ((1 = 1 ∧ 1 ≤ (zz_fy p0 0 15) ∧ (zz_fy p0 0 15) ≤ 9) ∨ (1 = 0 ∧ ((zz_fy p0 0 15) < 1 ∨ 9 < (zz_fy p0 0 15)))) → ((zz_fy p0 0 15) = zz_fy p0 0 15) → (0 ≤ (zz_fy p0 0 15) ∧ (zz_fy p0 0 15) ≤ 15) → (zz_sa (zz_fy p0 0 15) (zz_fy p0 8 4095) (zz_fy p0 20 63) (zz_fy p0 26 31) (zz_fy p0 31 511) (zz_fy p0 40 511) (zz_fy p0 49 1023) (zz_fy p0 59 31) x3 = 0) → (12 - x3).toNat < R → zz_E g l zy_hasStrangeField_12_9 zr_hasStrangeField_12_9 (zz_QI n (zp_hasStrangeField_12_9 p0 S0)) S n 17 [some (zl p0), none, some (zi (zz_fy p0 0 15)), some (zi x3)] [] 0 0) : zz_E g l zy_hasStrangeField_12_9 zr_hasStrangeField_12_9 (zz_QI n (zp_hasStrangeField_12_9 p0 S0)) S n 17 [some (zl p0), none, some (zi (zz_fy p0 0 15)), some (zi x3)] [] 0 0 := by
  refine zz_iload_n (x := x3) rfl zd_12_9_17 ?_
  refine zz_bipush (by decide) zd_12_9_18 ?_
  refine zz_icmp_ge (by omega) (by omega) zd_12_9_20 (fun c11 => ?_) (fun c11 => ?_)
  · refine zz_iconst zd_12_9_51 ?_
    exact zz_zret zd_12_9_52 rfl (by omega) (Nat.zero_le _) (Nat.zero_le _) ⟨_, _, rfl, zz_fr.eq F_S, by omega, by omega, (zz_sf0 (by omega) (by have e9 : x3 = 12 := (by omega); rw [e9] at i17_4; exact i17_4)).symm⟩
  · rcases (by omega : x3 = 5 ∨ x3 = 6 ∨ x3 = 7 ∨ x3 = 8 ∨ x3 = 9 ∨ x3 = 10 ∨ x3 = 11) with rfl | rfl | rfl | rfl | rfl | rfl | rfl
    · refine zz_gets (q0 := 3) zd_12_9_23 rfl (by decide) zs_Words_28 ?_
      refine zz_iload_n (x := zz_fy p0 0 15) rfl zd_12_9_26 ?_
      obtain ⟨v12, hv12, tv12⟩ := zz_sta3 (i := zz_fy p0 0 15) (by omega)
      refine zz_tiald (N := 10) v12 zd_12_9_27 rfl (by decide) rfl (by decide) (by omega) tv12 ?_
      refine zz_iload_n (x := 5) rfl zd_12_9_28 ?_
      refine zz_ishr zd_12_9_29 (fun v13 hv13 ev13 => ?_)
      refine zz_iconst zd_12_9_30 ?_
      refine zz_iand (by omega) (by omega) zd_12_9_31 (fun v14 hv14 av14 bv14 ev14 => ?_)
      have hn9 := zz_nbx (i := zz_fy p0 0 15) (u := 5) (by omega) (by omega) (by assumption) (by assumption) (by assumption)
      refine zz_if_ne (by omega) zd_12_9_32 (fun c15 => ?_) (fun c15 => ?_)
      · refine zz_iinc [some (zl p0), none, some (zi (zz_fy p0 0 15)), some (zi 6)] zd_12_9_45 rfl rfl ?_
        refine zz_goto zd_12_9_48 ?_
        refine zz_less (ls1 := [some (zl p0), none, some (zi (zz_fy p0 0 15)), some (zi 6)]) ⟨rfl, ⟨rfl, ⟨rfl, trivial⟩⟩⟩ ?_
        exact k17 6 S G_S F_S (by omega) (by omega) (by omega) (by omega) (zz_saS (x := 5) (f := zz_fy p0 8 4095) (by omega) (by omega) i17_4 ⟨fun _ => rfl, fun h => absurd h (by decide), fun h => absurd h (by decide), fun h => absurd h (by decide), fun h => absurd h (by decide), fun h => absurd h (by decide), fun h => absurd h (by decide)⟩ (zz_st0 (Or.inl (by omega)))) (by omega)
      · refine zz_lload_n (x := p0) rfl zd_12_9_35 ?_
        refine zz_iload_n (x := 5) rfl zd_12_9_36 ?_
        refine zz_callSI [zl p0, zi 5] zd_12_9_37 zk_Words_31 rfl rfl ⟨Nat.le_of_ble_eq_true rfl, Nat.le_of_ble_eq_true rfl⟩ ⟨rfl, rfl⟩ (Nat.zero_le _) (Nat.zero_le _) (zc_has_12_3x_5 p0 S n hn G_S (by omega)) (fun v17 S16 hP => ?_)
        obtain ⟨rfl, o18, o19⟩ := hP
        rcases (by omega : v17 = 0 ∨ v17 = 1) with rfl | rfl
        · refine zz_if_eq (by omega) zd_12_9_40 (fun c20 => ?_) (fun c20 => ?_)
          · refine zz_iinc [some (zl p0), none, some (zi (zz_fy p0 0 15)), some (zi 6)] zd_12_9_45 rfl rfl ?_
            refine zz_goto zd_12_9_48 ?_
            refine zz_less (ls1 := [some (zl p0), none, some (zi (zz_fy p0 0 15)), some (zi 6)]) ⟨rfl, ⟨rfl, ⟨rfl, trivial⟩⟩⟩ ?_
            exact k17 6 S G_S F_S (by omega) (by omega) (by omega) (by omega) (zz_saS (x := 5) (f := zz_fy p0 8 4095) (by omega) (by omega) i17_4 ⟨fun _ => rfl, fun h => absurd h (by decide), fun h => absurd h (by decide), fun h => absurd h (by decide), fun h => absurd h (by decide), fun h => absurd h (by decide), fun h => absurd h (by decide)⟩ (zz_st0 (Or.inr (by omega)))) (by omega)
          · exfalso; omega
        · refine zz_if_eq (by omega) zd_12_9_40 (fun c21 => ?_) (fun c21 => ?_)
          · exfalso; omega
          · refine zz_iconst zd_12_9_43 ?_
            exact zz_zret zd_12_9_44 rfl (by omega) (Nat.zero_le _) (Nat.zero_le _) ⟨_, _, rfl, zz_fr.eq F_S, by omega, by omega, (zz_sf1 (x := 5) (f := zz_fy p0 8 4095) (by omega) ⟨fun _ => rfl, fun h => absurd h (by decide), fun h => absurd h (by decide), fun h => absurd h (by decide), fun h => absurd h (by decide), fun h => absurd h (by decide), fun h => absurd h (by decide)⟩ (zz_st2 (by omega) (by omega))).symm⟩
    · refine zz_gets (q0 := 3) zd_12_9_23 rfl (by decide) zs_Words_28 ?_
      refine zz_iload_n (x := zz_fy p0 0 15) rfl zd_12_9_26 ?_
      obtain ⟨v22, hv22, tv22⟩ := zz_sta3 (i := zz_fy p0 0 15) (by omega)
      refine zz_tiald (N := 10) v22 zd_12_9_27 rfl (by decide) rfl (by decide) (by omega) tv22 ?_
      refine zz_iload_n (x := 6) rfl zd_12_9_28 ?_
      refine zz_ishr zd_12_9_29 (fun v23 hv23 ev23 => ?_)
      refine zz_iconst zd_12_9_30 ?_
      refine zz_iand (by omega) (by omega) zd_12_9_31 (fun v24 hv24 av24 bv24 ev24 => ?_)
      have hn9 := zz_nbx (i := zz_fy p0 0 15) (u := 6) (by omega) (by omega) (by assumption) (by assumption) (by assumption)
      refine zz_if_ne (by omega) zd_12_9_32 (fun c25 => ?_) (fun c25 => ?_)
      · refine zz_iinc [some (zl p0), none, some (zi (zz_fy p0 0 15)), some (zi 7)] zd_12_9_45 rfl rfl ?_
        refine zz_goto zd_12_9_48 ?_
        refine zz_less (ls1 := [some (zl p0), none, some (zi (zz_fy p0 0 15)), some (zi 7)]) ⟨rfl, ⟨rfl, ⟨rfl, trivial⟩⟩⟩ ?_
        exact k17 7 S G_S F_S (by omega) (by omega) (by omega) (by omega) (zz_saS (x := 6) (f := zz_fy p0 20 63) (by omega) (by omega) i17_4 ⟨fun h => absurd h (by decide), fun _ => rfl, fun h => absurd h (by decide), fun h => absurd h (by decide), fun h => absurd h (by decide), fun h => absurd h (by decide), fun h => absurd h (by decide)⟩ (zz_st0 (Or.inl (by omega)))) (by omega)
      · refine zz_lload_n (x := p0) rfl zd_12_9_35 ?_
        refine zz_iload_n (x := 6) rfl zd_12_9_36 ?_
        refine zz_callSI [zl p0, zi 6] zd_12_9_37 zk_Words_31 rfl rfl ⟨Nat.le_of_ble_eq_true rfl, Nat.le_of_ble_eq_true rfl⟩ ⟨rfl, rfl⟩ (Nat.zero_le _) (Nat.zero_le _) (zc_has_12_3x_6 p0 S n hn G_S (by omega)) (fun v27 S26 hP => ?_)
        obtain ⟨rfl, o28, o29⟩ := hP
        rcases (by omega : v27 = 0 ∨ v27 = 1) with rfl | rfl
        · refine zz_if_eq (by omega) zd_12_9_40 (fun c30 => ?_) (fun c30 => ?_)
          · refine zz_iinc [some (zl p0), none, some (zi (zz_fy p0 0 15)), some (zi 7)] zd_12_9_45 rfl rfl ?_
            refine zz_goto zd_12_9_48 ?_
            refine zz_less (ls1 := [some (zl p0), none, some (zi (zz_fy p0 0 15)), some (zi 7)]) ⟨rfl, ⟨rfl, ⟨rfl, trivial⟩⟩⟩ ?_
            exact k17 7 S G_S F_S (by omega) (by omega) (by omega) (by omega) (zz_saS (x := 6) (f := zz_fy p0 20 63) (by omega) (by omega) i17_4 ⟨fun h => absurd h (by decide), fun _ => rfl, fun h => absurd h (by decide), fun h => absurd h (by decide), fun h => absurd h (by decide), fun h => absurd h (by decide), fun h => absurd h (by decide)⟩ (zz_st0 (Or.inr (by omega)))) (by omega)
          · exfalso; omega
        · refine zz_if_eq (by omega) zd_12_9_40 (fun c31 => ?_) (fun c31 => ?_)
          · exfalso; omega
          · refine zz_iconst zd_12_9_43 ?_
            exact zz_zret zd_12_9_44 rfl (by omega) (Nat.zero_le _) (Nat.zero_le _) ⟨_, _, rfl, zz_fr.eq F_S, by omega, by omega, (zz_sf1 (x := 6) (f := zz_fy p0 20 63) (by omega) ⟨fun h => absurd h (by decide), fun _ => rfl, fun h => absurd h (by decide), fun h => absurd h (by decide), fun h => absurd h (by decide), fun h => absurd h (by decide), fun h => absurd h (by decide)⟩ (zz_st2 (by omega) (by omega))).symm⟩
    · refine zz_gets (q0 := 3) zd_12_9_23 rfl (by decide) zs_Words_28 ?_
      refine zz_iload_n (x := zz_fy p0 0 15) rfl zd_12_9_26 ?_
      obtain ⟨v32, hv32, tv32⟩ := zz_sta3 (i := zz_fy p0 0 15) (by omega)
      refine zz_tiald (N := 10) v32 zd_12_9_27 rfl (by decide) rfl (by decide) (by omega) tv32 ?_
      refine zz_iload_n (x := 7) rfl zd_12_9_28 ?_
      refine zz_ishr zd_12_9_29 (fun v33 hv33 ev33 => ?_)
      refine zz_iconst zd_12_9_30 ?_
      refine zz_iand (by omega) (by omega) zd_12_9_31 (fun v34 hv34 av34 bv34 ev34 => ?_)
      have hn9 := zz_nbx (i := zz_fy p0 0 15) (u := 7) (by omega) (by omega) (by assumption) (by assumption) (by assumption)
      refine zz_if_ne (by omega) zd_12_9_32 (fun c35 => ?_) (fun c35 => ?_)
      · refine zz_iinc [some (zl p0), none, some (zi (zz_fy p0 0 15)), some (zi 8)] zd_12_9_45 rfl rfl ?_
        refine zz_goto zd_12_9_48 ?_
        refine zz_less (ls1 := [some (zl p0), none, some (zi (zz_fy p0 0 15)), some (zi 8)]) ⟨rfl, ⟨rfl, ⟨rfl, trivial⟩⟩⟩ ?_
        exact k17 8 S G_S F_S (by omega) (by omega) (by omega) (by omega) (zz_saS (x := 7) (f := zz_fy p0 26 31) (by omega) (by omega) i17_4 ⟨fun h => absurd h (by decide), fun h => absurd h (by decide), fun _ => rfl, fun h => absurd h (by decide), fun h => absurd h (by decide), fun h => absurd h (by decide), fun h => absurd h (by decide)⟩ (zz_st0 (Or.inl (by omega)))) (by omega)
      · refine zz_lload_n (x := p0) rfl zd_12_9_35 ?_
        refine zz_iload_n (x := 7) rfl zd_12_9_36 ?_
        refine zz_callSI [zl p0, zi 7] zd_12_9_37 zk_Words_31 rfl rfl ⟨Nat.le_of_ble_eq_true rfl, Nat.le_of_ble_eq_true rfl⟩ ⟨rfl, rfl⟩ (Nat.zero_le _) (Nat.zero_le _) (zc_has_12_3x_7 p0 S n hn G_S (by omega)) (fun v37 S36 hP => ?_)
        obtain ⟨rfl, o38, o39⟩ := hP
        rcases (by omega : v37 = 0 ∨ v37 = 1) with rfl | rfl
        · refine zz_if_eq (by omega) zd_12_9_40 (fun c40 => ?_) (fun c40 => ?_)
          · refine zz_iinc [some (zl p0), none, some (zi (zz_fy p0 0 15)), some (zi 8)] zd_12_9_45 rfl rfl ?_
            refine zz_goto zd_12_9_48 ?_
            refine zz_less (ls1 := [some (zl p0), none, some (zi (zz_fy p0 0 15)), some (zi 8)]) ⟨rfl, ⟨rfl, ⟨rfl, trivial⟩⟩⟩ ?_
            exact k17 8 S G_S F_S (by omega) (by omega) (by omega) (by omega) (zz_saS (x := 7) (f := zz_fy p0 26 31) (by omega) (by omega) i17_4 ⟨fun h => absurd h (by decide), fun h => absurd h (by decide), fun _ => rfl, fun h => absurd h (by decide), fun h => absurd h (by decide), fun h => absurd h (by decide), fun h => absurd h (by decide)⟩ (zz_st0 (Or.inr (by omega)))) (by omega)
          · exfalso; omega
        · refine zz_if_eq (by omega) zd_12_9_40 (fun c41 => ?_) (fun c41 => ?_)
          · exfalso; omega
          · refine zz_iconst zd_12_9_43 ?_
            exact zz_zret zd_12_9_44 rfl (by omega) (Nat.zero_le _) (Nat.zero_le _) ⟨_, _, rfl, zz_fr.eq F_S, by omega, by omega, (zz_sf1 (x := 7) (f := zz_fy p0 26 31) (by omega) ⟨fun h => absurd h (by decide), fun h => absurd h (by decide), fun _ => rfl, fun h => absurd h (by decide), fun h => absurd h (by decide), fun h => absurd h (by decide), fun h => absurd h (by decide)⟩ (zz_st2 (by omega) (by omega))).symm⟩
    · refine zz_gets (q0 := 3) zd_12_9_23 rfl (by decide) zs_Words_28 ?_
      refine zz_iload_n (x := zz_fy p0 0 15) rfl zd_12_9_26 ?_
      obtain ⟨v42, hv42, tv42⟩ := zz_sta3 (i := zz_fy p0 0 15) (by omega)
      refine zz_tiald (N := 10) v42 zd_12_9_27 rfl (by decide) rfl (by decide) (by omega) tv42 ?_
      refine zz_iload_n (x := 8) rfl zd_12_9_28 ?_
      refine zz_ishr zd_12_9_29 (fun v43 hv43 ev43 => ?_)
      refine zz_iconst zd_12_9_30 ?_
      refine zz_iand (by omega) (by omega) zd_12_9_31 (fun v44 hv44 av44 bv44 ev44 => ?_)
      have hn9 := zz_nbx (i := zz_fy p0 0 15) (u := 8) (by omega) (by omega) (by assumption) (by assumption) (by assumption)
      refine zz_if_ne (by omega) zd_12_9_32 (fun c45 => ?_) (fun c45 => ?_)
      · refine zz_iinc [some (zl p0), none, some (zi (zz_fy p0 0 15)), some (zi 9)] zd_12_9_45 rfl rfl ?_
        refine zz_goto zd_12_9_48 ?_
        refine zz_less (ls1 := [some (zl p0), none, some (zi (zz_fy p0 0 15)), some (zi 9)]) ⟨rfl, ⟨rfl, ⟨rfl, trivial⟩⟩⟩ ?_
        exact k17 9 S G_S F_S (by omega) (by omega) (by omega) (by omega) (zz_saS (x := 8) (f := zz_fy p0 31 511) (by omega) (by omega) i17_4 ⟨fun h => absurd h (by decide), fun h => absurd h (by decide), fun h => absurd h (by decide), fun _ => rfl, fun h => absurd h (by decide), fun h => absurd h (by decide), fun h => absurd h (by decide)⟩ (zz_st0 (Or.inl (by omega)))) (by omega)
      · refine zz_lload_n (x := p0) rfl zd_12_9_35 ?_
        refine zz_iload_n (x := 8) rfl zd_12_9_36 ?_
        refine zz_callSI [zl p0, zi 8] zd_12_9_37 zk_Words_31 rfl rfl ⟨Nat.le_of_ble_eq_true rfl, Nat.le_of_ble_eq_true rfl⟩ ⟨rfl, rfl⟩ (Nat.zero_le _) (Nat.zero_le _) (zc_has_12_3x_8 p0 S n hn G_S (by omega)) (fun v47 S46 hP => ?_)
        obtain ⟨rfl, o48, o49⟩ := hP
        rcases (by omega : v47 = 0 ∨ v47 = 1) with rfl | rfl
        · refine zz_if_eq (by omega) zd_12_9_40 (fun c50 => ?_) (fun c50 => ?_)
          · refine zz_iinc [some (zl p0), none, some (zi (zz_fy p0 0 15)), some (zi 9)] zd_12_9_45 rfl rfl ?_
            refine zz_goto zd_12_9_48 ?_
            refine zz_less (ls1 := [some (zl p0), none, some (zi (zz_fy p0 0 15)), some (zi 9)]) ⟨rfl, ⟨rfl, ⟨rfl, trivial⟩⟩⟩ ?_
            exact k17 9 S G_S F_S (by omega) (by omega) (by omega) (by omega) (zz_saS (x := 8) (f := zz_fy p0 31 511) (by omega) (by omega) i17_4 ⟨fun h => absurd h (by decide), fun h => absurd h (by decide), fun h => absurd h (by decide), fun _ => rfl, fun h => absurd h (by decide), fun h => absurd h (by decide), fun h => absurd h (by decide)⟩ (zz_st0 (Or.inr (by omega)))) (by omega)
          · exfalso; omega
        · refine zz_if_eq (by omega) zd_12_9_40 (fun c51 => ?_) (fun c51 => ?_)
          · exfalso; omega
          · refine zz_iconst zd_12_9_43 ?_
            exact zz_zret zd_12_9_44 rfl (by omega) (Nat.zero_le _) (Nat.zero_le _) ⟨_, _, rfl, zz_fr.eq F_S, by omega, by omega, (zz_sf1 (x := 8) (f := zz_fy p0 31 511) (by omega) ⟨fun h => absurd h (by decide), fun h => absurd h (by decide), fun h => absurd h (by decide), fun _ => rfl, fun h => absurd h (by decide), fun h => absurd h (by decide), fun h => absurd h (by decide)⟩ (zz_st2 (by omega) (by omega))).symm⟩
    · refine zz_gets (q0 := 3) zd_12_9_23 rfl (by decide) zs_Words_28 ?_
      refine zz_iload_n (x := zz_fy p0 0 15) rfl zd_12_9_26 ?_
      obtain ⟨v52, hv52, tv52⟩ := zz_sta3 (i := zz_fy p0 0 15) (by omega)
      refine zz_tiald (N := 10) v52 zd_12_9_27 rfl (by decide) rfl (by decide) (by omega) tv52 ?_
      refine zz_iload_n (x := 9) rfl zd_12_9_28 ?_
      refine zz_ishr zd_12_9_29 (fun v53 hv53 ev53 => ?_)
      refine zz_iconst zd_12_9_30 ?_
      refine zz_iand (by omega) (by omega) zd_12_9_31 (fun v54 hv54 av54 bv54 ev54 => ?_)
      have hn9 := zz_nbx (i := zz_fy p0 0 15) (u := 9) (by omega) (by omega) (by assumption) (by assumption) (by assumption)
      refine zz_if_ne (by omega) zd_12_9_32 (fun c55 => ?_) (fun c55 => ?_)
      · refine zz_iinc [some (zl p0), none, some (zi (zz_fy p0 0 15)), some (zi 10)] zd_12_9_45 rfl rfl ?_
        refine zz_goto zd_12_9_48 ?_
        refine zz_less (ls1 := [some (zl p0), none, some (zi (zz_fy p0 0 15)), some (zi 10)]) ⟨rfl, ⟨rfl, ⟨rfl, trivial⟩⟩⟩ ?_
        exact k17 10 S G_S F_S (by omega) (by omega) (by omega) (by omega) (zz_saS (x := 9) (f := zz_fy p0 40 511) (by omega) (by omega) i17_4 ⟨fun h => absurd h (by decide), fun h => absurd h (by decide), fun h => absurd h (by decide), fun h => absurd h (by decide), fun _ => rfl, fun h => absurd h (by decide), fun h => absurd h (by decide)⟩ (zz_st0 (Or.inl (by omega)))) (by omega)
      · refine zz_lload_n (x := p0) rfl zd_12_9_35 ?_
        refine zz_iload_n (x := 9) rfl zd_12_9_36 ?_
        refine zz_callSI [zl p0, zi 9] zd_12_9_37 zk_Words_31 rfl rfl ⟨Nat.le_of_ble_eq_true rfl, Nat.le_of_ble_eq_true rfl⟩ ⟨rfl, rfl⟩ (Nat.zero_le _) (Nat.zero_le _) (zc_has_12_3x_9 p0 S n hn G_S (by omega)) (fun v57 S56 hP => ?_)
        obtain ⟨rfl, o58, o59⟩ := hP
        rcases (by omega : v57 = 0 ∨ v57 = 1) with rfl | rfl
        · refine zz_if_eq (by omega) zd_12_9_40 (fun c60 => ?_) (fun c60 => ?_)
          · refine zz_iinc [some (zl p0), none, some (zi (zz_fy p0 0 15)), some (zi 10)] zd_12_9_45 rfl rfl ?_
            refine zz_goto zd_12_9_48 ?_
            refine zz_less (ls1 := [some (zl p0), none, some (zi (zz_fy p0 0 15)), some (zi 10)]) ⟨rfl, ⟨rfl, ⟨rfl, trivial⟩⟩⟩ ?_
            exact k17 10 S G_S F_S (by omega) (by omega) (by omega) (by omega) (zz_saS (x := 9) (f := zz_fy p0 40 511) (by omega) (by omega) i17_4 ⟨fun h => absurd h (by decide), fun h => absurd h (by decide), fun h => absurd h (by decide), fun h => absurd h (by decide), fun _ => rfl, fun h => absurd h (by decide), fun h => absurd h (by decide)⟩ (zz_st0 (Or.inr (by omega)))) (by omega)
          · exfalso; omega
        · refine zz_if_eq (by omega) zd_12_9_40 (fun c61 => ?_) (fun c61 => ?_)
          · exfalso; omega
          · refine zz_iconst zd_12_9_43 ?_
            exact zz_zret zd_12_9_44 rfl (by omega) (Nat.zero_le _) (Nat.zero_le _) ⟨_, _, rfl, zz_fr.eq F_S, by omega, by omega, (zz_sf1 (x := 9) (f := zz_fy p0 40 511) (by omega) ⟨fun h => absurd h (by decide), fun h => absurd h (by decide), fun h => absurd h (by decide), fun h => absurd h (by decide), fun _ => rfl, fun h => absurd h (by decide), fun h => absurd h (by decide)⟩ (zz_st2 (by omega) (by omega))).symm⟩
    · refine zz_gets (q0 := 3) zd_12_9_23 rfl (by decide) zs_Words_28 ?_
      refine zz_iload_n (x := zz_fy p0 0 15) rfl zd_12_9_26 ?_
      obtain ⟨v62, hv62, tv62⟩ := zz_sta3 (i := zz_fy p0 0 15) (by omega)
      refine zz_tiald (N := 10) v62 zd_12_9_27 rfl (by decide) rfl (by decide) (by omega) tv62 ?_
      refine zz_iload_n (x := 10) rfl zd_12_9_28 ?_
      refine zz_ishr zd_12_9_29 (fun v63 hv63 ev63 => ?_)
      refine zz_iconst zd_12_9_30 ?_
      refine zz_iand (by omega) (by omega) zd_12_9_31 (fun v64 hv64 av64 bv64 ev64 => ?_)
      have hn9 := zz_nbx (i := zz_fy p0 0 15) (u := 10) (by omega) (by omega) (by assumption) (by assumption) (by assumption)
      refine zz_if_ne (by omega) zd_12_9_32 (fun c65 => ?_) (fun c65 => ?_)
      · refine zz_iinc [some (zl p0), none, some (zi (zz_fy p0 0 15)), some (zi 11)] zd_12_9_45 rfl rfl ?_
        refine zz_goto zd_12_9_48 ?_
        refine zz_less (ls1 := [some (zl p0), none, some (zi (zz_fy p0 0 15)), some (zi 11)]) ⟨rfl, ⟨rfl, ⟨rfl, trivial⟩⟩⟩ ?_
        exact k17 11 S G_S F_S (by omega) (by omega) (by omega) (by omega) (zz_saS (x := 10) (f := zz_fy p0 49 1023) (by omega) (by omega) i17_4 ⟨fun h => absurd h (by decide), fun h => absurd h (by decide), fun h => absurd h (by decide), fun h => absurd h (by decide), fun h => absurd h (by decide), fun _ => rfl, fun h => absurd h (by decide)⟩ (zz_st0 (Or.inl (by omega)))) (by omega)
      · refine zz_lload_n (x := p0) rfl zd_12_9_35 ?_
        refine zz_iload_n (x := 10) rfl zd_12_9_36 ?_
        refine zz_callSI [zl p0, zi 10] zd_12_9_37 zk_Words_31 rfl rfl ⟨Nat.le_of_ble_eq_true rfl, Nat.le_of_ble_eq_true rfl⟩ ⟨rfl, rfl⟩ (Nat.zero_le _) (Nat.zero_le _) (zc_has_12_3x_10 p0 S n hn G_S (by omega)) (fun v67 S66 hP => ?_)
        obtain ⟨rfl, o68, o69⟩ := hP
        rcases (by omega : v67 = 0 ∨ v67 = 1) with rfl | rfl
        · refine zz_if_eq (by omega) zd_12_9_40 (fun c70 => ?_) (fun c70 => ?_)
          · refine zz_iinc [some (zl p0), none, some (zi (zz_fy p0 0 15)), some (zi 11)] zd_12_9_45 rfl rfl ?_
            refine zz_goto zd_12_9_48 ?_
            refine zz_less (ls1 := [some (zl p0), none, some (zi (zz_fy p0 0 15)), some (zi 11)]) ⟨rfl, ⟨rfl, ⟨rfl, trivial⟩⟩⟩ ?_
            exact k17 11 S G_S F_S (by omega) (by omega) (by omega) (by omega) (zz_saS (x := 10) (f := zz_fy p0 49 1023) (by omega) (by omega) i17_4 ⟨fun h => absurd h (by decide), fun h => absurd h (by decide), fun h => absurd h (by decide), fun h => absurd h (by decide), fun h => absurd h (by decide), fun _ => rfl, fun h => absurd h (by decide)⟩ (zz_st0 (Or.inr (by omega)))) (by omega)
          · exfalso; omega
        · refine zz_if_eq (by omega) zd_12_9_40 (fun c71 => ?_) (fun c71 => ?_)
          · exfalso; omega
          · refine zz_iconst zd_12_9_43 ?_
            exact zz_zret zd_12_9_44 rfl (by omega) (Nat.zero_le _) (Nat.zero_le _) ⟨_, _, rfl, zz_fr.eq F_S, by omega, by omega, (zz_sf1 (x := 10) (f := zz_fy p0 49 1023) (by omega) ⟨fun h => absurd h (by decide), fun h => absurd h (by decide), fun h => absurd h (by decide), fun h => absurd h (by decide), fun h => absurd h (by decide), fun _ => rfl, fun h => absurd h (by decide)⟩ (zz_st2 (by omega) (by omega))).symm⟩
    · refine zz_gets (q0 := 3) zd_12_9_23 rfl (by decide) zs_Words_28 ?_
      refine zz_iload_n (x := zz_fy p0 0 15) rfl zd_12_9_26 ?_
      obtain ⟨v72, hv72, tv72⟩ := zz_sta3 (i := zz_fy p0 0 15) (by omega)
      refine zz_tiald (N := 10) v72 zd_12_9_27 rfl (by decide) rfl (by decide) (by omega) tv72 ?_
      refine zz_iload_n (x := 11) rfl zd_12_9_28 ?_
      refine zz_ishr zd_12_9_29 (fun v73 hv73 ev73 => ?_)
      refine zz_iconst zd_12_9_30 ?_
      refine zz_iand (by omega) (by omega) zd_12_9_31 (fun v74 hv74 av74 bv74 ev74 => ?_)
      have hn9 := zz_nbx (i := zz_fy p0 0 15) (u := 11) (by omega) (by omega) (by assumption) (by assumption) (by assumption)
      refine zz_if_ne (by omega) zd_12_9_32 (fun c75 => ?_) (fun c75 => ?_)
      · refine zz_iinc [some (zl p0), none, some (zi (zz_fy p0 0 15)), some (zi 12)] zd_12_9_45 rfl rfl ?_
        refine zz_goto zd_12_9_48 ?_
        refine zz_less (ls1 := [some (zl p0), none, some (zi (zz_fy p0 0 15)), some (zi 12)]) ⟨rfl, ⟨rfl, ⟨rfl, trivial⟩⟩⟩ ?_
        exact k17 12 S G_S F_S (by omega) (by omega) (by omega) (by omega) (zz_saS (x := 11) (f := zz_fy p0 59 31) (by omega) (by omega) i17_4 ⟨fun h => absurd h (by decide), fun h => absurd h (by decide), fun h => absurd h (by decide), fun h => absurd h (by decide), fun h => absurd h (by decide), fun h => absurd h (by decide), fun _ => rfl⟩ (zz_st0 (Or.inl (by omega)))) (by omega)
      · refine zz_lload_n (x := p0) rfl zd_12_9_35 ?_
        refine zz_iload_n (x := 11) rfl zd_12_9_36 ?_
        refine zz_callSI [zl p0, zi 11] zd_12_9_37 zk_Words_31 rfl rfl ⟨Nat.le_of_ble_eq_true rfl, Nat.le_of_ble_eq_true rfl⟩ ⟨rfl, rfl⟩ (Nat.zero_le _) (Nat.zero_le _) (zc_has_12_3x_11 p0 S n hn G_S (by omega)) (fun v77 S76 hP => ?_)
        obtain ⟨rfl, o78, o79⟩ := hP
        rcases (by omega : v77 = 0 ∨ v77 = 1) with rfl | rfl
        · refine zz_if_eq (by omega) zd_12_9_40 (fun c80 => ?_) (fun c80 => ?_)
          · refine zz_iinc [some (zl p0), none, some (zi (zz_fy p0 0 15)), some (zi 12)] zd_12_9_45 rfl rfl ?_
            refine zz_goto zd_12_9_48 ?_
            refine zz_less (ls1 := [some (zl p0), none, some (zi (zz_fy p0 0 15)), some (zi 12)]) ⟨rfl, ⟨rfl, ⟨rfl, trivial⟩⟩⟩ ?_
            exact k17 12 S G_S F_S (by omega) (by omega) (by omega) (by omega) (zz_saS (x := 11) (f := zz_fy p0 59 31) (by omega) (by omega) i17_4 ⟨fun h => absurd h (by decide), fun h => absurd h (by decide), fun h => absurd h (by decide), fun h => absurd h (by decide), fun h => absurd h (by decide), fun h => absurd h (by decide), fun _ => rfl⟩ (zz_st0 (Or.inr (by omega)))) (by omega)
          · exfalso; omega
        · refine zz_if_eq (by omega) zd_12_9_40 (fun c81 => ?_) (fun c81 => ?_)
          · exfalso; omega
          · refine zz_iconst zd_12_9_43 ?_
            exact zz_zret zd_12_9_44 rfl (by omega) (Nat.zero_le _) (Nat.zero_le _) ⟨_, _, rfl, zz_fr.eq F_S, by omega, by omega, (zz_sf1 (x := 11) (f := zz_fy p0 59 31) (by omega) ⟨fun h => absurd h (by decide), fun h => absurd h (by decide), fun h => absurd h (by decide), fun h => absurd h (by decide), fun h => absurd h (by decide), fun h => absurd h (by decide), fun _ => rfl⟩ (zz_st2 (by omega) (by omega))).symm⟩
theorem zi_hasStrangeField_12_9 {g : mm_G} {l : Launch} (p0 : Int) (S0 : zz_S) (n : Nat) (hn : zz_end ≤ n) (G_S0 : zz_G S0) (hp0 : (-9223372036854775808) ≤ p0 ∧ p0 ≤ 9223372036854775807) : ∀ N : Nat, (∀ (x3 : Int) (S : zz_S), zz_G S → zz_fr [] [] (fun _ _ => False) S0 S → (5 ≤ x3 ∧ x3 ≤ 12) → ((1 = 1 ∧ 1 ≤ (zz_fy p0 0 15) ∧ (zz_fy p0 0 15) ≤ 9) ∨ (1 = 0 ∧ ((zz_fy p0 0 15) < 1 ∨ 9 < (zz_fy p0 0 15)))) → ((zz_fy p0 0 15) = zz_fy p0 0 15) → (0 ≤ (zz_fy p0 0 15) ∧ (zz_fy p0 0 15) ≤ 15) → (zz_sa (zz_fy p0 0 15) (zz_fy p0 8 4095) (zz_fy p0 20 63) (zz_fy p0 26 31) (zz_fy p0 31 511) (zz_fy p0 40 511) (zz_fy p0 49 1023) (zz_fy p0 59 31) x3 = 0) → (12 - x3).toNat < N → zz_E g l zy_hasStrangeField_12_9 zr_hasStrangeField_12_9 (zz_QI n (zp_hasStrangeField_12_9 p0 S0)) S n 17 [some (zl p0), none, some (zi (zz_fy p0 0 15)), some (zi x3)] [] 0 0) := by
  intro N
  induction N with
  | zero => exact fun x3 S _ _ _ _ _ _ _ h => absurd h (Nat.not_lt_zero _)
  | succ N ih =>
    exact fun x3 S a b j0 j1 j2 j3 j4 hR => zb_hasStrangeField_12_9_17 p0 S0 n hn G_S0 hp0 x3 S a b j0 j1 j2 j3 j4 _ rfl (fun x3 S a b j0 j1 j2 j3 j4 h => ih x3 S a b j0 j1 j2 j3 j4 (Nat.lt_of_lt_of_le h (Nat.le_of_lt_succ hR)))
theorem zc_hasStrangeField_12_9 {g : mm_G} {l : Launch} (p0 : Int) (S0 : zz_S) (n : Nat) (hn : zz_end ≤ n) (G_S0 : zz_G S0) (hp0 : (-9223372036854775808) ≤ p0 ∧ p0 ≤ 9223372036854775807) : mm_Met g l zy_hasStrangeField_12_9 zr_hasStrangeField_12_9 [zl p0] (zz_M S0 n) n (zz_QI n (zp_hasStrangeField_12_9 p0 S0)) := by
  refine zz_enter (by decide) (Nat.le_of_ble_eq_true rfl) (zz_less (ls1 := [some (zl p0), none]) ⟨rfl, trivial⟩ ?_)
  have F_S0 : zz_fr [] [] (fun _ _ => False) S0 S0 := zz_fr.refl
  have k17 : ∀ (x3 : Int) (S : zz_S), zz_G S → zz_fr [] [] (fun _ _ => False) S0 S → (5 ≤ x3 ∧ x3 ≤ 12) → ((1 = 1 ∧ 1 ≤ (zz_fy p0 0 15) ∧ (zz_fy p0 0 15) ≤ 9) ∨ (1 = 0 ∧ ((zz_fy p0 0 15) < 1 ∨ 9 < (zz_fy p0 0 15)))) → ((zz_fy p0 0 15) = zz_fy p0 0 15) → (0 ≤ (zz_fy p0 0 15) ∧ (zz_fy p0 0 15) ≤ 15) → (zz_sa (zz_fy p0 0 15) (zz_fy p0 8 4095) (zz_fy p0 20 63) (zz_fy p0 26 31) (zz_fy p0 31 511) (zz_fy p0 40 511) (zz_fy p0 49 1023) (zz_fy p0 59 31) x3 = 0) → zz_E g l zy_hasStrangeField_12_9 zr_hasStrangeField_12_9 (zz_QI n (zp_hasStrangeField_12_9 p0 S0)) S n 17 [some (zl p0), none, some (zi (zz_fy p0 0 15)), some (zi x3)] [] 0 0 := fun x3 S a b j0 j1 j2 j3 j4 => (zi_hasStrangeField_12_9 (g := g) (l := l) p0 S0 n hn G_S0 hp0 _) x3 S a b j0 j1 j2 j3 j4 (Nat.lt_succ_self _)
  refine zz_lload_n (x := p0) rfl zd_12_9_0 ?_
  refine zz_iconst zd_12_9_1 ?_
  refine zz_callSI [zl p0, zi 0] zd_12_9_2 zk_Words_16 rfl rfl ⟨Nat.le_of_ble_eq_true rfl, Nat.le_of_ble_eq_true rfl⟩ ⟨rfl, rfl⟩ (Nat.zero_le _) (Nat.zero_le _) (zc_get_12_2x_0 p0 S0 n hn G_S0 (by omega)) (fun v2 S1 hP => ?_)
  obtain ⟨rfl, o3, o4⟩ := hP
  subst o4
  refine zz_istore_n [some (zl p0), none, some (zi (zz_fy p0 0 15))] zd_12_9_5 (by decide) rfl ?_
  refine zz_iload_n (x := zz_fy p0 0 15) rfl zd_12_9_6 ?_
  refine zz_callSI [zi (zz_fy p0 0 15)] zd_12_9_7 zk_Words_24 rfl rfl ⟨Nat.le_of_ble_eq_true rfl, Nat.le_of_ble_eq_true rfl⟩ ⟨rfl, rfl⟩ (Nat.zero_le _) (Nat.zero_le _) (zc_isKind_12_8 (zz_fy p0 0 15) S0 n hn G_S0 (by omega)) (fun v6 S5 hP => ?_)
  obtain ⟨rfl, o7, o8⟩ := hP
  rcases (by omega : v6 = 0 ∨ v6 = 1) with rfl | rfl
  · refine zz_if_ne (by omega) zd_12_9_10 (fun c9 => ?_) (fun c9 => ?_)
    · exfalso; omega
    · refine zz_iconst zd_12_9_13 ?_
      exact zz_zret zd_12_9_14 rfl (by omega) (Nat.zero_le _) (Nat.zero_le _) ⟨_, _, rfl, rfl, by omega, by omega, (zz_sfk (by omega)).symm⟩
  · refine zz_if_ne (by omega) zd_12_9_10 (fun c10 => ?_) (fun c10 => ?_)
    · refine zz_iconst zd_12_9_15 ?_
      refine zz_istore_n [some (zl p0), none, some (zi (zz_fy p0 0 15)), some (zi 5)] zd_12_9_16 (by decide) rfl ?_
      refine zz_less (ls1 := [some (zl p0), none, some (zi (zz_fy p0 0 15)), some (zi 5)]) ⟨rfl, ⟨rfl, ⟨rfl, trivial⟩⟩⟩ ?_
      exact k17 5 S0 G_S0 F_S0 (by omega) (by omega) (by omega) (by omega) (zz_sa5 _ _ _ _ _ _ _ _)
    · exfalso; omega
theorem zk_Machine_49 : mm_Sl "TensorForge$Machine" 49 1 zy_hasStrangeField_12_9 := ⟨zyw_hasStrangeField_12_9, mm_tb_1 489 (by decide +kernel) rfl, mm_tb_1 490 (by decide +kernel) rfl⟩
abbrev zy_shapeFits_6_7 : mm_Y := (⟨"TensorForge$Machine", "shapeFits", "(J)Z"⟩, prog_6_method_7_code, 4, (some .boolean))
theorem zyw_shapeFits_6_7 : mm_Yw zy_shapeFits_6_7 1 := ⟨mm_tb_1 510 (by decide +kernel) rfl, mm_tb_1 4 (by decide +kernel) rfl, ⟨by decide, by decide⟩, by decide +kernel⟩
theorem zk_Machine_72 : mm_Sl "TensorForge$Machine" 72 2 zy_get_12_2 := ⟨zyw_get_12_2, mm_tb_1 511 (by decide +kernel) rfl, mm_tb_1 493 (by decide +kernel) rfl⟩
theorem zg_6_6_4 : zq_at zy_forbids_6_6.2.1 4 154 ∧ zq_at zy_forbids_6_6.2.1 5 0 ∧ zq_at zy_forbids_6_6.2.1 6 26 ∧ zq_at zy_forbids_6_6.2.1 7 42 ∧ zq_at zy_forbids_6_6.2.1 8 31 ∧ zq_at zy_forbids_6_6.2.1 9 182 ∧ zq_at zy_forbids_6_6.2.1 10 0 ∧ zq_at zy_forbids_6_6.2.1 11 55 := by decide +kernel
theorem zd_6_6_4 : zz_B zy_forbids_6_6 4 (Instr.ifCond .ne) 30 7 := ⟨26, zq_154 zg_6_6_4.1 zg_6_6_4.2.1 zg_6_6_4.2.2.1 (by decide), rfl, rfl⟩
theorem zd_6_6_7 : zz_D zy_forbids_6_6 7 (.aload_n 0) 1 8 := ⟨zq_42 zg_6_6_4.2.2.2.1, rfl⟩
theorem zd_6_6_8 : zz_D zy_forbids_6_6 8 (.lload_n 1) 1 9 := ⟨zq_31 zg_6_6_4.2.2.2.2.1, rfl⟩
theorem zd_6_6_9 : zz_D zy_forbids_6_6 9 (.invokevirtual 55) 3 12 := ⟨zq_182 zg_6_6_4.2.2.2.2.2.1 zg_6_6_4.2.2.2.2.2.2.1 zg_6_6_4.2.2.2.2.2.2.2 rfl, rfl⟩
theorem zg_6_7_0 : zq_at zy_shapeFits_6_7.2.1 0 31 ∧ zq_at zy_shapeFits_6_7.2.1 1 3 ∧ zq_at zy_shapeFits_6_7.2.1 2 184 ∧ zq_at zy_shapeFits_6_7.2.1 3 0 ∧ zq_at zy_shapeFits_6_7.2.1 4 72 ∧ zq_at zy_shapeFits_6_7.2.1 5 16 ∧ zq_at zy_shapeFits_6_7.2.1 6 9 ∧ zq_at zy_shapeFits_6_7.2.1 7 160 ∧ zq_at zy_shapeFits_6_7.2.1 8 0 ∧ zq_at zy_shapeFits_6_7.2.1 9 5 ∧ zq_at zy_shapeFits_6_7.2.1 12 31 ∧ zq_at zy_shapeFits_6_7.2.1 13 16 ∧ zq_at zy_shapeFits_6_7.2.1 14 7 ∧ zq_at zy_shapeFits_6_7.2.1 15 184 ∧ zq_at zy_shapeFits_6_7.2.1 16 0 ∧ zq_at zy_shapeFits_6_7.2.1 17 72 ∧ zq_at zy_shapeFits_6_7.2.1 18 62 ∧ zq_at zy_shapeFits_6_7.2.1 19 31 ∧ zq_at zy_shapeFits_6_7.2.1 20 16 ∧ zq_at zy_shapeFits_6_7.2.1 21 6 ∧ zq_at zy_shapeFits_6_7.2.1 22 184 ∧ zq_at zy_shapeFits_6_7.2.1 23 0 ∧ zq_at zy_shapeFits_6_7.2.1 24 72 := by decide +kernel
theorem zd_6_7_0 : zz_D zy_shapeFits_6_7 0 (.lload_n 1) 1 1 := ⟨zq_31 zg_6_7_0.1, rfl⟩
theorem zd_6_7_1 : zz_D zy_shapeFits_6_7 1 (.iconst 0) 1 2 := ⟨zq_3 zg_6_7_0.2.1, rfl⟩
theorem zd_6_7_2 : zz_D zy_shapeFits_6_7 2 (.invokestatic 72) 3 5 := ⟨zq_184 zg_6_7_0.2.2.1 zg_6_7_0.2.2.2.1 zg_6_7_0.2.2.2.2.1 rfl, rfl⟩
theorem zd_6_7_5 : zz_D zy_shapeFits_6_7 5 (.bipush 9) 2 7 := ⟨zq_16 zg_6_7_0.2.2.2.2.2.1 zg_6_7_0.2.2.2.2.2.2.1 (by decide), rfl⟩
theorem zd_6_7_7 : zz_B zy_shapeFits_6_7 7 (Instr.if_icmp .ne) 12 10 := ⟨5, zq_160 zg_6_7_0.2.2.2.2.2.2.2.1 zg_6_7_0.2.2.2.2.2.2.2.2.1 zg_6_7_0.2.2.2.2.2.2.2.2.2.1 (by decide), rfl, rfl⟩
theorem zd_6_7_12 : zz_D zy_shapeFits_6_7 12 (.lload_n 1) 1 13 := ⟨zq_31 zg_6_7_0.2.2.2.2.2.2.2.2.2.2.1, rfl⟩
theorem zd_6_7_13 : zz_D zy_shapeFits_6_7 13 (.bipush 7) 2 15 := ⟨zq_16 zg_6_7_0.2.2.2.2.2.2.2.2.2.2.2.1 zg_6_7_0.2.2.2.2.2.2.2.2.2.2.2.2.1 (by decide), rfl⟩
theorem zd_6_7_15 : zz_D zy_shapeFits_6_7 15 (.invokestatic 72) 3 18 := ⟨zq_184 zg_6_7_0.2.2.2.2.2.2.2.2.2.2.2.2.2.1 zg_6_7_0.2.2.2.2.2.2.2.2.2.2.2.2.2.2.1 zg_6_7_0.2.2.2.2.2.2.2.2.2.2.2.2.2.2.2.1 rfl, rfl⟩
theorem zd_6_7_18 : zz_D zy_shapeFits_6_7 18 (.istore_n 3) 1 19 := ⟨zq_62 zg_6_7_0.2.2.2.2.2.2.2.2.2.2.2.2.2.2.2.2.1, rfl⟩
theorem zd_6_7_19 : zz_D zy_shapeFits_6_7 19 (.lload_n 1) 1 20 := ⟨zq_31 zg_6_7_0.2.2.2.2.2.2.2.2.2.2.2.2.2.2.2.2.2.1, rfl⟩
theorem zd_6_7_20 : zz_D zy_shapeFits_6_7 20 (.bipush 6) 2 22 := ⟨zq_16 zg_6_7_0.2.2.2.2.2.2.2.2.2.2.2.2.2.2.2.2.2.2.1 zg_6_7_0.2.2.2.2.2.2.2.2.2.2.2.2.2.2.2.2.2.2.2.1 (by decide), rfl⟩
theorem zd_6_7_22 : zz_D zy_shapeFits_6_7 22 (.invokestatic 72) 3 25 := ⟨zq_184 zg_6_7_0.2.2.2.2.2.2.2.2.2.2.2.2.2.2.2.2.2.2.2.2.1 zg_6_7_0.2.2.2.2.2.2.2.2.2.2.2.2.2.2.2.2.2.2.2.2.2.1 zg_6_7_0.2.2.2.2.2.2.2.2.2.2.2.2.2.2.2.2.2.2.2.2.2.2 rfl, rfl⟩
theorem zg_6_7_25 : zq_at zy_shapeFits_6_7.2.1 25 158 ∧ zq_at zy_shapeFits_6_7.2.1 26 0 ∧ zq_at zy_shapeFits_6_7.2.1 27 19 ∧ zq_at zy_shapeFits_6_7.2.1 44 3 ∧ zq_at zy_shapeFits_6_7.2.1 45 172 ∧ zq_at zy_shapeFits_6_7.2.1 28 29 ∧ zq_at zy_shapeFits_6_7.2.1 29 158 ∧ zq_at zy_shapeFits_6_7.2.1 30 0 ∧ zq_at zy_shapeFits_6_7.2.1 31 15 ∧ zq_at zy_shapeFits_6_7.2.1 32 29 ∧ zq_at zy_shapeFits_6_7.2.1 33 42 ∧ zq_at zy_shapeFits_6_7.2.1 34 180 ∧ zq_at zy_shapeFits_6_7.2.1 35 0 ∧ zq_at zy_shapeFits_6_7.2.1 36 36 ∧ zq_at zy_shapeFits_6_7.2.1 37 163 ∧ zq_at zy_shapeFits_6_7.2.1 38 0 ∧ zq_at zy_shapeFits_6_7.2.1 39 7 ∧ zq_at zy_shapeFits_6_7.2.1 40 4 ∧ zq_at zy_shapeFits_6_7.2.1 41 167 ∧ zq_at zy_shapeFits_6_7.2.1 42 0 ∧ zq_at zy_shapeFits_6_7.2.1 43 4 ∧ zq_at zy_shapeFits_6_7.2.1 10 4 ∧ zq_at zy_shapeFits_6_7.2.1 11 172 := by decide +kernel
theorem zd_6_7_25 : zz_B zy_shapeFits_6_7 25 (Instr.ifCond .le) 44 28 := ⟨19, zq_158 zg_6_7_25.1 zg_6_7_25.2.1 zg_6_7_25.2.2.1 (by decide), rfl, rfl⟩
theorem zd_6_7_44 : zz_D zy_shapeFits_6_7 44 (.iconst 0) 1 45 := ⟨zq_3 zg_6_7_25.2.2.2.1, rfl⟩
theorem zd_6_7_45 : zz_D zy_shapeFits_6_7 45 (.ireturn) 1 46 := ⟨zq_172 zg_6_7_25.2.2.2.2.1, rfl⟩
theorem zd_6_7_28 : zz_D zy_shapeFits_6_7 28 (.iload_n 3) 1 29 := ⟨zq_29 zg_6_7_25.2.2.2.2.2.1, rfl⟩
theorem zd_6_7_29 : zz_B zy_shapeFits_6_7 29 (Instr.ifCond .le) 44 32 := ⟨15, zq_158 zg_6_7_25.2.2.2.2.2.2.1 zg_6_7_25.2.2.2.2.2.2.2.1 zg_6_7_25.2.2.2.2.2.2.2.2.1 (by decide), rfl, rfl⟩
theorem zd_6_7_32 : zz_D zy_shapeFits_6_7 32 (.iload_n 3) 1 33 := ⟨zq_29 zg_6_7_25.2.2.2.2.2.2.2.2.2.1, rfl⟩
theorem zd_6_7_33 : zz_D zy_shapeFits_6_7 33 (.aload_n 0) 1 34 := ⟨zq_42 zg_6_7_25.2.2.2.2.2.2.2.2.2.2.1, rfl⟩
theorem zd_6_7_34 : zz_D zy_shapeFits_6_7 34 (.getfield 36) 3 37 := ⟨zq_180 zg_6_7_25.2.2.2.2.2.2.2.2.2.2.2.1 zg_6_7_25.2.2.2.2.2.2.2.2.2.2.2.2.1 zg_6_7_25.2.2.2.2.2.2.2.2.2.2.2.2.2.1 rfl, rfl⟩
theorem zd_6_7_37 : zz_B zy_shapeFits_6_7 37 (Instr.if_icmp .gt) 44 40 := ⟨7, zq_163 zg_6_7_25.2.2.2.2.2.2.2.2.2.2.2.2.2.2.1 zg_6_7_25.2.2.2.2.2.2.2.2.2.2.2.2.2.2.2.1 zg_6_7_25.2.2.2.2.2.2.2.2.2.2.2.2.2.2.2.2.1 (by decide), rfl, rfl⟩
theorem zd_6_7_40 : zz_D zy_shapeFits_6_7 40 (.iconst 1) 1 41 := ⟨zq_4 zg_6_7_25.2.2.2.2.2.2.2.2.2.2.2.2.2.2.2.2.2.1, rfl⟩
theorem zd_6_7_41 : zz_B zy_shapeFits_6_7 41 Instr.goto 45 44 := ⟨4, zq_167 zg_6_7_25.2.2.2.2.2.2.2.2.2.2.2.2.2.2.2.2.2.2.1 zg_6_7_25.2.2.2.2.2.2.2.2.2.2.2.2.2.2.2.2.2.2.2.1 zg_6_7_25.2.2.2.2.2.2.2.2.2.2.2.2.2.2.2.2.2.2.2.2.1 (by decide), rfl, rfl⟩
theorem zd_6_7_10 : zz_D zy_shapeFits_6_7 10 (.iconst 1) 1 11 := ⟨zq_4 zg_6_7_25.2.2.2.2.2.2.2.2.2.2.2.2.2.2.2.2.2.2.2.2.2.1, rfl⟩
theorem zd_6_7_11 : zz_D zy_shapeFits_6_7 11 (.ireturn) 1 12 := ⟨zq_172 zg_6_7_25.2.2.2.2.2.2.2.2.2.2.2.2.2.2.2.2.2.2.2.2.2.2, rfl⟩

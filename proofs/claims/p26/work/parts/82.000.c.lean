-- TensorForge$Reaches reads (III)V
abbrev zr_reads_9_8x_1037_4 : Room := { frames := 0, cells := 0, slots := 0, locals := 0 }
def zp_reads_9_8x_1037_4 (p1 : Int) (p2 : Int) (S0 : zz_S) : zz_S → Prop := fun S => zz_G S ∧ zz_fr [(1038, 4), (1039, 4)] [] (fun _ _ => False) S0 S ∧ (S 1039 4 = p1 + p2)
theorem zc_reads_9_8x_1037_4 {g : mm_G} {l : Launch} (p1 : Int) (p2 : Int) (S0 : zz_S) (n : Nat) (hn : zz_end ≤ n) (G_S0 : zz_G S0) (hp1 : 0 ≤ p1 ∧ p1 ≤ 4095) (hp2 : (-100000) ≤ p2 ∧ p2 ≤ 100000) : mm_Met g l zy_reads_9_8 zr_reads_9_8x_1037_4 [.ref 1037, zi 4, zi p1, zi p2] (zz_M S0 n) n (zz_QV n (zp_reads_9_8x_1037_4 p1 p2 S0)) := by
  refine zz_enter (by decide) (Nat.le_of_ble_eq_true rfl) (zz_less (ls1 := [some (.ref 1037), some (zi 4), some (zi p1), some (zi p2)]) ⟨rfl, ⟨rfl, ⟨rfl, ⟨rfl, trivial⟩⟩⟩⟩ ?_)
  have F_S0 : zz_fr [(1038, 4), (1039, 4)] [] (fun _ _ => False) S0 S0 := zz_fr.refl
  refine zz_iload_n (x := 4) rfl zd_9_8_0 ?_
  refine zz_if_lt (by omega) zd_9_8_1 (fun c1 => ?_) (fun c1 => ?_)
  · exfalso; omega
  · refine zz_iload_n (x := 4) rfl zd_9_8_4 ?_
    refine zz_iconst zd_9_8_5 ?_
    refine zz_icmp_ge (by omega) (by omega) zd_9_8_6 (fun c2 => ?_) (fun c2 => ?_)
    · exfalso; omega
    · refine zz_aload_n (x := 1037) rfl zd_9_8_9 ?_
      refine zz_getr (kd := 0) (z := 1038) zd_9_8_10 zf_Reaches_11 zT_1037 rfl (zz_ltn hn rfl) (zz_G.eq G_S0 1037 0 1038 rfl rfl) (by decide) 1038 rfl ?_
      refine zz_iload_n (x := 4) rfl zd_9_8_13 ?_
      refine zz_iload_n (x := p1) rfl zd_9_8_14 ?_
      refine zz_iast zd_9_8_15 zT_1038 rfl (zz_ltn hn rfl) (by decide) (by decide) (fun S3 qS3 => ?_)
      have G_S3 := zz_G.put G_S0 qS3 (-2147483648) 2147483647 rfl (by omega)
      have F_S3 := zz_fr.puts F_S0 qS3 rfl
      refine zz_aload_n (x := 1037) rfl zd_9_8_16 ?_
      refine zz_getr (kd := 0) (z := 1039) zd_9_8_17 zf_Reaches_15 zT_1037 rfl (zz_ltn hn rfl) (zz_G.eq G_S3 1037 1 1039 rfl rfl) (by decide) 1039 rfl ?_
      refine zz_iload_n (x := 4) rfl zd_9_8_20 ?_
      refine zz_iload_n (x := p1) rfl zd_9_8_21 ?_
      refine zz_iload_n (x := p2) rfl zd_9_8_22 ?_
      refine zz_iadd zd_9_8_23 ?_
      refine zz_iast zd_9_8_24 zT_1039 rfl (zz_ltn hn rfl) (by decide) (by decide) (fun S4 qS4 => ?_)
      have G_S4 := zz_G.put G_S3 qS4 (-2147483648) 2147483647 rfl (by omega)
      have F_S4 := zz_fr.puts F_S3 qS4 rfl
      have e5 : S4 1039 4 = p1 + p2 := (zz_rs qS4)
      exact zz_vret zd_9_8_25 rfl (Nat.zero_le _) (Nat.zero_le _) ⟨_, rfl, G_S4, F_S4, by omega⟩
theorem zg_9_2_214 : zq_at zy_take_9_2.2.1 214 42 ∧ zq_at zy_take_9_2.2.1 215 3 ∧ zq_at zy_take_9_2.2.1 216 21 ∧ zq_at zy_take_9_2.2.1 217 5 ∧ zq_at zy_take_9_2.2.1 218 21 ∧ zq_at zy_take_9_2.2.1 219 11 ∧ zq_at zy_take_9_2.2.1 220 182 ∧ zq_at zy_take_9_2.2.1 221 0 ∧ zq_at zy_take_9_2.2.1 222 37 := by decide +kernel
theorem zd_9_2_214 : zz_D zy_take_9_2 214 (.aload_n 0) 1 215 := ⟨zq_42 zg_9_2_214.1, rfl⟩
theorem zd_9_2_215 : zz_D zy_take_9_2 215 (.iconst 0) 1 216 := ⟨zq_3 zg_9_2_214.2.1, rfl⟩
theorem zd_9_2_216 : zz_D zy_take_9_2 216 (.iload 5) 2 218 := ⟨zq_21 zg_9_2_214.2.2.1 zg_9_2_214.2.2.2.1, rfl⟩
theorem zd_9_2_218 : zz_D zy_take_9_2 218 (.iload 11) 2 220 := ⟨zq_21 zg_9_2_214.2.2.2.2.1 zg_9_2_214.2.2.2.2.2.1, rfl⟩
theorem zd_9_2_220 : zz_D zy_take_9_2 220 (.invokevirtual 37) 3 223 := ⟨zq_182 zg_9_2_214.2.2.2.2.2.2.1 zg_9_2_214.2.2.2.2.2.2.2.1 zg_9_2_214.2.2.2.2.2.2.2.2 rfl, rfl⟩
-- TensorForge$Reaches writes (III)V
abbrev zr_writes_9_9x_1037_0 : Room := { frames := 0, cells := 0, slots := 0, locals := 0 }
def zp_writes_9_9x_1037_0 (p1 : Int) (p2 : Int) (S0 : zz_S) : zz_S → Prop := fun S => zz_G S ∧ zz_fr [(1040, 0), (1041, 0)] [] (fun _ _ => False) S0 S ∧ (S 1041 0 = p1 + p2)
theorem zc_writes_9_9x_1037_0 {g : mm_G} {l : Launch} (p1 : Int) (p2 : Int) (S0 : zz_S) (n : Nat) (hn : zz_end ≤ n) (G_S0 : zz_G S0) (hp1 : 0 ≤ p1 ∧ p1 ≤ 4095) (hp2 : (-100000) ≤ p2 ∧ p2 ≤ 100000) : mm_Met g l zy_writes_9_9 zr_writes_9_9x_1037_0 [.ref 1037, zi 0, zi p1, zi p2] (zz_M S0 n) n (zz_QV n (zp_writes_9_9x_1037_0 p1 p2 S0)) := by
  refine zz_enter (by decide) (Nat.le_of_ble_eq_true rfl) (zz_less (ls1 := [some (.ref 1037), some (zi 0), some (zi p1), some (zi p2)]) ⟨rfl, ⟨rfl, ⟨rfl, ⟨rfl, trivial⟩⟩⟩⟩ ?_)
  have F_S0 : zz_fr [(1040, 0), (1041, 0)] [] (fun _ _ => False) S0 S0 := zz_fr.refl
  refine zz_iload_n (x := 0) rfl zd_9_9_0 ?_
  refine zz_if_lt (by omega) zd_9_9_1 (fun c1 => ?_) (fun c1 => ?_)
  · exfalso; omega
  · refine zz_iload_n (x := 0) rfl zd_9_9_4 ?_
    refine zz_iconst zd_9_9_5 ?_
    refine zz_icmp_ge (by omega) (by omega) zd_9_9_6 (fun c2 => ?_) (fun c2 => ?_)
    · exfalso; omega
    · refine zz_aload_n (x := 1037) rfl zd_9_9_9 ?_
      refine zz_getr (kd := 0) (z := 1040) zd_9_9_10 zf_Reaches_18 zT_1037 rfl (zz_ltn hn rfl) (zz_G.eq G_S0 1037 2 1040 rfl rfl) (by decide) 1040 rfl ?_
      refine zz_iload_n (x := 0) rfl zd_9_9_13 ?_
      refine zz_iload_n (x := p1) rfl zd_9_9_14 ?_
      refine zz_iast zd_9_9_15 zT_1040 rfl (zz_ltn hn rfl) (by decide) (by decide) (fun S3 qS3 => ?_)
      have G_S3 := zz_G.put G_S0 qS3 (-2147483648) 2147483647 rfl (by omega)
      have F_S3 := zz_fr.puts F_S0 qS3 rfl
      refine zz_aload_n (x := 1037) rfl zd_9_9_16 ?_
      refine zz_getr (kd := 0) (z := 1041) zd_9_9_17 zf_Reaches_21 zT_1037 rfl (zz_ltn hn rfl) (zz_G.eq G_S3 1037 3 1041 rfl rfl) (by decide) 1041 rfl ?_
      refine zz_iload_n (x := 0) rfl zd_9_9_20 ?_
      refine zz_iload_n (x := p1) rfl zd_9_9_21 ?_
      refine zz_iload_n (x := p2) rfl zd_9_9_22 ?_
      refine zz_iadd zd_9_9_23 ?_
      refine zz_iast zd_9_9_24 zT_1041 rfl (zz_ltn hn rfl) (by decide) (by decide) (fun S4 qS4 => ?_)
      have G_S4 := zz_G.put G_S3 qS4 (-2147483648) 2147483647 rfl (by omega)
      have F_S4 := zz_fr.puts F_S3 qS4 rfl
      have e5 : S4 1041 0 = p1 + p2 := (zz_rs qS4)
      exact zz_vret zd_9_9_25 rfl (Nat.zero_le _) (Nat.zero_le _) ⟨_, rfl, G_S4, F_S4, by omega⟩
theorem zg_9_2_223 : zq_at zy_take_9_2.2.1 223 167 ∧ zq_at zy_take_9_2.2.1 224 0 ∧ zq_at zy_take_9_2.2.1 225 9 := by decide +kernel
theorem zd_9_2_223 : zz_B zy_take_9_2 223 Instr.goto 232 226 := ⟨9, zq_167 zg_9_2_223.1 zg_9_2_223.2.1 zg_9_2_223.2.2 (by decide), rfl, rfl⟩
-- TensorForge$Reaches take (JI)V
abbrev zr_take_9_2x_1037 : Room := { frames := 3, cells := 0, slots := 0, locals := 53 }
def zp_take_9_2x_1037 (p0 : Int) (p1 : Int) (S0 : zz_S) : zz_S → Prop := fun S => zz_G S ∧ zz_fr [(1038, 0), (1038, 1), (1038, 2), (1038, 3), (1038, 4), (1039, 0), (1039, 1), (1039, 2), (1039, 3), (1039, 4), (1040, 0), (1040, 1), (1040, 2), (1040, 3), (1040, 4), (1041, 0), (1041, 1), (1041, 2), (1041, 3), (1041, 4)] [] (fun _ _ => False) S0 S ∧ (((zz_fy p0 0 15) = 1 → S 1039 0 = (zz_fy p0 8 4095) + ((zz_fy p0 20 63) - 1) * (zz_fy p0 49 1023) + (zz_fy p0 26 31) - 1 ∧ S 1039 1 = -1 ∧ S 1039 2 = -1 ∧ S 1039 3 = -1 ∧ S 1039 4 = -1 ∧ S 1041 0 = -1 ∧ S 1041 1 = (zz_fy p0 31 511) + ((zz_fy p0 20 63) - 1) * p1 + (zz_fy p0 26 31) - 1 ∧ S 1041 2 = -1 ∧ S 1041 3 = -1 ∧ S 1041 4 = -1)) ∧ (((zz_fy p0 0 15) = 2 → S 1039 0 = (zz_fy p0 8 4095) + ((zz_fy p0 20 63) - 1) * (zz_fy p0 49 1023) + (zz_fy p0 26 31) - 1 ∧ S 1039 1 = -1 ∧ S 1039 2 = -1 ∧ S 1039 3 = -1 ∧ S 1039 4 = -1 ∧ S 1041 0 = -1 ∧ S 1041 1 = -1 ∧ S 1041 2 = (zz_fy p0 31 511) + ((zz_fy p0 20 63) - 1) * p1 + (zz_fy p0 26 31) - 1 ∧ S 1041 3 = -1 ∧ S 1041 4 = -1)) ∧ (((zz_fy p0 0 15) = 3 → S 1039 0 = -1 ∧ S 1039 1 = -1 ∧ S 1039 2 = -1 ∧ S 1039 3 = -1 ∧ S 1039 4 = -1 ∧ S 1041 0 = -1 ∧ S 1041 1 = (zz_fy p0 31 511) + ((zz_fy p0 20 63) - 1) * p1 + (zz_fy p0 26 31) - 1 ∧ S 1041 2 = -1 ∧ S 1041 3 = -1 ∧ S 1041 4 = -1)) ∧ (((zz_fy p0 0 15) = 4 → S 1039 0 = (zz_fy p0 8 4095) + ((zz_fy p0 20 63) - 1) * (zz_fy p0 49 1023) + 4 * (zz_fy p0 26 31) - 1 ∧ S 1039 1 = -1 ∧ S 1039 2 = -1 ∧ S 1039 3 = -1 ∧ S 1039 4 = -1 ∧ S 1041 0 = -1 ∧ S 1041 1 = -1 ∧ S 1041 2 = -1 ∧ S 1041 3 = (zz_fy p0 31 511) + ((zz_fy p0 20 63) - 1) * p1 + (zz_fy p0 26 31) - 1 ∧ S 1041 4 = -1)) ∧ (((zz_fy p0 0 15) = 5 → S 1039 0 = -1 ∧ S 1039 1 = (zz_fy p0 31 511) + ((zz_fy p0 20 63) - 1) * p1 + (zz_fy p0 59 31) / 2 - 1 ∧ S 1039 2 = (zz_fy p0 49 1023) + ((zz_fy p0 59 31) / 2 - 1) * p1 + (zz_fy p0 26 31) - 1 ∧ (S 1039 3 = (zz_fy p0 40 511) + ((zz_fy p0 20 63) - 1) * p1 + (zz_fy p0 26 31) - 1 ∨ S 1039 3 = -1) ∧ S 1039 4 = -1 ∧ S 1041 0 = -1 ∧ S 1041 1 = -1 ∧ S 1041 2 = -1 ∧ S 1041 3 = (zz_fy p0 40 511) + ((zz_fy p0 20 63) - 1) * p1 + (zz_fy p0 26 31) - 1 ∧ S 1041 4 = -1)) ∧ (((zz_fy p0 0 15) = 6 → S 1039 0 = -1 ∧ S 1039 1 = (zz_fy p0 31 511) + ((zz_fy p0 20 63) - 1) * p1 + (zz_fy p0 26 31) - 1 ∧ S 1039 2 = -1 ∧ (S 1039 3 = (zz_fy p0 40 511) + ((zz_fy p0 20 63) - 1) * p1 + (zz_fy p0 26 31) - 1 ∨ S 1039 3 = -1) ∧ S 1039 4 = -1 ∧ S 1041 0 = -1 ∧ S 1041 1 = -1 ∧ S 1041 2 = -1 ∧ S 1041 3 = (zz_fy p0 40 511) + ((zz_fy p0 20 63) - 1) * p1 + (zz_fy p0 26 31) - 1 ∧ S 1041 4 = -1)) ∧ (((zz_fy p0 0 15) = 7 → S 1039 0 = -1 ∧ S 1039 1 = -1 ∧ S 1039 2 = -1 ∧ S 1039 3 = (zz_fy p0 31 511) + ((zz_fy p0 20 63) - 1) * p1 + (zz_fy p0 26 31) - 1 ∧ S 1039 4 = -1 ∧ S 1041 0 = -1 ∧ S 1041 1 = -1 ∧ S 1041 2 = -1 ∧ S 1041 3 = -1 ∧ S 1041 4 = (zz_fy p0 40 511) + ((zz_fy p0 20 63) - 1) * p1 + (zz_fy p0 26 31) - 1)) ∧ (((zz_fy p0 0 15) = 8 → S 1039 0 = -1 ∧ S 1039 1 = -1 ∧ S 1039 2 = -1 ∧ S 1039 3 = -1 ∧ S 1039 4 = (zz_fy p0 31 511) + ((zz_fy p0 20 63) - 1) * p1 + (zz_fy p0 26 31) - 1 ∧ S 1041 0 = (zz_fy p0 8 4095) + ((zz_fy p0 20 63) - 1) * (zz_fy p0 49 1023) + (zz_fy p0 26 31) - 1 ∧ S 1041 1 = -1 ∧ S 1041 2 = -1 ∧ S 1041 3 = -1 ∧ S 1041 4 = -1)) ∧ (((zz_fy p0 0 15) = 9 → S 1039 0 = -1 ∧ S 1039 1 = -1 ∧ S 1039 2 = -1 ∧ S 1039 3 = -1 ∧ S 1039 4 = -1 ∧ S 1041 0 = -1 ∧ S 1041 1 = -1 ∧ S 1041 2 = -1 ∧ S 1041 3 = -1 ∧ S 1041 4 = -1))
theorem zc_take_9_2x_1037 {g : mm_G} {l : Launch} (p0 : Int) (p1 : Int) (S0 : zz_S) (n : Nat) (hn : zz_end ≤ n) (G_S0 : zz_G S0) (hp0 : (-9223372036854775808) ≤ p0 ∧ p0 ≤ 9223372036854775807) (hp1 : 2 ≤ p1 ∧ p1 ≤ 8) : mm_Met g l zy_take_9_2 zr_take_9_2x_1037 [.ref 1037, zl p0, zi p1] (zz_M S0 n) n (zz_QV n (zp_take_9_2x_1037 p0 p1 S0)) := by
  refine zz_enter (by decide) (Nat.le_of_ble_eq_true rfl) (zz_less (ls1 := [some (.ref 1037), some (zl p0), none, some (zi p1)]) ⟨rfl, ⟨rfl, ⟨rfl, trivial⟩⟩⟩ ?_)
  have F_S0 : zz_fr [(1038, 0), (1038, 1), (1038, 2), (1038, 3), (1038, 4), (1039, 0), (1039, 1), (1039, 2), (1039, 3), (1039, 4), (1040, 0), (1040, 1), (1040, 2), (1040, 3), (1040, 4), (1041, 0), (1041, 1), (1041, 2), (1041, 3), (1041, 4)] [] (fun _ _ => False) S0 S0 := zz_fr.refl
  refine zz_aload_n (x := 1037) rfl zd_9_2_0 ?_
  refine zz_callVV [] zd_9_2_1 zk_Reaches_24 zT_1037 (zz_ltn hn rfl) rfl rfl ⟨Nat.le_of_ble_eq_true rfl, Nat.le_of_ble_eq_true rfl⟩ ⟨rfl, rfl⟩ (Nat.zero_le _) (Nat.zero_le _) (zc_forget_9_7x_1037  S0 n hn G_S0 ) (fun S1 hP => ?_)
  obtain ⟨G_S1, fS1, o3, o4, o5, o6, o7, o8, o9, o10, o11, o12⟩ := hP
  have F_S1 := zz_fr.trans F_S0 fS1 rfl zz_nv
  refine zz_lload_n (x := p0) rfl zd_9_2_4 ?_
  refine zz_iconst zd_9_2_5 ?_
  refine zz_callSI [zl p0, zi 0] zd_9_2_6 zk_Reaches_29 rfl rfl ⟨Nat.le_of_ble_eq_true rfl, Nat.le_of_ble_eq_true rfl⟩ ⟨rfl, rfl⟩ (Nat.zero_le _) (Nat.zero_le _) (zc_get_12_2x_0 p0 S1 n hn G_S1 (by omega)) (fun v14 S13 hP => ?_)
  obtain ⟨rfl, o15, o16⟩ := hP
  subst o16
  refine zz_istore [some (.ref 1037), some (zl p0), none, some (zi p1), some (zi (zz_fy p0 0 15))] zd_9_2_9 (by decide) rfl ?_
  refine zz_lload_n (x := p0) rfl zd_9_2_11 ?_
  refine zz_iconst zd_9_2_12 ?_
  refine zz_callSI [zl p0, zi 5] zd_9_2_13 zk_Reaches_29 rfl rfl ⟨Nat.le_of_ble_eq_true rfl, Nat.le_of_ble_eq_true rfl⟩ ⟨rfl, rfl⟩ (Nat.zero_le _) (Nat.zero_le _) (zc_get_12_2x_5 p0 S1 n hn G_S1 (by omega)) (fun v18 S17 hP => ?_)
  obtain ⟨rfl, o19, o20⟩ := hP
  subst o20
  refine zz_istore [some (.ref 1037), some (zl p0), none, some (zi p1), some (zi (zz_fy p0 0 15)), some (zi (zz_fy p0 8 4095))] zd_9_2_16 (by decide) rfl ?_
  refine zz_lload_n (x := p0) rfl zd_9_2_18 ?_
  refine zz_bipush (by decide) zd_9_2_19 ?_
  refine zz_callSI [zl p0, zi 6] zd_9_2_21 zk_Reaches_29 rfl rfl ⟨Nat.le_of_ble_eq_true rfl, Nat.le_of_ble_eq_true rfl⟩ ⟨rfl, rfl⟩ (Nat.zero_le _) (Nat.zero_le _) (zc_get_12_2x_6 p0 S1 n hn G_S1 (by omega)) (fun v22 S21 hP => ?_)
  obtain ⟨rfl, o23, o24⟩ := hP
  subst o24
  refine zz_iconst zd_9_2_24 ?_
  refine zz_isub zd_9_2_25 ?_
  refine zz_istore [some (.ref 1037), some (zl p0), none, some (zi p1), some (zi (zz_fy p0 0 15)), some (zi (zz_fy p0 8 4095)), some (zi ((zz_fy p0 20 63) - 1))] zd_9_2_26 (by decide) rfl ?_
  refine zz_lload_n (x := p0) rfl zd_9_2_28 ?_
  refine zz_bipush (by decide) zd_9_2_29 ?_
  refine zz_callSI [zl p0, zi 7] zd_9_2_31 zk_Reaches_29 rfl rfl ⟨Nat.le_of_ble_eq_true rfl, Nat.le_of_ble_eq_true rfl⟩ ⟨rfl, rfl⟩ (Nat.zero_le _) (Nat.zero_le _) (zc_get_12_2x_7 p0 S1 n hn G_S1 (by omega)) (fun v26 S25 hP => ?_)
  obtain ⟨rfl, o27, o28⟩ := hP
  subst o28
  refine zz_iconst zd_9_2_34 ?_
  refine zz_isub zd_9_2_35 ?_
  refine zz_istore [some (.ref 1037), some (zl p0), none, some (zi p1), some (zi (zz_fy p0 0 15)), some (zi (zz_fy p0 8 4095)), some (zi ((zz_fy p0 20 63) - 1)), some (zi ((zz_fy p0 26 31) - 1))] zd_9_2_36 (by decide) rfl ?_
  refine zz_lload_n (x := p0) rfl zd_9_2_38 ?_
  refine zz_bipush (by decide) zd_9_2_39 ?_
  refine zz_callSI [zl p0, zi 10] zd_9_2_41 zk_Reaches_29 rfl rfl ⟨Nat.le_of_ble_eq_true rfl, Nat.le_of_ble_eq_true rfl⟩ ⟨rfl, rfl⟩ (Nat.zero_le _) (Nat.zero_le _) (zc_get_12_2x_10 p0 S1 n hn G_S1 (by omega)) (fun v30 S29 hP => ?_)
  obtain ⟨rfl, o31, o32⟩ := hP
  subst o32
  refine zz_istore [some (.ref 1037), some (zl p0), none, some (zi p1), some (zi (zz_fy p0 0 15)), some (zi (zz_fy p0 8 4095)), some (zi ((zz_fy p0 20 63) - 1)), some (zi ((zz_fy p0 26 31) - 1)), some (zi (zz_fy p0 49 1023))] zd_9_2_44 (by decide) rfl ?_
  refine zz_lload_n (x := p0) rfl zd_9_2_46 ?_
  refine zz_bipush (by decide) zd_9_2_47 ?_
  refine zz_callSI [zl p0, zi 8] zd_9_2_49 zk_Reaches_29 rfl rfl ⟨Nat.le_of_ble_eq_true rfl, Nat.le_of_ble_eq_true rfl⟩ ⟨rfl, rfl⟩ (Nat.zero_le _) (Nat.zero_le _) (zc_get_12_2x_8 p0 S1 n hn G_S1 (by omega)) (fun v34 S33 hP => ?_)
  obtain ⟨rfl, o35, o36⟩ := hP
  subst o36
  refine zz_istore [some (.ref 1037), some (zl p0), none, some (zi p1), some (zi (zz_fy p0 0 15)), some (zi (zz_fy p0 8 4095)), some (zi ((zz_fy p0 20 63) - 1)), some (zi ((zz_fy p0 26 31) - 1)), some (zi (zz_fy p0 49 1023)), some (zi (zz_fy p0 31 511))] zd_9_2_52 (by decide) rfl ?_
  refine zz_iload (x := (zz_fy p0 20 63) - 1) rfl zd_9_2_54 ?_
  refine zz_iload_n (x := p1) rfl zd_9_2_56 ?_
  refine zz_imul zd_9_2_57 ?_
  have m37 := zz_mulh (a := (zz_fy p0 20 63) - 1) (b := p1) (-1) 62 8 (-8) 496 (by omega) (by omega) (by decide) (by decide) (by decide) (by decide)
  refine zz_iload (x := (zz_fy p0 26 31) - 1) rfl zd_9_2_58 ?_
  refine zz_iadd zd_9_2_60 ?_
  refine zz_nme (fun v38 ev38 => ?_)
  refine zz_istore [some (.ref 1037), some (zl p0), none, some (zi p1), some (zi (zz_fy p0 0 15)), some (zi (zz_fy p0 8 4095)), some (zi ((zz_fy p0 20 63) - 1)), some (zi ((zz_fy p0 26 31) - 1)), some (zi (zz_fy p0 49 1023)), some (zi (zz_fy p0 31 511)), some (zi v38)] zd_9_2_61 (by decide) rfl ?_
  refine zz_iload (x := (zz_fy p0 20 63) - 1) rfl zd_9_2_63 ?_
  refine zz_iload (x := zz_fy p0 49 1023) rfl zd_9_2_65 ?_
  refine zz_imul zd_9_2_67 ?_
  have m39 := zz_mulh (a := (zz_fy p0 20 63) - 1) (b := zz_fy p0 49 1023) (-1) 62 1023 (-1023) 63426 (by omega) (by omega) (by decide) (by decide) (by decide) (by decide)
  refine zz_iload (x := (zz_fy p0 26 31) - 1) rfl zd_9_2_68 ?_
  refine zz_iadd zd_9_2_70 ?_
  refine zz_nme (fun v40 ev40 => ?_)
  refine zz_istore [some (.ref 1037), some (zl p0), none, some (zi p1), some (zi (zz_fy p0 0 15)), some (zi (zz_fy p0 8 4095)), some (zi ((zz_fy p0 20 63) - 1)), some (zi ((zz_fy p0 26 31) - 1)), some (zi (zz_fy p0 49 1023)), some (zi (zz_fy p0 31 511)), some (zi v38), some (zi v40)] zd_9_2_71 (by decide) rfl ?_
  refine zz_iload (x := zz_fy p0 0 15) rfl zd_9_2_73 ?_
  by_cases c41 : zz_fy p0 0 15 = 1
  · refine zz_swIn 1 45 c41 (by decide) zd_9_2_75 rfl rfl ?_
    refine zz_aload_n (x := 1037) rfl zd_9_2_120 ?_
    refine zz_iconst zd_9_2_121 ?_
    refine zz_iload (x := zz_fy p0 8 4095) rfl zd_9_2_122 ?_
    refine zz_iload (x := v40) rfl zd_9_2_124 ?_
    refine zz_callVV [zi 0, zi (zz_fy p0 8 4095), zi v40] zd_9_2_126 zk_Reaches_33 zT_1037 (zz_ltn hn rfl) rfl rfl ⟨Nat.le_of_ble_eq_true rfl, Nat.le_of_ble_eq_true rfl⟩ ⟨rfl, rfl⟩ (Nat.zero_le _) (Nat.zero_le _) (zc_reads_9_8x_1037_0 (zz_fy p0 8 4095) v40 S1 n hn G_S1 (by omega) (by omega)) (fun S42 hP => ?_)
    obtain ⟨G_S42, fS42, o44⟩ := hP
    have F_S42 := zz_fr.trans F_S1 fS42 rfl zz_nv
    refine zz_aload_n (x := 1037) rfl zd_9_2_129 ?_
    refine zz_iconst zd_9_2_130 ?_
    refine zz_iload (x := zz_fy p0 31 511) rfl zd_9_2_131 ?_
    refine zz_iload (x := v38) rfl zd_9_2_133 ?_
    refine zz_callVV [zi 1, zi (zz_fy p0 31 511), zi v38] zd_9_2_135 zk_Reaches_37 zT_1037 (zz_ltn hn rfl) rfl rfl ⟨Nat.le_of_ble_eq_true rfl, Nat.le_of_ble_eq_true rfl⟩ ⟨rfl, rfl⟩ (Nat.zero_le _) (Nat.zero_le _) (zc_writes_9_9x_1037_1 (zz_fy p0 31 511) v38 S42 n hn G_S42 (by omega) (by omega)) (fun S45 hP => ?_)
    obtain ⟨G_S45, fS45, o47⟩ := hP
    have F_S45 := zz_fr.trans F_S42 fS45 rfl zz_nv
    refine zz_goto zd_9_2_138 ?_
    have g48 := zz_G.r G_S42 1039 0 (-2147483648) 2147483647 rfl rfl
    have e49 : S45 1039 0 = S42 1039 0 := (zz_rc fS45 rfl rfl (fun h => h) rfl)
    have g50 := zz_G.r G_S1 1039 1 (-2147483648) 2147483647 rfl rfl
    have e51 : S45 1039 1 = S1 1039 1 := (zz_rc fS45 rfl rfl (fun h => h) (zz_rc fS42 rfl rfl (fun h => h) rfl))
    have g52 := zz_G.r G_S1 1039 2 (-2147483648) 2147483647 rfl rfl
    have e53 : S45 1039 2 = S1 1039 2 := (zz_rc fS45 rfl rfl (fun h => h) (zz_rc fS42 rfl rfl (fun h => h) rfl))
    have g54 := zz_G.r G_S1 1039 3 (-2147483648) 2147483647 rfl rfl
    have e55 : S45 1039 3 = S1 1039 3 := (zz_rc fS45 rfl rfl (fun h => h) (zz_rc fS42 rfl rfl (fun h => h) rfl))
    have g56 := zz_G.r G_S1 1039 4 (-2147483648) 2147483647 rfl rfl
    have e57 : S45 1039 4 = S1 1039 4 := (zz_rc fS45 rfl rfl (fun h => h) (zz_rc fS42 rfl rfl (fun h => h) rfl))
    have g58 := zz_G.r G_S1 1041 0 (-2147483648) 2147483647 rfl rfl
    have e59 : S45 1041 0 = S1 1041 0 := (zz_rc fS45 rfl rfl (fun h => h) (zz_rc fS42 rfl rfl (fun h => h) rfl))
    have g60 := zz_G.r G_S45 1041 1 (-2147483648) 2147483647 rfl rfl
    have g61 := zz_G.r G_S1 1041 2 (-2147483648) 2147483647 rfl rfl
    have e62 : S45 1041 2 = S1 1041 2 := (zz_rc fS45 rfl rfl (fun h => h) (zz_rc fS42 rfl rfl (fun h => h) rfl))
    have g63 := zz_G.r G_S1 1041 3 (-2147483648) 2147483647 rfl rfl
    have e64 : S45 1041 3 = S1 1041 3 := (zz_rc fS45 rfl rfl (fun h => h) (zz_rc fS42 rfl rfl (fun h => h) rfl))
    have g65 := zz_G.r G_S1 1041 4 (-2147483648) 2147483647 rfl rfl
    have e66 : S45 1041 4 = S1 1041 4 := (zz_rc fS45 rfl rfl (fun h => h) (zz_rc fS42 rfl rfl (fun h => h) rfl))
    exact zz_vret zd_9_2_232 rfl (Nat.zero_le _) (Nat.zero_le _) ⟨_, rfl, G_S45, F_S45, by omega, by omega, by omega, by omega, by omega, by omega, by omega, by omega, by omega⟩
  by_cases c67 : zz_fy p0 0 15 = 2
  · refine zz_swIn 2 66 c67 (by decide) zd_9_2_75 rfl rfl ?_
    refine zz_aload_n (x := 1037) rfl zd_9_2_141 ?_
    refine zz_iconst zd_9_2_142 ?_
    refine zz_iload (x := zz_fy p0 8 4095) rfl zd_9_2_143 ?_
    refine zz_iload (x := v40) rfl zd_9_2_145 ?_
    refine zz_callVV [zi 0, zi (zz_fy p0 8 4095), zi v40] zd_9_2_147 zk_Reaches_33 zT_1037 (zz_ltn hn rfl) rfl rfl ⟨Nat.le_of_ble_eq_true rfl, Nat.le_of_ble_eq_true rfl⟩ ⟨rfl, rfl⟩ (Nat.zero_le _) (Nat.zero_le _) (zc_reads_9_8x_1037_0 (zz_fy p0 8 4095) v40 S1 n hn G_S1 (by omega) (by omega)) (fun S68 hP => ?_)
    obtain ⟨G_S68, fS68, o70⟩ := hP
    have F_S68 := zz_fr.trans F_S1 fS68 rfl zz_nv
    refine zz_aload_n (x := 1037) rfl zd_9_2_150 ?_
    refine zz_iconst zd_9_2_151 ?_
    refine zz_iload (x := zz_fy p0 31 511) rfl zd_9_2_152 ?_
    refine zz_iload (x := v38) rfl zd_9_2_154 ?_
    refine zz_callVV [zi 2, zi (zz_fy p0 31 511), zi v38] zd_9_2_156 zk_Reaches_37 zT_1037 (zz_ltn hn rfl) rfl rfl ⟨Nat.le_of_ble_eq_true rfl, Nat.le_of_ble_eq_true rfl⟩ ⟨rfl, rfl⟩ (Nat.zero_le _) (Nat.zero_le _) (zc_writes_9_9x_1037_2 (zz_fy p0 31 511) v38 S68 n hn G_S68 (by omega) (by omega)) (fun S71 hP => ?_)
    obtain ⟨G_S71, fS71, o73⟩ := hP
    have F_S71 := zz_fr.trans F_S68 fS71 rfl zz_nv
    refine zz_goto zd_9_2_159 ?_
    have g74 := zz_G.r G_S68 1039 0 (-2147483648) 2147483647 rfl rfl
    have e75 : S71 1039 0 = S68 1039 0 := (zz_rc fS71 rfl rfl (fun h => h) rfl)
    have g76 := zz_G.r G_S1 1039 1 (-2147483648) 2147483647 rfl rfl
    have e77 : S71 1039 1 = S1 1039 1 := (zz_rc fS71 rfl rfl (fun h => h) (zz_rc fS68 rfl rfl (fun h => h) rfl))
    have g78 := zz_G.r G_S1 1039 2 (-2147483648) 2147483647 rfl rfl
    have e79 : S71 1039 2 = S1 1039 2 := (zz_rc fS71 rfl rfl (fun h => h) (zz_rc fS68 rfl rfl (fun h => h) rfl))
    have g80 := zz_G.r G_S1 1039 3 (-2147483648) 2147483647 rfl rfl
    have e81 : S71 1039 3 = S1 1039 3 := (zz_rc fS71 rfl rfl (fun h => h) (zz_rc fS68 rfl rfl (fun h => h) rfl))
    have g82 := zz_G.r G_S1 1039 4 (-2147483648) 2147483647 rfl rfl
    have e83 : S71 1039 4 = S1 1039 4 := (zz_rc fS71 rfl rfl (fun h => h) (zz_rc fS68 rfl rfl (fun h => h) rfl))
    have g84 := zz_G.r G_S1 1041 0 (-2147483648) 2147483647 rfl rfl
    have e85 : S71 1041 0 = S1 1041 0 := (zz_rc fS71 rfl rfl (fun h => h) (zz_rc fS68 rfl rfl (fun h => h) rfl))
    have g86 := zz_G.r G_S1 1041 1 (-2147483648) 2147483647 rfl rfl
    have e87 : S71 1041 1 = S1 1041 1 := (zz_rc fS71 rfl rfl (fun h => h) (zz_rc fS68 rfl rfl (fun h => h) rfl))
    have g88 := zz_G.r G_S71 1041 2 (-2147483648) 2147483647 rfl rfl
    have g89 := zz_G.r G_S1 1041 3 (-2147483648) 2147483647 rfl rfl
    have e90 : S71 1041 3 = S1 1041 3 := (zz_rc fS71 rfl rfl (fun h => h) (zz_rc fS68 rfl rfl (fun h => h) rfl))
    have g91 := zz_G.r G_S1 1041 4 (-2147483648) 2147483647 rfl rfl
    have e92 : S71 1041 4 = S1 1041 4 := (zz_rc fS71 rfl rfl (fun h => h) (zz_rc fS68 rfl rfl (fun h => h) rfl))
    exact zz_vret zd_9_2_232 rfl (Nat.zero_le _) (Nat.zero_le _) ⟨_, rfl, G_S71, F_S71, by omega, by omega, by omega, by omega, by omega, by omega, by omega, by omega, by omega⟩
  by_cases c93 : zz_fy p0 0 15 = 3
  · refine zz_swIn 3 87 c93 (by decide) zd_9_2_75 rfl rfl ?_
    refine zz_aload_n (x := 1037) rfl zd_9_2_162 ?_
    refine zz_iconst zd_9_2_163 ?_
    refine zz_iload (x := zz_fy p0 31 511) rfl zd_9_2_164 ?_
    refine zz_iload (x := v38) rfl zd_9_2_166 ?_
    refine zz_callVV [zi 1, zi (zz_fy p0 31 511), zi v38] zd_9_2_168 zk_Reaches_37 zT_1037 (zz_ltn hn rfl) rfl rfl ⟨Nat.le_of_ble_eq_true rfl, Nat.le_of_ble_eq_true rfl⟩ ⟨rfl, rfl⟩ (Nat.zero_le _) (Nat.zero_le _) (zc_writes_9_9x_1037_1 (zz_fy p0 31 511) v38 S1 n hn G_S1 (by omega) (by omega)) (fun S94 hP => ?_)
    obtain ⟨G_S94, fS94, o96⟩ := hP
    have F_S94 := zz_fr.trans F_S1 fS94 rfl zz_nv
    refine zz_goto zd_9_2_171 ?_
    have g97 := zz_G.r G_S1 1039 0 (-2147483648) 2147483647 rfl rfl
    have e98 : S94 1039 0 = S1 1039 0 := (zz_rc fS94 rfl rfl (fun h => h) rfl)
    have g99 := zz_G.r G_S1 1039 1 (-2147483648) 2147483647 rfl rfl
    have e100 : S94 1039 1 = S1 1039 1 := (zz_rc fS94 rfl rfl (fun h => h) rfl)
    have g101 := zz_G.r G_S1 1039 2 (-2147483648) 2147483647 rfl rfl
    have e102 : S94 1039 2 = S1 1039 2 := (zz_rc fS94 rfl rfl (fun h => h) rfl)
    have g103 := zz_G.r G_S1 1039 3 (-2147483648) 2147483647 rfl rfl
    have e104 : S94 1039 3 = S1 1039 3 := (zz_rc fS94 rfl rfl (fun h => h) rfl)
    have g105 := zz_G.r G_S1 1039 4 (-2147483648) 2147483647 rfl rfl
    have e106 : S94 1039 4 = S1 1039 4 := (zz_rc fS94 rfl rfl (fun h => h) rfl)
    have g107 := zz_G.r G_S1 1041 0 (-2147483648) 2147483647 rfl rfl
    have e108 : S94 1041 0 = S1 1041 0 := (zz_rc fS94 rfl rfl (fun h => h) rfl)
    have g109 := zz_G.r G_S94 1041 1 (-2147483648) 2147483647 rfl rfl
    have g110 := zz_G.r G_S1 1041 2 (-2147483648) 2147483647 rfl rfl
    have e111 : S94 1041 2 = S1 1041 2 := (zz_rc fS94 rfl rfl (fun h => h) rfl)
    have g112 := zz_G.r G_S1 1041 3 (-2147483648) 2147483647 rfl rfl
    have e113 : S94 1041 3 = S1 1041 3 := (zz_rc fS94 rfl rfl (fun h => h) rfl)
    have g114 := zz_G.r G_S1 1041 4 (-2147483648) 2147483647 rfl rfl
    have e115 : S94 1041 4 = S1 1041 4 := (zz_rc fS94 rfl rfl (fun h => h) rfl)
    exact zz_vret zd_9_2_232 rfl (Nat.zero_le _) (Nat.zero_le _) ⟨_, rfl, G_S94, F_S94, by omega, by omega, by omega, by omega, by omega, by omega, by omega, by omega, by omega⟩
  by_cases c116 : zz_fy p0 0 15 = 4
  · refine zz_swIn 4 99 c116 (by decide) zd_9_2_75 rfl rfl ?_
    refine zz_aload_n (x := 1037) rfl zd_9_2_174 ?_
    refine zz_iconst zd_9_2_175 ?_
    refine zz_iload (x := zz_fy p0 8 4095) rfl zd_9_2_176 ?_
    refine zz_iload (x := (zz_fy p0 20 63) - 1) rfl zd_9_2_178 ?_
    refine zz_iload (x := zz_fy p0 49 1023) rfl zd_9_2_180 ?_
    refine zz_imul zd_9_2_182 ?_
    have m117 := zz_mulh (a := (zz_fy p0 20 63) - 1) (b := zz_fy p0 49 1023) (-1) 62 1023 (-1023) 63426 (by omega) (by omega) (by decide) (by decide) (by decide) (by decide)
    refine zz_iconst zd_9_2_183 ?_
    refine zz_iload (x := (zz_fy p0 26 31) - 1) rfl zd_9_2_184 ?_
    refine zz_imul zd_9_2_186 ?_
    refine zz_iadd zd_9_2_187 ?_
    refine zz_nme (fun v118 ev118 => ?_)
    refine zz_iconst zd_9_2_188 ?_
    refine zz_iadd zd_9_2_189 ?_
    refine zz_callVV [zi 0, zi (zz_fy p0 8 4095), zi (v118 + 3)] zd_9_2_190 zk_Reaches_33 zT_1037 (zz_ltn hn rfl) rfl rfl ⟨Nat.le_of_ble_eq_true rfl, Nat.le_of_ble_eq_true rfl⟩ ⟨rfl, rfl⟩ (Nat.zero_le _) (Nat.zero_le _) (zc_reads_9_8x_1037_0 (zz_fy p0 8 4095) (v118 + 3) S1 n hn G_S1 (by omega) (by omega)) (fun S119 hP => ?_)
    obtain ⟨G_S119, fS119, o121⟩ := hP
    have F_S119 := zz_fr.trans F_S1 fS119 rfl zz_nv
    refine zz_aload_n (x := 1037) rfl zd_9_2_193 ?_
    refine zz_iconst zd_9_2_194 ?_
    refine zz_iload (x := zz_fy p0 31 511) rfl zd_9_2_195 ?_
    refine zz_iload (x := v38) rfl zd_9_2_197 ?_
    refine zz_callVV [zi 3, zi (zz_fy p0 31 511), zi v38] zd_9_2_199 zk_Reaches_37 zT_1037 (zz_ltn hn rfl) rfl rfl ⟨Nat.le_of_ble_eq_true rfl, Nat.le_of_ble_eq_true rfl⟩ ⟨rfl, rfl⟩ (Nat.zero_le _) (Nat.zero_le _) (zc_writes_9_9x_1037_3 (zz_fy p0 31 511) v38 S119 n hn G_S119 (by omega) (by omega)) (fun S122 hP => ?_)
    obtain ⟨G_S122, fS122, o124⟩ := hP
    have F_S122 := zz_fr.trans F_S119 fS122 rfl zz_nv
    refine zz_goto zd_9_2_202 ?_
    have g125 := zz_G.r G_S119 1039 0 (-2147483648) 2147483647 rfl rfl
    have e126 : S122 1039 0 = S119 1039 0 := (zz_rc fS122 rfl rfl (fun h => h) rfl)
    have g127 := zz_G.r G_S1 1039 1 (-2147483648) 2147483647 rfl rfl
    have e128 : S122 1039 1 = S1 1039 1 := (zz_rc fS122 rfl rfl (fun h => h) (zz_rc fS119 rfl rfl (fun h => h) rfl))
    have g129 := zz_G.r G_S1 1039 2 (-2147483648) 2147483647 rfl rfl
    have e130 : S122 1039 2 = S1 1039 2 := (zz_rc fS122 rfl rfl (fun h => h) (zz_rc fS119 rfl rfl (fun h => h) rfl))
    have g131 := zz_G.r G_S1 1039 3 (-2147483648) 2147483647 rfl rfl
    have e132 : S122 1039 3 = S1 1039 3 := (zz_rc fS122 rfl rfl (fun h => h) (zz_rc fS119 rfl rfl (fun h => h) rfl))
    have g133 := zz_G.r G_S1 1039 4 (-2147483648) 2147483647 rfl rfl
    have e134 : S122 1039 4 = S1 1039 4 := (zz_rc fS122 rfl rfl (fun h => h) (zz_rc fS119 rfl rfl (fun h => h) rfl))
    have g135 := zz_G.r G_S1 1041 0 (-2147483648) 2147483647 rfl rfl
    have e136 : S122 1041 0 = S1 1041 0 := (zz_rc fS122 rfl rfl (fun h => h) (zz_rc fS119 rfl rfl (fun h => h) rfl))
    have g137 := zz_G.r G_S1 1041 1 (-2147483648) 2147483647 rfl rfl
    have e138 : S122 1041 1 = S1 1041 1 := (zz_rc fS122 rfl rfl (fun h => h) (zz_rc fS119 rfl rfl (fun h => h) rfl))
    have g139 := zz_G.r G_S1 1041 2 (-2147483648) 2147483647 rfl rfl
    have e140 : S122 1041 2 = S1 1041 2 := (zz_rc fS122 rfl rfl (fun h => h) (zz_rc fS119 rfl rfl (fun h => h) rfl))
    have g141 := zz_G.r G_S122 1041 3 (-2147483648) 2147483647 rfl rfl
    have g142 := zz_G.r G_S1 1041 4 (-2147483648) 2147483647 rfl rfl
    have e143 : S122 1041 4 = S1 1041 4 := (zz_rc fS122 rfl rfl (fun h => h) (zz_rc fS119 rfl rfl (fun h => h) rfl))
    exact zz_vret zd_9_2_232 rfl (Nat.zero_le _) (Nat.zero_le _) ⟨_, rfl, G_S122, F_S122, by omega, by omega, by omega, by omega, by omega, by omega, by omega, by omega, by omega⟩
  by_cases c144 : zz_fy p0 0 15 = 5
  · refine zz_swIn 5 151 c144 (by decide) zd_9_2_75 rfl rfl ?_
    refine zz_aload_n (x := 1037) rfl zd_9_2_226 ?_
    refine zz_lload_n (x := p0) rfl zd_9_2_227 ?_
    refine zz_iload_n (x := p1) rfl zd_9_2_228 ?_
    have g145 := zz_G.r G_S1 1039 0 (-2147483648) 2147483647 rfl rfl
    have g146 := zz_G.r G_S1 1039 3 (-2147483648) 2147483647 rfl rfl
    have g147 := zz_G.r G_S1 1039 4 (-2147483648) 2147483647 rfl rfl
    have g148 := zz_G.r G_S1 1041 0 (-2147483648) 2147483647 rfl rfl
    have g149 := zz_G.r G_S1 1041 1 (-2147483648) 2147483647 rfl rfl
    have g150 := zz_G.r G_S1 1041 2 (-2147483648) 2147483647 rfl rfl
    have g151 := zz_G.r G_S1 1041 4 (-2147483648) 2147483647 rfl rfl
    have g152 := zz_G.r G_S1 1039 2 (-2147483648) 2147483647 rfl rfl
    have g153 := zz_G.r G_S1 1039 1 (-2147483648) 2147483647 rfl rfl
    have g154 := zz_G.r G_S1 1041 3 (-2147483648) 2147483647 rfl rfl
    refine zz_callVV [zl p0, zi p1] zd_9_2_229 zk_Reaches_40 zT_1037 (zz_ltn hn rfl) rfl rfl ⟨Nat.le_of_ble_eq_true rfl, Nat.le_of_ble_eq_true rfl⟩ ⟨rfl, rfl⟩ (Nat.zero_le _) (Nat.zero_le _) (zc_takeWork_9_5x_1037 p0 p1 S1 n hn G_S1 (by omega) (by omega)) (fun S155 hP => ?_)
    obtain ⟨G_S155, fS155, o157, o158, o159, o160⟩ := hP
    have F_S155 := zz_fr.trans F_S1 fS155 rfl zz_nv
    have e161 : S155 1039 0 = S1 1039 0 := (zz_rc fS155 rfl rfl (fun h => h) rfl)
    have g162 := zz_G.r G_S155 1039 1 (-2147483648) 2147483647 rfl rfl
    have g163 := zz_G.r G_S155 1039 2 (-2147483648) 2147483647 rfl rfl
    have g164 := zz_G.r G_S155 1039 3 (-2147483648) 2147483647 rfl rfl
    have e165 : S155 1039 4 = S1 1039 4 := (zz_rc fS155 rfl rfl (fun h => h) rfl)
    have e166 : S155 1041 0 = S1 1041 0 := (zz_rc fS155 rfl rfl (fun h => h) rfl)
    have e167 : S155 1041 1 = S1 1041 1 := (zz_rc fS155 rfl rfl (fun h => h) rfl)
    have e168 : S155 1041 2 = S1 1041 2 := (zz_rc fS155 rfl rfl (fun h => h) rfl)
    have g169 := zz_G.r G_S155 1041 3 (-2147483648) 2147483647 rfl rfl
    have g170 := zz_G.r G_S155 1041 4 (-2147483648) 2147483647 rfl rfl
    exact zz_vret zd_9_2_232 rfl (Nat.zero_le _) (Nat.zero_le _) ⟨_, rfl, G_S155, F_S155, by omega, by omega, by omega, by omega, by omega, by omega, by omega, by omega, by omega⟩
  by_cases c171 : zz_fy p0 0 15 = 6
  · refine zz_swIn 6 151 c171 (by decide) zd_9_2_75 rfl rfl ?_
    refine zz_aload_n (x := 1037) rfl zd_9_2_226 ?_
    refine zz_lload_n (x := p0) rfl zd_9_2_227 ?_
    refine zz_iload_n (x := p1) rfl zd_9_2_228 ?_
    have g172 := zz_G.r G_S1 1039 0 (-2147483648) 2147483647 rfl rfl
    have g173 := zz_G.r G_S1 1039 3 (-2147483648) 2147483647 rfl rfl
    have g174 := zz_G.r G_S1 1039 4 (-2147483648) 2147483647 rfl rfl
    have g175 := zz_G.r G_S1 1041 0 (-2147483648) 2147483647 rfl rfl
    have g176 := zz_G.r G_S1 1041 1 (-2147483648) 2147483647 rfl rfl
    have g177 := zz_G.r G_S1 1041 2 (-2147483648) 2147483647 rfl rfl
    have g178 := zz_G.r G_S1 1041 4 (-2147483648) 2147483647 rfl rfl
    have g179 := zz_G.r G_S1 1039 2 (-2147483648) 2147483647 rfl rfl
    have g180 := zz_G.r G_S1 1039 1 (-2147483648) 2147483647 rfl rfl
    have g181 := zz_G.r G_S1 1041 3 (-2147483648) 2147483647 rfl rfl
    refine zz_callVV [zl p0, zi p1] zd_9_2_229 zk_Reaches_40 zT_1037 (zz_ltn hn rfl) rfl rfl ⟨Nat.le_of_ble_eq_true rfl, Nat.le_of_ble_eq_true rfl⟩ ⟨rfl, rfl⟩ (Nat.zero_le _) (Nat.zero_le _) (zc_takeWork_9_5x_1037 p0 p1 S1 n hn G_S1 (by omega) (by omega)) (fun S182 hP => ?_)
    obtain ⟨G_S182, fS182, o184, o185, o186, o187⟩ := hP
    have F_S182 := zz_fr.trans F_S1 fS182 rfl zz_nv
    have e188 : S182 1039 0 = S1 1039 0 := (zz_rc fS182 rfl rfl (fun h => h) rfl)
    have g189 := zz_G.r G_S182 1039 1 (-2147483648) 2147483647 rfl rfl
    have g190 := zz_G.r G_S182 1039 2 (-2147483648) 2147483647 rfl rfl
    have g191 := zz_G.r G_S182 1039 3 (-2147483648) 2147483647 rfl rfl
    have e192 : S182 1039 4 = S1 1039 4 := (zz_rc fS182 rfl rfl (fun h => h) rfl)
    have e193 : S182 1041 0 = S1 1041 0 := (zz_rc fS182 rfl rfl (fun h => h) rfl)
    have e194 : S182 1041 1 = S1 1041 1 := (zz_rc fS182 rfl rfl (fun h => h) rfl)
    have e195 : S182 1041 2 = S1 1041 2 := (zz_rc fS182 rfl rfl (fun h => h) rfl)
    have g196 := zz_G.r G_S182 1041 3 (-2147483648) 2147483647 rfl rfl
    have g197 := zz_G.r G_S182 1041 4 (-2147483648) 2147483647 rfl rfl
    exact zz_vret zd_9_2_232 rfl (Nat.zero_le _) (Nat.zero_le _) ⟨_, rfl, G_S182, F_S182, by omega, by omega, by omega, by omega, by omega, by omega, by omega, by omega, by omega⟩
  by_cases c198 : zz_fy p0 0 15 = 7
  · refine zz_swIn 7 151 c198 (by decide) zd_9_2_75 rfl rfl ?_
    refine zz_aload_n (x := 1037) rfl zd_9_2_226 ?_
    refine zz_lload_n (x := p0) rfl zd_9_2_227 ?_
    refine zz_iload_n (x := p1) rfl zd_9_2_228 ?_
    have g199 := zz_G.r G_S1 1039 0 (-2147483648) 2147483647 rfl rfl
    have g200 := zz_G.r G_S1 1039 3 (-2147483648) 2147483647 rfl rfl
    have g201 := zz_G.r G_S1 1039 4 (-2147483648) 2147483647 rfl rfl
    have g202 := zz_G.r G_S1 1041 0 (-2147483648) 2147483647 rfl rfl
    have g203 := zz_G.r G_S1 1041 1 (-2147483648) 2147483647 rfl rfl
    have g204 := zz_G.r G_S1 1041 2 (-2147483648) 2147483647 rfl rfl
    have g205 := zz_G.r G_S1 1041 4 (-2147483648) 2147483647 rfl rfl
    have g206 := zz_G.r G_S1 1039 2 (-2147483648) 2147483647 rfl rfl
    have g207 := zz_G.r G_S1 1039 1 (-2147483648) 2147483647 rfl rfl
    have g208 := zz_G.r G_S1 1041 3 (-2147483648) 2147483647 rfl rfl
    refine zz_callVV [zl p0, zi p1] zd_9_2_229 zk_Reaches_40 zT_1037 (zz_ltn hn rfl) rfl rfl ⟨Nat.le_of_ble_eq_true rfl, Nat.le_of_ble_eq_true rfl⟩ ⟨rfl, rfl⟩ (Nat.zero_le _) (Nat.zero_le _) (zc_takeWork_9_5x_1037 p0 p1 S1 n hn G_S1 (by omega) (by omega)) (fun S209 hP => ?_)
    obtain ⟨G_S209, fS209, o211, o212, o213, o214⟩ := hP
    have F_S209 := zz_fr.trans F_S1 fS209 rfl zz_nv
    have e215 : S209 1039 0 = S1 1039 0 := (zz_rc fS209 rfl rfl (fun h => h) rfl)
    have g216 := zz_G.r G_S209 1039 1 (-2147483648) 2147483647 rfl rfl
    have g217 := zz_G.r G_S209 1039 2 (-2147483648) 2147483647 rfl rfl
    have g218 := zz_G.r G_S209 1039 3 (-2147483648) 2147483647 rfl rfl
    have e219 : S209 1039 4 = S1 1039 4 := (zz_rc fS209 rfl rfl (fun h => h) rfl)
    have e220 : S209 1041 0 = S1 1041 0 := (zz_rc fS209 rfl rfl (fun h => h) rfl)
    have e221 : S209 1041 1 = S1 1041 1 := (zz_rc fS209 rfl rfl (fun h => h) rfl)
    have e222 : S209 1041 2 = S1 1041 2 := (zz_rc fS209 rfl rfl (fun h => h) rfl)
    have g223 := zz_G.r G_S209 1041 3 (-2147483648) 2147483647 rfl rfl
    have g224 := zz_G.r G_S209 1041 4 (-2147483648) 2147483647 rfl rfl
    exact zz_vret zd_9_2_232 rfl (Nat.zero_le _) (Nat.zero_le _) ⟨_, rfl, G_S209, F_S209, by omega, by omega, by omega, by omega, by omega, by omega, by omega, by omega, by omega⟩
  by_cases c225 : zz_fy p0 0 15 = 8
  · refine zz_swIn 8 130 c225 (by decide) zd_9_2_75 rfl rfl ?_
    refine zz_aload_n (x := 1037) rfl zd_9_2_205 ?_
    refine zz_iconst zd_9_2_206 ?_
    refine zz_iload (x := zz_fy p0 31 511) rfl zd_9_2_207 ?_
    refine zz_iload (x := v38) rfl zd_9_2_209 ?_
    refine zz_callVV [zi 4, zi (zz_fy p0 31 511), zi v38] zd_9_2_211 zk_Reaches_33 zT_1037 (zz_ltn hn rfl) rfl rfl ⟨Nat.le_of_ble_eq_true rfl, Nat.le_of_ble_eq_true rfl⟩ ⟨rfl, rfl⟩ (Nat.zero_le _) (Nat.zero_le _) (zc_reads_9_8x_1037_4 (zz_fy p0 31 511) v38 S1 n hn G_S1 (by omega) (by omega)) (fun S226 hP => ?_)
    obtain ⟨G_S226, fS226, o228⟩ := hP
    have F_S226 := zz_fr.trans F_S1 fS226 rfl zz_nv
    refine zz_aload_n (x := 1037) rfl zd_9_2_214 ?_
    refine zz_iconst zd_9_2_215 ?_
    refine zz_iload (x := zz_fy p0 8 4095) rfl zd_9_2_216 ?_
    refine zz_iload (x := v40) rfl zd_9_2_218 ?_
    refine zz_callVV [zi 0, zi (zz_fy p0 8 4095), zi v40] zd_9_2_220 zk_Reaches_37 zT_1037 (zz_ltn hn rfl) rfl rfl ⟨Nat.le_of_ble_eq_true rfl, Nat.le_of_ble_eq_true rfl⟩ ⟨rfl, rfl⟩ (Nat.zero_le _) (Nat.zero_le _) (zc_writes_9_9x_1037_0 (zz_fy p0 8 4095) v40 S226 n hn G_S226 (by omega) (by omega)) (fun S229 hP => ?_)
    obtain ⟨G_S229, fS229, o231⟩ := hP
    have F_S229 := zz_fr.trans F_S226 fS229 rfl zz_nv
    refine zz_goto zd_9_2_223 ?_
    have g232 := zz_G.r G_S1 1039 0 (-2147483648) 2147483647 rfl rfl
    have e233 : S229 1039 0 = S1 1039 0 := (zz_rc fS229 rfl rfl (fun h => h) (zz_rc fS226 rfl rfl (fun h => h) rfl))
    have g234 := zz_G.r G_S1 1039 1 (-2147483648) 2147483647 rfl rfl
    have e235 : S229 1039 1 = S1 1039 1 := (zz_rc fS229 rfl rfl (fun h => h) (zz_rc fS226 rfl rfl (fun h => h) rfl))
    have g236 := zz_G.r G_S1 1039 2 (-2147483648) 2147483647 rfl rfl
    have e237 : S229 1039 2 = S1 1039 2 := (zz_rc fS229 rfl rfl (fun h => h) (zz_rc fS226 rfl rfl (fun h => h) rfl))
    have g238 := zz_G.r G_S1 1039 3 (-2147483648) 2147483647 rfl rfl
    have e239 : S229 1039 3 = S1 1039 3 := (zz_rc fS229 rfl rfl (fun h => h) (zz_rc fS226 rfl rfl (fun h => h) rfl))
    have g240 := zz_G.r G_S226 1039 4 (-2147483648) 2147483647 rfl rfl
    have e241 : S229 1039 4 = S226 1039 4 := (zz_rc fS229 rfl rfl (fun h => h) rfl)
    have g242 := zz_G.r G_S229 1041 0 (-2147483648) 2147483647 rfl rfl
    have g243 := zz_G.r G_S1 1041 1 (-2147483648) 2147483647 rfl rfl
    have e244 : S229 1041 1 = S1 1041 1 := (zz_rc fS229 rfl rfl (fun h => h) (zz_rc fS226 rfl rfl (fun h => h) rfl))
    have g245 := zz_G.r G_S1 1041 2 (-2147483648) 2147483647 rfl rfl
    have e246 : S229 1041 2 = S1 1041 2 := (zz_rc fS229 rfl rfl (fun h => h) (zz_rc fS226 rfl rfl (fun h => h) rfl))
    have g247 := zz_G.r G_S1 1041 3 (-2147483648) 2147483647 rfl rfl
    have e248 : S229 1041 3 = S1 1041 3 := (zz_rc fS229 rfl rfl (fun h => h) (zz_rc fS226 rfl rfl (fun h => h) rfl))
    have g249 := zz_G.r G_S1 1041 4 (-2147483648) 2147483647 rfl rfl
    have e250 : S229 1041 4 = S1 1041 4 := (zz_rc fS229 rfl rfl (fun h => h) (zz_rc fS226 rfl rfl (fun h => h) rfl))
    exact zz_vret zd_9_2_232 rfl (Nat.zero_le _) (Nat.zero_le _) ⟨_, rfl, G_S229, F_S229, by omega, by omega, by omega, by omega, by omega, by omega, by omega, by omega, by omega⟩
  refine zz_swOut (by omega) (by omega) zd_9_2_75 rfl ?_
  refine zz_aload_n (x := 1037) rfl zd_9_2_226 ?_
  refine zz_lload_n (x := p0) rfl zd_9_2_227 ?_
  refine zz_iload_n (x := p1) rfl zd_9_2_228 ?_
  have g252 := zz_G.r G_S1 1039 0 (-2147483648) 2147483647 rfl rfl
  have g253 := zz_G.r G_S1 1039 3 (-2147483648) 2147483647 rfl rfl
  have g254 := zz_G.r G_S1 1039 4 (-2147483648) 2147483647 rfl rfl
  have g255 := zz_G.r G_S1 1041 0 (-2147483648) 2147483647 rfl rfl
  have g256 := zz_G.r G_S1 1041 1 (-2147483648) 2147483647 rfl rfl
  have g257 := zz_G.r G_S1 1041 2 (-2147483648) 2147483647 rfl rfl
  have g258 := zz_G.r G_S1 1041 4 (-2147483648) 2147483647 rfl rfl
  have g259 := zz_G.r G_S1 1039 2 (-2147483648) 2147483647 rfl rfl
  have g260 := zz_G.r G_S1 1039 1 (-2147483648) 2147483647 rfl rfl
  have g261 := zz_G.r G_S1 1041 3 (-2147483648) 2147483647 rfl rfl
  refine zz_callVV [zl p0, zi p1] zd_9_2_229 zk_Reaches_40 zT_1037 (zz_ltn hn rfl) rfl rfl ⟨Nat.le_of_ble_eq_true rfl, Nat.le_of_ble_eq_true rfl⟩ ⟨rfl, rfl⟩ (Nat.zero_le _) (Nat.zero_le _) (zc_takeWork_9_5x_1037 p0 p1 S1 n hn G_S1 (by omega) (by omega)) (fun S262 hP => ?_)
  obtain ⟨G_S262, fS262, o264, o265, o266, o267⟩ := hP
  have F_S262 := zz_fr.trans F_S1 fS262 rfl zz_nv
  have e268 : S262 1039 0 = S1 1039 0 := (zz_rc fS262 rfl rfl (fun h => h) rfl)
  have g269 := zz_G.r G_S262 1039 1 (-2147483648) 2147483647 rfl rfl
  have g270 := zz_G.r G_S262 1039 2 (-2147483648) 2147483647 rfl rfl
  have g271 := zz_G.r G_S262 1039 3 (-2147483648) 2147483647 rfl rfl
  have e272 : S262 1039 4 = S1 1039 4 := (zz_rc fS262 rfl rfl (fun h => h) rfl)
  have e273 : S262 1041 0 = S1 1041 0 := (zz_rc fS262 rfl rfl (fun h => h) rfl)
  have e274 : S262 1041 1 = S1 1041 1 := (zz_rc fS262 rfl rfl (fun h => h) rfl)
  have e275 : S262 1041 2 = S1 1041 2 := (zz_rc fS262 rfl rfl (fun h => h) rfl)
  have g276 := zz_G.r G_S262 1041 3 (-2147483648) 2147483647 rfl rfl
  have g277 := zz_G.r G_S262 1041 4 (-2147483648) 2147483647 rfl rfl
  exact zz_vret zd_9_2_232 rfl (Nat.zero_le _) (Nat.zero_le _) ⟨_, rfl, G_S262, F_S262, by omega, by omega, by omega, by omega, by omega, by omega, by omega, by omega, by omega⟩
theorem zk_Machine_64 : mm_Vl "TensorForge$Machine" 64 4 2 zy_take_9_2 := ⟨zyw_take_9_2, (R_Reaches, F_Reaches, 4), rfl, mm_tb_1 523 (by decide +kernel) rfl, mm_tb_1 524 (by decide +kernel) rfl, mm_tb_1 525 (by decide +kernel) rfl⟩
abbrev zy_areThere_9_3 : mm_Y := (⟨"TensorForge$Reaches", "areThere", "()Z"⟩, prog_9_method_3_code, 2, (some .boolean))
theorem zyw_areThere_9_3 : mm_Yw zy_areThere_9_3 0 := ⟨mm_tb_1 554 (by decide +kernel) rfl, mm_tb_1 5 (by decide +kernel) rfl, ⟨by decide, by decide⟩, by decide +kernel⟩
theorem zs_Reaches_44 : Cond.fieldLink "TensorForge$Reaches" 44 "TensorForge$Reaches" "SIZES" "[I" ∈ mm_tb := mm_tb_1 555 (by decide +kernel) rfl
theorem zg_6_6_44 : zq_at zy_forbids_6_6.2.1 44 42 ∧ zq_at zy_forbids_6_6.2.1 45 180 ∧ zq_at zy_forbids_6_6.2.1 46 0 ∧ zq_at zy_forbids_6_6.2.1 47 32 ∧ zq_at zy_forbids_6_6.2.1 48 182 ∧ zq_at zy_forbids_6_6.2.1 49 0 ∧ zq_at zy_forbids_6_6.2.1 50 68 := by decide +kernel
theorem zd_6_6_44 : zz_D zy_forbids_6_6 44 (.aload_n 0) 1 45 := ⟨zq_42 zg_6_6_44.1, rfl⟩
theorem zd_6_6_45 : zz_D zy_forbids_6_6 45 (.getfield 32) 3 48 := ⟨zq_180 zg_6_6_44.2.1 zg_6_6_44.2.2.1 zg_6_6_44.2.2.2.1 rfl, rfl⟩
theorem zd_6_6_48 : zz_D zy_forbids_6_6 48 (.invokevirtual 68) 3 51 := ⟨zq_182 zg_6_6_44.2.2.2.2.1 zg_6_6_44.2.2.2.2.2.1 zg_6_6_44.2.2.2.2.2.2 rfl, rfl⟩
theorem zg_9_3_0 : zq_at zy_areThere_9_3.2.1 0 3 ∧ zq_at zy_areThere_9_3.2.1 1 60 ∧ zq_at zy_areThere_9_3.2.1 2 27 ∧ zq_at zy_areThere_9_3.2.1 3 8 ∧ zq_at zy_areThere_9_3.2.1 4 162 ∧ zq_at zy_areThere_9_3.2.1 5 0 ∧ zq_at zy_areThere_9_3.2.1 6 39 ∧ zq_at zy_areThere_9_3.2.1 7 42 ∧ zq_at zy_areThere_9_3.2.1 8 180 ∧ zq_at zy_areThere_9_3.2.1 9 0 ∧ zq_at zy_areThere_9_3.2.1 10 15 ∧ zq_at zy_areThere_9_3.2.1 11 27 ∧ zq_at zy_areThere_9_3.2.1 12 46 ∧ zq_at zy_areThere_9_3.2.1 13 178 ∧ zq_at zy_areThere_9_3.2.1 14 0 ∧ zq_at zy_areThere_9_3.2.1 15 44 ∧ zq_at zy_areThere_9_3.2.1 16 27 ∧ zq_at zy_areThere_9_3.2.1 17 46 ∧ zq_at zy_areThere_9_3.2.1 18 162 ∧ zq_at zy_areThere_9_3.2.1 19 0 ∧ zq_at zy_areThere_9_3.2.1 20 17 ∧ zq_at zy_areThere_9_3.2.1 35 3 ∧ zq_at zy_areThere_9_3.2.1 36 172 ∧ zq_at zy_areThere_9_3.2.1 21 42 := by decide +kernel
theorem zd_9_3_0 : zz_D zy_areThere_9_3 0 (.iconst 0) 1 1 := ⟨zq_3 zg_9_3_0.1, rfl⟩
theorem zd_9_3_1 : zz_D zy_areThere_9_3 1 (.istore_n 1) 1 2 := ⟨zq_60 zg_9_3_0.2.1, rfl⟩
theorem zd_9_3_2 : zz_D zy_areThere_9_3 2 (.iload_n 1) 1 3 := ⟨zq_27 zg_9_3_0.2.2.1, rfl⟩
theorem zd_9_3_3 : zz_D zy_areThere_9_3 3 (.iconst 5) 1 4 := ⟨zq_8 zg_9_3_0.2.2.2.1, rfl⟩
theorem zd_9_3_4 : zz_B zy_areThere_9_3 4 (Instr.if_icmp .ge) 43 7 := ⟨39, zq_162 zg_9_3_0.2.2.2.2.1 zg_9_3_0.2.2.2.2.2.1 zg_9_3_0.2.2.2.2.2.2.1 (by decide), rfl, rfl⟩
theorem zd_9_3_7 : zz_D zy_areThere_9_3 7 (.aload_n 0) 1 8 := ⟨zq_42 zg_9_3_0.2.2.2.2.2.2.2.1, rfl⟩
theorem zd_9_3_8 : zz_D zy_areThere_9_3 8 (.getfield 15) 3 11 := ⟨zq_180 zg_9_3_0.2.2.2.2.2.2.2.2.1 zg_9_3_0.2.2.2.2.2.2.2.2.2.1 zg_9_3_0.2.2.2.2.2.2.2.2.2.2.1 rfl, rfl⟩
theorem zd_9_3_11 : zz_D zy_areThere_9_3 11 (.iload_n 1) 1 12 := ⟨zq_27 zg_9_3_0.2.2.2.2.2.2.2.2.2.2.2.1, rfl⟩
theorem zd_9_3_12 : zz_D zy_areThere_9_3 12 (.iaload) 1 13 := ⟨zq_46 zg_9_3_0.2.2.2.2.2.2.2.2.2.2.2.2.1, rfl⟩
theorem zd_9_3_13 : zz_D zy_areThere_9_3 13 (.getstatic 44) 3 16 := ⟨zq_178 zg_9_3_0.2.2.2.2.2.2.2.2.2.2.2.2.2.1 zg_9_3_0.2.2.2.2.2.2.2.2.2.2.2.2.2.2.1 zg_9_3_0.2.2.2.2.2.2.2.2.2.2.2.2.2.2.2.1 rfl, rfl⟩
theorem zd_9_3_16 : zz_D zy_areThere_9_3 16 (.iload_n 1) 1 17 := ⟨zq_27 zg_9_3_0.2.2.2.2.2.2.2.2.2.2.2.2.2.2.2.2.1, rfl⟩
theorem zd_9_3_17 : zz_D zy_areThere_9_3 17 (.iaload) 1 18 := ⟨zq_46 zg_9_3_0.2.2.2.2.2.2.2.2.2.2.2.2.2.2.2.2.2.1, rfl⟩
theorem zd_9_3_18 : zz_B zy_areThere_9_3 18 (Instr.if_icmp .ge) 35 21 := ⟨17, zq_162 zg_9_3_0.2.2.2.2.2.2.2.2.2.2.2.2.2.2.2.2.2.2.1 zg_9_3_0.2.2.2.2.2.2.2.2.2.2.2.2.2.2.2.2.2.2.2.1 zg_9_3_0.2.2.2.2.2.2.2.2.2.2.2.2.2.2.2.2.2.2.2.2.1 (by decide), rfl, rfl⟩
theorem zd_9_3_35 : zz_D zy_areThere_9_3 35 (.iconst 0) 1 36 := ⟨zq_3 zg_9_3_0.2.2.2.2.2.2.2.2.2.2.2.2.2.2.2.2.2.2.2.2.2.1, rfl⟩
theorem zd_9_3_36 : zz_D zy_areThere_9_3 36 (.ireturn) 1 37 := ⟨zq_172 zg_9_3_0.2.2.2.2.2.2.2.2.2.2.2.2.2.2.2.2.2.2.2.2.2.2.1, rfl⟩
theorem zd_9_3_21 : zz_D zy_areThere_9_3 21 (.aload_n 0) 1 22 := ⟨zq_42 zg_9_3_0.2.2.2.2.2.2.2.2.2.2.2.2.2.2.2.2.2.2.2.2.2.2.2, rfl⟩
theorem zg_9_3_22 : zq_at zy_areThere_9_3.2.1 22 180 ∧ zq_at zy_areThere_9_3.2.1 23 0 ∧ zq_at zy_areThere_9_3.2.1 24 21 ∧ zq_at zy_areThere_9_3.2.1 25 27 ∧ zq_at zy_areThere_9_3.2.1 26 46 ∧ zq_at zy_areThere_9_3.2.1 27 178 ∧ zq_at zy_areThere_9_3.2.1 28 0 ∧ zq_at zy_areThere_9_3.2.1 29 44 ∧ zq_at zy_areThere_9_3.2.1 30 27 ∧ zq_at zy_areThere_9_3.2.1 31 46 ∧ zq_at zy_areThere_9_3.2.1 32 161 ∧ zq_at zy_areThere_9_3.2.1 33 0 ∧ zq_at zy_areThere_9_3.2.1 34 5 ∧ zq_at zy_areThere_9_3.2.1 37 132 ∧ zq_at zy_areThere_9_3.2.1 38 1 ∧ zq_at zy_areThere_9_3.2.1 39 1 ∧ zq_at zy_areThere_9_3.2.1 40 167 ∧ zq_at zy_areThere_9_3.2.1 41 255 ∧ zq_at zy_areThere_9_3.2.1 42 218 ∧ zq_at zy_areThere_9_3.2.1 43 4 ∧ zq_at zy_areThere_9_3.2.1 44 172 := by decide +kernel
theorem zd_9_3_22 : zz_D zy_areThere_9_3 22 (.getfield 21) 3 25 := ⟨zq_180 zg_9_3_22.1 zg_9_3_22.2.1 zg_9_3_22.2.2.1 rfl, rfl⟩
theorem zd_9_3_25 : zz_D zy_areThere_9_3 25 (.iload_n 1) 1 26 := ⟨zq_27 zg_9_3_22.2.2.2.1, rfl⟩
theorem zd_9_3_26 : zz_D zy_areThere_9_3 26 (.iaload) 1 27 := ⟨zq_46 zg_9_3_22.2.2.2.2.1, rfl⟩
theorem zd_9_3_27 : zz_D zy_areThere_9_3 27 (.getstatic 44) 3 30 := ⟨zq_178 zg_9_3_22.2.2.2.2.2.1 zg_9_3_22.2.2.2.2.2.2.1 zg_9_3_22.2.2.2.2.2.2.2.1 rfl, rfl⟩
theorem zd_9_3_30 : zz_D zy_areThere_9_3 30 (.iload_n 1) 1 31 := ⟨zq_27 zg_9_3_22.2.2.2.2.2.2.2.2.1, rfl⟩
theorem zd_9_3_31 : zz_D zy_areThere_9_3 31 (.iaload) 1 32 := ⟨zq_46 zg_9_3_22.2.2.2.2.2.2.2.2.2.1, rfl⟩
theorem zd_9_3_32 : zz_B zy_areThere_9_3 32 (Instr.if_icmp .lt) 37 35 := ⟨5, zq_161 zg_9_3_22.2.2.2.2.2.2.2.2.2.2.1 zg_9_3_22.2.2.2.2.2.2.2.2.2.2.2.1 zg_9_3_22.2.2.2.2.2.2.2.2.2.2.2.2.1 (by decide), rfl, rfl⟩
theorem zd_9_3_37 : zz_D zy_areThere_9_3 37 (.iinc 1 1) 3 40 := ⟨zq_132 zg_9_3_22.2.2.2.2.2.2.2.2.2.2.2.2.2.1 zg_9_3_22.2.2.2.2.2.2.2.2.2.2.2.2.2.2.1 zg_9_3_22.2.2.2.2.2.2.2.2.2.2.2.2.2.2.2.1 (by decide), rfl⟩
theorem zd_9_3_40 : zz_B zy_areThere_9_3 40 Instr.goto 2 43 := ⟨(-38), zq_167 zg_9_3_22.2.2.2.2.2.2.2.2.2.2.2.2.2.2.2.2.1 zg_9_3_22.2.2.2.2.2.2.2.2.2.2.2.2.2.2.2.2.2.1 zg_9_3_22.2.2.2.2.2.2.2.2.2.2.2.2.2.2.2.2.2.2.1 (by decide), rfl, rfl⟩
theorem zd_9_3_43 : zz_D zy_areThere_9_3 43 (.iconst 1) 1 44 := ⟨zq_4 zg_9_3_22.2.2.2.2.2.2.2.2.2.2.2.2.2.2.2.2.2.2.2.1, rfl⟩
theorem zd_9_3_44 : zz_D zy_areThere_9_3 44 (.ireturn) 1 45 := ⟨zq_172 zg_9_3_22.2.2.2.2.2.2.2.2.2.2.2.2.2.2.2.2.2.2.2.2, rfl⟩

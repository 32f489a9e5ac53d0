abbrev zy_side_L : mm_Y := (⟨"TensorForgeLaw", "side", "(LTensorForge;I)I"⟩, method_3_code, 3, (some .int))
abbrev zxL_side_L : List ((Nat × Nat × Nat × Nat) × Nat) := [((0, 5, 8, 13), 0)]
theorem zxY_side_L : Cond.codeWith zy_side_L.1 zy_side_L.2.1 zy_side_L.2.2.1 zy_side_L.2.2.2 (zxL_side_L.map Prod.fst) ∈ mm_tb := mm_tb_1 1042 (by decide +kernel) rfl
theorem zxC_side_L : ∀ z ∈ zxL_side_L, Cond.classLink zy_side_L.1.cls z.1.2.2.2 (mm_xn z.2) ∈ mm_tb ∧ z.1.2.2.2 ≠ 0 ∧ z.2 < 4 := by
  intro z hz
  simp only [List.mem_cons, List.not_mem_nil, or_false] at hz
  rcases hz with rfl
  · exact ⟨mm_tb_1 1043 (by decide +kernel) rfl, by decide, by decide⟩
theorem zk_TFLaw_7 : mm_Vl "TensorForgeLaw" 7 0 1 zy_side_1_2 := ⟨zyw_side_1_2, (R_TF, F_TF, 12), rfl, mm_tb_1 1044 (by decide +kernel) rfl, mm_tb_1 1045 (by decide +kernel) rfl, mm_tb_1 1046 (by decide +kernel) rfl⟩
theorem zd_L_side_0 : zz_D zy_side_L 0 (.aload_n 0) 1 1 := ⟨by decide +kernel, rfl⟩
theorem zd_L_side_1 : zz_D zy_side_L 1 (.iload_n 1) 1 2 := ⟨by decide +kernel, rfl⟩
theorem zd_L_side_2 : zz_D zy_side_L 2 (.invokevirtual 7) 3 5 := ⟨by decide +kernel, rfl⟩
theorem zd_L_side_8 : zz_D zy_side_L 8 (.astore_n 2) 1 9 := ⟨by decide +kernel, rfl⟩
theorem zd_L_side_9 : zz_D zy_side_L 9 (.iconst 1) 1 10 := ⟨by decide +kernel, rfl⟩
theorem zd_L_side_10 : zz_D zy_side_L 10 (.ireturn) 1 11 := ⟨by decide +kernel, rfl⟩
theorem zd_L_side_5 : zz_B zy_side_L 5 Instr.goto 11 8 := ⟨6, by decide +kernel, rfl, rfl⟩
theorem zd_L_side_11 : zz_D zy_side_L 11 (.iconst 0) 1 12 := ⟨by decide +kernel, rfl⟩
theorem zd_L_side_12 : zz_D zy_side_L 12 (.ireturn) 1 13 := ⟨by decide +kernel, rfl⟩
-- TensorForgeLaw side (LTensorForge;I)I
abbrev zr_side_L : Room := { frames := 7, cells := 1, slots := 6, locals := 95 }
def zp_side_L (p1 : Int) (S0 : zz_S) : Int → zz_S → Prop := fun r S => zz_G S ∧ zz_fr [(1031, 6)] [1033, 1034, 1035, 1036] (fun a i => (a = zz_rf 3 (S0 1000 7) ∧ i = 1)) S0 S ∧ ((-2147483648) ≤ r ∧ r ≤ 2147483647) ∧ ((2 ≤ p1 ∧ p1 ≤ 8 ∧ r = 0 ∧ S 1031 6 = p1) ∨ ((p1 < 2 ∨ 8 < p1) ∧ r = 1 ∧ S 1031 6 = S0 1031 6)) ∧ (r = 0 → ∀ v : zn_T, zn_C S0 (S0 1000 7) v → zn_V v → zn_C S (S0 1000 7) (zn_dp v)) ∧ (r ≠ 0 → ∀ v : zn_T, zn_V v → zn_C S0 (S0 1000 7) v → zn_C S (S0 1000 7) v) ∧ (zz_Hc S)
theorem zc_side_L {g : mm_G} {l : Launch} (p1 : Int) (S0 : zz_S) (n : Nat) (hn : zz_end ≤ n) (hfl : l.flags = flags0) (G_S0 : zz_G S0) (hp1 : (-2147483648) ≤ p1 ∧ p1 ≤ 2147483647) (H_S0 : zz_Hc S0) : mm_MetH g l zy_side_L [(0, 5, 8, 13)] zr_side_L [.ref 1000, zi p1] (zz_M S0 n) n (zz_QW n (zp_side_L p1 S0)) := by
  refine zz_enterH (by decide) (Nat.le_of_ble_eq_true rfl) (zz_less (ls1 := [some (.ref 1000), some (zi p1)]) ⟨rfl, ⟨rfl, trivial⟩⟩ ?_)
  have F_S0 : zz_fr [(1031, 6)] [1033, 1034, 1035, 1036] (fun a i => (a = zz_rf 3 (S0 1000 7) ∧ i = 1)) S0 S0 := zz_fr.refl
  refine zz_aload_n (x := 1000) rfl zd_L_side_0 ?_
  refine zz_iload_n (x := p1) rfl zd_L_side_1 ?_
  have g1 := zz_G.r G_S0 1000 7 0 1 rfl rfl
  refine zz_callVCV [zi p1] zd_L_side_2 zk_TFLaw_7 zT_1000 (zz_ltn hn rfl) rfl rfl ⟨Nat.le_of_ble_eq_true rfl, Nat.le_of_ble_eq_true rfl⟩ (Nat.le_of_ble_eq_true rfl) (Nat.le_of_ble_eq_true rfl) (zc_side_1_2 p1 S0 n hn hfl G_S0 (by omega) H_S0) (fun i SX hX => ?_) (fun S4 hP => ?_)
  · obtain ⟨GX, fX, x0, x1, x2, x3, x4⟩ := hX
    have g10 := zz_G.r G_S0 1000 7 0 1 rfl rfl
    have FX := zz_fr.trans F_S0 fX rfl (fun a i h => Or.inr (Or.inr (h)))
    rcases (by omega : i = 0) with rfl
    · refine zz_catch (q := 2) zxL_side_L zxY_side_L zxC_side_L (by decide) rfl zd_L_side_8 (by decide) ?_
      refine zz_iconst zd_L_side_9 ?_
      exact zz_iret zd_L_side_10 rfl (Nat.le_of_ble_eq_true rfl) (Nat.le_of_ble_eq_true rfl) ⟨_, _, 1, rfl, Nat.le_refl _, GX, FX, by omega, by omega, fun h => absurd h (by decide), (fun _ v _ h => x3 v h), x4⟩
  obtain ⟨G_S4, fS4, o6, o7, o8, o9⟩ := hP
  have F_S4 := zz_fr.trans F_S0 fS4 rfl (fun a i h => Or.inr (Or.inr (h)))
  refine zz_goto zd_L_side_5 ?_
  refine zz_iconst zd_L_side_11 ?_
  have g11 := zz_G.r G_S4 1031 6 2 8 rfl rfl
  exact zz_iret zd_L_side_12 rfl (Nat.le_of_ble_eq_true rfl) (Nat.le_of_ble_eq_true rfl) ⟨_, _, 0, rfl, Nat.zero_le _, G_S4, F_S4, by omega, by omega, (fun _ => o8), fun h => absurd rfl h, o9⟩
abbrev zy_memory_L : mm_Y := (⟨"TensorForgeLaw", "memory", "(LTensorForge;II)I"⟩, method_4_code, 4, (some .int))
abbrev zxL_memory_L : List ((Nat × Nat × Nat × Nat) × Nat) := [((0, 6, 9, 19), 1)]
theorem zxY_memory_L : Cond.codeWith zy_memory_L.1 zy_memory_L.2.1 zy_memory_L.2.2.1 zy_memory_L.2.2.2 (zxL_memory_L.map Prod.fst) ∈ mm_tb := mm_tb_1 1127 (by decide +kernel) rfl
theorem zxC_memory_L : ∀ z ∈ zxL_memory_L, Cond.classLink zy_memory_L.1.cls z.1.2.2.2 (mm_xn z.2) ∈ mm_tb ∧ z.1.2.2.2 ≠ 0 ∧ z.2 < 4 := by
  intro z hz
  simp only [List.mem_cons, List.not_mem_nil, or_false] at hz
  rcases hz with rfl
  · exact ⟨mm_tb_1 1128 (by decide +kernel) rfl, by decide, by decide⟩
theorem zk_TFLaw_15 : mm_Vl "TensorForgeLaw" 15 0 2 zy_memory_1_3 := ⟨zyw_memory_1_3, (R_TF, F_TF, 12), rfl, mm_tb_1 1129 (by decide +kernel) rfl, mm_tb_1 1130 (by decide +kernel) rfl, mm_tb_1 1131 (by decide +kernel) rfl⟩
theorem zd_L_memory_0 : zz_D zy_memory_L 0 (.aload_n 0) 1 1 := ⟨by decide +kernel, rfl⟩
theorem zd_L_memory_1 : zz_D zy_memory_L 1 (.iload_n 1) 1 2 := ⟨by decide +kernel, rfl⟩
theorem zd_L_memory_2 : zz_D zy_memory_L 2 (.iload_n 2) 1 3 := ⟨by decide +kernel, rfl⟩
theorem zd_L_memory_3 : zz_D zy_memory_L 3 (.invokevirtual 15) 3 6 := ⟨by decide +kernel, rfl⟩
theorem zd_L_memory_9 : zz_D zy_memory_L 9 (.astore_n 3) 1 10 := ⟨by decide +kernel, rfl⟩
theorem zd_L_memory_10 : zz_D zy_memory_L 10 (.iconst 1) 1 11 := ⟨by decide +kernel, rfl⟩
theorem zd_L_memory_11 : zz_D zy_memory_L 11 (.ireturn) 1 12 := ⟨by decide +kernel, rfl⟩
theorem zd_L_memory_6 : zz_B zy_memory_L 6 Instr.goto 12 9 := ⟨6, by decide +kernel, rfl, rfl⟩
theorem zd_L_memory_12 : zz_D zy_memory_L 12 (.iconst 0) 1 13 := ⟨by decide +kernel, rfl⟩
theorem zd_L_memory_13 : zz_D zy_memory_L 13 (.ireturn) 1 14 := ⟨by decide +kernel, rfl⟩
-- TensorForgeLaw memory (LTensorForge;II)I
abbrev zr_memory_L : Room := { frames := 7, cells := 1, slots := 6, locals := 96 }
def zp_memory_L (p1 : Int) (p2 : Int) (S0 : zz_S) : Int → zz_S → Prop := fun r S => zz_G S ∧ zz_fr [] [1032] (fun _ _ => False) S0 S ∧ ((-2147483648) ≤ r ∧ r ≤ 2147483647) ∧ ((0 ≤ p1 ∧ p1 ≤ 4092 ∧ r = 0) ∨ ((p1 < 0 ∨ 4092 < p1) ∧ r = 1))
theorem zc_memory_L {g : mm_G} {l : Launch} (p1 : Int) (p2 : Int) (S0 : zz_S) (n : Nat) (hn : zz_end ≤ n) (hfl : l.flags = flags0) (G_S0 : zz_G S0) (hp1 : (-2147483648) ≤ p1 ∧ p1 ≤ 2147483647) (hp2 : (-2147483648) ≤ p2 ∧ p2 ≤ 2147483647) : mm_MetH g l zy_memory_L [(0, 6, 9, 19)] zr_memory_L [.ref 1000, zi p1, zi p2] (zz_M S0 n) n (zz_QW n (zp_memory_L p1 p2 S0)) := by
  refine zz_enterH (by decide) (Nat.le_of_ble_eq_true rfl) (zz_less (ls1 := [some (.ref 1000), some (zi p1), some (zi p2)]) ⟨rfl, ⟨rfl, ⟨rfl, trivial⟩⟩⟩ ?_)
  have F_S0 : zz_fr [] [1032] (fun _ _ => False) S0 S0 := zz_fr.refl
  refine zz_aload_n (x := 1000) rfl zd_L_memory_0 ?_
  refine zz_iload_n (x := p1) rfl zd_L_memory_1 ?_
  refine zz_iload_n (x := p2) rfl zd_L_memory_2 ?_
  refine zz_callVCV [zi p1, zi p2] zd_L_memory_3 zk_TFLaw_15 zT_1000 (zz_ltn hn rfl) rfl rfl ⟨Nat.le_of_ble_eq_true rfl, Nat.le_of_ble_eq_true rfl⟩ (Nat.le_of_ble_eq_true rfl) (Nat.le_of_ble_eq_true rfl) (zc_memory_1_3 p1 p2 S0 n hn hfl G_S0 (by omega) (by omega)) (fun i SX hX => ?_) (fun S3 hP => ?_)
  · obtain ⟨GX, fX, x0, x1⟩ := hX
    have FX := zz_fr.trans F_S0 fX rfl zz_nv
    rcases (by omega : i = 1) with rfl
    · refine zz_catch (q := 3) zxL_memory_L zxY_memory_L zxC_memory_L (by decide) rfl zd_L_memory_9 (by decide) ?_
      refine zz_iconst zd_L_memory_10 ?_
      exact zz_iret zd_L_memory_11 rfl (Nat.le_of_ble_eq_true rfl) (Nat.le_of_ble_eq_true rfl) ⟨_, _, 1, rfl, Nat.le_refl _, GX, FX, by omega, by omega⟩
  obtain ⟨G_S3, fS3, o5⟩ := hP
  have F_S3 := zz_fr.trans F_S0 fS3 rfl zz_nv
  refine zz_goto zd_L_memory_6 ?_
  refine zz_iconst zd_L_memory_12 ?_
  exact zz_iret zd_L_memory_13 rfl (Nat.le_of_ble_eq_true rfl) (Nat.le_of_ble_eq_true rfl) ⟨_, _, 0, rfl, Nat.zero_le _, G_S3, F_S3, by omega, by omega⟩
abbrev zy_look_L : mm_Y := (⟨"TensorForgeLaw", "look", "(LTensorForge;II[J)I"⟩, method_5_code, 5, (some .int))
abbrev zxL_look_L : List ((Nat × Nat × Nat × Nat) × Nat) := [((0, 10, 13, 13), 0), ((0, 10, 17, 19), 1)]
theorem zxY_look_L : Cond.codeWith zy_look_L.1 zy_look_L.2.1 zy_look_L.2.2.1 zy_look_L.2.2.2 (zxL_look_L.map Prod.fst) ∈ mm_tb := mm_tb_1 1155 (by decide +kernel) rfl
theorem zxC_look_L : ∀ z ∈ zxL_look_L, Cond.classLink zy_look_L.1.cls z.1.2.2.2 (mm_xn z.2) ∈ mm_tb ∧ z.1.2.2.2 ≠ 0 ∧ z.2 < 4 := by
  intro z hz
  simp only [List.mem_cons, List.not_mem_nil, or_false] at hz
  rcases hz with rfl | rfl
  · exact ⟨mm_tb_1 1043 (by decide +kernel) rfl, by decide, by decide⟩ 
  · exact ⟨mm_tb_1 1128 (by decide +kernel) rfl, by decide, by decide⟩
theorem zk_TFLaw_21 : mm_Vl "TensorForgeLaw" 21 0 2 zy_look_1_4 := ⟨zyw_look_1_4, (R_TF, F_TF, 12), rfl, mm_tb_1 1156 (by decide +kernel) rfl, mm_tb_1 1157 (by decide +kernel) rfl, mm_tb_1 1158 (by decide +kernel) rfl⟩
theorem zd_L_look_0 : zz_D zy_look_L 0 (.aload_n 3) 1 1 := ⟨by decide +kernel, rfl⟩
theorem zd_L_look_1 : zz_D zy_look_L 1 (.iconst 0) 1 2 := ⟨by decide +kernel, rfl⟩
theorem zd_L_look_2 : zz_D zy_look_L 2 (.aload_n 0) 1 3 := ⟨by decide +kernel, rfl⟩
theorem zd_L_look_3 : zz_D zy_look_L 3 (.iload_n 1) 1 4 := ⟨by decide +kernel, rfl⟩
theorem zd_L_look_4 : zz_D zy_look_L 4 (.iload_n 2) 1 5 := ⟨by decide +kernel, rfl⟩
theorem zd_L_look_5 : zz_D zy_look_L 5 (.invokevirtual 21) 3 8 := ⟨by decide +kernel, rfl⟩
theorem zd_L_look_13 : zz_D zy_look_L 13 (.astore 4) 2 15 := ⟨by decide +kernel, rfl⟩
theorem zd_L_look_15 : zz_D zy_look_L 15 (.iconst 1) 1 16 := ⟨by decide +kernel, rfl⟩
theorem zd_L_look_16 : zz_D zy_look_L 16 (.ireturn) 1 17 := ⟨by decide +kernel, rfl⟩
theorem zd_L_look_17 : zz_D zy_look_L 17 (.astore 4) 2 19 := ⟨by decide +kernel, rfl⟩
theorem zd_L_look_19 : zz_D zy_look_L 19 (.iconst 2) 1 20 := ⟨by decide +kernel, rfl⟩
theorem zd_L_look_20 : zz_D zy_look_L 20 (.ireturn) 1 21 := ⟨by decide +kernel, rfl⟩
theorem zd_L_look_8 : zz_D zy_look_L 8 (.i2l) 1 9 := ⟨by decide +kernel, rfl⟩
theorem zd_L_look_9 : zz_D zy_look_L 9 (.lastore) 1 10 := ⟨by decide +kernel, rfl⟩
theorem zd_L_look_10 : zz_B zy_look_L 10 Instr.goto 21 13 := ⟨11, by decide +kernel, rfl, rfl⟩
theorem zd_L_look_21 : zz_D zy_look_L 21 (.iconst 0) 1 22 := ⟨by decide +kernel, rfl⟩
theorem zd_L_look_22 : zz_D zy_look_L 22 (.ireturn) 1 23 := ⟨by decide +kernel, rfl⟩
-- TensorForgeLaw look (LTensorForge;II[J)I
abbrev zr_look_L : Room := { frames := 7, cells := 1, slots := 6, locals := 98 }
def zp_look_L (p1 : Int) (p2 : Int) (S0 : zz_S) : Int → zz_S → Prop := fun r S => zz_G S ∧ zz_fr [] [1121] (fun _ _ => False) S0 S ∧ ((-2147483648) ≤ r ∧ r ≤ 2147483647)
theorem zc_look_L {g : mm_G} {l : Launch} (p1 : Int) (p2 : Int) (S0 : zz_S) (n : Nat) (hn : zz_end ≤ n) (hfl : l.flags = flags0) (G_S0 : zz_G S0) (hp1 : (-2147483648) ≤ p1 ∧ p1 ≤ 2147483647) (hp2 : (-2147483648) ≤ p2 ∧ p2 ≤ 2147483647) : mm_MetH g l zy_look_L [(0, 10, 13, 13), (0, 10, 17, 19)] zr_look_L [.ref 1000, zi p1, zi p2, .ref 1121] (zz_M S0 n) n (zz_QW n (zp_look_L p1 p2 S0)) := by
  refine zz_enterH (by decide) (Nat.le_of_ble_eq_true rfl) (zz_less (ls1 := [some (.ref 1000), some (zi p1), some (zi p2), some (.ref 1121)]) ⟨rfl, ⟨rfl, ⟨rfl, ⟨rfl, trivial⟩⟩⟩⟩ ?_)
  have F_S0 : zz_fr [] [1121] (fun _ _ => False) S0 S0 := zz_fr.refl
  refine zz_aload_n (x := 1121) rfl zd_L_look_0 ?_
  refine zz_iconst zd_L_look_1 ?_
  refine zz_aload_n (x := 1000) rfl zd_L_look_2 ?_
  refine zz_iload_n (x := p1) rfl zd_L_look_3 ?_
  refine zz_iload_n (x := p2) rfl zd_L_look_4 ?_
  refine zz_callVCI [zi p1, zi p2] zd_L_look_5 zk_TFLaw_21 zT_1000 (zz_ltn hn rfl) rfl rfl ⟨Nat.le_of_ble_eq_true rfl, Nat.le_of_ble_eq_true rfl⟩ (Nat.le_of_ble_eq_true rfl) (Nat.le_of_ble_eq_true rfl) (zc_look_1_4 p1 p2 S0 n hn hfl G_S0 (by omega) (by omega)) (fun i SX hX => ?_) (fun v4 S3 hP => ?_)
  · obtain ⟨rfl, x0, x1⟩ := hX
    rcases (by omega : i = 0 ∨ i = 1) with rfl | rfl
    · refine zz_catchW zxL_look_L zxY_look_L zxC_look_L (by decide) rfl zd_L_look_13 (by decide) ?_
      refine zz_iconst zd_L_look_15 ?_
      exact zz_iret zd_L_look_16 rfl (Nat.le_of_ble_eq_true rfl) (Nat.le_of_ble_eq_true rfl) ⟨_, _, 1, rfl, Nat.le_refl _, G_S0, F_S0, by omega⟩
    · refine zz_catchW zxL_look_L zxY_look_L zxC_look_L (by decide) rfl zd_L_look_17 (by decide) ?_
      refine zz_iconst zd_L_look_19 ?_
      exact zz_iret zd_L_look_20 rfl (Nat.le_of_ble_eq_true rfl) (Nat.le_of_ble_eq_true rfl) ⟨_, _, 1, rfl, Nat.le_refl _, G_S0, F_S0, by omega⟩
  obtain ⟨rfl, o5⟩ := hP
  refine zz_i2l (by omega) zd_L_look_8 ?_
  refine zz_last zd_L_look_9 zT_1121 rfl (zz_ltn hn rfl) (by decide) (by decide) (fun S6 qS6 => ?_)
  have G_S6 := zz_G.put G_S0 qS6 (-9223372036854775808) 9223372036854775807 rfl (by omega)
  have F_S6 := zz_fr.putc F_S0 qS6 rfl
  refine zz_goto zd_L_look_10 ?_
  refine zz_iconst zd_L_look_21 ?_
  exact zz_iret zd_L_look_22 rfl (Nat.le_of_ble_eq_true rfl) (Nat.le_of_ble_eq_true rfl) ⟨_, _, 0, rfl, Nat.zero_le _, G_S6, F_S6, by omega⟩
abbrev zy_word_L : mm_Y := (⟨"TensorForgeLaw", "word", "(LTensorForge;IJ)I"⟩, method_6_code, 5, (some .int))
abbrev zxL_word_L : List ((Nat × Nat × Nat × Nat) × Nat) := [((0, 6, 9, 19), 1), ((0, 6, 13, 29), 2)]
theorem zxY_word_L : Cond.codeWith zy_word_L.1 zy_word_L.2.1 zy_word_L.2.2.1 zy_word_L.2.2.2 (zxL_word_L.map Prod.fst) ∈ mm_tb := mm_tb_1 1169 (by decide +kernel) rfl
theorem zxC_word_L : ∀ z ∈ zxL_word_L, Cond.classLink zy_word_L.1.cls z.1.2.2.2 (mm_xn z.2) ∈ mm_tb ∧ z.1.2.2.2 ≠ 0 ∧ z.2 < 4 := by
  intro z hz
  simp only [List.mem_cons, List.not_mem_nil, or_false] at hz
  rcases hz with rfl | rfl
  · exact ⟨mm_tb_1 1128 (by decide +kernel) rfl, by decide, by decide⟩ 
  · exact ⟨mm_tb_1 1170 (by decide +kernel) rfl, by decide, by decide⟩
theorem zk_TFLaw_25 : mm_Vl "TensorForgeLaw" 25 0 2 zy_word_1_5 := ⟨zyw_word_1_5, (R_TF, F_TF, 12), rfl, mm_tb_1 1171 (by decide +kernel) rfl, mm_tb_1 1172 (by decide +kernel) rfl, mm_tb_1 1173 (by decide +kernel) rfl⟩
theorem zd_L_word_0 : zz_D zy_word_L 0 (.aload_n 0) 1 1 := ⟨by decide +kernel, rfl⟩
theorem zd_L_word_1 : zz_D zy_word_L 1 (.iload_n 1) 1 2 := ⟨by decide +kernel, rfl⟩
theorem zd_L_word_2 : zz_D zy_word_L 2 (.lload_n 2) 1 3 := ⟨by decide +kernel, rfl⟩
theorem zd_L_word_3 : zz_D zy_word_L 3 (.invokevirtual 25) 3 6 := ⟨by decide +kernel, rfl⟩
theorem zd_L_word_9 : zz_D zy_word_L 9 (.astore 4) 2 11 := ⟨by decide +kernel, rfl⟩
theorem zd_L_word_11 : zz_D zy_word_L 11 (.iconst 1) 1 12 := ⟨by decide +kernel, rfl⟩
theorem zd_L_word_12 : zz_D zy_word_L 12 (.ireturn) 1 13 := ⟨by decide +kernel, rfl⟩
theorem zd_L_word_13 : zz_D zy_word_L 13 (.astore 4) 2 15 := ⟨by decide +kernel, rfl⟩
theorem zd_L_word_15 : zz_D zy_word_L 15 (.iconst 2) 1 16 := ⟨by decide +kernel, rfl⟩
theorem zd_L_word_16 : zz_D zy_word_L 16 (.ireturn) 1 17 := ⟨by decide +kernel, rfl⟩
theorem zd_L_word_6 : zz_B zy_word_L 6 Instr.goto 17 9 := ⟨11, by decide +kernel, rfl, rfl⟩
theorem zd_L_word_17 : zz_D zy_word_L 17 (.iconst 0) 1 18 := ⟨by decide +kernel, rfl⟩
theorem zd_L_word_18 : zz_D zy_word_L 18 (.ireturn) 1 19 := ⟨by decide +kernel, rfl⟩
-- TensorForgeLaw word (LTensorForge;IJ)I
abbrev zr_word_L : Room := { frames := 7, cells := 1, slots := 6, locals := 97 }
def zp_word_L (p1 : Int) (p2 : Int) (S0 : zz_S) : Int → zz_S → Prop := fun r S => zz_G S ∧ zz_fr [(1000, 11)] [] (fun a i => a = zz_rf 4 (S0 1000 9)) S0 S ∧ ((-2147483648) ≤ r ∧ r ≤ 2147483647)
theorem zc_word_L {g : mm_G} {l : Launch} (p1 : Int) (p2 : Int) (S0 : zz_S) (n : Nat) (hn : zz_end ≤ n) (hfl : l.flags = flags0) (G_S0 : zz_G S0) (hp1 : (-2147483648) ≤ p1 ∧ p1 ≤ 2147483647) (hp2 : (-9223372036854775808) ≤ p2 ∧ p2 ≤ 9223372036854775807) : mm_MetH g l zy_word_L [(0, 6, 9, 19), (0, 6, 13, 29)] zr_word_L [.ref 1000, zi p1, zl p2] (zz_M S0 n) n (zz_QW n (zp_word_L p1 p2 S0)) := by
  refine zz_enterH (by decide) (Nat.le_of_ble_eq_true rfl) (zz_less (ls1 := [some (.ref 1000), some (zi p1), some (zl p2), none]) ⟨rfl, ⟨rfl, ⟨rfl, trivial⟩⟩⟩ ?_)
  have F_S0 : zz_fr [(1000, 11)] [] (fun a i => a = zz_rf 4 (S0 1000 9)) S0 S0 := zz_fr.refl
  refine zz_aload_n (x := 1000) rfl zd_L_word_0 ?_
  refine zz_iload_n (x := p1) rfl zd_L_word_1 ?_
  refine zz_lload_n (x := p2) rfl zd_L_word_2 ?_
  refine zz_callVCV [zi p1, zl p2] zd_L_word_3 zk_TFLaw_25 zT_1000 (zz_ltn hn rfl) rfl rfl ⟨Nat.le_of_ble_eq_true rfl, Nat.le_of_ble_eq_true rfl⟩ (Nat.le_of_ble_eq_true rfl) (Nat.le_of_ble_eq_true rfl) (zc_word_1_5 p1 p2 S0 n hn hfl G_S0 (by omega) (by omega)) (fun i SX hX => ?_) (fun S3 hP => ?_)
  · obtain ⟨GX, fX, x0, x1⟩ := hX
    have g5 := zz_G.r G_S0 1000 9 0 1 rfl rfl
    have FX := zz_fr.trans F_S0 fX rfl (fun a i h => Or.inr (Or.inr (h)))
    rcases (by omega : i = 1 ∨ i = 2) with rfl | rfl
    · refine zz_catchW zxL_word_L zxY_word_L zxC_word_L (by decide) rfl zd_L_word_9 (by decide) ?_
      refine zz_iconst zd_L_word_11 ?_
      exact zz_iret zd_L_word_12 rfl (Nat.le_of_ble_eq_true rfl) (Nat.le_of_ble_eq_true rfl) ⟨_, _, 1, rfl, Nat.le_refl _, GX, FX, by omega⟩
    · refine zz_catchW zxL_word_L zxY_word_L zxC_word_L (by decide) rfl zd_L_word_13 (by decide) ?_
      refine zz_iconst zd_L_word_15 ?_
      exact zz_iret zd_L_word_16 rfl (Nat.le_of_ble_eq_true rfl) (Nat.le_of_ble_eq_true rfl) ⟨_, _, 1, rfl, Nat.le_refl _, GX, FX, by omega⟩
  obtain ⟨G_S3, fS3⟩ := hP
  have F_S3 := zz_fr.trans F_S0 fS3 rfl (fun a i h => Or.inr (Or.inr (h)))
  refine zz_goto zd_L_word_6 ?_
  refine zz_iconst zd_L_word_17 ?_
  exact zz_iret zd_L_word_18 rfl (Nat.le_of_ble_eq_true rfl) (Nat.le_of_ble_eq_true rfl) ⟨_, _, 0, rfl, Nat.zero_le _, G_S3, F_S3, by omega⟩
abbrev zy_cut_L : mm_Y := (⟨"TensorForgeLaw", "cut", "(LTensorForge;I)I"⟩, method_7_code, 3, (some .int))
abbrev zxL_cut_L : List ((Nat × Nat × Nat × Nat) × Nat) := [((0, 5, 8, 13), 0)]
theorem zxY_cut_L : Cond.codeWith zy_cut_L.1 zy_cut_L.2.1 zy_cut_L.2.2.1 zy_cut_L.2.2.2 (zxL_cut_L.map Prod.fst) ∈ mm_tb := mm_tb_1 1194 (by decide +kernel) rfl
theorem zxC_cut_L : ∀ z ∈ zxL_cut_L, Cond.classLink zy_cut_L.1.cls z.1.2.2.2 (mm_xn z.2) ∈ mm_tb ∧ z.1.2.2.2 ≠ 0 ∧ z.2 < 4 := by
  intro z hz
  simp only [List.mem_cons, List.not_mem_nil, or_false] at hz
  rcases hz with rfl
  · exact ⟨mm_tb_1 1043 (by decide +kernel) rfl, by decide, by decide⟩
theorem zk_TFLaw_31 : mm_Vl "TensorForgeLaw" 31 0 1 zy_cut_1_6 := ⟨zyw_cut_1_6, (R_TF, F_TF, 12), rfl, mm_tb_1 1195 (by decide +kernel) rfl, mm_tb_1 1196 (by decide +kernel) rfl, mm_tb_1 1197 (by decide +kernel) rfl⟩
theorem zd_L_cut_0 : zz_D zy_cut_L 0 (.aload_n 0) 1 1 := ⟨by decide +kernel, rfl⟩
theorem zd_L_cut_1 : zz_D zy_cut_L 1 (.iload_n 1) 1 2 := ⟨by decide +kernel, rfl⟩
theorem zd_L_cut_2 : zz_D zy_cut_L 2 (.invokevirtual 31) 3 5 := ⟨by decide +kernel, rfl⟩
theorem zd_L_cut_8 : zz_D zy_cut_L 8 (.astore_n 2) 1 9 := ⟨by decide +kernel, rfl⟩
theorem zd_L_cut_9 : zz_D zy_cut_L 9 (.iconst 1) 1 10 := ⟨by decide +kernel, rfl⟩
theorem zd_L_cut_10 : zz_D zy_cut_L 10 (.ireturn) 1 11 := ⟨by decide +kernel, rfl⟩
theorem zd_L_cut_5 : zz_B zy_cut_L 5 Instr.goto 11 8 := ⟨6, by decide +kernel, rfl, rfl⟩
theorem zd_L_cut_11 : zz_D zy_cut_L 11 (.iconst 0) 1 12 := ⟨by decide +kernel, rfl⟩
theorem zd_L_cut_12 : zz_D zy_cut_L 12 (.ireturn) 1 13 := ⟨by decide +kernel, rfl⟩
-- TensorForgeLaw cut (LTensorForge;I)I
abbrev zr_cut_L : Room := { frames := 7, cells := 1, slots := 6, locals := 95 }
def zp_cut_L (p1 : Int) (S0 : zz_S) : Int → zz_S → Prop := fun r S => zz_G S ∧ zz_fr [(1000, 11)] [] (fun _ _ => False) S0 S ∧ ((-2147483648) ≤ r ∧ r ≤ 2147483647)
theorem zc_cut_L {g : mm_G} {l : Launch} (p1 : Int) (S0 : zz_S) (n : Nat) (hn : zz_end ≤ n) (hfl : l.flags = flags0) (G_S0 : zz_G S0) (hp1 : (-2147483648) ≤ p1 ∧ p1 ≤ 2147483647) : mm_MetH g l zy_cut_L [(0, 5, 8, 13)] zr_cut_L [.ref 1000, zi p1] (zz_M S0 n) n (zz_QW n (zp_cut_L p1 S0)) := by
  refine zz_enterH (by decide) (Nat.le_of_ble_eq_true rfl) (zz_less (ls1 := [some (.ref 1000), some (zi p1)]) ⟨rfl, ⟨rfl, trivial⟩⟩ ?_)
  have F_S0 : zz_fr [(1000, 11)] [] (fun _ _ => False) S0 S0 := zz_fr.refl
  refine zz_aload_n (x := 1000) rfl zd_L_cut_0 ?_
  refine zz_iload_n (x := p1) rfl zd_L_cut_1 ?_
  refine zz_callVCV [zi p1] zd_L_cut_2 zk_TFLaw_31 zT_1000 (zz_ltn hn rfl) rfl rfl ⟨Nat.le_of_ble_eq_true rfl, Nat.le_of_ble_eq_true rfl⟩ (Nat.le_of_ble_eq_true rfl) (Nat.le_of_ble_eq_true rfl) (zc_cut_1_6 p1 S0 n hn hfl G_S0 (by omega)) (fun i SX hX => ?_) (fun S3 hP => ?_)
  · obtain ⟨GX, fX, x0, x1⟩ := hX
    have FX := zz_fr.trans F_S0 fX rfl zz_nv
    rcases (by omega : i = 0) with rfl
    · refine zz_catch (q := 2) zxL_cut_L zxY_cut_L zxC_cut_L (by decide) rfl zd_L_cut_8 (by decide) ?_
      refine zz_iconst zd_L_cut_9 ?_
      exact zz_iret zd_L_cut_10 rfl (Nat.le_of_ble_eq_true rfl) (Nat.le_of_ble_eq_true rfl) ⟨_, _, 1, rfl, Nat.le_refl _, GX, FX, by omega⟩
  obtain ⟨G_S3, fS3⟩ := hP
  have F_S3 := zz_fr.trans F_S0 fS3 rfl zz_nv
  refine zz_goto zd_L_cut_5 ?_
  refine zz_iconst zd_L_cut_11 ?_
  exact zz_iret zd_L_cut_12 rfl (Nat.le_of_ble_eq_true rfl) (Nat.le_of_ble_eq_true rfl) ⟨_, _, 0, rfl, Nat.zero_le _, G_S3, F_S3, by omega⟩
abbrev zy_wordOf_L : mm_Y := (⟨"TensorForgeLaw", "wordOf", "(LTensorForge;I[J)I"⟩, method_8_code, 4, (some .int))
abbrev zxL_wordOf_L : List ((Nat × Nat × Nat × Nat) × Nat) := [((0, 8, 11, 19), 1)]
theorem zxY_wordOf_L : Cond.codeWith zy_wordOf_L.1 zy_wordOf_L.2.1 zy_wordOf_L.2.2.1 zy_wordOf_L.2.2.2 (zxL_wordOf_L.map Prod.fst) ∈ mm_tb := mm_tb_1 1202 (by decide +kernel) rfl
theorem zxC_wordOf_L : ∀ z ∈ zxL_wordOf_L, Cond.classLink zy_wordOf_L.1.cls z.1.2.2.2 (mm_xn z.2) ∈ mm_tb ∧ z.1.2.2.2 ≠ 0 ∧ z.2 < 4 := by
  intro z hz
  simp only [List.mem_cons, List.not_mem_nil, or_false] at hz
  rcases hz with rfl
  · exact ⟨mm_tb_1 1128 (by decide +kernel) rfl, by decide, by decide⟩
theorem zk_TFLaw_34 : mm_Vl "TensorForgeLaw" 34 0 1 zy_wordOf_1_7 := ⟨zyw_wordOf_1_7, (R_TF, F_TF, 12), rfl, mm_tb_1 1203 (by decide +kernel) rfl, mm_tb_1 1204 (by decide +kernel) rfl, mm_tb_1 1205 (by decide +kernel) rfl⟩
theorem zd_L_wordOf_0 : zz_D zy_wordOf_L 0 (.aload_n 2) 1 1 := ⟨by decide +kernel, rfl⟩
theorem zd_L_wordOf_1 : zz_D zy_wordOf_L 1 (.iconst 0) 1 2 := ⟨by decide +kernel, rfl⟩
theorem zd_L_wordOf_2 : zz_D zy_wordOf_L 2 (.aload_n 0) 1 3 := ⟨by decide +kernel, rfl⟩
theorem zd_L_wordOf_3 : zz_D zy_wordOf_L 3 (.iload_n 1) 1 4 := ⟨by decide +kernel, rfl⟩
theorem zd_L_wordOf_4 : zz_D zy_wordOf_L 4 (.invokevirtual 34) 3 7 := ⟨by decide +kernel, rfl⟩
theorem zd_L_wordOf_11 : zz_D zy_wordOf_L 11 (.astore_n 3) 1 12 := ⟨by decide +kernel, rfl⟩
theorem zd_L_wordOf_12 : zz_D zy_wordOf_L 12 (.iconst 1) 1 13 := ⟨by decide +kernel, rfl⟩
theorem zd_L_wordOf_13 : zz_D zy_wordOf_L 13 (.ireturn) 1 14 := ⟨by decide +kernel, rfl⟩
theorem zd_L_wordOf_7 : zz_D zy_wordOf_L 7 (.lastore) 1 8 := ⟨by decide +kernel, rfl⟩
theorem zd_L_wordOf_8 : zz_B zy_wordOf_L 8 Instr.goto 14 11 := ⟨6, by decide +kernel, rfl, rfl⟩
theorem zd_L_wordOf_14 : zz_D zy_wordOf_L 14 (.iconst 0) 1 15 := ⟨by decide +kernel, rfl⟩
theorem zd_L_wordOf_15 : zz_D zy_wordOf_L 15 (.ireturn) 1 16 := ⟨by decide +kernel, rfl⟩
-- TensorForgeLaw wordOf (LTensorForge;I[J)I
abbrev zr_wordOf_L : Room := { frames := 7, cells := 1, slots := 6, locals := 97 }
def zp_wordOf_L (p1 : Int) (S0 : zz_S) : Int → zz_S → Prop := fun r S => zz_G S ∧ zz_fr [] [1121] (fun _ _ => False) S0 S ∧ ((-2147483648) ≤ r ∧ r ≤ 2147483647)
theorem zc_wordOf_L {g : mm_G} {l : Launch} (p1 : Int) (S0 : zz_S) (n : Nat) (hn : zz_end ≤ n) (hfl : l.flags = flags0) (G_S0 : zz_G S0) (hp1 : (-2147483648) ≤ p1 ∧ p1 ≤ 2147483647) : mm_MetH g l zy_wordOf_L [(0, 8, 11, 19)] zr_wordOf_L [.ref 1000, zi p1, .ref 1121] (zz_M S0 n) n (zz_QW n (zp_wordOf_L p1 S0)) := by
  refine zz_enterH (by decide) (Nat.le_of_ble_eq_true rfl) (zz_less (ls1 := [some (.ref 1000), some (zi p1), some (.ref 1121)]) ⟨rfl, ⟨rfl, ⟨rfl, trivial⟩⟩⟩ ?_)
  have F_S0 : zz_fr [] [1121] (fun _ _ => False) S0 S0 := zz_fr.refl
  refine zz_aload_n (x := 1121) rfl zd_L_wordOf_0 ?_
  refine zz_iconst zd_L_wordOf_1 ?_
  refine zz_aload_n (x := 1000) rfl zd_L_wordOf_2 ?_
  refine zz_iload_n (x := p1) rfl zd_L_wordOf_3 ?_
  refine zz_callVCJ [zi p1] zd_L_wordOf_4 zk_TFLaw_34 zT_1000 (zz_ltn hn rfl) rfl rfl ⟨Nat.le_of_ble_eq_true rfl, Nat.le_of_ble_eq_true rfl⟩ (Nat.le_of_ble_eq_true rfl) (Nat.le_of_ble_eq_true rfl) (zc_wordOf_1_7 p1 S0 n hn hfl G_S0 (by omega)) (fun i SX hX => ?_) (fun v4 S3 hP => ?_)
  · obtain ⟨rfl, x0, x1⟩ := hX
    rcases (by omega : i = 1) with rfl
    · refine zz_catch (q := 3) zxL_wordOf_L zxY_wordOf_L zxC_wordOf_L (by decide) rfl zd_L_wordOf_11 (by decide) ?_
      refine zz_iconst zd_L_wordOf_12 ?_
      exact zz_iret zd_L_wordOf_13 rfl (Nat.le_of_ble_eq_true rfl) (Nat.le_of_ble_eq_true rfl) ⟨_, _, 1, rfl, Nat.le_refl _, G_S0, F_S0, by omega⟩
  obtain ⟨rfl, o5⟩ := hP
  refine zz_last zd_L_wordOf_7 zT_1121 rfl (zz_ltn hn rfl) (by decide) (by decide) (fun S6 qS6 => ?_)
  have G_S6 := zz_G.put G_S0 qS6 (-9223372036854775808) 9223372036854775807 rfl (by omega)
  have F_S6 := zz_fr.putc F_S0 qS6 rfl
  refine zz_goto zd_L_wordOf_8 ?_
  refine zz_iconst zd_L_wordOf_14 ?_
  exact zz_iret zd_L_wordOf_15 rfl (Nat.le_of_ble_eq_true rfl) (Nat.le_of_ble_eq_true rfl) ⟨_, _, 0, rfl, Nat.zero_le _, G_S6, F_S6, by omega⟩
abbrev zy_field_L : mm_Y := (⟨"TensorForgeLaw", "field", "(LTensorForge;JI[J)I"⟩, method_9_code, 6, (some .int))
abbrev zxL_field_L : List ((Nat × Nat × Nat × Nat) × Nat) := [((0, 11, 14, 13), 0)]
theorem zxY_field_L : Cond.codeWith zy_field_L.1 zy_field_L.2.1 zy_field_L.2.2.1 zy_field_L.2.2.2 (zxL_field_L.map Prod.fst) ∈ mm_tb := mm_tb_1 1209 (by decide +kernel) rfl
theorem zxC_field_L : ∀ z ∈ zxL_field_L, Cond.classLink zy_field_L.1.cls z.1.2.2.2 (mm_xn z.2) ∈ mm_tb ∧ z.1.2.2.2 ≠ 0 ∧ z.2 < 4 := by
  intro z hz
  simp only [List.mem_cons, List.not_mem_nil, or_false] at hz
  rcases hz with rfl
  · exact ⟨mm_tb_1 1043 (by decide +kernel) rfl, by decide, by decide⟩
theorem zk_TFLaw_38 : mm_Vl "TensorForgeLaw" 38 0 2 zy_field_1_9 := ⟨zyw_field_1_9, (R_TF, F_TF, 12), rfl, mm_tb_1 1210 (by decide +kernel) rfl, mm_tb_1 1211 (by decide +kernel) rfl, mm_tb_1 1212 (by decide +kernel) rfl⟩
theorem zd_L_field_0 : zz_D zy_field_L 0 (.aload 4) 2 2 := ⟨by decide +kernel, rfl⟩
theorem zd_L_field_2 : zz_D zy_field_L 2 (.iconst 0) 1 3 := ⟨by decide +kernel, rfl⟩
theorem zd_L_field_3 : zz_D zy_field_L 3 (.aload_n 0) 1 4 := ⟨by decide +kernel, rfl⟩
theorem zd_L_field_4 : zz_D zy_field_L 4 (.lload_n 1) 1 5 := ⟨by decide +kernel, rfl⟩
theorem zd_L_field_5 : zz_D zy_field_L 5 (.iload_n 3) 1 6 := ⟨by decide +kernel, rfl⟩
theorem zd_L_field_6 : zz_D zy_field_L 6 (.invokevirtual 38) 3 9 := ⟨by decide +kernel, rfl⟩
theorem zd_L_field_14 : zz_D zy_field_L 14 (.astore 5) 2 16 := ⟨by decide +kernel, rfl⟩
theorem zd_L_field_16 : zz_D zy_field_L 16 (.iconst 1) 1 17 := ⟨by decide +kernel, rfl⟩
theorem zd_L_field_17 : zz_D zy_field_L 17 (.ireturn) 1 18 := ⟨by decide +kernel, rfl⟩
theorem zd_L_field_9 : zz_D zy_field_L 9 (.i2l) 1 10 := ⟨by decide +kernel, rfl⟩
theorem zd_L_field_10 : zz_D zy_field_L 10 (.lastore) 1 11 := ⟨by decide +kernel, rfl⟩
theorem zd_L_field_11 : zz_B zy_field_L 11 Instr.goto 18 14 := ⟨7, by decide +kernel, rfl, rfl⟩
theorem zd_L_field_18 : zz_D zy_field_L 18 (.iconst 0) 1 19 := ⟨by decide +kernel, rfl⟩
theorem zd_L_field_19 : zz_D zy_field_L 19 (.ireturn) 1 20 := ⟨by decide +kernel, rfl⟩
-- TensorForgeLaw field (LTensorForge;JI[J)I
abbrev zr_field_L : Room := { frames := 7, cells := 1, slots := 6, locals := 99 }
def zp_field_L (p1 : Int) (p2 : Int) (S0 : zz_S) : Int → zz_S → Prop := fun r S => zz_G S ∧ zz_fr [] [1121] (fun _ _ => False) S0 S ∧ ((-2147483648) ≤ r ∧ r ≤ 2147483647) ∧ ((0 ≤ p2 ∧ p2 ≤ 11 ∧ r = 0) ∨ ((p2 < 0 ∨ 11 < p2) ∧ r = 1)) ∧ (r = 0 → S 1121 0 = zz_fyk p1 p2)
theorem zc_field_L {g : mm_G} {l : Launch} (p1 : Int) (p2 : Int) (S0 : zz_S) (n : Nat) (hn : zz_end ≤ n) (hfl : l.flags = flags0) (G_S0 : zz_G S0) (hp1 : (-9223372036854775808) ≤ p1 ∧ p1 ≤ 9223372036854775807) (hp2 : (-2147483648) ≤ p2 ∧ p2 ≤ 2147483647) : mm_MetH g l zy_field_L [(0, 11, 14, 13)] zr_field_L [.ref 1000, zl p1, zi p2, .ref 1121] (zz_M S0 n) n (zz_QW n (zp_field_L p1 p2 S0)) := by
  refine zz_enterH (by decide) (Nat.le_of_ble_eq_true rfl) (zz_less (ls1 := [some (.ref 1000), some (zl p1), none, some (zi p2), some (.ref 1121)]) ⟨rfl, ⟨rfl, ⟨rfl, ⟨rfl, trivial⟩⟩⟩⟩ ?_)
  have F_S0 : zz_fr [] [1121] (fun _ _ => False) S0 S0 := zz_fr.refl
  refine zz_aload (x := 1121) rfl zd_L_field_0 ?_
  refine zz_iconst zd_L_field_2 ?_
  refine zz_aload_n (x := 1000) rfl zd_L_field_3 ?_
  refine zz_lload_n (x := p1) rfl zd_L_field_4 ?_
  refine zz_iload_n (x := p2) rfl zd_L_field_5 ?_
  refine zz_callVCI [zl p1, zi p2] zd_L_field_6 zk_TFLaw_38 zT_1000 (zz_ltn hn rfl) rfl rfl ⟨Nat.le_of_ble_eq_true rfl, Nat.le_of_ble_eq_true rfl⟩ (Nat.le_of_ble_eq_true rfl) (Nat.le_of_ble_eq_true rfl) (zc_field_1_9 p1 p2 S0 n hn hfl G_S0 (by omega) (by omega)) (fun i SX hX => ?_) (fun v4 S3 hP => ?_)
  · obtain ⟨rfl, x0, x1⟩ := hX
    rcases (by omega : i = 0) with rfl
    · refine zz_catchW zxL_field_L zxY_field_L zxC_field_L (by decide) rfl zd_L_field_14 (by decide) ?_
      refine zz_iconst zd_L_field_16 ?_
      exact zz_iret zd_L_field_17 rfl (Nat.le_of_ble_eq_true rfl) (Nat.le_of_ble_eq_true rfl) ⟨_, _, 1, rfl, Nat.le_refl _, G_S0, F_S0, by omega, by omega, by omega⟩
  obtain ⟨rfl, o5, o6, o7⟩ := hP
  refine zz_i2l (by omega) zd_L_field_9 ?_
  refine zz_last zd_L_field_10 zT_1121 rfl (zz_ltn hn rfl) (by decide) (by decide) (fun S8 qS8 => ?_)
  have G_S8 := zz_G.put G_S0 qS8 (-9223372036854775808) 9223372036854775807 rfl (by omega)
  have F_S8 := zz_fr.putc F_S0 qS8 rfl
  refine zz_goto zd_L_field_11 ?_
  refine zz_iconst zd_L_field_18 ?_
  have e9 : S8 1121 0 = v4 := (zz_rs qS8)
  exact zz_iret zd_L_field_19 rfl (Nat.le_of_ble_eq_true rfl) (Nat.le_of_ble_eq_true rfl) ⟨_, _, 0, rfl, Nat.zero_le _, G_S8, F_S8, by omega, by omega, by omega⟩
abbrev zy_put_L : mm_Y := (⟨"TensorForgeLaw", "put", "(LTensorForge;I[J)I"⟩, method_10_code, 4, (some .int))
abbrev zxL_put_L : List ((Nat × Nat × Nat × Nat) × Nat) := [((0, 9, 12, 13), 0), ((0, 9, 15, 29), 2)]
theorem zxY_put_L : Cond.codeWith zy_put_L.1 zy_put_L.2.1 zy_put_L.2.2.1 zy_put_L.2.2.2 (zxL_put_L.map Prod.fst) ∈ mm_tb := mm_tb_1 1218 (by decide +kernel) rfl
theorem zxC_put_L : ∀ z ∈ zxL_put_L, Cond.classLink zy_put_L.1.cls z.1.2.2.2 (mm_xn z.2) ∈ mm_tb ∧ z.1.2.2.2 ≠ 0 ∧ z.2 < 4 := by
  intro z hz
  simp only [List.mem_cons, List.not_mem_nil, or_false] at hz
  rcases hz with rfl | rfl
  · exact ⟨mm_tb_1 1043 (by decide +kernel) rfl, by decide, by decide⟩ 
  · exact ⟨mm_tb_1 1170 (by decide +kernel) rfl, by decide, by decide⟩
theorem zk_TFLaw_42 : mm_Vl "TensorForgeLaw" 42 0 1 zy_put_1_11 := ⟨zyw_put_1_11, (R_TF, F_TF, 12), rfl, mm_tb_1 1219 (by decide +kernel) rfl, mm_tb_1 1220 (by decide +kernel) rfl, mm_tb_1 1221 (by decide +kernel) rfl⟩
theorem zd_L_put_0 : zz_D zy_put_L 0 (.aload_n 2) 1 1 := ⟨by decide +kernel, rfl⟩
theorem zd_L_put_1 : zz_D zy_put_L 1 (.iconst 0) 1 2 := ⟨by decide +kernel, rfl⟩
theorem zd_L_put_2 : zz_D zy_put_L 2 (.aload_n 0) 1 3 := ⟨by decide +kernel, rfl⟩
theorem zd_L_put_3 : zz_D zy_put_L 3 (.iload_n 1) 1 4 := ⟨by decide +kernel, rfl⟩
theorem zd_L_put_4 : zz_D zy_put_L 4 (.invokevirtual 42) 3 7 := ⟨by decide +kernel, rfl⟩
theorem zd_L_put_12 : zz_D zy_put_L 12 (.astore_n 3) 1 13 := ⟨by decide +kernel, rfl⟩
theorem zd_L_put_13 : zz_D zy_put_L 13 (.iconst 1) 1 14 := ⟨by decide +kernel, rfl⟩
theorem zd_L_put_14 : zz_D zy_put_L 14 (.ireturn) 1 15 := ⟨by decide +kernel, rfl⟩
theorem zd_L_put_15 : zz_D zy_put_L 15 (.astore_n 3) 1 16 := ⟨by decide +kernel, rfl⟩
theorem zd_L_put_16 : zz_D zy_put_L 16 (.iconst 2) 1 17 := ⟨by decide +kernel, rfl⟩
theorem zd_L_put_17 : zz_D zy_put_L 17 (.ireturn) 1 18 := ⟨by decide +kernel, rfl⟩
theorem zd_L_put_7 : zz_D zy_put_L 7 (.i2l) 1 8 := ⟨by decide +kernel, rfl⟩
theorem zd_L_put_8 : zz_D zy_put_L 8 (.lastore) 1 9 := ⟨by decide +kernel, rfl⟩
theorem zd_L_put_9 : zz_B zy_put_L 9 Instr.goto 18 12 := ⟨9, by decide +kernel, rfl, rfl⟩
theorem zd_L_put_18 : zz_D zy_put_L 18 (.iconst 0) 1 19 := ⟨by decide +kernel, rfl⟩
theorem zd_L_put_19 : zz_D zy_put_L 19 (.ireturn) 1 20 := ⟨by decide +kernel, rfl⟩
-- TensorForgeLaw put (LTensorForge;I[J)I
abbrev zr_put_L : Room := { frames := 7, cells := 1, slots := 6, locals := 97 }
def zp_put_L (p1 : Int) (S0 : zz_S) : Int → zz_S → Prop := fun r S => zz_G S ∧ zz_fr [(1070, 1)] [1071, 1121] (fun _ _ => False) S0 S ∧ ((-2147483648) ≤ r ∧ r ≤ 2147483647) ∧ ((r = 0 ∧ zz_gk p1 4 = 1 ∧ S0 1070 1 + zz_ct p1 4 ≤ 1500 ∧ S 1070 1 = S0 1070 1 + zz_ct p1 4 ∧ S 1121 0 = S 1070 1) ∨ (r = 1 ∧ zz_gk p1 4 = 0 ∧ S 1070 1 = S0 1070 1) ∨ (r = 2 ∧ zz_gk p1 4 = 1 ∧ S0 1070 1 + zz_ct p1 4 > 1500 ∧ S 1070 1 = S0 1070 1)) ∧ (zt_pt (S0 1071) (S 1071) (S0 1070 1) p1 r)
theorem zc_put_L {g : mm_G} {l : Launch} (p1 : Int) (S0 : zz_S) (n : Nat) (hn : zz_end ≤ n) (hfl : l.flags = flags0) (G_S0 : zz_G S0) (hp1 : (-2147483648) ≤ p1 ∧ p1 ≤ 2147483647) : mm_MetH g l zy_put_L [(0, 9, 12, 13), (0, 9, 15, 29)] zr_put_L [.ref 1000, zi p1, .ref 1121] (zz_M S0 n) n (zz_QW n (zp_put_L p1 S0)) := by
  refine zz_enterH (by decide) (Nat.le_of_ble_eq_true rfl) (zz_less (ls1 := [some (.ref 1000), some (zi p1), some (.ref 1121)]) ⟨rfl, ⟨rfl, ⟨rfl, trivial⟩⟩⟩ ?_)
  have F_S0 : zz_fr [(1070, 1)] [1071, 1121] (fun _ _ => False) S0 S0 := zz_fr.refl
  refine zz_aload_n (x := 1121) rfl zd_L_put_0 ?_
  refine zz_iconst zd_L_put_1 ?_
  refine zz_aload_n (x := 1000) rfl zd_L_put_2 ?_
  refine zz_iload_n (x := p1) rfl zd_L_put_3 ?_
  have g1 := zz_G.r G_S0 1070 1 0 1500 rfl rfl
  refine zz_callVCI [zi p1] zd_L_put_4 zk_TFLaw_42 zT_1000 (zz_ltn hn rfl) rfl rfl ⟨Nat.le_of_ble_eq_true rfl, Nat.le_of_ble_eq_true rfl⟩ (Nat.le_of_ble_eq_true rfl) (Nat.le_of_ble_eq_true rfl) (zc_put_1_11 p1 S0 n hn hfl G_S0 (by omega)) (fun i SX hX => ?_) (fun v5 S4 hP => ?_)
  · obtain ⟨GX, fX, x0, x1, x2, x3⟩ := hX
    have FX := zz_fr.trans F_S0 fX rfl zz_nv
    rcases (by omega : i = 0 ∨ i = 2) with rfl | rfl
    · refine zz_catch (q := 3) zxL_put_L zxY_put_L zxC_put_L (by decide) rfl zd_L_put_12 (by decide) ?_
      refine zz_iconst zd_L_put_13 ?_
      exact zz_iret zd_L_put_14 rfl (Nat.le_of_ble_eq_true rfl) (Nat.le_of_ble_eq_true rfl) ⟨_, _, 1, rfl, Nat.le_refl _, GX, FX, by omega, by omega, ⟨fun h => absurd h (by decide), fun _ u => x3 u⟩⟩
    · refine zz_catch (q := 3) zxL_put_L zxY_put_L zxC_put_L (by decide) rfl zd_L_put_15 (by decide) ?_
      refine zz_iconst zd_L_put_16 ?_
      exact zz_iret zd_L_put_17 rfl (Nat.le_of_ble_eq_true rfl) (Nat.le_of_ble_eq_true rfl) ⟨_, _, 1, rfl, Nat.le_refl _, GX, FX, by omega, by omega, ⟨fun h => absurd h (by decide), fun _ u => x3 u⟩⟩
  obtain ⟨G_S4, fS4, o6, o7, o8, o9, o10, o11⟩ := hP
  have F_S4 := zz_fr.trans F_S0 fS4 rfl zz_nv
  refine zz_i2l (by omega) zd_L_put_7 ?_
  refine zz_last zd_L_put_8 zT_1121 rfl (zz_ltn hn rfl) (by decide) (by decide) (fun S12 qS12 => ?_)
  have G_S12 := zz_G.put G_S4 qS12 (-9223372036854775808) 9223372036854775807 rfl (by omega)
  have F_S12 := zz_fr.putc F_S4 qS12 rfl
  refine zz_goto zd_L_put_9 ?_
  refine zz_iconst zd_L_put_18 ?_
  have g13 := zz_G.r G_S4 1070 1 0 1500 rfl rfl
  have e14 : S12 1070 1 = S4 1070 1 := (zz_ro qS12 (fun h => absurd h.1 (by decide)) rfl)
  have e15 : S12 1121 0 = v5 := (zz_rs qS12)
  exact zz_iret zd_L_put_19 rfl (Nat.le_of_ble_eq_true rfl) (Nat.le_of_ble_eq_true rfl) ⟨_, _, 0, rfl, Nat.zero_le _, G_S12, F_S12, by omega, by omega, ⟨fun _ u => ((zz_ro qS12 (fun h => absurd h.1 (by decide)) rfl) : S12 1071 u = S4 1071 u).trans (o11 u), fun h => absurd rfl h⟩⟩
abbrev zy_end_L : mm_Y := (⟨"TensorForgeLaw", "end", "(LTensorForge;I)I"⟩, method_11_code, 3, (some .int))
abbrev zxL_end_L : List ((Nat × Nat × Nat × Nat) × Nat) := [((0, 5, 8, 13), 0)]
theorem zxY_end_L : Cond.codeWith zy_end_L.1 zy_end_L.2.1 zy_end_L.2.2.1 zy_end_L.2.2.2 (zxL_end_L.map Prod.fst) ∈ mm_tb := mm_tb_1 1238 (by decide +kernel) rfl
theorem zxC_end_L : ∀ z ∈ zxL_end_L, Cond.classLink zy_end_L.1.cls z.1.2.2.2 (mm_xn z.2) ∈ mm_tb ∧ z.1.2.2.2 ≠ 0 ∧ z.2 < 4 := by
  intro z hz
  simp only [List.mem_cons, List.not_mem_nil, or_false] at hz
  rcases hz with rfl
  · exact ⟨mm_tb_1 1043 (by decide +kernel) rfl, by decide, by decide⟩
theorem zk_TFLaw_46 : mm_Vl "TensorForgeLaw" 46 0 1 zy_end_1_12 := ⟨zyw_end_1_12, (R_TF, F_TF, 12), rfl, mm_tb_1 1239 (by decide +kernel) rfl, mm_tb_1 1240 (by decide +kernel) rfl, mm_tb_1 1241 (by decide +kernel) rfl⟩
theorem zd_L_end_0 : zz_D zy_end_L 0 (.aload_n 0) 1 1 := ⟨by decide +kernel, rfl⟩
theorem zd_L_end_1 : zz_D zy_end_L 1 (.iload_n 1) 1 2 := ⟨by decide +kernel, rfl⟩
theorem zd_L_end_2 : zz_D zy_end_L 2 (.invokevirtual 46) 3 5 := ⟨by decide +kernel, rfl⟩
theorem zd_L_end_8 : zz_D zy_end_L 8 (.astore_n 2) 1 9 := ⟨by decide +kernel, rfl⟩
theorem zd_L_end_9 : zz_D zy_end_L 9 (.iconst 1) 1 10 := ⟨by decide +kernel, rfl⟩
theorem zd_L_end_10 : zz_D zy_end_L 10 (.ireturn) 1 11 := ⟨by decide +kernel, rfl⟩
theorem zd_L_end_5 : zz_B zy_end_L 5 Instr.goto 11 8 := ⟨6, by decide +kernel, rfl, rfl⟩
theorem zd_L_end_11 : zz_D zy_end_L 11 (.iconst 0) 1 12 := ⟨by decide +kernel, rfl⟩
theorem zd_L_end_12 : zz_D zy_end_L 12 (.ireturn) 1 13 := ⟨by decide +kernel, rfl⟩
-- TensorForgeLaw end (LTensorForge;I)I
abbrev zr_end_L : Room := { frames := 7, cells := 1, slots := 6, locals := 95 }
def zp_end_L (p1 : Int) (S0 : zz_S) : Int → zz_S → Prop := fun r S => zz_G S ∧ zz_fr [(1070, 1)] [] (fun _ _ => False) S0 S ∧ ((-2147483648) ≤ r ∧ r ≤ 2147483647) ∧ ((0 ≤ p1 ∧ p1 ≤ S0 1070 1 ∧ r = 0 ∧ S 1070 1 = p1) ∨ ((p1 < 0 ∨ S0 1070 1 < p1) ∧ r = 1 ∧ S 1070 1 = S0 1070 1))
theorem zc_end_L {g : mm_G} {l : Launch} (p1 : Int) (S0 : zz_S) (n : Nat) (hn : zz_end ≤ n) (hfl : l.flags = flags0) (G_S0 : zz_G S0) (hp1 : (-2147483648) ≤ p1 ∧ p1 ≤ 2147483647) : mm_MetH g l zy_end_L [(0, 5, 8, 13)] zr_end_L [.ref 1000, zi p1] (zz_M S0 n) n (zz_QW n (zp_end_L p1 S0)) := by
  refine zz_enterH (by decide) (Nat.le_of_ble_eq_true rfl) (zz_less (ls1 := [some (.ref 1000), some (zi p1)]) ⟨rfl, ⟨rfl, trivial⟩⟩ ?_)
  have F_S0 : zz_fr [(1070, 1)] [] (fun _ _ => False) S0 S0 := zz_fr.refl
  refine zz_aload_n (x := 1000) rfl zd_L_end_0 ?_
  refine zz_iload_n (x := p1) rfl zd_L_end_1 ?_
  have g1 := zz_G.r G_S0 1070 1 0 1500 rfl rfl
  refine zz_callVCV [zi p1] zd_L_end_2 zk_TFLaw_46 zT_1000 (zz_ltn hn rfl) rfl rfl ⟨Nat.le_of_ble_eq_true rfl, Nat.le_of_ble_eq_true rfl⟩ (Nat.le_of_ble_eq_true rfl) (Nat.le_of_ble_eq_true rfl) (zc_end_1_12 p1 S0 n hn hfl G_S0 (by omega)) (fun i SX hX => ?_) (fun S4 hP => ?_)
  · obtain ⟨GX, fX, x0, x1, x2⟩ := hX
    have FX := zz_fr.trans F_S0 fX rfl zz_nv
    rcases (by omega : i = 0) with rfl
    · refine zz_catch (q := 2) zxL_end_L zxY_end_L zxC_end_L (by decide) rfl zd_L_end_8 (by decide) ?_
      refine zz_iconst zd_L_end_9 ?_
      exact zz_iret zd_L_end_10 rfl (Nat.le_of_ble_eq_true rfl) (Nat.le_of_ble_eq_true rfl) ⟨_, _, 1, rfl, Nat.le_refl _, GX, FX, by omega, by omega⟩
  obtain ⟨G_S4, fS4, o6, o7⟩ := hP
  have F_S4 := zz_fr.trans F_S0 fS4 rfl zz_nv
  refine zz_goto zd_L_end_5 ?_
  refine zz_iconst zd_L_end_11 ?_
  have g8 := zz_G.r G_S4 1070 1 0 1500 rfl rfl
  exact zz_iret zd_L_end_12 rfl (Nat.le_of_ble_eq_true rfl) (Nat.le_of_ble_eq_true rfl) ⟨_, _, 0, rfl, Nat.zero_le _, G_S4, F_S4, by omega, by omega⟩
abbrev zy_listing_L : mm_Y := (⟨"TensorForgeLaw", "listing", "(LTensorForge;II[J)I"⟩, method_12_code, 5, (some .int))
abbrev zxL_listing_L : List ((Nat × Nat × Nat × Nat) × Nat) := [((0, 10, 13, 19), 1)]
theorem zxY_listing_L : Cond.codeWith zy_listing_L.1 zy_listing_L.2.1 zy_listing_L.2.2.1 zy_listing_L.2.2.2 (zxL_listing_L.map Prod.fst) ∈ mm_tb := mm_tb_1 1246 (by decide +kernel) rfl
theorem zxC_listing_L : ∀ z ∈ zxL_listing_L, Cond.classLink zy_listing_L.1.cls z.1.2.2.2 (mm_xn z.2) ∈ mm_tb ∧ z.1.2.2.2 ≠ 0 ∧ z.2 < 4 := by
  intro z hz
  simp only [List.mem_cons, List.not_mem_nil, or_false] at hz
  rcases hz with rfl
  · exact ⟨mm_tb_1 1128 (by decide +kernel) rfl, by decide, by decide⟩
theorem zk_TFLaw_49 : mm_Vl "TensorForgeLaw" 49 0 2 zy_listing_1_14 := ⟨zyw_listing_1_14, (R_TF, F_TF, 12), rfl, mm_tb_1 1247 (by decide +kernel) rfl, mm_tb_1 1248 (by decide +kernel) rfl, mm_tb_1 1249 (by decide +kernel) rfl⟩
theorem zd_L_listing_0 : zz_D zy_listing_L 0 (.aload_n 3) 1 1 := ⟨by decide +kernel, rfl⟩
theorem zd_L_listing_1 : zz_D zy_listing_L 1 (.iconst 0) 1 2 := ⟨by decide +kernel, rfl⟩
theorem zd_L_listing_2 : zz_D zy_listing_L 2 (.aload_n 0) 1 3 := ⟨by decide +kernel, rfl⟩
theorem zd_L_listing_3 : zz_D zy_listing_L 3 (.iload_n 1) 1 4 := ⟨by decide +kernel, rfl⟩
theorem zd_L_listing_4 : zz_D zy_listing_L 4 (.iload_n 2) 1 5 := ⟨by decide +kernel, rfl⟩
theorem zd_L_listing_5 : zz_D zy_listing_L 5 (.invokevirtual 49) 3 8 := ⟨by decide +kernel, rfl⟩
theorem zd_L_listing_13 : zz_D zy_listing_L 13 (.astore 4) 2 15 := ⟨by decide +kernel, rfl⟩
theorem zd_L_listing_15 : zz_D zy_listing_L 15 (.iconst 1) 1 16 := ⟨by decide +kernel, rfl⟩
theorem zd_L_listing_16 : zz_D zy_listing_L 16 (.ireturn) 1 17 := ⟨by decide +kernel, rfl⟩
theorem zd_L_listing_8 : zz_D zy_listing_L 8 (.i2l) 1 9 := ⟨by decide +kernel, rfl⟩
theorem zd_L_listing_9 : zz_D zy_listing_L 9 (.lastore) 1 10 := ⟨by decide +kernel, rfl⟩
theorem zd_L_listing_10 : zz_B zy_listing_L 10 Instr.goto 17 13 := ⟨7, by decide +kernel, rfl, rfl⟩
theorem zd_L_listing_17 : zz_D zy_listing_L 17 (.iconst 0) 1 18 := ⟨by decide +kernel, rfl⟩
theorem zd_L_listing_18 : zz_D zy_listing_L 18 (.ireturn) 1 19 := ⟨by decide +kernel, rfl⟩
-- TensorForgeLaw listing (LTensorForge;II[J)I
abbrev zr_listing_L : Room := { frames := 9, cells := 1, slots := 6, locals := 128 }
def zp_listing_L (p1 : Int) (p2 : Int) (S0 : zz_S) : Int → zz_S → Prop := fun r S => zz_G S ∧ zz_fr [(1077, 1)] [1078, 1121] (fun _ _ => False) S0 S ∧ ((-2147483648) ≤ r ∧ r ≤ 2147483647)
theorem zc_listing_L {g : mm_G} {l : Launch} (p1 : Int) (p2 : Int) (S0 : zz_S) (n : Nat) (hn : zz_end ≤ n) (hfl : l.flags = flags0) (G_S0 : zz_G S0) (hp1 : (-2147483648) ≤ p1 ∧ p1 ≤ 2147483647) (hp2 : (-2147483648) ≤ p2 ∧ p2 ≤ 2147483647) : mm_MetH g l zy_listing_L [(0, 10, 13, 19)] zr_listing_L [.ref 1000, zi p1, zi p2, .ref 1121] (zz_M S0 n) n (zz_QW n (zp_listing_L p1 p2 S0)) := by
  refine zz_enterH (by decide) (Nat.le_of_ble_eq_true rfl) (zz_less (ls1 := [some (.ref 1000), some (zi p1), some (zi p2), some (.ref 1121)]) ⟨rfl, ⟨rfl, ⟨rfl, ⟨rfl, trivial⟩⟩⟩⟩ ?_)
  have F_S0 : zz_fr [(1077, 1)] [1078, 1121] (fun _ _ => False) S0 S0 := zz_fr.refl
  refine zz_aload_n (x := 1121) rfl zd_L_listing_0 ?_
  refine zz_iconst zd_L_listing_1 ?_
  refine zz_aload_n (x := 1000) rfl zd_L_listing_2 ?_
  refine zz_iload_n (x := p1) rfl zd_L_listing_3 ?_
  refine zz_iload_n (x := p2) rfl zd_L_listing_4 ?_
  refine zz_callVCI [zi p1, zi p2] zd_L_listing_5 zk_TFLaw_49 zT_1000 (zz_ltn hn rfl) rfl rfl ⟨Nat.le_of_ble_eq_true rfl, Nat.le_of_ble_eq_true rfl⟩ (Nat.le_of_ble_eq_true rfl) (Nat.le_of_ble_eq_true rfl) (zc_listing_1_14 p1 p2 S0 n hn hfl G_S0 (by omega) (by omega)) (fun i SX hX => ?_) (fun v4 S3 hP => ?_)
  · obtain ⟨GX, fX, x0, x1⟩ := hX
    have FX := zz_fr.trans F_S0 fX rfl zz_nv
    rcases (by omega : i = 1) with rfl
    · refine zz_catchW zxL_listing_L zxY_listing_L zxC_listing_L (by decide) rfl zd_L_listing_13 (by decide) ?_
      refine zz_iconst zd_L_listing_15 ?_
      exact zz_iret zd_L_listing_16 rfl (Nat.le_of_ble_eq_true rfl) (Nat.le_of_ble_eq_true rfl) ⟨_, _, 1, rfl, Nat.le_refl _, GX, FX, by omega⟩
  obtain ⟨G_S3, fS3, o5⟩ := hP
  have F_S3 := zz_fr.trans F_S0 fS3 rfl zz_nv
  refine zz_i2l (by omega) zd_L_listing_8 ?_
  refine zz_last zd_L_listing_9 zT_1121 rfl (zz_ltn hn rfl) (by decide) (by decide) (fun S6 qS6 => ?_)
  have G_S6 := zz_G.put G_S3 qS6 (-9223372036854775808) 9223372036854775807 rfl (by omega)
  have F_S6 := zz_fr.putc F_S3 qS6 rfl
  refine zz_goto zd_L_listing_10 ?_
  refine zz_iconst zd_L_listing_17 ?_
  exact zz_iret zd_L_listing_18 rfl (Nat.le_of_ble_eq_true rfl) (Nat.le_of_ble_eq_true rfl) ⟨_, _, 0, rfl, Nat.zero_le _, G_S6, F_S6, by omega⟩
abbrev zy_stopped_L : mm_Y := (⟨"TensorForgeLaw", "stopped", "(LTensorForge;I[J)I"⟩, method_13_code, 4, (some .int))
abbrev zxL_stopped_L : List ((Nat × Nat × Nat × Nat) × Nat) := [((0, 9, 12, 13), 0)]
theorem zxY_stopped_L : Cond.codeWith zy_stopped_L.1 zy_stopped_L.2.1 zy_stopped_L.2.2.1 zy_stopped_L.2.2.2 (zxL_stopped_L.map Prod.fst) ∈ mm_tb := mm_tb_1 1306 (by decide +kernel) rfl
theorem zxC_stopped_L : ∀ z ∈ zxL_stopped_L, Cond.classLink zy_stopped_L.1.cls z.1.2.2.2 (mm_xn z.2) ∈ mm_tb ∧ z.1.2.2.2 ≠ 0 ∧ z.2 < 4 := by
  intro z hz
  simp only [List.mem_cons, List.not_mem_nil, or_false] at hz
  rcases hz with rfl
  · exact ⟨mm_tb_1 1043 (by decide +kernel) rfl, by decide, by decide⟩
theorem zk_TFLaw_52 : mm_Vl "TensorForgeLaw" 52 0 1 zy_stopped_1_16 := ⟨zyw_stopped_1_16, (R_TF, F_TF, 12), rfl, mm_tb_1 1307 (by decide +kernel) rfl, mm_tb_1 1308 (by decide +kernel) rfl, mm_tb_1 1309 (by decide +kernel) rfl⟩
theorem zd_L_stopped_0 : zz_D zy_stopped_L 0 (.aload_n 2) 1 1 := ⟨by decide +kernel, rfl⟩
theorem zd_L_stopped_1 : zz_D zy_stopped_L 1 (.iconst 0) 1 2 := ⟨by decide +kernel, rfl⟩
theorem zd_L_stopped_2 : zz_D zy_stopped_L 2 (.aload_n 0) 1 3 := ⟨by decide +kernel, rfl⟩
theorem zd_L_stopped_3 : zz_D zy_stopped_L 3 (.iload_n 1) 1 4 := ⟨by decide +kernel, rfl⟩
theorem zd_L_stopped_4 : zz_D zy_stopped_L 4 (.invokevirtual 52) 3 7 := ⟨by decide +kernel, rfl⟩
theorem zd_L_stopped_12 : zz_D zy_stopped_L 12 (.astore_n 3) 1 13 := ⟨by decide +kernel, rfl⟩
theorem zd_L_stopped_13 : zz_D zy_stopped_L 13 (.iconst 1) 1 14 := ⟨by decide +kernel, rfl⟩
theorem zd_L_stopped_14 : zz_D zy_stopped_L 14 (.ireturn) 1 15 := ⟨by decide +kernel, rfl⟩
theorem zd_L_stopped_7 : zz_D zy_stopped_L 7 (.i2l) 1 8 := ⟨by decide +kernel, rfl⟩
theorem zd_L_stopped_8 : zz_D zy_stopped_L 8 (.lastore) 1 9 := ⟨by decide +kernel, rfl⟩
theorem zd_L_stopped_9 : zz_B zy_stopped_L 9 Instr.goto 15 12 := ⟨6, by decide +kernel, rfl, rfl⟩
theorem zd_L_stopped_15 : zz_D zy_stopped_L 15 (.iconst 0) 1 16 := ⟨by decide +kernel, rfl⟩
theorem zd_L_stopped_16 : zz_D zy_stopped_L 16 (.ireturn) 1 17 := ⟨by decide +kernel, rfl⟩
-- TensorForgeLaw stopped (LTensorForge;I[J)I
abbrev zr_stopped_L : Room := { frames := 7, cells := 1, slots := 6, locals := 97 }
def zp_stopped_L (p1 : Int) (S0 : zz_S) : Int → zz_S → Prop := fun r S => zz_G S ∧ zz_fr [] [1121] (fun _ _ => False) S0 S ∧ ((-2147483648) ≤ r ∧ r ≤ 2147483647)
theorem zc_stopped_L {g : mm_G} {l : Launch} (p1 : Int) (S0 : zz_S) (n : Nat) (hn : zz_end ≤ n) (hfl : l.flags = flags0) (G_S0 : zz_G S0) (hp1 : (-2147483648) ≤ p1 ∧ p1 ≤ 2147483647) : mm_MetH g l zy_stopped_L [(0, 9, 12, 13)] zr_stopped_L [.ref 1000, zi p1, .ref 1121] (zz_M S0 n) n (zz_QW n (zp_stopped_L p1 S0)) := by
  refine zz_enterH (by decide) (Nat.le_of_ble_eq_true rfl) (zz_less (ls1 := [some (.ref 1000), some (zi p1), some (.ref 1121)]) ⟨rfl, ⟨rfl, ⟨rfl, trivial⟩⟩⟩ ?_)
  have F_S0 : zz_fr [] [1121] (fun _ _ => False) S0 S0 := zz_fr.refl
  refine zz_aload_n (x := 1121) rfl zd_L_stopped_0 ?_
  refine zz_iconst zd_L_stopped_1 ?_
  refine zz_aload_n (x := 1000) rfl zd_L_stopped_2 ?_
  refine zz_iload_n (x := p1) rfl zd_L_stopped_3 ?_
  refine zz_callVCI [zi p1] zd_L_stopped_4 zk_TFLaw_52 zT_1000 (zz_ltn hn rfl) rfl rfl ⟨Nat.le_of_ble_eq_true rfl, Nat.le_of_ble_eq_true rfl⟩ (Nat.le_of_ble_eq_true rfl) (Nat.le_of_ble_eq_true rfl) (zc_stopped_1_16 p1 S0 n hn hfl G_S0 (by omega)) (fun i SX hX => ?_) (fun v4 S3 hP => ?_)
  · obtain ⟨rfl, x0, x1⟩ := hX
    rcases (by omega : i = 0) with rfl
    · refine zz_catch (q := 3) zxL_stopped_L zxY_stopped_L zxC_stopped_L (by decide) rfl zd_L_stopped_12 (by decide) ?_
      refine zz_iconst zd_L_stopped_13 ?_
      exact zz_iret zd_L_stopped_14 rfl (Nat.le_of_ble_eq_true rfl) (Nat.le_of_ble_eq_true rfl) ⟨_, _, 1, rfl, Nat.le_refl _, G_S0, F_S0, by omega⟩
  obtain ⟨rfl, o5⟩ := hP
  refine zz_i2l (by omega) zd_L_stopped_7 ?_
  refine zz_last zd_L_stopped_8 zT_1121 rfl (zz_ltn hn rfl) (by decide) (by decide) (fun S6 qS6 => ?_)
  have G_S6 := zz_G.put G_S0 qS6 (-9223372036854775808) 9223372036854775807 rfl (by omega)
  have F_S6 := zz_fr.putc F_S0 qS6 rfl
  refine zz_goto zd_L_stopped_9 ?_
  refine zz_iconst zd_L_stopped_15 ?_
  exact zz_iret zd_L_stopped_16 rfl (Nat.le_of_ble_eq_true rfl) (Nat.le_of_ble_eq_true rfl) ⟨_, _, 0, rfl, Nat.zero_le _, G_S6, F_S6, by omega⟩
abbrev zy_instruction_L : mm_Y := (⟨"TensorForgeLaw", "instruction", "(LTensorForge;II[J)I"⟩, method_14_code, 5, (some .int))
abbrev zxL_instruction_L : List ((Nat × Nat × Nat × Nat) × Nat) := [((0, 10, 13, 58), 3), ((0, 10, 17, 19), 1), ((0, 10, 21, 13), 0)]
theorem zxY_instruction_L : Cond.codeWith zy_instruction_L.1 zy_instruction_L.2.1 zy_instruction_L.2.2.1 zy_instruction_L.2.2.2 (zxL_instruction_L.map Prod.fst) ∈ mm_tb := mm_tb_1 1314 (by decide +kernel) rfl
theorem zxC_instruction_L : ∀ z ∈ zxL_instruction_L, Cond.classLink zy_instruction_L.1.cls z.1.2.2.2 (mm_xn z.2) ∈ mm_tb ∧ z.1.2.2.2 ≠ 0 ∧ z.2 < 4 := by
  intro z hz
  simp only [List.mem_cons, List.not_mem_nil, or_false] at hz
  rcases hz with rfl | rfl | rfl
  · exact ⟨mm_tb_1 1315 (by decide +kernel) rfl, by decide, by decide⟩ 
  · exact ⟨mm_tb_1 1128 (by decide +kernel) rfl, by decide, by decide⟩ 
  · exact ⟨mm_tb_1 1043 (by decide +kernel) rfl, by decide, by decide⟩
theorem zk_TFLaw_55 : mm_Vl "TensorForgeLaw" 55 0 2 zy_instruction_1_17 := ⟨zyw_instruction_1_17, (R_TF, F_TF, 12), rfl, mm_tb_1 1316 (by decide +kernel) rfl, mm_tb_1 1317 (by decide +kernel) rfl, mm_tb_1 1318 (by decide +kernel) rfl⟩
theorem zd_L_instruction_0 : zz_D zy_instruction_L 0 (.aload_n 3) 1 1 := ⟨by decide +kernel, rfl⟩
theorem zd_L_instruction_1 : zz_D zy_instruction_L 1 (.iconst 0) 1 2 := ⟨by decide +kernel, rfl⟩
theorem zd_L_instruction_2 : zz_D zy_instruction_L 2 (.aload_n 0) 1 3 := ⟨by decide +kernel, rfl⟩
theorem zd_L_instruction_3 : zz_D zy_instruction_L 3 (.iload_n 1) 1 4 := ⟨by decide +kernel, rfl⟩
theorem zd_L_instruction_4 : zz_D zy_instruction_L 4 (.iload_n 2) 1 5 := ⟨by decide +kernel, rfl⟩
theorem zd_L_instruction_5 : zz_D zy_instruction_L 5 (.invokevirtual 55) 3 8 := ⟨by decide +kernel, rfl⟩
theorem zd_L_instruction_21 : zz_D zy_instruction_L 21 (.astore 4) 2 23 := ⟨by decide +kernel, rfl⟩
theorem zd_L_instruction_23 : zz_D zy_instruction_L 23 (.iconst 3) 1 24 := ⟨by decide +kernel, rfl⟩
theorem zd_L_instruction_24 : zz_D zy_instruction_L 24 (.ireturn) 1 25 := ⟨by decide +kernel, rfl⟩
theorem zd_L_instruction_17 : zz_D zy_instruction_L 17 (.astore 4) 2 19 := ⟨by decide +kernel, rfl⟩
theorem zd_L_instruction_19 : zz_D zy_instruction_L 19 (.iconst 2) 1 20 := ⟨by decide +kernel, rfl⟩
theorem zd_L_instruction_20 : zz_D zy_instruction_L 20 (.ireturn) 1 21 := ⟨by decide +kernel, rfl⟩
theorem zd_L_instruction_13 : zz_D zy_instruction_L 13 (.astore 4) 2 15 := ⟨by decide +kernel, rfl⟩
theorem zd_L_instruction_15 : zz_D zy_instruction_L 15 (.iconst 1) 1 16 := ⟨by decide +kernel, rfl⟩
theorem zd_L_instruction_16 : zz_D zy_instruction_L 16 (.ireturn) 1 17 := ⟨by decide +kernel, rfl⟩
theorem zd_L_instruction_8 : zz_D zy_instruction_L 8 (.i2l) 1 9 := ⟨by decide +kernel, rfl⟩
theorem zd_L_instruction_9 : zz_D zy_instruction_L 9 (.lastore) 1 10 := ⟨by decide +kernel, rfl⟩
theorem zd_L_instruction_10 : zz_B zy_instruction_L 10 Instr.goto 25 13 := ⟨15, by decide +kernel, rfl, rfl⟩
theorem zd_L_instruction_25 : zz_D zy_instruction_L 25 (.iconst 0) 1 26 := ⟨by decide +kernel, rfl⟩
theorem zd_L_instruction_26 : zz_D zy_instruction_L 26 (.ireturn) 1 27 := ⟨by decide +kernel, rfl⟩
-- TensorForgeLaw instruction (LTensorForge;II[J)I
abbrev zr_instruction_L : Room := { frames := 8, cells := 2, slots := 12, locals := 111 }
def zp_instruction_L (p1 : Int) (p2 : Int) (S0 : zz_S) : Int → zz_S → Prop := fun r S => zz_G S ∧ zz_fr [] [1121] (fun _ _ => False) S0 S ∧ ((-2147483648) ≤ r ∧ r ≤ 2147483647)
theorem zc_instruction_L {g : mm_G} {l : Launch} (p1 : Int) (p2 : Int) (S0 : zz_S) (n : Nat) (hn : zz_end ≤ n) (hfl : l.flags = flags0) (G_S0 : zz_G S0) (hp1 : (-2147483648) ≤ p1 ∧ p1 ≤ 2147483647) (hp2 : (-2147483648) ≤ p2 ∧ p2 ≤ 2147483647) : mm_MetH g l zy_instruction_L [(0, 10, 13, 58), (0, 10, 17, 19), (0, 10, 21, 13)] zr_instruction_L [.ref 1000, zi p1, zi p2, .ref 1121] (zz_M S0 n) n (zz_QW n (zp_instruction_L p1 p2 S0)) := by
  refine zz_enterH (by decide) (Nat.le_of_ble_eq_true rfl) (zz_less (ls1 := [some (.ref 1000), some (zi p1), some (zi p2), some (.ref 1121)]) ⟨rfl, ⟨rfl, ⟨rfl, ⟨rfl, trivial⟩⟩⟩⟩ ?_)
  have F_S0 : zz_fr [] [1121] (fun _ _ => False) S0 S0 := zz_fr.refl
  refine zz_aload_n (x := 1121) rfl zd_L_instruction_0 ?_
  refine zz_iconst zd_L_instruction_1 ?_
  refine zz_aload_n (x := 1000) rfl zd_L_instruction_2 ?_
  refine zz_iload_n (x := p1) rfl zd_L_instruction_3 ?_
  refine zz_iload_n (x := p2) rfl zd_L_instruction_4 ?_
  refine zz_callVCI [zi p1, zi p2] zd_L_instruction_5 zk_TFLaw_55 zT_1000 (zz_ltn hn rfl) rfl rfl ⟨Nat.le_of_ble_eq_true rfl, Nat.le_of_ble_eq_true rfl⟩ (Nat.le_of_ble_eq_true rfl) (Nat.le_of_ble_eq_true rfl) (zc_instruction_1_17 p1 p2 S0 n hn hfl G_S0 (by omega) (by omega)) (fun i SX hX => ?_) (fun v4 S3 hP => ?_)
  · obtain ⟨rfl, x0, x1⟩ := hX
    rcases (by omega : i = 0 ∨ i = 1 ∨ i = 3) with rfl | rfl | rfl
    · refine zz_catchW zxL_instruction_L zxY_instruction_L zxC_instruction_L (by decide) rfl zd_L_instruction_21 (by decide) ?_
      refine zz_iconst zd_L_instruction_23 ?_
      exact zz_iret zd_L_instruction_24 rfl (Nat.le_of_ble_eq_true rfl) (Nat.le_of_ble_eq_true rfl) ⟨_, _, 1, rfl, Nat.le_refl _, G_S0, F_S0, by omega⟩
    · refine zz_catchW zxL_instruction_L zxY_instruction_L zxC_instruction_L (by decide) rfl zd_L_instruction_17 (by decide) ?_
      refine zz_iconst zd_L_instruction_19 ?_
      exact zz_iret zd_L_instruction_20 rfl (Nat.le_of_ble_eq_true rfl) (Nat.le_of_ble_eq_true rfl) ⟨_, _, 1, rfl, Nat.le_refl _, G_S0, F_S0, by omega⟩
    · refine zz_catchW zxL_instruction_L zxY_instruction_L zxC_instruction_L (by decide) rfl zd_L_instruction_13 (by decide) ?_
      refine zz_iconst zd_L_instruction_15 ?_
      exact zz_iret zd_L_instruction_16 rfl (Nat.le_of_ble_eq_true rfl) (Nat.le_of_ble_eq_true rfl) ⟨_, _, 1, rfl, Nat.le_refl _, G_S0, F_S0, by omega⟩
  obtain ⟨rfl, o5⟩ := hP
  refine zz_i2l (by omega) zd_L_instruction_8 ?_
  refine zz_last zd_L_instruction_9 zT_1121 rfl (zz_ltn hn rfl) (by decide) (by decide) (fun S6 qS6 => ?_)
  have G_S6 := zz_G.put G_S0 qS6 (-9223372036854775808) 9223372036854775807 rfl (by omega)
  have F_S6 := zz_fr.putc F_S0 qS6 rfl
  refine zz_goto zd_L_instruction_10 ?_
  refine zz_iconst zd_L_instruction_25 ?_
  exact zz_iret zd_L_instruction_26 rfl (Nat.le_of_ble_eq_true rfl) (Nat.le_of_ble_eq_true rfl) ⟨_, _, 0, rfl, Nat.zero_le _, G_S6, F_S6, by omega⟩
abbrev zy_input_L : mm_Y := (⟨"TensorForgeLaw", "input", "(LTensorForge;III)I"⟩, method_15_code, 5, (some .int))
abbrev zxL_input_L : List ((Nat × Nat × Nat × Nat) × Nat) := [((0, 7, 10, 13), 0)]
theorem zxY_input_L : Cond.codeWith zy_input_L.1 zy_input_L.2.1 zy_input_L.2.2.1 zy_input_L.2.2.2 (zxL_input_L.map Prod.fst) ∈ mm_tb := mm_tb_1 1345 (by decide +kernel) rfl
theorem zxC_input_L : ∀ z ∈ zxL_input_L, Cond.classLink zy_input_L.1.cls z.1.2.2.2 (mm_xn z.2) ∈ mm_tb ∧ z.1.2.2.2 ≠ 0 ∧ z.2 < 4 := by
  intro z hz
  simp only [List.mem_cons, List.not_mem_nil, or_false] at hz
  rcases hz with rfl
  · exact ⟨mm_tb_1 1043 (by decide +kernel) rfl, by decide, by decide⟩
theorem zk_TFLaw_60 : mm_Vl "TensorForgeLaw" 60 0 3 zy_input_1_18 := ⟨zyw_input_1_18, (R_TF, F_TF, 12), rfl, mm_tb_1 1346 (by decide +kernel) rfl, mm_tb_1 1347 (by decide +kernel) rfl, mm_tb_1 1348 (by decide +kernel) rfl⟩
theorem zd_L_input_0 : zz_D zy_input_L 0 (.aload_n 0) 1 1 := ⟨by decide +kernel, rfl⟩
theorem zd_L_input_1 : zz_D zy_input_L 1 (.iload_n 1) 1 2 := ⟨by decide +kernel, rfl⟩
theorem zd_L_input_2 : zz_D zy_input_L 2 (.iload_n 2) 1 3 := ⟨by decide +kernel, rfl⟩
theorem zd_L_input_3 : zz_D zy_input_L 3 (.iload_n 3) 1 4 := ⟨by decide +kernel, rfl⟩
theorem zd_L_input_4 : zz_D zy_input_L 4 (.invokevirtual 60) 3 7 := ⟨by decide +kernel, rfl⟩
theorem zd_L_input_10 : zz_D zy_input_L 10 (.astore 4) 2 12 := ⟨by decide +kernel, rfl⟩
theorem zd_L_input_12 : zz_D zy_input_L 12 (.iconst 1) 1 13 := ⟨by decide +kernel, rfl⟩
theorem zd_L_input_13 : zz_D zy_input_L 13 (.ireturn) 1 14 := ⟨by decide +kernel, rfl⟩
theorem zd_L_input_7 : zz_B zy_input_L 7 Instr.goto 14 10 := ⟨7, by decide +kernel, rfl, rfl⟩
theorem zd_L_input_14 : zz_D zy_input_L 14 (.iconst 0) 1 15 := ⟨by decide +kernel, rfl⟩
theorem zd_L_input_15 : zz_D zy_input_L 15 (.ireturn) 1 16 := ⟨by decide +kernel, rfl⟩
-- TensorForgeLaw input (LTensorForge;III)I
abbrev zr_input_L : Room := { frames := 7, cells := 1, slots := 6, locals := 97 }
def zp_input_L (p1 : Int) (p2 : Int) (p3 : Int) (S0 : zz_S) : Int → zz_S → Prop := fun r S => zz_G S ∧ zz_fr [] [] (fun a i => (a = zz_rf 3 (S0 1000 7) ∧ i = 1) ∨ (a = zz_rf 6 (12 * (S0 1000 7) + 0) ∧ i = 0) ∨ (a = zz_rf 6 (12 * (S0 1000 7) + 0) ∧ i = 1) ∨ (a = zz_rf 6 (12 * (S0 1000 7) + 0) ∧ i = 10) ∨ (a = zz_rf 6 (12 * (S0 1000 7) + 0) ∧ i = 11) ∨ (a = zz_rf 6 (12 * (S0 1000 7) + 0) ∧ i = 12) ∨ (a = zz_rf 6 (12 * (S0 1000 7) + 0) ∧ i = 13) ∨ (a = zz_rf 6 (12 * (S0 1000 7) + 0) ∧ i = 14) ∨ (a = zz_rf 6 (12 * (S0 1000 7) + 0) ∧ i = 2) ∨ (a = zz_rf 6 (12 * (S0 1000 7) + 0) ∧ i = 3) ∨ (a = zz_rf 6 (12 * (S0 1000 7) + 0) ∧ i = 4) ∨ (a = zz_rf 6 (12 * (S0 1000 7) + 0) ∧ i = 5) ∨ (a = zz_rf 6 (12 * (S0 1000 7) + 0) ∧ i = 6) ∨ (a = zz_rf 6 (12 * (S0 1000 7) + 0) ∧ i = 7) ∨ (a = zz_rf 6 (12 * (S0 1000 7) + 0) ∧ i = 8) ∨ (a = zz_rf 6 (12 * (S0 1000 7) + 0) ∧ i = 9)) S0 S ∧ ((-2147483648) ≤ r ∧ r ≤ 2147483647) ∧ ((1 ≤ p1 ∧ p1 ≤ 63 ∧ 1 ≤ p2 ∧ p2 ≤ 63 ∧ 1 ≤ p3 ∧ p3 ≤ 63 ∧ (p1 * p2) * p3 ≤ 2048 ∧ r = 0) ∨ ((p1 < 1 ∨ 63 < p1 ∨ p2 < 1 ∨ 63 < p2 ∨ p3 < 1 ∨ 63 < p3 ∨ 2048 < (p1 * p2) * p3) ∧ r = 1)) ∧ (r = 0 → ∀ nm : Int, zn_C S (S0 1000 7) (zn_ip p1 p2 p3 nm)) ∧ (r ≠ 0 → ∀ v : zn_T, zn_V v → zn_C S0 (S0 1000 7) v → zn_C S (S0 1000 7) v) ∧ (zz_Hc S)
theorem zc_input_L {g : mm_G} {l : Launch} (p1 : Int) (p2 : Int) (p3 : Int) (S0 : zz_S) (n : Nat) (hn : zz_end ≤ n) (hfl : l.flags = flags0) (G_S0 : zz_G S0) (hp1 : (-2147483648) ≤ p1 ∧ p1 ≤ 2147483647) (hp2 : (-2147483648) ≤ p2 ∧ p2 ≤ 2147483647) (hp3 : (-2147483648) ≤ p3 ∧ p3 ≤ 2147483647) (H_S0 : zz_Hc S0) : mm_MetH g l zy_input_L [(0, 7, 10, 13)] zr_input_L [.ref 1000, zi p1, zi p2, zi p3] (zz_M S0 n) n (zz_QW n (zp_input_L p1 p2 p3 S0)) := by
  refine zz_enterH (by decide) (Nat.le_of_ble_eq_true rfl) (zz_less (ls1 := [some (.ref 1000), some (zi p1), some (zi p2), some (zi p3)]) ⟨rfl, ⟨rfl, ⟨rfl, ⟨rfl, trivial⟩⟩⟩⟩ ?_)
  have F_S0 : zz_fr [] [] (fun a i => (a = zz_rf 3 (S0 1000 7) ∧ i = 1) ∨ (a = zz_rf 6 (12 * (S0 1000 7) + 0) ∧ i = 0) ∨ (a = zz_rf 6 (12 * (S0 1000 7) + 0) ∧ i = 1) ∨ (a = zz_rf 6 (12 * (S0 1000 7) + 0) ∧ i = 10) ∨ (a = zz_rf 6 (12 * (S0 1000 7) + 0) ∧ i = 11) ∨ (a = zz_rf 6 (12 * (S0 1000 7) + 0) ∧ i = 12) ∨ (a = zz_rf 6 (12 * (S0 1000 7) + 0) ∧ i = 13) ∨ (a = zz_rf 6 (12 * (S0 1000 7) + 0) ∧ i = 14) ∨ (a = zz_rf 6 (12 * (S0 1000 7) + 0) ∧ i = 2) ∨ (a = zz_rf 6 (12 * (S0 1000 7) + 0) ∧ i = 3) ∨ (a = zz_rf 6 (12 * (S0 1000 7) + 0) ∧ i = 4) ∨ (a = zz_rf 6 (12 * (S0 1000 7) + 0) ∧ i = 5) ∨ (a = zz_rf 6 (12 * (S0 1000 7) + 0) ∧ i = 6) ∨ (a = zz_rf 6 (12 * (S0 1000 7) + 0) ∧ i = 7) ∨ (a = zz_rf 6 (12 * (S0 1000 7) + 0) ∧ i = 8) ∨ (a = zz_rf 6 (12 * (S0 1000 7) + 0) ∧ i = 9)) S0 S0 := zz_fr.refl
  refine zz_aload_n (x := 1000) rfl zd_L_input_0 ?_
  refine zz_iload_n (x := p1) rfl zd_L_input_1 ?_
  refine zz_iload_n (x := p2) rfl zd_L_input_2 ?_
  refine zz_iload_n (x := p3) rfl zd_L_input_3 ?_
  have g1 := zz_G.r G_S0 1000 7 0 1 rfl rfl
  refine zz_callVCV [zi p1, zi p2, zi p3] zd_L_input_4 zk_TFLaw_60 zT_1000 (zz_ltn hn rfl) rfl rfl ⟨Nat.le_of_ble_eq_true rfl, Nat.le_of_ble_eq_true rfl⟩ (Nat.le_of_ble_eq_true rfl) (Nat.le_of_ble_eq_true rfl) (zc_input_1_18 p1 p2 p3 S0 n hn hfl G_S0 (by omega) (by omega) (by omega) H_S0) (fun i SX hX => ?_) (fun S4 hP => ?_)
  · obtain ⟨GX, fX, x0, x1, x2, x3⟩ := hX
    have g9 := zz_G.r G_S0 1000 7 0 1 rfl rfl
    have FX := zz_fr.trans F_S0 fX rfl (fun a i h => by rcases h with h | h | h | h | h | h | h | h | h | h | h | h | h | h | h | h; exact Or.inr (Or.inr (Or.inl h)); exact Or.inr (Or.inr (Or.inr (Or.inl h))); exact Or.inr (Or.inr (Or.inr (Or.inr (Or.inl h)))); exact Or.inr (Or.inr (Or.inr (Or.inr (Or.inr (Or.inl h))))); exact Or.inr (Or.inr (Or.inr (Or.inr (Or.inr (Or.inr (Or.inl h)))))); exact Or.inr (Or.inr (Or.inr (Or.inr (Or.inr (Or.inr (Or.inr (Or.inl h))))))); exact Or.inr (Or.inr (Or.inr (Or.inr (Or.inr (Or.inr (Or.inr (Or.inr (Or.inl h)))))))); exact Or.inr (Or.inr (Or.inr (Or.inr (Or.inr (Or.inr (Or.inr (Or.inr (Or.inr (Or.inl h))))))))); exact Or.inr (Or.inr (Or.inr (Or.inr (Or.inr (Or.inr (Or.inr (Or.inr (Or.inr (Or.inr (Or.inl h)))))))))); exact Or.inr (Or.inr (Or.inr (Or.inr (Or.inr (Or.inr (Or.inr (Or.inr (Or.inr (Or.inr (Or.inr (Or.inl h))))))))))); exact Or.inr (Or.inr (Or.inr (Or.inr (Or.inr (Or.inr (Or.inr (Or.inr (Or.inr (Or.inr (Or.inr (Or.inr (Or.inl h)))))))))))); exact Or.inr (Or.inr (Or.inr (Or.inr (Or.inr (Or.inr (Or.inr (Or.inr (Or.inr (Or.inr (Or.inr (Or.inr (Or.inr (Or.inl h))))))))))))); exact Or.inr (Or.inr (Or.inr (Or.inr (Or.inr (Or.inr (Or.inr (Or.inr (Or.inr (Or.inr (Or.inr (Or.inr (Or.inr (Or.inr (Or.inl h)))))))))))))); exact Or.inr (Or.inr (Or.inr (Or.inr (Or.inr (Or.inr (Or.inr (Or.inr (Or.inr (Or.inr (Or.inr (Or.inr (Or.inr (Or.inr (Or.inr (Or.inl h))))))))))))))); exact Or.inr (Or.inr (Or.inr (Or.inr (Or.inr (Or.inr (Or.inr (Or.inr (Or.inr (Or.inr (Or.inr (Or.inr (Or.inr (Or.inr (Or.inr (Or.inr (Or.inl h)))))))))))))))); exact Or.inr (Or.inr (Or.inr (Or.inr (Or.inr (Or.inr (Or.inr (Or.inr (Or.inr (Or.inr (Or.inr (Or.inr (Or.inr (Or.inr (Or.inr (Or.inr (Or.inr (h))))))))))))))))))
    rcases (by omega : i = 0) with rfl
    · refine zz_catchW zxL_input_L zxY_input_L zxC_input_L (by decide) rfl zd_L_input_10 (by decide) ?_
      refine zz_iconst zd_L_input_12 ?_
      exact zz_iret zd_L_input_13 rfl (Nat.le_of_ble_eq_true rfl) (Nat.le_of_ble_eq_true rfl) ⟨_, _, 1, rfl, Nat.le_refl _, GX, FX, by omega, by omega, fun h => absurd h (by decide), (fun _ v _ h => x2 v h), x3⟩
  obtain ⟨G_S4, fS4, o6, o7, o8⟩ := hP
  have F_S4 := zz_fr.trans F_S0 fS4 rfl (fun a i h => by rcases h with h | h | h | h | h | h | h | h | h | h | h | h | h | h | h | h; exact Or.inr (Or.inr (Or.inl h)); exact Or.inr (Or.inr (Or.inr (Or.inl h))); exact Or.inr (Or.inr (Or.inr (Or.inr (Or.inl h)))); exact Or.inr (Or.inr (Or.inr (Or.inr (Or.inr (Or.inl h))))); exact Or.inr (Or.inr (Or.inr (Or.inr (Or.inr (Or.inr (Or.inl h)))))); exact Or.inr (Or.inr (Or.inr (Or.inr (Or.inr (Or.inr (Or.inr (Or.inl h))))))); exact Or.inr (Or.inr (Or.inr (Or.inr (Or.inr (Or.inr (Or.inr (Or.inr (Or.inl h)))))))); exact Or.inr (Or.inr (Or.inr (Or.inr (Or.inr (Or.inr (Or.inr (Or.inr (Or.inr (Or.inl h))))))))); exact Or.inr (Or.inr (Or.inr (Or.inr (Or.inr (Or.inr (Or.inr (Or.inr (Or.inr (Or.inr (Or.inl h)))))))))); exact Or.inr (Or.inr (Or.inr (Or.inr (Or.inr (Or.inr (Or.inr (Or.inr (Or.inr (Or.inr (Or.inr (Or.inl h))))))))))); exact Or.inr (Or.inr (Or.inr (Or.inr (Or.inr (Or.inr (Or.inr (Or.inr (Or.inr (Or.inr (Or.inr (Or.inr (Or.inl h)))))))))))); exact Or.inr (Or.inr (Or.inr (Or.inr (Or.inr (Or.inr (Or.inr (Or.inr (Or.inr (Or.inr (Or.inr (Or.inr (Or.inr (Or.inl h))))))))))))); exact Or.inr (Or.inr (Or.inr (Or.inr (Or.inr (Or.inr (Or.inr (Or.inr (Or.inr (Or.inr (Or.inr (Or.inr (Or.inr (Or.inr (Or.inl h)))))))))))))); exact Or.inr (Or.inr (Or.inr (Or.inr (Or.inr (Or.inr (Or.inr (Or.inr (Or.inr (Or.inr (Or.inr (Or.inr (Or.inr (Or.inr (Or.inr (Or.inl h))))))))))))))); exact Or.inr (Or.inr (Or.inr (Or.inr (Or.inr (Or.inr (Or.inr (Or.inr (Or.inr (Or.inr (Or.inr (Or.inr (Or.inr (Or.inr (Or.inr (Or.inr (Or.inl h)))))))))))))))); exact Or.inr (Or.inr (Or.inr (Or.inr (Or.inr (Or.inr (Or.inr (Or.inr (Or.inr (Or.inr (Or.inr (Or.inr (Or.inr (Or.inr (Or.inr (Or.inr (Or.inr (h))))))))))))))))))
  refine zz_goto zd_L_input_7 ?_
  refine zz_iconst zd_L_input_14 ?_
  exact zz_iret zd_L_input_15 rfl (Nat.le_of_ble_eq_true rfl) (Nat.le_of_ble_eq_true rfl) ⟨_, _, 0, rfl, Nat.zero_le _, G_S4, F_S4, by omega, by omega, (fun _ => o7), fun h => absurd rfl h, o8⟩
abbrev zy_convolution_L : mm_Y := (⟨"TensorForgeLaw", "convolution", "(LTensorForge;IIIIII[J)I"⟩, method_16_code, 9, (some .int))
abbrev zxL_convolution_L : List ((Nat × Nat × Nat × Nat) × Nat) := [((0, 18, 21, 19), 1), ((0, 18, 25, 13), 0), ((0, 18, 29, 29), 2)]
theorem zxY_convolution_L : Cond.codeWith zy_convolution_L.1 zy_convolution_L.2.1 zy_convolution_L.2.2.1 zy_convolution_L.2.2.2 (zxL_convolution_L.map Prod.fst) ∈ mm_tb := mm_tb_1 1355 (by decide +kernel) rfl
theorem zxC_convolution_L : ∀ z ∈ zxL_convolution_L, Cond.classLink zy_convolution_L.1.cls z.1.2.2.2 (mm_xn z.2) ∈ mm_tb ∧ z.1.2.2.2 ≠ 0 ∧ z.2 < 4 := by
  intro z hz
  simp only [List.mem_cons, List.not_mem_nil, or_false] at hz
  rcases hz with rfl | rfl | rfl
  · exact ⟨mm_tb_1 1128 (by decide +kernel) rfl, by decide, by decide⟩ 
  · exact ⟨mm_tb_1 1043 (by decide +kernel) rfl, by decide, by decide⟩ 
  · exact ⟨mm_tb_1 1170 (by decide +kernel) rfl, by decide, by decide⟩
theorem zk_TFLaw_64 : mm_Vl "TensorForgeLaw" 64 0 6 zy_convolution_1_19 := ⟨zyw_convolution_1_19, (R_TF, F_TF, 12), rfl, mm_tb_1 1356 (by decide +kernel) rfl, mm_tb_1 1357 (by decide +kernel) rfl, mm_tb_1 1358 (by decide +kernel) rfl⟩
theorem zd_L_convolution_0 : zz_D zy_convolution_L 0 (.aload 7) 2 2 := ⟨by decide +kernel, rfl⟩
theorem zd_L_convolution_2 : zz_D zy_convolution_L 2 (.iconst 0) 1 3 := ⟨by decide +kernel, rfl⟩
theorem zd_L_convolution_3 : zz_D zy_convolution_L 3 (.aload_n 0) 1 4 := ⟨by decide +kernel, rfl⟩
theorem zd_L_convolution_4 : zz_D zy_convolution_L 4 (.iload_n 1) 1 5 := ⟨by decide +kernel, rfl⟩
theorem zd_L_convolution_5 : zz_D zy_convolution_L 5 (.iload_n 2) 1 6 := ⟨by decide +kernel, rfl⟩
theorem zd_L_convolution_6 : zz_D zy_convolution_L 6 (.iload_n 3) 1 7 := ⟨by decide +kernel, rfl⟩
theorem zd_L_convolution_7 : zz_D zy_convolution_L 7 (.iload 4) 2 9 := ⟨by decide +kernel, rfl⟩
theorem zd_L_convolution_9 : zz_D zy_convolution_L 9 (.iload 5) 2 11 := ⟨by decide +kernel, rfl⟩
theorem zd_L_convolution_11 : zz_D zy_convolution_L 11 (.iload 6) 2 13 := ⟨by decide +kernel, rfl⟩
theorem zd_L_convolution_13 : zz_D zy_convolution_L 13 (.invokevirtual 64) 3 16 := ⟨by decide +kernel, rfl⟩
theorem zd_L_convolution_25 : zz_D zy_convolution_L 25 (.astore 8) 2 27 := ⟨by decide +kernel, rfl⟩
theorem zd_L_convolution_27 : zz_D zy_convolution_L 27 (.iconst 2) 1 28 := ⟨by decide +kernel, rfl⟩
theorem zd_L_convolution_28 : zz_D zy_convolution_L 28 (.ireturn) 1 29 := ⟨by decide +kernel, rfl⟩
theorem zd_L_convolution_21 : zz_D zy_convolution_L 21 (.astore 8) 2 23 := ⟨by decide +kernel, rfl⟩
theorem zd_L_convolution_23 : zz_D zy_convolution_L 23 (.iconst 1) 1 24 := ⟨by decide +kernel, rfl⟩
theorem zd_L_convolution_24 : zz_D zy_convolution_L 24 (.ireturn) 1 25 := ⟨by decide +kernel, rfl⟩
theorem zd_L_convolution_29 : zz_D zy_convolution_L 29 (.astore 8) 2 31 := ⟨by decide +kernel, rfl⟩
theorem zd_L_convolution_31 : zz_D zy_convolution_L 31 (.iconst 3) 1 32 := ⟨by decide +kernel, rfl⟩
theorem zd_L_convolution_32 : zz_D zy_convolution_L 32 (.ireturn) 1 33 := ⟨by decide +kernel, rfl⟩
theorem zd_L_convolution_16 : zz_D zy_convolution_L 16 (.i2l) 1 17 := ⟨by decide +kernel, rfl⟩
theorem zd_L_convolution_17 : zz_D zy_convolution_L 17 (.lastore) 1 18 := ⟨by decide +kernel, rfl⟩
theorem zd_L_convolution_18 : zz_B zy_convolution_L 18 Instr.goto 33 21 := ⟨15, by decide +kernel, rfl, rfl⟩
theorem zd_L_convolution_33 : zz_D zy_convolution_L 33 (.iconst 0) 1 34 := ⟨by decide +kernel, rfl⟩
theorem zd_L_convolution_34 : zz_D zy_convolution_L 34 (.ireturn) 1 35 := ⟨by decide +kernel, rfl⟩
-- TensorForgeLaw convolution (LTensorForge;IIIIII[J)I
abbrev zr_convolution_L : Room := { frames := 8, cells := 1, slots := 6, locals := 116 }
def zp_convolution_L (p1 : Int) (p2 : Int) (p3 : Int) (p4 : Int) (p5 : Int) (p6 : Int) (S0 : zz_S) : Int → zz_S → Prop := fun r S => zz_G S ∧ zz_fr [] [1001, 1003, 1004, 1005, 1006, 1007, 1008, 1009, 1010, 1011, 1012, 1013, 1014, 1015, 1017, 1018, 1019, 1020, 1021, 1022, 1023, 1024, 1025, 1026, 1027, 1028, 1121] (fun _ _ => False) S0 S ∧ ((-2147483648) ≤ r ∧ r ≤ 2147483647) ∧ (zn_WL S0 S (S0 1000 7) 1 p1 p1 (p2.tdiv 10) (p2.tmod 10) (p4.tdiv 10) (p4.tmod 10) (zn_sh p5) (zn_rl p5) p3 p6 r (S 1121 0)) ∧ (zz_Hc S)
theorem zc_convolution_L {g : mm_G} {l : Launch} (p1 : Int) (p2 : Int) (p3 : Int) (p4 : Int) (p5 : Int) (p6 : Int) (S0 : zz_S) (n : Nat) (hn : zz_end ≤ n) (hfl : l.flags = flags0) (G_S0 : zz_G S0) (hp1 : (-2147483648) ≤ p1 ∧ p1 ≤ 2147483647) (hp2 : (-2147483648) ≤ p2 ∧ p2 ≤ 2147483647) (hp3 : (-2147483648) ≤ p3 ∧ p3 ≤ 2147483647) (hp4 : (-2147483648) ≤ p4 ∧ p4 ≤ 2147483647) (hp5 : (-2147483648) ≤ p5 ∧ p5 ≤ 2147483647) (hp6 : (-2147483648) ≤ p6 ∧ p6 ≤ 2147483647) (H_S0 : zz_Hc S0) : mm_MetH g l zy_convolution_L [(0, 18, 21, 19), (0, 18, 25, 13), (0, 18, 29, 29)] zr_convolution_L [.ref 1000, zi p1, zi p2, zi p3, zi p4, zi p5, zi p6, .ref 1121] (zz_M S0 n) n (zz_QW n (zp_convolution_L p1 p2 p3 p4 p5 p6 S0)) := by
  refine zz_enterH (by decide) (Nat.le_of_ble_eq_true rfl) (zz_less (ls1 := [some (.ref 1000), some (zi p1), some (zi p2), some (zi p3), some (zi p4), some (zi p5), some (zi p6), some (.ref 1121)]) ⟨rfl, ⟨rfl, ⟨rfl, ⟨rfl, ⟨rfl, ⟨rfl, ⟨rfl, ⟨rfl, trivial⟩⟩⟩⟩⟩⟩⟩⟩ ?_)
  have F_S0 : zz_fr [] [1001, 1003, 1004, 1005, 1006, 1007, 1008, 1009, 1010, 1011, 1012, 1013, 1014, 1015, 1017, 1018, 1019, 1020, 1021, 1022, 1023, 1024, 1025, 1026, 1027, 1028, 1121] (fun _ _ => False) S0 S0 := zz_fr.refl
  refine zz_aload (x := 1121) rfl zd_L_convolution_0 ?_
  refine zz_iconst zd_L_convolution_2 ?_
  refine zz_aload_n (x := 1000) rfl zd_L_convolution_3 ?_
  refine zz_iload_n (x := p1) rfl zd_L_convolution_4 ?_
  refine zz_iload_n (x := p2) rfl zd_L_convolution_5 ?_
  refine zz_iload_n (x := p3) rfl zd_L_convolution_6 ?_
  refine zz_iload (x := p4) rfl zd_L_convolution_7 ?_
  refine zz_iload (x := p5) rfl zd_L_convolution_9 ?_
  refine zz_iload (x := p6) rfl zd_L_convolution_11 ?_
  have g1 := zz_G.r G_S0 1000 7 0 1 rfl rfl
  refine zz_callVCI [zi p1, zi p2, zi p3, zi p4, zi p5, zi p6] zd_L_convolution_13 zk_TFLaw_64 zT_1000 (zz_ltn hn rfl) rfl rfl ⟨Nat.le_of_ble_eq_true rfl, Nat.le_of_ble_eq_true rfl⟩ (Nat.le_of_ble_eq_true rfl) (Nat.le_of_ble_eq_true rfl) (zc_convolution_1_19 p1 p2 p3 p4 p5 p6 S0 n hn hfl G_S0 (by omega) (by omega) (by omega) (by omega) (by omega) (by omega) H_S0) (fun i SX hX => ?_) (fun v5 S4 hP => ?_)
  · obtain ⟨GX, fX, x0, x1, x2, x3⟩ := hX
    have FX := zz_fr.trans F_S0 fX rfl zz_nv
    rcases (by omega : i = 0 ∨ i = 1 ∨ i = 2) with rfl | rfl | rfl
    · refine zz_catchW zxL_convolution_L zxY_convolution_L zxC_convolution_L (by decide) rfl zd_L_convolution_25 (by decide) ?_
      refine zz_iconst zd_L_convolution_27 ?_
      exact zz_iret zd_L_convolution_28 rfl (Nat.le_of_ble_eq_true rfl) (Nat.le_of_ble_eq_true rfl) ⟨_, _, 1, rfl, Nat.le_refl _, GX, FX, by omega, (fun v hC hV => ⟨(x2 v hC hV).1, fun h => absurd h (by decide), fun _ => (x2 v hC hV).2⟩), x3⟩
    · refine zz_catchW zxL_convolution_L zxY_convolution_L zxC_convolution_L (by decide) rfl zd_L_convolution_21 (by decide) ?_
      refine zz_iconst zd_L_convolution_23 ?_
      exact zz_iret zd_L_convolution_24 rfl (Nat.le_of_ble_eq_true rfl) (Nat.le_of_ble_eq_true rfl) ⟨_, _, 1, rfl, Nat.le_refl _, GX, FX, by omega, (fun v hC hV => ⟨(x2 v hC hV).1, fun h => absurd h (by decide), fun _ => (x2 v hC hV).2⟩), x3⟩
    · refine zz_catchW zxL_convolution_L zxY_convolution_L zxC_convolution_L (by decide) rfl zd_L_convolution_29 (by decide) ?_
      refine zz_iconst zd_L_convolution_31 ?_
      exact zz_iret zd_L_convolution_32 rfl (Nat.le_of_ble_eq_true rfl) (Nat.le_of_ble_eq_true rfl) ⟨_, _, 1, rfl, Nat.le_refl _, GX, FX, by omega, (fun v hC hV => ⟨(x2 v hC hV).1, fun h => absurd h (by decide), fun _ => (x2 v hC hV).2⟩), x3⟩
  obtain ⟨G_S4, fS4, o6, o7, o8⟩ := hP
  have F_S4 := zz_fr.trans F_S0 fS4 rfl zz_nv
  refine zz_i2l (by omega) zd_L_convolution_16 ?_
  refine zz_last zd_L_convolution_17 zT_1121 rfl (zz_ltn hn rfl) (by decide) (by decide) (fun S9 qS9 => ?_)
  have G_S9 := zz_G.put G_S4 qS9 (-9223372036854775808) 9223372036854775807 rfl (by omega)
  have F_S9 := zz_fr.putc F_S4 qS9 rfl
  have H_S9 := zz_Hc.fr (q := 0) (zz_fr.put1 qS9) rfl rfl G_S4 (by decide) rfl (fun b j h => by omega) o8
  refine zz_goto zd_L_convolution_18 ?_
  refine zz_iconst zd_L_convolution_33 ?_
  have e10 : S9 1121 0 = v5 := (zz_rs qS9)
  exact zz_iret zd_L_convolution_34 rfl (Nat.le_of_ble_eq_true rfl) (Nat.le_of_ble_eq_true rfl) ⟨_, _, 0, rfl, Nat.zero_le _, G_S9, F_S9, by omega, (fun v hC hV => by have q9 := o7 v hC hV; exact ⟨q9.1, fun _ => ⟨by omega, fun nm => zn_C.put (q9.2.2 nm) (zn_Vnw hV (by decide) q9.1) (by have g7_ := zz_G.r G_S0 1000 7 0 1 rfl rfl; omega) qS9 (by decide)⟩, fun h => absurd rfl h⟩), H_S9⟩
abbrev zy_pool_L : mm_Y := (⟨"TensorForgeLaw", "pool", "(LTensorForge;III[J)I"⟩, method_17_code, 6, (some .int))
abbrev zxL_pool_L : List ((Nat × Nat × Nat × Nat) × Nat) := [((0, 12, 15, 19), 1), ((0, 12, 19, 13), 0), ((0, 12, 23, 29), 2)]
theorem zxY_pool_L : Cond.codeWith zy_pool_L.1 zy_pool_L.2.1 zy_pool_L.2.2.1 zy_pool_L.2.2.2 (zxL_pool_L.map Prod.fst) ∈ mm_tb := mm_tb_1 1377 (by decide +kernel) rfl
theorem zxC_pool_L : ∀ z ∈ zxL_pool_L, Cond.classLink zy_pool_L.1.cls z.1.2.2.2 (mm_xn z.2) ∈ mm_tb ∧ z.1.2.2.2 ≠ 0 ∧ z.2 < 4 := by
  intro z hz
  simp only [List.mem_cons, List.not_mem_nil, or_false] at hz
  rcases hz with rfl | rfl | rfl
  · exact ⟨mm_tb_1 1128 (by decide +kernel) rfl, by decide, by decide⟩ 
  · exact ⟨mm_tb_1 1043 (by decide +kernel) rfl, by decide, by decide⟩ 
  · exact ⟨mm_tb_1 1170 (by decide +kernel) rfl, by decide, by decide⟩
theorem zk_TFLaw_68 : mm_Vl "TensorForgeLaw" 68 0 3 zy_pool_1_20 := ⟨zyw_pool_1_20, (R_TF, F_TF, 12), rfl, mm_tb_1 1378 (by decide +kernel) rfl, mm_tb_1 1379 (by decide +kernel) rfl, mm_tb_1 1380 (by decide +kernel) rfl⟩
theorem zd_L_pool_0 : zz_D zy_pool_L 0 (.aload 4) 2 2 := ⟨by decide +kernel, rfl⟩
theorem zd_L_pool_2 : zz_D zy_pool_L 2 (.iconst 0) 1 3 := ⟨by decide +kernel, rfl⟩
theorem zd_L_pool_3 : zz_D zy_pool_L 3 (.aload_n 0) 1 4 := ⟨by decide +kernel, rfl⟩
theorem zd_L_pool_4 : zz_D zy_pool_L 4 (.iload_n 1) 1 5 := ⟨by decide +kernel, rfl⟩
theorem zd_L_pool_5 : zz_D zy_pool_L 5 (.iload_n 2) 1 6 := ⟨by decide +kernel, rfl⟩
theorem zd_L_pool_6 : zz_D zy_pool_L 6 (.iload_n 3) 1 7 := ⟨by decide +kernel, rfl⟩
theorem zd_L_pool_7 : zz_D zy_pool_L 7 (.invokevirtual 68) 3 10 := ⟨by decide +kernel, rfl⟩
theorem zd_L_pool_19 : zz_D zy_pool_L 19 (.astore 5) 2 21 := ⟨by decide +kernel, rfl⟩
theorem zd_L_pool_21 : zz_D zy_pool_L 21 (.iconst 2) 1 22 := ⟨by decide +kernel, rfl⟩
theorem zd_L_pool_22 : zz_D zy_pool_L 22 (.ireturn) 1 23 := ⟨by decide +kernel, rfl⟩
theorem zd_L_pool_15 : zz_D zy_pool_L 15 (.astore 5) 2 17 := ⟨by decide +kernel, rfl⟩
theorem zd_L_pool_17 : zz_D zy_pool_L 17 (.iconst 1) 1 18 := ⟨by decide +kernel, rfl⟩
theorem zd_L_pool_18 : zz_D zy_pool_L 18 (.ireturn) 1 19 := ⟨by decide +kernel, rfl⟩
theorem zd_L_pool_23 : zz_D zy_pool_L 23 (.astore 5) 2 25 := ⟨by decide +kernel, rfl⟩
theorem zd_L_pool_25 : zz_D zy_pool_L 25 (.iconst 3) 1 26 := ⟨by decide +kernel, rfl⟩
theorem zd_L_pool_26 : zz_D zy_pool_L 26 (.ireturn) 1 27 := ⟨by decide +kernel, rfl⟩
theorem zd_L_pool_10 : zz_D zy_pool_L 10 (.i2l) 1 11 := ⟨by decide +kernel, rfl⟩
theorem zd_L_pool_11 : zz_D zy_pool_L 11 (.lastore) 1 12 := ⟨by decide +kernel, rfl⟩
theorem zd_L_pool_12 : zz_B zy_pool_L 12 Instr.goto 27 15 := ⟨15, by decide +kernel, rfl, rfl⟩
theorem zd_L_pool_27 : zz_D zy_pool_L 27 (.iconst 0) 1 28 := ⟨by decide +kernel, rfl⟩
theorem zd_L_pool_28 : zz_D zy_pool_L 28 (.ireturn) 1 29 := ⟨by decide +kernel, rfl⟩
-- TensorForgeLaw pool (LTensorForge;III[J)I
abbrev zr_pool_L : Room := { frames := 8, cells := 1, slots := 6, locals := 113 }
def zp_pool_L (p1 : Int) (p2 : Int) (p3 : Int) (S0 : zz_S) : Int → zz_S → Prop := fun r S => zz_G S ∧ zz_fr [] [1001, 1003, 1004, 1005, 1006, 1007, 1008, 1009, 1010, 1011, 1012, 1013, 1014, 1015, 1017, 1018, 1019, 1020, 1021, 1022, 1023, 1024, 1025, 1026, 1027, 1028, 1121] (fun _ _ => False) S0 S ∧ ((-2147483648) ≤ r ∧ r ≤ 2147483647) ∧ (zn_WL S0 S (S0 1000 7) 2 p1 p1 (p2.tdiv 10) (p2.tmod 10) p3 0 0 0 1 0 r (S 1121 0)) ∧ (zz_Hc S)
theorem zc_pool_L {g : mm_G} {l : Launch} (p1 : Int) (p2 : Int) (p3 : Int) (S0 : zz_S) (n : Nat) (hn : zz_end ≤ n) (hfl : l.flags = flags0) (G_S0 : zz_G S0) (hp1 : (-2147483648) ≤ p1 ∧ p1 ≤ 2147483647) (hp2 : (-2147483648) ≤ p2 ∧ p2 ≤ 2147483647) (hp3 : (-2147483648) ≤ p3 ∧ p3 ≤ 2147483647) (H_S0 : zz_Hc S0) : mm_MetH g l zy_pool_L [(0, 12, 15, 19), (0, 12, 19, 13), (0, 12, 23, 29)] zr_pool_L [.ref 1000, zi p1, zi p2, zi p3, .ref 1121] (zz_M S0 n) n (zz_QW n (zp_pool_L p1 p2 p3 S0)) := by
  refine zz_enterH (by decide) (Nat.le_of_ble_eq_true rfl) (zz_less (ls1 := [some (.ref 1000), some (zi p1), some (zi p2), some (zi p3), some (.ref 1121)]) ⟨rfl, ⟨rfl, ⟨rfl, ⟨rfl, ⟨rfl, trivial⟩⟩⟩⟩⟩ ?_)
  have F_S0 : zz_fr [] [1001, 1003, 1004, 1005, 1006, 1007, 1008, 1009, 1010, 1011, 1012, 1013, 1014, 1015, 1017, 1018, 1019, 1020, 1021, 1022, 1023, 1024, 1025, 1026, 1027, 1028, 1121] (fun _ _ => False) S0 S0 := zz_fr.refl
  refine zz_aload (x := 1121) rfl zd_L_pool_0 ?_
  refine zz_iconst zd_L_pool_2 ?_
  refine zz_aload_n (x := 1000) rfl zd_L_pool_3 ?_
  refine zz_iload_n (x := p1) rfl zd_L_pool_4 ?_
  refine zz_iload_n (x := p2) rfl zd_L_pool_5 ?_
  refine zz_iload_n (x := p3) rfl zd_L_pool_6 ?_
  have g1 := zz_G.r G_S0 1000 7 0 1 rfl rfl
  refine zz_callVCI [zi p1, zi p2, zi p3] zd_L_pool_7 zk_TFLaw_68 zT_1000 (zz_ltn hn rfl) rfl rfl ⟨Nat.le_of_ble_eq_true rfl, Nat.le_of_ble_eq_true rfl⟩ (Nat.le_of_ble_eq_true rfl) (Nat.le_of_ble_eq_true rfl) (zc_pool_1_20 p1 p2 p3 S0 n hn hfl G_S0 (by omega) (by omega) (by omega) H_S0) (fun i SX hX => ?_) (fun v5 S4 hP => ?_)
  · obtain ⟨GX, fX, x0, x1, x2, x3⟩ := hX
    have FX := zz_fr.trans F_S0 fX rfl zz_nv
    rcases (by omega : i = 0 ∨ i = 1 ∨ i = 2) with rfl | rfl | rfl
    · refine zz_catchW zxL_pool_L zxY_pool_L zxC_pool_L (by decide) rfl zd_L_pool_19 (by decide) ?_
      refine zz_iconst zd_L_pool_21 ?_
      exact zz_iret zd_L_pool_22 rfl (Nat.le_of_ble_eq_true rfl) (Nat.le_of_ble_eq_true rfl) ⟨_, _, 1, rfl, Nat.le_refl _, GX, FX, by omega, (fun v hC hV => ⟨(x2 v hC hV).1, fun h => absurd h (by decide), fun _ => (x2 v hC hV).2⟩), x3⟩
    · refine zz_catchW zxL_pool_L zxY_pool_L zxC_pool_L (by decide) rfl zd_L_pool_15 (by decide) ?_
      refine zz_iconst zd_L_pool_17 ?_
      exact zz_iret zd_L_pool_18 rfl (Nat.le_of_ble_eq_true rfl) (Nat.le_of_ble_eq_true rfl) ⟨_, _, 1, rfl, Nat.le_refl _, GX, FX, by omega, (fun v hC hV => ⟨(x2 v hC hV).1, fun h => absurd h (by decide), fun _ => (x2 v hC hV).2⟩), x3⟩
    · refine zz_catchW zxL_pool_L zxY_pool_L zxC_pool_L (by decide) rfl zd_L_pool_23 (by decide) ?_
      refine zz_iconst zd_L_pool_25 ?_
      exact zz_iret zd_L_pool_26 rfl (Nat.le_of_ble_eq_true rfl) (Nat.le_of_ble_eq_true rfl) ⟨_, _, 1, rfl, Nat.le_refl _, GX, FX, by omega, (fun v hC hV => ⟨(x2 v hC hV).1, fun h => absurd h (by decide), fun _ => (x2 v hC hV).2⟩), x3⟩
  obtain ⟨G_S4, fS4, o6, o7, o8⟩ := hP
  have F_S4 := zz_fr.trans F_S0 fS4 rfl zz_nv
  refine zz_i2l (by omega) zd_L_pool_10 ?_
  refine zz_last zd_L_pool_11 zT_1121 rfl (zz_ltn hn rfl) (by decide) (by decide) (fun S9 qS9 => ?_)
  have G_S9 := zz_G.put G_S4 qS9 (-9223372036854775808) 9223372036854775807 rfl (by omega)
  have F_S9 := zz_fr.putc F_S4 qS9 rfl
  have H_S9 := zz_Hc.fr (q := 0) (zz_fr.put1 qS9) rfl rfl G_S4 (by decide) rfl (fun b j h => by omega) o8
  refine zz_goto zd_L_pool_12 ?_
  refine zz_iconst zd_L_pool_27 ?_
  have e10 : S9 1121 0 = v5 := (zz_rs qS9)
  exact zz_iret zd_L_pool_28 rfl (Nat.le_of_ble_eq_true rfl) (Nat.le_of_ble_eq_true rfl) ⟨_, _, 0, rfl, Nat.zero_le _, G_S9, F_S9, by omega, (fun v hC hV => by have q9 := o7 v hC hV; exact ⟨q9.1, fun _ => ⟨by omega, fun nm => zn_C.put (q9.2.2 nm) (zn_Vnw hV (by decide) q9.1) (by have g7_ := zz_G.r G_S0 1000 7 0 1 rfl rfl; omega) qS9 (by decide)⟩, fun h => absurd rfl h⟩), H_S9⟩
abbrev zy_addition_L : mm_Y := (⟨"TensorForgeLaw", "addition", "(LTensorForge;III[J)I"⟩, method_18_code, 6, (some .int))
abbrev zxL_addition_L : List ((Nat × Nat × Nat × Nat) × Nat) := [((0, 12, 15, 19), 1), ((0, 12, 19, 13), 0), ((0, 12, 23, 29), 2)]
theorem zxY_addition_L : Cond.codeWith zy_addition_L.1 zy_addition_L.2.1 zy_addition_L.2.2.1 zy_addition_L.2.2.2 (zxL_addition_L.map Prod.fst) ∈ mm_tb := mm_tb_1 1384 (by decide +kernel) rfl
theorem zxC_addition_L : ∀ z ∈ zxL_addition_L, Cond.classLink zy_addition_L.1.cls z.1.2.2.2 (mm_xn z.2) ∈ mm_tb ∧ z.1.2.2.2 ≠ 0 ∧ z.2 < 4 := by
  intro z hz
  simp only [List.mem_cons, List.not_mem_nil, or_false] at hz
  rcases hz with rfl | rfl | rfl
  · exact ⟨mm_tb_1 1128 (by decide +kernel) rfl, by decide, by decide⟩ 
  · exact ⟨mm_tb_1 1043 (by decide +kernel) rfl, by decide, by decide⟩ 
  · exact ⟨mm_tb_1 1170 (by decide +kernel) rfl, by decide, by decide⟩
theorem zk_TFLaw_72 : mm_Vl "TensorForgeLaw" 72 0 3 zy_addition_1_21 := ⟨zyw_addition_1_21, (R_TF, F_TF, 12), rfl, mm_tb_1 1385 (by decide +kernel) rfl, mm_tb_1 1386 (by decide +kernel) rfl, mm_tb_1 1387 (by decide +kernel) rfl⟩
theorem zd_L_addition_0 : zz_D zy_addition_L 0 (.aload 4) 2 2 := ⟨by decide +kernel, rfl⟩
theorem zd_L_addition_2 : zz_D zy_addition_L 2 (.iconst 0) 1 3 := ⟨by decide +kernel, rfl⟩
theorem zd_L_addition_3 : zz_D zy_addition_L 3 (.aload_n 0) 1 4 := ⟨by decide +kernel, rfl⟩
theorem zd_L_addition_4 : zz_D zy_addition_L 4 (.iload_n 1) 1 5 := ⟨by decide +kernel, rfl⟩
theorem zd_L_addition_5 : zz_D zy_addition_L 5 (.iload_n 2) 1 6 := ⟨by decide +kernel, rfl⟩
theorem zd_L_addition_6 : zz_D zy_addition_L 6 (.iload_n 3) 1 7 := ⟨by decide +kernel, rfl⟩
theorem zd_L_addition_7 : zz_D zy_addition_L 7 (.invokevirtual 72) 3 10 := ⟨by decide +kernel, rfl⟩
theorem zd_L_addition_19 : zz_D zy_addition_L 19 (.astore 5) 2 21 := ⟨by decide +kernel, rfl⟩
theorem zd_L_addition_21 : zz_D zy_addition_L 21 (.iconst 2) 1 22 := ⟨by decide +kernel, rfl⟩
theorem zd_L_addition_22 : zz_D zy_addition_L 22 (.ireturn) 1 23 := ⟨by decide +kernel, rfl⟩
theorem zd_L_addition_15 : zz_D zy_addition_L 15 (.astore 5) 2 17 := ⟨by decide +kernel, rfl⟩
theorem zd_L_addition_17 : zz_D zy_addition_L 17 (.iconst 1) 1 18 := ⟨by decide +kernel, rfl⟩
theorem zd_L_addition_18 : zz_D zy_addition_L 18 (.ireturn) 1 19 := ⟨by decide +kernel, rfl⟩
theorem zd_L_addition_23 : zz_D zy_addition_L 23 (.astore 5) 2 25 := ⟨by decide +kernel, rfl⟩
theorem zd_L_addition_25 : zz_D zy_addition_L 25 (.iconst 3) 1 26 := ⟨by decide +kernel, rfl⟩
theorem zd_L_addition_26 : zz_D zy_addition_L 26 (.ireturn) 1 27 := ⟨by decide +kernel, rfl⟩
theorem zd_L_addition_10 : zz_D zy_addition_L 10 (.i2l) 1 11 := ⟨by decide +kernel, rfl⟩
theorem zd_L_addition_11 : zz_D zy_addition_L 11 (.lastore) 1 12 := ⟨by decide +kernel, rfl⟩
theorem zd_L_addition_12 : zz_B zy_addition_L 12 Instr.goto 27 15 := ⟨15, by decide +kernel, rfl, rfl⟩
theorem zd_L_addition_27 : zz_D zy_addition_L 27 (.iconst 0) 1 28 := ⟨by decide +kernel, rfl⟩
theorem zd_L_addition_28 : zz_D zy_addition_L 28 (.ireturn) 1 29 := ⟨by decide +kernel, rfl⟩
-- TensorForgeLaw addition (LTensorForge;III[J)I
abbrev zr_addition_L : Room := { frames := 8, cells := 1, slots := 6, locals := 113 }
def zp_addition_L (p1 : Int) (p2 : Int) (p3 : Int) (S0 : zz_S) : Int → zz_S → Prop := fun r S => zz_G S ∧ zz_fr [] [1001, 1003, 1004, 1005, 1006, 1007, 1008, 1009, 1010, 1011, 1012, 1013, 1014, 1015, 1017, 1018, 1019, 1020, 1021, 1022, 1023, 1024, 1025, 1026, 1027, 1028, 1121] (fun _ _ => False) S0 S ∧ ((-2147483648) ≤ r ∧ r ≤ 2147483647) ∧ (zn_WL S0 S (S0 1000 7) 3 p1 p2 1 1 1 0 (zn_sh p3) (zn_rl p3) 1 0 r (S 1121 0)) ∧ (zz_Hc S)
theorem zc_addition_L {g : mm_G} {l : Launch} (p1 : Int) (p2 : Int) (p3 : Int) (S0 : zz_S) (n : Nat) (hn : zz_end ≤ n) (hfl : l.flags = flags0) (G_S0 : zz_G S0) (hp1 : (-2147483648) ≤ p1 ∧ p1 ≤ 2147483647) (hp2 : (-2147483648) ≤ p2 ∧ p2 ≤ 2147483647) (hp3 : (-2147483648) ≤ p3 ∧ p3 ≤ 2147483647) (H_S0 : zz_Hc S0) : mm_MetH g l zy_addition_L [(0, 12, 15, 19), (0, 12, 19, 13), (0, 12, 23, 29)] zr_addition_L [.ref 1000, zi p1, zi p2, zi p3, .ref 1121] (zz_M S0 n) n (zz_QW n (zp_addition_L p1 p2 p3 S0)) := by
  refine zz_enterH (by decide) (Nat.le_of_ble_eq_true rfl) (zz_less (ls1 := [some (.ref 1000), some (zi p1), some (zi p2), some (zi p3), some (.ref 1121)]) ⟨rfl, ⟨rfl, ⟨rfl, ⟨rfl, ⟨rfl, trivial⟩⟩⟩⟩⟩ ?_)
  have F_S0 : zz_fr [] [1001, 1003, 1004, 1005, 1006, 1007, 1008, 1009, 1010, 1011, 1012, 1013, 1014, 1015, 1017, 1018, 1019, 1020, 1021, 1022, 1023, 1024, 1025, 1026, 1027, 1028, 1121] (fun _ _ => False) S0 S0 := zz_fr.refl
  refine zz_aload (x := 1121) rfl zd_L_addition_0 ?_
  refine zz_iconst zd_L_addition_2 ?_
  refine zz_aload_n (x := 1000) rfl zd_L_addition_3 ?_
  refine zz_iload_n (x := p1) rfl zd_L_addition_4 ?_
  refine zz_iload_n (x := p2) rfl zd_L_addition_5 ?_
  refine zz_iload_n (x := p3) rfl zd_L_addition_6 ?_
  have g1 := zz_G.r G_S0 1000 7 0 1 rfl rfl
  refine zz_callVCI [zi p1, zi p2, zi p3] zd_L_addition_7 zk_TFLaw_72 zT_1000 (zz_ltn hn rfl) rfl rfl ⟨Nat.le_of_ble_eq_true rfl, Nat.le_of_ble_eq_true rfl⟩ (Nat.le_of_ble_eq_true rfl) (Nat.le_of_ble_eq_true rfl) (zc_addition_1_21 p1 p2 p3 S0 n hn hfl G_S0 (by omega) (by omega) (by omega) H_S0) (fun i SX hX => ?_) (fun v5 S4 hP => ?_)
  · obtain ⟨GX, fX, x0, x1, x2, x3⟩ := hX
    have FX := zz_fr.trans F_S0 fX rfl zz_nv
    rcases (by omega : i = 0 ∨ i = 1 ∨ i = 2) with rfl | rfl | rfl
    · refine zz_catchW zxL_addition_L zxY_addition_L zxC_addition_L (by decide) rfl zd_L_addition_19 (by decide) ?_
      refine zz_iconst zd_L_addition_21 ?_
      exact zz_iret zd_L_addition_22 rfl (Nat.le_of_ble_eq_true rfl) (Nat.le_of_ble_eq_true rfl) ⟨_, _, 1, rfl, Nat.le_refl _, GX, FX, by omega, (fun v hC hV => ⟨(x2 v hC hV).1, fun h => absurd h (by decide), fun _ => (x2 v hC hV).2⟩), x3⟩
    · refine zz_catchW zxL_addition_L zxY_addition_L zxC_addition_L (by decide) rfl zd_L_addition_15 (by decide) ?_
      refine zz_iconst zd_L_addition_17 ?_
      exact zz_iret zd_L_addition_18 rfl (Nat.le_of_ble_eq_true rfl) (Nat.le_of_ble_eq_true rfl) ⟨_, _, 1, rfl, Nat.le_refl _, GX, FX, by omega, (fun v hC hV => ⟨(x2 v hC hV).1, fun h => absurd h (by decide), fun _ => (x2 v hC hV).2⟩), x3⟩
    · refine zz_catchW zxL_addition_L zxY_addition_L zxC_addition_L (by decide) rfl zd_L_addition_23 (by decide) ?_
      refine zz_iconst zd_L_addition_25 ?_
      exact zz_iret zd_L_addition_26 rfl (Nat.le_of_ble_eq_true rfl) (Nat.le_of_ble_eq_true rfl) ⟨_, _, 1, rfl, Nat.le_refl _, GX, FX, by omega, (fun v hC hV => ⟨(x2 v hC hV).1, fun h => absurd h (by decide), fun _ => (x2 v hC hV).2⟩), x3⟩
  obtain ⟨G_S4, fS4, o6, o7, o8⟩ := hP
  have F_S4 := zz_fr.trans F_S0 fS4 rfl zz_nv
  refine zz_i2l (by omega) zd_L_addition_10 ?_
  refine zz_last zd_L_addition_11 zT_1121 rfl (zz_ltn hn rfl) (by decide) (by decide) (fun S9 qS9 => ?_)
  have G_S9 := zz_G.put G_S4 qS9 (-9223372036854775808) 9223372036854775807 rfl (by omega)
  have F_S9 := zz_fr.putc F_S4 qS9 rfl
  have H_S9 := zz_Hc.fr (q := 0) (zz_fr.put1 qS9) rfl rfl G_S4 (by decide) rfl (fun b j h => by omega) o8
  refine zz_goto zd_L_addition_12 ?_
  refine zz_iconst zd_L_addition_27 ?_
  have e10 : S9 1121 0 = v5 := (zz_rs qS9)
  exact zz_iret zd_L_addition_28 rfl (Nat.le_of_ble_eq_true rfl) (Nat.le_of_ble_eq_true rfl) ⟨_, _, 0, rfl, Nat.zero_le _, G_S9, F_S9, by omega, (fun v hC hV => by have q9 := o7 v hC hV; exact ⟨q9.1, fun _ => ⟨by omega, fun nm => zn_C.put (q9.2.2 nm) (zn_Vnw hV (by decide) q9.1) (by have g7_ := zz_G.r G_S0 1000 7 0 1 rfl rfl; omega) qS9 (by decide)⟩, fun h => absurd rfl h⟩), H_S9⟩
abbrev zy_form_L : mm_Y := (⟨"TensorForgeLaw", "form", "(LTensorForge;II[J)I"⟩, method_19_code, 5, (some .int))
abbrev zxL_form_L : List ((Nat × Nat × Nat × Nat) × Nat) := [((0, 10, 13, 19), 1), ((0, 10, 17, 13), 0)]
theorem zxY_form_L : Cond.codeWith zy_form_L.1 zy_form_L.2.1 zy_form_L.2.2.1 zy_form_L.2.2.2 (zxL_form_L.map Prod.fst) ∈ mm_tb := mm_tb_1 1391 (by decide +kernel) rfl
theorem zxC_form_L : ∀ z ∈ zxL_form_L, Cond.classLink zy_form_L.1.cls z.1.2.2.2 (mm_xn z.2) ∈ mm_tb ∧ z.1.2.2.2 ≠ 0 ∧ z.2 < 4 := by
  intro z hz
  simp only [List.mem_cons, List.not_mem_nil, or_false] at hz
  rcases hz with rfl | rfl
  · exact ⟨mm_tb_1 1128 (by decide +kernel) rfl, by decide, by decide⟩ 
  · exact ⟨mm_tb_1 1043 (by decide +kernel) rfl, by decide, by decide⟩
theorem zk_TFLaw_75 : mm_Vl "TensorForgeLaw" 75 0 2 zy_form_1_22 := ⟨zyw_form_1_22, (R_TF, F_TF, 12), rfl, mm_tb_1 1392 (by decide +kernel) rfl, mm_tb_1 1393 (by decide +kernel) rfl, mm_tb_1 1394 (by decide +kernel) rfl⟩
theorem zd_L_form_0 : zz_D zy_form_L 0 (.aload_n 3) 1 1 := ⟨by decide +kernel, rfl⟩
theorem zd_L_form_1 : zz_D zy_form_L 1 (.iconst 0) 1 2 := ⟨by decide +kernel, rfl⟩
theorem zd_L_form_2 : zz_D zy_form_L 2 (.aload_n 0) 1 3 := ⟨by decide +kernel, rfl⟩
theorem zd_L_form_3 : zz_D zy_form_L 3 (.iload_n 1) 1 4 := ⟨by decide +kernel, rfl⟩
theorem zd_L_form_4 : zz_D zy_form_L 4 (.iload_n 2) 1 5 := ⟨by decide +kernel, rfl⟩
theorem zd_L_form_5 : zz_D zy_form_L 5 (.invokevirtual 75) 3 8 := ⟨by decide +kernel, rfl⟩
theorem zd_L_form_17 : zz_D zy_form_L 17 (.astore 4) 2 19 := ⟨by decide +kernel, rfl⟩
theorem zd_L_form_19 : zz_D zy_form_L 19 (.iconst 2) 1 20 := ⟨by decide +kernel, rfl⟩
theorem zd_L_form_20 : zz_D zy_form_L 20 (.ireturn) 1 21 := ⟨by decide +kernel, rfl⟩
theorem zd_L_form_13 : zz_D zy_form_L 13 (.astore 4) 2 15 := ⟨by decide +kernel, rfl⟩
theorem zd_L_form_15 : zz_D zy_form_L 15 (.iconst 1) 1 16 := ⟨by decide +kernel, rfl⟩
theorem zd_L_form_16 : zz_D zy_form_L 16 (.ireturn) 1 17 := ⟨by decide +kernel, rfl⟩
theorem zd_L_form_8 : zz_D zy_form_L 8 (.i2l) 1 9 := ⟨by decide +kernel, rfl⟩
theorem zd_L_form_9 : zz_D zy_form_L 9 (.lastore) 1 10 := ⟨by decide +kernel, rfl⟩
theorem zd_L_form_10 : zz_B zy_form_L 10 Instr.goto 21 13 := ⟨11, by decide +kernel, rfl, rfl⟩
theorem zd_L_form_21 : zz_D zy_form_L 21 (.iconst 0) 1 22 := ⟨by decide +kernel, rfl⟩
theorem zd_L_form_22 : zz_D zy_form_L 22 (.ireturn) 1 23 := ⟨by decide +kernel, rfl⟩
-- TensorForgeLaw form (LTensorForge;II[J)I
abbrev zr_form_L : Room := { frames := 7, cells := 1, slots := 6, locals := 99 }
def zp_form_L (p1 : Int) (p2 : Int) (S0 : zz_S) : Int → zz_S → Prop := fun r S => zz_G S ∧ zz_fr [] [1121] (fun _ _ => False) S0 S ∧ ((-2147483648) ≤ r ∧ r ≤ 2147483647) ∧ (zn_WF S0 (S0 1000 7) p1 p2 r (S 1121 0))
theorem zc_form_L {g : mm_G} {l : Launch} (p1 : Int) (p2 : Int) (S0 : zz_S) (n : Nat) (hn : zz_end ≤ n) (hfl : l.flags = flags0) (G_S0 : zz_G S0) (hp1 : (-2147483648) ≤ p1 ∧ p1 ≤ 2147483647) (hp2 : (-2147483648) ≤ p2 ∧ p2 ≤ 2147483647) : mm_MetH g l zy_form_L [(0, 10, 13, 19), (0, 10, 17, 13)] zr_form_L [.ref 1000, zi p1, zi p2, .ref 1121] (zz_M S0 n) n (zz_QW n (zp_form_L p1 p2 S0)) := by
  refine zz_enterH (by decide) (Nat.le_of_ble_eq_true rfl) (zz_less (ls1 := [some (.ref 1000), some (zi p1), some (zi p2), some (.ref 1121)]) ⟨rfl, ⟨rfl, ⟨rfl, ⟨rfl, trivial⟩⟩⟩⟩ ?_)
  have F_S0 : zz_fr [] [1121] (fun _ _ => False) S0 S0 := zz_fr.refl
  refine zz_aload_n (x := 1121) rfl zd_L_form_0 ?_
  refine zz_iconst zd_L_form_1 ?_
  refine zz_aload_n (x := 1000) rfl zd_L_form_2 ?_
  refine zz_iload_n (x := p1) rfl zd_L_form_3 ?_
  refine zz_iload_n (x := p2) rfl zd_L_form_4 ?_
  have g1 := zz_G.r G_S0 1000 7 0 1 rfl rfl
  refine zz_callVCI [zi p1, zi p2] zd_L_form_5 zk_TFLaw_75 zT_1000 (zz_ltn hn rfl) rfl rfl ⟨Nat.le_of_ble_eq_true rfl, Nat.le_of_ble_eq_true rfl⟩ (Nat.le_of_ble_eq_true rfl) (Nat.le_of_ble_eq_true rfl) (zc_form_1_22 p1 p2 S0 n hn hfl G_S0 (by omega) (by omega)) (fun i SX hX => ?_) (fun v5 S4 hP => ?_)
  · obtain ⟨rfl, x0, x1, x2⟩ := hX
    rcases (by omega : i = 0 ∨ i = 1) with rfl | rfl
    · refine zz_catchW zxL_form_L zxY_form_L zxC_form_L (by decide) rfl zd_L_form_17 (by decide) ?_
      refine zz_iconst zd_L_form_19 ?_
      exact zz_iret zd_L_form_20 rfl (Nat.le_of_ble_eq_true rfl) (Nat.le_of_ble_eq_true rfl) ⟨_, _, 1, rfl, Nat.le_refl _, G_S0, F_S0, by omega, (fun v hC hV => Or.inr (Or.inl ⟨rfl, ((x2 v hC).resolve_left (fun h => absurd h.1 (by decide))).2⟩))⟩
    · refine zz_catchW zxL_form_L zxY_form_L zxC_form_L (by decide) rfl zd_L_form_13 (by decide) ?_
      refine zz_iconst zd_L_form_15 ?_
      exact zz_iret zd_L_form_16 rfl (Nat.le_of_ble_eq_true rfl) (Nat.le_of_ble_eq_true rfl) ⟨_, _, 1, rfl, Nat.le_refl _, G_S0, F_S0, by omega, (fun v hC hV => Or.inl ⟨rfl, ((x2 v hC).resolve_right (fun h => absurd h.1 (by decide))).2⟩)⟩
  obtain ⟨rfl, o6, o7⟩ := hP
  refine zz_i2l (by omega) zd_L_form_8 ?_
  refine zz_last zd_L_form_9 zT_1121 rfl (zz_ltn hn rfl) (by decide) (by decide) (fun S8 qS8 => ?_)
  have G_S8 := zz_G.put G_S0 qS8 (-9223372036854775808) 9223372036854775807 rfl (by omega)
  have F_S8 := zz_fr.putc F_S0 qS8 rfl
  refine zz_goto zd_L_form_10 ?_
  refine zz_iconst zd_L_form_21 ?_
  have e9 : S8 1121 0 = v5 := (zz_rs qS8)
  exact zz_iret zd_L_form_22 rfl (Nat.le_of_ble_eq_true rfl) (Nat.le_of_ble_eq_true rfl) ⟨_, _, 0, rfl, Nat.zero_le _, G_S8, F_S8, by omega, (fun v hC hV => by have q9 := o7 v hC hV; exact Or.inr (Or.inr ⟨rfl, q9.1, q9.2.1, by omega⟩))⟩
abbrev zy_compile_L : mm_Y := (⟨"TensorForgeLaw", "compile", "(LTensorForge;[J)I"⟩, method_20_code, 3, (some .int))
abbrev zxL_compile_L : List ((Nat × Nat × Nat × Nat) × Nat) := [((0, 8, 11, 29), 2)]
theorem zxY_compile_L : Cond.codeWith zy_compile_L.1 zy_compile_L.2.1 zy_compile_L.2.2.1 zy_compile_L.2.2.2 (zxL_compile_L.map Prod.fst) ∈ mm_tb := mm_tb_1 1400 (by decide +kernel) rfl
theorem zxC_compile_L : ∀ z ∈ zxL_compile_L, Cond.classLink zy_compile_L.1.cls z.1.2.2.2 (mm_xn z.2) ∈ mm_tb ∧ z.1.2.2.2 ≠ 0 ∧ z.2 < 4 := by
  intro z hz
  simp only [List.mem_cons, List.not_mem_nil, or_false] at hz
  rcases hz with rfl
  · exact ⟨mm_tb_1 1170 (by decide +kernel) rfl, by decide, by decide⟩
theorem zk_TFLaw_78 : mm_Vl "TensorForgeLaw" 78 0 0 zy_compile_1_23 := ⟨zyw_compile_1_23, (R_TF, F_TF, 12), rfl, mm_tb_1 1401 (by decide +kernel) rfl, mm_tb_1 1402 (by decide +kernel) rfl, mm_tb_1 1403 (by decide +kernel) rfl⟩
theorem zd_L_compile_0 : zz_D zy_compile_L 0 (.aload_n 1) 1 1 := ⟨by decide +kernel, rfl⟩
theorem zd_L_compile_1 : zz_D zy_compile_L 1 (.iconst 0) 1 2 := ⟨by decide +kernel, rfl⟩
theorem zd_L_compile_2 : zz_D zy_compile_L 2 (.aload_n 0) 1 3 := ⟨by decide +kernel, rfl⟩
theorem zd_L_compile_3 : zz_D zy_compile_L 3 (.invokevirtual 78) 3 6 := ⟨by decide +kernel, rfl⟩
theorem zd_L_compile_11 : zz_D zy_compile_L 11 (.astore_n 2) 1 12 := ⟨by decide +kernel, rfl⟩
theorem zd_L_compile_12 : zz_D zy_compile_L 12 (.iconst 1) 1 13 := ⟨by decide +kernel, rfl⟩
theorem zd_L_compile_13 : zz_D zy_compile_L 13 (.ireturn) 1 14 := ⟨by decide +kernel, rfl⟩
theorem zd_L_compile_6 : zz_D zy_compile_L 6 (.i2l) 1 7 := ⟨by decide +kernel, rfl⟩
theorem zd_L_compile_7 : zz_D zy_compile_L 7 (.lastore) 1 8 := ⟨by decide +kernel, rfl⟩
theorem zd_L_compile_8 : zz_B zy_compile_L 8 Instr.goto 14 11 := ⟨6, by decide +kernel, rfl, rfl⟩
theorem zd_L_compile_14 : zz_D zy_compile_L 14 (.iconst 0) 1 15 := ⟨by decide +kernel, rfl⟩
theorem zd_L_compile_15 : zz_D zy_compile_L 15 (.ireturn) 1 16 := ⟨by decide +kernel, rfl⟩
-- TensorForgeLaw compile (LTensorForge;[J)I
abbrev zr_compile_L : Room := { frames := 7, cells := 1, slots := 6, locals := 119 }
def zp_compile_L  (S0 : zz_S) : Int → zz_S → Prop := fun r S => zz_G S ∧ zz_fr [(1000, 9), (1000, 10), (1000, 11), (1076, 0), (1076, 1), (1076, 2), (1076, 3), (1076, 4), (1076, 5), (1076, 6), (1076, 7), (1076, 8), (1076, 9), (1076, 10), (1076, 11), (1076, 12), (1076, 13), (1076, 14), (1076, 15), (1076, 16)] [1029, 1030, 1121] (fun _ _ => False) S0 S ∧ ((-2147483648) ≤ r ∧ r ≤ 2147483647) ∧ (zz_Hc S)
theorem zc_compile_L {g : mm_G} {l : Launch}  (S0 : zz_S) (n : Nat) (hn : zz_end ≤ n) (hfl : l.flags = flags0) (G_S0 : zz_G S0) (H_S0 : zz_Hc S0) : mm_MetH g l zy_compile_L [(0, 8, 11, 29)] zr_compile_L [.ref 1000, .ref 1121] (zz_M S0 n) n (zz_QW n (zp_compile_L  S0)) := by
  refine zz_enterH (by decide) (Nat.le_of_ble_eq_true rfl) (zz_less (ls1 := [some (.ref 1000), some (.ref 1121)]) ⟨rfl, ⟨rfl, trivial⟩⟩ ?_)
  have F_S0 : zz_fr [(1000, 9), (1000, 10), (1000, 11), (1076, 0), (1076, 1), (1076, 2), (1076, 3), (1076, 4), (1076, 5), (1076, 6), (1076, 7), (1076, 8), (1076, 9), (1076, 10), (1076, 11), (1076, 12), (1076, 13), (1076, 14), (1076, 15), (1076, 16)] [1029, 1030, 1121] (fun _ _ => False) S0 S0 := zz_fr.refl
  refine zz_aload_n (x := 1121) rfl zd_L_compile_0 ?_
  refine zz_iconst zd_L_compile_1 ?_
  refine zz_aload_n (x := 1000) rfl zd_L_compile_2 ?_
  refine zz_callVCI [] zd_L_compile_3 zk_TFLaw_78 zT_1000 (zz_ltn hn rfl) rfl rfl ⟨Nat.le_of_ble_eq_true rfl, Nat.le_of_ble_eq_true rfl⟩ (Nat.le_of_ble_eq_true rfl) (Nat.le_of_ble_eq_true rfl) (zc_compile_1_23  S0 n hn hfl G_S0 H_S0) (fun i SX hX => ?_) (fun v4 S3 hP => ?_)
  · obtain ⟨GX, fX, x0, x1, x2⟩ := hX
    have FX := zz_fr.trans F_S0 fX rfl zz_nv
    rcases (by omega : i = 2) with rfl
    · refine zz_catch (q := 2) zxL_compile_L zxY_compile_L zxC_compile_L (by decide) rfl zd_L_compile_11 (by decide) ?_
      refine zz_iconst zd_L_compile_12 ?_
      exact zz_iret zd_L_compile_13 rfl (Nat.le_of_ble_eq_true rfl) (Nat.le_of_ble_eq_true rfl) ⟨_, _, 1, rfl, Nat.le_refl _, GX, FX, by omega, x2⟩
  obtain ⟨G_S3, fS3, o5, o6⟩ := hP
  have F_S3 := zz_fr.trans F_S0 fS3 rfl zz_nv
  refine zz_i2l (by omega) zd_L_compile_6 ?_
  refine zz_last zd_L_compile_7 zT_1121 rfl (zz_ltn hn rfl) (by decide) (by decide) (fun S7 qS7 => ?_)
  have G_S7 := zz_G.put G_S3 qS7 (-9223372036854775808) 9223372036854775807 rfl (by omega)
  have F_S7 := zz_fr.putc F_S3 qS7 rfl
  have H_S7 := zz_Hc.fr (q := 0) (zz_fr.put1 qS7) rfl rfl G_S3 (by decide) rfl (fun b j h => by omega) o6
  refine zz_goto zd_L_compile_8 ?_
  refine zz_iconst zd_L_compile_14 ?_
  exact zz_iret zd_L_compile_15 rfl (Nat.le_of_ble_eq_true rfl) (Nat.le_of_ble_eq_true rfl) ⟨_, _, 0, rfl, Nat.zero_le _, G_S7, F_S7, by omega, H_S7⟩
abbrev zy_networkSign_L : mm_Y := (⟨"TensorForgeLaw", "networkSign", "(LTensorForge;II[J)I"⟩, method_21_code, 5, (some .int))
abbrev zxL_networkSign_L : List ((Nat × Nat × Nat × Nat) × Nat) := [((0, 10, 13, 19), 1)]
theorem zxY_networkSign_L : Cond.codeWith zy_networkSign_L.1 zy_networkSign_L.2.1 zy_networkSign_L.2.2.1 zy_networkSign_L.2.2.2 (zxL_networkSign_L.map Prod.fst) ∈ mm_tb := mm_tb_1 1483 (by decide +kernel) rfl
theorem zxC_networkSign_L : ∀ z ∈ zxL_networkSign_L, Cond.classLink zy_networkSign_L.1.cls z.1.2.2.2 (mm_xn z.2) ∈ mm_tb ∧ z.1.2.2.2 ≠ 0 ∧ z.2 < 4 := by
  intro z hz
  simp only [List.mem_cons, List.not_mem_nil, or_false] at hz
  rcases hz with rfl
  · exact ⟨mm_tb_1 1128 (by decide +kernel) rfl, by decide, by decide⟩
theorem zk_TFLaw_82 : mm_Vl "TensorForgeLaw" 82 0 2 zy_networkSign_1_26 := ⟨zyw_networkSign_1_26, (R_TF, F_TF, 12), rfl, mm_tb_1 1484 (by decide +kernel) rfl, mm_tb_1 1485 (by decide +kernel) rfl, mm_tb_1 1486 (by decide +kernel) rfl⟩
theorem zd_L_networkSign_0 : zz_D zy_networkSign_L 0 (.aload_n 3) 1 1 := ⟨by decide +kernel, rfl⟩
theorem zd_L_networkSign_1 : zz_D zy_networkSign_L 1 (.iconst 0) 1 2 := ⟨by decide +kernel, rfl⟩
theorem zd_L_networkSign_2 : zz_D zy_networkSign_L 2 (.aload_n 0) 1 3 := ⟨by decide +kernel, rfl⟩
theorem zd_L_networkSign_3 : zz_D zy_networkSign_L 3 (.iload_n 1) 1 4 := ⟨by decide +kernel, rfl⟩
theorem zd_L_networkSign_4 : zz_D zy_networkSign_L 4 (.iload_n 2) 1 5 := ⟨by decide +kernel, rfl⟩
theorem zd_L_networkSign_5 : zz_D zy_networkSign_L 5 (.invokevirtual 82) 3 8 := ⟨by decide +kernel, rfl⟩
theorem zd_L_networkSign_13 : zz_D zy_networkSign_L 13 (.astore 4) 2 15 := ⟨by decide +kernel, rfl⟩
theorem zd_L_networkSign_15 : zz_D zy_networkSign_L 15 (.iconst 1) 1 16 := ⟨by decide +kernel, rfl⟩
theorem zd_L_networkSign_16 : zz_D zy_networkSign_L 16 (.ireturn) 1 17 := ⟨by decide +kernel, rfl⟩
theorem zd_L_networkSign_8 : zz_D zy_networkSign_L 8 (.i2l) 1 9 := ⟨by decide +kernel, rfl⟩
theorem zd_L_networkSign_9 : zz_D zy_networkSign_L 9 (.lastore) 1 10 := ⟨by decide +kernel, rfl⟩
theorem zd_L_networkSign_10 : zz_B zy_networkSign_L 10 Instr.goto 17 13 := ⟨7, by decide +kernel, rfl, rfl⟩
theorem zd_L_networkSign_17 : zz_D zy_networkSign_L 17 (.iconst 0) 1 18 := ⟨by decide +kernel, rfl⟩
theorem zd_L_networkSign_18 : zz_D zy_networkSign_L 18 (.ireturn) 1 19 := ⟨by decide +kernel, rfl⟩
-- TensorForgeLaw networkSign (LTensorForge;II[J)I
abbrev zr_networkSign_L : Room := { frames := 9, cells := 1, slots := 6, locals := 126 }
def zp_networkSign_L (p1 : Int) (p2 : Int) (S0 : zz_S) : Int → zz_S → Prop := fun r S => zz_G S ∧ zz_fr [(1077, 1)] [1078, 1121] (fun _ _ => False) S0 S ∧ ((-2147483648) ≤ r ∧ r ≤ 2147483647) ∧ (zs_WS S0 (S0 1000 7) p1 p2 r (S 1121 0))
theorem zc_networkSign_L {g : mm_G} {l : Launch} (p1 : Int) (p2 : Int) (S0 : zz_S) (n : Nat) (hn : zz_end ≤ n) (hfl : l.flags = flags0) (G_S0 : zz_G S0) (hp1 : (-2147483648) ≤ p1 ∧ p1 ≤ 2147483647) (hp2 : (-2147483648) ≤ p2 ∧ p2 ≤ 2147483647) : mm_MetH g l zy_networkSign_L [(0, 10, 13, 19)] zr_networkSign_L [.ref 1000, zi p1, zi p2, .ref 1121] (zz_M S0 n) n (zz_QW n (zp_networkSign_L p1 p2 S0)) := by
  refine zz_enterH (by decide) (Nat.le_of_ble_eq_true rfl) (zz_less (ls1 := [some (.ref 1000), some (zi p1), some (zi p2), some (.ref 1121)]) ⟨rfl, ⟨rfl, ⟨rfl, ⟨rfl, trivial⟩⟩⟩⟩ ?_)
  have F_S0 : zz_fr [(1077, 1)] [1078, 1121] (fun _ _ => False) S0 S0 := zz_fr.refl
  refine zz_aload_n (x := 1121) rfl zd_L_networkSign_0 ?_
  refine zz_iconst zd_L_networkSign_1 ?_
  refine zz_aload_n (x := 1000) rfl zd_L_networkSign_2 ?_
  refine zz_iload_n (x := p1) rfl zd_L_networkSign_3 ?_
  refine zz_iload_n (x := p2) rfl zd_L_networkSign_4 ?_
  have g1 := zz_G.r G_S0 1000 7 0 1 rfl rfl
  refine zz_callVCI [zi p1, zi p2] zd_L_networkSign_5 zk_TFLaw_82 zT_1000 (zz_ltn hn rfl) rfl rfl ⟨Nat.le_of_ble_eq_true rfl, Nat.le_of_ble_eq_true rfl⟩ (Nat.le_of_ble_eq_true rfl) (Nat.le_of_ble_eq_true rfl) (zc_networkSign_1_26 p1 p2 S0 n hn hfl G_S0 (by omega) (by omega)) (fun i SX hX => ?_) (fun v5 S4 hP => ?_)
  · obtain ⟨GX, fX, x0, x1, x2⟩ := hX
    have FX := zz_fr.trans F_S0 fX rfl zz_nv
    rcases (by omega : i = 1) with rfl
    · refine zz_catchW zxL_networkSign_L zxY_networkSign_L zxC_networkSign_L (by decide) rfl zd_L_networkSign_13 (by decide) ?_
      refine zz_iconst zd_L_networkSign_15 ?_
      exact zz_iret zd_L_networkSign_16 rfl (Nat.le_of_ble_eq_true rfl) (Nat.le_of_ble_eq_true rfl) ⟨_, _, 1, rfl, Nat.le_refl _, GX, FX, by omega, (fun v hC hV hW hQ => Or.inl ⟨rfl, (x2 v hC).2⟩)⟩
  obtain ⟨G_S4, fS4, o6, o7⟩ := hP
  have F_S4 := zz_fr.trans F_S0 fS4 rfl zz_nv
  refine zz_i2l (by omega) zd_L_networkSign_8 ?_
  refine zz_last zd_L_networkSign_9 zT_1121 rfl (zz_ltn hn rfl) (by decide) (by decide) (fun S8 qS8 => ?_)
  have G_S8 := zz_G.put G_S4 qS8 (-9223372036854775808) 9223372036854775807 rfl (by omega)
  have F_S8 := zz_fr.putc F_S4 qS8 rfl
  refine zz_goto zd_L_networkSign_10 ?_
  refine zz_iconst zd_L_networkSign_17 ?_
  have e9 : S8 1121 0 = v5 := (zz_rs qS8)
  exact zz_iret zd_L_networkSign_18 rfl (Nat.le_of_ble_eq_true rfl) (Nat.le_of_ble_eq_true rfl) ⟨_, _, 0, rfl, Nat.zero_le _, G_S8, F_S8, by omega, (fun v hC hV hW hQ => by have q9 := o7 v hC hV hW hQ; exact Or.inr ⟨rfl, q9.1, by omega⟩)⟩
abbrev zy_place_L : mm_Y := (⟨"TensorForgeLaw", "place", "(LTensorForge;[J)I"⟩, method_22_code, 3, (some .int))
abbrev zxL_place_L : List ((Nat × Nat × Nat × Nat) × Nat) := [((0, 8, 11, 29), 2)]
theorem zxY_place_L : Cond.codeWith zy_place_L.1 zy_place_L.2.1 zy_place_L.2.2.1 zy_place_L.2.2.2 (zxL_place_L.map Prod.fst) ∈ mm_tb := mm_tb_1 1507 (by decide +kernel) rfl
theorem zxC_place_L : ∀ z ∈ zxL_place_L, Cond.classLink zy_place_L.1.cls z.1.2.2.2 (mm_xn z.2) ∈ mm_tb ∧ z.1.2.2.2 ≠ 0 ∧ z.2 < 4 := by
  intro z hz
  simp only [List.mem_cons, List.not_mem_nil, or_false] at hz
  rcases hz with rfl
  · exact ⟨mm_tb_1 1170 (by decide +kernel) rfl, by decide, by decide⟩
theorem zk_TFLaw_85 : mm_Vl "TensorForgeLaw" 85 0 0 zy_place_1_27 := ⟨zyw_place_1_27, (R_TF, F_TF, 12), rfl, mm_tb_1 1508 (by decide +kernel) rfl, mm_tb_1 1509 (by decide +kernel) rfl, mm_tb_1 1510 (by decide +kernel) rfl⟩
theorem zd_L_place_0 : zz_D zy_place_L 0 (.aload_n 1) 1 1 := ⟨by decide +kernel, rfl⟩
theorem zd_L_place_1 : zz_D zy_place_L 1 (.iconst 0) 1 2 := ⟨by decide +kernel, rfl⟩
theorem zd_L_place_2 : zz_D zy_place_L 2 (.aload_n 0) 1 3 := ⟨by decide +kernel, rfl⟩
theorem zd_L_place_3 : zz_D zy_place_L 3 (.invokevirtual 85) 3 6 := ⟨by decide +kernel, rfl⟩
theorem zd_L_place_11 : zz_D zy_place_L 11 (.astore_n 2) 1 12 := ⟨by decide +kernel, rfl⟩
theorem zd_L_place_12 : zz_D zy_place_L 12 (.iconst 1) 1 13 := ⟨by decide +kernel, rfl⟩
theorem zd_L_place_13 : zz_D zy_place_L 13 (.ireturn) 1 14 := ⟨by decide +kernel, rfl⟩
theorem zd_L_place_6 : zz_D zy_place_L 6 (.i2l) 1 7 := ⟨by decide +kernel, rfl⟩
theorem zd_L_place_7 : zz_D zy_place_L 7 (.lastore) 1 8 := ⟨by decide +kernel, rfl⟩
theorem zd_L_place_8 : zz_B zy_place_L 8 Instr.goto 14 11 := ⟨6, by decide +kernel, rfl, rfl⟩
theorem zd_L_place_14 : zz_D zy_place_L 14 (.iconst 0) 1 15 := ⟨by decide +kernel, rfl⟩
theorem zd_L_place_15 : zz_D zy_place_L 15 (.ireturn) 1 16 := ⟨by decide +kernel, rfl⟩
-- TensorForgeLaw place (LTensorForge;[J)I
abbrev zr_place_L : Room := { frames := 7, cells := 1, slots := 6, locals := 96 }
def zp_place_L  (S0 : zz_S) : Int → zz_S → Prop := fun r S => zz_G S ∧ zz_fr [(1003, 13), (1003, 14), (1004, 13), (1004, 14), (1005, 13), (1005, 14), (1006, 13), (1006, 14), (1007, 13), (1007, 14), (1008, 13), (1008, 14), (1009, 13), (1009, 14), (1010, 13), (1010, 14), (1011, 13), (1011, 14), (1012, 13), (1012, 14), (1013, 13), (1013, 14), (1014, 13), (1014, 14), (1017, 13), (1017, 14), (1018, 13), (1018, 14), (1019, 13), (1019, 14), (1020, 13), (1020, 14), (1021, 13), (1021, 14), (1022, 13), (1022, 14), (1023, 13), (1023, 14), (1024, 13), (1024, 14), (1025, 13), (1025, 14), (1026, 13), (1026, 14), (1027, 13), (1027, 14), (1028, 13), (1028, 14)] [1121] (fun a i => (a = zz_rf 6 (12 * (S0 1000 7) + 0) ∧ i = 14)) S0 S ∧ ((-2147483648) ≤ r ∧ r ≤ 2147483647) ∧ ((r = 0 ∧ zn_PP S0 S (S0 1000 7) (S 1121 0)) ∨ (r = 1 ∧ zn_PX S0 S (S0 1000 7)))
theorem zc_place_L {g : mm_G} {l : Launch}  (S0 : zz_S) (n : Nat) (hn : zz_end ≤ n) (hfl : l.flags = flags0) (G_S0 : zz_G S0)  : mm_MetH g l zy_place_L [(0, 8, 11, 29)] zr_place_L [.ref 1000, .ref 1121] (zz_M S0 n) n (zz_QW n (zp_place_L  S0)) := by
  refine zz_enterH (by decide) (Nat.le_of_ble_eq_true rfl) (zz_less (ls1 := [some (.ref 1000), some (.ref 1121)]) ⟨rfl, ⟨rfl, trivial⟩⟩ ?_)
  have F_S0 : zz_fr [(1003, 13), (1003, 14), (1004, 13), (1004, 14), (1005, 13), (1005, 14), (1006, 13), (1006, 14), (1007, 13), (1007, 14), (1008, 13), (1008, 14), (1009, 13), (1009, 14), (1010, 13), (1010, 14), (1011, 13), (1011, 14), (1012, 13), (1012, 14), (1013, 13), (1013, 14), (1014, 13), (1014, 14), (1017, 13), (1017, 14), (1018, 13), (1018, 14), (1019, 13), (1019, 14), (1020, 13), (1020, 14), (1021, 13), (1021, 14), (1022, 13), (1022, 14), (1023, 13), (1023, 14), (1024, 13), (1024, 14), (1025, 13), (1025, 14), (1026, 13), (1026, 14), (1027, 13), (1027, 14), (1028, 13), (1028, 14)] [1121] (fun a i => (a = zz_rf 6 (12 * (S0 1000 7) + 0) ∧ i = 14)) S0 S0 := zz_fr.refl
  refine zz_aload_n (x := 1121) rfl zd_L_place_0 ?_
  refine zz_iconst zd_L_place_1 ?_
  refine zz_aload_n (x := 1000) rfl zd_L_place_2 ?_
  have g1 := zz_G.r G_S0 1000 7 0 1 rfl rfl
  refine zz_callVCI [] zd_L_place_3 zk_TFLaw_85 zT_1000 (zz_ltn hn rfl) rfl rfl ⟨Nat.le_of_ble_eq_true rfl, Nat.le_of_ble_eq_true rfl⟩ (Nat.le_of_ble_eq_true rfl) (Nat.le_of_ble_eq_true rfl) (zc_place_1_27  S0 n hn hfl G_S0 ) (fun i SX hX => ?_) (fun v5 S4 hP => ?_)
  · obtain ⟨GX, fX, x0, x1, x2⟩ := hX
    have g8 := zz_G.r G_S0 1000 7 0 1 rfl rfl
    have FX := zz_fr.trans F_S0 fX rfl (fun a i h => Or.inr (Or.inr (h)))
    rcases (by omega : i = 2) with rfl
    · refine zz_catch (q := 2) zxL_place_L zxY_place_L zxC_place_L (by decide) rfl zd_L_place_11 (by decide) ?_
      refine zz_iconst zd_L_place_12 ?_
      exact zz_iret zd_L_place_13 rfl (Nat.le_of_ble_eq_true rfl) (Nat.le_of_ble_eq_true rfl) ⟨_, _, 1, rfl, Nat.le_refl _, GX, FX, by omega, (Or.inr ⟨rfl, x2⟩)⟩
  obtain ⟨G_S4, fS4, o6, o7⟩ := hP
  have F_S4 := zz_fr.trans F_S0 fS4 rfl (fun a i h => Or.inr (Or.inr (h)))
  refine zz_i2l (by omega) zd_L_place_6 ?_
  refine zz_last zd_L_place_7 zT_1121 rfl (zz_ltn hn rfl) (by decide) (by decide) (fun S9 qS9 => ?_)
  have G_S9 := zz_G.put G_S4 qS9 (-9223372036854775808) 9223372036854775807 rfl (by omega)
  have F_S9 := zz_fr.putc F_S4 qS9 rfl
  refine zz_goto zd_L_place_8 ?_
  refine zz_iconst zd_L_place_14 ?_
  have e10 : S9 1121 0 = v5 := (zz_rs qS9)
  exact zz_iret zd_L_place_15 rfl (Nat.le_of_ble_eq_true rfl) (Nat.le_of_ble_eq_true rfl) ⟨_, _, 0, rfl, Nat.zero_le _, G_S9, F_S9, by omega, (Or.inl ⟨rfl, by rw [show S9 1121 0 = v5 by omega]; exact zn_PP.put o7 (by have g7_ := zz_G.r G_S0 1000 7 0 1 rfl rfl; omega) qS9 (by decide)⟩)⟩
abbrev zy_under_L : mm_Y := (⟨"TensorForgeLaw", "under", "(LTensorForge;II[J)I"⟩, method_23_code, 5, (some .int))
abbrev zxL_under_L : List ((Nat × Nat × Nat × Nat) × Nat) := [((0, 10, 13, 58), 3), ((0, 10, 17, 13), 0)]
theorem zxY_under_L : Cond.codeWith zy_under_L.1 zy_under_L.2.1 zy_under_L.2.2.1 zy_under_L.2.2.2 (zxL_under_L.map Prod.fst) ∈ mm_tb := mm_tb_1 1536 (by decide +kernel) rfl
theorem zxC_under_L : ∀ z ∈ zxL_under_L, Cond.classLink zy_under_L.1.cls z.1.2.2.2 (mm_xn z.2) ∈ mm_tb ∧ z.1.2.2.2 ≠ 0 ∧ z.2 < 4 := by
  intro z hz
  simp only [List.mem_cons, List.not_mem_nil, or_false] at hz
  rcases hz with rfl | rfl
  · exact ⟨mm_tb_1 1315 (by decide +kernel) rfl, by decide, by decide⟩ 
  · exact ⟨mm_tb_1 1043 (by decide +kernel) rfl, by decide, by decide⟩
theorem zk_TFLaw_88 : mm_Vl "TensorForgeLaw" 88 0 2 zy_under_1_28 := ⟨zyw_under_1_28, (R_TF, F_TF, 12), rfl, mm_tb_1 1537 (by decide +kernel) rfl, mm_tb_1 1538 (by decide +kernel) rfl, mm_tb_1 1539 (by decide +kernel) rfl⟩
theorem zd_L_under_0 : zz_D zy_under_L 0 (.aload_n 3) 1 1 := ⟨by decide +kernel, rfl⟩
theorem zd_L_under_1 : zz_D zy_under_L 1 (.iconst 0) 1 2 := ⟨by decide +kernel, rfl⟩
theorem zd_L_under_2 : zz_D zy_under_L 2 (.aload_n 0) 1 3 := ⟨by decide +kernel, rfl⟩
theorem zd_L_under_3 : zz_D zy_under_L 3 (.iload_n 1) 1 4 := ⟨by decide +kernel, rfl⟩
theorem zd_L_under_4 : zz_D zy_under_L 4 (.iload_n 2) 1 5 := ⟨by decide +kernel, rfl⟩
theorem zd_L_under_5 : zz_D zy_under_L 5 (.invokevirtual 88) 3 8 := ⟨by decide +kernel, rfl⟩
theorem zd_L_under_17 : zz_D zy_under_L 17 (.astore 4) 2 19 := ⟨by decide +kernel, rfl⟩
theorem zd_L_under_19 : zz_D zy_under_L 19 (.iconst 2) 1 20 := ⟨by decide +kernel, rfl⟩
theorem zd_L_under_20 : zz_D zy_under_L 20 (.ireturn) 1 21 := ⟨by decide +kernel, rfl⟩
theorem zd_L_under_13 : zz_D zy_under_L 13 (.astore 4) 2 15 := ⟨by decide +kernel, rfl⟩
theorem zd_L_under_15 : zz_D zy_under_L 15 (.iconst 1) 1 16 := ⟨by decide +kernel, rfl⟩
theorem zd_L_under_16 : zz_D zy_under_L 16 (.ireturn) 1 17 := ⟨by decide +kernel, rfl⟩
theorem zd_L_under_8 : zz_D zy_under_L 8 (.i2l) 1 9 := ⟨by decide +kernel, rfl⟩
theorem zd_L_under_9 : zz_D zy_under_L 9 (.lastore) 1 10 := ⟨by decide +kernel, rfl⟩
theorem zd_L_under_10 : zz_B zy_under_L 10 Instr.goto 21 13 := ⟨11, by decide +kernel, rfl, rfl⟩
theorem zd_L_under_21 : zz_D zy_under_L 21 (.iconst 0) 1 22 := ⟨by decide +kernel, rfl⟩
theorem zd_L_under_22 : zz_D zy_under_L 22 (.ireturn) 1 23 := ⟨by decide +kernel, rfl⟩
-- TensorForgeLaw under (LTensorForge;II[J)I
abbrev zr_under_L : Room := { frames := 8, cells := 2, slots := 12, locals := 112 }
def zp_under_L (p1 : Int) (p2 : Int) (S0 : zz_S) : Int → zz_S → Prop := fun r S => zz_G S ∧ zz_fr [] [1121] (fun _ _ => False) S0 S ∧ ((-2147483648) ≤ r ∧ r ≤ 2147483647)
theorem zc_under_L {g : mm_G} {l : Launch} (p1 : Int) (p2 : Int) (S0 : zz_S) (n : Nat) (hn : zz_end ≤ n) (hfl : l.flags = flags0) (G_S0 : zz_G S0) (hp1 : (-2147483648) ≤ p1 ∧ p1 ≤ 2147483647) (hp2 : (-2147483648) ≤ p2 ∧ p2 ≤ 2147483647) : mm_MetH g l zy_under_L [(0, 10, 13, 58), (0, 10, 17, 13)] zr_under_L [.ref 1000, zi p1, zi p2, .ref 1121] (zz_M S0 n) n (zz_QW n (zp_under_L p1 p2 S0)) := by
  refine zz_enterH (by decide) (Nat.le_of_ble_eq_true rfl) (zz_less (ls1 := [some (.ref 1000), some (zi p1), some (zi p2), some (.ref 1121)]) ⟨rfl, ⟨rfl, ⟨rfl, ⟨rfl, trivial⟩⟩⟩⟩ ?_)
  have F_S0 : zz_fr [] [1121] (fun _ _ => False) S0 S0 := zz_fr.refl
  refine zz_aload_n (x := 1121) rfl zd_L_under_0 ?_
  refine zz_iconst zd_L_under_1 ?_
  refine zz_aload_n (x := 1000) rfl zd_L_under_2 ?_
  refine zz_iload_n (x := p1) rfl zd_L_under_3 ?_
  refine zz_iload_n (x := p2) rfl zd_L_under_4 ?_
  refine zz_callVCI [zi p1, zi p2] zd_L_under_5 zk_TFLaw_88 zT_1000 (zz_ltn hn rfl) rfl rfl ⟨Nat.le_of_ble_eq_true rfl, Nat.le_of_ble_eq_true rfl⟩ (Nat.le_of_ble_eq_true rfl) (Nat.le_of_ble_eq_true rfl) (zc_under_1_28 p1 p2 S0 n hn hfl G_S0 (by omega) (by omega)) (fun i SX hX => ?_) (fun v4 S3 hP => ?_)
  · obtain ⟨rfl, x0, x1⟩ := hX
    rcases (by omega : i = 0 ∨ i = 3) with rfl | rfl
    · refine zz_catchW zxL_under_L zxY_under_L zxC_under_L (by decide) rfl zd_L_under_17 (by decide) ?_
      refine zz_iconst zd_L_under_19 ?_
      exact zz_iret zd_L_under_20 rfl (Nat.le_of_ble_eq_true rfl) (Nat.le_of_ble_eq_true rfl) ⟨_, _, 1, rfl, Nat.le_refl _, G_S0, F_S0, by omega⟩
    · refine zz_catchW zxL_under_L zxY_under_L zxC_under_L (by decide) rfl zd_L_under_13 (by decide) ?_
      refine zz_iconst zd_L_under_15 ?_
      exact zz_iret zd_L_under_16 rfl (Nat.le_of_ble_eq_true rfl) (Nat.le_of_ble_eq_true rfl) ⟨_, _, 1, rfl, Nat.le_refl _, G_S0, F_S0, by omega⟩
  obtain ⟨rfl, o5⟩ := hP
  refine zz_i2l (by omega) zd_L_under_8 ?_
  refine zz_last zd_L_under_9 zT_1121 rfl (zz_ltn hn rfl) (by decide) (by decide) (fun S6 qS6 => ?_)
  have G_S6 := zz_G.put G_S0 qS6 (-9223372036854775808) 9223372036854775807 rfl (by omega)
  have F_S6 := zz_fr.putc F_S0 qS6 rfl
  refine zz_goto zd_L_under_10 ?_
  refine zz_iconst zd_L_under_21 ?_
  exact zz_iret zd_L_under_22 rfl (Nat.le_of_ble_eq_true rfl) (Nat.le_of_ble_eq_true rfl) ⟨_, _, 0, rfl, Nat.zero_le _, G_S6, F_S6, by omega⟩
abbrev zy_waits_L : mm_Y := (⟨"TensorForgeLaw", "waits", "(LTensorForge;II[J)I"⟩, method_24_code, 5, (some .int))
abbrev zxL_waits_L : List ((Nat × Nat × Nat × Nat) × Nat) := [((0, 10, 13, 58), 3), ((0, 10, 17, 13), 0)]
theorem zxY_waits_L : Cond.codeWith zy_waits_L.1 zy_waits_L.2.1 zy_waits_L.2.2.1 zy_waits_L.2.2.2 (zxL_waits_L.map Prod.fst) ∈ mm_tb := mm_tb_1 1560 (by decide +kernel) rfl
theorem zxC_waits_L : ∀ z ∈ zxL_waits_L, Cond.classLink zy_waits_L.1.cls z.1.2.2.2 (mm_xn z.2) ∈ mm_tb ∧ z.1.2.2.2 ≠ 0 ∧ z.2 < 4 := by
  intro z hz
  simp only [List.mem_cons, List.not_mem_nil, or_false] at hz
  rcases hz with rfl | rfl
  · exact ⟨mm_tb_1 1315 (by decide +kernel) rfl, by decide, by decide⟩ 
  · exact ⟨mm_tb_1 1043 (by decide +kernel) rfl, by decide, by decide⟩
theorem zk_TFLaw_91 : mm_Vl "TensorForgeLaw" 91 0 2 zy_waits_1_29 := ⟨zyw_waits_1_29, (R_TF, F_TF, 12), rfl, mm_tb_1 1561 (by decide +kernel) rfl, mm_tb_1 1562 (by decide +kernel) rfl, mm_tb_1 1563 (by decide +kernel) rfl⟩
theorem zd_L_waits_0 : zz_D zy_waits_L 0 (.aload_n 3) 1 1 := ⟨by decide +kernel, rfl⟩
theorem zd_L_waits_1 : zz_D zy_waits_L 1 (.iconst 0) 1 2 := ⟨by decide +kernel, rfl⟩
theorem zd_L_waits_2 : zz_D zy_waits_L 2 (.aload_n 0) 1 3 := ⟨by decide +kernel, rfl⟩
theorem zd_L_waits_3 : zz_D zy_waits_L 3 (.iload_n 1) 1 4 := ⟨by decide +kernel, rfl⟩
theorem zd_L_waits_4 : zz_D zy_waits_L 4 (.iload_n 2) 1 5 := ⟨by decide +kernel, rfl⟩
theorem zd_L_waits_5 : zz_D zy_waits_L 5 (.invokevirtual 91) 3 8 := ⟨by decide +kernel, rfl⟩
theorem zd_L_waits_17 : zz_D zy_waits_L 17 (.astore 4) 2 19 := ⟨by decide +kernel, rfl⟩
theorem zd_L_waits_19 : zz_D zy_waits_L 19 (.iconst 2) 1 20 := ⟨by decide +kernel, rfl⟩
theorem zd_L_waits_20 : zz_D zy_waits_L 20 (.ireturn) 1 21 := ⟨by decide +kernel, rfl⟩
theorem zd_L_waits_13 : zz_D zy_waits_L 13 (.astore 4) 2 15 := ⟨by decide +kernel, rfl⟩
theorem zd_L_waits_15 : zz_D zy_waits_L 15 (.iconst 1) 1 16 := ⟨by decide +kernel, rfl⟩
theorem zd_L_waits_16 : zz_D zy_waits_L 16 (.ireturn) 1 17 := ⟨by decide +kernel, rfl⟩
theorem zd_L_waits_8 : zz_D zy_waits_L 8 (.i2l) 1 9 := ⟨by decide +kernel, rfl⟩
theorem zd_L_waits_9 : zz_D zy_waits_L 9 (.lastore) 1 10 := ⟨by decide +kernel, rfl⟩
theorem zd_L_waits_10 : zz_B zy_waits_L 10 Instr.goto 21 13 := ⟨11, by decide +kernel, rfl, rfl⟩
theorem zd_L_waits_21 : zz_D zy_waits_L 21 (.iconst 0) 1 22 := ⟨by decide +kernel, rfl⟩
theorem zd_L_waits_22 : zz_D zy_waits_L 22 (.ireturn) 1 23 := ⟨by decide +kernel, rfl⟩
-- TensorForgeLaw waits (LTensorForge;II[J)I
abbrev zr_waits_L : Room := { frames := 8, cells := 2, slots := 12, locals := 112 }
def zp_waits_L (p1 : Int) (p2 : Int) (S0 : zz_S) : Int → zz_S → Prop := fun r S => zz_G S ∧ zz_fr [] [1121] (fun _ _ => False) S0 S ∧ ((-2147483648) ≤ r ∧ r ≤ 2147483647)
theorem zc_waits_L {g : mm_G} {l : Launch} (p1 : Int) (p2 : Int) (S0 : zz_S) (n : Nat) (hn : zz_end ≤ n) (hfl : l.flags = flags0) (G_S0 : zz_G S0) (hp1 : (-2147483648) ≤ p1 ∧ p1 ≤ 2147483647) (hp2 : (-2147483648) ≤ p2 ∧ p2 ≤ 2147483647) : mm_MetH g l zy_waits_L [(0, 10, 13, 58), (0, 10, 17, 13)] zr_waits_L [.ref 1000, zi p1, zi p2, .ref 1121] (zz_M S0 n) n (zz_QW n (zp_waits_L p1 p2 S0)) := by
  refine zz_enterH (by decide) (Nat.le_of_ble_eq_true rfl) (zz_less (ls1 := [some (.ref 1000), some (zi p1), some (zi p2), some (.ref 1121)]) ⟨rfl, ⟨rfl, ⟨rfl, ⟨rfl, trivial⟩⟩⟩⟩ ?_)
  have F_S0 : zz_fr [] [1121] (fun _ _ => False) S0 S0 := zz_fr.refl
  refine zz_aload_n (x := 1121) rfl zd_L_waits_0 ?_
  refine zz_iconst zd_L_waits_1 ?_
  refine zz_aload_n (x := 1000) rfl zd_L_waits_2 ?_
  refine zz_iload_n (x := p1) rfl zd_L_waits_3 ?_
  refine zz_iload_n (x := p2) rfl zd_L_waits_4 ?_
  refine zz_callVCI [zi p1, zi p2] zd_L_waits_5 zk_TFLaw_91 zT_1000 (zz_ltn hn rfl) rfl rfl ⟨Nat.le_of_ble_eq_true rfl, Nat.le_of_ble_eq_true rfl⟩ (Nat.le_of_ble_eq_true rfl) (Nat.le_of_ble_eq_true rfl) (zc_waits_1_29 p1 p2 S0 n hn hfl G_S0 (by omega) (by omega)) (fun i SX hX => ?_) (fun v4 S3 hP => ?_)
  · obtain ⟨rfl, x0, x1⟩ := hX
    rcases (by omega : i = 0 ∨ i = 3) with rfl | rfl
    · refine zz_catchW zxL_waits_L zxY_waits_L zxC_waits_L (by decide) rfl zd_L_waits_17 (by decide) ?_
      refine zz_iconst zd_L_waits_19 ?_
      exact zz_iret zd_L_waits_20 rfl (Nat.le_of_ble_eq_true rfl) (Nat.le_of_ble_eq_true rfl) ⟨_, _, 1, rfl, Nat.le_refl _, G_S0, F_S0, by omega⟩
    · refine zz_catchW zxL_waits_L zxY_waits_L zxC_waits_L (by decide) rfl zd_L_waits_13 (by decide) ?_
      refine zz_iconst zd_L_waits_15 ?_
      exact zz_iret zd_L_waits_16 rfl (Nat.le_of_ble_eq_true rfl) (Nat.le_of_ble_eq_true rfl) ⟨_, _, 1, rfl, Nat.le_refl _, G_S0, F_S0, by omega⟩
  obtain ⟨rfl, o5⟩ := hP
  refine zz_i2l (by omega) zd_L_waits_8 ?_
  refine zz_last zd_L_waits_9 zT_1121 rfl (zz_ltn hn rfl) (by decide) (by decide) (fun S6 qS6 => ?_)
  have G_S6 := zz_G.put G_S0 qS6 (-9223372036854775808) 9223372036854775807 rfl (by omega)
  have F_S6 := zz_fr.putc F_S0 qS6 rfl
  refine zz_goto zd_L_waits_10 ?_
  refine zz_iconst zd_L_waits_21 ?_
  exact zz_iret zd_L_waits_22 rfl (Nat.le_of_ble_eq_true rfl) (Nat.le_of_ble_eq_true rfl) ⟨_, _, 0, rfl, Nat.zero_le _, G_S6, F_S6, by omega⟩

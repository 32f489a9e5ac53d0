-- TensorForge$Line addNumber (I)V
abbrev zr_addNumber_5_11 : Room := { frames := 1, cells := 0, slots := 0, locals := 13 }
def zp_addNumber_5_11 (p0 : Int) (S0 : zz_S) : zz_S → Prop := fun S => zz_G S ∧ zz_fr [(1077, 1)] [1078] (fun _ _ => False) S0 S
theorem zb_addNumber_5_11_10 {g : mm_G} {l : Launch} (p0 : Int) (S0 : zz_S) (n : Nat) (hn : zz_end ≤ n) (G_S0 : zz_G S0) (hp0 : (-2147483648) ≤ p0 ∧ p0 ≤ 2147483647) (x2 : Int) (S : zz_S) (G_S : zz_G S) (F_S : zz_fr [(1077, 1)] [1078] (fun _ _ => False) S0 S) (i10_0 : 0 ≤ x2 ∧ x2 ≤ 1000) (R : Nat) (hR : x2.toNat = R) (k10 : ∀ (x2 : Int) (S : zz_S), zz_G S → zz_fr [(1077, 1)] [1078] (fun _ _ => False) S0 S → (0 ≤ x2 ∧ x2 ≤ 1000) → x2.toNat < R → zz_E g l zy_addNumber_5_11 zr_addNumber_5_11 (zz_QV n (zp_addNumber_5_11 p0 S0)) S n 10 [some (.ref 1077), some (zi p0), some (zi x2)] [] 0 0) : zz_E g l zy_addNumber_5_11 zr_addNumber_5_11 (zz_QV n (zp_addNumber_5_11 p0 S0)) S n 10 [some (.ref 1077), some (zi p0), some (zi x2)] [] 0 0 := by
  refine zz_iload_n (x := x2) rfl zd_5_11_10 ?_
  refine zz_if_le (by omega) zd_5_11_11 (fun c3 => ?_) (fun c3 => ?_)
  · exact zz_vret zd_5_11_46 rfl (Nat.zero_le _) (Nat.zero_le _) ⟨_, rfl, G_S, F_S⟩
  · refine zz_iload_n (x := p0) rfl zd_5_11_14 ?_
    refine zz_iload_n (x := x2) rfl zd_5_11_15 ?_
    refine zz_icmp_ge (by omega) (by omega) zd_5_11_16 (fun c4 => ?_) (fun c4 => ?_)
    · refine zz_aload_n (x := 1077) rfl zd_5_11_24 ?_
      refine zz_bipush (by decide) zd_5_11_25 ?_
      refine zz_iload_n (x := p0) rfl zd_5_11_27 ?_
      refine zz_iload_n (x := x2) rfl zd_5_11_28 ?_
      refine zz_idiv (by omega) (by omega) zd_5_11_29 (fun v5 hv5 av5 bv5 cv5 => ?_)
      have m6 := zz_divb (by omega) (by omega) av5
      refine zz_bipush (by decide) zd_5_11_30 ?_
      refine zz_irem (by omega) (by omega) zd_5_11_32 (fun v7 hv7 av7 bv7 cv7 => ?_)
      refine zz_iadd zd_5_11_33 ?_
      refine zz_i2c (by omega) zd_5_11_34 ?_
      refine zz_callVV [zi (48 + v7)] zd_5_11_35 zk_Line_69 zT_1077 (zz_ltn hn rfl) rfl rfl ⟨Nat.le_of_ble_eq_true rfl, Nat.le_of_ble_eq_true rfl⟩ ⟨rfl, rfl⟩ (Nat.zero_le _) (Nat.zero_le _) (zc_addSign_5_12 (48 + v7) S n hn G_S (by omega)) (fun S8 hP => ?_)
      obtain ⟨G_S8, fS8⟩ := hP
      have F_S8 := zz_fr.trans F_S fS8 rfl zz_nv
      refine zz_iload_n (x := x2) rfl zd_5_11_38 ?_
      refine zz_bipush (by decide) zd_5_11_39 ?_
      refine zz_idiv (by omega) (by omega) zd_5_11_41 (fun v10 hv10 av10 bv10 cv10 => ?_)
      refine zz_istore_n [some (.ref 1077), some (zi p0), some (zi v10)] zd_5_11_42 (by decide) rfl ?_
      refine zz_goto zd_5_11_43 ?_
      refine zz_less (ls1 := [some (.ref 1077), some (zi p0), some (zi v10)]) ⟨rfl, ⟨rfl, ⟨rfl, trivial⟩⟩⟩ ?_
      exact k10 v10 S8 G_S8 F_S8 (by omega) (by omega)
    · refine zz_iload_n (x := x2) rfl zd_5_11_19 ?_
      refine zz_iconst zd_5_11_20 ?_
      refine zz_icmp_ne (by omega) (by omega) zd_5_11_21 (fun c11 => ?_) (fun c11 => ?_)
      · refine zz_iload_n (x := x2) rfl zd_5_11_38 ?_
        refine zz_bipush (by decide) zd_5_11_39 ?_
        refine zz_idiv (by omega) (by omega) zd_5_11_41 (fun v12 hv12 av12 bv12 cv12 => ?_)
        refine zz_istore_n [some (.ref 1077), some (zi p0), some (zi v12)] zd_5_11_42 (by decide) rfl ?_
        refine zz_goto zd_5_11_43 ?_
        refine zz_less (ls1 := [some (.ref 1077), some (zi p0), some (zi v12)]) ⟨rfl, ⟨rfl, ⟨rfl, trivial⟩⟩⟩ ?_
        exact k10 v12 S G_S F_S (by omega) (by omega)
      · refine zz_aload_n (x := 1077) rfl zd_5_11_24 ?_
        refine zz_bipush (by decide) zd_5_11_25 ?_
        refine zz_iload_n (x := p0) rfl zd_5_11_27 ?_
        refine zz_iload_n (x := x2) rfl zd_5_11_28 ?_
        refine zz_idiv (by omega) (by omega) zd_5_11_29 (fun v13 hv13 av13 bv13 cv13 => ?_)
        refine zz_bipush (by decide) zd_5_11_30 ?_
        refine zz_irem (by omega) (by omega) zd_5_11_32 (fun v14 hv14 av14 bv14 cv14 => ?_)
        refine zz_iadd zd_5_11_33 ?_
        refine zz_i2c (by omega) zd_5_11_34 ?_
        refine zz_callVV [zi (48 + v14)] zd_5_11_35 zk_Line_69 zT_1077 (zz_ltn hn rfl) rfl rfl ⟨Nat.le_of_ble_eq_true rfl, Nat.le_of_ble_eq_true rfl⟩ ⟨rfl, rfl⟩ (Nat.zero_le _) (Nat.zero_le _) (zc_addSign_5_12 (48 + v14) S n hn G_S (by omega)) (fun S15 hP => ?_)
        obtain ⟨G_S15, fS15⟩ := hP
        have F_S15 := zz_fr.trans F_S fS15 rfl zz_nv
        refine zz_iload_n (x := x2) rfl zd_5_11_38 ?_
        refine zz_bipush (by decide) zd_5_11_39 ?_
        refine zz_idiv (by omega) (by omega) zd_5_11_41 (fun v17 hv17 av17 bv17 cv17 => ?_)
        refine zz_istore_n [some (.ref 1077), some (zi p0), some (zi v17)] zd_5_11_42 (by decide) rfl ?_
        refine zz_goto zd_5_11_43 ?_
        refine zz_less (ls1 := [some (.ref 1077), some (zi p0), some (zi v17)]) ⟨rfl, ⟨rfl, ⟨rfl, trivial⟩⟩⟩ ?_
        exact k10 v17 S15 G_S15 F_S15 (by omega) (by omega)
theorem zi_addNumber_5_11 {g : mm_G} {l : Launch} (p0 : Int) (S0 : zz_S) (n : Nat) (hn : zz_end ≤ n) (G_S0 : zz_G S0) (hp0 : (-2147483648) ≤ p0 ∧ p0 ≤ 2147483647) : ∀ N : Nat, (∀ (x2 : Int) (S : zz_S), zz_G S → zz_fr [(1077, 1)] [1078] (fun _ _ => False) S0 S → (0 ≤ x2 ∧ x2 ≤ 1000) → x2.toNat < N → zz_E g l zy_addNumber_5_11 zr_addNumber_5_11 (zz_QV n (zp_addNumber_5_11 p0 S0)) S n 10 [some (.ref 1077), some (zi p0), some (zi x2)] [] 0 0) := by
  intro N
  induction N with
  | zero => exact fun x2 S _ _ _ h => absurd h (Nat.not_lt_zero _)
  | succ N ih =>
    exact fun x2 S a b j0 hR => zb_addNumber_5_11_10 p0 S0 n hn G_S0 hp0 x2 S a b j0 _ rfl (fun x2 S a b j0 h => ih x2 S a b j0 (Nat.lt_of_lt_of_le h (Nat.le_of_lt_succ hR)))
theorem zc_addNumber_5_11 {g : mm_G} {l : Launch} (p0 : Int) (S0 : zz_S) (n : Nat) (hn : zz_end ≤ n) (G_S0 : zz_G S0) (hp0 : (-2147483648) ≤ p0 ∧ p0 ≤ 2147483647) : mm_Met g l zy_addNumber_5_11 zr_addNumber_5_11 [.ref 1077, zi p0] (zz_M S0 n) n (zz_QV n (zp_addNumber_5_11 p0 S0)) := by
  refine zz_enter (by decide) (Nat.le_of_ble_eq_true rfl) (zz_less (ls1 := [some (.ref 1077), some (zi p0)]) ⟨rfl, ⟨rfl, trivial⟩⟩ ?_)
  have F_S0 : zz_fr [(1077, 1)] [1078] (fun _ _ => False) S0 S0 := zz_fr.refl
  have k10 : ∀ (x2 : Int) (S : zz_S), zz_G S → zz_fr [(1077, 1)] [1078] (fun _ _ => False) S0 S → (0 ≤ x2 ∧ x2 ≤ 1000) → zz_E g l zy_addNumber_5_11 zr_addNumber_5_11 (zz_QV n (zp_addNumber_5_11 p0 S0)) S n 10 [some (.ref 1077), some (zi p0), some (zi x2)] [] 0 0 := fun x2 S a b j0 => (zi_addNumber_5_11 (g := g) (l := l) p0 S0 n hn G_S0 hp0 _) x2 S a b j0 (Nat.lt_succ_self _)
  refine zz_aload_n (x := 1077) rfl zd_5_11_0 ?_
  refine zz_bipush (by decide) zd_5_11_1 ?_
  refine zz_callVV [zi 32] zd_5_11_3 zk_Line_69 zT_1077 (zz_ltn hn rfl) rfl rfl ⟨Nat.le_of_ble_eq_true rfl, Nat.le_of_ble_eq_true rfl⟩ ⟨rfl, rfl⟩ (Nat.zero_le _) (Nat.zero_le _) (zc_addSign_5_12 32 S0 n hn G_S0 (by omega)) (fun S1 hP => ?_)
  obtain ⟨G_S1, fS1⟩ := hP
  have F_S1 := zz_fr.trans F_S0 fS1 rfl zz_nv
  refine zz_sipush (by decide) zd_5_11_6 ?_
  refine zz_istore_n [some (.ref 1077), some (zi p0), some (zi 1000)] zd_5_11_9 (by decide) rfl ?_
  refine zz_less (ls1 := [some (.ref 1077), some (zi p0), some (zi 1000)]) ⟨rfl, ⟨rfl, ⟨rfl, trivial⟩⟩⟩ ?_
  exact k10 1000 S1 G_S1 F_S1 (by omega)
theorem zk_Line_108 : mm_Vl "TensorForge$Line" 108 10 1 zy_addNumber_5_11 := ⟨zyw_addNumber_5_11, (R_Line, F_Line, 2), rfl, mm_tb_1 1278 (by decide +kernel) rfl, mm_tb_1 1280 (by decide +kernel) rfl, mm_tb_s 58 (by decide +kernel) rfl⟩
theorem zd_5_9_10 : zz_D zy_addNumbered_5_9 10 (.return_) 1 11 := ⟨by decide +kernel, rfl⟩
-- TensorForge$Line addNumbered (Ljava/lang/String;I)V
abbrev zr_addNumbered_5_9 : Room := { frames := 5, cells := 0, slots := 0, locals := 68 }
def zp_addNumbered_5_9 (p0 : Nat) (p1 : Int) (S0 : zz_S) : zz_S → Prop := fun S => zz_G S ∧ zz_fr [(1077, 1)] [1078] (fun _ _ => False) S0 S
theorem zc_addNumbered_5_9 {g : mm_G} {l : Launch} (p0 : Nat) (p1 : Int) (S0 : zz_S) (n : Nat) (hn : zz_end ≤ n) (G_S0 : zz_G S0) (hp0 : p0 < 59) (hp1 : (-2147483648) ≤ p1 ∧ p1 ≤ 2147483647) : mm_Met g l zy_addNumbered_5_9 zr_addNumbered_5_9 [.ref 1077, .ref (100 + p0), zi p1] (zz_M S0 n) n (zz_QV n (zp_addNumbered_5_9 p0 p1 S0)) := by
  refine zz_enter (by decide) (Nat.le_of_ble_eq_true rfl) (zz_less (ls1 := [some (.ref 1077), some (.ref (100 + p0)), some (zi p1)]) ⟨rfl, ⟨rfl, ⟨rfl, trivial⟩⟩⟩ ?_)
  have F_S0 : zz_fr [(1077, 1)] [1078] (fun _ _ => False) S0 S0 := zz_fr.refl
  refine zz_aload_n (x := 1077) rfl zd_5_9_0 ?_
  refine zz_aload_n (x := 100 + p0) rfl zd_5_9_1 ?_
  refine zz_callVV [.ref (100 + p0)] zd_5_9_2 zk_Line_29 zT_1077 (zz_ltn hn rfl) rfl rfl ⟨Nat.le_of_ble_eq_true rfl, Nat.le_of_ble_eq_true rfl⟩ ⟨rfl, rfl⟩ (Nat.zero_le _) (Nat.zero_le _) (zc_addToken_5_10 p0 S0 n hn G_S0 (by omega)) (fun S1 hP => ?_)
  obtain ⟨G_S1, fS1⟩ := hP
  have F_S1 := zz_fr.trans F_S0 fS1 rfl zz_nv
  refine zz_aload_n (x := 1077) rfl zd_5_9_5 ?_
  refine zz_iload_n (x := p1) rfl zd_5_9_6 ?_
  refine zz_callVV [zi p1] zd_5_9_7 zk_Line_108 zT_1077 (zz_ltn hn rfl) rfl rfl ⟨Nat.le_of_ble_eq_true rfl, Nat.le_of_ble_eq_true rfl⟩ ⟨rfl, rfl⟩ (Nat.zero_le _) (Nat.zero_le _) (zc_addNumber_5_11 p1 S1 n hn G_S1 (by omega)) (fun S3 hP => ?_)
  obtain ⟨G_S3, fS3⟩ := hP
  have F_S3 := zz_fr.trans F_S1 fS3 rfl zz_nv
  exact zz_vret zd_5_9_10 rfl (Nat.zero_le _) (Nat.zero_le _) ⟨_, rfl, G_S3, F_S3⟩
theorem zk_Line_83 : mm_Vl "TensorForge$Line" 83 10 2 zy_addNumbered_5_9 := ⟨zyw_addNumbered_5_9, (R_Line, F_Line, 2), rfl, mm_tb_1 1274 (by decide +kernel) rfl, mm_tb_1 1276 (by decide +kernel) rfl, mm_tb_s 57 (by decide +kernel) rfl⟩
-- TensorForge$Line addUnlessNothing (Ljava/lang/String;JI)V
abbrev zr_addUnlessNothing_5_6 : Room := { frames := 6, cells := 0, slots := 0, locals := 82 }
def zp_addUnlessNothing_5_6 (p0 : Nat) (p1 : Int) (p2 : Int) (S0 : zz_S) : zz_S → Prop := fun S => zz_G S ∧ zz_fr [(1077, 1)] [1078] (fun _ _ => False) S0 S
theorem zc_addUnlessNothing_5_6 {g : mm_G} {l : Launch} (p0 : Nat) (p1 : Int) (p2 : Int) (S0 : zz_S) (n : Nat) (hn : zz_end ≤ n) (G_S0 : zz_G S0) (hp0 : p0 < 59) (hp1 : (-9223372036854775808) ≤ p1 ∧ p1 ≤ 9223372036854775807) (hp2 : (-2147483648) ≤ p2 ∧ p2 ≤ 2147483647) : mm_Met g l zy_addUnlessNothing_5_6 zr_addUnlessNothing_5_6 [.ref 1077, .ref (100 + p0), zl p1, zi p2] (zz_M S0 n) n (zz_QV n (zp_addUnlessNothing_5_6 p0 p1 p2 S0)) := by
  refine zz_enter (by decide) (Nat.le_of_ble_eq_true rfl) (zz_less (ls1 := [some (.ref 1077), some (.ref (100 + p0)), some (zl p1), none, some (zi p2)]) ⟨rfl, ⟨rfl, ⟨rfl, ⟨rfl, trivial⟩⟩⟩⟩ ?_)
  have F_S0 : zz_fr [(1077, 1)] [1078] (fun _ _ => False) S0 S0 := zz_fr.refl
  refine zz_lload_n (x := p1) rfl zd_5_6_0 ?_
  refine zz_iload (x := p2) rfl zd_5_6_1 ?_
  refine zz_callSI [zl p1, zi p2] zd_5_6_3 zk_Line_39 rfl rfl ⟨Nat.le_of_ble_eq_true rfl, Nat.le_of_ble_eq_true rfl⟩ ⟨rfl, rfl⟩ (Nat.zero_le _) (Nat.zero_le _) (zc_has_12_3 p1 p2 S0 n hn G_S0 (by omega) (by omega)) (fun v2 S1 hP => ?_)
  obtain ⟨rfl, o3⟩ := hP
  rcases (by omega : v2 = 0 ∨ v2 = 1) with rfl | rfl
  · refine zz_if_eq (by omega) zd_5_6_6 (fun c4 => ?_) (fun c4 => ?_)
    · exact zz_vret zd_5_6_20 rfl (Nat.zero_le _) (Nat.zero_le _) ⟨_, rfl, G_S0, F_S0⟩
    · exfalso; omega
  · refine zz_if_eq (by omega) zd_5_6_6 (fun c5 => ?_) (fun c5 => ?_)
    · exfalso; omega
    · refine zz_aload_n (x := 1077) rfl zd_5_6_9 ?_
      refine zz_aload_n (x := 100 + p0) rfl zd_5_6_10 ?_
      refine zz_lload_n (x := p1) rfl zd_5_6_11 ?_
      refine zz_iload (x := p2) rfl zd_5_6_12 ?_
      refine zz_callSI [zl p1, zi p2] zd_5_6_14 zk_Line_21 rfl rfl ⟨Nat.le_of_ble_eq_true rfl, Nat.le_of_ble_eq_true rfl⟩ ⟨rfl, rfl⟩ (Nat.zero_le _) (Nat.zero_le _) (zc_get_12_2 p1 p2 S0 n hn G_S0 (by omega) (by omega)) (fun v7 S6 hP => ?_)
      obtain ⟨rfl, o8⟩ := hP
      refine zz_callVV [.ref (100 + p0), zi v7] zd_5_6_17 zk_Line_83 zT_1077 (zz_ltn hn rfl) rfl rfl ⟨Nat.le_of_ble_eq_true rfl, Nat.le_of_ble_eq_true rfl⟩ ⟨rfl, rfl⟩ (Nat.zero_le _) (Nat.zero_le _) (zc_addNumbered_5_9 p0 v7 S0 n hn G_S0 (by omega) (by omega)) (fun S9 hP => ?_)
      obtain ⟨G_S9, fS9⟩ := hP
      have F_S9 := zz_fr.trans F_S0 fS9 rfl zz_nv
      exact zz_vret zd_5_6_20 rfl (Nat.zero_le _) (Nat.zero_le _) ⟨_, rfl, G_S9, F_S9⟩
theorem zk_Line_35 : mm_Vl "TensorForge$Line" 35 10 3 zy_addUnlessNothing_5_6 := ⟨zyw_addUnlessNothing_5_6, (R_Line, F_Line, 2), rfl, mm_tb_1 1269 (by decide +kernel) rfl, mm_tb_1 1271 (by decide +kernel) rfl, mm_tb_s 56 (by decide +kernel) rfl⟩
abbrev zy_addIf_5_7 : mm_Y := (⟨"TensorForge$Line", "addIf", "(ZLjava/lang/String;)V"⟩, prog_5_method_7_code, 3, none)
theorem zyw_addIf_5_7 : mm_Yw zy_addIf_5_7 2 := ⟨mm_tb_1 1296 (by decide +kernel) rfl, mm_tb_1 11 (by decide +kernel) rfl, ⟨by decide, by decide⟩, by decide +kernel⟩
theorem zg_5_3_25 : (decode zy_writeInstruction_5_3.2.1 25 = .ok ((.lload_n 1), 1)) ∧ (decode zy_writeInstruction_5_3.2.1 26 = .ok ((.bipush 6), 2)) ∧ (decode zy_writeInstruction_5_3.2.1 28 = .ok ((.invokestatic 39), 3)) ∧ (decode zy_writeInstruction_5_3.2.1 31 = .ok ((Instr.ifCond .ne) 12, 3)) ∧ (decode zy_writeInstruction_5_3.2.1 34 = .ok ((.lload_n 1), 1)) ∧ (decode zy_writeInstruction_5_3.2.1 35 = .ok ((.bipush 7), 2)) ∧ (decode zy_writeInstruction_5_3.2.1 37 = .ok ((.invokestatic 39), 3)) ∧ (decode zy_writeInstruction_5_3.2.1 40 = .ok ((Instr.ifCond .eq) 21, 3)) ∧ (decode zy_writeInstruction_5_3.2.1 61 = .ok ((.aload_n 0), 1)) ∧ (decode zy_writeInstruction_5_3.2.1 62 = .ok ((.ldc 49), 2)) := by decide +kernel
theorem zd_5_3_25 : zz_D zy_writeInstruction_5_3 25 (.lload_n 1) 1 26 := ⟨zg_5_3_25.1, rfl⟩
theorem zd_5_3_26 : zz_D zy_writeInstruction_5_3 26 (.bipush 6) 2 28 := ⟨zg_5_3_25.2.1, rfl⟩
theorem zd_5_3_28 : zz_D zy_writeInstruction_5_3 28 (.invokestatic 39) 3 31 := ⟨zg_5_3_25.2.2.1, rfl⟩
theorem zd_5_3_31 : zz_B zy_writeInstruction_5_3 31 (Instr.ifCond .ne) 43 34 := ⟨12, zg_5_3_25.2.2.2.1, rfl, rfl⟩
theorem zd_5_3_34 : zz_D zy_writeInstruction_5_3 34 (.lload_n 1) 1 35 := ⟨zg_5_3_25.2.2.2.2.1, rfl⟩
theorem zd_5_3_35 : zz_D zy_writeInstruction_5_3 35 (.bipush 7) 2 37 := ⟨zg_5_3_25.2.2.2.2.2.1, rfl⟩
theorem zd_5_3_37 : zz_D zy_writeInstruction_5_3 37 (.invokestatic 39) 3 40 := ⟨zg_5_3_25.2.2.2.2.2.2.1, rfl⟩
theorem zd_5_3_40 : zz_B zy_writeInstruction_5_3 40 (Instr.ifCond .eq) 61 43 := ⟨21, zg_5_3_25.2.2.2.2.2.2.2.1, rfl, rfl⟩
theorem zd_5_3_61 : zz_D zy_writeInstruction_5_3 61 (.aload_n 0) 1 62 := ⟨zg_5_3_25.2.2.2.2.2.2.2.2.1, rfl⟩
theorem zd_5_3_62 : zz_D zy_writeInstruction_5_3 62 (.ldc 49) 2 64 := ⟨zg_5_3_25.2.2.2.2.2.2.2.2.2, rfl⟩
theorem zg_5_3_64 : (decode zy_writeInstruction_5_3.2.1 64 = .ok ((.lload_n 1), 1)) ∧ (decode zy_writeInstruction_5_3.2.1 65 = .ok ((.bipush 8), 2)) ∧ (decode zy_writeInstruction_5_3.2.1 67 = .ok ((.invokevirtual 35), 3)) ∧ (decode zy_writeInstruction_5_3.2.1 70 = .ok ((.aload_n 0), 1)) ∧ (decode zy_writeInstruction_5_3.2.1 71 = .ok ((.ldc 51), 2)) ∧ (decode zy_writeInstruction_5_3.2.1 73 = .ok ((.lload_n 1), 1)) ∧ (decode zy_writeInstruction_5_3.2.1 74 = .ok ((.bipush 9), 2)) ∧ (decode zy_writeInstruction_5_3.2.1 76 = .ok ((.invokevirtual 35), 3)) ∧ (decode zy_writeInstruction_5_3.2.1 79 = .ok ((.aload_n 0), 1)) ∧ (decode zy_writeInstruction_5_3.2.1 80 = .ok ((.ldc 53), 2)) := by decide +kernel
theorem zd_5_3_64 : zz_D zy_writeInstruction_5_3 64 (.lload_n 1) 1 65 := ⟨zg_5_3_64.1, rfl⟩
theorem zd_5_3_65 : zz_D zy_writeInstruction_5_3 65 (.bipush 8) 2 67 := ⟨zg_5_3_64.2.1, rfl⟩
theorem zd_5_3_67 : zz_D zy_writeInstruction_5_3 67 (.invokevirtual 35) 3 70 := ⟨zg_5_3_64.2.2.1, rfl⟩
theorem zd_5_3_70 : zz_D zy_writeInstruction_5_3 70 (.aload_n 0) 1 71 := ⟨zg_5_3_64.2.2.2.1, rfl⟩
theorem zd_5_3_71 : zz_D zy_writeInstruction_5_3 71 (.ldc 51) 2 73 := ⟨zg_5_3_64.2.2.2.2.1, rfl⟩
theorem zd_5_3_73 : zz_D zy_writeInstruction_5_3 73 (.lload_n 1) 1 74 := ⟨zg_5_3_64.2.2.2.2.2.1, rfl⟩
theorem zd_5_3_74 : zz_D zy_writeInstruction_5_3 74 (.bipush 9) 2 76 := ⟨zg_5_3_64.2.2.2.2.2.2.1, rfl⟩
theorem zd_5_3_76 : zz_D zy_writeInstruction_5_3 76 (.invokevirtual 35) 3 79 := ⟨zg_5_3_64.2.2.2.2.2.2.2.1, rfl⟩
theorem zd_5_3_79 : zz_D zy_writeInstruction_5_3 79 (.aload_n 0) 1 80 := ⟨zg_5_3_64.2.2.2.2.2.2.2.2.1, rfl⟩
theorem zd_5_3_80 : zz_D zy_writeInstruction_5_3 80 (.ldc 53) 2 82 := ⟨zg_5_3_64.2.2.2.2.2.2.2.2.2, rfl⟩
theorem zg_5_3_82 : (decode zy_writeInstruction_5_3.2.1 82 = .ok ((.lload_n 1), 1)) ∧ (decode zy_writeInstruction_5_3.2.1 83 = .ok ((.bipush 10), 2)) ∧ (decode zy_writeInstruction_5_3.2.1 85 = .ok ((.invokevirtual 35), 3)) ∧ (decode zy_writeInstruction_5_3.2.1 88 = .ok ((.aload_n 0), 1)) ∧ (decode zy_writeInstruction_5_3.2.1 89 = .ok ((.ldc 55), 2)) ∧ (decode zy_writeInstruction_5_3.2.1 91 = .ok ((.lload_n 1), 1)) ∧ (decode zy_writeInstruction_5_3.2.1 92 = .ok ((.bipush 11), 2)) ∧ (decode zy_writeInstruction_5_3.2.1 94 = .ok ((.invokevirtual 35), 3)) ∧ (decode zy_writeInstruction_5_3.2.1 97 = .ok ((.aload_n 0), 1)) ∧ (decode zy_writeInstruction_5_3.2.1 98 = .ok ((.lload_n 1), 1)) := by decide +kernel
theorem zd_5_3_82 : zz_D zy_writeInstruction_5_3 82 (.lload_n 1) 1 83 := ⟨zg_5_3_82.1, rfl⟩
theorem zd_5_3_83 : zz_D zy_writeInstruction_5_3 83 (.bipush 10) 2 85 := ⟨zg_5_3_82.2.1, rfl⟩
theorem zd_5_3_85 : zz_D zy_writeInstruction_5_3 85 (.invokevirtual 35) 3 88 := ⟨zg_5_3_82.2.2.1, rfl⟩
theorem zd_5_3_88 : zz_D zy_writeInstruction_5_3 88 (.aload_n 0) 1 89 := ⟨zg_5_3_82.2.2.2.1, rfl⟩
theorem zd_5_3_89 : zz_D zy_writeInstruction_5_3 89 (.ldc 55) 2 91 := ⟨zg_5_3_82.2.2.2.2.1, rfl⟩
theorem zd_5_3_91 : zz_D zy_writeInstruction_5_3 91 (.lload_n 1) 1 92 := ⟨zg_5_3_82.2.2.2.2.2.1, rfl⟩
theorem zd_5_3_92 : zz_D zy_writeInstruction_5_3 92 (.bipush 11) 2 94 := ⟨zg_5_3_82.2.2.2.2.2.2.1, rfl⟩
theorem zd_5_3_94 : zz_D zy_writeInstruction_5_3 94 (.invokevirtual 35) 3 97 := ⟨zg_5_3_82.2.2.2.2.2.2.2.1, rfl⟩
theorem zd_5_3_97 : zz_D zy_writeInstruction_5_3 97 (.aload_n 0) 1 98 := ⟨zg_5_3_82.2.2.2.2.2.2.2.2.1, rfl⟩
theorem zd_5_3_98 : zz_D zy_writeInstruction_5_3 98 (.lload_n 1) 1 99 := ⟨zg_5_3_82.2.2.2.2.2.2.2.2.2, rfl⟩
theorem zg_5_3_99 : (decode zy_writeInstruction_5_3.2.1 99 = .ok ((.iconst 1), 1)) ∧ (decode zy_writeInstruction_5_3.2.1 100 = .ok ((.invokestatic 39), 3)) ∧ (decode zy_writeInstruction_5_3.2.1 103 = .ok ((.ldc 57), 2)) ∧ (decode zy_writeInstruction_5_3.2.1 105 = .ok ((.invokevirtual 59), 3)) := by decide +kernel
theorem zd_5_3_99 : zz_D zy_writeInstruction_5_3 99 (.iconst 1) 1 100 := ⟨zg_5_3_99.1, rfl⟩
theorem zd_5_3_100 : zz_D zy_writeInstruction_5_3 100 (.invokestatic 39) 3 103 := ⟨zg_5_3_99.2.1, rfl⟩
theorem zd_5_3_103 : zz_D zy_writeInstruction_5_3 103 (.ldc 57) 2 105 := ⟨zg_5_3_99.2.2.1, rfl⟩
theorem zd_5_3_105 : zz_D zy_writeInstruction_5_3 105 (.invokevirtual 59) 3 108 := ⟨zg_5_3_99.2.2.2, rfl⟩
theorem zg_5_7_0 : (decode zy_addIf_5_7.2.1 0 = .ok ((.iload_n 1), 1)) ∧ (decode zy_addIf_5_7.2.1 1 = .ok ((Instr.ifCond .eq) 8, 3)) ∧ (decode zy_addIf_5_7.2.1 9 = .ok ((.return_), 1)) ∧ (decode zy_addIf_5_7.2.1 4 = .ok ((.aload_n 0), 1)) ∧ (decode zy_addIf_5_7.2.1 5 = .ok ((.aload_n 2), 1)) ∧ (decode zy_addIf_5_7.2.1 6 = .ok ((.invokevirtual 29), 3)) := by decide +kernel
theorem zd_5_7_0 : zz_D zy_addIf_5_7 0 (.iload_n 1) 1 1 := ⟨zg_5_7_0.1, rfl⟩
theorem zd_5_7_1 : zz_B zy_addIf_5_7 1 (Instr.ifCond .eq) 9 4 := ⟨8, zg_5_7_0.2.1, rfl, rfl⟩
theorem zd_5_7_9 : zz_D zy_addIf_5_7 9 (.return_) 1 10 := ⟨zg_5_7_0.2.2.1, rfl⟩
theorem zd_5_7_4 : zz_D zy_addIf_5_7 4 (.aload_n 0) 1 5 := ⟨zg_5_7_0.2.2.2.1, rfl⟩
theorem zd_5_7_5 : zz_D zy_addIf_5_7 5 (.aload_n 2) 1 6 := ⟨zg_5_7_0.2.2.2.2.1, rfl⟩
theorem zd_5_7_6 : zz_D zy_addIf_5_7 6 (.invokevirtual 29) 3 9 := ⟨zg_5_7_0.2.2.2.2.2, rfl⟩
-- TensorForge$Line addIf (ZLjava/lang/String;)V
abbrev zr_addIf_5_7 : Room := { frames := 5, cells := 0, slots := 0, locals := 68 }
def zp_addIf_5_7 (p0 : Int) (p1 : Nat) (S0 : zz_S) : zz_S → Prop := fun S => zz_G S ∧ zz_fr [(1077, 1)] [1078] (fun _ _ => False) S0 S
theorem zc_addIf_5_7 {g : mm_G} {l : Launch} (p0 : Int) (p1 : Nat) (S0 : zz_S) (n : Nat) (hn : zz_end ≤ n) (G_S0 : zz_G S0) (hp0 : 0 ≤ p0 ∧ p0 ≤ 1) (hp1 : p1 < 59) : mm_Met g l zy_addIf_5_7 zr_addIf_5_7 [.ref 1077, zi p0, .ref (100 + p1)] (zz_M S0 n) n (zz_QV n (zp_addIf_5_7 p0 p1 S0)) := by
  refine zz_enter (by decide) (Nat.le_of_ble_eq_true rfl) (zz_less (ls1 := [some (.ref 1077), some (zi p0), some (.ref (100 + p1))]) ⟨rfl, ⟨rfl, ⟨rfl, trivial⟩⟩⟩ ?_)
  have F_S0 : zz_fr [(1077, 1)] [1078] (fun _ _ => False) S0 S0 := zz_fr.refl
  refine zz_iload_n (x := p0) rfl zd_5_7_0 ?_
  refine zz_if_eq (by omega) zd_5_7_1 (fun c1 => ?_) (fun c1 => ?_)
  · exact zz_vret zd_5_7_9 rfl (Nat.zero_le _) (Nat.zero_le _) ⟨_, rfl, G_S0, F_S0⟩
  · refine zz_aload_n (x := 1077) rfl zd_5_7_4 ?_
    refine zz_aload_n (x := 100 + p1) rfl zd_5_7_5 ?_
    refine zz_callVV [.ref (100 + p1)] zd_5_7_6 zk_Line_29 zT_1077 (zz_ltn hn rfl) rfl rfl ⟨Nat.le_of_ble_eq_true rfl, Nat.le_of_ble_eq_true rfl⟩ ⟨rfl, rfl⟩ (Nat.zero_le _) (Nat.zero_le _) (zc_addToken_5_10 p1 S0 n hn G_S0 (by omega)) (fun S2 hP => ?_)
    obtain ⟨G_S2, fS2⟩ := hP
    have F_S2 := zz_fr.trans F_S0 fS2 rfl zz_nv
    exact zz_vret zd_5_7_9 rfl (Nat.zero_le _) (Nat.zero_le _) ⟨_, rfl, G_S2, F_S2⟩
theorem zk_Line_59 : mm_Vl "TensorForge$Line" 59 10 2 zy_addIf_5_7 := ⟨zyw_addIf_5_7, (R_Line, F_Line, 2), rfl, mm_tb_1 1293 (by decide +kernel) rfl, mm_tb_1 1295 (by decide +kernel) rfl, mm_tb_s 60 (by decide +kernel) rfl⟩
abbrev zy_addPair_5_8 : mm_Y := (⟨"TensorForge$Line", "addPair", "(Ljava/lang/String;II)V"⟩, prog_5_method_8_code, 4, none)
theorem zyw_addPair_5_8 : mm_Yw zy_addPair_5_8 3 := ⟨mm_tb_1 1286 (by decide +kernel) rfl, mm_tb_1 11 (by decide +kernel) rfl, ⟨by decide, by decide⟩, by decide +kernel⟩
theorem zg_5_3_108 : (decode zy_writeInstruction_5_3.2.1 108 = .ok ((.aload_n 0), 1)) ∧ (decode zy_writeInstruction_5_3.2.1 109 = .ok ((.lload_n 1), 1)) ∧ (decode zy_writeInstruction_5_3.2.1 110 = .ok ((.iconst 2), 1)) ∧ (decode zy_writeInstruction_5_3.2.1 111 = .ok ((.invokestatic 39), 3)) ∧ (decode zy_writeInstruction_5_3.2.1 114 = .ok ((.ldc 63), 2)) ∧ (decode zy_writeInstruction_5_3.2.1 116 = .ok ((.invokevirtual 59), 3)) ∧ (decode zy_writeInstruction_5_3.2.1 119 = .ok ((.aload_n 0), 1)) ∧ (decode zy_writeInstruction_5_3.2.1 120 = .ok ((.lload_n 1), 1)) ∧ (decode zy_writeInstruction_5_3.2.1 121 = .ok ((.iconst 3), 1)) ∧ (decode zy_writeInstruction_5_3.2.1 122 = .ok ((.invokestatic 39), 3)) := by decide +kernel
theorem zd_5_3_108 : zz_D zy_writeInstruction_5_3 108 (.aload_n 0) 1 109 := ⟨zg_5_3_108.1, rfl⟩
theorem zd_5_3_109 : zz_D zy_writeInstruction_5_3 109 (.lload_n 1) 1 110 := ⟨zg_5_3_108.2.1, rfl⟩
theorem zd_5_3_110 : zz_D zy_writeInstruction_5_3 110 (.iconst 2) 1 111 := ⟨zg_5_3_108.2.2.1, rfl⟩
theorem zd_5_3_111 : zz_D zy_writeInstruction_5_3 111 (.invokestatic 39) 3 114 := ⟨zg_5_3_108.2.2.2.1, rfl⟩
theorem zd_5_3_114 : zz_D zy_writeInstruction_5_3 114 (.ldc 63) 2 116 := ⟨zg_5_3_108.2.2.2.2.1, rfl⟩
theorem zd_5_3_116 : zz_D zy_writeInstruction_5_3 116 (.invokevirtual 59) 3 119 := ⟨zg_5_3_108.2.2.2.2.2.1, rfl⟩
theorem zd_5_3_119 : zz_D zy_writeInstruction_5_3 119 (.aload_n 0) 1 120 := ⟨zg_5_3_108.2.2.2.2.2.2.1, rfl⟩
theorem zd_5_3_120 : zz_D zy_writeInstruction_5_3 120 (.lload_n 1) 1 121 := ⟨zg_5_3_108.2.2.2.2.2.2.2.1, rfl⟩
theorem zd_5_3_121 : zz_D zy_writeInstruction_5_3 121 (.iconst 3) 1 122 := ⟨zg_5_3_108.2.2.2.2.2.2.2.2.1, rfl⟩
theorem zd_5_3_122 : zz_D zy_writeInstruction_5_3 122 (.invokestatic 39) 3 125 := ⟨zg_5_3_108.2.2.2.2.2.2.2.2.2, rfl⟩
theorem zg_5_3_125 : (decode zy_writeInstruction_5_3.2.1 125 = .ok ((.ldc 65), 2)) ∧ (decode zy_writeInstruction_5_3.2.1 127 = .ok ((.invokevirtual 59), 3)) ∧ (decode zy_writeInstruction_5_3.2.1 130 = .ok ((.aload_n 0), 1)) ∧ (decode zy_writeInstruction_5_3.2.1 131 = .ok ((.lload_n 1), 1)) ∧ (decode zy_writeInstruction_5_3.2.1 132 = .ok ((.iconst 4), 1)) ∧ (decode zy_writeInstruction_5_3.2.1 133 = .ok ((.invokestatic 39), 3)) ∧ (decode zy_writeInstruction_5_3.2.1 136 = .ok ((.ldc 67), 2)) ∧ (decode zy_writeInstruction_5_3.2.1 138 = .ok ((.invokevirtual 59), 3)) ∧ (decode zy_writeInstruction_5_3.2.1 141 = .ok ((.aload_n 0), 1)) ∧ (decode zy_writeInstruction_5_3.2.1 142 = .ok ((.bipush 10), 2)) := by decide +kernel
theorem zd_5_3_125 : zz_D zy_writeInstruction_5_3 125 (.ldc 65) 2 127 := ⟨zg_5_3_125.1, rfl⟩
theorem zd_5_3_127 : zz_D zy_writeInstruction_5_3 127 (.invokevirtual 59) 3 130 := ⟨zg_5_3_125.2.1, rfl⟩
theorem zd_5_3_130 : zz_D zy_writeInstruction_5_3 130 (.aload_n 0) 1 131 := ⟨zg_5_3_125.2.2.1, rfl⟩
theorem zd_5_3_131 : zz_D zy_writeInstruction_5_3 131 (.lload_n 1) 1 132 := ⟨zg_5_3_125.2.2.2.1, rfl⟩
theorem zd_5_3_132 : zz_D zy_writeInstruction_5_3 132 (.iconst 4) 1 133 := ⟨zg_5_3_125.2.2.2.2.1, rfl⟩
theorem zd_5_3_133 : zz_D zy_writeInstruction_5_3 133 (.invokestatic 39) 3 136 := ⟨zg_5_3_125.2.2.2.2.2.1, rfl⟩
theorem zd_5_3_136 : zz_D zy_writeInstruction_5_3 136 (.ldc 67) 2 138 := ⟨zg_5_3_125.2.2.2.2.2.2.1, rfl⟩
theorem zd_5_3_138 : zz_D zy_writeInstruction_5_3 138 (.invokevirtual 59) 3 141 := ⟨zg_5_3_125.2.2.2.2.2.2.2.1, rfl⟩
theorem zd_5_3_141 : zz_D zy_writeInstruction_5_3 141 (.aload_n 0) 1 142 := ⟨zg_5_3_125.2.2.2.2.2.2.2.2.1, rfl⟩
theorem zd_5_3_142 : zz_D zy_writeInstruction_5_3 142 (.bipush 10) 2 144 := ⟨zg_5_3_125.2.2.2.2.2.2.2.2.2, rfl⟩
theorem zg_5_3_144 : (decode zy_writeInstruction_5_3.2.1 144 = .ok ((.invokevirtual 69), 3)) ∧ (decode zy_writeInstruction_5_3.2.1 147 = .ok ((.return_), 1)) ∧ (decode zy_writeInstruction_5_3.2.1 43 = .ok ((.aload_n 0), 1)) ∧ (decode zy_writeInstruction_5_3.2.1 44 = .ok ((.ldc 43), 2)) ∧ (decode zy_writeInstruction_5_3.2.1 46 = .ok ((.lload_n 1), 1)) ∧ (decode zy_writeInstruction_5_3.2.1 47 = .ok ((.bipush 6), 2)) ∧ (decode zy_writeInstruction_5_3.2.1 49 = .ok ((.invokestatic 21), 3)) ∧ (decode zy_writeInstruction_5_3.2.1 52 = .ok ((.lload_n 1), 1)) ∧ (decode zy_writeInstruction_5_3.2.1 53 = .ok ((.bipush 7), 2)) ∧ (decode zy_writeInstruction_5_3.2.1 55 = .ok ((.invokestatic 21), 3)) := by decide +kernel
theorem zd_5_3_144 : zz_D zy_writeInstruction_5_3 144 (.invokevirtual 69) 3 147 := ⟨zg_5_3_144.1, rfl⟩
theorem zd_5_3_147 : zz_D zy_writeInstruction_5_3 147 (.return_) 1 148 := ⟨zg_5_3_144.2.1, rfl⟩
theorem zd_5_3_43 : zz_D zy_writeInstruction_5_3 43 (.aload_n 0) 1 44 := ⟨zg_5_3_144.2.2.1, rfl⟩
theorem zd_5_3_44 : zz_D zy_writeInstruction_5_3 44 (.ldc 43) 2 46 := ⟨zg_5_3_144.2.2.2.1, rfl⟩
theorem zd_5_3_46 : zz_D zy_writeInstruction_5_3 46 (.lload_n 1) 1 47 := ⟨zg_5_3_144.2.2.2.2.1, rfl⟩
theorem zd_5_3_47 : zz_D zy_writeInstruction_5_3 47 (.bipush 6) 2 49 := ⟨zg_5_3_144.2.2.2.2.2.1, rfl⟩
theorem zd_5_3_49 : zz_D zy_writeInstruction_5_3 49 (.invokestatic 21) 3 52 := ⟨zg_5_3_144.2.2.2.2.2.2.1, rfl⟩
theorem zd_5_3_52 : zz_D zy_writeInstruction_5_3 52 (.lload_n 1) 1 53 := ⟨zg_5_3_144.2.2.2.2.2.2.2.1, rfl⟩
theorem zd_5_3_53 : zz_D zy_writeInstruction_5_3 53 (.bipush 7) 2 55 := ⟨zg_5_3_144.2.2.2.2.2.2.2.2.1, rfl⟩
theorem zd_5_3_55 : zz_D zy_writeInstruction_5_3 55 (.invokestatic 21) 3 58 := ⟨zg_5_3_144.2.2.2.2.2.2.2.2.2, rfl⟩
theorem zd_5_3_58 : zz_D zy_writeInstruction_5_3 58 (.invokevirtual 45) 3 61 := ⟨by decide +kernel, rfl⟩
theorem zg_5_8_0 : (decode zy_addPair_5_8.2.1 0 = .ok ((.aload_n 0), 1)) ∧ (decode zy_addPair_5_8.2.1 1 = .ok ((.aload_n 1), 1)) ∧ (decode zy_addPair_5_8.2.1 2 = .ok ((.iload_n 2), 1)) ∧ (decode zy_addPair_5_8.2.1 3 = .ok ((.invokevirtual 83), 3)) ∧ (decode zy_addPair_5_8.2.1 6 = .ok ((.aload_n 0), 1)) ∧ (decode zy_addPair_5_8.2.1 7 = .ok ((.ldc 120), 2)) ∧ (decode zy_addPair_5_8.2.1 9 = .ok ((.iload_n 3), 1)) ∧ (decode zy_addPair_5_8.2.1 10 = .ok ((.invokevirtual 83), 3)) ∧ (decode zy_addPair_5_8.2.1 13 = .ok ((.return_), 1)) := by decide +kernel
theorem zd_5_8_0 : zz_D zy_addPair_5_8 0 (.aload_n 0) 1 1 := ⟨zg_5_8_0.1, rfl⟩
theorem zd_5_8_1 : zz_D zy_addPair_5_8 1 (.aload_n 1) 1 2 := ⟨zg_5_8_0.2.1, rfl⟩
theorem zd_5_8_2 : zz_D zy_addPair_5_8 2 (.iload_n 2) 1 3 := ⟨zg_5_8_0.2.2.1, rfl⟩
theorem zd_5_8_3 : zz_D zy_addPair_5_8 3 (.invokevirtual 83) 3 6 := ⟨zg_5_8_0.2.2.2.1, rfl⟩
theorem zd_5_8_6 : zz_D zy_addPair_5_8 6 (.aload_n 0) 1 7 := ⟨zg_5_8_0.2.2.2.2.1, rfl⟩
theorem zd_5_8_7 : zz_D zy_addPair_5_8 7 (.ldc 120) 2 9 := ⟨zg_5_8_0.2.2.2.2.2.1, rfl⟩
theorem zd_5_8_9 : zz_D zy_addPair_5_8 9 (.iload_n 3) 1 10 := ⟨zg_5_8_0.2.2.2.2.2.2.1, rfl⟩
theorem zd_5_8_10 : zz_D zy_addPair_5_8 10 (.invokevirtual 83) 3 13 := ⟨zg_5_8_0.2.2.2.2.2.2.2.1, rfl⟩
theorem zd_5_8_13 : zz_D zy_addPair_5_8 13 (.return_) 1 14 := ⟨zg_5_8_0.2.2.2.2.2.2.2.2, rfl⟩
-- TensorForge$Line addPair (Ljava/lang/String;II)V
abbrev zr_addPair_5_8 : Room := { frames := 6, cells := 0, slots := 0, locals := 82 }
def zp_addPair_5_8 (p0 : Nat) (p1 : Int) (p2 : Int) (S0 : zz_S) : zz_S → Prop := fun S => zz_G S ∧ zz_fr [(1077, 1)] [1078] (fun _ _ => False) S0 S
theorem zc_addPair_5_8 {g : mm_G} {l : Launch} (p0 : Nat) (p1 : Int) (p2 : Int) (S0 : zz_S) (n : Nat) (hn : zz_end ≤ n) (G_S0 : zz_G S0) (hp0 : p0 < 59) (hp1 : (-2147483648) ≤ p1 ∧ p1 ≤ 2147483647) (hp2 : (-2147483648) ≤ p2 ∧ p2 ≤ 2147483647) : mm_Met g l zy_addPair_5_8 zr_addPair_5_8 [.ref 1077, .ref (100 + p0), zi p1, zi p2] (zz_M S0 n) n (zz_QV n (zp_addPair_5_8 p0 p1 p2 S0)) := by
  refine zz_enter (by decide) (Nat.le_of_ble_eq_true rfl) (zz_less (ls1 := [some (.ref 1077), some (.ref (100 + p0)), some (zi p1), some (zi p2)]) ⟨rfl, ⟨rfl, ⟨rfl, ⟨rfl, trivial⟩⟩⟩⟩ ?_)
  have F_S0 : zz_fr [(1077, 1)] [1078] (fun _ _ => False) S0 S0 := zz_fr.refl
  refine zz_aload_n (x := 1077) rfl zd_5_8_0 ?_
  refine zz_aload_n (x := 100 + p0) rfl zd_5_8_1 ?_
  refine zz_iload_n (x := p1) rfl zd_5_8_2 ?_
  refine zz_callVV [.ref (100 + p0), zi p1] zd_5_8_3 zk_Line_83 zT_1077 (zz_ltn hn rfl) rfl rfl ⟨Nat.le_of_ble_eq_true rfl, Nat.le_of_ble_eq_true rfl⟩ ⟨rfl, rfl⟩ (Nat.zero_le _) (Nat.zero_le _) (zc_addNumbered_5_9 p0 p1 S0 n hn G_S0 (by omega) (by omega)) (fun S1 hP => ?_)
  obtain ⟨G_S1, fS1⟩ := hP
  have F_S1 := zz_fr.trans F_S0 fS1 rfl zz_nv
  refine zz_aload_n (x := 1077) rfl zd_5_8_6 ?_
  refine zz_ldcs (t := 12) (by decide +kernel) (by decide) zd_5_8_7 ?_
  refine zz_iload_n (x := p2) rfl zd_5_8_9 ?_
  refine zz_callVV [.ref (100 + 12), zi p2] zd_5_8_10 zk_Line_83 zT_1077 (zz_ltn hn rfl) rfl rfl ⟨Nat.le_of_ble_eq_true rfl, Nat.le_of_ble_eq_true rfl⟩ ⟨rfl, rfl⟩ (Nat.zero_le _) (Nat.zero_le _) (zc_addNumbered_5_9 12 p2 S1 n hn G_S1 (by omega) (by omega)) (fun S3 hP => ?_)
  obtain ⟨G_S3, fS3⟩ := hP
  have F_S3 := zz_fr.trans F_S1 fS3 rfl zz_nv
  exact zz_vret zd_5_8_13 rfl (Nat.zero_le _) (Nat.zero_le _) ⟨_, rfl, G_S3, F_S3⟩
theorem zk_Line_45 : mm_Vl "TensorForge$Line" 45 10 3 zy_addPair_5_8 := ⟨zyw_addPair_5_8, (R_Line, F_Line, 2), rfl, mm_tb_1 1283 (by decide +kernel) rfl, mm_tb_1 1285 (by decide +kernel) rfl, mm_tb_s 59 (by decide +kernel) rfl⟩
-- TensorForge$Line writeInstruction (J)V
abbrev zr_writeInstruction_5_3 : Room := { frames := 7, cells := 0, slots := 0, locals := 98 }
def zp_writeInstruction_5_3 (p0 : Int) (S0 : zz_S) : zz_S → Prop := fun S => zz_G S ∧ zz_fr [(1077, 1)] [1078] (fun _ _ => False) S0 S
theorem zc_writeInstruction_5_3 {g : mm_G} {l : Launch} (p0 : Int) (S0 : zz_S) (n : Nat) (hn : zz_end ≤ n) (G_S0 : zz_G S0) (hp0 : (-9223372036854775808) ≤ p0 ∧ p0 ≤ 9223372036854775807) : mm_Met g l zy_writeInstruction_5_3 zr_writeInstruction_5_3 [.ref 1077, zl p0] (zz_M S0 n) n (zz_QV n (zp_writeInstruction_5_3 p0 S0)) := by
  refine zz_enter (by decide) (Nat.le_of_ble_eq_true rfl) (zz_less (ls1 := [some (.ref 1077), some (zl p0), none]) ⟨rfl, ⟨rfl, trivial⟩⟩ ?_)
  have F_S0 : zz_fr [(1077, 1)] [1078] (fun _ _ => False) S0 S0 := zz_fr.refl
  refine zz_aload_n (x := 1077) rfl zd_5_3_0 ?_
  refine zz_iconst zd_5_3_1 ?_
  refine zz_puti zd_5_3_2 zf_Line_15 zT_1077 rfl (zz_ltn hn rfl) (fun S1 qS1 => ?_)
  have G_S1 := zz_G.put G_S0 qS1 0 128 rfl (by omega)
  have F_S1 := zz_fr.puts F_S0 qS1 rfl
  refine zz_aload_n (x := 1077) rfl zd_5_3_5 ?_
  refine zz_lload_n (x := p0) rfl zd_5_3_6 ?_
  refine zz_iconst zd_5_3_7 ?_
  refine zz_callSI [zl p0, zi 0] zd_5_3_8 zk_Line_21 rfl rfl ⟨Nat.le_of_ble_eq_true rfl, Nat.le_of_ble_eq_true rfl⟩ ⟨rfl, rfl⟩ (Nat.zero_le _) (Nat.zero_le _) (zc_get_12_2x_0 p0 S1 n hn G_S1 (by omega)) (fun v3 S2 hP => ?_)
  obtain ⟨rfl, o4, o5⟩ := hP
  subst o5
  refine zz_callSA [zi (zz_fy p0 0 15)] zd_5_3_11 zk_Line_25 rfl rfl ⟨Nat.le_of_ble_eq_true rfl, Nat.le_of_ble_eq_true rfl⟩ ⟨rfl, rfl⟩ (Nat.zero_le _) (Nat.zero_le _) (zc_nameOf_12_12 (zz_fy p0 0 15) S1 n hn G_S1 (by omega)) (fun v7 S6 hP => ?_)
  obtain ⟨rfl, o8⟩ := hP
  obtain ⟨uv7, rfl, huv7⟩ := o8
  refine zz_callVV [.ref (100 + uv7)] zd_5_3_14 zk_Line_29 zT_1077 (zz_ltn hn rfl) rfl rfl ⟨Nat.le_of_ble_eq_true rfl, Nat.le_of_ble_eq_true rfl⟩ ⟨rfl, rfl⟩ (Nat.zero_le _) (Nat.zero_le _) (zc_addToken_5_10 uv7 S1 n hn G_S1 (by omega)) (fun S9 hP => ?_)
  obtain ⟨G_S9, fS9⟩ := hP
  have F_S9 := zz_fr.trans F_S1 fS9 rfl zz_nv
  refine zz_aload_n (x := 1077) rfl zd_5_3_17 ?_
  refine zz_ldcs (t := 10) (by decide +kernel) (by decide) zd_5_3_18 ?_
  refine zz_lload_n (x := p0) rfl zd_5_3_20 ?_
  refine zz_iconst zd_5_3_21 ?_
  refine zz_callVV [.ref (100 + 10), zl p0, zi 5] zd_5_3_22 zk_Line_35 zT_1077 (zz_ltn hn rfl) rfl rfl ⟨Nat.le_of_ble_eq_true rfl, Nat.le_of_ble_eq_true rfl⟩ ⟨rfl, rfl⟩ (Nat.zero_le _) (Nat.zero_le _) (zc_addUnlessNothing_5_6 10 p0 5 S9 n hn G_S9 (by omega) (by omega) (by omega)) (fun S11 hP => ?_)
  obtain ⟨G_S11, fS11⟩ := hP
  have F_S11 := zz_fr.trans F_S9 fS11 rfl zz_nv
  refine zz_lload_n (x := p0) rfl zd_5_3_25 ?_
  refine zz_bipush (by decide) zd_5_3_26 ?_
  refine zz_callSI [zl p0, zi 6] zd_5_3_28 zk_Line_39 rfl rfl ⟨Nat.le_of_ble_eq_true rfl, Nat.le_of_ble_eq_true rfl⟩ ⟨rfl, rfl⟩ (Nat.zero_le _) (Nat.zero_le _) (zc_has_12_3 p0 6 S11 n hn G_S11 (by omega) (by omega)) (fun v14 S13 hP => ?_)
  obtain ⟨rfl, o15⟩ := hP
  rcases (by omega : v14 = 0 ∨ v14 = 1) with rfl | rfl
  · refine zz_if_ne (by omega) zd_5_3_31 (fun c16 => ?_) (fun c16 => ?_)
    · exfalso; omega
    · refine zz_lload_n (x := p0) rfl zd_5_3_34 ?_
      refine zz_bipush (by decide) zd_5_3_35 ?_
      refine zz_callSI [zl p0, zi 7] zd_5_3_37 zk_Line_39 rfl rfl ⟨Nat.le_of_ble_eq_true rfl, Nat.le_of_ble_eq_true rfl⟩ ⟨rfl, rfl⟩ (Nat.zero_le _) (Nat.zero_le _) (zc_has_12_3 p0 7 S11 n hn G_S11 (by omega) (by omega)) (fun v18 S17 hP => ?_)
      obtain ⟨rfl, o19⟩ := hP
      rcases (by omega : v18 = 0 ∨ v18 = 1) with rfl | rfl
      · refine zz_if_eq (by omega) zd_5_3_40 (fun c20 => ?_) (fun c20 => ?_)
        · refine zz_aload_n (x := 1077) rfl zd_5_3_61 ?_
          refine zz_ldcs (t := 13) (by decide +kernel) (by decide) zd_5_3_62 ?_
          refine zz_lload_n (x := p0) rfl zd_5_3_64 ?_
          refine zz_bipush (by decide) zd_5_3_65 ?_
          refine zz_callVV [.ref (100 + 13), zl p0, zi 8] zd_5_3_67 zk_Line_35 zT_1077 (zz_ltn hn rfl) rfl rfl ⟨Nat.le_of_ble_eq_true rfl, Nat.le_of_ble_eq_true rfl⟩ ⟨rfl, rfl⟩ (Nat.zero_le _) (Nat.zero_le _) (zc_addUnlessNothing_5_6 13 p0 8 S11 n hn G_S11 (by omega) (by omega) (by omega)) (fun S21 hP => ?_)
          obtain ⟨G_S21, fS21⟩ := hP
          have F_S21 := zz_fr.trans F_S11 fS21 rfl zz_nv
          refine zz_aload_n (x := 1077) rfl zd_5_3_70 ?_
          refine zz_ldcs (t := 14) (by decide +kernel) (by decide) zd_5_3_71 ?_
          refine zz_lload_n (x := p0) rfl zd_5_3_73 ?_
          refine zz_bipush (by decide) zd_5_3_74 ?_
          refine zz_callVV [.ref (100 + 14), zl p0, zi 9] zd_5_3_76 zk_Line_35 zT_1077 (zz_ltn hn rfl) rfl rfl ⟨Nat.le_of_ble_eq_true rfl, Nat.le_of_ble_eq_true rfl⟩ ⟨rfl, rfl⟩ (Nat.zero_le _) (Nat.zero_le _) (zc_addUnlessNothing_5_6 14 p0 9 S21 n hn G_S21 (by omega) (by omega) (by omega)) (fun S23 hP => ?_)
          obtain ⟨G_S23, fS23⟩ := hP
          have F_S23 := zz_fr.trans F_S21 fS23 rfl zz_nv
          refine zz_aload_n (x := 1077) rfl zd_5_3_79 ?_
          refine zz_ldcs (t := 15) (by decide +kernel) (by decide) zd_5_3_80 ?_
          refine zz_lload_n (x := p0) rfl zd_5_3_82 ?_
          refine zz_bipush (by decide) zd_5_3_83 ?_
          refine zz_callVV [.ref (100 + 15), zl p0, zi 10] zd_5_3_85 zk_Line_35 zT_1077 (zz_ltn hn rfl) rfl rfl ⟨Nat.le_of_ble_eq_true rfl, Nat.le_of_ble_eq_true rfl⟩ ⟨rfl, rfl⟩ (Nat.zero_le _) (Nat.zero_le _) (zc_addUnlessNothing_5_6 15 p0 10 S23 n hn G_S23 (by omega) (by omega) (by omega)) (fun S25 hP => ?_)
          obtain ⟨G_S25, fS25⟩ := hP
          have F_S25 := zz_fr.trans F_S23 fS25 rfl zz_nv
          refine zz_aload_n (x := 1077) rfl zd_5_3_88 ?_
          refine zz_ldcs (t := 16) (by decide +kernel) (by decide) zd_5_3_89 ?_
          refine zz_lload_n (x := p0) rfl zd_5_3_91 ?_
          refine zz_bipush (by decide) zd_5_3_92 ?_
          refine zz_callVV [.ref (100 + 16), zl p0, zi 11] zd_5_3_94 zk_Line_35 zT_1077 (zz_ltn hn rfl) rfl rfl ⟨Nat.le_of_ble_eq_true rfl, Nat.le_of_ble_eq_true rfl⟩ ⟨rfl, rfl⟩ (Nat.zero_le _) (Nat.zero_le _) (zc_addUnlessNothing_5_6 16 p0 11 S25 n hn G_S25 (by omega) (by omega) (by omega)) (fun S27 hP => ?_)
          obtain ⟨G_S27, fS27⟩ := hP
          have F_S27 := zz_fr.trans F_S25 fS27 rfl zz_nv
          refine zz_aload_n (x := 1077) rfl zd_5_3_97 ?_
          refine zz_lload_n (x := p0) rfl zd_5_3_98 ?_
          refine zz_iconst zd_5_3_99 ?_
          refine zz_callSI [zl p0, zi 1] zd_5_3_100 zk_Line_39 rfl rfl ⟨Nat.le_of_ble_eq_true rfl, Nat.le_of_ble_eq_true rfl⟩ ⟨rfl, rfl⟩ (Nat.zero_le _) (Nat.zero_le _) (zc_has_12_3 p0 1 S27 n hn G_S27 (by omega) (by omega)) (fun v30 S29 hP => ?_)
          obtain ⟨rfl, o31⟩ := hP
          rcases (by omega : v30 = 0 ∨ v30 = 1) with rfl | rfl
          · refine zz_ldcs (t := 42) (by decide +kernel) (by decide) zd_5_3_103 ?_
            refine zz_callVV [zi 0, .ref (100 + 42)] zd_5_3_105 zk_Line_59 zT_1077 (zz_ltn hn rfl) rfl rfl ⟨Nat.le_of_ble_eq_true rfl, Nat.le_of_ble_eq_true rfl⟩ ⟨rfl, rfl⟩ (Nat.zero_le _) (Nat.zero_le _) (zc_addIf_5_7 0 42 S27 n hn G_S27 (by omega) (by omega)) (fun S32 hP => ?_)
            obtain ⟨G_S32, fS32⟩ := hP
            have F_S32 := zz_fr.trans F_S27 fS32 rfl zz_nv
            refine zz_aload_n (x := 1077) rfl zd_5_3_108 ?_
            refine zz_lload_n (x := p0) rfl zd_5_3_109 ?_
            refine zz_iconst zd_5_3_110 ?_
            refine zz_callSI [zl p0, zi 2] zd_5_3_111 zk_Line_39 rfl rfl ⟨Nat.le_of_ble_eq_true rfl, Nat.le_of_ble_eq_true rfl⟩ ⟨rfl, rfl⟩ (Nat.zero_le _) (Nat.zero_le _) (zc_has_12_3 p0 2 S32 n hn G_S32 (by omega) (by omega)) (fun v35 S34 hP => ?_)
            obtain ⟨rfl, o36⟩ := hP
            rcases (by omega : v35 = 0 ∨ v35 = 1) with rfl | rfl
            · refine zz_ldcs (t := 43) (by decide +kernel) (by decide) zd_5_3_114 ?_
              refine zz_callVV [zi 0, .ref (100 + 43)] zd_5_3_116 zk_Line_59 zT_1077 (zz_ltn hn rfl) rfl rfl ⟨Nat.le_of_ble_eq_true rfl, Nat.le_of_ble_eq_true rfl⟩ ⟨rfl, rfl⟩ (Nat.zero_le _) (Nat.zero_le _) (zc_addIf_5_7 0 43 S32 n hn G_S32 (by omega) (by omega)) (fun S37 hP => ?_)
              obtain ⟨G_S37, fS37⟩ := hP
              have F_S37 := zz_fr.trans F_S32 fS37 rfl zz_nv
              refine zz_aload_n (x := 1077) rfl zd_5_3_119 ?_
              refine zz_lload_n (x := p0) rfl zd_5_3_120 ?_
              refine zz_iconst zd_5_3_121 ?_
              refine zz_callSI [zl p0, zi 3] zd_5_3_122 zk_Line_39 rfl rfl ⟨Nat.le_of_ble_eq_true rfl, Nat.le_of_ble_eq_true rfl⟩ ⟨rfl, rfl⟩ (Nat.zero_le _) (Nat.zero_le _) (zc_has_12_3 p0 3 S37 n hn G_S37 (by omega) (by omega)) (fun v40 S39 hP => ?_)
              obtain ⟨rfl, o41⟩ := hP
              rcases (by omega : v40 = 0 ∨ v40 = 1) with rfl | rfl
              · refine zz_ldcs (t := 44) (by decide +kernel) (by decide) zd_5_3_125 ?_
                refine zz_callVV [zi 0, .ref (100 + 44)] zd_5_3_127 zk_Line_59 zT_1077 (zz_ltn hn rfl) rfl rfl ⟨Nat.le_of_ble_eq_true rfl, Nat.le_of_ble_eq_true rfl⟩ ⟨rfl, rfl⟩ (Nat.zero_le _) (Nat.zero_le _) (zc_addIf_5_7 0 44 S37 n hn G_S37 (by omega) (by omega)) (fun S42 hP => ?_)
                obtain ⟨G_S42, fS42⟩ := hP
                have F_S42 := zz_fr.trans F_S37 fS42 rfl zz_nv
                refine zz_aload_n (x := 1077) rfl zd_5_3_130 ?_
                refine zz_lload_n (x := p0) rfl zd_5_3_131 ?_
                refine zz_iconst zd_5_3_132 ?_
                refine zz_callSI [zl p0, zi 4] zd_5_3_133 zk_Line_39 rfl rfl ⟨Nat.le_of_ble_eq_true rfl, Nat.le_of_ble_eq_true rfl⟩ ⟨rfl, rfl⟩ (Nat.zero_le _) (Nat.zero_le _) (zc_has_12_3 p0 4 S42 n hn G_S42 (by omega) (by omega)) (fun v45 S44 hP => ?_)
                obtain ⟨rfl, o46⟩ := hP
                rcases (by omega : v45 = 0 ∨ v45 = 1) with rfl | rfl
                · refine zz_ldcs (t := 45) (by decide +kernel) (by decide) zd_5_3_136 ?_
                  refine zz_callVV [zi 0, .ref (100 + 45)] zd_5_3_138 zk_Line_59 zT_1077 (zz_ltn hn rfl) rfl rfl ⟨Nat.le_of_ble_eq_true rfl, Nat.le_of_ble_eq_true rfl⟩ ⟨rfl, rfl⟩ (Nat.zero_le _) (Nat.zero_le _) (zc_addIf_5_7 0 45 S42 n hn G_S42 (by omega) (by omega)) (fun S47 hP => ?_)
                  obtain ⟨G_S47, fS47⟩ := hP
                  have F_S47 := zz_fr.trans F_S42 fS47 rfl zz_nv
                  refine zz_aload_n (x := 1077) rfl zd_5_3_141 ?_
                  refine zz_bipush (by decide) zd_5_3_142 ?_
                  refine zz_callVV [zi 10] zd_5_3_144 zk_Line_69 zT_1077 (zz_ltn hn rfl) rfl rfl ⟨Nat.le_of_ble_eq_true rfl, Nat.le_of_ble_eq_true rfl⟩ ⟨rfl, rfl⟩ (Nat.zero_le _) (Nat.zero_le _) (zc_addSign_5_12 10 S47 n hn G_S47 (by omega)) (fun S49 hP => ?_)
                  obtain ⟨G_S49, fS49⟩ := hP
                  have F_S49 := zz_fr.trans F_S47 fS49 rfl zz_nv
                  exact zz_vret zd_5_3_147 rfl (Nat.zero_le _) (Nat.zero_le _) ⟨_, rfl, G_S49, F_S49⟩
                · refine zz_ldcs (t := 45) (by decide +kernel) (by decide) zd_5_3_136 ?_
                  refine zz_callVV [zi 1, .ref (100 + 45)] zd_5_3_138 zk_Line_59 zT_1077 (zz_ltn hn rfl) rfl rfl ⟨Nat.le_of_ble_eq_true rfl, Nat.le_of_ble_eq_true rfl⟩ ⟨rfl, rfl⟩ (Nat.zero_le _) (Nat.zero_le _) (zc_addIf_5_7 1 45 S42 n hn G_S42 (by omega) (by omega)) (fun S51 hP => ?_)
                  obtain ⟨G_S51, fS51⟩ := hP
                  have F_S51 := zz_fr.trans F_S42 fS51 rfl zz_nv
                  refine zz_aload_n (x := 1077) rfl zd_5_3_141 ?_
                  refine zz_bipush (by decide) zd_5_3_142 ?_
                  refine zz_callVV [zi 10] zd_5_3_144 zk_Line_69 zT_1077 (zz_ltn hn rfl) rfl rfl ⟨Nat.le_of_ble_eq_true rfl, Nat.le_of_ble_eq_true rfl⟩ ⟨rfl, rfl⟩ (Nat.zero_le _) (Nat.zero_le _) (zc_addSign_5_12 10 S51 n hn G_S51 (by omega)) (fun S53 hP => ?_)
                  obtain ⟨G_S53, fS53⟩ := hP
                  have F_S53 := zz_fr.trans F_S51 fS53 rfl zz_nv
                  exact zz_vret zd_5_3_147 rfl (Nat.zero_le _) (Nat.zero_le _) ⟨_, rfl, G_S53, F_S53⟩
              · refine zz_ldcs (t := 44) (by decide +kernel) (by decide) zd_5_3_125 ?_
                refine zz_callVV [zi 1, .ref (100 + 44)] zd_5_3_127 zk_Line_59 zT_1077 (zz_ltn hn rfl) rfl rfl ⟨Nat.le_of_ble_eq_true rfl, Nat.le_of_ble_eq_true rfl⟩ ⟨rfl, rfl⟩ (Nat.zero_le _) (Nat.zero_le _) (zc_addIf_5_7 1 44 S37 n hn G_S37 (by omega) (by omega)) (fun S55 hP => ?_)
                obtain ⟨G_S55, fS55⟩ := hP
                have F_S55 := zz_fr.trans F_S37 fS55 rfl zz_nv
                refine zz_aload_n (x := 1077) rfl zd_5_3_130 ?_
                refine zz_lload_n (x := p0) rfl zd_5_3_131 ?_
                refine zz_iconst zd_5_3_132 ?_
                refine zz_callSI [zl p0, zi 4] zd_5_3_133 zk_Line_39 rfl rfl ⟨Nat.le_of_ble_eq_true rfl, Nat.le_of_ble_eq_true rfl⟩ ⟨rfl, rfl⟩ (Nat.zero_le _) (Nat.zero_le _) (zc_has_12_3 p0 4 S55 n hn G_S55 (by omega) (by omega)) (fun v58 S57 hP => ?_)
                obtain ⟨rfl, o59⟩ := hP
                rcases (by omega : v58 = 0 ∨ v58 = 1) with rfl | rfl
                · refine zz_ldcs (t := 45) (by decide +kernel) (by decide) zd_5_3_136 ?_
                  refine zz_callVV [zi 0, .ref (100 + 45)] zd_5_3_138 zk_Line_59 zT_1077 (zz_ltn hn rfl) rfl rfl ⟨Nat.le_of_ble_eq_true rfl, Nat.le_of_ble_eq_true rfl⟩ ⟨rfl, rfl⟩ (Nat.zero_le _) (Nat.zero_le _) (zc_addIf_5_7 0 45 S55 n hn G_S55 (by omega) (by omega)) (fun S60 hP => ?_)
                  obtain ⟨G_S60, fS60⟩ := hP
                  have F_S60 := zz_fr.trans F_S55 fS60 rfl zz_nv
                  refine zz_aload_n (x := 1077) rfl zd_5_3_141 ?_
                  refine zz_bipush (by decide) zd_5_3_142 ?_
                  refine zz_callVV [zi 10] zd_5_3_144 zk_Line_69 zT_1077 (zz_ltn hn rfl) rfl rfl ⟨Nat.le_of_ble_eq_true rfl, Nat.le_of_ble_eq_true rfl⟩ ⟨rfl, rfl⟩ (Nat.zero_le _) (Nat.zero_le _) (zc_addSign_5_12 10 S60 n hn G_S60 (by omega)) (fun S62 hP => ?_)
                  obtain ⟨G_S62, fS62⟩ := hP
                  have F_S62 := zz_fr.trans F_S60 fS62 rfl zz_nv
                  exact zz_vret zd_5_3_147 rfl (Nat.zero_le _) (Nat.zero_le _) ⟨_, rfl, G_S62, F_S62⟩
                · refine zz_ldcs (t := 45) (by decide +kernel) (by decide) zd_5_3_136 ?_
                  refine zz_callVV [zi 1, .ref (100 + 45)] zd_5_3_138 zk_Line_59 zT_1077 (zz_ltn hn rfl) rfl rfl ⟨Nat.le_of_ble_eq_true rfl, Nat.le_of_ble_eq_true rfl⟩ ⟨rfl, rfl⟩ (Nat.zero_le _) (Nat.zero_le _) (zc_addIf_5_7 1 45 S55 n hn G_S55 (by omega) (by omega)) (fun S64 hP => ?_)
                  obtain ⟨G_S64, fS64⟩ := hP
                  have F_S64 := zz_fr.trans F_S55 fS64 rfl zz_nv
                  refine zz_aload_n (x := 1077) rfl zd_5_3_141 ?_
                  refine zz_bipush (by decide) zd_5_3_142 ?_
                  refine zz_callVV [zi 10] zd_5_3_144 zk_Line_69 zT_1077 (zz_ltn hn rfl) rfl rfl ⟨Nat.le_of_ble_eq_true rfl, Nat.le_of_ble_eq_true rfl⟩ ⟨rfl, rfl⟩ (Nat.zero_le _) (Nat.zero_le _) (zc_addSign_5_12 10 S64 n hn G_S64 (by omega)) (fun S66 hP => ?_)
                  obtain ⟨G_S66, fS66⟩ := hP
                  have F_S66 := zz_fr.trans F_S64 fS66 rfl zz_nv
                  exact zz_vret zd_5_3_147 rfl (Nat.zero_le _) (Nat.zero_le _) ⟨_, rfl, G_S66, F_S66⟩
            · refine zz_ldcs (t := 43) (by decide +kernel) (by decide) zd_5_3_114 ?_
              refine zz_callVV [zi 1, .ref (100 + 43)] zd_5_3_116 zk_Line_59 zT_1077 (zz_ltn hn rfl) rfl rfl ⟨Nat.le_of_ble_eq_true rfl, Nat.le_of_ble_eq_true rfl⟩ ⟨rfl, rfl⟩ (Nat.zero_le _) (Nat.zero_le _) (zc_addIf_5_7 1 43 S32 n hn G_S32 (by omega) (by omega)) (fun S68 hP => ?_)
              obtain ⟨G_S68, fS68⟩ := hP
              have F_S68 := zz_fr.trans F_S32 fS68 rfl zz_nv
              refine zz_aload_n (x := 1077) rfl zd_5_3_119 ?_
              refine zz_lload_n (x := p0) rfl zd_5_3_120 ?_
              refine zz_iconst zd_5_3_121 ?_
              refine zz_callSI [zl p0, zi 3] zd_5_3_122 zk_Line_39 rfl rfl ⟨Nat.le_of_ble_eq_true rfl, Nat.le_of_ble_eq_true rfl⟩ ⟨rfl, rfl⟩ (Nat.zero_le _) (Nat.zero_le _) (zc_has_12_3 p0 3 S68 n hn G_S68 (by omega) (by omega)) (fun v71 S70 hP => ?_)
              obtain ⟨rfl, o72⟩ := hP
              rcases (by omega : v71 = 0 ∨ v71 = 1) with rfl | rfl
              · refine zz_ldcs (t := 44) (by decide +kernel) (by decide) zd_5_3_125 ?_
                refine zz_callVV [zi 0, .ref (100 + 44)] zd_5_3_127 zk_Line_59 zT_1077 (zz_ltn hn rfl) rfl rfl ⟨Nat.le_of_ble_eq_true rfl, Nat.le_of_ble_eq_true rfl⟩ ⟨rfl, rfl⟩ (Nat.zero_le _) (Nat.zero_le _) (zc_addIf_5_7 0 44 S68 n hn G_S68 (by omega) (by omega)) (fun S73 hP => ?_)
                obtain ⟨G_S73, fS73⟩ := hP
                have F_S73 := zz_fr.trans F_S68 fS73 rfl zz_nv
                refine zz_aload_n (x := 1077) rfl zd_5_3_130 ?_
                refine zz_lload_n (x := p0) rfl zd_5_3_131 ?_
                refine zz_iconst zd_5_3_132 ?_
                refine zz_callSI [zl p0, zi 4] zd_5_3_133 zk_Line_39 rfl rfl ⟨Nat.le_of_ble_eq_true rfl, Nat.le_of_ble_eq_true rfl⟩ ⟨rfl, rfl⟩ (Nat.zero_le _) (Nat.zero_le _) (zc_has_12_3 p0 4 S73 n hn G_S73 (by omega) (by omega)) (fun v76 S75 hP => ?_)
                obtain ⟨rfl, o77⟩ := hP
                rcases (by omega : v76 = 0 ∨ v76 = 1) with rfl | rfl
                · refine zz_ldcs (t := 45) (by decide +kernel) (by decide) zd_5_3_136 ?_
                  refine zz_callVV [zi 0, .ref (100 + 45)] zd_5_3_138 zk_Line_59 zT_1077 (zz_ltn hn rfl) rfl rfl ⟨Nat.le_of_ble_eq_true rfl, Nat.le_of_ble_eq_true rfl⟩ ⟨rfl, rfl⟩ (Nat.zero_le _) (Nat.zero_le _) (zc_addIf_5_7 0 45 S73 n hn G_S73 (by omega) (by omega)) (fun S78 hP => ?_)
                  obtain ⟨G_S78, fS78⟩ := hP
                  have F_S78 := zz_fr.trans F_S73 fS78 rfl zz_nv
                  refine zz_aload_n (x := 1077) rfl zd_5_3_141 ?_
                  refine zz_bipush (by decide) zd_5_3_142 ?_
                  refine zz_callVV [zi 10] zd_5_3_144 zk_Line_69 zT_1077 (zz_ltn hn rfl) rfl rfl ⟨Nat.le_of_ble_eq_true rfl, Nat.le_of_ble_eq_true rfl⟩ ⟨rfl, rfl⟩ (Nat.zero_le _) (Nat.zero_le _) (zc_addSign_5_12 10 S78 n hn G_S78 (by omega)) (fun S80 hP => ?_)
                  obtain ⟨G_S80, fS80⟩ := hP
                  have F_S80 := zz_fr.trans F_S78 fS80 rfl zz_nv
                  exact zz_vret zd_5_3_147 rfl (Nat.zero_le _) (Nat.zero_le _) ⟨_, rfl, G_S80, F_S80⟩
                · refine zz_ldcs (t := 45) (by decide +kernel) (by decide) zd_5_3_136 ?_
                  refine zz_callVV [zi 1, .ref (100 + 45)] zd_5_3_138 zk_Line_59 zT_1077 (zz_ltn hn rfl) rfl rfl ⟨Nat.le_of_ble_eq_true rfl, Nat.le_of_ble_eq_true rfl⟩ ⟨rfl, rfl⟩ (Nat.zero_le _) (Nat.zero_le _) (zc_addIf_5_7 1 45 S73 n hn G_S73 (by omega) (by omega)) (fun S82 hP => ?_)
                  obtain ⟨G_S82, fS82⟩ := hP
                  have F_S82 := zz_fr.trans F_S73 fS82 rfl zz_nv
                  refine zz_aload_n (x := 1077) rfl zd_5_3_141 ?_
                  refine zz_bipush (by decide) zd_5_3_142 ?_
                  refine zz_callVV [zi 10] zd_5_3_144 zk_Line_69 zT_1077 (zz_ltn hn rfl) rfl rfl ⟨Nat.le_of_ble_eq_true rfl, Nat.le_of_ble_eq_true rfl⟩ ⟨rfl, rfl⟩ (Nat.zero_le _) (Nat.zero_le _) (zc_addSign_5_12 10 S82 n hn G_S82 (by omega)) (fun S84 hP => ?_)
                  obtain ⟨G_S84, fS84⟩ := hP
                  have F_S84 := zz_fr.trans F_S82 fS84 rfl zz_nv
                  exact zz_vret zd_5_3_147 rfl (Nat.zero_le _) (Nat.zero_le _) ⟨_, rfl, G_S84, F_S84⟩
              · refine zz_ldcs (t := 44) (by decide +kernel) (by decide) zd_5_3_125 ?_
                refine zz_callVV [zi 1, .ref (100 + 44)] zd_5_3_127 zk_Line_59 zT_1077 (zz_ltn hn rfl) rfl rfl ⟨Nat.le_of_ble_eq_true rfl, Nat.le_of_ble_eq_true rfl⟩ ⟨rfl, rfl⟩ (Nat.zero_le _) (Nat.zero_le _) (zc_addIf_5_7 1 44 S68 n hn G_S68 (by omega) (by omega)) (fun S86 hP => ?_)
                obtain ⟨G_S86, fS86⟩ := hP
                have F_S86 := zz_fr.trans F_S68 fS86 rfl zz_nv
                refine zz_aload_n (x := 1077) rfl zd_5_3_130 ?_
                refine zz_lload_n (x := p0) rfl zd_5_3_131 ?_
                refine zz_iconst zd_5_3_132 ?_
                refine zz_callSI [zl p0, zi 4] zd_5_3_133 zk_Line_39 rfl rfl ⟨Nat.le_of_ble_eq_true rfl, Nat.le_of_ble_eq_true rfl⟩ ⟨rfl, rfl⟩ (Nat.zero_le _) (Nat.zero_le _) (zc_has_12_3 p0 4 S86 n hn G_S86 (by omega) (by omega)) (fun v89 S88 hP => ?_)
                obtain ⟨rfl, o90⟩ := hP
                rcases (by omega : v89 = 0 ∨ v89 = 1) with rfl | rfl
                · refine zz_ldcs (t := 45) (by decide +kernel) (by decide) zd_5_3_136 ?_
                  refine zz_callVV [zi 0, .ref (100 + 45)] zd_5_3_138 zk_Line_59 zT_1077 (zz_ltn hn rfl) rfl rfl ⟨Nat.le_of_ble_eq_true rfl, Nat.le_of_ble_eq_true rfl⟩ ⟨rfl, rfl⟩ (Nat.zero_le _) (Nat.zero_le _) (zc_addIf_5_7 0 45 S86 n hn G_S86 (by omega) (by omega)) (fun S91 hP => ?_)
                  obtain ⟨G_S91, fS91⟩ := hP
                  have F_S91 := zz_fr.trans F_S86 fS91 rfl zz_nv
                  refine zz_aload_n (x := 1077) rfl zd_5_3_141 ?_
                  refine zz_bipush (by decide) zd_5_3_142 ?_
                  refine zz_callVV [zi 10] zd_5_3_144 zk_Line_69 zT_1077 (zz_ltn hn rfl) rfl rfl ⟨Nat.le_of_ble_eq_true rfl, Nat.le_of_ble_eq_true rfl⟩ ⟨rfl, rfl⟩ (Nat.zero_le _) (Nat.zero_le _) (zc_addSign_5_12 10 S91 n hn G_S91 (by omega)) (fun S93 hP => ?_)
                  obtain ⟨G_S93, fS93⟩ := hP
                  have F_S93 := zz_fr.trans F_S91 fS93 rfl zz_nv
                  exact zz_vret zd_5_3_147 rfl (Nat.zero_le _) (Nat.zero_le _) ⟨_, rfl, G_S93, F_S93⟩
                · refine zz_ldcs (t := 45) (by decide +kernel) (by decide) zd_5_3_136 ?_
                  refine zz_callVV [zi 1, .ref (100 + 45)] zd_5_3_138 zk_Line_59 zT_1077 (zz_ltn hn rfl) rfl rfl ⟨Nat.le_of_ble_eq_true rfl, Nat.le_of_ble_eq_true rfl⟩ ⟨rfl, rfl⟩ (Nat.zero_le _) (Nat.zero_le _) (zc_addIf_5_7 1 45 S86 n hn G_S86 (by omega) (by omega)) (fun S95 hP => ?_)
                  obtain ⟨G_S95, fS95⟩ := hP
                  have F_S95 := zz_fr.trans F_S86 fS95 rfl zz_nv
                  refine zz_aload_n (x := 1077) rfl zd_5_3_141 ?_
                  refine zz_bipush (by decide) zd_5_3_142 ?_
                  refine zz_callVV [zi 10] zd_5_3_144 zk_Line_69 zT_1077 (zz_ltn hn rfl) rfl rfl ⟨Nat.le_of_ble_eq_true rfl, Nat.le_of_ble_eq_true rfl⟩ ⟨rfl, rfl⟩ (Nat.zero_le _) (Nat.zero_le _) (zc_addSign_5_12 10 S95 n hn G_S95 (by omega)) (fun S97 hP => ?_)
                  obtain ⟨G_S97, fS97⟩ := hP
                  have F_S97 := zz_fr.trans F_S95 fS97 rfl zz_nv
                  exact zz_vret zd_5_3_147 rfl (Nat.zero_le _) (Nat.zero_le _) ⟨_, rfl, G_S97, F_S97⟩
          · refine zz_ldcs (t := 42) (by decide +kernel) (by decide) zd_5_3_103 ?_
            refine zz_callVV [zi 1, .ref (100 + 42)] zd_5_3_105 zk_Line_59 zT_1077 (zz_ltn hn rfl) rfl rfl ⟨Nat.le_of_ble_eq_true rfl, Nat.le_of_ble_eq_true rfl⟩ ⟨rfl, rfl⟩ (Nat.zero_le _) (Nat.zero_le _) (zc_addIf_5_7 1 42 S27 n hn G_S27 (by omega) (by omega)) (fun S99 hP => ?_)
            obtain ⟨G_S99, fS99⟩ := hP
            have F_S99 := zz_fr.trans F_S27 fS99 rfl zz_nv
            refine zz_aload_n (x := 1077) rfl zd_5_3_108 ?_
            refine zz_lload_n (x := p0) rfl zd_5_3_109 ?_
            refine zz_iconst zd_5_3_110 ?_
            refine zz_callSI [zl p0, zi 2] zd_5_3_111 zk_Line_39 rfl rfl ⟨Nat.le_of_ble_eq_true rfl, Nat.le_of_ble_eq_true rfl⟩ ⟨rfl, rfl⟩ (Nat.zero_le _) (Nat.zero_le _) (zc_has_12_3 p0 2 S99 n hn G_S99 (by omega) (by omega)) (fun v102 S101 hP => ?_)
            obtain ⟨rfl, o103⟩ := hP
            rcases (by omega : v102 = 0 ∨ v102 = 1) with rfl | rfl
            · refine zz_ldcs (t := 43) (by decide +kernel) (by decide) zd_5_3_114 ?_
              refine zz_callVV [zi 0, .ref (100 + 43)] zd_5_3_116 zk_Line_59 zT_1077 (zz_ltn hn rfl) rfl rfl ⟨Nat.le_of_ble_eq_true rfl, Nat.le_of_ble_eq_true rfl⟩ ⟨rfl, rfl⟩ (Nat.zero_le _) (Nat.zero_le _) (zc_addIf_5_7 0 43 S99 n hn G_S99 (by omega) (by omega)) (fun S104 hP => ?_)
              obtain ⟨G_S104, fS104⟩ := hP
              have F_S104 := zz_fr.trans F_S99 fS104 rfl zz_nv
              refine zz_aload_n (x := 1077) rfl zd_5_3_119 ?_
              refine zz_lload_n (x := p0) rfl zd_5_3_120 ?_
              refine zz_iconst zd_5_3_121 ?_
              refine zz_callSI [zl p0, zi 3] zd_5_3_122 zk_Line_39 rfl rfl ⟨Nat.le_of_ble_eq_true rfl, Nat.le_of_ble_eq_true rfl⟩ ⟨rfl, rfl⟩ (Nat.zero_le _) (Nat.zero_le _) (zc_has_12_3 p0 3 S104 n hn G_S104 (by omega) (by omega)) (fun v107 S106 hP => ?_)
              obtain ⟨rfl, o108⟩ := hP
              rcases (by omega : v107 = 0 ∨ v107 = 1) with rfl | rfl
              · refine zz_ldcs (t := 44) (by decide +kernel) (by decide) zd_5_3_125 ?_
                refine zz_callVV [zi 0, .ref (100 + 44)] zd_5_3_127 zk_Line_59 zT_1077 (zz_ltn hn rfl) rfl rfl ⟨Nat.le_of_ble_eq_true rfl, Nat.le_of_ble_eq_true rfl⟩ ⟨rfl, rfl⟩ (Nat.zero_le _) (Nat.zero_le _) (zc_addIf_5_7 0 44 S104 n hn G_S104 (by omega) (by omega)) (fun S109 hP => ?_)
                obtain ⟨G_S109, fS109⟩ := hP
                have F_S109 := zz_fr.trans F_S104 fS109 rfl zz_nv
                refine zz_aload_n (x := 1077) rfl zd_5_3_130 ?_
                refine zz_lload_n (x := p0) rfl zd_5_3_131 ?_
                refine zz_iconst zd_5_3_132 ?_
                refine zz_callSI [zl p0, zi 4] zd_5_3_133 zk_Line_39 rfl rfl ⟨Nat.le_of_ble_eq_true rfl, Nat.le_of_ble_eq_true rfl⟩ ⟨rfl, rfl⟩ (Nat.zero_le _) (Nat.zero_le _) (zc_has_12_3 p0 4 S109 n hn G_S109 (by omega) (by omega)) (fun v112 S111 hP => ?_)
                obtain ⟨rfl, o113⟩ := hP
                rcases (by omega : v112 = 0 ∨ v112 = 1) with rfl | rfl
                · refine zz_ldcs (t := 45) (by decide +kernel) (by decide) zd_5_3_136 ?_
                  refine zz_callVV [zi 0, .ref (100 + 45)] zd_5_3_138 zk_Line_59 zT_1077 (zz_ltn hn rfl) rfl rfl ⟨Nat.le_of_ble_eq_true rfl, Nat.le_of_ble_eq_true rfl⟩ ⟨rfl, rfl⟩ (Nat.zero_le _) (Nat.zero_le _) (zc_addIf_5_7 0 45 S109 n hn G_S109 (by omega) (by omega)) (fun S114 hP => ?_)
                  obtain ⟨G_S114, fS114⟩ := hP
                  have F_S114 := zz_fr.trans F_S109 fS114 rfl zz_nv
                  refine zz_aload_n (x := 1077) rfl zd_5_3_141 ?_
                  refine zz_bipush (by decide) zd_5_3_142 ?_
                  refine zz_callVV [zi 10] zd_5_3_144 zk_Line_69 zT_1077 (zz_ltn hn rfl) rfl rfl ⟨Nat.le_of_ble_eq_true rfl, Nat.le_of_ble_eq_true rfl⟩ ⟨rfl, rfl⟩ (Nat.zero_le _) (Nat.zero_le _) (zc_addSign_5_12 10 S114 n hn G_S114 (by omega)) (fun S116 hP => ?_)
                  obtain ⟨G_S116, fS116⟩ := hP
                  have F_S116 := zz_fr.trans F_S114 fS116 rfl zz_nv
                  exact zz_vret zd_5_3_147 rfl (Nat.zero_le _) (Nat.zero_le _) ⟨_, rfl, G_S116, F_S116⟩
                · refine zz_ldcs (t := 45) (by decide +kernel) (by decide) zd_5_3_136 ?_
                  refine zz_callVV [zi 1, .ref (100 + 45)] zd_5_3_138 zk_Line_59 zT_1077 (zz_ltn hn rfl) rfl rfl ⟨Nat.le_of_ble_eq_true rfl, Nat.le_of_ble_eq_true rfl⟩ ⟨rfl, rfl⟩ (Nat.zero_le _) (Nat.zero_le _) (zc_addIf_5_7 1 45 S109 n hn G_S109 (by omega) (by omega)) (fun S118 hP => ?_)
                  obtain ⟨G_S118, fS118⟩ := hP
                  have F_S118 := zz_fr.trans F_S109 fS118 rfl zz_nv
                  refine zz_aload_n (x := 1077) rfl zd_5_3_141 ?_
                  refine zz_bipush (by decide) zd_5_3_142 ?_
                  refine zz_callVV [zi 10] zd_5_3_144 zk_Line_69 zT_1077 (zz_ltn hn rfl) rfl rfl ⟨Nat.le_of_ble_eq_true rfl, Nat.le_of_ble_eq_true rfl⟩ ⟨rfl, rfl⟩ (Nat.zero_le _) (Nat.zero_le _) (zc_addSign_5_12 10 S118 n hn G_S118 (by omega)) (fun S120 hP => ?_)
                  obtain ⟨G_S120, fS120⟩ := hP
                  have F_S120 := zz_fr.trans F_S118 fS120 rfl zz_nv
                  exact zz_vret zd_5_3_147 rfl (Nat.zero_le _) (Nat.zero_le _) ⟨_, rfl, G_S120, F_S120⟩
              · refine zz_ldcs (t := 44) (by decide +kernel) (by decide) zd_5_3_125 ?_
                refine zz_callVV [zi 1, .ref (100 + 44)] zd_5_3_127 zk_Line_59 zT_1077 (zz_ltn hn rfl) rfl rfl ⟨Nat.le_of_ble_eq_true rfl, Nat.le_of_ble_eq_true rfl⟩ ⟨rfl, rfl⟩ (Nat.zero_le _) (Nat.zero_le _) (zc_addIf_5_7 1 44 S104 n hn G_S104 (by omega) (by omega)) (fun S122 hP => ?_)
                obtain ⟨G_S122, fS122⟩ := hP
                have F_S122 := zz_fr.trans F_S104 fS122 rfl zz_nv
                refine zz_aload_n (x := 1077) rfl zd_5_3_130 ?_
                refine zz_lload_n (x := p0) rfl zd_5_3_131 ?_
                refine zz_iconst zd_5_3_132 ?_
                refine zz_callSI [zl p0, zi 4] zd_5_3_133 zk_Line_39 rfl rfl ⟨Nat.le_of_ble_eq_true rfl, Nat.le_of_ble_eq_true rfl⟩ ⟨rfl, rfl⟩ (Nat.zero_le _) (Nat.zero_le _) (zc_has_12_3 p0 4 S122 n hn G_S122 (by omega) (by omega)) (fun v125 S124 hP => ?_)
                obtain ⟨rfl, o126⟩ := hP
                rcases (by omega : v125 = 0 ∨ v125 = 1) with rfl | rfl
                · refine zz_ldcs (t := 45) (by decide +kernel) (by decide) zd_5_3_136 ?_
                  refine zz_callVV [zi 0, .ref (100 + 45)] zd_5_3_138 zk_Line_59 zT_1077 (zz_ltn hn rfl) rfl rfl ⟨Nat.le_of_ble_eq_true rfl, Nat.le_of_ble_eq_true rfl⟩ ⟨rfl, rfl⟩ (Nat.zero_le _) (Nat.zero_le _) (zc_addIf_5_7 0 45 S122 n hn G_S122 (by omega) (by omega)) (fun S127 hP => ?_)
                  obtain ⟨G_S127, fS127⟩ := hP
                  have F_S127 := zz_fr.trans F_S122 fS127 rfl zz_nv
                  refine zz_aload_n (x := 1077) rfl zd_5_3_141 ?_
                  refine zz_bipush (by decide) zd_5_3_142 ?_
                  refine zz_callVV [zi 10] zd_5_3_144 zk_Line_69 zT_1077 (zz_ltn hn rfl) rfl rfl ⟨Nat.le_of_ble_eq_true rfl, Nat.le_of_ble_eq_true rfl⟩ ⟨rfl, rfl⟩ (Nat.zero_le _) (Nat.zero_le _) (zc_addSign_5_12 10 S127 n hn G_S127 (by omega)) (fun S129 hP => ?_)
                  obtain ⟨G_S129, fS129⟩ := hP
                  have F_S129 := zz_fr.trans F_S127 fS129 rfl zz_nv
                  exact zz_vret zd_5_3_147 rfl (Nat.zero_le _) (Nat.zero_le _) ⟨_, rfl, G_S129, F_S129⟩
                · refine zz_ldcs (t := 45) (by decide +kernel) (by decide) zd_5_3_136 ?_
                  refine zz_callVV [zi 1, .ref (100 + 45)] zd_5_3_138 zk_Line_59 zT_1077 (zz_ltn hn rfl) rfl rfl ⟨Nat.le_of_ble_eq_true rfl, Nat.le_of_ble_eq_true rfl⟩ ⟨rfl, rfl⟩ (Nat.zero_le _) (Nat.zero_le _) (zc_addIf_5_7 1 45 S122 n hn G_S122 (by omega) (by omega)) (fun S131 hP => ?_)
                  obtain ⟨G_S131, fS131⟩ := hP
                  have F_S131 := zz_fr.trans F_S122 fS131 rfl zz_nv
                  refine zz_aload_n (x := 1077) rfl zd_5_3_141 ?_
                  refine zz_bipush (by decide) zd_5_3_142 ?_
                  refine zz_callVV [zi 10] zd_5_3_144 zk_Line_69 zT_1077 (zz_ltn hn rfl) rfl rfl ⟨Nat.le_of_ble_eq_true rfl, Nat.le_of_ble_eq_true rfl⟩ ⟨rfl, rfl⟩ (Nat.zero_le _) (Nat.zero_le _) (zc_addSign_5_12 10 S131 n hn G_S131 (by omega)) (fun S133 hP => ?_)
                  obtain ⟨G_S133, fS133⟩ := hP
                  have F_S133 := zz_fr.trans F_S131 fS133 rfl zz_nv
                  exact zz_vret zd_5_3_147 rfl (Nat.zero_le _) (Nat.zero_le _) ⟨_, rfl, G_S133, F_S133⟩
            · refine zz_ldcs (t := 43) (by decide +kernel) (by decide) zd_5_3_114 ?_
              refine zz_callVV [zi 1, .ref (100 + 43)] zd_5_3_116 zk_Line_59 zT_1077 (zz_ltn hn rfl) rfl rfl ⟨Nat.le_of_ble_eq_true rfl, Nat.le_of_ble_eq_true rfl⟩ ⟨rfl, rfl⟩ (Nat.zero_le _) (Nat.zero_le _) (zc_addIf_5_7 1 43 S99 n hn G_S99 (by omega) (by omega)) (fun S135 hP => ?_)
              obtain ⟨G_S135, fS135⟩ := hP
              have F_S135 := zz_fr.trans F_S99 fS135 rfl zz_nv
              refine zz_aload_n (x := 1077) rfl zd_5_3_119 ?_
              refine zz_lload_n (x := p0) rfl zd_5_3_120 ?_
              refine zz_iconst zd_5_3_121 ?_
              refine zz_callSI [zl p0, zi 3] zd_5_3_122 zk_Line_39 rfl rfl ⟨Nat.le_of_ble_eq_true rfl, Nat.le_of_ble_eq_true rfl⟩ ⟨rfl, rfl⟩ (Nat.zero_le _) (Nat.zero_le _) (zc_has_12_3 p0 3 S135 n hn G_S135 (by omega) (by omega)) (fun v138 S137 hP => ?_)
              obtain ⟨rfl, o139⟩ := hP
              rcases (by omega : v138 = 0 ∨ v138 = 1) with rfl | rfl
              · refine zz_ldcs (t := 44) (by decide +kernel) (by decide) zd_5_3_125 ?_
                refine zz_callVV [zi 0, .ref (100 + 44)] zd_5_3_127 zk_Line_59 zT_1077 (zz_ltn hn rfl) rfl rfl ⟨Nat.le_of_ble_eq_true rfl, Nat.le_of_ble_eq_true rfl⟩ ⟨rfl, rfl⟩ (Nat.zero_le _) (Nat.zero_le _) (zc_addIf_5_7 0 44 S135 n hn G_S135 (by omega) (by omega)) (fun S140 hP => ?_)
                obtain ⟨G_S140, fS140⟩ := hP
                have F_S140 := zz_fr.trans F_S135 fS140 rfl zz_nv
                refine zz_aload_n (x := 1077) rfl zd_5_3_130 ?_
                refine zz_lload_n (x := p0) rfl zd_5_3_131 ?_
                refine zz_iconst zd_5_3_132 ?_
                refine zz_callSI [zl p0, zi 4] zd_5_3_133 zk_Line_39 rfl rfl ⟨Nat.le_of_ble_eq_true rfl, Nat.le_of_ble_eq_true rfl⟩ ⟨rfl, rfl⟩ (Nat.zero_le _) (Nat.zero_le _) (zc_has_12_3 p0 4 S140 n hn G_S140 (by omega) (by omega)) (fun v143 S142 hP => ?_)
                obtain ⟨rfl, o144⟩ := hP
                rcases (by omega : v143 = 0 ∨ v143 = 1) with rfl | rfl
                · refine zz_ldcs (t := 45) (by decide +kernel) (by decide) zd_5_3_136 ?_
                  refine zz_callVV [zi 0, .ref (100 + 45)] zd_5_3_138 zk_Line_59 zT_1077 (zz_ltn hn rfl) rfl rfl ⟨Nat.le_of_ble_eq_true rfl, Nat.le_of_ble_eq_true rfl⟩ ⟨rfl, rfl⟩ (Nat.zero_le _) (Nat.zero_le _) (zc_addIf_5_7 0 45 S140 n hn G_S140 (by omega) (by omega)) (fun S145 hP => ?_)
                  obtain ⟨G_S145, fS145⟩ := hP
                  have F_S145 := zz_fr.trans F_S140 fS145 rfl zz_nv
                  refine zz_aload_n (x := 1077) rfl zd_5_3_141 ?_
                  refine zz_bipush (by decide) zd_5_3_142 ?_
                  refine zz_callVV [zi 10] zd_5_3_144 zk_Line_69 zT_1077 (zz_ltn hn rfl) rfl rfl ⟨Nat.le_of_ble_eq_true rfl, Nat.le_of_ble_eq_true rfl⟩ ⟨rfl, rfl⟩ (Nat.zero_le _) (Nat.zero_le _) (zc_addSign_5_12 10 S145 n hn G_S145 (by omega)) (fun S147 hP => ?_)
                  obtain ⟨G_S147, fS147⟩ := hP
                  have F_S147 := zz_fr.trans F_S145 fS147 rfl zz_nv
                  exact zz_vret zd_5_3_147 rfl (Nat.zero_le _) (Nat.zero_le _) ⟨_, rfl, G_S147, F_S147⟩
                · refine zz_ldcs (t := 45) (by decide +kernel) (by decide) zd_5_3_136 ?_
                  refine zz_callVV [zi 1, .ref (100 + 45)] zd_5_3_138 zk_Line_59 zT_1077 (zz_ltn hn rfl) rfl rfl ⟨Nat.le_of_ble_eq_true rfl, Nat.le_of_ble_eq_true rfl⟩ ⟨rfl, rfl⟩ (Nat.zero_le _) (Nat.zero_le _) (zc_addIf_5_7 1 45 S140 n hn G_S140 (by omega) (by omega)) (fun S149 hP => ?_)
                  obtain ⟨G_S149, fS149⟩ := hP
                  have F_S149 := zz_fr.trans F_S140 fS149 rfl zz_nv
                  refine zz_aload_n (x := 1077) rfl zd_5_3_141 ?_
                  refine zz_bipush (by decide) zd_5_3_142 ?_
                  refine zz_callVV [zi 10] zd_5_3_144 zk_Line_69 zT_1077 (zz_ltn hn rfl) rfl rfl ⟨Nat.le_of_ble_eq_true rfl, Nat.le_of_ble_eq_true rfl⟩ ⟨rfl, rfl⟩ (Nat.zero_le _) (Nat.zero_le _) (zc_addSign_5_12 10 S149 n hn G_S149 (by omega)) (fun S151 hP => ?_)
                  obtain ⟨G_S151, fS151⟩ := hP
                  have F_S151 := zz_fr.trans F_S149 fS151 rfl zz_nv
                  exact zz_vret zd_5_3_147 rfl (Nat.zero_le _) (Nat.zero_le _) ⟨_, rfl, G_S151, F_S151⟩
              · refine zz_ldcs (t := 44) (by decide +kernel) (by decide) zd_5_3_125 ?_
                refine zz_callVV [zi 1, .ref (100 + 44)] zd_5_3_127 zk_Line_59 zT_1077 (zz_ltn hn rfl) rfl rfl ⟨Nat.le_of_ble_eq_true rfl, Nat.le_of_ble_eq_true rfl⟩ ⟨rfl, rfl⟩ (Nat.zero_le _) (Nat.zero_le _) (zc_addIf_5_7 1 44 S135 n hn G_S135 (by omega) (by omega)) (fun S153 hP => ?_)
                obtain ⟨G_S153, fS153⟩ := hP
                have F_S153 := zz_fr.trans F_S135 fS153 rfl zz_nv
                refine zz_aload_n (x := 1077) rfl zd_5_3_130 ?_
                refine zz_lload_n (x := p0) rfl zd_5_3_131 ?_
                refine zz_iconst zd_5_3_132 ?_
                refine zz_callSI [zl p0, zi 4] zd_5_3_133 zk_Line_39 rfl rfl ⟨Nat.le_of_ble_eq_true rfl, Nat.le_of_ble_eq_true rfl⟩ ⟨rfl, rfl⟩ (Nat.zero_le _) (Nat.zero_le _) (zc_has_12_3 p0 4 S153 n hn G_S153 (by omega) (by omega)) (fun v156 S155 hP => ?_)
                obtain ⟨rfl, o157⟩ := hP
                rcases (by omega : v156 = 0 ∨ v156 = 1) with rfl | rfl
                · refine zz_ldcs (t := 45) (by decide +kernel) (by decide) zd_5_3_136 ?_
                  refine zz_callVV [zi 0, .ref (100 + 45)] zd_5_3_138 zk_Line_59 zT_1077 (zz_ltn hn rfl) rfl rfl ⟨Nat.le_of_ble_eq_true rfl, Nat.le_of_ble_eq_true rfl⟩ ⟨rfl, rfl⟩ (Nat.zero_le _) (Nat.zero_le _) (zc_addIf_5_7 0 45 S153 n hn G_S153 (by omega) (by omega)) (fun S158 hP => ?_)
                  obtain ⟨G_S158, fS158⟩ := hP
                  have F_S158 := zz_fr.trans F_S153 fS158 rfl zz_nv
                  refine zz_aload_n (x := 1077) rfl zd_5_3_141 ?_
                  refine zz_bipush (by decide) zd_5_3_142 ?_
                  refine zz_callVV [zi 10] zd_5_3_144 zk_Line_69 zT_1077 (zz_ltn hn rfl) rfl rfl ⟨Nat.le_of_ble_eq_true rfl, Nat.le_of_ble_eq_true rfl⟩ ⟨rfl, rfl⟩ (Nat.zero_le _) (Nat.zero_le _) (zc_addSign_5_12 10 S158 n hn G_S158 (by omega)) (fun S160 hP => ?_)
                  obtain ⟨G_S160, fS160⟩ := hP
                  have F_S160 := zz_fr.trans F_S158 fS160 rfl zz_nv
                  exact zz_vret zd_5_3_147 rfl (Nat.zero_le _) (Nat.zero_le _) ⟨_, rfl, G_S160, F_S160⟩
                · refine zz_ldcs (t := 45) (by decide +kernel) (by decide) zd_5_3_136 ?_
                  refine zz_callVV [zi 1, .ref (100 + 45)] zd_5_3_138 zk_Line_59 zT_1077 (zz_ltn hn rfl) rfl rfl ⟨Nat.le_of_ble_eq_true rfl, Nat.le_of_ble_eq_true rfl⟩ ⟨rfl, rfl⟩ (Nat.zero_le _) (Nat.zero_le _) (zc_addIf_5_7 1 45 S153 n hn G_S153 (by omega) (by omega)) (fun S162 hP => ?_)
                  obtain ⟨G_S162, fS162⟩ := hP
                  have F_S162 := zz_fr.trans F_S153 fS162 rfl zz_nv
                  refine zz_aload_n (x := 1077) rfl zd_5_3_141 ?_
                  refine zz_bipush (by decide) zd_5_3_142 ?_
                  refine zz_callVV [zi 10] zd_5_3_144 zk_Line_69 zT_1077 (zz_ltn hn rfl) rfl rfl ⟨Nat.le_of_ble_eq_true rfl, Nat.le_of_ble_eq_true rfl⟩ ⟨rfl, rfl⟩ (Nat.zero_le _) (Nat.zero_le _) (zc_addSign_5_12 10 S162 n hn G_S162 (by omega)) (fun S164 hP => ?_)
                  obtain ⟨G_S164, fS164⟩ := hP
                  have F_S164 := zz_fr.trans F_S162 fS164 rfl zz_nv
                  exact zz_vret zd_5_3_147 rfl (Nat.zero_le _) (Nat.zero_le _) ⟨_, rfl, G_S164, F_S164⟩
        · exfalso; omega
      · refine zz_if_eq (by omega) zd_5_3_40 (fun c166 => ?_) (fun c166 => ?_)
        · exfalso; omega
        · refine zz_aload_n (x := 1077) rfl zd_5_3_43 ?_
          refine zz_ldcs (t := 11) (by decide +kernel) (by decide) zd_5_3_44 ?_
          refine zz_lload_n (x := p0) rfl zd_5_3_46 ?_
          refine zz_bipush (by decide) zd_5_3_47 ?_
          refine zz_callSI [zl p0, zi 6] zd_5_3_49 zk_Line_21 rfl rfl ⟨Nat.le_of_ble_eq_true rfl, Nat.le_of_ble_eq_true rfl⟩ ⟨rfl, rfl⟩ (Nat.zero_le _) (Nat.zero_le _) (zc_get_12_2x_6 p0 S11 n hn G_S11 (by omega)) (fun v168 S167 hP => ?_)
          obtain ⟨rfl, o169, o170⟩ := hP
          subst o170
          refine zz_lload_n (x := p0) rfl zd_5_3_52 ?_
          refine zz_bipush (by decide) zd_5_3_53 ?_
          refine zz_callSI [zl p0, zi 7] zd_5_3_55 zk_Line_21 rfl rfl ⟨Nat.le_of_ble_eq_true rfl, Nat.le_of_ble_eq_true rfl⟩ ⟨rfl, rfl⟩ (Nat.zero_le _) (Nat.zero_le _) (zc_get_12_2x_7 p0 S11 n hn G_S11 (by omega)) (fun v172 S171 hP => ?_)
          obtain ⟨rfl, o173, o174⟩ := hP
          subst o174
          refine zz_callVV [.ref (100 + 11), zi (zz_fy p0 20 63), zi (zz_fy p0 26 31)] zd_5_3_58 zk_Line_45 zT_1077 (zz_ltn hn rfl) rfl rfl ⟨Nat.le_of_ble_eq_true rfl, Nat.le_of_ble_eq_true rfl⟩ ⟨rfl, rfl⟩ (Nat.zero_le _) (Nat.zero_le _) (zc_addPair_5_8 11 (zz_fy p0 20 63) (zz_fy p0 26 31) S11 n hn G_S11 (by omega) (by omega) (by omega)) (fun S175 hP => ?_)
          obtain ⟨G_S175, fS175⟩ := hP
          have F_S175 := zz_fr.trans F_S11 fS175 rfl zz_nv
          refine zz_aload_n (x := 1077) rfl zd_5_3_61 ?_
          refine zz_ldcs (t := 13) (by decide +kernel) (by decide) zd_5_3_62 ?_
          refine zz_lload_n (x := p0) rfl zd_5_3_64 ?_
          refine zz_bipush (by decide) zd_5_3_65 ?_
          refine zz_callVV [.ref (100 + 13), zl p0, zi 8] zd_5_3_67 zk_Line_35 zT_1077 (zz_ltn hn rfl) rfl rfl ⟨Nat.le_of_ble_eq_true rfl, Nat.le_of_ble_eq_true rfl⟩ ⟨rfl, rfl⟩ (Nat.zero_le _) (Nat.zero_le _) (zc_addUnlessNothing_5_6 13 p0 8 S175 n hn G_S175 (by omega) (by omega) (by omega)) (fun S177 hP => ?_)
          obtain ⟨G_S177, fS177⟩ := hP
          have F_S177 := zz_fr.trans F_S175 fS177 rfl zz_nv
          refine zz_aload_n (x := 1077) rfl zd_5_3_70 ?_
          refine zz_ldcs (t := 14) (by decide +kernel) (by decide) zd_5_3_71 ?_
          refine zz_lload_n (x := p0) rfl zd_5_3_73 ?_
          refine zz_bipush (by decide) zd_5_3_74 ?_
          refine zz_callVV [.ref (100 + 14), zl p0, zi 9] zd_5_3_76 zk_Line_35 zT_1077 (zz_ltn hn rfl) rfl rfl ⟨Nat.le_of_ble_eq_true rfl, Nat.le_of_ble_eq_true rfl⟩ ⟨rfl, rfl⟩ (Nat.zero_le _) (Nat.zero_le _) (zc_addUnlessNothing_5_6 14 p0 9 S177 n hn G_S177 (by omega) (by omega) (by omega)) (fun S179 hP => ?_)
          obtain ⟨G_S179, fS179⟩ := hP
          have F_S179 := zz_fr.trans F_S177 fS179 rfl zz_nv
          refine zz_aload_n (x := 1077) rfl zd_5_3_79 ?_
          refine zz_ldcs (t := 15) (by decide +kernel) (by decide) zd_5_3_80 ?_
          refine zz_lload_n (x := p0) rfl zd_5_3_82 ?_
          refine zz_bipush (by decide) zd_5_3_83 ?_
          refine zz_callVV [.ref (100 + 15), zl p0, zi 10] zd_5_3_85 zk_Line_35 zT_1077 (zz_ltn hn rfl) rfl rfl ⟨Nat.le_of_ble_eq_true rfl, Nat.le_of_ble_eq_true rfl⟩ ⟨rfl, rfl⟩ (Nat.zero_le _) (Nat.zero_le _) (zc_addUnlessNothing_5_6 15 p0 10 S179 n hn G_S179 (by omega) (by omega) (by omega)) (fun S181 hP => ?_)
          obtain ⟨G_S181, fS181⟩ := hP
          have F_S181 := zz_fr.trans F_S179 fS181 rfl zz_nv
          refine zz_aload_n (x := 1077) rfl zd_5_3_88 ?_
          refine zz_ldcs (t := 16) (by decide +kernel) (by decide) zd_5_3_89 ?_
          refine zz_lload_n (x := p0) rfl zd_5_3_91 ?_
          refine zz_bipush (by decide) zd_5_3_92 ?_
          refine zz_callVV [.ref (100 + 16), zl p0, zi 11] zd_5_3_94 zk_Line_35 zT_1077 (zz_ltn hn rfl) rfl rfl ⟨Nat.le_of_ble_eq_true rfl, Nat.le_of_ble_eq_true rfl⟩ ⟨rfl, rfl⟩ (Nat.zero_le _) (Nat.zero_le _) (zc_addUnlessNothing_5_6 16 p0 11 S181 n hn G_S181 (by omega) (by omega) (by omega)) (fun S183 hP => ?_)
          obtain ⟨G_S183, fS183⟩ := hP
          have F_S183 := zz_fr.trans F_S181 fS183 rfl zz_nv
          refine zz_aload_n (x := 1077) rfl zd_5_3_97 ?_
          refine zz_lload_n (x := p0) rfl zd_5_3_98 ?_
          refine zz_iconst zd_5_3_99 ?_
          refine zz_callSI [zl p0, zi 1] zd_5_3_100 zk_Line_39 rfl rfl ⟨Nat.le_of_ble_eq_true rfl, Nat.le_of_ble_eq_true rfl⟩ ⟨rfl, rfl⟩ (Nat.zero_le _) (Nat.zero_le _) (zc_has_12_3 p0 1 S183 n hn G_S183 (by omega) (by omega)) (fun v186 S185 hP => ?_)
          obtain ⟨rfl, o187⟩ := hP
          rcases (by omega : v186 = 0 ∨ v186 = 1) with rfl | rfl
          · refine zz_ldcs (t := 42) (by decide +kernel) (by decide) zd_5_3_103 ?_
            refine zz_callVV [zi 0, .ref (100 + 42)] zd_5_3_105 zk_Line_59 zT_1077 (zz_ltn hn rfl) rfl rfl ⟨Nat.le_of_ble_eq_true rfl, Nat.le_of_ble_eq_true rfl⟩ ⟨rfl, rfl⟩ (Nat.zero_le _) (Nat.zero_le _) (zc_addIf_5_7 0 42 S183 n hn G_S183 (by omega) (by omega)) (fun S188 hP => ?_)
            obtain ⟨G_S188, fS188⟩ := hP
            have F_S188 := zz_fr.trans F_S183 fS188 rfl zz_nv
            refine zz_aload_n (x := 1077) rfl zd_5_3_108 ?_
            refine zz_lload_n (x := p0) rfl zd_5_3_109 ?_
            refine zz_iconst zd_5_3_110 ?_
            refine zz_callSI [zl p0, zi 2] zd_5_3_111 zk_Line_39 rfl rfl ⟨Nat.le_of_ble_eq_true rfl, Nat.le_of_ble_eq_true rfl⟩ ⟨rfl, rfl⟩ (Nat.zero_le _) (Nat.zero_le _) (zc_has_12_3 p0 2 S188 n hn G_S188 (by omega) (by omega)) (fun v191 S190 hP => ?_)
            obtain ⟨rfl, o192⟩ := hP
            rcases (by omega : v191 = 0 ∨ v191 = 1) with rfl | rfl
            · refine zz_ldcs (t := 43) (by decide +kernel) (by decide) zd_5_3_114 ?_
              refine zz_callVV [zi 0, .ref (100 + 43)] zd_5_3_116 zk_Line_59 zT_1077 (zz_ltn hn rfl) rfl rfl ⟨Nat.le_of_ble_eq_true rfl, Nat.le_of_ble_eq_true rfl⟩ ⟨rfl, rfl⟩ (Nat.zero_le _) (Nat.zero_le _) (zc_addIf_5_7 0 43 S188 n hn G_S188 (by omega) (by omega)) (fun S193 hP => ?_)
              obtain ⟨G_S193, fS193⟩ := hP
              have F_S193 := zz_fr.trans F_S188 fS193 rfl zz_nv
              refine zz_aload_n (x := 1077) rfl zd_5_3_119 ?_
              refine zz_lload_n (x := p0) rfl zd_5_3_120 ?_
              refine zz_iconst zd_5_3_121 ?_
              refine zz_callSI [zl p0, zi 3] zd_5_3_122 zk_Line_39 rfl rfl ⟨Nat.le_of_ble_eq_true rfl, Nat.le_of_ble_eq_true rfl⟩ ⟨rfl, rfl⟩ (Nat.zero_le _) (Nat.zero_le _) (zc_has_12_3 p0 3 S193 n hn G_S193 (by omega) (by omega)) (fun v196 S195 hP => ?_)
              obtain ⟨rfl, o197⟩ := hP
              rcases (by omega : v196 = 0 ∨ v196 = 1) with rfl | rfl
              · refine zz_ldcs (t := 44) (by decide +kernel) (by decide) zd_5_3_125 ?_
                refine zz_callVV [zi 0, .ref (100 + 44)] zd_5_3_127 zk_Line_59 zT_1077 (zz_ltn hn rfl) rfl rfl ⟨Nat.le_of_ble_eq_true rfl, Nat.le_of_ble_eq_true rfl⟩ ⟨rfl, rfl⟩ (Nat.zero_le _) (Nat.zero_le _) (zc_addIf_5_7 0 44 S193 n hn G_S193 (by omega) (by omega)) (fun S198 hP => ?_)
                obtain ⟨G_S198, fS198⟩ := hP
                have F_S198 := zz_fr.trans F_S193 fS198 rfl zz_nv
                refine zz_aload_n (x := 1077) rfl zd_5_3_130 ?_
                refine zz_lload_n (x := p0) rfl zd_5_3_131 ?_
                refine zz_iconst zd_5_3_132 ?_
                refine zz_callSI [zl p0, zi 4] zd_5_3_133 zk_Line_39 rfl rfl ⟨Nat.le_of_ble_eq_true rfl, Nat.le_of_ble_eq_true rfl⟩ ⟨rfl, rfl⟩ (Nat.zero_le _) (Nat.zero_le _) (zc_has_12_3 p0 4 S198 n hn G_S198 (by omega) (by omega)) (fun v201 S200 hP => ?_)
                obtain ⟨rfl, o202⟩ := hP
                rcases (by omega : v201 = 0 ∨ v201 = 1) with rfl | rfl
                · refine zz_ldcs (t := 45) (by decide +kernel) (by decide) zd_5_3_136 ?_
                  refine zz_callVV [zi 0, .ref (100 + 45)] zd_5_3_138 zk_Line_59 zT_1077 (zz_ltn hn rfl) rfl rfl ⟨Nat.le_of_ble_eq_true rfl, Nat.le_of_ble_eq_true rfl⟩ ⟨rfl, rfl⟩ (Nat.zero_le _) (Nat.zero_le _) (zc_addIf_5_7 0 45 S198 n hn G_S198 (by omega) (by omega)) (fun S203 hP => ?_)
                  obtain ⟨G_S203, fS203⟩ := hP
                  have F_S203 := zz_fr.trans F_S198 fS203 rfl zz_nv
                  refine zz_aload_n (x := 1077) rfl zd_5_3_141 ?_
                  refine zz_bipush (by decide) zd_5_3_142 ?_
                  refine zz_callVV [zi 10] zd_5_3_144 zk_Line_69 zT_1077 (zz_ltn hn rfl) rfl rfl ⟨Nat.le_of_ble_eq_true rfl, Nat.le_of_ble_eq_true rfl⟩ ⟨rfl, rfl⟩ (Nat.zero_le _) (Nat.zero_le _) (zc_addSign_5_12 10 S203 n hn G_S203 (by omega)) (fun S205 hP => ?_)
                  obtain ⟨G_S205, fS205⟩ := hP
                  have F_S205 := zz_fr.trans F_S203 fS205 rfl zz_nv
                  exact zz_vret zd_5_3_147 rfl (Nat.zero_le _) (Nat.zero_le _) ⟨_, rfl, G_S205, F_S205⟩
                · refine zz_ldcs (t := 45) (by decide +kernel) (by decide) zd_5_3_136 ?_
                  refine zz_callVV [zi 1, .ref (100 + 45)] zd_5_3_138 zk_Line_59 zT_1077 (zz_ltn hn rfl) rfl rfl ⟨Nat.le_of_ble_eq_true rfl, Nat.le_of_ble_eq_true rfl⟩ ⟨rfl, rfl⟩ (Nat.zero_le _) (Nat.zero_le _) (zc_addIf_5_7 1 45 S198 n hn G_S198 (by omega) (by omega)) (fun S207 hP => ?_)
                  obtain ⟨G_S207, fS207⟩ := hP
                  have F_S207 := zz_fr.trans F_S198 fS207 rfl zz_nv
                  refine zz_aload_n (x := 1077) rfl zd_5_3_141 ?_
                  refine zz_bipush (by decide) zd_5_3_142 ?_
                  refine zz_callVV [zi 10] zd_5_3_144 zk_Line_69 zT_1077 (zz_ltn hn rfl) rfl rfl ⟨Nat.le_of_ble_eq_true rfl, Nat.le_of_ble_eq_true rfl⟩ ⟨rfl, rfl⟩ (Nat.zero_le _) (Nat.zero_le _) (zc_addSign_5_12 10 S207 n hn G_S207 (by omega)) (fun S209 hP => ?_)
                  obtain ⟨G_S209, fS209⟩ := hP
                  have F_S209 := zz_fr.trans F_S207 fS209 rfl zz_nv
                  exact zz_vret zd_5_3_147 rfl (Nat.zero_le _) (Nat.zero_le _) ⟨_, rfl, G_S209, F_S209⟩
              · refine zz_ldcs (t := 44) (by decide +kernel) (by decide) zd_5_3_125 ?_
                refine zz_callVV [zi 1, .ref (100 + 44)] zd_5_3_127 zk_Line_59 zT_1077 (zz_ltn hn rfl) rfl rfl ⟨Nat.le_of_ble_eq_true rfl, Nat.le_of_ble_eq_true rfl⟩ ⟨rfl, rfl⟩ (Nat.zero_le _) (Nat.zero_le _) (zc_addIf_5_7 1 44 S193 n hn G_S193 (by omega) (by omega)) (fun S211 hP => ?_)
                obtain ⟨G_S211, fS211⟩ := hP
                have F_S211 := zz_fr.trans F_S193 fS211 rfl zz_nv
                refine zz_aload_n (x := 1077) rfl zd_5_3_130 ?_
                refine zz_lload_n (x := p0) rfl zd_5_3_131 ?_
                refine zz_iconst zd_5_3_132 ?_
                refine zz_callSI [zl p0, zi 4] zd_5_3_133 zk_Line_39 rfl rfl ⟨Nat.le_of_ble_eq_true rfl, Nat.le_of_ble_eq_true rfl⟩ ⟨rfl, rfl⟩ (Nat.zero_le _) (Nat.zero_le _) (zc_has_12_3 p0 4 S211 n hn G_S211 (by omega) (by omega)) (fun v214 S213 hP => ?_)
                obtain ⟨rfl, o215⟩ := hP
                rcases (by omega : v214 = 0 ∨ v214 = 1) with rfl | rfl
                · refine zz_ldcs (t := 45) (by decide +kernel) (by decide) zd_5_3_136 ?_
                  refine zz_callVV [zi 0, .ref (100 + 45)] zd_5_3_138 zk_Line_59 zT_1077 (zz_ltn hn rfl) rfl rfl ⟨Nat.le_of_ble_eq_true rfl, Nat.le_of_ble_eq_true rfl⟩ ⟨rfl, rfl⟩ (Nat.zero_le _) (Nat.zero_le _) (zc_addIf_5_7 0 45 S211 n hn G_S211 (by omega) (by omega)) (fun S216 hP => ?_)
                  obtain ⟨G_S216, fS216⟩ := hP
                  have F_S216 := zz_fr.trans F_S211 fS216 rfl zz_nv
                  refine zz_aload_n (x := 1077) rfl zd_5_3_141 ?_
                  refine zz_bipush (by decide) zd_5_3_142 ?_
                  refine zz_callVV [zi 10] zd_5_3_144 zk_Line_69 zT_1077 (zz_ltn hn rfl) rfl rfl ⟨Nat.le_of_ble_eq_true rfl, Nat.le_of_ble_eq_true rfl⟩ ⟨rfl, rfl⟩ (Nat.zero_le _) (Nat.zero_le _) (zc_addSign_5_12 10 S216 n hn G_S216 (by omega)) (fun S218 hP => ?_)
                  obtain ⟨G_S218, fS218⟩ := hP
                  have F_S218 := zz_fr.trans F_S216 fS218 rfl zz_nv
                  exact zz_vret zd_5_3_147 rfl (Nat.zero_le _) (Nat.zero_le _) ⟨_, rfl, G_S218, F_S218⟩
                · refine zz_ldcs (t := 45) (by decide +kernel) (by decide) zd_5_3_136 ?_
                  refine zz_callVV [zi 1, .ref (100 + 45)] zd_5_3_138 zk_Line_59 zT_1077 (zz_ltn hn rfl) rfl rfl ⟨Nat.le_of_ble_eq_true rfl, Nat.le_of_ble_eq_true rfl⟩ ⟨rfl, rfl⟩ (Nat.zero_le _) (Nat.zero_le _) (zc_addIf_5_7 1 45 S211 n hn G_S211 (by omega) (by omega)) (fun S220 hP => ?_)
                  obtain ⟨G_S220, fS220⟩ := hP
                  have F_S220 := zz_fr.trans F_S211 fS220 rfl zz_nv
                  refine zz_aload_n (x := 1077) rfl zd_5_3_141 ?_
                  refine zz_bipush (by decide) zd_5_3_142 ?_
                  refine zz_callVV [zi 10] zd_5_3_144 zk_Line_69 zT_1077 (zz_ltn hn rfl) rfl rfl ⟨Nat.le_of_ble_eq_true rfl, Nat.le_of_ble_eq_true rfl⟩ ⟨rfl, rfl⟩ (Nat.zero_le _) (Nat.zero_le _) (zc_addSign_5_12 10 S220 n hn G_S220 (by omega)) (fun S222 hP => ?_)
                  obtain ⟨G_S222, fS222⟩ := hP
                  have F_S222 := zz_fr.trans F_S220 fS222 rfl zz_nv
                  exact zz_vret zd_5_3_147 rfl (Nat.zero_le _) (Nat.zero_le _) ⟨_, rfl, G_S222, F_S222⟩
            · refine zz_ldcs (t := 43) (by decide +kernel) (by decide) zd_5_3_114 ?_
              refine zz_callVV [zi 1, .ref (100 + 43)] zd_5_3_116 zk_Line_59 zT_1077 (zz_ltn hn rfl) rfl rfl ⟨Nat.le_of_ble_eq_true rfl, Nat.le_of_ble_eq_true rfl⟩ ⟨rfl, rfl⟩ (Nat.zero_le _) (Nat.zero_le _) (zc_addIf_5_7 1 43 S188 n hn G_S188 (by omega) (by omega)) (fun S224 hP => ?_)
              obtain ⟨G_S224, fS224⟩ := hP
              have F_S224 := zz_fr.trans F_S188 fS224 rfl zz_nv
              refine zz_aload_n (x := 1077) rfl zd_5_3_119 ?_
              refine zz_lload_n (x := p0) rfl zd_5_3_120 ?_
              refine zz_iconst zd_5_3_121 ?_
              refine zz_callSI [zl p0, zi 3] zd_5_3_122 zk_Line_39 rfl rfl ⟨Nat.le_of_ble_eq_true rfl, Nat.le_of_ble_eq_true rfl⟩ ⟨rfl, rfl⟩ (Nat.zero_le _) (Nat.zero_le _) (zc_has_12_3 p0 3 S224 n hn G_S224 (by omega) (by omega)) (fun v227 S226 hP => ?_)
              obtain ⟨rfl, o228⟩ := hP
              rcases (by omega : v227 = 0 ∨ v227 = 1) with rfl | rfl
              · refine zz_ldcs (t := 44) (by decide +kernel) (by decide) zd_5_3_125 ?_
                refine zz_callVV [zi 0, .ref (100 + 44)] zd_5_3_127 zk_Line_59 zT_1077 (zz_ltn hn rfl) rfl rfl ⟨Nat.le_of_ble_eq_true rfl, Nat.le_of_ble_eq_true rfl⟩ ⟨rfl, rfl⟩ (Nat.zero_le _) (Nat.zero_le _) (zc_addIf_5_7 0 44 S224 n hn G_S224 (by omega) (by omega)) (fun S229 hP => ?_)
                obtain ⟨G_S229, fS229⟩ := hP
                have F_S229 := zz_fr.trans F_S224 fS229 rfl zz_nv
                refine zz_aload_n (x := 1077) rfl zd_5_3_130 ?_
                refine zz_lload_n (x := p0) rfl zd_5_3_131 ?_
                refine zz_iconst zd_5_3_132 ?_
                refine zz_callSI [zl p0, zi 4] zd_5_3_133 zk_Line_39 rfl rfl ⟨Nat.le_of_ble_eq_true rfl, Nat.le_of_ble_eq_true rfl⟩ ⟨rfl, rfl⟩ (Nat.zero_le _) (Nat.zero_le _) (zc_has_12_3 p0 4 S229 n hn G_S229 (by omega) (by omega)) (fun v232 S231 hP => ?_)
                obtain ⟨rfl, o233⟩ := hP
                rcases (by omega : v232 = 0 ∨ v232 = 1) with rfl | rfl
                · refine zz_ldcs (t := 45) (by decide +kernel) (by decide) zd_5_3_136 ?_
                  refine zz_callVV [zi 0, .ref (100 + 45)] zd_5_3_138 zk_Line_59 zT_1077 (zz_ltn hn rfl) rfl rfl ⟨Nat.le_of_ble_eq_true rfl, Nat.le_of_ble_eq_true rfl⟩ ⟨rfl, rfl⟩ (Nat.zero_le _) (Nat.zero_le _) (zc_addIf_5_7 0 45 S229 n hn G_S229 (by omega) (by omega)) (fun S234 hP => ?_)
                  obtain ⟨G_S234, fS234⟩ := hP
                  have F_S234 := zz_fr.trans F_S229 fS234 rfl zz_nv
                  refine zz_aload_n (x := 1077) rfl zd_5_3_141 ?_
                  refine zz_bipush (by decide) zd_5_3_142 ?_
                  refine zz_callVV [zi 10] zd_5_3_144 zk_Line_69 zT_1077 (zz_ltn hn rfl) rfl rfl ⟨Nat.le_of_ble_eq_true rfl, Nat.le_of_ble_eq_true rfl⟩ ⟨rfl, rfl⟩ (Nat.zero_le _) (Nat.zero_le _) (zc_addSign_5_12 10 S234 n hn G_S234 (by omega)) (fun S236 hP => ?_)
                  obtain ⟨G_S236, fS236⟩ := hP
                  have F_S236 := zz_fr.trans F_S234 fS236 rfl zz_nv
                  exact zz_vret zd_5_3_147 rfl (Nat.zero_le _) (Nat.zero_le _) ⟨_, rfl, G_S236, F_S236⟩
                · refine zz_ldcs (t := 45) (by decide +kernel) (by decide) zd_5_3_136 ?_
                  refine zz_callVV [zi 1, .ref (100 + 45)] zd_5_3_138 zk_Line_59 zT_1077 (zz_ltn hn rfl) rfl rfl ⟨Nat.le_of_ble_eq_true rfl, Nat.le_of_ble_eq_true rfl⟩ ⟨rfl, rfl⟩ (Nat.zero_le _) (Nat.zero_le _) (zc_addIf_5_7 1 45 S229 n hn G_S229 (by omega) (by omega)) (fun S238 hP => ?_)
                  obtain ⟨G_S238, fS238⟩ := hP
                  have F_S238 := zz_fr.trans F_S229 fS238 rfl zz_nv
                  refine zz_aload_n (x := 1077) rfl zd_5_3_141 ?_
                  refine zz_bipush (by decide) zd_5_3_142 ?_
                  refine zz_callVV [zi 10] zd_5_3_144 zk_Line_69 zT_1077 (zz_ltn hn rfl) rfl rfl ⟨Nat.le_of_ble_eq_true rfl, Nat.le_of_ble_eq_true rfl⟩ ⟨rfl, rfl⟩ (Nat.zero_le _) (Nat.zero_le _) (zc_addSign_5_12 10 S238 n hn G_S238 (by omega)) (fun S240 hP => ?_)
                  obtain ⟨G_S240, fS240⟩ := hP
                  have F_S240 := zz_fr.trans F_S238 fS240 rfl zz_nv
                  exact zz_vret zd_5_3_147 rfl (Nat.zero_le _) (Nat.zero_le _) ⟨_, rfl, G_S240, F_S240⟩
              · refine zz_ldcs (t := 44) (by decide +kernel) (by decide) zd_5_3_125 ?_
                refine zz_callVV [zi 1, .ref (100 + 44)] zd_5_3_127 zk_Line_59 zT_1077 (zz_ltn hn rfl) rfl rfl ⟨Nat.le_of_ble_eq_true rfl, Nat.le_of_ble_eq_true rfl⟩ ⟨rfl, rfl⟩ (Nat.zero_le _) (Nat.zero_le _) (zc_addIf_5_7 1 44 S224 n hn G_S224 (by omega) (by omega)) (fun S242 hP => ?_)
                obtain ⟨G_S242, fS242⟩ := hP
                have F_S242 := zz_fr.trans F_S224 fS242 rfl zz_nv
                refine zz_aload_n (x := 1077) rfl zd_5_3_130 ?_
                refine zz_lload_n (x := p0) rfl zd_5_3_131 ?_
                refine zz_iconst zd_5_3_132 ?_
                refine zz_callSI [zl p0, zi 4] zd_5_3_133 zk_Line_39 rfl rfl ⟨Nat.le_of_ble_eq_true rfl, Nat.le_of_ble_eq_true rfl⟩ ⟨rfl, rfl⟩ (Nat.zero_le _) (Nat.zero_le _) (zc_has_12_3 p0 4 S242 n hn G_S242 (by omega) (by omega)) (fun v245 S244 hP => ?_)
                obtain ⟨rfl, o246⟩ := hP
                rcases (by omega : v245 = 0 ∨ v245 = 1) with rfl | rfl
                · refine zz_ldcs (t := 45) (by decide +kernel) (by decide) zd_5_3_136 ?_
                  refine zz_callVV [zi 0, .ref (100 + 45)] zd_5_3_138 zk_Line_59 zT_1077 (zz_ltn hn rfl) rfl rfl ⟨Nat.le_of_ble_eq_true rfl, Nat.le_of_ble_eq_true rfl⟩ ⟨rfl, rfl⟩ (Nat.zero_le _) (Nat.zero_le _) (zc_addIf_5_7 0 45 S242 n hn G_S242 (by omega) (by omega)) (fun S247 hP => ?_)
                  obtain ⟨G_S247, fS247⟩ := hP
                  have F_S247 := zz_fr.trans F_S242 fS247 rfl zz_nv
                  refine zz_aload_n (x := 1077) rfl zd_5_3_141 ?_
                  refine zz_bipush (by decide) zd_5_3_142 ?_
                  refine zz_callVV [zi 10] zd_5_3_144 zk_Line_69 zT_1077 (zz_ltn hn rfl) rfl rfl ⟨Nat.le_of_ble_eq_true rfl, Nat.le_of_ble_eq_true rfl⟩ ⟨rfl, rfl⟩ (Nat.zero_le _) (Nat.zero_le _) (zc_addSign_5_12 10 S247 n hn G_S247 (by omega)) (fun S249 hP => ?_)
                  obtain ⟨G_S249, fS249⟩ := hP
                  have F_S249 := zz_fr.trans F_S247 fS249 rfl zz_nv
                  exact zz_vret zd_5_3_147 rfl (Nat.zero_le _) (Nat.zero_le _) ⟨_, rfl, G_S249, F_S249⟩
                · refine zz_ldcs (t := 45) (by decide +kernel) (by decide) zd_5_3_136 ?_
                  refine zz_callVV [zi 1, .ref (100 + 45)] zd_5_3_138 zk_Line_59 zT_1077 (zz_ltn hn rfl) rfl rfl ⟨Nat.le_of_ble_eq_true rfl, Nat.le_of_ble_eq_true rfl⟩ ⟨rfl, rfl⟩ (Nat.zero_le _) (Nat.zero_le _) (zc_addIf_5_7 1 45 S242 n hn G_S242 (by omega) (by omega)) (fun S251 hP => ?_)
                  obtain ⟨G_S251, fS251⟩ := hP
                  have F_S251 := zz_fr.trans F_S242 fS251 rfl zz_nv
                  refine zz_aload_n (x := 1077) rfl zd_5_3_141 ?_
                  refine zz_bipush (by decide) zd_5_3_142 ?_
                  refine zz_callVV [zi 10] zd_5_3_144 zk_Line_69 zT_1077 (zz_ltn hn rfl) rfl rfl ⟨Nat.le_of_ble_eq_true rfl, Nat.le_of_ble_eq_true rfl⟩ ⟨rfl, rfl⟩ (Nat.zero_le _) (Nat.zero_le _) (zc_addSign_5_12 10 S251 n hn G_S251 (by omega)) (fun S253 hP => ?_)
                  obtain ⟨G_S253, fS253⟩ := hP
                  have F_S253 := zz_fr.trans F_S251 fS253 rfl zz_nv
                  exact zz_vret zd_5_3_147 rfl (Nat.zero_le _) (Nat.zero_le _) ⟨_, rfl, G_S253, F_S253⟩
          · refine zz_ldcs (t := 42) (by decide +kernel) (by decide) zd_5_3_103 ?_
            refine zz_callVV [zi 1, .ref (100 + 42)] zd_5_3_105 zk_Line_59 zT_1077 (zz_ltn hn rfl) rfl rfl ⟨Nat.le_of_ble_eq_true rfl, Nat.le_of_ble_eq_true rfl⟩ ⟨rfl, rfl⟩ (Nat.zero_le _) (Nat.zero_le _) (zc_addIf_5_7 1 42 S183 n hn G_S183 (by omega) (by omega)) (fun S255 hP => ?_)
            obtain ⟨G_S255, fS255⟩ := hP
            have F_S255 := zz_fr.trans F_S183 fS255 rfl zz_nv
            refine zz_aload_n (x := 1077) rfl zd_5_3_108 ?_
            refine zz_lload_n (x := p0) rfl zd_5_3_109 ?_
            refine zz_iconst zd_5_3_110 ?_
            refine zz_callSI [zl p0, zi 2] zd_5_3_111 zk_Line_39 rfl rfl ⟨Nat.le_of_ble_eq_true rfl, Nat.le_of_ble_eq_true rfl⟩ ⟨rfl, rfl⟩ (Nat.zero_le _) (Nat.zero_le _) (zc_has_12_3 p0 2 S255 n hn G_S255 (by omega) (by omega)) (fun v258 S257 hP => ?_)
            obtain ⟨rfl, o259⟩ := hP
            rcases (by omega : v258 = 0 ∨ v258 = 1) with rfl | rfl
            · refine zz_ldcs (t := 43) (by decide +kernel) (by decide) zd_5_3_114 ?_
              refine zz_callVV [zi 0, .ref (100 + 43)] zd_5_3_116 zk_Line_59 zT_1077 (zz_ltn hn rfl) rfl rfl ⟨Nat.le_of_ble_eq_true rfl, Nat.le_of_ble_eq_true rfl⟩ ⟨rfl, rfl⟩ (Nat.zero_le _) (Nat.zero_le _) (zc_addIf_5_7 0 43 S255 n hn G_S255 (by omega) (by omega)) (fun S260 hP => ?_)
              obtain ⟨G_S260, fS260⟩ := hP
              have F_S260 := zz_fr.trans F_S255 fS260 rfl zz_nv
              refine zz_aload_n (x := 1077) rfl zd_5_3_119 ?_
              refine zz_lload_n (x := p0) rfl zd_5_3_120 ?_
              refine zz_iconst zd_5_3_121 ?_
              refine zz_callSI [zl p0, zi 3] zd_5_3_122 zk_Line_39 rfl rfl ⟨Nat.le_of_ble_eq_true rfl, Nat.le_of_ble_eq_true rfl⟩ ⟨rfl, rfl⟩ (Nat.zero_le _) (Nat.zero_le _) (zc_has_12_3 p0 3 S260 n hn G_S260 (by omega) (by omega)) (fun v263 S262 hP => ?_)
              obtain ⟨rfl, o264⟩ := hP
              rcases (by omega : v263 = 0 ∨ v263 = 1) with rfl | rfl
              · refine zz_ldcs (t := 44) (by decide +kernel) (by decide) zd_5_3_125 ?_
                refine zz_callVV [zi 0, .ref (100 + 44)] zd_5_3_127 zk_Line_59 zT_1077 (zz_ltn hn rfl) rfl rfl ⟨Nat.le_of_ble_eq_true rfl, Nat.le_of_ble_eq_true rfl⟩ ⟨rfl, rfl⟩ (Nat.zero_le _) (Nat.zero_le _) (zc_addIf_5_7 0 44 S260 n hn G_S260 (by omega) (by omega)) (fun S265 hP => ?_)
                obtain ⟨G_S265, fS265⟩ := hP
                have F_S265 := zz_fr.trans F_S260 fS265 rfl zz_nv
                refine zz_aload_n (x := 1077) rfl zd_5_3_130 ?_
                refine zz_lload_n (x := p0) rfl zd_5_3_131 ?_
                refine zz_iconst zd_5_3_132 ?_
                refine zz_callSI [zl p0, zi 4] zd_5_3_133 zk_Line_39 rfl rfl ⟨Nat.le_of_ble_eq_true rfl, Nat.le_of_ble_eq_true rfl⟩ ⟨rfl, rfl⟩ (Nat.zero_le _) (Nat.zero_le _) (zc_has_12_3 p0 4 S265 n hn G_S265 (by omega) (by omega)) (fun v268 S267 hP => ?_)
                obtain ⟨rfl, o269⟩ := hP
                rcases (by omega : v268 = 0 ∨ v268 = 1) with rfl | rfl
                · refine zz_ldcs (t := 45) (by decide +kernel) (by decide) zd_5_3_136 ?_
                  refine zz_callVV [zi 0, .ref (100 + 45)] zd_5_3_138 zk_Line_59 zT_1077 (zz_ltn hn rfl) rfl rfl ⟨Nat.le_of_ble_eq_true rfl, Nat.le_of_ble_eq_true rfl⟩ ⟨rfl, rfl⟩ (Nat.zero_le _) (Nat.zero_le _) (zc_addIf_5_7 0 45 S265 n hn G_S265 (by omega) (by omega)) (fun S270 hP => ?_)
                  obtain ⟨G_S270, fS270⟩ := hP
                  have F_S270 := zz_fr.trans F_S265 fS270 rfl zz_nv
                  refine zz_aload_n (x := 1077) rfl zd_5_3_141 ?_
                  refine zz_bipush (by decide) zd_5_3_142 ?_
                  refine zz_callVV [zi 10] zd_5_3_144 zk_Line_69 zT_1077 (zz_ltn hn rfl) rfl rfl ⟨Nat.le_of_ble_eq_true rfl, Nat.le_of_ble_eq_true rfl⟩ ⟨rfl, rfl⟩ (Nat.zero_le _) (Nat.zero_le _) (zc_addSign_5_12 10 S270 n hn G_S270 (by omega)) (fun S272 hP => ?_)
                  obtain ⟨G_S272, fS272⟩ := hP
                  have F_S272 := zz_fr.trans F_S270 fS272 rfl zz_nv
                  exact zz_vret zd_5_3_147 rfl (Nat.zero_le _) (Nat.zero_le _) ⟨_, rfl, G_S272, F_S272⟩
                · refine zz_ldcs (t := 45) (by decide +kernel) (by decide) zd_5_3_136 ?_
                  refine zz_callVV [zi 1, .ref (100 + 45)] zd_5_3_138 zk_Line_59 zT_1077 (zz_ltn hn rfl) rfl rfl ⟨Nat.le_of_ble_eq_true rfl, Nat.le_of_ble_eq_true rfl⟩ ⟨rfl, rfl⟩ (Nat.zero_le _) (Nat.zero_le _) (zc_addIf_5_7 1 45 S265 n hn G_S265 (by omega) (by omega)) (fun S274 hP => ?_)
                  obtain ⟨G_S274, fS274⟩ := hP
                  have F_S274 := zz_fr.trans F_S265 fS274 rfl zz_nv
                  refine zz_aload_n (x := 1077) rfl zd_5_3_141 ?_
                  refine zz_bipush (by decide) zd_5_3_142 ?_
                  refine zz_callVV [zi 10] zd_5_3_144 zk_Line_69 zT_1077 (zz_ltn hn rfl) rfl rfl ⟨Nat.le_of_ble_eq_true rfl, Nat.le_of_ble_eq_true rfl⟩ ⟨rfl, rfl⟩ (Nat.zero_le _) (Nat.zero_le _) (zc_addSign_5_12 10 S274 n hn G_S274 (by omega)) (fun S276 hP => ?_)
                  obtain ⟨G_S276, fS276⟩ := hP
                  have F_S276 := zz_fr.trans F_S274 fS276 rfl zz_nv
                  exact zz_vret zd_5_3_147 rfl (Nat.zero_le _) (Nat.zero_le _) ⟨_, rfl, G_S276, F_S276⟩
              · refine zz_ldcs (t := 44) (by decide +kernel) (by decide) zd_5_3_125 ?_
                refine zz_callVV [zi 1, .ref (100 + 44)] zd_5_3_127 zk_Line_59 zT_1077 (zz_ltn hn rfl) rfl rfl ⟨Nat.le_of_ble_eq_true rfl, Nat.le_of_ble_eq_true rfl⟩ ⟨rfl, rfl⟩ (Nat.zero_le _) (Nat.zero_le _) (zc_addIf_5_7 1 44 S260 n hn G_S260 (by omega) (by omega)) (fun S278 hP => ?_)
                obtain ⟨G_S278, fS278⟩ := hP
                have F_S278 := zz_fr.trans F_S260 fS278 rfl zz_nv
                refine zz_aload_n (x := 1077) rfl zd_5_3_130 ?_
                refine zz_lload_n (x := p0) rfl zd_5_3_131 ?_
                refine zz_iconst zd_5_3_132 ?_
                refine zz_callSI [zl p0, zi 4] zd_5_3_133 zk_Line_39 rfl rfl ⟨Nat.le_of_ble_eq_true rfl, Nat.le_of_ble_eq_true rfl⟩ ⟨rfl, rfl⟩ (Nat.zero_le _) (Nat.zero_le _) (zc_has_12_3 p0 4 S278 n hn G_S278 (by omega) (by omega)) (fun v281 S280 hP => ?_)
                obtain ⟨rfl, o282⟩ := hP
                rcases (by omega : v281 = 0 ∨ v281 = 1) with rfl | rfl
                · refine zz_ldcs (t := 45) (by decide +kernel) (by decide) zd_5_3_136 ?_
                  refine zz_callVV [zi 0, .ref (100 + 45)] zd_5_3_138 zk_Line_59 zT_1077 (zz_ltn hn rfl) rfl rfl ⟨Nat.le_of_ble_eq_true rfl, Nat.le_of_ble_eq_true rfl⟩ ⟨rfl, rfl⟩ (Nat.zero_le _) (Nat.zero_le _) (zc_addIf_5_7 0 45 S278 n hn G_S278 (by omega) (by omega)) (fun S283 hP => ?_)
                  obtain ⟨G_S283, fS283⟩ := hP
                  have F_S283 := zz_fr.trans F_S278 fS283 rfl zz_nv
                  refine zz_aload_n (x := 1077) rfl zd_5_3_141 ?_
                  refine zz_bipush (by decide) zd_5_3_142 ?_
                  refine zz_callVV [zi 10] zd_5_3_144 zk_Line_69 zT_1077 (zz_ltn hn rfl) rfl rfl ⟨Nat.le_of_ble_eq_true rfl, Nat.le_of_ble_eq_true rfl⟩ ⟨rfl, rfl⟩ (Nat.zero_le _) (Nat.zero_le _) (zc_addSign_5_12 10 S283 n hn G_S283 (by omega)) (fun S285 hP => ?_)
                  obtain ⟨G_S285, fS285⟩ := hP
                  have F_S285 := zz_fr.trans F_S283 fS285 rfl zz_nv
                  exact zz_vret zd_5_3_147 rfl (Nat.zero_le _) (Nat.zero_le _) ⟨_, rfl, G_S285, F_S285⟩
                · refine zz_ldcs (t := 45) (by decide +kernel) (by decide) zd_5_3_136 ?_
                  refine zz_callVV [zi 1, .ref (100 + 45)] zd_5_3_138 zk_Line_59 zT_1077 (zz_ltn hn rfl) rfl rfl ⟨Nat.le_of_ble_eq_true rfl, Nat.le_of_ble_eq_true rfl⟩ ⟨rfl, rfl⟩ (Nat.zero_le _) (Nat.zero_le _) (zc_addIf_5_7 1 45 S278 n hn G_S278 (by omega) (by omega)) (fun S287 hP => ?_)
                  obtain ⟨G_S287, fS287⟩ := hP
                  have F_S287 := zz_fr.trans F_S278 fS287 rfl zz_nv
                  refine zz_aload_n (x := 1077) rfl zd_5_3_141 ?_
                  refine zz_bipush (by decide) zd_5_3_142 ?_
                  refine zz_callVV [zi 10] zd_5_3_144 zk_Line_69 zT_1077 (zz_ltn hn rfl) rfl rfl ⟨Nat.le_of_ble_eq_true rfl, Nat.le_of_ble_eq_true rfl⟩ ⟨rfl, rfl⟩ (Nat.zero_le _) (Nat.zero_le _) (zc_addSign_5_12 10 S287 n hn G_S287 (by omega)) (fun S289 hP => ?_)
                  obtain ⟨G_S289, fS289⟩ := hP
                  have F_S289 := zz_fr.trans F_S287 fS289 rfl zz_nv
                  exact zz_vret zd_5_3_147 rfl (Nat.zero_le _) (Nat.zero_le _) ⟨_, rfl, G_S289, F_S289⟩
            · refine zz_ldcs (t := 43) (by decide +kernel) (by decide) zd_5_3_114 ?_
              refine zz_callVV [zi 1, .ref (100 + 43)] zd_5_3_116 zk_Line_59 zT_1077 (zz_ltn hn rfl) rfl rfl ⟨Nat.le_of_ble_eq_true rfl, Nat.le_of_ble_eq_true rfl⟩ ⟨rfl, rfl⟩ (Nat.zero_le _) (Nat.zero_le _) (zc_addIf_5_7 1 43 S255 n hn G_S255 (by omega) (by omega)) (fun S291 hP => ?_)
              obtain ⟨G_S291, fS291⟩ := hP
              have F_S291 := zz_fr.trans F_S255 fS291 rfl zz_nv
              refine zz_aload_n (x := 1077) rfl zd_5_3_119 ?_
              refine zz_lload_n (x := p0) rfl zd_5_3_120 ?_
              refine zz_iconst zd_5_3_121 ?_
              refine zz_callSI [zl p0, zi 3] zd_5_3_122 zk_Line_39 rfl rfl ⟨Nat.le_of_ble_eq_true rfl, Nat.le_of_ble_eq_true rfl⟩ ⟨rfl, rfl⟩ (Nat.zero_le _) (Nat.zero_le _) (zc_has_12_3 p0 3 S291 n hn G_S291 (by omega) (by omega)) (fun v294 S293 hP => ?_)
              obtain ⟨rfl, o295⟩ := hP
              rcases (by omega : v294 = 0 ∨ v294 = 1) with rfl | rfl
              · refine zz_ldcs (t := 44) (by decide +kernel) (by decide) zd_5_3_125 ?_
                refine zz_callVV [zi 0, .ref (100 + 44)] zd_5_3_127 zk_Line_59 zT_1077 (zz_ltn hn rfl) rfl rfl ⟨Nat.le_of_ble_eq_true rfl, Nat.le_of_ble_eq_true rfl⟩ ⟨rfl, rfl⟩ (Nat.zero_le _) (Nat.zero_le _) (zc_addIf_5_7 0 44 S291 n hn G_S291 (by omega) (by omega)) (fun S296 hP => ?_)
                obtain ⟨G_S296, fS296⟩ := hP
                have F_S296 := zz_fr.trans F_S291 fS296 rfl zz_nv
                refine zz_aload_n (x := 1077) rfl zd_5_3_130 ?_
                refine zz_lload_n (x := p0) rfl zd_5_3_131 ?_
                refine zz_iconst zd_5_3_132 ?_
                refine zz_callSI [zl p0, zi 4] zd_5_3_133 zk_Line_39 rfl rfl ⟨Nat.le_of_ble_eq_true rfl, Nat.le_of_ble_eq_true rfl⟩ ⟨rfl, rfl⟩ (Nat.zero_le _) (Nat.zero_le _) (zc_has_12_3 p0 4 S296 n hn G_S296 (by omega) (by omega)) (fun v299 S298 hP => ?_)
                obtain ⟨rfl, o300⟩ := hP
                rcases (by omega : v299 = 0 ∨ v299 = 1) with rfl | rfl
                · refine zz_ldcs (t := 45) (by decide +kernel) (by decide) zd_5_3_136 ?_
                  refine zz_callVV [zi 0, .ref (100 + 45)] zd_5_3_138 zk_Line_59 zT_1077 (zz_ltn hn rfl) rfl rfl ⟨Nat.le_of_ble_eq_true rfl, Nat.le_of_ble_eq_true rfl⟩ ⟨rfl, rfl⟩ (Nat.zero_le _) (Nat.zero_le _) (zc_addIf_5_7 0 45 S296 n hn G_S296 (by omega) (by omega)) (fun S301 hP => ?_)
                  obtain ⟨G_S301, fS301⟩ := hP
                  have F_S301 := zz_fr.trans F_S296 fS301 rfl zz_nv
                  refine zz_aload_n (x := 1077) rfl zd_5_3_141 ?_
                  refine zz_bipush (by decide) zd_5_3_142 ?_
                  refine zz_callVV [zi 10] zd_5_3_144 zk_Line_69 zT_1077 (zz_ltn hn rfl) rfl rfl ⟨Nat.le_of_ble_eq_true rfl, Nat.le_of_ble_eq_true rfl⟩ ⟨rfl, rfl⟩ (Nat.zero_le _) (Nat.zero_le _) (zc_addSign_5_12 10 S301 n hn G_S301 (by omega)) (fun S303 hP => ?_)
                  obtain ⟨G_S303, fS303⟩ := hP
                  have F_S303 := zz_fr.trans F_S301 fS303 rfl zz_nv
                  exact zz_vret zd_5_3_147 rfl (Nat.zero_le _) (Nat.zero_le _) ⟨_, rfl, G_S303, F_S303⟩
                · refine zz_ldcs (t := 45) (by decide +kernel) (by decide) zd_5_3_136 ?_
                  refine zz_callVV [zi 1, .ref (100 + 45)] zd_5_3_138 zk_Line_59 zT_1077 (zz_ltn hn rfl) rfl rfl ⟨Nat.le_of_ble_eq_true rfl, Nat.le_of_ble_eq_true rfl⟩ ⟨rfl, rfl⟩ (Nat.zero_le _) (Nat.zero_le _) (zc_addIf_5_7 1 45 S296 n hn G_S296 (by omega) (by omega)) (fun S305 hP => ?_)
                  obtain ⟨G_S305, fS305⟩ := hP
                  have F_S305 := zz_fr.trans F_S296 fS305 rfl zz_nv
                  refine zz_aload_n (x := 1077) rfl zd_5_3_141 ?_
                  refine zz_bipush (by decide) zd_5_3_142 ?_
                  refine zz_callVV [zi 10] zd_5_3_144 zk_Line_69 zT_1077 (zz_ltn hn rfl) rfl rfl ⟨Nat.le_of_ble_eq_true rfl, Nat.le_of_ble_eq_true rfl⟩ ⟨rfl, rfl⟩ (Nat.zero_le _) (Nat.zero_le _) (zc_addSign_5_12 10 S305 n hn G_S305 (by omega)) (fun S307 hP => ?_)
                  obtain ⟨G_S307, fS307⟩ := hP
                  have F_S307 := zz_fr.trans F_S305 fS307 rfl zz_nv
                  exact zz_vret zd_5_3_147 rfl (Nat.zero_le _) (Nat.zero_le _) ⟨_, rfl, G_S307, F_S307⟩
              · refine zz_ldcs (t := 44) (by decide +kernel) (by decide) zd_5_3_125 ?_
                refine zz_callVV [zi 1, .ref (100 + 44)] zd_5_3_127 zk_Line_59 zT_1077 (zz_ltn hn rfl) rfl rfl ⟨Nat.le_of_ble_eq_true rfl, Nat.le_of_ble_eq_true rfl⟩ ⟨rfl, rfl⟩ (Nat.zero_le _) (Nat.zero_le _) (zc_addIf_5_7 1 44 S291 n hn G_S291 (by omega) (by omega)) (fun S309 hP => ?_)
                obtain ⟨G_S309, fS309⟩ := hP
                have F_S309 := zz_fr.trans F_S291 fS309 rfl zz_nv
                refine zz_aload_n (x := 1077) rfl zd_5_3_130 ?_
                refine zz_lload_n (x := p0) rfl zd_5_3_131 ?_
                refine zz_iconst zd_5_3_132 ?_
                refine zz_callSI [zl p0, zi 4] zd_5_3_133 zk_Line_39 rfl rfl ⟨Nat.le_of_ble_eq_true rfl, Nat.le_of_ble_eq_true rfl⟩ ⟨rfl, rfl⟩ (Nat.zero_le _) (Nat.zero_le _) (zc_has_12_3 p0 4 S309 n hn G_S309 (by omega) (by omega)) (fun v312 S311 hP => ?_)
                obtain ⟨rfl, o313⟩ := hP
                rcases (by omega : v312 = 0 ∨ v312 = 1) with rfl | rfl
                · refine zz_ldcs (t := 45) (by decide +kernel) (by decide) zd_5_3_136 ?_
                  refine zz_callVV [zi 0, .ref (100 + 45)] zd_5_3_138 zk_Line_59 zT_1077 (zz_ltn hn rfl) rfl rfl ⟨Nat.le_of_ble_eq_true rfl, Nat.le_of_ble_eq_true rfl⟩ ⟨rfl, rfl⟩ (Nat.zero_le _) (Nat.zero_le _) (zc_addIf_5_7 0 45 S309 n hn G_S309 (by omega) (by omega)) (fun S314 hP => ?_)
                  obtain ⟨G_S314, fS314⟩ := hP
                  have F_S314 := zz_fr.trans F_S309 fS314 rfl zz_nv
                  refine zz_aload_n (x := 1077) rfl zd_5_3_141 ?_
                  refine zz_bipush (by decide) zd_5_3_142 ?_
                  refine zz_callVV [zi 10] zd_5_3_144 zk_Line_69 zT_1077 (zz_ltn hn rfl) rfl rfl ⟨Nat.le_of_ble_eq_true rfl, Nat.le_of_ble_eq_true rfl⟩ ⟨rfl, rfl⟩ (Nat.zero_le _) (Nat.zero_le _) (zc_addSign_5_12 10 S314 n hn G_S314 (by omega)) (fun S316 hP => ?_)
                  obtain ⟨G_S316, fS316⟩ := hP
                  have F_S316 := zz_fr.trans F_S314 fS316 rfl zz_nv
                  exact zz_vret zd_5_3_147 rfl (Nat.zero_le _) (Nat.zero_le _) ⟨_, rfl, G_S316, F_S316⟩
                · refine zz_ldcs (t := 45) (by decide +kernel) (by decide) zd_5_3_136 ?_
                  refine zz_callVV [zi 1, .ref (100 + 45)] zd_5_3_138 zk_Line_59 zT_1077 (zz_ltn hn rfl) rfl rfl ⟨Nat.le_of_ble_eq_true rfl, Nat.le_of_ble_eq_true rfl⟩ ⟨rfl, rfl⟩ (Nat.zero_le _) (Nat.zero_le _) (zc_addIf_5_7 1 45 S309 n hn G_S309 (by omega) (by omega)) (fun S318 hP => ?_)
                  obtain ⟨G_S318, fS318⟩ := hP
                  have F_S318 := zz_fr.trans F_S309 fS318 rfl zz_nv
                  refine zz_aload_n (x := 1077) rfl zd_5_3_141 ?_
                  refine zz_bipush (by decide) zd_5_3_142 ?_
                  refine zz_callVV [zi 10] zd_5_3_144 zk_Line_69 zT_1077 (zz_ltn hn rfl) rfl rfl ⟨Nat.le_of_ble_eq_true rfl, Nat.le_of_ble_eq_true rfl⟩ ⟨rfl, rfl⟩ (Nat.zero_le _) (Nat.zero_le _) (zc_addSign_5_12 10 S318 n hn G_S318 (by omega)) (fun S320 hP => ?_)
                  obtain ⟨G_S320, fS320⟩ := hP
                  have F_S320 := zz_fr.trans F_S318 fS320 rfl zz_nv
                  exact zz_vret zd_5_3_147 rfl (Nat.zero_le _) (Nat.zero_le _) ⟨_, rfl, G_S320, F_S320⟩
  · refine zz_if_ne (by omega) zd_5_3_31 (fun c322 => ?_) (fun c322 => ?_)
    · refine zz_aload_n (x := 1077) rfl zd_5_3_43 ?_
      refine zz_ldcs (t := 11) (by decide +kernel) (by decide) zd_5_3_44 ?_
      refine zz_lload_n (x := p0) rfl zd_5_3_46 ?_
      refine zz_bipush (by decide) zd_5_3_47 ?_
      refine zz_callSI [zl p0, zi 6] zd_5_3_49 zk_Line_21 rfl rfl ⟨Nat.le_of_ble_eq_true rfl, Nat.le_of_ble_eq_true rfl⟩ ⟨rfl, rfl⟩ (Nat.zero_le _) (Nat.zero_le _) (zc_get_12_2x_6 p0 S11 n hn G_S11 (by omega)) (fun v324 S323 hP => ?_)
      obtain ⟨rfl, o325, o326⟩ := hP
      subst o326
      refine zz_lload_n (x := p0) rfl zd_5_3_52 ?_
      refine zz_bipush (by decide) zd_5_3_53 ?_
      refine zz_callSI [zl p0, zi 7] zd_5_3_55 zk_Line_21 rfl rfl ⟨Nat.le_of_ble_eq_true rfl, Nat.le_of_ble_eq_true rfl⟩ ⟨rfl, rfl⟩ (Nat.zero_le _) (Nat.zero_le _) (zc_get_12_2x_7 p0 S11 n hn G_S11 (by omega)) (fun v328 S327 hP => ?_)
      obtain ⟨rfl, o329, o330⟩ := hP
      subst o330
      refine zz_callVV [.ref (100 + 11), zi (zz_fy p0 20 63), zi (zz_fy p0 26 31)] zd_5_3_58 zk_Line_45 zT_1077 (zz_ltn hn rfl) rfl rfl ⟨Nat.le_of_ble_eq_true rfl, Nat.le_of_ble_eq_true rfl⟩ ⟨rfl, rfl⟩ (Nat.zero_le _) (Nat.zero_le _) (zc_addPair_5_8 11 (zz_fy p0 20 63) (zz_fy p0 26 31) S11 n hn G_S11 (by omega) (by omega) (by omega)) (fun S331 hP => ?_)
      obtain ⟨G_S331, fS331⟩ := hP
      have F_S331 := zz_fr.trans F_S11 fS331 rfl zz_nv
      refine zz_aload_n (x := 1077) rfl zd_5_3_61 ?_
      refine zz_ldcs (t := 13) (by decide +kernel) (by decide) zd_5_3_62 ?_
      refine zz_lload_n (x := p0) rfl zd_5_3_64 ?_
      refine zz_bipush (by decide) zd_5_3_65 ?_
      refine zz_callVV [.ref (100 + 13), zl p0, zi 8] zd_5_3_67 zk_Line_35 zT_1077 (zz_ltn hn rfl) rfl rfl ⟨Nat.le_of_ble_eq_true rfl, Nat.le_of_ble_eq_true rfl⟩ ⟨rfl, rfl⟩ (Nat.zero_le _) (Nat.zero_le _) (zc_addUnlessNothing_5_6 13 p0 8 S331 n hn G_S331 (by omega) (by omega) (by omega)) (fun S333 hP => ?_)
      obtain ⟨G_S333, fS333⟩ := hP
      have F_S333 := zz_fr.trans F_S331 fS333 rfl zz_nv
      refine zz_aload_n (x := 1077) rfl zd_5_3_70 ?_
      refine zz_ldcs (t := 14) (by decide +kernel) (by decide) zd_5_3_71 ?_
      refine zz_lload_n (x := p0) rfl zd_5_3_73 ?_
      refine zz_bipush (by decide) zd_5_3_74 ?_
      refine zz_callVV [.ref (100 + 14), zl p0, zi 9] zd_5_3_76 zk_Line_35 zT_1077 (zz_ltn hn rfl) rfl rfl ⟨Nat.le_of_ble_eq_true rfl, Nat.le_of_ble_eq_true rfl⟩ ⟨rfl, rfl⟩ (Nat.zero_le _) (Nat.zero_le _) (zc_addUnlessNothing_5_6 14 p0 9 S333 n hn G_S333 (by omega) (by omega) (by omega)) (fun S335 hP => ?_)
      obtain ⟨G_S335, fS335⟩ := hP
      have F_S335 := zz_fr.trans F_S333 fS335 rfl zz_nv
      refine zz_aload_n (x := 1077) rfl zd_5_3_79 ?_
      refine zz_ldcs (t := 15) (by decide +kernel) (by decide) zd_5_3_80 ?_
      refine zz_lload_n (x := p0) rfl zd_5_3_82 ?_
      refine zz_bipush (by decide) zd_5_3_83 ?_
      refine zz_callVV [.ref (100 + 15), zl p0, zi 10] zd_5_3_85 zk_Line_35 zT_1077 (zz_ltn hn rfl) rfl rfl ⟨Nat.le_of_ble_eq_true rfl, Nat.le_of_ble_eq_true rfl⟩ ⟨rfl, rfl⟩ (Nat.zero_le _) (Nat.zero_le _) (zc_addUnlessNothing_5_6 15 p0 10 S335 n hn G_S335 (by omega) (by omega) (by omega)) (fun S337 hP => ?_)
      obtain ⟨G_S337, fS337⟩ := hP
      have F_S337 := zz_fr.trans F_S335 fS337 rfl zz_nv
      refine zz_aload_n (x := 1077) rfl zd_5_3_88 ?_
      refine zz_ldcs (t := 16) (by decide +kernel) (by decide) zd_5_3_89 ?_
      refine zz_lload_n (x := p0) rfl zd_5_3_91 ?_
      refine zz_bipush (by decide) zd_5_3_92 ?_
      refine zz_callVV [.ref (100 + 16), zl p0, zi 11] zd_5_3_94 zk_Line_35 zT_1077 (zz_ltn hn rfl) rfl rfl ⟨Nat.le_of_ble_eq_true rfl, Nat.le_of_ble_eq_true rfl⟩ ⟨rfl, rfl⟩ (Nat.zero_le _) (Nat.zero_le _) (zc_addUnlessNothing_5_6 16 p0 11 S337 n hn G_S337 (by omega) (by omega) (by omega)) (fun S339 hP => ?_)
      obtain ⟨G_S339, fS339⟩ := hP
      have F_S339 := zz_fr.trans F_S337 fS339 rfl zz_nv
      refine zz_aload_n (x := 1077) rfl zd_5_3_97 ?_
      refine zz_lload_n (x := p0) rfl zd_5_3_98 ?_
      refine zz_iconst zd_5_3_99 ?_
      refine zz_callSI [zl p0, zi 1] zd_5_3_100 zk_Line_39 rfl rfl ⟨Nat.le_of_ble_eq_true rfl, Nat.le_of_ble_eq_true rfl⟩ ⟨rfl, rfl⟩ (Nat.zero_le _) (Nat.zero_le _) (zc_has_12_3 p0 1 S339 n hn G_S339 (by omega) (by omega)) (fun v342 S341 hP => ?_)
      obtain ⟨rfl, o343⟩ := hP
      rcases (by omega : v342 = 0 ∨ v342 = 1) with rfl | rfl
      · refine zz_ldcs (t := 42) (by decide +kernel) (by decide) zd_5_3_103 ?_
        refine zz_callVV [zi 0, .ref (100 + 42)] zd_5_3_105 zk_Line_59 zT_1077 (zz_ltn hn rfl) rfl rfl ⟨Nat.le_of_ble_eq_true rfl, Nat.le_of_ble_eq_true rfl⟩ ⟨rfl, rfl⟩ (Nat.zero_le _) (Nat.zero_le _) (zc_addIf_5_7 0 42 S339 n hn G_S339 (by omega) (by omega)) (fun S344 hP => ?_)
        obtain ⟨G_S344, fS344⟩ := hP
        have F_S344 := zz_fr.trans F_S339 fS344 rfl zz_nv
        refine zz_aload_n (x := 1077) rfl zd_5_3_108 ?_
        refine zz_lload_n (x := p0) rfl zd_5_3_109 ?_
        refine zz_iconst zd_5_3_110 ?_
        refine zz_callSI [zl p0, zi 2] zd_5_3_111 zk_Line_39 rfl rfl ⟨Nat.le_of_ble_eq_true rfl, Nat.le_of_ble_eq_true rfl⟩ ⟨rfl, rfl⟩ (Nat.zero_le _) (Nat.zero_le _) (zc_has_12_3 p0 2 S344 n hn G_S344 (by omega) (by omega)) (fun v347 S346 hP => ?_)
        obtain ⟨rfl, o348⟩ := hP
        rcases (by omega : v347 = 0 ∨ v347 = 1) with rfl | rfl
        · refine zz_ldcs (t := 43) (by decide +kernel) (by decide) zd_5_3_114 ?_
          refine zz_callVV [zi 0, .ref (100 + 43)] zd_5_3_116 zk_Line_59 zT_1077 (zz_ltn hn rfl) rfl rfl ⟨Nat.le_of_ble_eq_true rfl, Nat.le_of_ble_eq_true rfl⟩ ⟨rfl, rfl⟩ (Nat.zero_le _) (Nat.zero_le _) (zc_addIf_5_7 0 43 S344 n hn G_S344 (by omega) (by omega)) (fun S349 hP => ?_)
          obtain ⟨G_S349, fS349⟩ := hP
          have F_S349 := zz_fr.trans F_S344 fS349 rfl zz_nv
          refine zz_aload_n (x := 1077) rfl zd_5_3_119 ?_
          refine zz_lload_n (x := p0) rfl zd_5_3_120 ?_
          refine zz_iconst zd_5_3_121 ?_
          refine zz_callSI [zl p0, zi 3] zd_5_3_122 zk_Line_39 rfl rfl ⟨Nat.le_of_ble_eq_true rfl, Nat.le_of_ble_eq_true rfl⟩ ⟨rfl, rfl⟩ (Nat.zero_le _) (Nat.zero_le _) (zc_has_12_3 p0 3 S349 n hn G_S349 (by omega) (by omega)) (fun v352 S351 hP => ?_)
          obtain ⟨rfl, o353⟩ := hP
          rcases (by omega : v352 = 0 ∨ v352 = 1) with rfl | rfl
          · refine zz_ldcs (t := 44) (by decide +kernel) (by decide) zd_5_3_125 ?_
            refine zz_callVV [zi 0, .ref (100 + 44)] zd_5_3_127 zk_Line_59 zT_1077 (zz_ltn hn rfl) rfl rfl ⟨Nat.le_of_ble_eq_true rfl, Nat.le_of_ble_eq_true rfl⟩ ⟨rfl, rfl⟩ (Nat.zero_le _) (Nat.zero_le _) (zc_addIf_5_7 0 44 S349 n hn G_S349 (by omega) (by omega)) (fun S354 hP => ?_)
            obtain ⟨G_S354, fS354⟩ := hP
            have F_S354 := zz_fr.trans F_S349 fS354 rfl zz_nv
            refine zz_aload_n (x := 1077) rfl zd_5_3_130 ?_
            refine zz_lload_n (x := p0) rfl zd_5_3_131 ?_
            refine zz_iconst zd_5_3_132 ?_
            refine zz_callSI [zl p0, zi 4] zd_5_3_133 zk_Line_39 rfl rfl ⟨Nat.le_of_ble_eq_true rfl, Nat.le_of_ble_eq_true rfl⟩ ⟨rfl, rfl⟩ (Nat.zero_le _) (Nat.zero_le _) (zc_has_12_3 p0 4 S354 n hn G_S354 (by omega) (by omega)) (fun v357 S356 hP => ?_)
            obtain ⟨rfl, o358⟩ := hP
            rcases (by omega : v357 = 0 ∨ v357 = 1) with rfl | rfl
            · refine zz_ldcs (t := 45) (by decide +kernel) (by decide) zd_5_3_136 ?_
              refine zz_callVV [zi 0, .ref (100 + 45)] zd_5_3_138 zk_Line_59 zT_1077 (zz_ltn hn rfl) rfl rfl ⟨Nat.le_of_ble_eq_true rfl, Nat.le_of_ble_eq_true rfl⟩ ⟨rfl, rfl⟩ (Nat.zero_le _) (Nat.zero_le _) (zc_addIf_5_7 0 45 S354 n hn G_S354 (by omega) (by omega)) (fun S359 hP => ?_)
              obtain ⟨G_S359, fS359⟩ := hP
              have F_S359 := zz_fr.trans F_S354 fS359 rfl zz_nv
              refine zz_aload_n (x := 1077) rfl zd_5_3_141 ?_
              refine zz_bipush (by decide) zd_5_3_142 ?_
              refine zz_callVV [zi 10] zd_5_3_144 zk_Line_69 zT_1077 (zz_ltn hn rfl) rfl rfl ⟨Nat.le_of_ble_eq_true rfl, Nat.le_of_ble_eq_true rfl⟩ ⟨rfl, rfl⟩ (Nat.zero_le _) (Nat.zero_le _) (zc_addSign_5_12 10 S359 n hn G_S359 (by omega)) (fun S361 hP => ?_)
              obtain ⟨G_S361, fS361⟩ := hP
              have F_S361 := zz_fr.trans F_S359 fS361 rfl zz_nv
              exact zz_vret zd_5_3_147 rfl (Nat.zero_le _) (Nat.zero_le _) ⟨_, rfl, G_S361, F_S361⟩
            · refine zz_ldcs (t := 45) (by decide +kernel) (by decide) zd_5_3_136 ?_
              refine zz_callVV [zi 1, .ref (100 + 45)] zd_5_3_138 zk_Line_59 zT_1077 (zz_ltn hn rfl) rfl rfl ⟨Nat.le_of_ble_eq_true rfl, Nat.le_of_ble_eq_true rfl⟩ ⟨rfl, rfl⟩ (Nat.zero_le _) (Nat.zero_le _) (zc_addIf_5_7 1 45 S354 n hn G_S354 (by omega) (by omega)) (fun S363 hP => ?_)
              obtain ⟨G_S363, fS363⟩ := hP
              have F_S363 := zz_fr.trans F_S354 fS363 rfl zz_nv
              refine zz_aload_n (x := 1077) rfl zd_5_3_141 ?_
              refine zz_bipush (by decide) zd_5_3_142 ?_
              refine zz_callVV [zi 10] zd_5_3_144 zk_Line_69 zT_1077 (zz_ltn hn rfl) rfl rfl ⟨Nat.le_of_ble_eq_true rfl, Nat.le_of_ble_eq_true rfl⟩ ⟨rfl, rfl⟩ (Nat.zero_le _) (Nat.zero_le _) (zc_addSign_5_12 10 S363 n hn G_S363 (by omega)) (fun S365 hP => ?_)
              obtain ⟨G_S365, fS365⟩ := hP
              have F_S365 := zz_fr.trans F_S363 fS365 rfl zz_nv
              exact zz_vret zd_5_3_147 rfl (Nat.zero_le _) (Nat.zero_le _) ⟨_, rfl, G_S365, F_S365⟩
          · refine zz_ldcs (t := 44) (by decide +kernel) (by decide) zd_5_3_125 ?_
            refine zz_callVV [zi 1, .ref (100 + 44)] zd_5_3_127 zk_Line_59 zT_1077 (zz_ltn hn rfl) rfl rfl ⟨Nat.le_of_ble_eq_true rfl, Nat.le_of_ble_eq_true rfl⟩ ⟨rfl, rfl⟩ (Nat.zero_le _) (Nat.zero_le _) (zc_addIf_5_7 1 44 S349 n hn G_S349 (by omega) (by omega)) (fun S367 hP => ?_)
            obtain ⟨G_S367, fS367⟩ := hP
            have F_S367 := zz_fr.trans F_S349 fS367 rfl zz_nv
            refine zz_aload_n (x := 1077) rfl zd_5_3_130 ?_
            refine zz_lload_n (x := p0) rfl zd_5_3_131 ?_
            refine zz_iconst zd_5_3_132 ?_
            refine zz_callSI [zl p0, zi 4] zd_5_3_133 zk_Line_39 rfl rfl ⟨Nat.le_of_ble_eq_true rfl, Nat.le_of_ble_eq_true rfl⟩ ⟨rfl, rfl⟩ (Nat.zero_le _) (Nat.zero_le _) (zc_has_12_3 p0 4 S367 n hn G_S367 (by omega) (by omega)) (fun v370 S369 hP => ?_)
            obtain ⟨rfl, o371⟩ := hP
            rcases (by omega : v370 = 0 ∨ v370 = 1) with rfl | rfl
            · refine zz_ldcs (t := 45) (by decide +kernel) (by decide) zd_5_3_136 ?_
              refine zz_callVV [zi 0, .ref (100 + 45)] zd_5_3_138 zk_Line_59 zT_1077 (zz_ltn hn rfl) rfl rfl ⟨Nat.le_of_ble_eq_true rfl, Nat.le_of_ble_eq_true rfl⟩ ⟨rfl, rfl⟩ (Nat.zero_le _) (Nat.zero_le _) (zc_addIf_5_7 0 45 S367 n hn G_S367 (by omega) (by omega)) (fun S372 hP => ?_)
              obtain ⟨G_S372, fS372⟩ := hP
              have F_S372 := zz_fr.trans F_S367 fS372 rfl zz_nv
              refine zz_aload_n (x := 1077) rfl zd_5_3_141 ?_
              refine zz_bipush (by decide) zd_5_3_142 ?_
              refine zz_callVV [zi 10] zd_5_3_144 zk_Line_69 zT_1077 (zz_ltn hn rfl) rfl rfl ⟨Nat.le_of_ble_eq_true rfl, Nat.le_of_ble_eq_true rfl⟩ ⟨rfl, rfl⟩ (Nat.zero_le _) (Nat.zero_le _) (zc_addSign_5_12 10 S372 n hn G_S372 (by omega)) (fun S374 hP => ?_)
              obtain ⟨G_S374, fS374⟩ := hP
              have F_S374 := zz_fr.trans F_S372 fS374 rfl zz_nv
              exact zz_vret zd_5_3_147 rfl (Nat.zero_le _) (Nat.zero_le _) ⟨_, rfl, G_S374, F_S374⟩
            · refine zz_ldcs (t := 45) (by decide +kernel) (by decide) zd_5_3_136 ?_
              refine zz_callVV [zi 1, .ref (100 + 45)] zd_5_3_138 zk_Line_59 zT_1077 (zz_ltn hn rfl) rfl rfl ⟨Nat.le_of_ble_eq_true rfl, Nat.le_of_ble_eq_true rfl⟩ ⟨rfl, rfl⟩ (Nat.zero_le _) (Nat.zero_le _) (zc_addIf_5_7 1 45 S367 n hn G_S367 (by omega) (by omega)) (fun S376 hP => ?_)
              obtain ⟨G_S376, fS376⟩ := hP
              have F_S376 := zz_fr.trans F_S367 fS376 rfl zz_nv
              refine zz_aload_n (x := 1077) rfl zd_5_3_141 ?_
              refine zz_bipush (by decide) zd_5_3_142 ?_
              refine zz_callVV [zi 10] zd_5_3_144 zk_Line_69 zT_1077 (zz_ltn hn rfl) rfl rfl ⟨Nat.le_of_ble_eq_true rfl, Nat.le_of_ble_eq_true rfl⟩ ⟨rfl, rfl⟩ (Nat.zero_le _) (Nat.zero_le _) (zc_addSign_5_12 10 S376 n hn G_S376 (by omega)) (fun S378 hP => ?_)
              obtain ⟨G_S378, fS378⟩ := hP
              have F_S378 := zz_fr.trans F_S376 fS378 rfl zz_nv
              exact zz_vret zd_5_3_147 rfl (Nat.zero_le _) (Nat.zero_le _) ⟨_, rfl, G_S378, F_S378⟩
        · refine zz_ldcs (t := 43) (by decide +kernel) (by decide) zd_5_3_114 ?_
          refine zz_callVV [zi 1, .ref (100 + 43)] zd_5_3_116 zk_Line_59 zT_1077 (zz_ltn hn rfl) rfl rfl ⟨Nat.le_of_ble_eq_true rfl, Nat.le_of_ble_eq_true rfl⟩ ⟨rfl, rfl⟩ (Nat.zero_le _) (Nat.zero_le _) (zc_addIf_5_7 1 43 S344 n hn G_S344 (by omega) (by omega)) (fun S380 hP => ?_)
          obtain ⟨G_S380, fS380⟩ := hP
          have F_S380 := zz_fr.trans F_S344 fS380 rfl zz_nv
          refine zz_aload_n (x := 1077) rfl zd_5_3_119 ?_
          refine zz_lload_n (x := p0) rfl zd_5_3_120 ?_
          refine zz_iconst zd_5_3_121 ?_
          refine zz_callSI [zl p0, zi 3] zd_5_3_122 zk_Line_39 rfl rfl ⟨Nat.le_of_ble_eq_true rfl, Nat.le_of_ble_eq_true rfl⟩ ⟨rfl, rfl⟩ (Nat.zero_le _) (Nat.zero_le _) (zc_has_12_3 p0 3 S380 n hn G_S380 (by omega) (by omega)) (fun v383 S382 hP => ?_)
          obtain ⟨rfl, o384⟩ := hP
          rcases (by omega : v383 = 0 ∨ v383 = 1) with rfl | rfl
          · refine zz_ldcs (t := 44) (by decide +kernel) (by decide) zd_5_3_125 ?_
            refine zz_callVV [zi 0, .ref (100 + 44)] zd_5_3_127 zk_Line_59 zT_1077 (zz_ltn hn rfl) rfl rfl ⟨Nat.le_of_ble_eq_true rfl, Nat.le_of_ble_eq_true rfl⟩ ⟨rfl, rfl⟩ (Nat.zero_le _) (Nat.zero_le _) (zc_addIf_5_7 0 44 S380 n hn G_S380 (by omega) (by omega)) (fun S385 hP => ?_)
            obtain ⟨G_S385, fS385⟩ := hP
            have F_S385 := zz_fr.trans F_S380 fS385 rfl zz_nv
            refine zz_aload_n (x := 1077) rfl zd_5_3_130 ?_
            refine zz_lload_n (x := p0) rfl zd_5_3_131 ?_
            refine zz_iconst zd_5_3_132 ?_
            refine zz_callSI [zl p0, zi 4] zd_5_3_133 zk_Line_39 rfl rfl ⟨Nat.le_of_ble_eq_true rfl, Nat.le_of_ble_eq_true rfl⟩ ⟨rfl, rfl⟩ (Nat.zero_le _) (Nat.zero_le _) (zc_has_12_3 p0 4 S385 n hn G_S385 (by omega) (by omega)) (fun v388 S387 hP => ?_)
            obtain ⟨rfl, o389⟩ := hP
            rcases (by omega : v388 = 0 ∨ v388 = 1) with rfl | rfl
            · refine zz_ldcs (t := 45) (by decide +kernel) (by decide) zd_5_3_136 ?_
              refine zz_callVV [zi 0, .ref (100 + 45)] zd_5_3_138 zk_Line_59 zT_1077 (zz_ltn hn rfl) rfl rfl ⟨Nat.le_of_ble_eq_true rfl, Nat.le_of_ble_eq_true rfl⟩ ⟨rfl, rfl⟩ (Nat.zero_le _) (Nat.zero_le _) (zc_addIf_5_7 0 45 S385 n hn G_S385 (by omega) (by omega)) (fun S390 hP => ?_)
              obtain ⟨G_S390, fS390⟩ := hP
              have F_S390 := zz_fr.trans F_S385 fS390 rfl zz_nv
              refine zz_aload_n (x := 1077) rfl zd_5_3_141 ?_
              refine zz_bipush (by decide) zd_5_3_142 ?_
              refine zz_callVV [zi 10] zd_5_3_144 zk_Line_69 zT_1077 (zz_ltn hn rfl) rfl rfl ⟨Nat.le_of_ble_eq_true rfl, Nat.le_of_ble_eq_true rfl⟩ ⟨rfl, rfl⟩ (Nat.zero_le _) (Nat.zero_le _) (zc_addSign_5_12 10 S390 n hn G_S390 (by omega)) (fun S392 hP => ?_)
              obtain ⟨G_S392, fS392⟩ := hP
              have F_S392 := zz_fr.trans F_S390 fS392 rfl zz_nv
              exact zz_vret zd_5_3_147 rfl (Nat.zero_le _) (Nat.zero_le _) ⟨_, rfl, G_S392, F_S392⟩
            · refine zz_ldcs (t := 45) (by decide +kernel) (by decide) zd_5_3_136 ?_
              refine zz_callVV [zi 1, .ref (100 + 45)] zd_5_3_138 zk_Line_59 zT_1077 (zz_ltn hn rfl) rfl rfl ⟨Nat.le_of_ble_eq_true rfl, Nat.le_of_ble_eq_true rfl⟩ ⟨rfl, rfl⟩ (Nat.zero_le _) (Nat.zero_le _) (zc_addIf_5_7 1 45 S385 n hn G_S385 (by omega) (by omega)) (fun S394 hP => ?_)
              obtain ⟨G_S394, fS394⟩ := hP
              have F_S394 := zz_fr.trans F_S385 fS394 rfl zz_nv
              refine zz_aload_n (x := 1077) rfl zd_5_3_141 ?_
              refine zz_bipush (by decide) zd_5_3_142 ?_
              refine zz_callVV [zi 10] zd_5_3_144 zk_Line_69 zT_1077 (zz_ltn hn rfl) rfl rfl ⟨Nat.le_of_ble_eq_true rfl, Nat.le_of_ble_eq_true rfl⟩ ⟨rfl, rfl⟩ (Nat.zero_le _) (Nat.zero_le _) (zc_addSign_5_12 10 S394 n hn G_S394 (by omega)) (fun S396 hP => ?_)
              obtain ⟨G_S396, fS396⟩ := hP
              have F_S396 := zz_fr.trans F_S394 fS396 rfl zz_nv
              exact zz_vret zd_5_3_147 rfl (Nat.zero_le _) (Nat.zero_le _) ⟨_, rfl, G_S396, F_S396⟩
          · refine zz_ldcs (t := 44) (by decide +kernel) (by decide) zd_5_3_125 ?_
            refine zz_callVV [zi 1, .ref (100 + 44)] zd_5_3_127 zk_Line_59 zT_1077 (zz_ltn hn rfl) rfl rfl ⟨Nat.le_of_ble_eq_true rfl, Nat.le_of_ble_eq_true rfl⟩ ⟨rfl, rfl⟩ (Nat.zero_le _) (Nat.zero_le _) (zc_addIf_5_7 1 44 S380 n hn G_S380 (by omega) (by omega)) (fun S398 hP => ?_)
            obtain ⟨G_S398, fS398⟩ := hP
            have F_S398 := zz_fr.trans F_S380 fS398 rfl zz_nv
            refine zz_aload_n (x := 1077) rfl zd_5_3_130 ?_
            refine zz_lload_n (x := p0) rfl zd_5_3_131 ?_
            refine zz_iconst zd_5_3_132 ?_
            refine zz_callSI [zl p0, zi 4] zd_5_3_133 zk_Line_39 rfl rfl ⟨Nat.le_of_ble_eq_true rfl, Nat.le_of_ble_eq_true rfl⟩ ⟨rfl, rfl⟩ (Nat.zero_le _) (Nat.zero_le _) (zc_has_12_3 p0 4 S398 n hn G_S398 (by omega) (by omega)) (fun v401 S400 hP => ?_)
            obtain ⟨rfl, o402⟩ := hP
            rcases (by omega : v401 = 0 ∨ v401 = 1) with rfl | rfl
            · refine zz_ldcs (t := 45) (by decide +kernel) (by decide) zd_5_3_136 ?_
              refine zz_callVV [zi 0, .ref (100 + 45)] zd_5_3_138 zk_Line_59 zT_1077 (zz_ltn hn rfl) rfl rfl ⟨Nat.le_of_ble_eq_true rfl, Nat.le_of_ble_eq_true rfl⟩ ⟨rfl, rfl⟩ (Nat.zero_le _) (Nat.zero_le _) (zc_addIf_5_7 0 45 S398 n hn G_S398 (by omega) (by omega)) (fun S403 hP => ?_)
              obtain ⟨G_S403, fS403⟩ := hP
              have F_S403 := zz_fr.trans F_S398 fS403 rfl zz_nv
              refine zz_aload_n (x := 1077) rfl zd_5_3_141 ?_
              refine zz_bipush (by decide) zd_5_3_142 ?_
              refine zz_callVV [zi 10] zd_5_3_144 zk_Line_69 zT_1077 (zz_ltn hn rfl) rfl rfl ⟨Nat.le_of_ble_eq_true rfl, Nat.le_of_ble_eq_true rfl⟩ ⟨rfl, rfl⟩ (Nat.zero_le _) (Nat.zero_le _) (zc_addSign_5_12 10 S403 n hn G_S403 (by omega)) (fun S405 hP => ?_)
              obtain ⟨G_S405, fS405⟩ := hP
              have F_S405 := zz_fr.trans F_S403 fS405 rfl zz_nv
              exact zz_vret zd_5_3_147 rfl (Nat.zero_le _) (Nat.zero_le _) ⟨_, rfl, G_S405, F_S405⟩
            · refine zz_ldcs (t := 45) (by decide +kernel) (by decide) zd_5_3_136 ?_
              refine zz_callVV [zi 1, .ref (100 + 45)] zd_5_3_138 zk_Line_59 zT_1077 (zz_ltn hn rfl) rfl rfl ⟨Nat.le_of_ble_eq_true rfl, Nat.le_of_ble_eq_true rfl⟩ ⟨rfl, rfl⟩ (Nat.zero_le _) (Nat.zero_le _) (zc_addIf_5_7 1 45 S398 n hn G_S398 (by omega) (by omega)) (fun S407 hP => ?_)
              obtain ⟨G_S407, fS407⟩ := hP
              have F_S407 := zz_fr.trans F_S398 fS407 rfl zz_nv
              refine zz_aload_n (x := 1077) rfl zd_5_3_141 ?_
              refine zz_bipush (by decide) zd_5_3_142 ?_
              refine zz_callVV [zi 10] zd_5_3_144 zk_Line_69 zT_1077 (zz_ltn hn rfl) rfl rfl ⟨Nat.le_of_ble_eq_true rfl, Nat.le_of_ble_eq_true rfl⟩ ⟨rfl, rfl⟩ (Nat.zero_le _) (Nat.zero_le _) (zc_addSign_5_12 10 S407 n hn G_S407 (by omega)) (fun S409 hP => ?_)
              obtain ⟨G_S409, fS409⟩ := hP
              have F_S409 := zz_fr.trans F_S407 fS409 rfl zz_nv
              exact zz_vret zd_5_3_147 rfl (Nat.zero_le _) (Nat.zero_le _) ⟨_, rfl, G_S409, F_S409⟩
      · refine zz_ldcs (t := 42) (by decide +kernel) (by decide) zd_5_3_103 ?_
        refine zz_callVV [zi 1, .ref (100 + 42)] zd_5_3_105 zk_Line_59 zT_1077 (zz_ltn hn rfl) rfl rfl ⟨Nat.le_of_ble_eq_true rfl, Nat.le_of_ble_eq_true rfl⟩ ⟨rfl, rfl⟩ (Nat.zero_le _) (Nat.zero_le _) (zc_addIf_5_7 1 42 S339 n hn G_S339 (by omega) (by omega)) (fun S411 hP => ?_)
        obtain ⟨G_S411, fS411⟩ := hP
        have F_S411 := zz_fr.trans F_S339 fS411 rfl zz_nv
        refine zz_aload_n (x := 1077) rfl zd_5_3_108 ?_
        refine zz_lload_n (x := p0) rfl zd_5_3_109 ?_
        refine zz_iconst zd_5_3_110 ?_
        refine zz_callSI [zl p0, zi 2] zd_5_3_111 zk_Line_39 rfl rfl ⟨Nat.le_of_ble_eq_true rfl, Nat.le_of_ble_eq_true rfl⟩ ⟨rfl, rfl⟩ (Nat.zero_le _) (Nat.zero_le _) (zc_has_12_3 p0 2 S411 n hn G_S411 (by omega) (by omega)) (fun v414 S413 hP => ?_)
        obtain ⟨rfl, o415⟩ := hP
        rcases (by omega : v414 = 0 ∨ v414 = 1) with rfl | rfl
        · refine zz_ldcs (t := 43) (by decide +kernel) (by decide) zd_5_3_114 ?_
          refine zz_callVV [zi 0, .ref (100 + 43)] zd_5_3_116 zk_Line_59 zT_1077 (zz_ltn hn rfl) rfl rfl ⟨Nat.le_of_ble_eq_true rfl, Nat.le_of_ble_eq_true rfl⟩ ⟨rfl, rfl⟩ (Nat.zero_le _) (Nat.zero_le _) (zc_addIf_5_7 0 43 S411 n hn G_S411 (by omega) (by omega)) (fun S416 hP => ?_)
          obtain ⟨G_S416, fS416⟩ := hP
          have F_S416 := zz_fr.trans F_S411 fS416 rfl zz_nv
          refine zz_aload_n (x := 1077) rfl zd_5_3_119 ?_
          refine zz_lload_n (x := p0) rfl zd_5_3_120 ?_
          refine zz_iconst zd_5_3_121 ?_
          refine zz_callSI [zl p0, zi 3] zd_5_3_122 zk_Line_39 rfl rfl ⟨Nat.le_of_ble_eq_true rfl, Nat.le_of_ble_eq_true rfl⟩ ⟨rfl, rfl⟩ (Nat.zero_le _) (Nat.zero_le _) (zc_has_12_3 p0 3 S416 n hn G_S416 (by omega) (by omega)) (fun v419 S418 hP => ?_)
          obtain ⟨rfl, o420⟩ := hP
          rcases (by omega : v419 = 0 ∨ v419 = 1) with rfl | rfl
          · refine zz_ldcs (t := 44) (by decide +kernel) (by decide) zd_5_3_125 ?_
            refine zz_callVV [zi 0, .ref (100 + 44)] zd_5_3_127 zk_Line_59 zT_1077 (zz_ltn hn rfl) rfl rfl ⟨Nat.le_of_ble_eq_true rfl, Nat.le_of_ble_eq_true rfl⟩ ⟨rfl, rfl⟩ (Nat.zero_le _) (Nat.zero_le _) (zc_addIf_5_7 0 44 S416 n hn G_S416 (by omega) (by omega)) (fun S421 hP => ?_)
            obtain ⟨G_S421, fS421⟩ := hP
            have F_S421 := zz_fr.trans F_S416 fS421 rfl zz_nv
            refine zz_aload_n (x := 1077) rfl zd_5_3_130 ?_
            refine zz_lload_n (x := p0) rfl zd_5_3_131 ?_
            refine zz_iconst zd_5_3_132 ?_
            refine zz_callSI [zl p0, zi 4] zd_5_3_133 zk_Line_39 rfl rfl ⟨Nat.le_of_ble_eq_true rfl, Nat.le_of_ble_eq_true rfl⟩ ⟨rfl, rfl⟩ (Nat.zero_le _) (Nat.zero_le _) (zc_has_12_3 p0 4 S421 n hn G_S421 (by omega) (by omega)) (fun v424 S423 hP => ?_)
            obtain ⟨rfl, o425⟩ := hP
            rcases (by omega : v424 = 0 ∨ v424 = 1) with rfl | rfl
            · refine zz_ldcs (t := 45) (by decide +kernel) (by decide) zd_5_3_136 ?_
              refine zz_callVV [zi 0, .ref (100 + 45)] zd_5_3_138 zk_Line_59 zT_1077 (zz_ltn hn rfl) rfl rfl ⟨Nat.le_of_ble_eq_true rfl, Nat.le_of_ble_eq_true rfl⟩ ⟨rfl, rfl⟩ (Nat.zero_le _) (Nat.zero_le _) (zc_addIf_5_7 0 45 S421 n hn G_S421 (by omega) (by omega)) (fun S426 hP => ?_)
              obtain ⟨G_S426, fS426⟩ := hP
              have F_S426 := zz_fr.trans F_S421 fS426 rfl zz_nv
              refine zz_aload_n (x := 1077) rfl zd_5_3_141 ?_
              refine zz_bipush (by decide) zd_5_3_142 ?_
              refine zz_callVV [zi 10] zd_5_3_144 zk_Line_69 zT_1077 (zz_ltn hn rfl) rfl rfl ⟨Nat.le_of_ble_eq_true rfl, Nat.le_of_ble_eq_true rfl⟩ ⟨rfl, rfl⟩ (Nat.zero_le _) (Nat.zero_le _) (zc_addSign_5_12 10 S426 n hn G_S426 (by omega)) (fun S428 hP => ?_)
              obtain ⟨G_S428, fS428⟩ := hP
              have F_S428 := zz_fr.trans F_S426 fS428 rfl zz_nv
              exact zz_vret zd_5_3_147 rfl (Nat.zero_le _) (Nat.zero_le _) ⟨_, rfl, G_S428, F_S428⟩
            · refine zz_ldcs (t := 45) (by decide +kernel) (by decide) zd_5_3_136 ?_
              refine zz_callVV [zi 1, .ref (100 + 45)] zd_5_3_138 zk_Line_59 zT_1077 (zz_ltn hn rfl) rfl rfl ⟨Nat.le_of_ble_eq_true rfl, Nat.le_of_ble_eq_true rfl⟩ ⟨rfl, rfl⟩ (Nat.zero_le _) (Nat.zero_le _) (zc_addIf_5_7 1 45 S421 n hn G_S421 (by omega) (by omega)) (fun S430 hP => ?_)
              obtain ⟨G_S430, fS430⟩ := hP
              have F_S430 := zz_fr.trans F_S421 fS430 rfl zz_nv
              refine zz_aload_n (x := 1077) rfl zd_5_3_141 ?_
              refine zz_bipush (by decide) zd_5_3_142 ?_
              refine zz_callVV [zi 10] zd_5_3_144 zk_Line_69 zT_1077 (zz_ltn hn rfl) rfl rfl ⟨Nat.le_of_ble_eq_true rfl, Nat.le_of_ble_eq_true rfl⟩ ⟨rfl, rfl⟩ (Nat.zero_le _) (Nat.zero_le _) (zc_addSign_5_12 10 S430 n hn G_S430 (by omega)) (fun S432 hP => ?_)
              obtain ⟨G_S432, fS432⟩ := hP
              have F_S432 := zz_fr.trans F_S430 fS432 rfl zz_nv
              exact zz_vret zd_5_3_147 rfl (Nat.zero_le _) (Nat.zero_le _) ⟨_, rfl, G_S432, F_S432⟩
          · refine zz_ldcs (t := 44) (by decide +kernel) (by decide) zd_5_3_125 ?_
            refine zz_callVV [zi 1, .ref (100 + 44)] zd_5_3_127 zk_Line_59 zT_1077 (zz_ltn hn rfl) rfl rfl ⟨Nat.le_of_ble_eq_true rfl, Nat.le_of_ble_eq_true rfl⟩ ⟨rfl, rfl⟩ (Nat.zero_le _) (Nat.zero_le _) (zc_addIf_5_7 1 44 S416 n hn G_S416 (by omega) (by omega)) (fun S434 hP => ?_)
            obtain ⟨G_S434, fS434⟩ := hP
            have F_S434 := zz_fr.trans F_S416 fS434 rfl zz_nv
            refine zz_aload_n (x := 1077) rfl zd_5_3_130 ?_
            refine zz_lload_n (x := p0) rfl zd_5_3_131 ?_
            refine zz_iconst zd_5_3_132 ?_
            refine zz_callSI [zl p0, zi 4] zd_5_3_133 zk_Line_39 rfl rfl ⟨Nat.le_of_ble_eq_true rfl, Nat.le_of_ble_eq_true rfl⟩ ⟨rfl, rfl⟩ (Nat.zero_le _) (Nat.zero_le _) (zc_has_12_3 p0 4 S434 n hn G_S434 (by omega) (by omega)) (fun v437 S436 hP => ?_)
            obtain ⟨rfl, o438⟩ := hP
            rcases (by omega : v437 = 0 ∨ v437 = 1) with rfl | rfl
            · refine zz_ldcs (t := 45) (by decide +kernel) (by decide) zd_5_3_136 ?_
              refine zz_callVV [zi 0, .ref (100 + 45)] zd_5_3_138 zk_Line_59 zT_1077 (zz_ltn hn rfl) rfl rfl ⟨Nat.le_of_ble_eq_true rfl, Nat.le_of_ble_eq_true rfl⟩ ⟨rfl, rfl⟩ (Nat.zero_le _) (Nat.zero_le _) (zc_addIf_5_7 0 45 S434 n hn G_S434 (by omega) (by omega)) (fun S439 hP => ?_)
              obtain ⟨G_S439, fS439⟩ := hP
              have F_S439 := zz_fr.trans F_S434 fS439 rfl zz_nv
              refine zz_aload_n (x := 1077) rfl zd_5_3_141 ?_
              refine zz_bipush (by decide) zd_5_3_142 ?_
              refine zz_callVV [zi 10] zd_5_3_144 zk_Line_69 zT_1077 (zz_ltn hn rfl) rfl rfl ⟨Nat.le_of_ble_eq_true rfl, Nat.le_of_ble_eq_true rfl⟩ ⟨rfl, rfl⟩ (Nat.zero_le _) (Nat.zero_le _) (zc_addSign_5_12 10 S439 n hn G_S439 (by omega)) (fun S441 hP => ?_)
              obtain ⟨G_S441, fS441⟩ := hP
              have F_S441 := zz_fr.trans F_S439 fS441 rfl zz_nv
              exact zz_vret zd_5_3_147 rfl (Nat.zero_le _) (Nat.zero_le _) ⟨_, rfl, G_S441, F_S441⟩
            · refine zz_ldcs (t := 45) (by decide +kernel) (by decide) zd_5_3_136 ?_
              refine zz_callVV [zi 1, .ref (100 + 45)] zd_5_3_138 zk_Line_59 zT_1077 (zz_ltn hn rfl) rfl rfl ⟨Nat.le_of_ble_eq_true rfl, Nat.le_of_ble_eq_true rfl⟩ ⟨rfl, rfl⟩ (Nat.zero_le _) (Nat.zero_le _) (zc_addIf_5_7 1 45 S434 n hn G_S434 (by omega) (by omega)) (fun S443 hP => ?_)
              obtain ⟨G_S443, fS443⟩ := hP
              have F_S443 := zz_fr.trans F_S434 fS443 rfl zz_nv
              refine zz_aload_n (x := 1077) rfl zd_5_3_141 ?_
              refine zz_bipush (by decide) zd_5_3_142 ?_
              refine zz_callVV [zi 10] zd_5_3_144 zk_Line_69 zT_1077 (zz_ltn hn rfl) rfl rfl ⟨Nat.le_of_ble_eq_true rfl, Nat.le_of_ble_eq_true rfl⟩ ⟨rfl, rfl⟩ (Nat.zero_le _) (Nat.zero_le _) (zc_addSign_5_12 10 S443 n hn G_S443 (by omega)) (fun S445 hP => ?_)
              obtain ⟨G_S445, fS445⟩ := hP
              have F_S445 := zz_fr.trans F_S443 fS445 rfl zz_nv
              exact zz_vret zd_5_3_147 rfl (Nat.zero_le _) (Nat.zero_le _) ⟨_, rfl, G_S445, F_S445⟩
        · refine zz_ldcs (t := 43) (by decide +kernel) (by decide) zd_5_3_114 ?_
          refine zz_callVV [zi 1, .ref (100 + 43)] zd_5_3_116 zk_Line_59 zT_1077 (zz_ltn hn rfl) rfl rfl ⟨Nat.le_of_ble_eq_true rfl, Nat.le_of_ble_eq_true rfl⟩ ⟨rfl, rfl⟩ (Nat.zero_le _) (Nat.zero_le _) (zc_addIf_5_7 1 43 S411 n hn G_S411 (by omega) (by omega)) (fun S447 hP => ?_)
          obtain ⟨G_S447, fS447⟩ := hP
          have F_S447 := zz_fr.trans F_S411 fS447 rfl zz_nv
          refine zz_aload_n (x := 1077) rfl zd_5_3_119 ?_
          refine zz_lload_n (x := p0) rfl zd_5_3_120 ?_
          refine zz_iconst zd_5_3_121 ?_
          refine zz_callSI [zl p0, zi 3] zd_5_3_122 zk_Line_39 rfl rfl ⟨Nat.le_of_ble_eq_true rfl, Nat.le_of_ble_eq_true rfl⟩ ⟨rfl, rfl⟩ (Nat.zero_le _) (Nat.zero_le _) (zc_has_12_3 p0 3 S447 n hn G_S447 (by omega) (by omega)) (fun v450 S449 hP => ?_)
          obtain ⟨rfl, o451⟩ := hP
          rcases (by omega : v450 = 0 ∨ v450 = 1) with rfl | rfl
          · refine zz_ldcs (t := 44) (by decide +kernel) (by decide) zd_5_3_125 ?_
            refine zz_callVV [zi 0, .ref (100 + 44)] zd_5_3_127 zk_Line_59 zT_1077 (zz_ltn hn rfl) rfl rfl ⟨Nat.le_of_ble_eq_true rfl, Nat.le_of_ble_eq_true rfl⟩ ⟨rfl, rfl⟩ (Nat.zero_le _) (Nat.zero_le _) (zc_addIf_5_7 0 44 S447 n hn G_S447 (by omega) (by omega)) (fun S452 hP => ?_)
            obtain ⟨G_S452, fS452⟩ := hP
            have F_S452 := zz_fr.trans F_S447 fS452 rfl zz_nv
            refine zz_aload_n (x := 1077) rfl zd_5_3_130 ?_
            refine zz_lload_n (x := p0) rfl zd_5_3_131 ?_
            refine zz_iconst zd_5_3_132 ?_
            refine zz_callSI [zl p0, zi 4] zd_5_3_133 zk_Line_39 rfl rfl ⟨Nat.le_of_ble_eq_true rfl, Nat.le_of_ble_eq_true rfl⟩ ⟨rfl, rfl⟩ (Nat.zero_le _) (Nat.zero_le _) (zc_has_12_3 p0 4 S452 n hn G_S452 (by omega) (by omega)) (fun v455 S454 hP => ?_)
            obtain ⟨rfl, o456⟩ := hP
            rcases (by omega : v455 = 0 ∨ v455 = 1) with rfl | rfl
            · refine zz_ldcs (t := 45) (by decide +kernel) (by decide) zd_5_3_136 ?_
              refine zz_callVV [zi 0, .ref (100 + 45)] zd_5_3_138 zk_Line_59 zT_1077 (zz_ltn hn rfl) rfl rfl ⟨Nat.le_of_ble_eq_true rfl, Nat.le_of_ble_eq_true rfl⟩ ⟨rfl, rfl⟩ (Nat.zero_le _) (Nat.zero_le _) (zc_addIf_5_7 0 45 S452 n hn G_S452 (by omega) (by omega)) (fun S457 hP => ?_)
              obtain ⟨G_S457, fS457⟩ := hP
              have F_S457 := zz_fr.trans F_S452 fS457 rfl zz_nv
              refine zz_aload_n (x := 1077) rfl zd_5_3_141 ?_
              refine zz_bipush (by decide) zd_5_3_142 ?_
              refine zz_callVV [zi 10] zd_5_3_144 zk_Line_69 zT_1077 (zz_ltn hn rfl) rfl rfl ⟨Nat.le_of_ble_eq_true rfl, Nat.le_of_ble_eq_true rfl⟩ ⟨rfl, rfl⟩ (Nat.zero_le _) (Nat.zero_le _) (zc_addSign_5_12 10 S457 n hn G_S457 (by omega)) (fun S459 hP => ?_)
              obtain ⟨G_S459, fS459⟩ := hP
              have F_S459 := zz_fr.trans F_S457 fS459 rfl zz_nv
              exact zz_vret zd_5_3_147 rfl (Nat.zero_le _) (Nat.zero_le _) ⟨_, rfl, G_S459, F_S459⟩
            · refine zz_ldcs (t := 45) (by decide +kernel) (by decide) zd_5_3_136 ?_
              refine zz_callVV [zi 1, .ref (100 + 45)] zd_5_3_138 zk_Line_59 zT_1077 (zz_ltn hn rfl) rfl rfl ⟨Nat.le_of_ble_eq_true rfl, Nat.le_of_ble_eq_true rfl⟩ ⟨rfl, rfl⟩ (Nat.zero_le _) (Nat.zero_le _) (zc_addIf_5_7 1 45 S452 n hn G_S452 (by omega) (by omega)) (fun S461 hP => ?_)
              obtain ⟨G_S461, fS461⟩ := hP
              have F_S461 := zz_fr.trans F_S452 fS461 rfl zz_nv
              refine zz_aload_n (x := 1077) rfl zd_5_3_141 ?_
              refine zz_bipush (by decide) zd_5_3_142 ?_
              refine zz_callVV [zi 10] zd_5_3_144 zk_Line_69 zT_1077 (zz_ltn hn rfl) rfl rfl ⟨Nat.le_of_ble_eq_true rfl, Nat.le_of_ble_eq_true rfl⟩ ⟨rfl, rfl⟩ (Nat.zero_le _) (Nat.zero_le _) (zc_addSign_5_12 10 S461 n hn G_S461 (by omega)) (fun S463 hP => ?_)
              obtain ⟨G_S463, fS463⟩ := hP
              have F_S463 := zz_fr.trans F_S461 fS463 rfl zz_nv
              exact zz_vret zd_5_3_147 rfl (Nat.zero_le _) (Nat.zero_le _) ⟨_, rfl, G_S463, F_S463⟩
          · refine zz_ldcs (t := 44) (by decide +kernel) (by decide) zd_5_3_125 ?_
            refine zz_callVV [zi 1, .ref (100 + 44)] zd_5_3_127 zk_Line_59 zT_1077 (zz_ltn hn rfl) rfl rfl ⟨Nat.le_of_ble_eq_true rfl, Nat.le_of_ble_eq_true rfl⟩ ⟨rfl, rfl⟩ (Nat.zero_le _) (Nat.zero_le _) (zc_addIf_5_7 1 44 S447 n hn G_S447 (by omega) (by omega)) (fun S465 hP => ?_)
            obtain ⟨G_S465, fS465⟩ := hP
            have F_S465 := zz_fr.trans F_S447 fS465 rfl zz_nv
            refine zz_aload_n (x := 1077) rfl zd_5_3_130 ?_
            refine zz_lload_n (x := p0) rfl zd_5_3_131 ?_
            refine zz_iconst zd_5_3_132 ?_
            refine zz_callSI [zl p0, zi 4] zd_5_3_133 zk_Line_39 rfl rfl ⟨Nat.le_of_ble_eq_true rfl, Nat.le_of_ble_eq_true rfl⟩ ⟨rfl, rfl⟩ (Nat.zero_le _) (Nat.zero_le _) (zc_has_12_3 p0 4 S465 n hn G_S465 (by omega) (by omega)) (fun v468 S467 hP => ?_)
            obtain ⟨rfl, o469⟩ := hP
            rcases (by omega : v468 = 0 ∨ v468 = 1) with rfl | rfl
            · refine zz_ldcs (t := 45) (by decide +kernel) (by decide) zd_5_3_136 ?_
              refine zz_callVV [zi 0, .ref (100 + 45)] zd_5_3_138 zk_Line_59 zT_1077 (zz_ltn hn rfl) rfl rfl ⟨Nat.le_of_ble_eq_true rfl, Nat.le_of_ble_eq_true rfl⟩ ⟨rfl, rfl⟩ (Nat.zero_le _) (Nat.zero_le _) (zc_addIf_5_7 0 45 S465 n hn G_S465 (by omega) (by omega)) (fun S470 hP => ?_)
              obtain ⟨G_S470, fS470⟩ := hP
              have F_S470 := zz_fr.trans F_S465 fS470 rfl zz_nv
              refine zz_aload_n (x := 1077) rfl zd_5_3_141 ?_
              refine zz_bipush (by decide) zd_5_3_142 ?_
              refine zz_callVV [zi 10] zd_5_3_144 zk_Line_69 zT_1077 (zz_ltn hn rfl) rfl rfl ⟨Nat.le_of_ble_eq_true rfl, Nat.le_of_ble_eq_true rfl⟩ ⟨rfl, rfl⟩ (Nat.zero_le _) (Nat.zero_le _) (zc_addSign_5_12 10 S470 n hn G_S470 (by omega)) (fun S472 hP => ?_)
              obtain ⟨G_S472, fS472⟩ := hP
              have F_S472 := zz_fr.trans F_S470 fS472 rfl zz_nv
              exact zz_vret zd_5_3_147 rfl (Nat.zero_le _) (Nat.zero_le _) ⟨_, rfl, G_S472, F_S472⟩
            · refine zz_ldcs (t := 45) (by decide +kernel) (by decide) zd_5_3_136 ?_
              refine zz_callVV [zi 1, .ref (100 + 45)] zd_5_3_138 zk_Line_59 zT_1077 (zz_ltn hn rfl) rfl rfl ⟨Nat.le_of_ble_eq_true rfl, Nat.le_of_ble_eq_true rfl⟩ ⟨rfl, rfl⟩ (Nat.zero_le _) (Nat.zero_le _) (zc_addIf_5_7 1 45 S465 n hn G_S465 (by omega) (by omega)) (fun S474 hP => ?_)
              obtain ⟨G_S474, fS474⟩ := hP
              have F_S474 := zz_fr.trans F_S465 fS474 rfl zz_nv
              refine zz_aload_n (x := 1077) rfl zd_5_3_141 ?_
              refine zz_bipush (by decide) zd_5_3_142 ?_
              refine zz_callVV [zi 10] zd_5_3_144 zk_Line_69 zT_1077 (zz_ltn hn rfl) rfl rfl ⟨Nat.le_of_ble_eq_true rfl, Nat.le_of_ble_eq_true rfl⟩ ⟨rfl, rfl⟩ (Nat.zero_le _) (Nat.zero_le _) (zc_addSign_5_12 10 S474 n hn G_S474 (by omega)) (fun S476 hP => ?_)
              obtain ⟨G_S476, fS476⟩ := hP
              have F_S476 := zz_fr.trans F_S474 fS476 rfl zz_nv
              exact zz_vret zd_5_3_147 rfl (Nat.zero_le _) (Nat.zero_le _) ⟨_, rfl, G_S476, F_S476⟩
    · exfalso; omega
theorem zk_TF_174 : mm_Vl "TensorForge" 174 10 1 zy_writeInstruction_5_3 := ⟨zyw_writeInstruction_5_3, (R_Line, F_Line, 2), rfl, mm_tb_1 1252 (by decide +kernel) rfl, mm_tb_1 1253 (by decide +kernel) rfl, mm_tb_1 1254 (by decide +kernel) rfl⟩
abbrev zy_signAt_5_2 : mm_Y := (⟨"TensorForge$Line", "signAt", "(I)I"⟩, prog_5_method_2_code, 2, (some .int))
theorem zyw_signAt_5_2 : mm_Yw zy_signAt_5_2 1 := ⟨mm_tb_1 1303 (by decide +kernel) rfl, mm_tb_1 11 (by decide +kernel) rfl, ⟨by decide, by decide⟩, by decide +kernel⟩
theorem zg_1_14_39 : (decode zy_listing_1_14.2.1 39 = .ok ((.aload_n 0), 1)) ∧ (decode zy_listing_1_14.2.1 40 = .ok ((.getfield 83), 3)) ∧ (decode zy_listing_1_14.2.1 43 = .ok ((.iload_n 2), 1)) ∧ (decode zy_listing_1_14.2.1 44 = .ok ((.invokevirtual 178), 3)) := by decide +kernel
theorem zd_1_14_39 : zz_D zy_listing_1_14 39 (.aload_n 0) 1 40 := ⟨zg_1_14_39.1, rfl⟩
theorem zd_1_14_40 : zz_D zy_listing_1_14 40 (.getfield 83) 3 43 := ⟨zg_1_14_39.2.1, rfl⟩
theorem zd_1_14_43 : zz_D zy_listing_1_14 43 (.iload_n 2) 1 44 := ⟨zg_1_14_39.2.2.1, rfl⟩
theorem zd_1_14_44 : zz_D zy_listing_1_14 44 (.invokevirtual 178) 3 47 := ⟨zg_1_14_39.2.2.2, rfl⟩
theorem zg_5_2_0 : (decode zy_signAt_5_2.2.1 0 = .ok ((.iload_n 1), 1)) ∧ (decode zy_signAt_5_2.2.1 1 = .ok ((Instr.ifCond .lt) 11, 3)) ∧ (decode zy_signAt_5_2.2.1 12 = .ok ((.iconst (-1)), 1)) ∧ (decode zy_signAt_5_2.2.1 13 = .ok (Instr.goto 9, 3)) ∧ (decode zy_signAt_5_2.2.1 22 = .ok ((.ireturn), 1)) ∧ (decode zy_signAt_5_2.2.1 4 = .ok ((.iload_n 1), 1)) ∧ (decode zy_signAt_5_2.2.1 5 = .ok ((.aload_n 0), 1)) ∧ (decode zy_signAt_5_2.2.1 6 = .ok ((.getfield 15), 3)) ∧ (decode zy_signAt_5_2.2.1 9 = .ok ((Instr.if_icmp .lt) 7, 3)) ∧ (decode zy_signAt_5_2.2.1 16 = .ok ((.aload_n 0), 1)) := by decide +kernel
theorem zd_5_2_0 : zz_D zy_signAt_5_2 0 (.iload_n 1) 1 1 := ⟨zg_5_2_0.1, rfl⟩
theorem zd_5_2_1 : zz_B zy_signAt_5_2 1 (Instr.ifCond .lt) 12 4 := ⟨11, zg_5_2_0.2.1, rfl, rfl⟩
theorem zd_5_2_12 : zz_D zy_signAt_5_2 12 (.iconst (-1)) 1 13 := ⟨zg_5_2_0.2.2.1, rfl⟩
theorem zd_5_2_13 : zz_B zy_signAt_5_2 13 Instr.goto 22 16 := ⟨9, zg_5_2_0.2.2.2.1, rfl, rfl⟩
theorem zd_5_2_22 : zz_D zy_signAt_5_2 22 (.ireturn) 1 23 := ⟨zg_5_2_0.2.2.2.2.1, rfl⟩
theorem zd_5_2_4 : zz_D zy_signAt_5_2 4 (.iload_n 1) 1 5 := ⟨zg_5_2_0.2.2.2.2.2.1, rfl⟩
theorem zd_5_2_5 : zz_D zy_signAt_5_2 5 (.aload_n 0) 1 6 := ⟨zg_5_2_0.2.2.2.2.2.2.1, rfl⟩
theorem zd_5_2_6 : zz_D zy_signAt_5_2 6 (.getfield 15) 3 9 := ⟨zg_5_2_0.2.2.2.2.2.2.2.1, rfl⟩
theorem zd_5_2_9 : zz_B zy_signAt_5_2 9 (Instr.if_icmp .lt) 16 12 := ⟨7, zg_5_2_0.2.2.2.2.2.2.2.2.1, rfl, rfl⟩
theorem zd_5_2_16 : zz_D zy_signAt_5_2 16 (.aload_n 0) 1 17 := ⟨zg_5_2_0.2.2.2.2.2.2.2.2.2, rfl⟩
theorem zg_5_2_17 : (decode zy_signAt_5_2.2.1 17 = .ok ((.getfield 11), 3)) ∧ (decode zy_signAt_5_2.2.1 20 = .ok ((.iload_n 1), 1)) ∧ (decode zy_signAt_5_2.2.1 21 = .ok ((.caload), 1)) := by decide +kernel
theorem zd_5_2_17 : zz_D zy_signAt_5_2 17 (.getfield 11) 3 20 := ⟨zg_5_2_17.1, rfl⟩
theorem zd_5_2_20 : zz_D zy_signAt_5_2 20 (.iload_n 1) 1 21 := ⟨zg_5_2_17.2.1, rfl⟩
theorem zd_5_2_21 : zz_D zy_signAt_5_2 21 (.caload) 1 22 := ⟨zg_5_2_17.2.2, rfl⟩
-- TensorForge$Line signAt (I)I
abbrev zr_signAt_5_2 : Room := { frames := 0, cells := 0, slots := 0, locals := 0 }
def zp_signAt_5_2 (p0 : Int) (S0 : zz_S) : Int → zz_S → Prop := fun r S => S0 = S ∧ ((-2147483648) ≤ r ∧ r ≤ 2147483647)
theorem zc_signAt_5_2 {g : mm_G} {l : Launch} (p0 : Int) (S0 : zz_S) (n : Nat) (hn : zz_end ≤ n) (G_S0 : zz_G S0) (hp0 : (-2147483648) ≤ p0 ∧ p0 ≤ 2147483647) : mm_Met g l zy_signAt_5_2 zr_signAt_5_2 [.ref 1077, zi p0] (zz_M S0 n) n (zz_QI n (zp_signAt_5_2 p0 S0)) := by
  refine zz_enter (by decide) (Nat.le_of_ble_eq_true rfl) (zz_less (ls1 := [some (.ref 1077), some (zi p0)]) ⟨rfl, ⟨rfl, trivial⟩⟩ ?_)
  refine zz_iload_n (x := p0) rfl zd_5_2_0 ?_
  refine zz_if_lt (by omega) zd_5_2_1 (fun c1 => ?_) (fun c1 => ?_)
  · refine zz_iconst zd_5_2_12 ?_
    refine zz_goto zd_5_2_13 ?_
    exact zz_iret zd_5_2_22 rfl (Nat.zero_le _) (Nat.zero_le _) ⟨_, _, rfl, rfl, by omega⟩
  · refine zz_iload_n (x := p0) rfl zd_5_2_4 ?_
    refine zz_aload_n (x := 1077) rfl zd_5_2_5 ?_
    have g2 := zz_G.r G_S0 1077 1 0 128 rfl rfl
    refine zz_geti (z := S0 1077 1) zd_5_2_6 zf_Line_15 zT_1077 rfl (zz_ltn hn rfl) rfl ?_
    refine zz_icmp_lt (by omega) (by omega) zd_5_2_9 (fun c3 => ?_) (fun c3 => ?_)
    · refine zz_aload_n (x := 1077) rfl zd_5_2_16 ?_
      refine zz_getr (kd := 0) (z := 1078) zd_5_2_17 zf_Line_11 zT_1077 rfl (zz_ltn hn rfl) (zz_G.eq G_S0 1077 0 1078 rfl rfl) (by decide) 1078 rfl ?_
      refine zz_iload_n (x := p0) rfl zd_5_2_20 ?_
      have g4 := zz_G.r G_S0 1078 p0.toNat 0 65535 rfl rfl
      refine zz_cald (z := S0 1078 p0.toNat) zd_5_2_21 zT_1078 rfl (zz_ltn hn rfl) (by decide) (by omega) rfl ?_
      exact zz_iret zd_5_2_22 rfl (Nat.zero_le _) (Nat.zero_le _) ⟨_, _, rfl, rfl, by omega⟩
    · refine zz_iconst zd_5_2_12 ?_
      refine zz_goto zd_5_2_13 ?_
      exact zz_iret zd_5_2_22 rfl (Nat.zero_le _) (Nat.zero_le _) ⟨_, _, rfl, rfl, by omega⟩
theorem zk_TF_178 : mm_Vl "TensorForge" 178 10 1 zy_signAt_5_2 := ⟨zyw_signAt_5_2, (R_Line, F_Line, 2), rfl, mm_tb_1 1300 (by decide +kernel) rfl, mm_tb_1 1301 (by decide +kernel) rfl, mm_tb_1 1302 (by decide +kernel) rfl⟩
theorem zd_1_14_47 : zz_D zy_listing_1_14 47 (.ireturn) 1 48 := ⟨by decide +kernel, rfl⟩
-- TensorForge listing (II)I
abbrev zr_listing_1_14 : Room := { frames := 8, cells := 1, slots := 6, locals := 112 }
def zp_listing_1_14 (p0 : Int) (p1 : Int) (S0 : zz_S) : Int → zz_S → Prop := fun r S => zz_G S ∧ zz_fr [(1077, 1)] [1078] (fun _ _ => False) S0 S ∧ ((-2147483648) ≤ r ∧ r ≤ 2147483647)
def zx_listing_1_14 (p0 : Int) (p1 : Int) (S0 : zz_S) : Nat → zz_S → Prop := fun i S => zz_G S ∧ zz_fr [(1077, 1)] [1078] (fun _ _ => False) S0 S ∧ (i < 4) ∧ (i = 1)
theorem zc_listing_1_14 {g : mm_G} {l : Launch} (p0 : Int) (p1 : Int) (S0 : zz_S) (n : Nat) (hn : zz_end ≤ n) (hfl : l.flags = flags0) (G_S0 : zz_G S0) (hp0 : (-2147483648) ≤ p0 ∧ p0 ≤ 2147483647) (hp1 : (-2147483648) ≤ p1 ∧ p1 ≤ 2147483647) : mm_Met g l zy_listing_1_14 zr_listing_1_14 [.ref 1000, zi p0, zi p1] (zz_M S0 n) n (zz_XI n (zp_listing_1_14 p0 p1 S0) (zx_listing_1_14 p0 p1 S0)) := by
  refine zz_enter (by decide) (Nat.le_of_ble_eq_true rfl) (zz_less (ls1 := [some (.ref 1000), some (zi p0), some (zi p1)]) ⟨rfl, ⟨rfl, ⟨rfl, trivial⟩⟩⟩ ?_)
  have F_S0 : zz_fr [(1077, 1)] [1078] (fun _ _ => False) S0 S0 := zz_fr.refl
  refine zz_iload_n (x := p0) rfl zd_1_14_0 ?_
  refine zz_if_lt (by omega) zd_1_14_1 (fun c1 => ?_) (fun c1 => ?_)
  · exact zz_throw (i := 1) hfl hn zt_1_14_16 zyw_listing_1_14 zxl_TF_101_172_105 (Nat.le_of_ble_eq_true rfl) (Nat.le_of_ble_eq_true rfl) ⟨Nat.le_of_ble_eq_true rfl, Nat.le_of_ble_eq_true rfl⟩ (Or.inr ⟨_, _, rfl, G_S0, F_S0, by omega, by omega⟩)
  · refine zz_iload_n (x := p0) rfl zd_1_14_4 ?_
    refine zz_aload_n (x := 1000) rfl zd_1_14_5 ?_
    have g2 := zz_G.r G_S0 1000 11 0 600 rfl rfl
    refine zz_geti (z := S0 1000 11) zd_1_14_6 zf_TF_26 zT_1000 rfl (zz_ltn hn rfl) rfl ?_
    refine zz_icmp_ge (by omega) (by omega) zd_1_14_9 (fun c3 => ?_) (fun c3 => ?_)
    · exact zz_throw (i := 1) hfl hn zt_1_14_16 zyw_listing_1_14 zxl_TF_101_172_105 (Nat.le_of_ble_eq_true rfl) (Nat.le_of_ble_eq_true rfl) ⟨Nat.le_of_ble_eq_true rfl, Nat.le_of_ble_eq_true rfl⟩ (Or.inr ⟨_, _, rfl, G_S0, F_S0, by omega, by omega⟩)
    · refine zz_iload_n (x := p1) rfl zd_1_14_12 ?_
      refine zz_if_ge (by omega) zd_1_14_13 (fun c4 => ?_) (fun c4 => ?_)
      · refine zz_aload_n (x := 1000) rfl zd_1_14_26 ?_
        refine zz_getr (kd := 0) (z := 1077) zd_1_14_27 zf_TF_83 zT_1000 rfl (zz_ltn hn rfl) (zz_G.eq G_S0 1000 6 1077 rfl rfl) (by decide) 1077 rfl ?_
        refine zz_aload_n (x := 1000) rfl zd_1_14_30 ?_
        have g5 := zz_G.r G_S0 1000 9 0 1 rfl rfl
        refine zz_getr (kd := 2) (z := S0 1000 9) zd_1_14_31 zf_TF_19 zT_1000 rfl (zz_ltn hn rfl) rfl (by omega) (zz_rf 4 (S0 1000 9)) rfl ?_
        refine zz_iload_n (x := p0) rfl zd_1_14_34 ?_
        have g6 := zz_G.r G_S0 (zz_rf 4 (S0 1000 9)) p0.toNat (-9223372036854775808) 9223372036854775807 (zR_k4 (by omega)) (zB_k4 (by omega))
        refine zz_lald (z := S0 (zz_rf 4 (S0 1000 9)) p0.toNat) zd_1_14_35 (zT_k4 (by omega)) rfl (zN_k4 hn (by omega)) (by decide) (by omega) rfl ?_
        refine zz_callVV [zl (S0 (zz_rf 4 (S0 1000 9)) p0.toNat)] zd_1_14_36 zk_TF_174 zT_1077 (zz_ltn hn rfl) rfl rfl ⟨Nat.le_of_ble_eq_true rfl, Nat.le_of_ble_eq_true rfl⟩ ⟨rfl, rfl⟩ (Nat.zero_le _) (Nat.zero_le _) (zc_writeInstruction_5_3 (S0 (zz_rf 4 (S0 1000 9)) p0.toNat) S0 n hn G_S0 (by omega)) (fun S7 hP => ?_)
        obtain ⟨G_S7, fS7⟩ := hP
        have F_S7 := zz_fr.trans F_S0 fS7 rfl zz_nv
        refine zz_aload_n (x := 1000) rfl zd_1_14_39 ?_
        refine zz_getr (kd := 0) (z := 1077) zd_1_14_40 zf_TF_83 zT_1000 rfl (zz_ltn hn rfl) (zz_G.eq G_S7 1000 6 1077 rfl rfl) (by decide) 1077 rfl ?_
        refine zz_iload_n (x := p1) rfl zd_1_14_43 ?_
        refine zz_callVI [zi p1] zd_1_14_44 zk_TF_178 zT_1077 (zz_ltn hn rfl) rfl rfl ⟨Nat.le_of_ble_eq_true rfl, Nat.le_of_ble_eq_true rfl⟩ ⟨rfl, rfl⟩ (Nat.zero_le _) (Nat.zero_le _) (zc_signAt_5_2 p1 S7 n hn G_S7 (by omega)) (fun v10 S9 hP => ?_)
        obtain ⟨rfl, o11⟩ := hP
        exact zz_iret zd_1_14_47 rfl (Nat.le_of_ble_eq_true rfl) (Nat.le_of_ble_eq_true rfl) (Or.inl ⟨_, _, rfl, G_S7, F_S7, by omega⟩)
      · exact zz_throw (i := 1) hfl hn zt_1_14_16 zyw_listing_1_14 zxl_TF_101_172_105 (Nat.le_of_ble_eq_true rfl) (Nat.le_of_ble_eq_true rfl) ⟨Nat.le_of_ble_eq_true rfl, Nat.le_of_ble_eq_true rfl⟩ (Or.inr ⟨_, _, rfl, G_S0, F_S0, by omega, by omega⟩)
abbrev zy_run_1_15 : mm_Y := (⟨"TensorForge", "run", "()I"⟩, prog_1_method_15_code, 1, (some .int))
theorem zyw_run_1_15 : mm_Yw zy_run_1_15 0 := ⟨mm_tb_1 696 (by decide +kernel) rfl, mm_tb_1 1 (by decide +kernel) rfl, ⟨by decide, by decide⟩, by decide +kernel⟩
abbrev zy_follow_10_2 : mm_Y := (⟨"TensorForge$Run", "follow", "([JI)V"⟩, prog_10_method_2_code, 9, none)
theorem zyw_follow_10_2 : mm_Yw zy_follow_10_2 2 := ⟨mm_tb_1 700 (by decide +kernel) rfl, mm_tb_1 6 (by decide +kernel) rfl, ⟨by decide, by decide⟩, by decide +kernel⟩
abbrev zy_prepare_10_3 : mm_Y := (⟨"TensorForge$Run", "prepare", "([JI)V"⟩, prog_10_method_3_code, 4, none)
theorem zyw_prepare_10_3 : mm_Yw zy_prepare_10_3 2 := ⟨mm_tb_1 704 (by decide +kernel) rfl, mm_tb_1 6 (by decide +kernel) rfl, ⟨by decide, by decide⟩, by decide +kernel⟩
theorem zm_Run_77 : Cond.methodLink "TensorForge$Run" 77 Lib.Math.min.name ∈ mm_tb ∧ Cond.static Lib.Math.min.name ∈ mm_tb ∧ Cond.initialized "java/lang/Math" ∈ mm_tb ∧ Cond.code Lib.Math.min.name Lib.Math.min.code 2 (some .int) ∈ mm_tb := ⟨mm_tb_1 705 (by decide +kernel) rfl, mm_tb_1 706 (by decide +kernel) rfl, mm_tb_1 25 (by decide +kernel) rfl, mm_tb_1 707 (by decide +kernel) rfl⟩
theorem zm_Run_83 : Cond.methodLink "TensorForge$Run" 83 Lib.Math.max.name ∈ mm_tb ∧ Cond.static Lib.Math.max.name ∈ mm_tb ∧ Cond.initialized "java/lang/Math" ∈ mm_tb ∧ Cond.code Lib.Math.max.name Lib.Math.max.code 2 (some .int) ∈ mm_tb := ⟨mm_tb_1 708 (by decide +kernel) rfl, mm_tb_1 709 (by decide +kernel) rfl, mm_tb_1 25 (by decide +kernel) rfl, mm_tb_1 710 (by decide +kernel) rfl⟩
theorem zac_Run_86 : Cond.methodLink "TensorForge$Run" 86 arraycopyName ∈ mm_tb ∧ Cond.native arraycopyName ∈ mm_tb ∧ Cond.static arraycopyName ∈ mm_tb ∧ Cond.initialized "java/lang/System" ∈ mm_tb := ⟨mm_tb_1 711 (by decide +kernel) rfl, mm_tb_1 713 (by decide +kernel) rfl, mm_tb_1 712 (by decide +kernel) rfl, mm_tb_1 26 (by decide +kernel) rfl⟩
theorem zg_1_15_0 : (decode zy_run_1_15.2.1 0 = .ok ((.aload_n 0), 1)) ∧ (decode zy_run_1_15.2.1 1 = .ok ((.getfield 42), 3)) ∧ (decode zy_run_1_15.2.1 4 = .ok ((.aload_n 0), 1)) ∧ (decode zy_run_1_15.2.1 5 = .ok ((.getfield 19), 3)) ∧ (decode zy_run_1_15.2.1 8 = .ok ((.aload_n 0), 1)) ∧ (decode zy_run_1_15.2.1 9 = .ok ((.getfield 26), 3)) ∧ (decode zy_run_1_15.2.1 12 = .ok ((.invokevirtual 182), 3)) := by decide +kernel
theorem zd_1_15_0 : zz_D zy_run_1_15 0 (.aload_n 0) 1 1 := ⟨zg_1_15_0.1, rfl⟩
theorem zd_1_15_1 : zz_D zy_run_1_15 1 (.getfield 42) 3 4 := ⟨zg_1_15_0.2.1, rfl⟩
theorem zd_1_15_4 : zz_D zy_run_1_15 4 (.aload_n 0) 1 5 := ⟨zg_1_15_0.2.2.1, rfl⟩
theorem zd_1_15_5 : zz_D zy_run_1_15 5 (.getfield 19) 3 8 := ⟨zg_1_15_0.2.2.2.1, rfl⟩
theorem zd_1_15_8 : zz_D zy_run_1_15 8 (.aload_n 0) 1 9 := ⟨zg_1_15_0.2.2.2.2.1, rfl⟩
theorem zd_1_15_9 : zz_D zy_run_1_15 9 (.getfield 26) 3 12 := ⟨zg_1_15_0.2.2.2.2.2.1, rfl⟩
theorem zd_1_15_12 : zz_D zy_run_1_15 12 (.invokevirtual 182) 3 15 := ⟨zg_1_15_0.2.2.2.2.2.2, rfl⟩
theorem zg_10_2_0 : (decode zy_follow_10_2.2.1 0 = .ok ((.aload_n 0), 1)) ∧ (decode zy_follow_10_2.2.1 1 = .ok ((.aload_n 1), 1)) ∧ (decode zy_follow_10_2.2.1 2 = .ok ((.iload_n 2), 1)) ∧ (decode zy_follow_10_2.2.1 3 = .ok ((.invokevirtual 50), 3)) := by decide +kernel
theorem zd_10_2_0 : zz_D zy_follow_10_2 0 (.aload_n 0) 1 1 := ⟨zg_10_2_0.1, rfl⟩
theorem zd_10_2_1 : zz_D zy_follow_10_2 1 (.aload_n 1) 1 2 := ⟨zg_10_2_0.2.1, rfl⟩
theorem zd_10_2_2 : zz_D zy_follow_10_2 2 (.iload_n 2) 1 3 := ⟨zg_10_2_0.2.2.1, rfl⟩
theorem zd_10_2_3 : zz_D zy_follow_10_2 3 (.invokevirtual 50) 3 6 := ⟨zg_10_2_0.2.2.2, rfl⟩
theorem zg_10_3_0 : (decode zy_prepare_10_3.2.1 0 = .ok ((.aload_n 0), 1)) ∧ (decode zy_prepare_10_3.2.1 1 = .ok ((.iconst 0), 1)) ∧ (decode zy_prepare_10_3.2.1 2 = .ok ((.iload_n 2), 1)) ∧ (decode zy_prepare_10_3.2.1 3 = .ok ((.aload_n 1), 1)) ∧ (decode zy_prepare_10_3.2.1 4 = .ok ((.arraylength), 1)) ∧ (decode zy_prepare_10_3.2.1 5 = .ok ((.aload_n 0), 1)) ∧ (decode zy_prepare_10_3.2.1 6 = .ok ((.getfield 19), 3)) ∧ (decode zy_prepare_10_3.2.1 9 = .ok ((.arraylength), 1)) ∧ (decode zy_prepare_10_3.2.1 10 = .ok ((.invokestatic 77), 3)) ∧ (decode zy_prepare_10_3.2.1 13 = .ok ((.invokestatic 77), 3)) := by decide +kernel
theorem zd_10_3_0 : zz_D zy_prepare_10_3 0 (.aload_n 0) 1 1 := ⟨zg_10_3_0.1, rfl⟩
theorem zd_10_3_1 : zz_D zy_prepare_10_3 1 (.iconst 0) 1 2 := ⟨zg_10_3_0.2.1, rfl⟩
theorem zd_10_3_2 : zz_D zy_prepare_10_3 2 (.iload_n 2) 1 3 := ⟨zg_10_3_0.2.2.1, rfl⟩
theorem zd_10_3_3 : zz_D zy_prepare_10_3 3 (.aload_n 1) 1 4 := ⟨zg_10_3_0.2.2.2.1, rfl⟩
theorem zd_10_3_4 : zz_D zy_prepare_10_3 4 (.arraylength) 1 5 := ⟨zg_10_3_0.2.2.2.2.1, rfl⟩
theorem zd_10_3_5 : zz_D zy_prepare_10_3 5 (.aload_n 0) 1 6 := ⟨zg_10_3_0.2.2.2.2.2.1, rfl⟩
theorem zd_10_3_6 : zz_D zy_prepare_10_3 6 (.getfield 19) 3 9 := ⟨zg_10_3_0.2.2.2.2.2.2.1, rfl⟩
theorem zd_10_3_9 : zz_D zy_prepare_10_3 9 (.arraylength) 1 10 := ⟨zg_10_3_0.2.2.2.2.2.2.2.1, rfl⟩
theorem zd_10_3_10 : zz_D zy_prepare_10_3 10 (.invokestatic 77) 3 13 := ⟨zg_10_3_0.2.2.2.2.2.2.2.2.1, rfl⟩
theorem zd_10_3_13 : zz_D zy_prepare_10_3 13 (.invokestatic 77) 3 16 := ⟨zg_10_3_0.2.2.2.2.2.2.2.2.2, rfl⟩
theorem zg_10_3_16 : (decode zy_prepare_10_3.2.1 16 = .ok ((.invokestatic 83), 3)) ∧ (decode zy_prepare_10_3.2.1 19 = .ok ((.putfield 46), 3)) ∧ (decode zy_prepare_10_3.2.1 22 = .ok ((.aload_n 1), 1)) ∧ (decode zy_prepare_10_3.2.1 23 = .ok ((.iconst 0), 1)) ∧ (decode zy_prepare_10_3.2.1 24 = .ok ((.aload_n 0), 1)) ∧ (decode zy_prepare_10_3.2.1 25 = .ok ((.getfield 19), 3)) ∧ (decode zy_prepare_10_3.2.1 28 = .ok ((.iconst 0), 1)) ∧ (decode zy_prepare_10_3.2.1 29 = .ok ((.aload_n 0), 1)) ∧ (decode zy_prepare_10_3.2.1 30 = .ok ((.getfield 46), 3)) ∧ (decode zy_prepare_10_3.2.1 33 = .ok ((.invokestatic 86), 3)) := by decide +kernel
theorem zd_10_3_16 : zz_D zy_prepare_10_3 16 (.invokestatic 83) 3 19 := ⟨zg_10_3_16.1, rfl⟩
theorem zd_10_3_19 : zz_D zy_prepare_10_3 19 (.putfield 46) 3 22 := ⟨zg_10_3_16.2.1, rfl⟩
theorem zd_10_3_22 : zz_D zy_prepare_10_3 22 (.aload_n 1) 1 23 := ⟨zg_10_3_16.2.2.1, rfl⟩
theorem zd_10_3_23 : zz_D zy_prepare_10_3 23 (.iconst 0) 1 24 := ⟨zg_10_3_16.2.2.2.1, rfl⟩
theorem zd_10_3_24 : zz_D zy_prepare_10_3 24 (.aload_n 0) 1 25 := ⟨zg_10_3_16.2.2.2.2.1, rfl⟩
theorem zd_10_3_25 : zz_D zy_prepare_10_3 25 (.getfield 19) 3 28 := ⟨zg_10_3_16.2.2.2.2.2.1, rfl⟩
theorem zd_10_3_28 : zz_D zy_prepare_10_3 28 (.iconst 0) 1 29 := ⟨zg_10_3_16.2.2.2.2.2.2.1, rfl⟩
theorem zd_10_3_29 : zz_D zy_prepare_10_3 29 (.aload_n 0) 1 30 := ⟨zg_10_3_16.2.2.2.2.2.2.2.1, rfl⟩
theorem zd_10_3_30 : zz_D zy_prepare_10_3 30 (.getfield 46) 3 33 := ⟨zg_10_3_16.2.2.2.2.2.2.2.2.1, rfl⟩
theorem zd_10_3_33 : zz_D zy_prepare_10_3 33 (.invokestatic 86) 3 36 := ⟨zg_10_3_16.2.2.2.2.2.2.2.2.2, rfl⟩
theorem zg_10_3_36 : (decode zy_prepare_10_3.2.1 36 = .ok ((.aload_n 0), 1)) ∧ (decode zy_prepare_10_3.2.1 37 = .ok ((.getfield 15), 3)) ∧ (decode zy_prepare_10_3.2.1 40 = .ok ((.iconst 0), 1)) ∧ (decode zy_prepare_10_3.2.1 41 = .ok ((.invokestatic 92), 3)) := by decide +kernel
theorem zd_10_3_36 : zz_D zy_prepare_10_3 36 (.aload_n 0) 1 37 := ⟨zg_10_3_36.1, rfl⟩
theorem zd_10_3_37 : zz_D zy_prepare_10_3 37 (.getfield 15) 3 40 := ⟨zg_10_3_36.2.1, rfl⟩
theorem zd_10_3_40 : zz_D zy_prepare_10_3 40 (.iconst 0) 1 41 := ⟨zg_10_3_36.2.2.1, rfl⟩
theorem zd_10_3_41 : zz_D zy_prepare_10_3 41 (.invokestatic 92) 3 44 := ⟨zg_10_3_36.2.2.2, rfl⟩
-- java/util/Arrays fill ([II)V
abbrev zr_fill_27_103_1043 : Room := { frames := 0, cells := 0, slots := 0, locals := 0 }
def zp_fill_27_103_1043 (p1 : Int) (S0 : zz_S) : zz_S → Prop := fun S => zz_G S ∧ zz_fr [] [1043] (fun _ _ => False) S0 S
theorem zb_fill_27_103_1043_5 {g : mm_G} {l : Launch} (p1 : Int) (S0 : zz_S) (n : Nat) (hn : zz_end ≤ n) (G_S0 : zz_G S0) (hp1 : (-2147483648) ≤ p1 ∧ p1 ≤ 2147483647) (x2 : Int) (S : zz_S) (G_S : zz_G S) (F_S : zz_fr [] [1043] (fun _ _ => False) S0 S) (i5_0 : 0 ≤ x2 ∧ x2 ≤ 10) (R : Nat) (hR : (10 - x2).toNat = R) (k5 : ∀ (x2 : Int) (S : zz_S), zz_G S → zz_fr [] [1043] (fun _ _ => False) S0 S → (0 ≤ x2 ∧ x2 ≤ 10) → (10 - x2).toNat < R → zz_E g l zy_fill_27_103 zr_fill_27_103_1043 (zz_QV n (zp_fill_27_103_1043 p1 S0)) S n 5 [some (.ref 1043), some (zi p1), some (zi x2), some (zi 10)] [] 0 0) : zz_E g l zy_fill_27_103 zr_fill_27_103_1043 (zz_QV n (zp_fill_27_103_1043 p1 S0)) S n 5 [some (.ref 1043), some (zi p1), some (zi x2), some (zi 10)] [] 0 0 := by
  refine zz_iload_n (x := x2) rfl zd_27_103_5 ?_
  refine zz_iload_n (x := 10) rfl zd_27_103_6 ?_
  refine zz_icmp_ge (by omega) (by omega) zd_27_103_7 (fun c1 => ?_) (fun c1 => ?_)
  · exact zz_vret zd_27_103_20 rfl (Nat.zero_le _) (Nat.zero_le _) ⟨_, rfl, G_S, F_S⟩
  · refine zz_aload_n (x := 1043) rfl zd_27_103_10 ?_
    refine zz_iload_n (x := x2) rfl zd_27_103_11 ?_
    refine zz_iload_n (x := p1) rfl zd_27_103_12 ?_
    refine zz_iast zd_27_103_13 zT_1043 rfl (zz_ltn hn rfl) (by decide) (by omega) (fun S2 qS2 => ?_)
    have G_S2 := zz_G.put G_S qS2 (-2147483648) 2147483647 rfl (by omega)
    have F_S2 := zz_fr.putc F_S qS2 rfl
    refine zz_iinc [some (.ref 1043), some (zi p1), some (zi (x2 + 1)), some (zi 10)] zd_27_103_14 rfl rfl ?_
    refine zz_goto zd_27_103_17 ?_
    refine zz_less (ls1 := [some (.ref 1043), some (zi p1), some (zi (x2 + 1)), some (zi 10)]) ⟨rfl, ⟨rfl, ⟨rfl, ⟨rfl, trivial⟩⟩⟩⟩ ?_
    exact k5 (x2 + 1) S2 G_S2 F_S2 (by omega) (by omega)
theorem zi_fill_27_103_1043 {g : mm_G} {l : Launch} (p1 : Int) (S0 : zz_S) (n : Nat) (hn : zz_end ≤ n) (G_S0 : zz_G S0) (hp1 : (-2147483648) ≤ p1 ∧ p1 ≤ 2147483647) : ∀ N : Nat, (∀ (x2 : Int) (S : zz_S), zz_G S → zz_fr [] [1043] (fun _ _ => False) S0 S → (0 ≤ x2 ∧ x2 ≤ 10) → (10 - x2).toNat < N → zz_E g l zy_fill_27_103 zr_fill_27_103_1043 (zz_QV n (zp_fill_27_103_1043 p1 S0)) S n 5 [some (.ref 1043), some (zi p1), some (zi x2), some (zi 10)] [] 0 0) := by
  intro N
  induction N with
  | zero => exact fun x2 S _ _ _ h => absurd h (Nat.not_lt_zero _)
  | succ N ih =>
    exact fun x2 S a b j0 hR => zb_fill_27_103_1043_5 p1 S0 n hn G_S0 hp1 x2 S a b j0 _ rfl (fun x2 S a b j0 h => ih x2 S a b j0 (Nat.lt_of_lt_of_le h (Nat.le_of_lt_succ hR)))
theorem zc_fill_27_103_1043 {g : mm_G} {l : Launch} (p1 : Int) (S0 : zz_S) (n : Nat) (hn : zz_end ≤ n) (G_S0 : zz_G S0) (hp1 : (-2147483648) ≤ p1 ∧ p1 ≤ 2147483647) : mm_Met g l zy_fill_27_103 zr_fill_27_103_1043 [.ref 1043, zi p1] (zz_M S0 n) n (zz_QV n (zp_fill_27_103_1043 p1 S0)) := by
  refine zz_enter (by decide) (Nat.le_of_ble_eq_true rfl) (zz_less (ls1 := [some (.ref 1043), some (zi p1)]) ⟨rfl, ⟨rfl, trivial⟩⟩ ?_)
  have F_S0 : zz_fr [] [1043] (fun _ _ => False) S0 S0 := zz_fr.refl
  have k5 : ∀ (x2 : Int) (S : zz_S), zz_G S → zz_fr [] [1043] (fun _ _ => False) S0 S → (0 ≤ x2 ∧ x2 ≤ 10) → zz_E g l zy_fill_27_103 zr_fill_27_103_1043 (zz_QV n (zp_fill_27_103_1043 p1 S0)) S n 5 [some (.ref 1043), some (zi p1), some (zi x2), some (zi 10)] [] 0 0 := fun x2 S a b j0 => (zi_fill_27_103_1043 (g := g) (l := l) p1 S0 n hn G_S0 hp1 _) x2 S a b j0 (Nat.lt_succ_self _)
  refine zz_iconst zd_27_103_0 ?_
  refine zz_istore_n [some (.ref 1043), some (zi p1), some (zi 0)] zd_27_103_1 (by decide) rfl ?_
  refine zz_aload_n (x := 1043) rfl zd_27_103_2 ?_
  refine zz_alen zd_27_103_3 zT_1043 rfl (zz_ltn hn rfl) ?_
  refine zz_istore_n [some (.ref 1043), some (zi p1), some (zi 0), some (zi 10)] zd_27_103_4 (by decide) rfl ?_
  refine zz_less (ls1 := [some (.ref 1043), some (zi p1), some (zi 0), some (zi 10)]) ⟨rfl, ⟨rfl, ⟨rfl, ⟨rfl, trivial⟩⟩⟩⟩ ?_
  exact k5 0 S0 G_S0 F_S0 (by omega)
theorem zk_Run_92 : mm_Sl "TensorForge$Run" 92 2 zy_fill_27_103 := ⟨zyw_fill_27_103, mm_tb_1 714 (by decide +kernel) rfl, mm_tb_1 532 (by decide +kernel) rfl⟩
theorem zg_10_3_44 : (decode zy_prepare_10_3.2.1 44 = .ok ((.aload_n 0), 1)) ∧ (decode zy_prepare_10_3.2.1 45 = .ok ((.getfield 23), 3)) ∧ (decode zy_prepare_10_3.2.1 48 = .ok ((.iconst (-1)), 1)) ∧ (decode zy_prepare_10_3.2.1 49 = .ok ((.invokestatic 92), 3)) := by decide +kernel
theorem zd_10_3_44 : zz_D zy_prepare_10_3 44 (.aload_n 0) 1 45 := ⟨zg_10_3_44.1, rfl⟩
theorem zd_10_3_45 : zz_D zy_prepare_10_3 45 (.getfield 23) 3 48 := ⟨zg_10_3_44.2.1, rfl⟩
theorem zd_10_3_48 : zz_D zy_prepare_10_3 48 (.iconst (-1)) 1 49 := ⟨zg_10_3_44.2.2.1, rfl⟩
theorem zd_10_3_49 : zz_D zy_prepare_10_3 49 (.invokestatic 92) 3 52 := ⟨zg_10_3_44.2.2.2, rfl⟩
-- java/util/Arrays fill ([II)V
abbrev zr_fill_27_103_1045 : Room := { frames := 0, cells := 0, slots := 0, locals := 0 }
def zp_fill_27_103_1045 (p1 : Int) (S0 : zz_S) : zz_S → Prop := fun S => zz_G S ∧ zz_fr [] [1045] (fun _ _ => False) S0 S
theorem zb_fill_27_103_1045_5 {g : mm_G} {l : Launch} (p1 : Int) (S0 : zz_S) (n : Nat) (hn : zz_end ≤ n) (G_S0 : zz_G S0) (hp1 : (-2147483648) ≤ p1 ∧ p1 ≤ 2147483647) (x2 : Int) (S : zz_S) (G_S : zz_G S) (F_S : zz_fr [] [1045] (fun _ _ => False) S0 S) (i5_0 : 0 ≤ x2 ∧ x2 ≤ 600) (R : Nat) (hR : (600 - x2).toNat = R) (k5 : ∀ (x2 : Int) (S : zz_S), zz_G S → zz_fr [] [1045] (fun _ _ => False) S0 S → (0 ≤ x2 ∧ x2 ≤ 600) → (600 - x2).toNat < R → zz_E g l zy_fill_27_103 zr_fill_27_103_1045 (zz_QV n (zp_fill_27_103_1045 p1 S0)) S n 5 [some (.ref 1045), some (zi p1), some (zi x2), some (zi 600)] [] 0 0) : zz_E g l zy_fill_27_103 zr_fill_27_103_1045 (zz_QV n (zp_fill_27_103_1045 p1 S0)) S n 5 [some (.ref 1045), some (zi p1), some (zi x2), some (zi 600)] [] 0 0 := by
  refine zz_iload_n (x := x2) rfl zd_27_103_5 ?_
  refine zz_iload_n (x := 600) rfl zd_27_103_6 ?_
  refine zz_icmp_ge (by omega) (by omega) zd_27_103_7 (fun c1 => ?_) (fun c1 => ?_)
  · exact zz_vret zd_27_103_20 rfl (Nat.zero_le _) (Nat.zero_le _) ⟨_, rfl, G_S, F_S⟩
  · refine zz_aload_n (x := 1045) rfl zd_27_103_10 ?_
    refine zz_iload_n (x := x2) rfl zd_27_103_11 ?_
    refine zz_iload_n (x := p1) rfl zd_27_103_12 ?_
    refine zz_iast zd_27_103_13 zT_1045 rfl (zz_ltn hn rfl) (by decide) (by omega) (fun S2 qS2 => ?_)
    have G_S2 := zz_G.put G_S qS2 (-2147483648) 2147483647 rfl (by omega)
    have F_S2 := zz_fr.putc F_S qS2 rfl
    refine zz_iinc [some (.ref 1045), some (zi p1), some (zi (x2 + 1)), some (zi 600)] zd_27_103_14 rfl rfl ?_
    refine zz_goto zd_27_103_17 ?_
    refine zz_less (ls1 := [some (.ref 1045), some (zi p1), some (zi (x2 + 1)), some (zi 600)]) ⟨rfl, ⟨rfl, ⟨rfl, ⟨rfl, trivial⟩⟩⟩⟩ ?_
    exact k5 (x2 + 1) S2 G_S2 F_S2 (by omega) (by omega)
theorem zi_fill_27_103_1045 {g : mm_G} {l : Launch} (p1 : Int) (S0 : zz_S) (n : Nat) (hn : zz_end ≤ n) (G_S0 : zz_G S0) (hp1 : (-2147483648) ≤ p1 ∧ p1 ≤ 2147483647) : ∀ N : Nat, (∀ (x2 : Int) (S : zz_S), zz_G S → zz_fr [] [1045] (fun _ _ => False) S0 S → (0 ≤ x2 ∧ x2 ≤ 600) → (600 - x2).toNat < N → zz_E g l zy_fill_27_103 zr_fill_27_103_1045 (zz_QV n (zp_fill_27_103_1045 p1 S0)) S n 5 [some (.ref 1045), some (zi p1), some (zi x2), some (zi 600)] [] 0 0) := by
  intro N
  induction N with
  | zero => exact fun x2 S _ _ _ h => absurd h (Nat.not_lt_zero _)
  | succ N ih =>
    exact fun x2 S a b j0 hR => zb_fill_27_103_1045_5 p1 S0 n hn G_S0 hp1 x2 S a b j0 _ rfl (fun x2 S a b j0 h => ih x2 S a b j0 (Nat.lt_of_lt_of_le h (Nat.le_of_lt_succ hR)))
theorem zc_fill_27_103_1045 {g : mm_G} {l : Launch} (p1 : Int) (S0 : zz_S) (n : Nat) (hn : zz_end ≤ n) (G_S0 : zz_G S0) (hp1 : (-2147483648) ≤ p1 ∧ p1 ≤ 2147483647) : mm_Met g l zy_fill_27_103 zr_fill_27_103_1045 [.ref 1045, zi p1] (zz_M S0 n) n (zz_QV n (zp_fill_27_103_1045 p1 S0)) := by
  refine zz_enter (by decide) (Nat.le_of_ble_eq_true rfl) (zz_less (ls1 := [some (.ref 1045), some (zi p1)]) ⟨rfl, ⟨rfl, trivial⟩⟩ ?_)
  have F_S0 : zz_fr [] [1045] (fun _ _ => False) S0 S0 := zz_fr.refl
  have k5 : ∀ (x2 : Int) (S : zz_S), zz_G S → zz_fr [] [1045] (fun _ _ => False) S0 S → (0 ≤ x2 ∧ x2 ≤ 600) → zz_E g l zy_fill_27_103 zr_fill_27_103_1045 (zz_QV n (zp_fill_27_103_1045 p1 S0)) S n 5 [some (.ref 1045), some (zi p1), some (zi x2), some (zi 600)] [] 0 0 := fun x2 S a b j0 => (zi_fill_27_103_1045 (g := g) (l := l) p1 S0 n hn G_S0 hp1 _) x2 S a b j0 (Nat.lt_succ_self _)
  refine zz_iconst zd_27_103_0 ?_
  refine zz_istore_n [some (.ref 1045), some (zi p1), some (zi 0)] zd_27_103_1 (by decide) rfl ?_
  refine zz_aload_n (x := 1045) rfl zd_27_103_2 ?_
  refine zz_alen zd_27_103_3 zT_1045 rfl (zz_ltn hn rfl) ?_
  refine zz_istore_n [some (.ref 1045), some (zi p1), some (zi 0), some (zi 600)] zd_27_103_4 (by decide) rfl ?_
  refine zz_less (ls1 := [some (.ref 1045), some (zi p1), some (zi 0), some (zi 600)]) ⟨rfl, ⟨rfl, ⟨rfl, ⟨rfl, trivial⟩⟩⟩⟩ ?_
  exact k5 0 S0 G_S0 F_S0 (by omega)
theorem zg_10_3_52 : (decode zy_prepare_10_3.2.1 52 = .ok ((.aload_n 0), 1)) ∧ (decode zy_prepare_10_3.2.1 53 = .ok ((.getfield 26), 3)) ∧ (decode zy_prepare_10_3.2.1 56 = .ok ((.iconst (-1)), 1)) ∧ (decode zy_prepare_10_3.2.1 57 = .ok ((.invokestatic 92), 3)) := by decide +kernel
theorem zd_10_3_52 : zz_D zy_prepare_10_3 52 (.aload_n 0) 1 53 := ⟨zg_10_3_52.1, rfl⟩
theorem zd_10_3_53 : zz_D zy_prepare_10_3 53 (.getfield 26) 3 56 := ⟨zg_10_3_52.2.1, rfl⟩
theorem zd_10_3_56 : zz_D zy_prepare_10_3 56 (.iconst (-1)) 1 57 := ⟨zg_10_3_52.2.2.1, rfl⟩
theorem zd_10_3_57 : zz_D zy_prepare_10_3 57 (.invokestatic 92) 3 60 := ⟨zg_10_3_52.2.2.2, rfl⟩

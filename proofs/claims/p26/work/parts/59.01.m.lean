abbrev zy_wordOfFields_14_53 : mm_Y := (⟨"TensorForgeModel", "wordOfFields", "()J"⟩, prog_14_method_53_code, 5, (some .long))
theorem zyw_wordOfFields_14_53 : mm_Yw zy_wordOfFields_14_53 0 := ⟨mm_tb_1 2041 (by decide +kernel) rfl, mm_tb_1 12 (by decide +kernel) rfl, ⟨by decide, by decide⟩, by decide +kernel⟩
theorem zg_14_53_0 : zq_at zy_wordOfFields_14_53.2.1 0 9 ∧ zq_at zy_wordOfFields_14_53.2.1 1 64 ∧ zq_at zy_wordOfFields_14_53.2.1 2 3 ∧ zq_at zy_wordOfFields_14_53.2.1 3 62 ∧ zq_at zy_wordOfFields_14_53.2.1 4 3 ∧ zq_at zy_wordOfFields_14_53.2.1 5 54 ∧ zq_at zy_wordOfFields_14_53.2.1 6 4 ∧ zq_at zy_wordOfFields_14_53.2.1 7 21 ∧ zq_at zy_wordOfFields_14_53.2.1 8 4 ∧ zq_at zy_wordOfFields_14_53.2.1 9 16 ∧ zq_at zy_wordOfFields_14_53.2.1 10 12 ∧ zq_at zy_wordOfFields_14_53.2.1 11 162 ∧ zq_at zy_wordOfFields_14_53.2.1 12 0 ∧ zq_at zy_wordOfFields_14_53.2.1 13 30 ∧ zq_at zy_wordOfFields_14_53.2.1 14 31 ∧ zq_at zy_wordOfFields_14_53.2.1 15 42 ∧ zq_at zy_wordOfFields_14_53.2.1 16 180 ∧ zq_at zy_wordOfFields_14_53.2.1 17 0 ∧ zq_at zy_wordOfFields_14_53.2.1 18 36 ∧ zq_at zy_wordOfFields_14_53.2.1 19 21 ∧ zq_at zy_wordOfFields_14_53.2.1 20 4 ∧ zq_at zy_wordOfFields_14_53.2.1 21 46 ∧ zq_at zy_wordOfFields_14_53.2.1 22 133 ∧ zq_at zy_wordOfFields_14_53.2.1 23 29 := by decide +kernel
theorem zd_14_53_0 : zz_D zy_wordOfFields_14_53 0 (.lconst 0) 1 1 := ⟨zq_9 zg_14_53_0.1, rfl⟩
theorem zd_14_53_1 : zz_D zy_wordOfFields_14_53 1 (.lstore_n 1) 1 2 := ⟨zq_64 zg_14_53_0.2.1, rfl⟩
theorem zd_14_53_2 : zz_D zy_wordOfFields_14_53 2 (.iconst 0) 1 3 := ⟨zq_3 zg_14_53_0.2.2.1, rfl⟩
theorem zd_14_53_3 : zz_D zy_wordOfFields_14_53 3 (.istore_n 3) 1 4 := ⟨zq_62 zg_14_53_0.2.2.2.1, rfl⟩
theorem zd_14_53_4 : zz_D zy_wordOfFields_14_53 4 (.iconst 0) 1 5 := ⟨zq_3 zg_14_53_0.2.2.2.2.1, rfl⟩
theorem zd_14_53_5 : zz_D zy_wordOfFields_14_53 5 (.istore 4) 2 7 := ⟨zq_54 zg_14_53_0.2.2.2.2.2.1 zg_14_53_0.2.2.2.2.2.2.1, rfl⟩
theorem zd_14_53_7 : zz_D zy_wordOfFields_14_53 7 (.iload 4) 2 9 := ⟨zq_21 zg_14_53_0.2.2.2.2.2.2.2.1 zg_14_53_0.2.2.2.2.2.2.2.2.1, rfl⟩
theorem zd_14_53_9 : zz_D zy_wordOfFields_14_53 9 (.bipush 12) 2 11 := ⟨zq_16 zg_14_53_0.2.2.2.2.2.2.2.2.2.1 zg_14_53_0.2.2.2.2.2.2.2.2.2.2.1 (by decide), rfl⟩
theorem zd_14_53_11 : zz_B zy_wordOfFields_14_53 11 (Instr.if_icmp .ge) 41 14 := ⟨30, zq_162 zg_14_53_0.2.2.2.2.2.2.2.2.2.2.2.1 zg_14_53_0.2.2.2.2.2.2.2.2.2.2.2.2.1 zg_14_53_0.2.2.2.2.2.2.2.2.2.2.2.2.2.1 (by decide), rfl, rfl⟩
theorem zd_14_53_14 : zz_D zy_wordOfFields_14_53 14 (.lload_n 1) 1 15 := ⟨zq_31 zg_14_53_0.2.2.2.2.2.2.2.2.2.2.2.2.2.2.1, rfl⟩
theorem zd_14_53_15 : zz_D zy_wordOfFields_14_53 15 (.aload_n 0) 1 16 := ⟨zq_42 zg_14_53_0.2.2.2.2.2.2.2.2.2.2.2.2.2.2.2.1, rfl⟩
theorem zd_14_53_16 : zz_D zy_wordOfFields_14_53 16 (.getfield 36) 3 19 := ⟨zq_180 zg_14_53_0.2.2.2.2.2.2.2.2.2.2.2.2.2.2.2.2.1 zg_14_53_0.2.2.2.2.2.2.2.2.2.2.2.2.2.2.2.2.2.1 zg_14_53_0.2.2.2.2.2.2.2.2.2.2.2.2.2.2.2.2.2.2.1 rfl, rfl⟩
theorem zd_14_53_19 : zz_D zy_wordOfFields_14_53 19 (.iload 4) 2 21 := ⟨zq_21 zg_14_53_0.2.2.2.2.2.2.2.2.2.2.2.2.2.2.2.2.2.2.2.1 zg_14_53_0.2.2.2.2.2.2.2.2.2.2.2.2.2.2.2.2.2.2.2.2.1, rfl⟩
theorem zd_14_53_21 : zz_D zy_wordOfFields_14_53 21 (.iaload) 1 22 := ⟨zq_46 zg_14_53_0.2.2.2.2.2.2.2.2.2.2.2.2.2.2.2.2.2.2.2.2.2.1, rfl⟩
theorem zd_14_53_22 : zz_D zy_wordOfFields_14_53 22 (.i2l) 1 23 := ⟨zq_133 zg_14_53_0.2.2.2.2.2.2.2.2.2.2.2.2.2.2.2.2.2.2.2.2.2.2.1, rfl⟩
theorem zd_14_53_23 : zz_D zy_wordOfFields_14_53 23 (.iload_n 3) 1 24 := ⟨zq_29 zg_14_53_0.2.2.2.2.2.2.2.2.2.2.2.2.2.2.2.2.2.2.2.2.2.2.2, rfl⟩
theorem zg_14_53_24 : zq_at zy_wordOfFields_14_53.2.1 24 121 ∧ zq_at zy_wordOfFields_14_53.2.1 25 129 ∧ zq_at zy_wordOfFields_14_53.2.1 26 64 ∧ zq_at zy_wordOfFields_14_53.2.1 27 29 ∧ zq_at zy_wordOfFields_14_53.2.1 28 21 ∧ zq_at zy_wordOfFields_14_53.2.1 29 4 ∧ zq_at zy_wordOfFields_14_53.2.1 30 184 ∧ zq_at zy_wordOfFields_14_53.2.1 31 0 ∧ zq_at zy_wordOfFields_14_53.2.1 32 215 ∧ zq_at zy_wordOfFields_14_53.2.1 33 96 ∧ zq_at zy_wordOfFields_14_53.2.1 34 62 ∧ zq_at zy_wordOfFields_14_53.2.1 35 132 ∧ zq_at zy_wordOfFields_14_53.2.1 36 4 ∧ zq_at zy_wordOfFields_14_53.2.1 37 1 ∧ zq_at zy_wordOfFields_14_53.2.1 38 167 ∧ zq_at zy_wordOfFields_14_53.2.1 39 255 ∧ zq_at zy_wordOfFields_14_53.2.1 40 225 ∧ zq_at zy_wordOfFields_14_53.2.1 41 31 ∧ zq_at zy_wordOfFields_14_53.2.1 42 173 := by decide +kernel
theorem zd_14_53_24 : zz_D zy_wordOfFields_14_53 24 (.lshl) 1 25 := ⟨zq_121 zg_14_53_24.1, rfl⟩
theorem zd_14_53_25 : zz_D zy_wordOfFields_14_53 25 (.lor) 1 26 := ⟨zq_129 zg_14_53_24.2.1, rfl⟩
theorem zd_14_53_26 : zz_D zy_wordOfFields_14_53 26 (.lstore_n 1) 1 27 := ⟨zq_64 zg_14_53_24.2.2.1, rfl⟩
theorem zd_14_53_27 : zz_D zy_wordOfFields_14_53 27 (.iload_n 3) 1 28 := ⟨zq_29 zg_14_53_24.2.2.2.1, rfl⟩
theorem zd_14_53_28 : zz_D zy_wordOfFields_14_53 28 (.iload 4) 2 30 := ⟨zq_21 zg_14_53_24.2.2.2.2.1 zg_14_53_24.2.2.2.2.2.1, rfl⟩
theorem zd_14_53_30 : zz_D zy_wordOfFields_14_53 30 (.invokestatic 215) 3 33 := ⟨zq_184 zg_14_53_24.2.2.2.2.2.2.1 zg_14_53_24.2.2.2.2.2.2.2.1 zg_14_53_24.2.2.2.2.2.2.2.2.1 rfl, rfl⟩
theorem zd_14_53_33 : zz_D zy_wordOfFields_14_53 33 (.iadd) 1 34 := ⟨zq_96 zg_14_53_24.2.2.2.2.2.2.2.2.2.1, rfl⟩
theorem zd_14_53_34 : zz_D zy_wordOfFields_14_53 34 (.istore_n 3) 1 35 := ⟨zq_62 zg_14_53_24.2.2.2.2.2.2.2.2.2.2.1, rfl⟩
theorem zd_14_53_35 : zz_D zy_wordOfFields_14_53 35 (.iinc 4 1) 3 38 := ⟨zq_132 zg_14_53_24.2.2.2.2.2.2.2.2.2.2.2.1 zg_14_53_24.2.2.2.2.2.2.2.2.2.2.2.2.1 zg_14_53_24.2.2.2.2.2.2.2.2.2.2.2.2.2.1 (by decide), rfl⟩
theorem zd_14_53_38 : zz_B zy_wordOfFields_14_53 38 Instr.goto 7 41 := ⟨(-31), zq_167 zg_14_53_24.2.2.2.2.2.2.2.2.2.2.2.2.2.2.1 zg_14_53_24.2.2.2.2.2.2.2.2.2.2.2.2.2.2.2.1 zg_14_53_24.2.2.2.2.2.2.2.2.2.2.2.2.2.2.2.2.1 (by decide), rfl, rfl⟩
theorem zd_14_53_41 : zz_D zy_wordOfFields_14_53 41 (.lload_n 1) 1 42 := ⟨zq_31 zg_14_53_24.2.2.2.2.2.2.2.2.2.2.2.2.2.2.2.2.2.1, rfl⟩
theorem zd_14_53_42 : zz_D zy_wordOfFields_14_53 42 (.lreturn) 1 43 := ⟨zq_173 zg_14_53_24.2.2.2.2.2.2.2.2.2.2.2.2.2.2.2.2.2.2, rfl⟩
-- TensorForgeModel wordOfFields ()J
abbrev zr_wordOfFields_14_53 : Room := { frames := 1, cells := 0, slots := 0, locals := 13 }
def zp_wordOfFields_14_53  (S0 : zz_S) : Int → zz_S → Prop := fun r S => S0 = S ∧ ((-9223372036854775808) ≤ r ∧ r ≤ 9223372036854775807)
theorem zb_wordOfFields_14_53_7 {g : mm_G} {l : Launch}  (S0 : zz_S) (n : Nat) (hn : zz_end ≤ n) (G_S0 : zz_G S0)  (x1 : Int) (x3 : Int) (x4 : Int) (S : zz_S) (G_S : zz_G S) (F_S : zz_fr [] [] (fun _ _ => False) S0 S) (i7_0 : (-9223372036854775808) ≤ x1 ∧ x1 ≤ 9223372036854775807) (i7_1 : 0 ≤ x3 ∧ x3 ≤ 200) (i7_2 : 0 ≤ x4 ∧ x4 ≤ 12) (i7_3 : x3 ≤ 12 * x4) (R : Nat) (hR : (12 - x4).toNat = R) (k7 : ∀ (x1 : Int) (x3 : Int) (x4 : Int) (S : zz_S), zz_G S → zz_fr [] [] (fun _ _ => False) S0 S → ((-9223372036854775808) ≤ x1 ∧ x1 ≤ 9223372036854775807) → (0 ≤ x3 ∧ x3 ≤ 200) → (0 ≤ x4 ∧ x4 ≤ 12) → (x3 ≤ 12 * x4) → (12 - x4).toNat < R → zz_E g l zy_wordOfFields_14_53 zr_wordOfFields_14_53 (zz_QJ n (zp_wordOfFields_14_53  S0)) S n 7 [some (.ref 1079), some (zl x1), none, some (zi x3), some (zi x4)] [] 0 0) : zz_E g l zy_wordOfFields_14_53 zr_wordOfFields_14_53 (zz_QJ n (zp_wordOfFields_14_53  S0)) S n 7 [some (.ref 1079), some (zl x1), none, some (zi x3), some (zi x4)] [] 0 0 := by
  refine zz_iload (x := x4) rfl zd_14_53_7 ?_
  refine zz_bipush (by decide) zd_14_53_9 ?_
  refine zz_icmp_ge (by omega) (by omega) zd_14_53_11 (fun c1 => ?_) (fun c1 => ?_)
  · refine zz_lload_n (x := x1) rfl zd_14_53_41 ?_
    exact zz_lret zd_14_53_42 rfl (Nat.zero_le _) (Nat.zero_le _) ⟨_, _, rfl, zz_fr.eq F_S, by omega⟩
  · refine zz_lload_n (x := x1) rfl zd_14_53_14 ?_
    refine zz_aload_n (x := 1079) rfl zd_14_53_15 ?_
    refine zz_getr (kd := 0) (z := 1087) zd_14_53_16 zf_Md_36 zT_1079 rfl (zz_ltn hn rfl) (zz_G.eq G_S 1079 11 1087 rfl rfl) (by decide) 1087 rfl ?_
    refine zz_iload (x := x4) rfl zd_14_53_19 ?_
    have g2 := zz_G.r G_S0 1087 x4.toNat (-2147483648) 2147483647 rfl rfl
    refine zz_iald (z := S0 1087 x4.toNat) zd_14_53_21 zT_1087 rfl (zz_ltn hn rfl) (by decide) (by omega) (zz_rc F_S (zz_nc1 rfl) rfl (fun h => h) rfl) ?_
    refine zz_i2l (by omega) zd_14_53_22 ?_
    refine zz_iload_n (x := x3) rfl zd_14_53_23 ?_
    refine zz_lshl zd_14_53_24 (fun v3 hv3 ev3 => ?_)
    refine zz_lor zd_14_53_25 (fun v4 hv4 ev4 => ?_)
    refine zz_lstore_n [some (.ref 1079), some (zl v4), none, some (zi x3), some (zi x4)] zd_14_53_26 (by decide) rfl ?_
    refine zz_iload_n (x := x3) rfl zd_14_53_27 ?_
    refine zz_iload (x := x4) rfl zd_14_53_28 ?_
    refine zz_callSI [zi x4] zd_14_53_30 zk_Md_215 rfl rfl ⟨Nat.le_of_ble_eq_true rfl, Nat.le_of_ble_eq_true rfl⟩ ⟨rfl, rfl⟩ (Nat.zero_le _) (Nat.zero_le _) (zc_bitsOf_14_11 x4 S n hn G_S (by omega)) (fun v6 S5 hP => ?_)
    obtain ⟨rfl, o7, o8⟩ := hP
    refine zz_iadd zd_14_53_33 ?_
    refine zz_istore_n [some (.ref 1079), some (zl v4), none, some (zi (x3 + v6)), some (zi x4)] zd_14_53_34 (by decide) rfl ?_
    refine zz_iinc [some (.ref 1079), some (zl v4), none, some (zi (x3 + v6)), some (zi (x4 + 1))] zd_14_53_35 rfl rfl ?_
    refine zz_goto zd_14_53_38 ?_
    refine zz_less (ls1 := [some (.ref 1079), some (zl v4), none, some (zi (x3 + v6)), some (zi (x4 + 1))]) ⟨rfl, ⟨rfl, ⟨rfl, ⟨rfl, trivial⟩⟩⟩⟩ ?_
    exact k7 v4 (x3 + v6) (x4 + 1) S G_S F_S (by omega) (by omega) (by omega) (by omega) (by omega)
theorem zi_wordOfFields_14_53 {g : mm_G} {l : Launch}  (S0 : zz_S) (n : Nat) (hn : zz_end ≤ n) (G_S0 : zz_G S0)  : ∀ N : Nat, (∀ (x1 : Int) (x3 : Int) (x4 : Int) (S : zz_S), zz_G S → zz_fr [] [] (fun _ _ => False) S0 S → ((-9223372036854775808) ≤ x1 ∧ x1 ≤ 9223372036854775807) → (0 ≤ x3 ∧ x3 ≤ 200) → (0 ≤ x4 ∧ x4 ≤ 12) → (x3 ≤ 12 * x4) → (12 - x4).toNat < N → zz_E g l zy_wordOfFields_14_53 zr_wordOfFields_14_53 (zz_QJ n (zp_wordOfFields_14_53  S0)) S n 7 [some (.ref 1079), some (zl x1), none, some (zi x3), some (zi x4)] [] 0 0) := by
  intro N
  induction N with
  | zero => exact fun x1 x3 x4 S _ _ _ _ _ _ h => absurd h (Nat.not_lt_zero _)
  | succ N ih =>
    exact fun x1 x3 x4 S a b j0 j1 j2 j3 hR => zb_wordOfFields_14_53_7  S0 n hn G_S0  x1 x3 x4 S a b j0 j1 j2 j3 _ rfl (fun x1 x3 x4 S a b j0 j1 j2 j3 h => ih x1 x3 x4 S a b j0 j1 j2 j3 (Nat.lt_of_lt_of_le h (Nat.le_of_lt_succ hR)))
theorem zc_wordOfFields_14_53 {g : mm_G} {l : Launch}  (S0 : zz_S) (n : Nat) (hn : zz_end ≤ n) (G_S0 : zz_G S0)  : mm_Met g l zy_wordOfFields_14_53 zr_wordOfFields_14_53 [.ref 1079] (zz_M S0 n) n (zz_QJ n (zp_wordOfFields_14_53  S0)) := by
  refine zz_enter (by decide) (Nat.le_of_ble_eq_true rfl) (zz_less (ls1 := [some (.ref 1079)]) ⟨rfl, trivial⟩ ?_)
  have F_S0 : zz_fr [] [] (fun _ _ => False) S0 S0 := zz_fr.refl
  have k7 : ∀ (x1 : Int) (x3 : Int) (x4 : Int) (S : zz_S), zz_G S → zz_fr [] [] (fun _ _ => False) S0 S → ((-9223372036854775808) ≤ x1 ∧ x1 ≤ 9223372036854775807) → (0 ≤ x3 ∧ x3 ≤ 200) → (0 ≤ x4 ∧ x4 ≤ 12) → (x3 ≤ 12 * x4) → zz_E g l zy_wordOfFields_14_53 zr_wordOfFields_14_53 (zz_QJ n (zp_wordOfFields_14_53  S0)) S n 7 [some (.ref 1079), some (zl x1), none, some (zi x3), some (zi x4)] [] 0 0 := fun x1 x3 x4 S a b j0 j1 j2 j3 => (zi_wordOfFields_14_53 (g := g) (l := l)  S0 n hn G_S0  _) x1 x3 x4 S a b j0 j1 j2 j3 (Nat.lt_succ_self _)
  refine zz_lconst (z := 0) (by decide) zd_14_53_0 ?_
  refine zz_lstore_n [some (.ref 1079), some (zl 0), none] zd_14_53_1 (by decide) rfl ?_
  refine zz_iconst zd_14_53_2 ?_
  refine zz_istore_n [some (.ref 1079), some (zl 0), none, some (zi 0)] zd_14_53_3 (by decide) rfl ?_
  refine zz_iconst zd_14_53_4 ?_
  refine zz_istore [some (.ref 1079), some (zl 0), none, some (zi 0), some (zi 0)] zd_14_53_5 (by decide) rfl ?_
  refine zz_less (ls1 := [some (.ref 1079), some (zl 0), none, some (zi 0), some (zi 0)]) ⟨rfl, ⟨rfl, ⟨rfl, ⟨rfl, trivial⟩⟩⟩⟩ ?_
  exact k7 0 0 0 S0 G_S0 F_S0 (by omega) (by omega) (by omega) (by omega)
abbrev zy_readLine_14_54 : mm_Y := (⟨"TensorForgeModel", "readLine", "()I"⟩, prog_14_method_54_code, 3, (some .int))
theorem zyw_readLine_14_54 : mm_Yw zy_readLine_14_54 0 := ⟨mm_tb_1 2014 (by decide +kernel) rfl, mm_tb_1 12 (by decide +kernel) rfl, ⟨by decide, by decide⟩, by decide +kernel⟩
theorem zk_Md_369 : mm_Vl "TensorForgeModel" 369 11 0 zy_part_14_52 := ⟨zyw_part_14_52, (R_Md, F_Md, 69), rfl, mm_tb_1 2028 (by decide +kernel) rfl, mm_tb_1 2030 (by decide +kernel) rfl, mm_tb_s 111 (by decide +kernel) rfl⟩
theorem zg_14_54_0 : zq_at zy_readLine_14_54.2.1 0 3 ∧ zq_at zy_readLine_14_54.2.1 1 60 ∧ zq_at zy_readLine_14_54.2.1 2 27 ∧ zq_at zy_readLine_14_54.2.1 3 16 ∧ zq_at zy_readLine_14_54.2.1 4 12 ∧ zq_at zy_readLine_14_54.2.1 5 162 ∧ zq_at zy_readLine_14_54.2.1 6 0 ∧ zq_at zy_readLine_14_54.2.1 7 16 ∧ zq_at zy_readLine_14_54.2.1 8 42 ∧ zq_at zy_readLine_14_54.2.1 9 180 ∧ zq_at zy_readLine_14_54.2.1 10 0 ∧ zq_at zy_readLine_14_54.2.1 11 36 ∧ zq_at zy_readLine_14_54.2.1 12 27 ∧ zq_at zy_readLine_14_54.2.1 13 3 ∧ zq_at zy_readLine_14_54.2.1 14 79 ∧ zq_at zy_readLine_14_54.2.1 15 132 ∧ zq_at zy_readLine_14_54.2.1 16 1 ∧ zq_at zy_readLine_14_54.2.1 17 1 ∧ zq_at zy_readLine_14_54.2.1 18 167 ∧ zq_at zy_readLine_14_54.2.1 19 255 ∧ zq_at zy_readLine_14_54.2.1 20 240 ∧ zq_at zy_readLine_14_54.2.1 21 42 := by decide +kernel
theorem zd_14_54_0 : zz_D zy_readLine_14_54 0 (.iconst 0) 1 1 := ⟨zq_3 zg_14_54_0.1, rfl⟩
theorem zd_14_54_1 : zz_D zy_readLine_14_54 1 (.istore_n 1) 1 2 := ⟨zq_60 zg_14_54_0.2.1, rfl⟩
theorem zd_14_54_2 : zz_D zy_readLine_14_54 2 (.iload_n 1) 1 3 := ⟨zq_27 zg_14_54_0.2.2.1, rfl⟩
theorem zd_14_54_3 : zz_D zy_readLine_14_54 3 (.bipush 12) 2 5 := ⟨zq_16 zg_14_54_0.2.2.2.1 zg_14_54_0.2.2.2.2.1 (by decide), rfl⟩
theorem zd_14_54_5 : zz_B zy_readLine_14_54 5 (Instr.if_icmp .ge) 21 8 := ⟨16, zq_162 zg_14_54_0.2.2.2.2.2.1 zg_14_54_0.2.2.2.2.2.2.1 zg_14_54_0.2.2.2.2.2.2.2.1 (by decide), rfl, rfl⟩
theorem zd_14_54_8 : zz_D zy_readLine_14_54 8 (.aload_n 0) 1 9 := ⟨zq_42 zg_14_54_0.2.2.2.2.2.2.2.2.1, rfl⟩
theorem zd_14_54_9 : zz_D zy_readLine_14_54 9 (.getfield 36) 3 12 := ⟨zq_180 zg_14_54_0.2.2.2.2.2.2.2.2.2.1 zg_14_54_0.2.2.2.2.2.2.2.2.2.2.1 zg_14_54_0.2.2.2.2.2.2.2.2.2.2.2.1 rfl, rfl⟩
theorem zd_14_54_12 : zz_D zy_readLine_14_54 12 (.iload_n 1) 1 13 := ⟨zq_27 zg_14_54_0.2.2.2.2.2.2.2.2.2.2.2.2.1, rfl⟩
theorem zd_14_54_13 : zz_D zy_readLine_14_54 13 (.iconst 0) 1 14 := ⟨zq_3 zg_14_54_0.2.2.2.2.2.2.2.2.2.2.2.2.2.1, rfl⟩
theorem zd_14_54_14 : zz_D zy_readLine_14_54 14 (.iastore) 1 15 := ⟨zq_79 zg_14_54_0.2.2.2.2.2.2.2.2.2.2.2.2.2.2.1, rfl⟩
theorem zd_14_54_15 : zz_D zy_readLine_14_54 15 (.iinc 1 1) 3 18 := ⟨zq_132 zg_14_54_0.2.2.2.2.2.2.2.2.2.2.2.2.2.2.2.1 zg_14_54_0.2.2.2.2.2.2.2.2.2.2.2.2.2.2.2.2.1 zg_14_54_0.2.2.2.2.2.2.2.2.2.2.2.2.2.2.2.2.2.1 (by decide), rfl⟩
theorem zd_14_54_18 : zz_B zy_readLine_14_54 18 Instr.goto 2 21 := ⟨(-16), zq_167 zg_14_54_0.2.2.2.2.2.2.2.2.2.2.2.2.2.2.2.2.2.2.1 zg_14_54_0.2.2.2.2.2.2.2.2.2.2.2.2.2.2.2.2.2.2.2.1 zg_14_54_0.2.2.2.2.2.2.2.2.2.2.2.2.2.2.2.2.2.2.2.2.1 (by decide), rfl, rfl⟩
theorem zd_14_54_21 : zz_D zy_readLine_14_54 21 (.aload_n 0) 1 22 := ⟨zq_42 zg_14_54_0.2.2.2.2.2.2.2.2.2.2.2.2.2.2.2.2.2.2.2.2.2, rfl⟩
theorem zg_14_54_22 : zq_at zy_readLine_14_54.2.1 22 182 ∧ zq_at zy_readLine_14_54.2.1 23 1 ∧ zq_at zy_readLine_14_54.2.1 24 103 ∧ zq_at zy_readLine_14_54.2.1 25 42 ∧ zq_at zy_readLine_14_54.2.1 26 180 ∧ zq_at zy_readLine_14_54.2.1 27 1 ∧ zq_at zy_readLine_14_54.2.1 28 91 ∧ zq_at zy_readLine_14_54.2.1 29 154 ∧ zq_at zy_readLine_14_54.2.1 30 0 ∧ zq_at zy_readLine_14_54.2.1 31 5 ∧ zq_at zy_readLine_14_54.2.1 34 42 ∧ zq_at zy_readLine_14_54.2.1 35 180 ∧ zq_at zy_readLine_14_54.2.1 36 1 ∧ zq_at zy_readLine_14_54.2.1 37 91 ∧ zq_at zy_readLine_14_54.2.1 38 133 ∧ zq_at zy_readLine_14_54.2.1 39 10 ∧ zq_at zy_readLine_14_54.2.1 40 20 ∧ zq_at zy_readLine_14_54.2.1 41 0 ∧ zq_at zy_readLine_14_54.2.1 42 238 ∧ zq_at zy_readLine_14_54.2.1 43 184 ∧ zq_at zy_readLine_14_54.2.1 44 0 ∧ zq_at zy_readLine_14_54.2.1 45 192 := by decide +kernel
theorem zd_14_54_22 : zz_D zy_readLine_14_54 22 (.invokevirtual 359) 3 25 := ⟨zq_182 zg_14_54_22.1 zg_14_54_22.2.1 zg_14_54_22.2.2.1 rfl, rfl⟩
theorem zd_14_54_25 : zz_D zy_readLine_14_54 25 (.aload_n 0) 1 26 := ⟨zq_42 zg_14_54_22.2.2.2.1, rfl⟩
theorem zd_14_54_26 : zz_D zy_readLine_14_54 26 (.getfield 347) 3 29 := ⟨zq_180 zg_14_54_22.2.2.2.2.1 zg_14_54_22.2.2.2.2.2.1 zg_14_54_22.2.2.2.2.2.2.1 rfl, rfl⟩
theorem zd_14_54_29 : zz_B zy_readLine_14_54 29 (Instr.ifCond .ne) 34 32 := ⟨5, zq_154 zg_14_54_22.2.2.2.2.2.2.2.1 zg_14_54_22.2.2.2.2.2.2.2.2.1 zg_14_54_22.2.2.2.2.2.2.2.2.2.1 (by decide), rfl, rfl⟩
theorem zd_14_54_34 : zz_D zy_readLine_14_54 34 (.aload_n 0) 1 35 := ⟨zq_42 zg_14_54_22.2.2.2.2.2.2.2.2.2.2.1, rfl⟩
theorem zd_14_54_35 : zz_D zy_readLine_14_54 35 (.getfield 347) 3 38 := ⟨zq_180 zg_14_54_22.2.2.2.2.2.2.2.2.2.2.2.1 zg_14_54_22.2.2.2.2.2.2.2.2.2.2.2.2.1 zg_14_54_22.2.2.2.2.2.2.2.2.2.2.2.2.2.1 rfl, rfl⟩
theorem zd_14_54_38 : zz_D zy_readLine_14_54 38 (.i2l) 1 39 := ⟨zq_133 zg_14_54_22.2.2.2.2.2.2.2.2.2.2.2.2.2.2.1, rfl⟩
theorem zd_14_54_39 : zz_D zy_readLine_14_54 39 (.lconst 1) 1 40 := ⟨zq_10 zg_14_54_22.2.2.2.2.2.2.2.2.2.2.2.2.2.2.2.1, rfl⟩
theorem zd_14_54_40 : zz_D zy_readLine_14_54 40 (.ldc2_w 238) 3 43 := ⟨zq_20 zg_14_54_22.2.2.2.2.2.2.2.2.2.2.2.2.2.2.2.2.1 zg_14_54_22.2.2.2.2.2.2.2.2.2.2.2.2.2.2.2.2.2.1 zg_14_54_22.2.2.2.2.2.2.2.2.2.2.2.2.2.2.2.2.2.2.1 rfl, rfl⟩
theorem zd_14_54_43 : zz_D zy_readLine_14_54 43 (.invokestatic 192) 3 46 := ⟨zq_184 zg_14_54_22.2.2.2.2.2.2.2.2.2.2.2.2.2.2.2.2.2.2.2.1 zg_14_54_22.2.2.2.2.2.2.2.2.2.2.2.2.2.2.2.2.2.2.2.2.1 zg_14_54_22.2.2.2.2.2.2.2.2.2.2.2.2.2.2.2.2.2.2.2.2.2 rfl, rfl⟩
theorem zg_14_54_46 : zq_at zy_readLine_14_54.2.1 46 154 ∧ zq_at zy_readLine_14_54.2.1 47 0 ∧ zq_at zy_readLine_14_54.2.1 48 5 ∧ zq_at zy_readLine_14_54.2.1 49 2 ∧ zq_at zy_readLine_14_54.2.1 50 172 ∧ zq_at zy_readLine_14_54.2.1 51 42 ∧ zq_at zy_readLine_14_54.2.1 52 180 ∧ zq_at zy_readLine_14_54.2.1 53 0 ∧ zq_at zy_readLine_14_54.2.1 54 36 ∧ zq_at zy_readLine_14_54.2.1 55 3 ∧ zq_at zy_readLine_14_54.2.1 56 42 ∧ zq_at zy_readLine_14_54.2.1 57 180 ∧ zq_at zy_readLine_14_54.2.1 58 1 ∧ zq_at zy_readLine_14_54.2.1 59 91 ∧ zq_at zy_readLine_14_54.2.1 60 79 ∧ zq_at zy_readLine_14_54.2.1 61 42 ∧ zq_at zy_readLine_14_54.2.1 62 182 ∧ zq_at zy_readLine_14_54.2.1 63 1 ∧ zq_at zy_readLine_14_54.2.1 64 103 ∧ zq_at zy_readLine_14_54.2.1 65 3 ∧ zq_at zy_readLine_14_54.2.1 66 60 ∧ zq_at zy_readLine_14_54.2.1 32 3 ∧ zq_at zy_readLine_14_54.2.1 33 172 ∧ zq_at zy_readLine_14_54.2.1 67 42 := by decide +kernel
theorem zd_14_54_46 : zz_B zy_readLine_14_54 46 (Instr.ifCond .ne) 51 49 := ⟨5, zq_154 zg_14_54_46.1 zg_14_54_46.2.1 zg_14_54_46.2.2.1 (by decide), rfl, rfl⟩
theorem zd_14_54_49 : zz_D zy_readLine_14_54 49 (.iconst (-1)) 1 50 := ⟨zq_2 zg_14_54_46.2.2.2.1, rfl⟩
theorem zd_14_54_50 : zz_D zy_readLine_14_54 50 (.ireturn) 1 51 := ⟨zq_172 zg_14_54_46.2.2.2.2.1, rfl⟩
theorem zd_14_54_51 : zz_D zy_readLine_14_54 51 (.aload_n 0) 1 52 := ⟨zq_42 zg_14_54_46.2.2.2.2.2.1, rfl⟩
theorem zd_14_54_52 : zz_D zy_readLine_14_54 52 (.getfield 36) 3 55 := ⟨zq_180 zg_14_54_46.2.2.2.2.2.2.1 zg_14_54_46.2.2.2.2.2.2.2.1 zg_14_54_46.2.2.2.2.2.2.2.2.1 rfl, rfl⟩
theorem zd_14_54_55 : zz_D zy_readLine_14_54 55 (.iconst 0) 1 56 := ⟨zq_3 zg_14_54_46.2.2.2.2.2.2.2.2.2.1, rfl⟩
theorem zd_14_54_56 : zz_D zy_readLine_14_54 56 (.aload_n 0) 1 57 := ⟨zq_42 zg_14_54_46.2.2.2.2.2.2.2.2.2.2.1, rfl⟩
theorem zd_14_54_57 : zz_D zy_readLine_14_54 57 (.getfield 347) 3 60 := ⟨zq_180 zg_14_54_46.2.2.2.2.2.2.2.2.2.2.2.1 zg_14_54_46.2.2.2.2.2.2.2.2.2.2.2.2.1 zg_14_54_46.2.2.2.2.2.2.2.2.2.2.2.2.2.1 rfl, rfl⟩
theorem zd_14_54_60 : zz_D zy_readLine_14_54 60 (.iastore) 1 61 := ⟨zq_79 zg_14_54_46.2.2.2.2.2.2.2.2.2.2.2.2.2.2.1, rfl⟩
theorem zd_14_54_61 : zz_D zy_readLine_14_54 61 (.aload_n 0) 1 62 := ⟨zq_42 zg_14_54_46.2.2.2.2.2.2.2.2.2.2.2.2.2.2.2.1, rfl⟩
theorem zd_14_54_62 : zz_D zy_readLine_14_54 62 (.invokevirtual 359) 3 65 := ⟨zq_182 zg_14_54_46.2.2.2.2.2.2.2.2.2.2.2.2.2.2.2.2.1 zg_14_54_46.2.2.2.2.2.2.2.2.2.2.2.2.2.2.2.2.2.1 zg_14_54_46.2.2.2.2.2.2.2.2.2.2.2.2.2.2.2.2.2.2.1 rfl, rfl⟩
theorem zd_14_54_65 : zz_D zy_readLine_14_54 65 (.iconst 0) 1 66 := ⟨zq_3 zg_14_54_46.2.2.2.2.2.2.2.2.2.2.2.2.2.2.2.2.2.2.2.1, rfl⟩
theorem zd_14_54_66 : zz_D zy_readLine_14_54 66 (.istore_n 1) 1 67 := ⟨zq_60 zg_14_54_46.2.2.2.2.2.2.2.2.2.2.2.2.2.2.2.2.2.2.2.2.1, rfl⟩
theorem zd_14_54_32 : zz_D zy_readLine_14_54 32 (.iconst 0) 1 33 := ⟨zq_3 zg_14_54_46.2.2.2.2.2.2.2.2.2.2.2.2.2.2.2.2.2.2.2.2.2.1, rfl⟩
theorem zd_14_54_33 : zz_D zy_readLine_14_54 33 (.ireturn) 1 34 := ⟨zq_172 zg_14_54_46.2.2.2.2.2.2.2.2.2.2.2.2.2.2.2.2.2.2.2.2.2.2.1, rfl⟩
theorem zd_14_54_67 : zz_D zy_readLine_14_54 67 (.aload_n 0) 1 68 := ⟨zq_42 zg_14_54_46.2.2.2.2.2.2.2.2.2.2.2.2.2.2.2.2.2.2.2.2.2.2.2, rfl⟩
theorem zg_14_54_68 : zq_at zy_readLine_14_54.2.1 68 180 ∧ zq_at zy_readLine_14_54.2.1 69 1 ∧ zq_at zy_readLine_14_54.2.1 70 91 ∧ zq_at zy_readLine_14_54.2.1 71 153 ∧ zq_at zy_readLine_14_54.2.1 72 0 ∧ zq_at zy_readLine_14_54.2.1 73 27 ∧ zq_at zy_readLine_14_54.2.1 98 4 ∧ zq_at zy_readLine_14_54.2.1 99 172 ∧ zq_at zy_readLine_14_54.2.1 74 42 ∧ zq_at zy_readLine_14_54.2.1 75 182 ∧ zq_at zy_readLine_14_54.2.1 76 1 ∧ zq_at zy_readLine_14_54.2.1 77 113 ∧ zq_at zy_readLine_14_54.2.1 78 61 ∧ zq_at zy_readLine_14_54.2.1 79 28 ∧ zq_at zy_readLine_14_54.2.1 80 153 ∧ zq_at zy_readLine_14_54.2.1 81 0 ∧ zq_at zy_readLine_14_54.2.1 82 9 ∧ zq_at zy_readLine_14_54.2.1 89 2 ∧ zq_at zy_readLine_14_54.2.1 90 172 ∧ zq_at zy_readLine_14_54.2.1 83 27 ∧ zq_at zy_readLine_14_54.2.1 84 28 ∧ zq_at zy_readLine_14_54.2.1 85 126 := by decide +kernel
theorem zd_14_54_68 : zz_D zy_readLine_14_54 68 (.getfield 347) 3 71 := ⟨zq_180 zg_14_54_68.1 zg_14_54_68.2.1 zg_14_54_68.2.2.1 rfl, rfl⟩
theorem zd_14_54_71 : zz_B zy_readLine_14_54 71 (Instr.ifCond .eq) 98 74 := ⟨27, zq_153 zg_14_54_68.2.2.2.1 zg_14_54_68.2.2.2.2.1 zg_14_54_68.2.2.2.2.2.1 (by decide), rfl, rfl⟩
theorem zd_14_54_98 : zz_D zy_readLine_14_54 98 (.iconst 1) 1 99 := ⟨zq_4 zg_14_54_68.2.2.2.2.2.2.1, rfl⟩
theorem zd_14_54_99 : zz_D zy_readLine_14_54 99 (.ireturn) 1 100 := ⟨zq_172 zg_14_54_68.2.2.2.2.2.2.2.1, rfl⟩
theorem zd_14_54_74 : zz_D zy_readLine_14_54 74 (.aload_n 0) 1 75 := ⟨zq_42 zg_14_54_68.2.2.2.2.2.2.2.2.1, rfl⟩
theorem zd_14_54_75 : zz_D zy_readLine_14_54 75 (.invokevirtual 369) 3 78 := ⟨zq_182 zg_14_54_68.2.2.2.2.2.2.2.2.2.1 zg_14_54_68.2.2.2.2.2.2.2.2.2.2.1 zg_14_54_68.2.2.2.2.2.2.2.2.2.2.2.1 rfl, rfl⟩
theorem zd_14_54_78 : zz_D zy_readLine_14_54 78 (.istore_n 2) 1 79 := ⟨zq_61 zg_14_54_68.2.2.2.2.2.2.2.2.2.2.2.2.1, rfl⟩
theorem zd_14_54_79 : zz_D zy_readLine_14_54 79 (.iload_n 2) 1 80 := ⟨zq_28 zg_14_54_68.2.2.2.2.2.2.2.2.2.2.2.2.2.1, rfl⟩
theorem zd_14_54_80 : zz_B zy_readLine_14_54 80 (Instr.ifCond .eq) 89 83 := ⟨9, zq_153 zg_14_54_68.2.2.2.2.2.2.2.2.2.2.2.2.2.2.1 zg_14_54_68.2.2.2.2.2.2.2.2.2.2.2.2.2.2.2.1 zg_14_54_68.2.2.2.2.2.2.2.2.2.2.2.2.2.2.2.2.1 (by decide), rfl, rfl⟩
theorem zd_14_54_89 : zz_D zy_readLine_14_54 89 (.iconst (-1)) 1 90 := ⟨zq_2 zg_14_54_68.2.2.2.2.2.2.2.2.2.2.2.2.2.2.2.2.2.1, rfl⟩
theorem zd_14_54_90 : zz_D zy_readLine_14_54 90 (.ireturn) 1 91 := ⟨zq_172 zg_14_54_68.2.2.2.2.2.2.2.2.2.2.2.2.2.2.2.2.2.2.1, rfl⟩
theorem zd_14_54_83 : zz_D zy_readLine_14_54 83 (.iload_n 1) 1 84 := ⟨zq_27 zg_14_54_68.2.2.2.2.2.2.2.2.2.2.2.2.2.2.2.2.2.2.2.1, rfl⟩
theorem zd_14_54_84 : zz_D zy_readLine_14_54 84 (.iload_n 2) 1 85 := ⟨zq_28 zg_14_54_68.2.2.2.2.2.2.2.2.2.2.2.2.2.2.2.2.2.2.2.2.1, rfl⟩
theorem zd_14_54_85 : zz_D zy_readLine_14_54 85 (.iand) 1 86 := ⟨zq_126 zg_14_54_68.2.2.2.2.2.2.2.2.2.2.2.2.2.2.2.2.2.2.2.2.2, rfl⟩
theorem zg_14_54_86 : zq_at zy_readLine_14_54.2.1 86 153 ∧ zq_at zy_readLine_14_54.2.1 87 0 ∧ zq_at zy_readLine_14_54.2.1 88 5 ∧ zq_at zy_readLine_14_54.2.1 91 27 ∧ zq_at zy_readLine_14_54.2.1 92 28 ∧ zq_at zy_readLine_14_54.2.1 93 128 ∧ zq_at zy_readLine_14_54.2.1 94 60 ∧ zq_at zy_readLine_14_54.2.1 95 167 ∧ zq_at zy_readLine_14_54.2.1 96 255 ∧ zq_at zy_readLine_14_54.2.1 97 228 := by decide +kernel
theorem zd_14_54_86 : zz_B zy_readLine_14_54 86 (Instr.ifCond .eq) 91 89 := ⟨5, zq_153 zg_14_54_86.1 zg_14_54_86.2.1 zg_14_54_86.2.2.1 (by decide), rfl, rfl⟩
theorem zd_14_54_91 : zz_D zy_readLine_14_54 91 (.iload_n 1) 1 92 := ⟨zq_27 zg_14_54_86.2.2.2.1, rfl⟩
theorem zd_14_54_92 : zz_D zy_readLine_14_54 92 (.iload_n 2) 1 93 := ⟨zq_28 zg_14_54_86.2.2.2.2.1, rfl⟩
theorem zd_14_54_93 : zz_D zy_readLine_14_54 93 (.ior) 1 94 := ⟨zq_128 zg_14_54_86.2.2.2.2.2.1, rfl⟩
theorem zd_14_54_94 : zz_D zy_readLine_14_54 94 (.istore_n 1) 1 95 := ⟨zq_60 zg_14_54_86.2.2.2.2.2.2.1, rfl⟩
theorem zd_14_54_95 : zz_B zy_readLine_14_54 95 Instr.goto 67 98 := ⟨(-28), zq_167 zg_14_54_86.2.2.2.2.2.2.2.1 zg_14_54_86.2.2.2.2.2.2.2.2.1 zg_14_54_86.2.2.2.2.2.2.2.2.2 (by decide), rfl, rfl⟩
-- TensorForgeModel readLine ()I
abbrev zr_readLine_14_54 : Room := { frames := 4, cells := 0, slots := 0, locals := 64 }
def zp_readLine_14_54  (S0 : zz_S) : Int → zz_S → Prop := fun r S => zz_G S ∧ zz_fr [(1079, 30), (1079, 31), (1079, 32), (1087, 0), (1087, 1), (1087, 2), (1087, 3), (1087, 4), (1087, 5), (1087, 6), (1087, 7), (1087, 8), (1087, 9), (1087, 10), (1087, 11)] [] (fun _ _ => False) S0 S ∧ ((-1) ≤ r ∧ r ≤ 1) ∧ (r = zt_li (zt_tm (S0 1099) (S0 1079 33)) (zt_tn (S0 1099) (S0 1079 33)) (zt_tv (S0 1099) (S0 1079 33)) (S0 1079 32))
theorem zb_readLine_14_54_67 {g : mm_G} {l : Launch}  (S0 : zz_S) (n : Nat) (hn : zz_end ≤ n) (G_S0 : zz_G S0) (hN : ∀ w : Nat, 1 ≤ w → w ≤ 20 → S0 1100 w = zt_cd (zt_nw.getD w [])) (x1 : Int) (S : zz_S) (G_S : zz_G S) (F_S : zz_fr [(1079, 30), (1079, 31), (1079, 32), (1087, 0), (1087, 1), (1087, 2), (1087, 3), (1087, 4), (1087, 5), (1087, 6), (1087, 7), (1087, 8), (1087, 9), (1087, 10), (1087, 11)] [] (fun _ _ => False) S0 S) (i67_0 : (-2147483648) ≤ x1 ∧ x1 ≤ 2147483647) (i67_1 : 1 ≤ zt_tm (S0 1099) (S0 1079 33) (S0 1079 32) ∧ zt_tm (S0 1099) (S0 1079 33) (S0 1079 32) ≤ 9) (i67_2 : zt_IM (zt_tm (S0 1099) (S0 1079 33)) (zt_tn (S0 1099) (S0 1079 33)) (zt_tv (S0 1099) (S0 1079 33)) x1 (S 1079 30) (S 1079 32) (zt_pa (zt_tm (S0 1099) (S0 1079 33)) (zt_tn (S0 1099) (S0 1079 33)) (zt_tv (S0 1099) (S0 1079 33)) 1600 (zt_tm (S0 1099) (S0 1079 33) (zt_tn (S0 1099) (S0 1079 33) (S0 1079 32))) (zt_tn (S0 1099) (S0 1079 33) (zt_tn (S0 1099) (S0 1079 33) (S0 1079 32))) (fun _ => false))) (R : Nat) (hR : (1501 - S 1079 32).toNat = R) (k67 : ∀ (x1 : Int) (S : zz_S), zz_G S → zz_fr [(1079, 30), (1079, 31), (1079, 32), (1087, 0), (1087, 1), (1087, 2), (1087, 3), (1087, 4), (1087, 5), (1087, 6), (1087, 7), (1087, 8), (1087, 9), (1087, 10), (1087, 11)] [] (fun _ _ => False) S0 S → ((-2147483648) ≤ x1 ∧ x1 ≤ 2147483647) → (1 ≤ zt_tm (S0 1099) (S0 1079 33) (S0 1079 32) ∧ zt_tm (S0 1099) (S0 1079 33) (S0 1079 32) ≤ 9) → (zt_IM (zt_tm (S0 1099) (S0 1079 33)) (zt_tn (S0 1099) (S0 1079 33)) (zt_tv (S0 1099) (S0 1079 33)) x1 (S 1079 30) (S 1079 32) (zt_pa (zt_tm (S0 1099) (S0 1079 33)) (zt_tn (S0 1099) (S0 1079 33)) (zt_tv (S0 1099) (S0 1079 33)) 1600 (zt_tm (S0 1099) (S0 1079 33) (zt_tn (S0 1099) (S0 1079 33) (S0 1079 32))) (zt_tn (S0 1099) (S0 1079 33) (zt_tn (S0 1099) (S0 1079 33) (S0 1079 32))) (fun _ => false))) → (1501 - S 1079 32).toNat < R → zz_E g l zy_readLine_14_54 zr_readLine_14_54 (zz_QI n (zp_readLine_14_54  S0)) S n 67 [some (.ref 1079), some (zi x1)] [] 0 0) : zz_E g l zy_readLine_14_54 zr_readLine_14_54 (zz_QI n (zp_readLine_14_54  S0)) S n 67 [some (.ref 1079), some (zi x1)] [] 0 0 := by
  have ga9 := zz_G.r G_S 1079 32 0 1500 rfl rfl
  refine zz_aload_n (x := 1079) rfl zd_14_54_67 ?_
  have g62 := zz_G.r G_S 1079 30 0 102 rfl rfl
  refine zz_geti (z := S 1079 30) zd_14_54_68 zf_Md_347 zT_1079 rfl (zz_ltn hn rfl) rfl ?_
  refine zz_if_eq (by omega) zd_14_54_71 (fun c63 => ?_) (fun c63 => ?_)
  · refine zz_iconst zd_14_54_98 ?_
    exact zz_iret zd_14_54_99 rfl (Nat.zero_le _) (Nat.zero_le _) ⟨_, _, rfl, G_S, F_S, by omega, (by have h9 := zt_IME i67_2 (by omega) (by omega); unfold zt_li; rw [if_neg (by omega), if_pos (by omega), if_pos h9])⟩
  · refine zz_aload_n (x := 1079) rfl zd_14_54_74 ?_
    have g64 := zz_G.r G_S 1079 32 0 1500 rfl rfl
    have g65 := zz_G.r G_S0 1079 33 0 1500 rfl rfl
    have e66 : S 1079 33 = S0 1079 33 := (zz_rc F_S rfl rfl (fun h => h) rfl)
    refine zz_callVI [] zd_14_54_75 zk_Md_369 zT_1079 (zz_ltn hn rfl) rfl rfl ⟨Nat.le_of_ble_eq_true rfl, Nat.le_of_ble_eq_true rfl⟩ ⟨rfl, rfl⟩ (Nat.zero_le _) (Nat.zero_le _) (zc_part_14_52  S n hn G_S (fun u h1 h2 => ((zz_rc F_S (zz_nc1 rfl) rfl (fun h => h) rfl)).trans (hN u h1 h2))) (fun v68 S67 hP => ?_)
    obtain ⟨G_S67, fS67, o69, o70, o71, o72, o73⟩ := hP
    rw [show S 1099 = S0 1099 from funext (fun u => (zz_rc F_S (zz_nc1 rfl) rfl (fun h => h) rfl)), show S 1079 33 = S0 1079 33 from (zz_rc F_S rfl rfl (fun h => h) rfl)] at o72
    rw [show S 1099 = S0 1099 from funext (fun u => (zz_rc F_S (zz_nc1 rfl) rfl (fun h => h) rfl)), show S 1079 33 = S0 1079 33 from (zz_rc F_S rfl rfl (fun h => h) rfl)] at o73
    have F_S67 := zz_fr.trans F_S fS67 rfl zz_nv
    refine zz_istore_n [some (.ref 1079), some (zi x1), some (zi v68)] zd_14_54_78 (by decide) rfl ?_
    refine zz_iload_n (x := v68) rfl zd_14_54_79 ?_
    refine zz_if_eq (by omega) zd_14_54_80 (fun c74 => ?_) (fun c74 => ?_)
    · refine zz_iconst zd_14_54_89 ?_
      exact zz_iret zd_14_54_90 rfl (Nat.zero_le _) (Nat.zero_le _) ⟨_, _, rfl, G_S67, F_S67, by omega, (by have h9 := zt_IMN i67_2 (by omega) (by omega) o72 (v := 0) (Or.inl (by omega)); unfold zt_li; rw [if_neg (by omega), if_pos (by omega), if_neg (by omega)])⟩
    · refine zz_iload_n (x := x1) rfl zd_14_54_83 ?_
      refine zz_iload_n (x := v68) rfl zd_14_54_84 ?_
      refine zz_iand (by omega) (by omega) zd_14_54_85 (fun v75 hv75 av75 bv75 ev75 => ?_)
      skip
      refine zz_if_eq (by omega) zd_14_54_86 (fun c76 => ?_) (fun c76 => ?_)
      · refine zz_iload_n (x := x1) rfl zd_14_54_91 ?_
        refine zz_iload_n (x := v68) rfl zd_14_54_92 ?_
        refine zz_ior (by omega) (by omega) zd_14_54_93 (fun v77 hv77 av77 ev77 => ?_)
        refine zz_istore_n [some (.ref 1079), some (zi v77), some (zi v68)] zd_14_54_94 (by decide) rfl ?_
        refine zz_goto zd_14_54_95 ?_
        have g78 := zz_G.r G_S67 1079 30 0 102 rfl rfl
        have g79 := zz_G.r G_S67 1079 32 0 1500 rfl rfl
        refine zz_less (ls1 := [some (.ref 1079), some (zi v77)]) ⟨rfl, ⟨rfl, trivial⟩⟩ ?_
        exact k67 v77 S67 G_S67 F_S67 (by omega) (by omega) (zt_IMS i67_2 (by omega) (by omega) o72 (by omega) (by assumption) (by omega) (by assumption) (o73 (by omega)).1 (o73 (by omega)).2 (by omega)) (by omega)
      · refine zz_iconst zd_14_54_89 ?_
        exact zz_iret zd_14_54_90 rfl (Nat.zero_le _) (Nat.zero_le _) ⟨_, _, rfl, G_S67, F_S67, by omega, (by have h9 := zt_IMN i67_2 (by omega) (by omega) o72 (Or.inr ⟨by assumption, by omega⟩); unfold zt_li; rw [if_neg (by omega), if_pos (by omega), if_neg (by omega)])⟩
theorem zi_readLine_14_54 {g : mm_G} {l : Launch}  (S0 : zz_S) (n : Nat) (hn : zz_end ≤ n) (G_S0 : zz_G S0) (hN : ∀ w : Nat, 1 ≤ w → w ≤ 20 → S0 1100 w = zt_cd (zt_nw.getD w [])) : ∀ N : Nat, (∀ (x1 : Int) (S : zz_S), zz_G S → zz_fr [(1079, 30), (1079, 31), (1079, 32), (1087, 0), (1087, 1), (1087, 2), (1087, 3), (1087, 4), (1087, 5), (1087, 6), (1087, 7), (1087, 8), (1087, 9), (1087, 10), (1087, 11)] [] (fun _ _ => False) S0 S → ((-2147483648) ≤ x1 ∧ x1 ≤ 2147483647) → (1 ≤ zt_tm (S0 1099) (S0 1079 33) (S0 1079 32) ∧ zt_tm (S0 1099) (S0 1079 33) (S0 1079 32) ≤ 9) → (zt_IM (zt_tm (S0 1099) (S0 1079 33)) (zt_tn (S0 1099) (S0 1079 33)) (zt_tv (S0 1099) (S0 1079 33)) x1 (S 1079 30) (S 1079 32) (zt_pa (zt_tm (S0 1099) (S0 1079 33)) (zt_tn (S0 1099) (S0 1079 33)) (zt_tv (S0 1099) (S0 1079 33)) 1600 (zt_tm (S0 1099) (S0 1079 33) (zt_tn (S0 1099) (S0 1079 33) (S0 1079 32))) (zt_tn (S0 1099) (S0 1079 33) (zt_tn (S0 1099) (S0 1079 33) (S0 1079 32))) (fun _ => false))) → (1501 - S 1079 32).toNat < N → zz_E g l zy_readLine_14_54 zr_readLine_14_54 (zz_QI n (zp_readLine_14_54  S0)) S n 67 [some (.ref 1079), some (zi x1)] [] 0 0) := by
  intro N
  induction N with
  | zero => exact fun x1 S _ _ _ _ _ h => absurd h (Nat.not_lt_zero _)
  | succ N ih =>
    exact fun x1 S a b j0 j1 j2 hR => zb_readLine_14_54_67  S0 n hn G_S0 hN x1 S a b j0 j1 j2 _ rfl (fun x1 S a b j0 j1 j2 h => ih x1 S a b j0 j1 j2 (Nat.lt_of_lt_of_le h (Nat.le_of_lt_succ hR)))
theorem zc_readLine_14_54 {g : mm_G} {l : Launch}  (S0 : zz_S) (n : Nat) (hn : zz_end ≤ n) (G_S0 : zz_G S0) (hN : ∀ w : Nat, 1 ≤ w → w ≤ 20 → S0 1100 w = zt_cd (zt_nw.getD w [])) : mm_Met g l zy_readLine_14_54 zr_readLine_14_54 [.ref 1079] (zz_M S0 n) n (zz_QI n (zp_readLine_14_54  S0)) := by
  refine zz_enter (by decide) (Nat.le_of_ble_eq_true rfl) (zz_less (ls1 := [some (.ref 1079)]) ⟨rfl, trivial⟩ ?_)
  have F_S0 : zz_fr [(1079, 30), (1079, 31), (1079, 32), (1087, 0), (1087, 1), (1087, 2), (1087, 3), (1087, 4), (1087, 5), (1087, 6), (1087, 7), (1087, 8), (1087, 9), (1087, 10), (1087, 11)] [] (fun _ _ => False) S0 S0 := zz_fr.refl
  have k67 : ∀ (x1 : Int) (S : zz_S), zz_G S → zz_fr [(1079, 30), (1079, 31), (1079, 32), (1087, 0), (1087, 1), (1087, 2), (1087, 3), (1087, 4), (1087, 5), (1087, 6), (1087, 7), (1087, 8), (1087, 9), (1087, 10), (1087, 11)] [] (fun _ _ => False) S0 S → ((-2147483648) ≤ x1 ∧ x1 ≤ 2147483647) → (1 ≤ zt_tm (S0 1099) (S0 1079 33) (S0 1079 32) ∧ zt_tm (S0 1099) (S0 1079 33) (S0 1079 32) ≤ 9) → (zt_IM (zt_tm (S0 1099) (S0 1079 33)) (zt_tn (S0 1099) (S0 1079 33)) (zt_tv (S0 1099) (S0 1079 33)) x1 (S 1079 30) (S 1079 32) (zt_pa (zt_tm (S0 1099) (S0 1079 33)) (zt_tn (S0 1099) (S0 1079 33)) (zt_tv (S0 1099) (S0 1079 33)) 1600 (zt_tm (S0 1099) (S0 1079 33) (zt_tn (S0 1099) (S0 1079 33) (S0 1079 32))) (zt_tn (S0 1099) (S0 1079 33) (zt_tn (S0 1099) (S0 1079 33) (S0 1079 32))) (fun _ => false))) → zz_E g l zy_readLine_14_54 zr_readLine_14_54 (zz_QI n (zp_readLine_14_54  S0)) S n 67 [some (.ref 1079), some (zi x1)] [] 0 0 := fun x1 S a b j0 j1 j2 => (zi_readLine_14_54 (g := g) (l := l)  S0 n hn G_S0 hN _) x1 S a b j0 j1 j2 (Nat.lt_succ_self _)
  refine zz_iconst zd_14_54_0 ?_
  refine zz_istore_n [some (.ref 1079), some (zi 0)] zd_14_54_1 (by decide) rfl ?_
  refine zz_iload_n (x := 0) rfl zd_14_54_2 ?_
  refine zz_bipush (by decide) zd_14_54_3 ?_
  refine zz_icmp_ge (by omega) (by omega) zd_14_54_5 (fun c1 => ?_) (fun c1 => ?_)
  · exfalso; omega
  · refine zz_aload_n (x := 1079) rfl zd_14_54_8 ?_
    refine zz_getr (kd := 0) (z := 1087) zd_14_54_9 zf_Md_36 zT_1079 rfl (zz_ltn hn rfl) (zz_G.eq G_S0 1079 11 1087 rfl rfl) (by decide) 1087 rfl ?_
    refine zz_iload_n (x := 0) rfl zd_14_54_12 ?_
    refine zz_iconst zd_14_54_13 ?_
    refine zz_iast zd_14_54_14 zT_1087 rfl (zz_ltn hn rfl) (by decide) (by decide) (fun S2 qS2 => ?_)
    have G_S2 := zz_G.put G_S0 qS2 (-2147483648) 2147483647 rfl (by omega)
    have F_S2 := zz_fr.puts F_S0 qS2 rfl
    refine zz_iinc [some (.ref 1079), some (zi 1)] zd_14_54_15 rfl rfl ?_
    refine zz_goto zd_14_54_18 ?_
    refine zz_iload_n (x := 1) rfl zd_14_54_2 ?_
    refine zz_bipush (by decide) zd_14_54_3 ?_
    refine zz_icmp_ge (by omega) (by omega) zd_14_54_5 (fun c3 => ?_) (fun c3 => ?_)
    · exfalso; omega
    · refine zz_aload_n (x := 1079) rfl zd_14_54_8 ?_
      refine zz_getr (kd := 0) (z := 1087) zd_14_54_9 zf_Md_36 zT_1079 rfl (zz_ltn hn rfl) (zz_G.eq G_S2 1079 11 1087 rfl rfl) (by decide) 1087 rfl ?_
      refine zz_iload_n (x := 1) rfl zd_14_54_12 ?_
      refine zz_iconst zd_14_54_13 ?_
      refine zz_iast zd_14_54_14 zT_1087 rfl (zz_ltn hn rfl) (by decide) (by decide) (fun S4 qS4 => ?_)
      have G_S4 := zz_G.put G_S2 qS4 (-2147483648) 2147483647 rfl (by omega)
      have F_S4 := zz_fr.puts F_S2 qS4 rfl
      refine zz_iinc [some (.ref 1079), some (zi 2)] zd_14_54_15 rfl rfl ?_
      refine zz_goto zd_14_54_18 ?_
      refine zz_iload_n (x := 2) rfl zd_14_54_2 ?_
      refine zz_bipush (by decide) zd_14_54_3 ?_
      refine zz_icmp_ge (by omega) (by omega) zd_14_54_5 (fun c5 => ?_) (fun c5 => ?_)
      · exfalso; omega
      · refine zz_aload_n (x := 1079) rfl zd_14_54_8 ?_
        refine zz_getr (kd := 0) (z := 1087) zd_14_54_9 zf_Md_36 zT_1079 rfl (zz_ltn hn rfl) (zz_G.eq G_S4 1079 11 1087 rfl rfl) (by decide) 1087 rfl ?_
        refine zz_iload_n (x := 2) rfl zd_14_54_12 ?_
        refine zz_iconst zd_14_54_13 ?_
        refine zz_iast zd_14_54_14 zT_1087 rfl (zz_ltn hn rfl) (by decide) (by decide) (fun S6 qS6 => ?_)
        have G_S6 := zz_G.put G_S4 qS6 (-2147483648) 2147483647 rfl (by omega)
        have F_S6 := zz_fr.puts F_S4 qS6 rfl
        refine zz_iinc [some (.ref 1079), some (zi 3)] zd_14_54_15 rfl rfl ?_
        refine zz_goto zd_14_54_18 ?_
        refine zz_iload_n (x := 3) rfl zd_14_54_2 ?_
        refine zz_bipush (by decide) zd_14_54_3 ?_
        refine zz_icmp_ge (by omega) (by omega) zd_14_54_5 (fun c7 => ?_) (fun c7 => ?_)
        · exfalso; omega
        · refine zz_aload_n (x := 1079) rfl zd_14_54_8 ?_
          refine zz_getr (kd := 0) (z := 1087) zd_14_54_9 zf_Md_36 zT_1079 rfl (zz_ltn hn rfl) (zz_G.eq G_S6 1079 11 1087 rfl rfl) (by decide) 1087 rfl ?_
          refine zz_iload_n (x := 3) rfl zd_14_54_12 ?_
          refine zz_iconst zd_14_54_13 ?_
          refine zz_iast zd_14_54_14 zT_1087 rfl (zz_ltn hn rfl) (by decide) (by decide) (fun S8 qS8 => ?_)
          have G_S8 := zz_G.put G_S6 qS8 (-2147483648) 2147483647 rfl (by omega)
          have F_S8 := zz_fr.puts F_S6 qS8 rfl
          refine zz_iinc [some (.ref 1079), some (zi 4)] zd_14_54_15 rfl rfl ?_
          refine zz_goto zd_14_54_18 ?_
          refine zz_iload_n (x := 4) rfl zd_14_54_2 ?_
          refine zz_bipush (by decide) zd_14_54_3 ?_
          refine zz_icmp_ge (by omega) (by omega) zd_14_54_5 (fun c9 => ?_) (fun c9 => ?_)
          · exfalso; omega
          · refine zz_aload_n (x := 1079) rfl zd_14_54_8 ?_
            refine zz_getr (kd := 0) (z := 1087) zd_14_54_9 zf_Md_36 zT_1079 rfl (zz_ltn hn rfl) (zz_G.eq G_S8 1079 11 1087 rfl rfl) (by decide) 1087 rfl ?_
            refine zz_iload_n (x := 4) rfl zd_14_54_12 ?_
            refine zz_iconst zd_14_54_13 ?_
            refine zz_iast zd_14_54_14 zT_1087 rfl (zz_ltn hn rfl) (by decide) (by decide) (fun S10 qS10 => ?_)
            have G_S10 := zz_G.put G_S8 qS10 (-2147483648) 2147483647 rfl (by omega)
            have F_S10 := zz_fr.puts F_S8 qS10 rfl
            refine zz_iinc [some (.ref 1079), some (zi 5)] zd_14_54_15 rfl rfl ?_
            refine zz_goto zd_14_54_18 ?_
            refine zz_iload_n (x := 5) rfl zd_14_54_2 ?_
            refine zz_bipush (by decide) zd_14_54_3 ?_
            refine zz_icmp_ge (by omega) (by omega) zd_14_54_5 (fun c11 => ?_) (fun c11 => ?_)
            · exfalso; omega
            · refine zz_aload_n (x := 1079) rfl zd_14_54_8 ?_
              refine zz_getr (kd := 0) (z := 1087) zd_14_54_9 zf_Md_36 zT_1079 rfl (zz_ltn hn rfl) (zz_G.eq G_S10 1079 11 1087 rfl rfl) (by decide) 1087 rfl ?_
              refine zz_iload_n (x := 5) rfl zd_14_54_12 ?_
              refine zz_iconst zd_14_54_13 ?_
              refine zz_iast zd_14_54_14 zT_1087 rfl (zz_ltn hn rfl) (by decide) (by decide) (fun S12 qS12 => ?_)
              have G_S12 := zz_G.put G_S10 qS12 (-2147483648) 2147483647 rfl (by omega)
              have F_S12 := zz_fr.puts F_S10 qS12 rfl
              refine zz_iinc [some (.ref 1079), some (zi 6)] zd_14_54_15 rfl rfl ?_
              refine zz_goto zd_14_54_18 ?_
              refine zz_iload_n (x := 6) rfl zd_14_54_2 ?_
              refine zz_bipush (by decide) zd_14_54_3 ?_
              refine zz_icmp_ge (by omega) (by omega) zd_14_54_5 (fun c13 => ?_) (fun c13 => ?_)
              · exfalso; omega
              · refine zz_aload_n (x := 1079) rfl zd_14_54_8 ?_
                refine zz_getr (kd := 0) (z := 1087) zd_14_54_9 zf_Md_36 zT_1079 rfl (zz_ltn hn rfl) (zz_G.eq G_S12 1079 11 1087 rfl rfl) (by decide) 1087 rfl ?_
                refine zz_iload_n (x := 6) rfl zd_14_54_12 ?_
                refine zz_iconst zd_14_54_13 ?_
                refine zz_iast zd_14_54_14 zT_1087 rfl (zz_ltn hn rfl) (by decide) (by decide) (fun S14 qS14 => ?_)
                have G_S14 := zz_G.put G_S12 qS14 (-2147483648) 2147483647 rfl (by omega)
                have F_S14 := zz_fr.puts F_S12 qS14 rfl
                refine zz_iinc [some (.ref 1079), some (zi 7)] zd_14_54_15 rfl rfl ?_
                refine zz_goto zd_14_54_18 ?_
                refine zz_iload_n (x := 7) rfl zd_14_54_2 ?_
                refine zz_bipush (by decide) zd_14_54_3 ?_
                refine zz_icmp_ge (by omega) (by omega) zd_14_54_5 (fun c15 => ?_) (fun c15 => ?_)
                · exfalso; omega
                · refine zz_aload_n (x := 1079) rfl zd_14_54_8 ?_
                  refine zz_getr (kd := 0) (z := 1087) zd_14_54_9 zf_Md_36 zT_1079 rfl (zz_ltn hn rfl) (zz_G.eq G_S14 1079 11 1087 rfl rfl) (by decide) 1087 rfl ?_
                  refine zz_iload_n (x := 7) rfl zd_14_54_12 ?_
                  refine zz_iconst zd_14_54_13 ?_
                  refine zz_iast zd_14_54_14 zT_1087 rfl (zz_ltn hn rfl) (by decide) (by decide) (fun S16 qS16 => ?_)
                  have G_S16 := zz_G.put G_S14 qS16 (-2147483648) 2147483647 rfl (by omega)
                  have F_S16 := zz_fr.puts F_S14 qS16 rfl
                  refine zz_iinc [some (.ref 1079), some (zi 8)] zd_14_54_15 rfl rfl ?_
                  refine zz_goto zd_14_54_18 ?_
                  refine zz_iload_n (x := 8) rfl zd_14_54_2 ?_
                  refine zz_bipush (by decide) zd_14_54_3 ?_
                  refine zz_icmp_ge (by omega) (by omega) zd_14_54_5 (fun c17 => ?_) (fun c17 => ?_)
                  · exfalso; omega
                  · refine zz_aload_n (x := 1079) rfl zd_14_54_8 ?_
                    refine zz_getr (kd := 0) (z := 1087) zd_14_54_9 zf_Md_36 zT_1079 rfl (zz_ltn hn rfl) (zz_G.eq G_S16 1079 11 1087 rfl rfl) (by decide) 1087 rfl ?_
                    refine zz_iload_n (x := 8) rfl zd_14_54_12 ?_
                    refine zz_iconst zd_14_54_13 ?_
                    refine zz_iast zd_14_54_14 zT_1087 rfl (zz_ltn hn rfl) (by decide) (by decide) (fun S18 qS18 => ?_)
                    have G_S18 := zz_G.put G_S16 qS18 (-2147483648) 2147483647 rfl (by omega)
                    have F_S18 := zz_fr.puts F_S16 qS18 rfl
                    refine zz_iinc [some (.ref 1079), some (zi 9)] zd_14_54_15 rfl rfl ?_
                    refine zz_goto zd_14_54_18 ?_
                    refine zz_iload_n (x := 9) rfl zd_14_54_2 ?_
                    refine zz_bipush (by decide) zd_14_54_3 ?_
                    refine zz_icmp_ge (by omega) (by omega) zd_14_54_5 (fun c19 => ?_) (fun c19 => ?_)
                    · exfalso; omega
                    · refine zz_aload_n (x := 1079) rfl zd_14_54_8 ?_
                      refine zz_getr (kd := 0) (z := 1087) zd_14_54_9 zf_Md_36 zT_1079 rfl (zz_ltn hn rfl) (zz_G.eq G_S18 1079 11 1087 rfl rfl) (by decide) 1087 rfl ?_
                      refine zz_iload_n (x := 9) rfl zd_14_54_12 ?_
                      refine zz_iconst zd_14_54_13 ?_
                      refine zz_iast zd_14_54_14 zT_1087 rfl (zz_ltn hn rfl) (by decide) (by decide) (fun S20 qS20 => ?_)
                      have G_S20 := zz_G.put G_S18 qS20 (-2147483648) 2147483647 rfl (by omega)
                      have F_S20 := zz_fr.puts F_S18 qS20 rfl
                      refine zz_iinc [some (.ref 1079), some (zi 10)] zd_14_54_15 rfl rfl ?_
                      refine zz_goto zd_14_54_18 ?_
                      refine zz_iload_n (x := 10) rfl zd_14_54_2 ?_
                      refine zz_bipush (by decide) zd_14_54_3 ?_
                      refine zz_icmp_ge (by omega) (by omega) zd_14_54_5 (fun c21 => ?_) (fun c21 => ?_)
                      · exfalso; omega
                      · refine zz_aload_n (x := 1079) rfl zd_14_54_8 ?_
                        refine zz_getr (kd := 0) (z := 1087) zd_14_54_9 zf_Md_36 zT_1079 rfl (zz_ltn hn rfl) (zz_G.eq G_S20 1079 11 1087 rfl rfl) (by decide) 1087 rfl ?_
                        refine zz_iload_n (x := 10) rfl zd_14_54_12 ?_
                        refine zz_iconst zd_14_54_13 ?_
                        refine zz_iast zd_14_54_14 zT_1087 rfl (zz_ltn hn rfl) (by decide) (by decide) (fun S22 qS22 => ?_)
                        have G_S22 := zz_G.put G_S20 qS22 (-2147483648) 2147483647 rfl (by omega)
                        have F_S22 := zz_fr.puts F_S20 qS22 rfl
                        refine zz_iinc [some (.ref 1079), some (zi 11)] zd_14_54_15 rfl rfl ?_
                        refine zz_goto zd_14_54_18 ?_
                        refine zz_iload_n (x := 11) rfl zd_14_54_2 ?_
                        refine zz_bipush (by decide) zd_14_54_3 ?_
                        refine zz_icmp_ge (by omega) (by omega) zd_14_54_5 (fun c23 => ?_) (fun c23 => ?_)
                        · exfalso; omega
                        · refine zz_aload_n (x := 1079) rfl zd_14_54_8 ?_
                          refine zz_getr (kd := 0) (z := 1087) zd_14_54_9 zf_Md_36 zT_1079 rfl (zz_ltn hn rfl) (zz_G.eq G_S22 1079 11 1087 rfl rfl) (by decide) 1087 rfl ?_
                          refine zz_iload_n (x := 11) rfl zd_14_54_12 ?_
                          refine zz_iconst zd_14_54_13 ?_
                          refine zz_iast zd_14_54_14 zT_1087 rfl (zz_ltn hn rfl) (by decide) (by decide) (fun S24 qS24 => ?_)
                          have G_S24 := zz_G.put G_S22 qS24 (-2147483648) 2147483647 rfl (by omega)
                          have F_S24 := zz_fr.puts F_S22 qS24 rfl
                          refine zz_iinc [some (.ref 1079), some (zi 12)] zd_14_54_15 rfl rfl ?_
                          refine zz_goto zd_14_54_18 ?_
                          refine zz_iload_n (x := 12) rfl zd_14_54_2 ?_
                          refine zz_bipush (by decide) zd_14_54_3 ?_
                          refine zz_icmp_ge (by omega) (by omega) zd_14_54_5 (fun c25 => ?_) (fun c25 => ?_)
                          · refine zz_aload_n (x := 1079) rfl zd_14_54_21 ?_
                            have g26 := zz_G.r G_S0 1079 32 0 1500 rfl rfl
                            have e27 : S24 1079 32 = S0 1079 32 := (zz_ro qS24 (fun h => absurd h.1 (by decide)) (zz_ro qS22 (fun h => absurd h.1 (by decide)) (zz_ro qS20 (fun h => absurd h.1 (by decide)) (zz_ro qS18 (fun h => absurd h.1 (by decide)) (zz_ro qS16 (fun h => absurd h.1 (by decide)) (zz_ro qS14 (fun h => absurd h.1 (by decide)) (zz_ro qS12 (fun h => absurd h.1 (by decide)) (zz_ro qS10 (fun h => absurd h.1 (by decide)) (zz_ro qS8 (fun h => absurd h.1 (by decide)) (zz_ro qS6 (fun h => absurd h.1 (by decide)) (zz_ro qS4 (fun h => absurd h.1 (by decide)) (zz_ro qS2 (fun h => absurd h.1 (by decide)) rfl))))))))))))
                            have g28 := zz_G.r G_S0 1079 33 0 1500 rfl rfl
                            have e29 : S24 1079 33 = S0 1079 33 := (zz_ro qS24 (fun h => absurd h.1 (by decide)) (zz_ro qS22 (fun h => absurd h.1 (by decide)) (zz_ro qS20 (fun h => absurd h.1 (by decide)) (zz_ro qS18 (fun h => absurd h.1 (by decide)) (zz_ro qS16 (fun h => absurd h.1 (by decide)) (zz_ro qS14 (fun h => absurd h.1 (by decide)) (zz_ro qS12 (fun h => absurd h.1 (by decide)) (zz_ro qS10 (fun h => absurd h.1 (by decide)) (zz_ro qS8 (fun h => absurd h.1 (by decide)) (zz_ro qS6 (fun h => absurd h.1 (by decide)) (zz_ro qS4 (fun h => absurd h.1 (by decide)) (zz_ro qS2 (fun h => absurd h.1 (by decide)) rfl))))))))))))
                            refine zz_callVV [] zd_14_54_22 zk_Md_359 zT_1079 (zz_ltn hn rfl) rfl rfl ⟨Nat.le_of_ble_eq_true rfl, Nat.le_of_ble_eq_true rfl⟩ ⟨rfl, rfl⟩ (Nat.zero_le _) (Nat.zero_le _) (zc_advance_14_49  S24 n hn G_S24 (fun u h1 h2 => ((zz_ro qS24 (fun h => absurd h.1 (by decide)) (zz_ro qS22 (fun h => absurd h.1 (by decide)) (zz_ro qS20 (fun h => absurd h.1 (by decide)) (zz_ro qS18 (fun h => absurd h.1 (by decide)) (zz_ro qS16 (fun h => absurd h.1 (by decide)) (zz_ro qS14 (fun h => absurd h.1 (by decide)) (zz_ro qS12 (fun h => absurd h.1 (by decide)) (zz_ro qS10 (fun h => absurd h.1 (by decide)) (zz_ro qS8 (fun h => absurd h.1 (by decide)) (zz_ro qS6 (fun h => absurd h.1 (by decide)) (zz_ro qS4 (fun h => absurd h.1 (by decide)) (zz_ro qS2 (fun h => absurd h.1 (by decide)) rfl))))))))))))).trans (hN u h1 h2))) (fun S30 hP => ?_)
                            obtain ⟨G_S30, fS30, o32, o33, o34, o35, o36, o37⟩ := hP
                            rw [show S24 1079 32 = S0 1079 32 from (zz_ro qS24 (fun h => absurd h.1 (by decide)) (zz_ro qS22 (fun h => absurd h.1 (by decide)) (zz_ro qS20 (fun h => absurd h.1 (by decide)) (zz_ro qS18 (fun h => absurd h.1 (by decide)) (zz_ro qS16 (fun h => absurd h.1 (by decide)) (zz_ro qS14 (fun h => absurd h.1 (by decide)) (zz_ro qS12 (fun h => absurd h.1 (by decide)) (zz_ro qS10 (fun h => absurd h.1 (by decide)) (zz_ro qS8 (fun h => absurd h.1 (by decide)) (zz_ro qS6 (fun h => absurd h.1 (by decide)) (zz_ro qS4 (fun h => absurd h.1 (by decide)) (zz_ro qS2 (fun h => absurd h.1 (by decide)) rfl))))))))))))] at o32
                            rw [show S24 1079 32 = S0 1079 32 from (zz_ro qS24 (fun h => absurd h.1 (by decide)) (zz_ro qS22 (fun h => absurd h.1 (by decide)) (zz_ro qS20 (fun h => absurd h.1 (by decide)) (zz_ro qS18 (fun h => absurd h.1 (by decide)) (zz_ro qS16 (fun h => absurd h.1 (by decide)) (zz_ro qS14 (fun h => absurd h.1 (by decide)) (zz_ro qS12 (fun h => absurd h.1 (by decide)) (zz_ro qS10 (fun h => absurd h.1 (by decide)) (zz_ro qS8 (fun h => absurd h.1 (by decide)) (zz_ro qS6 (fun h => absurd h.1 (by decide)) (zz_ro qS4 (fun h => absurd h.1 (by decide)) (zz_ro qS2 (fun h => absurd h.1 (by decide)) rfl))))))))))))] at o33
                            rw [show S24 1099 = S0 1099 from funext (fun u => (zz_ro qS24 (fun h => absurd h.1 (by decide)) (zz_ro qS22 (fun h => absurd h.1 (by decide)) (zz_ro qS20 (fun h => absurd h.1 (by decide)) (zz_ro qS18 (fun h => absurd h.1 (by decide)) (zz_ro qS16 (fun h => absurd h.1 (by decide)) (zz_ro qS14 (fun h => absurd h.1 (by decide)) (zz_ro qS12 (fun h => absurd h.1 (by decide)) (zz_ro qS10 (fun h => absurd h.1 (by decide)) (zz_ro qS8 (fun h => absurd h.1 (by decide)) (zz_ro qS6 (fun h => absurd h.1 (by decide)) (zz_ro qS4 (fun h => absurd h.1 (by decide)) (zz_ro qS2 (fun h => absurd h.1 (by decide)) rfl))))))))))))), show S24 1079 33 = S0 1079 33 from (zz_ro qS24 (fun h => absurd h.1 (by decide)) (zz_ro qS22 (fun h => absurd h.1 (by decide)) (zz_ro qS20 (fun h => absurd h.1 (by decide)) (zz_ro qS18 (fun h => absurd h.1 (by decide)) (zz_ro qS16 (fun h => absurd h.1 (by decide)) (zz_ro qS14 (fun h => absurd h.1 (by decide)) (zz_ro qS12 (fun h => absurd h.1 (by decide)) (zz_ro qS10 (fun h => absurd h.1 (by decide)) (zz_ro qS8 (fun h => absurd h.1 (by decide)) (zz_ro qS6 (fun h => absurd h.1 (by decide)) (zz_ro qS4 (fun h => absurd h.1 (by decide)) (zz_ro qS2 (fun h => absurd h.1 (by decide)) rfl)))))))))))), show S24 1079 32 = S0 1079 32 from (zz_ro qS24 (fun h => absurd h.1 (by decide)) (zz_ro qS22 (fun h => absurd h.1 (by decide)) (zz_ro qS20 (fun h => absurd h.1 (by decide)) (zz_ro qS18 (fun h => absurd h.1 (by decide)) (zz_ro qS16 (fun h => absurd h.1 (by decide)) (zz_ro qS14 (fun h => absurd h.1 (by decide)) (zz_ro qS12 (fun h => absurd h.1 (by decide)) (zz_ro qS10 (fun h => absurd h.1 (by decide)) (zz_ro qS8 (fun h => absurd h.1 (by decide)) (zz_ro qS6 (fun h => absurd h.1 (by decide)) (zz_ro qS4 (fun h => absurd h.1 (by decide)) (zz_ro qS2 (fun h => absurd h.1 (by decide)) rfl))))))))))))] at o35
                            rw [show S24 1099 = S0 1099 from funext (fun u => (zz_ro qS24 (fun h => absurd h.1 (by decide)) (zz_ro qS22 (fun h => absurd h.1 (by decide)) (zz_ro qS20 (fun h => absurd h.1 (by decide)) (zz_ro qS18 (fun h => absurd h.1 (by decide)) (zz_ro qS16 (fun h => absurd h.1 (by decide)) (zz_ro qS14 (fun h => absurd h.1 (by decide)) (zz_ro qS12 (fun h => absurd h.1 (by decide)) (zz_ro qS10 (fun h => absurd h.1 (by decide)) (zz_ro qS8 (fun h => absurd h.1 (by decide)) (zz_ro qS6 (fun h => absurd h.1 (by decide)) (zz_ro qS4 (fun h => absurd h.1 (by decide)) (zz_ro qS2 (fun h => absurd h.1 (by decide)) rfl))))))))))))), show S24 1079 33 = S0 1079 33 from (zz_ro qS24 (fun h => absurd h.1 (by decide)) (zz_ro qS22 (fun h => absurd h.1 (by decide)) (zz_ro qS20 (fun h => absurd h.1 (by decide)) (zz_ro qS18 (fun h => absurd h.1 (by decide)) (zz_ro qS16 (fun h => absurd h.1 (by decide)) (zz_ro qS14 (fun h => absurd h.1 (by decide)) (zz_ro qS12 (fun h => absurd h.1 (by decide)) (zz_ro qS10 (fun h => absurd h.1 (by decide)) (zz_ro qS8 (fun h => absurd h.1 (by decide)) (zz_ro qS6 (fun h => absurd h.1 (by decide)) (zz_ro qS4 (fun h => absurd h.1 (by decide)) (zz_ro qS2 (fun h => absurd h.1 (by decide)) rfl)))))))))))), show S24 1079 32 = S0 1079 32 from (zz_ro qS24 (fun h => absurd h.1 (by decide)) (zz_ro qS22 (fun h => absurd h.1 (by decide)) (zz_ro qS20 (fun h => absurd h.1 (by decide)) (zz_ro qS18 (fun h => absurd h.1 (by decide)) (zz_ro qS16 (fun h => absurd h.1 (by decide)) (zz_ro qS14 (fun h => absurd h.1 (by decide)) (zz_ro qS12 (fun h => absurd h.1 (by decide)) (zz_ro qS10 (fun h => absurd h.1 (by decide)) (zz_ro qS8 (fun h => absurd h.1 (by decide)) (zz_ro qS6 (fun h => absurd h.1 (by decide)) (zz_ro qS4 (fun h => absurd h.1 (by decide)) (zz_ro qS2 (fun h => absurd h.1 (by decide)) rfl))))))))))))] at o36
                            rw [show S24 1099 = S0 1099 from funext (fun u => (zz_ro qS24 (fun h => absurd h.1 (by decide)) (zz_ro qS22 (fun h => absurd h.1 (by decide)) (zz_ro qS20 (fun h => absurd h.1 (by decide)) (zz_ro qS18 (fun h => absurd h.1 (by decide)) (zz_ro qS16 (fun h => absurd h.1 (by decide)) (zz_ro qS14 (fun h => absurd h.1 (by decide)) (zz_ro qS12 (fun h => absurd h.1 (by decide)) (zz_ro qS10 (fun h => absurd h.1 (by decide)) (zz_ro qS8 (fun h => absurd h.1 (by decide)) (zz_ro qS6 (fun h => absurd h.1 (by decide)) (zz_ro qS4 (fun h => absurd h.1 (by decide)) (zz_ro qS2 (fun h => absurd h.1 (by decide)) rfl))))))))))))), show S24 1079 33 = S0 1079 33 from (zz_ro qS24 (fun h => absurd h.1 (by decide)) (zz_ro qS22 (fun h => absurd h.1 (by decide)) (zz_ro qS20 (fun h => absurd h.1 (by decide)) (zz_ro qS18 (fun h => absurd h.1 (by decide)) (zz_ro qS16 (fun h => absurd h.1 (by decide)) (zz_ro qS14 (fun h => absurd h.1 (by decide)) (zz_ro qS12 (fun h => absurd h.1 (by decide)) (zz_ro qS10 (fun h => absurd h.1 (by decide)) (zz_ro qS8 (fun h => absurd h.1 (by decide)) (zz_ro qS6 (fun h => absurd h.1 (by decide)) (zz_ro qS4 (fun h => absurd h.1 (by decide)) (zz_ro qS2 (fun h => absurd h.1 (by decide)) rfl)))))))))))), show S24 1079 32 = S0 1079 32 from (zz_ro qS24 (fun h => absurd h.1 (by decide)) (zz_ro qS22 (fun h => absurd h.1 (by decide)) (zz_ro qS20 (fun h => absurd h.1 (by decide)) (zz_ro qS18 (fun h => absurd h.1 (by decide)) (zz_ro qS16 (fun h => absurd h.1 (by decide)) (zz_ro qS14 (fun h => absurd h.1 (by decide)) (zz_ro qS12 (fun h => absurd h.1 (by decide)) (zz_ro qS10 (fun h => absurd h.1 (by decide)) (zz_ro qS8 (fun h => absurd h.1 (by decide)) (zz_ro qS6 (fun h => absurd h.1 (by decide)) (zz_ro qS4 (fun h => absurd h.1 (by decide)) (zz_ro qS2 (fun h => absurd h.1 (by decide)) rfl))))))))))))] at o37
                            have F_S30 := zz_fr.trans F_S24 fS30 rfl zz_nv
                            refine zz_aload_n (x := 1079) rfl zd_14_54_25 ?_
                            have g38 := zz_G.r G_S30 1079 30 0 102 rfl rfl
                            refine zz_geti (z := S30 1079 30) zd_14_54_26 zf_Md_347 zT_1079 rfl (zz_ltn hn rfl) rfl ?_
                            refine zz_if_ne (by omega) zd_14_54_29 (fun c39 => ?_) (fun c39 => ?_)
                            · refine zz_aload_n (x := 1079) rfl zd_14_54_34 ?_
                              refine zz_geti (z := S30 1079 30) zd_14_54_35 zf_Md_347 zT_1079 rfl (zz_ltn hn rfl) rfl ?_
                              refine zz_i2l (by omega) zd_14_54_38 ?_
                              refine zz_lconst (z := 1) (by decide) zd_14_54_39 ?_
                              refine zz_ldc2 (z := 9) zq_Md_238 (by decide) zd_14_54_40 ?_
                              refine zz_callSI [zl (S30 1079 30), zl 1, zl 9] zd_14_54_43 zk_Md_192 rfl rfl ⟨Nat.le_of_ble_eq_true rfl, Nat.le_of_ble_eq_true rfl⟩ ⟨rfl, rfl⟩ (Nat.zero_le _) (Nat.zero_le _) (zc_in_14_4 (S30 1079 30) 1 9 S30 n hn G_S30 (by omega) (by omega) (by omega)) (fun v41 S40 hP => ?_)
                              obtain ⟨rfl, o42, o43⟩ := hP
                              rcases (by omega : v41 = 0 ∨ v41 = 1) with rfl | rfl
                              · have n44 : S30 1079 30 < 1 ∨ 9 < S30 1079 30 := by omega
                                clear o43
                                refine zz_if_ne (by omega) zd_14_54_46 (fun c45 => ?_) (fun c45 => ?_)
                                · exfalso; omega
                                · refine zz_iconst zd_14_54_49 ?_
                                  exact zz_iret zd_14_54_50 rfl (Nat.zero_le _) (Nat.zero_le _) ⟨_, _, rfl, G_S30, F_S30, by omega, (by unfold zt_li; rw [if_neg (by omega), if_neg (by omega)])⟩
                              · have n46 : 1 ≤ S30 1079 30 ∧ S30 1079 30 ≤ 9 := by omega
                                clear o43
                                refine zz_if_ne (by omega) zd_14_54_46 (fun c47 => ?_) (fun c47 => ?_)
                                · refine zz_aload_n (x := 1079) rfl zd_14_54_51 ?_
                                  refine zz_getr (kd := 0) (z := 1087) zd_14_54_52 zf_Md_36 zT_1079 rfl (zz_ltn hn rfl) (zz_G.eq G_S30 1079 11 1087 rfl rfl) (by decide) 1087 rfl ?_
                                  refine zz_iconst zd_14_54_55 ?_
                                  refine zz_aload_n (x := 1079) rfl zd_14_54_56 ?_
                                  refine zz_geti (z := S30 1079 30) zd_14_54_57 zf_Md_347 zT_1079 rfl (zz_ltn hn rfl) rfl ?_
                                  refine zz_iast zd_14_54_60 zT_1087 rfl (zz_ltn hn rfl) (by decide) (by decide) (fun S48 qS48 => ?_)
                                  have G_S48 := zz_G.put G_S30 qS48 (-2147483648) 2147483647 rfl (by omega)
                                  have F_S48 := zz_fr.puts F_S30 qS48 rfl
                                  refine zz_aload_n (x := 1079) rfl zd_14_54_61 ?_
                                  have g49 := zz_G.r G_S30 1079 32 0 1500 rfl rfl
                                  have e50 : S48 1079 32 = S30 1079 32 := (zz_ro qS48 (fun h => absurd h.1 (by decide)) rfl)
                                  have e51 : S48 1079 33 = S0 1079 33 := (zz_ro qS48 (fun h => absurd h.1 (by decide)) (zz_rc fS30 rfl rfl (fun h => h) (zz_ro qS24 (fun h => absurd h.1 (by decide)) (zz_ro qS22 (fun h => absurd h.1 (by decide)) (zz_ro qS20 (fun h => absurd h.1 (by decide)) (zz_ro qS18 (fun h => absurd h.1 (by decide)) (zz_ro qS16 (fun h => absurd h.1 (by decide)) (zz_ro qS14 (fun h => absurd h.1 (by decide)) (zz_ro qS12 (fun h => absurd h.1 (by decide)) (zz_ro qS10 (fun h => absurd h.1 (by decide)) (zz_ro qS8 (fun h => absurd h.1 (by decide)) (zz_ro qS6 (fun h => absurd h.1 (by decide)) (zz_ro qS4 (fun h => absurd h.1 (by decide)) (zz_ro qS2 (fun h => absurd h.1 (by decide)) rfl))))))))))))))
                                  refine zz_callVV [] zd_14_54_62 zk_Md_359 zT_1079 (zz_ltn hn rfl) rfl rfl ⟨Nat.le_of_ble_eq_true rfl, Nat.le_of_ble_eq_true rfl⟩ ⟨rfl, rfl⟩ (Nat.zero_le _) (Nat.zero_le _) (zc_advance_14_49  S48 n hn G_S48 (fun u h1 h2 => ((zz_ro qS48 (fun h => absurd h.1 (by decide)) (zz_rc fS30 (zz_nc1 rfl) rfl (fun h => h) (zz_ro qS24 (fun h => absurd h.1 (by decide)) (zz_ro qS22 (fun h => absurd h.1 (by decide)) (zz_ro qS20 (fun h => absurd h.1 (by decide)) (zz_ro qS18 (fun h => absurd h.1 (by decide)) (zz_ro qS16 (fun h => absurd h.1 (by decide)) (zz_ro qS14 (fun h => absurd h.1 (by decide)) (zz_ro qS12 (fun h => absurd h.1 (by decide)) (zz_ro qS10 (fun h => absurd h.1 (by decide)) (zz_ro qS8 (fun h => absurd h.1 (by decide)) (zz_ro qS6 (fun h => absurd h.1 (by decide)) (zz_ro qS4 (fun h => absurd h.1 (by decide)) (zz_ro qS2 (fun h => absurd h.1 (by decide)) rfl))))))))))))))).trans (hN u h1 h2))) (fun S52 hP => ?_)
                                  obtain ⟨G_S52, fS52, o54, o55, o56, o57, o58, o59⟩ := hP
                                  rw [show S48 1079 32 = S30 1079 32 from (zz_ro qS48 (fun h => absurd h.1 (by decide)) rfl)] at o54
                                  rw [show S48 1079 32 = S30 1079 32 from (zz_ro qS48 (fun h => absurd h.1 (by decide)) rfl)] at o55
                                  rw [show S48 1099 = S0 1099 from funext (fun u => (zz_ro qS48 (fun h => absurd h.1 (by decide)) (zz_rc fS30 (zz_nc1 rfl) rfl (fun h => h) (zz_ro qS24 (fun h => absurd h.1 (by decide)) (zz_ro qS22 (fun h => absurd h.1 (by decide)) (zz_ro qS20 (fun h => absurd h.1 (by decide)) (zz_ro qS18 (fun h => absurd h.1 (by decide)) (zz_ro qS16 (fun h => absurd h.1 (by decide)) (zz_ro qS14 (fun h => absurd h.1 (by decide)) (zz_ro qS12 (fun h => absurd h.1 (by decide)) (zz_ro qS10 (fun h => absurd h.1 (by decide)) (zz_ro qS8 (fun h => absurd h.1 (by decide)) (zz_ro qS6 (fun h => absurd h.1 (by decide)) (zz_ro qS4 (fun h => absurd h.1 (by decide)) (zz_ro qS2 (fun h => absurd h.1 (by decide)) rfl))))))))))))))), show S48 1079 33 = S0 1079 33 from (zz_ro qS48 (fun h => absurd h.1 (by decide)) (zz_rc fS30 rfl rfl (fun h => h) (zz_ro qS24 (fun h => absurd h.1 (by decide)) (zz_ro qS22 (fun h => absurd h.1 (by decide)) (zz_ro qS20 (fun h => absurd h.1 (by decide)) (zz_ro qS18 (fun h => absurd h.1 (by decide)) (zz_ro qS16 (fun h => absurd h.1 (by decide)) (zz_ro qS14 (fun h => absurd h.1 (by decide)) (zz_ro qS12 (fun h => absurd h.1 (by decide)) (zz_ro qS10 (fun h => absurd h.1 (by decide)) (zz_ro qS8 (fun h => absurd h.1 (by decide)) (zz_ro qS6 (fun h => absurd h.1 (by decide)) (zz_ro qS4 (fun h => absurd h.1 (by decide)) (zz_ro qS2 (fun h => absurd h.1 (by decide)) rfl)))))))))))))), show S48 1079 32 = S30 1079 32 from (zz_ro qS48 (fun h => absurd h.1 (by decide)) rfl)] at o57
                                  rw [show S48 1099 = S0 1099 from funext (fun u => (zz_ro qS48 (fun h => absurd h.1 (by decide)) (zz_rc fS30 (zz_nc1 rfl) rfl (fun h => h) (zz_ro qS24 (fun h => absurd h.1 (by decide)) (zz_ro qS22 (fun h => absurd h.1 (by decide)) (zz_ro qS20 (fun h => absurd h.1 (by decide)) (zz_ro qS18 (fun h => absurd h.1 (by decide)) (zz_ro qS16 (fun h => absurd h.1 (by decide)) (zz_ro qS14 (fun h => absurd h.1 (by decide)) (zz_ro qS12 (fun h => absurd h.1 (by decide)) (zz_ro qS10 (fun h => absurd h.1 (by decide)) (zz_ro qS8 (fun h => absurd h.1 (by decide)) (zz_ro qS6 (fun h => absurd h.1 (by decide)) (zz_ro qS4 (fun h => absurd h.1 (by decide)) (zz_ro qS2 (fun h => absurd h.1 (by decide)) rfl))))))))))))))), show S48 1079 33 = S0 1079 33 from (zz_ro qS48 (fun h => absurd h.1 (by decide)) (zz_rc fS30 rfl rfl (fun h => h) (zz_ro qS24 (fun h => absurd h.1 (by decide)) (zz_ro qS22 (fun h => absurd h.1 (by decide)) (zz_ro qS20 (fun h => absurd h.1 (by decide)) (zz_ro qS18 (fun h => absurd h.1 (by decide)) (zz_ro qS16 (fun h => absurd h.1 (by decide)) (zz_ro qS14 (fun h => absurd h.1 (by decide)) (zz_ro qS12 (fun h => absurd h.1 (by decide)) (zz_ro qS10 (fun h => absurd h.1 (by decide)) (zz_ro qS8 (fun h => absurd h.1 (by decide)) (zz_ro qS6 (fun h => absurd h.1 (by decide)) (zz_ro qS4 (fun h => absurd h.1 (by decide)) (zz_ro qS2 (fun h => absurd h.1 (by decide)) rfl)))))))))))))), show S48 1079 32 = S30 1079 32 from (zz_ro qS48 (fun h => absurd h.1 (by decide)) rfl)] at o58
                                  rw [show S48 1099 = S0 1099 from funext (fun u => (zz_ro qS48 (fun h => absurd h.1 (by decide)) (zz_rc fS30 (zz_nc1 rfl) rfl (fun h => h) (zz_ro qS24 (fun h => absurd h.1 (by decide)) (zz_ro qS22 (fun h => absurd h.1 (by decide)) (zz_ro qS20 (fun h => absurd h.1 (by decide)) (zz_ro qS18 (fun h => absurd h.1 (by decide)) (zz_ro qS16 (fun h => absurd h.1 (by decide)) (zz_ro qS14 (fun h => absurd h.1 (by decide)) (zz_ro qS12 (fun h => absurd h.1 (by decide)) (zz_ro qS10 (fun h => absurd h.1 (by decide)) (zz_ro qS8 (fun h => absurd h.1 (by decide)) (zz_ro qS6 (fun h => absurd h.1 (by decide)) (zz_ro qS4 (fun h => absurd h.1 (by decide)) (zz_ro qS2 (fun h => absurd h.1 (by decide)) rfl))))))))))))))), show S48 1079 33 = S0 1079 33 from (zz_ro qS48 (fun h => absurd h.1 (by decide)) (zz_rc fS30 rfl rfl (fun h => h) (zz_ro qS24 (fun h => absurd h.1 (by decide)) (zz_ro qS22 (fun h => absurd h.1 (by decide)) (zz_ro qS20 (fun h => absurd h.1 (by decide)) (zz_ro qS18 (fun h => absurd h.1 (by decide)) (zz_ro qS16 (fun h => absurd h.1 (by decide)) (zz_ro qS14 (fun h => absurd h.1 (by decide)) (zz_ro qS12 (fun h => absurd h.1 (by decide)) (zz_ro qS10 (fun h => absurd h.1 (by decide)) (zz_ro qS8 (fun h => absurd h.1 (by decide)) (zz_ro qS6 (fun h => absurd h.1 (by decide)) (zz_ro qS4 (fun h => absurd h.1 (by decide)) (zz_ro qS2 (fun h => absurd h.1 (by decide)) rfl)))))))))))))), show S48 1079 32 = S30 1079 32 from (zz_ro qS48 (fun h => absurd h.1 (by decide)) rfl)] at o59
                                  have F_S52 := zz_fr.trans F_S48 fS52 rfl zz_nv
                                  rw [show S30 1079 32 = zt_tn (S0 1099) (S0 1079 33) (S0 1079 32) by omega] at o57 o58
                                  refine zz_iconst zd_14_54_65 ?_
                                  refine zz_istore_n [some (.ref 1079), some (zi 0)] zd_14_54_66 (by decide) rfl ?_
                                  have g60 := zz_G.r G_S52 1079 30 0 102 rfl rfl
                                  have g61 := zz_G.r G_S52 1079 32 0 1500 rfl rfl
                                  refine zz_less (ls1 := [some (.ref 1079), some (zi 0)]) ⟨rfl, ⟨rfl, trivial⟩⟩ ?_
                                  exact k67 0 S52 G_S52 F_S52 (by omega) (by omega) (by rw [o57, o58]; exact zt_IM0 (by omega))
                                · exfalso; omega
                            · refine zz_iconst zd_14_54_32 ?_
                              exact zz_iret zd_14_54_33 rfl (Nat.zero_le _) (Nat.zero_le _) ⟨_, _, rfl, G_S30, F_S30, by omega, (by unfold zt_li; rw [if_pos (by omega)])⟩
                          · exfalso; omega
abbrev zy_assemble_14_55 : mm_Y := (⟨"TensorForgeModel", "assemble", "()I"⟩, prog_14_method_55_code, 5, (some .int))
theorem zyw_assemble_14_55 : mm_Yw zy_assemble_14_55 0 := ⟨mm_tb_1 2010 (by decide +kernel) rfl, mm_tb_1 12 (by decide +kernel) rfl, ⟨by decide, by decide⟩, by decide +kernel⟩
theorem zf_Md_372 : mm_Fl "TensorForgeModel" 372 11 10 .int false := ⟨R_Md, F_Md, 69, t_Md, rfl, i_Md, by decide, mm_tb_1 1621 (by decide +kernel) rfl, rfl, t_Md_ok, n_Md, rfl, by decide +kernel⟩
abbrev zy_takeMade_14_56 : mm_Y := (⟨"TensorForgeModel", "takeMade", "()V"⟩, prog_14_method_56_code, 2, none)
theorem zyw_takeMade_14_56 : mm_Yw zy_takeMade_14_56 0 := ⟨mm_tb_1 2045 (by decide +kernel) rfl, mm_tb_1 12 (by decide +kernel) rfl, ⟨by decide, by decide⟩, by decide +kernel⟩
theorem zf_Md_33 : mm_Fl "TensorForgeModel" 33 11 9 (.array .long) true := ⟨R_Md, F_Md, 69, t_Md, rfl, i_Md, by decide, mm_tb_1 1620 (by decide +kernel) rfl, rfl, t_Md_ok, n_Md, rfl, by decide +kernel⟩
theorem zg_14_55_0 : zq_at zy_assemble_14_55.2.1 0 42 ∧ zq_at zy_assemble_14_55.2.1 1 3 ∧ zq_at zy_assemble_14_55.2.1 2 181 ∧ zq_at zy_assemble_14_55.2.1 3 0 ∧ zq_at zy_assemble_14_55.2.1 4 187 ∧ zq_at zy_assemble_14_55.2.1 5 42 ∧ zq_at zy_assemble_14_55.2.1 6 3 ∧ zq_at zy_assemble_14_55.2.1 7 181 ∧ zq_at zy_assemble_14_55.2.1 8 1 ∧ zq_at zy_assemble_14_55.2.1 9 116 ∧ zq_at zy_assemble_14_55.2.1 10 3 ∧ zq_at zy_assemble_14_55.2.1 11 60 ∧ zq_at zy_assemble_14_55.2.1 12 3 ∧ zq_at zy_assemble_14_55.2.1 13 61 ∧ zq_at zy_assemble_14_55.2.1 14 28 ∧ zq_at zy_assemble_14_55.2.1 15 42 ∧ zq_at zy_assemble_14_55.2.1 16 180 ∧ zq_at zy_assemble_14_55.2.1 17 1 ∧ zq_at zy_assemble_14_55.2.1 18 75 ∧ zq_at zy_assemble_14_55.2.1 19 163 ∧ zq_at zy_assemble_14_55.2.1 20 0 ∧ zq_at zy_assemble_14_55.2.1 21 141 ∧ zq_at zy_assemble_14_55.2.1 160 42 := by decide +kernel
theorem zd_14_55_0 : zz_D zy_assemble_14_55 0 (.aload_n 0) 1 1 := ⟨zq_42 zg_14_55_0.1, rfl⟩
theorem zd_14_55_1 : zz_D zy_assemble_14_55 1 (.iconst 0) 1 2 := ⟨zq_3 zg_14_55_0.2.1, rfl⟩
theorem zd_14_55_2 : zz_D zy_assemble_14_55 2 (.putfield 187) 3 5 := ⟨zq_181 zg_14_55_0.2.2.1 zg_14_55_0.2.2.2.1 zg_14_55_0.2.2.2.2.1 rfl, rfl⟩
theorem zd_14_55_5 : zz_D zy_assemble_14_55 5 (.aload_n 0) 1 6 := ⟨zq_42 zg_14_55_0.2.2.2.2.2.1, rfl⟩
theorem zd_14_55_6 : zz_D zy_assemble_14_55 6 (.iconst 0) 1 7 := ⟨zq_3 zg_14_55_0.2.2.2.2.2.2.1, rfl⟩
theorem zd_14_55_7 : zz_D zy_assemble_14_55 7 (.putfield 372) 3 10 := ⟨zq_181 zg_14_55_0.2.2.2.2.2.2.2.1 zg_14_55_0.2.2.2.2.2.2.2.2.1 zg_14_55_0.2.2.2.2.2.2.2.2.2.1 rfl, rfl⟩
theorem zd_14_55_10 : zz_D zy_assemble_14_55 10 (.iconst 0) 1 11 := ⟨zq_3 zg_14_55_0.2.2.2.2.2.2.2.2.2.2.1, rfl⟩
theorem zd_14_55_11 : zz_D zy_assemble_14_55 11 (.istore_n 1) 1 12 := ⟨zq_60 zg_14_55_0.2.2.2.2.2.2.2.2.2.2.2.1, rfl⟩
theorem zd_14_55_12 : zz_D zy_assemble_14_55 12 (.iconst 0) 1 13 := ⟨zq_3 zg_14_55_0.2.2.2.2.2.2.2.2.2.2.2.2.1, rfl⟩
theorem zd_14_55_13 : zz_D zy_assemble_14_55 13 (.istore_n 2) 1 14 := ⟨zq_61 zg_14_55_0.2.2.2.2.2.2.2.2.2.2.2.2.2.1, rfl⟩
theorem zd_14_55_14 : zz_D zy_assemble_14_55 14 (.iload_n 2) 1 15 := ⟨zq_28 zg_14_55_0.2.2.2.2.2.2.2.2.2.2.2.2.2.2.1, rfl⟩
theorem zd_14_55_15 : zz_D zy_assemble_14_55 15 (.aload_n 0) 1 16 := ⟨zq_42 zg_14_55_0.2.2.2.2.2.2.2.2.2.2.2.2.2.2.2.1, rfl⟩
theorem zd_14_55_16 : zz_D zy_assemble_14_55 16 (.getfield 331) 3 19 := ⟨zq_180 zg_14_55_0.2.2.2.2.2.2.2.2.2.2.2.2.2.2.2.2.1 zg_14_55_0.2.2.2.2.2.2.2.2.2.2.2.2.2.2.2.2.2.1 zg_14_55_0.2.2.2.2.2.2.2.2.2.2.2.2.2.2.2.2.2.2.1 rfl, rfl⟩
theorem zd_14_55_19 : zz_B zy_assemble_14_55 19 (Instr.if_icmp .gt) 160 22 := ⟨141, zq_163 zg_14_55_0.2.2.2.2.2.2.2.2.2.2.2.2.2.2.2.2.2.2.2.1 zg_14_55_0.2.2.2.2.2.2.2.2.2.2.2.2.2.2.2.2.2.2.2.2.1 zg_14_55_0.2.2.2.2.2.2.2.2.2.2.2.2.2.2.2.2.2.2.2.2.2.1 (by decide), rfl, rfl⟩
theorem zd_14_55_160 : zz_D zy_assemble_14_55 160 (.aload_n 0) 1 161 := ⟨zq_42 zg_14_55_0.2.2.2.2.2.2.2.2.2.2.2.2.2.2.2.2.2.2.2.2.2.2, rfl⟩
theorem zg_14_55_161 : zq_at zy_assemble_14_55.2.1 161 182 ∧ zq_at zy_assemble_14_55.2.1 162 1 ∧ zq_at zy_assemble_14_55.2.1 163 126 := by decide +kernel
theorem zd_14_55_161 : zz_D zy_assemble_14_55 161 (.invokevirtual 382) 3 164 := ⟨zq_182 zg_14_55_161.1 zg_14_55_161.2.1 zg_14_55_161.2.2 rfl, rfl⟩
theorem zg_14_56_0 : zq_at zy_takeMade_14_56.2.1 0 42 ∧ zq_at zy_takeMade_14_56.2.1 1 42 ∧ zq_at zy_takeMade_14_56.2.1 2 180 ∧ zq_at zy_takeMade_14_56.2.1 3 1 ∧ zq_at zy_takeMade_14_56.2.1 4 116 ∧ zq_at zy_takeMade_14_56.2.1 5 181 ∧ zq_at zy_takeMade_14_56.2.1 6 0 ∧ zq_at zy_takeMade_14_56.2.1 7 224 ∧ zq_at zy_takeMade_14_56.2.1 8 3 ∧ zq_at zy_takeMade_14_56.2.1 9 60 ∧ zq_at zy_takeMade_14_56.2.1 10 27 ∧ zq_at zy_takeMade_14_56.2.1 11 42 ∧ zq_at zy_takeMade_14_56.2.1 12 180 ∧ zq_at zy_takeMade_14_56.2.1 13 0 ∧ zq_at zy_takeMade_14_56.2.1 14 224 ∧ zq_at zy_takeMade_14_56.2.1 15 162 ∧ zq_at zy_takeMade_14_56.2.1 16 0 ∧ zq_at zy_takeMade_14_56.2.1 17 21 ∧ zq_at zy_takeMade_14_56.2.1 36 177 ∧ zq_at zy_takeMade_14_56.2.1 18 42 ∧ zq_at zy_takeMade_14_56.2.1 19 180 ∧ zq_at zy_takeMade_14_56.2.1 20 0 ∧ zq_at zy_takeMade_14_56.2.1 21 29 ∧ zq_at zy_takeMade_14_56.2.1 22 27 := by decide +kernel
theorem zd_14_56_0 : zz_D zy_takeMade_14_56 0 (.aload_n 0) 1 1 := ⟨zq_42 zg_14_56_0.1, rfl⟩
theorem zd_14_56_1 : zz_D zy_takeMade_14_56 1 (.aload_n 0) 1 2 := ⟨zq_42 zg_14_56_0.2.1, rfl⟩
theorem zd_14_56_2 : zz_D zy_takeMade_14_56 2 (.getfield 372) 3 5 := ⟨zq_180 zg_14_56_0.2.2.1 zg_14_56_0.2.2.2.1 zg_14_56_0.2.2.2.2.1 rfl, rfl⟩
theorem zd_14_56_5 : zz_D zy_takeMade_14_56 5 (.putfield 224) 3 8 := ⟨zq_181 zg_14_56_0.2.2.2.2.2.1 zg_14_56_0.2.2.2.2.2.2.1 zg_14_56_0.2.2.2.2.2.2.2.1 rfl, rfl⟩
theorem zd_14_56_8 : zz_D zy_takeMade_14_56 8 (.iconst 0) 1 9 := ⟨zq_3 zg_14_56_0.2.2.2.2.2.2.2.2.1, rfl⟩
theorem zd_14_56_9 : zz_D zy_takeMade_14_56 9 (.istore_n 1) 1 10 := ⟨zq_60 zg_14_56_0.2.2.2.2.2.2.2.2.2.1, rfl⟩
theorem zd_14_56_10 : zz_D zy_takeMade_14_56 10 (.iload_n 1) 1 11 := ⟨zq_27 zg_14_56_0.2.2.2.2.2.2.2.2.2.2.1, rfl⟩
theorem zd_14_56_11 : zz_D zy_takeMade_14_56 11 (.aload_n 0) 1 12 := ⟨zq_42 zg_14_56_0.2.2.2.2.2.2.2.2.2.2.2.1, rfl⟩
theorem zd_14_56_12 : zz_D zy_takeMade_14_56 12 (.getfield 224) 3 15 := ⟨zq_180 zg_14_56_0.2.2.2.2.2.2.2.2.2.2.2.2.1 zg_14_56_0.2.2.2.2.2.2.2.2.2.2.2.2.2.1 zg_14_56_0.2.2.2.2.2.2.2.2.2.2.2.2.2.2.1 rfl, rfl⟩
theorem zd_14_56_15 : zz_B zy_takeMade_14_56 15 (Instr.if_icmp .ge) 36 18 := ⟨21, zq_162 zg_14_56_0.2.2.2.2.2.2.2.2.2.2.2.2.2.2.2.1 zg_14_56_0.2.2.2.2.2.2.2.2.2.2.2.2.2.2.2.2.1 zg_14_56_0.2.2.2.2.2.2.2.2.2.2.2.2.2.2.2.2.2.1 (by decide), rfl, rfl⟩
theorem zd_14_56_36 : zz_D zy_takeMade_14_56 36 (.return_) 1 37 := ⟨zq_177 zg_14_56_0.2.2.2.2.2.2.2.2.2.2.2.2.2.2.2.2.2.2.1, rfl⟩
theorem zd_14_56_18 : zz_D zy_takeMade_14_56 18 (.aload_n 0) 1 19 := ⟨zq_42 zg_14_56_0.2.2.2.2.2.2.2.2.2.2.2.2.2.2.2.2.2.2.2.1, rfl⟩
theorem zd_14_56_19 : zz_D zy_takeMade_14_56 19 (.getfield 29) 3 22 := ⟨zq_180 zg_14_56_0.2.2.2.2.2.2.2.2.2.2.2.2.2.2.2.2.2.2.2.2.1 zg_14_56_0.2.2.2.2.2.2.2.2.2.2.2.2.2.2.2.2.2.2.2.2.2.1 zg_14_56_0.2.2.2.2.2.2.2.2.2.2.2.2.2.2.2.2.2.2.2.2.2.2.1 rfl, rfl⟩
theorem zd_14_56_22 : zz_D zy_takeMade_14_56 22 (.iload_n 1) 1 23 := ⟨zq_27 zg_14_56_0.2.2.2.2.2.2.2.2.2.2.2.2.2.2.2.2.2.2.2.2.2.2.2, rfl⟩
theorem zg_14_56_23 : zq_at zy_takeMade_14_56.2.1 23 42 ∧ zq_at zy_takeMade_14_56.2.1 24 180 ∧ zq_at zy_takeMade_14_56.2.1 25 0 ∧ zq_at zy_takeMade_14_56.2.1 26 33 ∧ zq_at zy_takeMade_14_56.2.1 27 27 ∧ zq_at zy_takeMade_14_56.2.1 28 47 ∧ zq_at zy_takeMade_14_56.2.1 29 80 ∧ zq_at zy_takeMade_14_56.2.1 30 132 ∧ zq_at zy_takeMade_14_56.2.1 31 1 ∧ zq_at zy_takeMade_14_56.2.1 32 1 ∧ zq_at zy_takeMade_14_56.2.1 33 167 ∧ zq_at zy_takeMade_14_56.2.1 34 255 ∧ zq_at zy_takeMade_14_56.2.1 35 233 := by decide +kernel
theorem zd_14_56_23 : zz_D zy_takeMade_14_56 23 (.aload_n 0) 1 24 := ⟨zq_42 zg_14_56_23.1, rfl⟩
theorem zd_14_56_24 : zz_D zy_takeMade_14_56 24 (.getfield 33) 3 27 := ⟨zq_180 zg_14_56_23.2.1 zg_14_56_23.2.2.1 zg_14_56_23.2.2.2.1 rfl, rfl⟩
theorem zd_14_56_27 : zz_D zy_takeMade_14_56 27 (.iload_n 1) 1 28 := ⟨zq_27 zg_14_56_23.2.2.2.2.1, rfl⟩
theorem zd_14_56_28 : zz_D zy_takeMade_14_56 28 (.laload) 1 29 := ⟨zq_47 zg_14_56_23.2.2.2.2.2.1, rfl⟩
theorem zd_14_56_29 : zz_D zy_takeMade_14_56 29 (.lastore) 1 30 := ⟨zq_80 zg_14_56_23.2.2.2.2.2.2.1, rfl⟩
theorem zd_14_56_30 : zz_D zy_takeMade_14_56 30 (.iinc 1 1) 3 33 := ⟨zq_132 zg_14_56_23.2.2.2.2.2.2.2.1 zg_14_56_23.2.2.2.2.2.2.2.2.1 zg_14_56_23.2.2.2.2.2.2.2.2.2.1 (by decide), rfl⟩
theorem zd_14_56_33 : zz_B zy_takeMade_14_56 33 Instr.goto 10 36 := ⟨(-23), zq_167 zg_14_56_23.2.2.2.2.2.2.2.2.2.2.1 zg_14_56_23.2.2.2.2.2.2.2.2.2.2.2.1 zg_14_56_23.2.2.2.2.2.2.2.2.2.2.2.2 (by decide), rfl, rfl⟩

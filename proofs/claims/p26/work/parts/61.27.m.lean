-- TensorForgeModel underWay (II)I
abbrev zr_underWay_14_116 : Room := { frames := 0, cells := 0, slots := 0, locals := 0 }
def zp_underWay_14_116 (p0 : Int) (p1 : Int) (S0 : zz_S) : Int → zz_S → Prop := fun r S => S0 = S ∧ ((-2147483648) ≤ r ∧ r ≤ 2147483647)
theorem zb_underWay_14_116_5 {g : mm_G} {l : Launch} (p0 : Int) (p1 : Int) (S0 : zz_S) (n : Nat) (hn : zz_end ≤ n) (G_S0 : zz_G S0) (hp0 : (-2147483648) ≤ p0 ∧ p0 ≤ 2147483647) (hp1 : (-2147483648) ≤ p1 ∧ p1 ≤ 2147483647) (x3 : Int) (x4 : Int) (S : zz_S) (G_S : zz_G S) (F_S : zz_fr [] [] (fun _ _ => False) S0 S) (i5_0 : (-1) ≤ x3 ∧ x3 ≤ 601) (i5_1 : 0 ≤ x4 ∧ x4 ≤ 600) (R : Nat) (hR : (S0 1079 19 - x4).toNat = R) (k5 : ∀ (x3 : Int) (x4 : Int) (S : zz_S), zz_G S → zz_fr [] [] (fun _ _ => False) S0 S → ((-1) ≤ x3 ∧ x3 ≤ 601) → (0 ≤ x4 ∧ x4 ≤ 600) → (S0 1079 19 - x4).toNat < R → zz_E g l zy_underWay_14_116 zr_underWay_14_116 (zz_QI n (zp_underWay_14_116 p0 p1 S0)) S n 5 [some (.ref 1079), some (zi p0), some (zi p1), some (zi x3), some (zi x4)] [] 0 0) : zz_E g l zy_underWay_14_116 zr_underWay_14_116 (zz_QI n (zp_underWay_14_116 p0 p1 S0)) S n 5 [some (.ref 1079), some (zi p0), some (zi p1), some (zi x3), some (zi x4)] [] 0 0 := by
  refine zz_iload (x := x4) rfl zd_14_116_5 ?_
  refine zz_aload_n (x := 1079) rfl zd_14_116_7 ?_
  have g2 := zz_G.r G_S0 1079 19 (-1) 600 rfl rfl
  refine zz_geti (z := S0 1079 19) zd_14_116_8 zf_Md_272 zT_1079 rfl (zz_ltn hn rfl) (zz_rc F_S rfl rfl (fun h => h) rfl) ?_
  refine zz_icmp_ge (by omega) (by omega) zd_14_116_11 (fun c3 => ?_) (fun c3 => ?_)
  · refine zz_iload_n (x := x3) rfl zd_14_116_70 ?_
    exact zz_iret zd_14_116_71 rfl (Nat.zero_le _) (Nat.zero_le _) ⟨_, _, rfl, zz_fr.eq F_S, by omega⟩
  · refine zz_aload_n (x := 1079) rfl zd_14_116_14 ?_
    refine zz_getr (kd := 0) (z := 1092) zd_14_116_15 zf_Md_54 zT_1079 rfl (zz_ltn hn rfl) (zz_G.eq G_S 1079 20 1092 rfl rfl) (by decide) 1092 rfl ?_
    refine zz_iload (x := x4) rfl zd_14_116_18 ?_
    have g4 := zz_G.r G_S0 1092 x4.toNat (-2147483648) 2147483647 rfl rfl
    refine zz_iald (z := S0 1092 x4.toNat) zd_14_116_20 zT_1092 rfl (zz_ltn hn rfl) (by decide) (by omega) (zz_rc F_S (zz_nc1 rfl) rfl (fun h => h) rfl) ?_
    refine zz_iload_n (x := p0) rfl zd_14_116_21 ?_
    refine zz_icmp_ne (by omega) (by omega) zd_14_116_22 (fun c5 => ?_) (fun c5 => ?_)
    · refine zz_iload_n (x := x3) rfl zd_14_116_62 ?_
      refine zz_istore_n [some (.ref 1079), some (zi p0), some (zi p1), some (zi x3), some (zi x4)] zd_14_116_63 (by decide) rfl ?_
      refine zz_iinc [some (.ref 1079), some (zi p0), some (zi p1), some (zi x3), some (zi (x4 + 1))] zd_14_116_64 rfl rfl ?_
      refine zz_goto zd_14_116_67 ?_
      refine zz_less (ls1 := [some (.ref 1079), some (zi p0), some (zi p1), some (zi x3), some (zi (x4 + 1))]) ⟨rfl, ⟨rfl, ⟨rfl, ⟨rfl, ⟨rfl, trivial⟩⟩⟩⟩⟩ ?_
      exact k5 x3 (x4 + 1) S G_S F_S (by omega) (by omega) (by omega)
    · refine zz_aload_n (x := 1079) rfl zd_14_116_25 ?_
      refine zz_getr (kd := 0) (z := 1093) zd_14_116_26 zf_Md_57 zT_1079 rfl (zz_ltn hn rfl) (zz_G.eq G_S 1079 21 1093 rfl rfl) (by decide) 1093 rfl ?_
      refine zz_iload (x := x4) rfl zd_14_116_29 ?_
      have g6 := zz_G.r G_S0 1093 x4.toNat (-2147483648) 2147483647 rfl rfl
      refine zz_iald (z := S0 1093 x4.toNat) zd_14_116_31 zT_1093 rfl (zz_ltn hn rfl) (by decide) (by omega) (zz_rc F_S (zz_nc1 rfl) rfl (fun h => h) rfl) ?_
      refine zz_if_lt (by omega) zd_14_116_32 (fun c7 => ?_) (fun c7 => ?_)
      · refine zz_iload_n (x := x3) rfl zd_14_116_62 ?_
        refine zz_istore_n [some (.ref 1079), some (zi p0), some (zi p1), some (zi x3), some (zi x4)] zd_14_116_63 (by decide) rfl ?_
        refine zz_iinc [some (.ref 1079), some (zi p0), some (zi p1), some (zi x3), some (zi (x4 + 1))] zd_14_116_64 rfl rfl ?_
        refine zz_goto zd_14_116_67 ?_
        refine zz_less (ls1 := [some (.ref 1079), some (zi p0), some (zi p1), some (zi x3), some (zi (x4 + 1))]) ⟨rfl, ⟨rfl, ⟨rfl, ⟨rfl, ⟨rfl, trivial⟩⟩⟩⟩⟩ ?_
        exact k5 x3 (x4 + 1) S G_S F_S (by omega) (by omega) (by omega)
      · refine zz_aload_n (x := 1079) rfl zd_14_116_35 ?_
        refine zz_getr (kd := 0) (z := 1093) zd_14_116_36 zf_Md_57 zT_1079 rfl (zz_ltn hn rfl) (zz_G.eq G_S 1079 21 1093 rfl rfl) (by decide) 1093 rfl ?_
        refine zz_iload (x := x4) rfl zd_14_116_39 ?_
        refine zz_iald (z := S0 1093 x4.toNat) zd_14_116_41 zT_1093 rfl (zz_ltn hn rfl) (by decide) (by omega) (zz_rc F_S (zz_nc1 rfl) rfl (fun h => h) rfl) ?_
        refine zz_iload_n (x := p1) rfl zd_14_116_42 ?_
        refine zz_icmp_gt (by omega) (by omega) zd_14_116_43 (fun c8 => ?_) (fun c8 => ?_)
        · refine zz_iload_n (x := x3) rfl zd_14_116_62 ?_
          refine zz_istore_n [some (.ref 1079), some (zi p0), some (zi p1), some (zi x3), some (zi x4)] zd_14_116_63 (by decide) rfl ?_
          refine zz_iinc [some (.ref 1079), some (zi p0), some (zi p1), some (zi x3), some (zi (x4 + 1))] zd_14_116_64 rfl rfl ?_
          refine zz_goto zd_14_116_67 ?_
          refine zz_less (ls1 := [some (.ref 1079), some (zi p0), some (zi p1), some (zi x3), some (zi (x4 + 1))]) ⟨rfl, ⟨rfl, ⟨rfl, ⟨rfl, ⟨rfl, trivial⟩⟩⟩⟩⟩ ?_
          exact k5 x3 (x4 + 1) S G_S F_S (by omega) (by omega) (by omega)
        · refine zz_iload_n (x := p1) rfl zd_14_116_46 ?_
          refine zz_aload_n (x := 1079) rfl zd_14_116_47 ?_
          refine zz_getr (kd := 0) (z := 1094) zd_14_116_48 zf_Md_60 zT_1079 rfl (zz_ltn hn rfl) (zz_G.eq G_S 1079 22 1094 rfl rfl) (by decide) 1094 rfl ?_
          refine zz_iload (x := x4) rfl zd_14_116_51 ?_
          have g9 := zz_G.r G_S0 1094 x4.toNat (-2147483648) 2147483647 rfl rfl
          refine zz_iald (z := S0 1094 x4.toNat) zd_14_116_53 zT_1094 rfl (zz_ltn hn rfl) (by decide) (by omega) (zz_rc F_S (zz_nc1 rfl) rfl (fun h => h) rfl) ?_
          refine zz_icmp_ge (by omega) (by omega) zd_14_116_54 (fun c10 => ?_) (fun c10 => ?_)
          · refine zz_iload_n (x := x3) rfl zd_14_116_62 ?_
            refine zz_istore_n [some (.ref 1079), some (zi p0), some (zi p1), some (zi x3), some (zi x4)] zd_14_116_63 (by decide) rfl ?_
            refine zz_iinc [some (.ref 1079), some (zi p0), some (zi p1), some (zi x3), some (zi (x4 + 1))] zd_14_116_64 rfl rfl ?_
            refine zz_goto zd_14_116_67 ?_
            refine zz_less (ls1 := [some (.ref 1079), some (zi p0), some (zi p1), some (zi x3), some (zi (x4 + 1))]) ⟨rfl, ⟨rfl, ⟨rfl, ⟨rfl, ⟨rfl, trivial⟩⟩⟩⟩⟩ ?_
            exact k5 x3 (x4 + 1) S G_S F_S (by omega) (by omega) (by omega)
          · refine zz_iload (x := x4) rfl zd_14_116_57 ?_
            refine zz_goto zd_14_116_59 ?_
            refine zz_istore_n [some (.ref 1079), some (zi p0), some (zi p1), some (zi x4), some (zi x4)] zd_14_116_63 (by decide) rfl ?_
            refine zz_iinc [some (.ref 1079), some (zi p0), some (zi p1), some (zi x4), some (zi (x4 + 1))] zd_14_116_64 rfl rfl ?_
            refine zz_goto zd_14_116_67 ?_
            refine zz_less (ls1 := [some (.ref 1079), some (zi p0), some (zi p1), some (zi x4), some (zi (x4 + 1))]) ⟨rfl, ⟨rfl, ⟨rfl, ⟨rfl, ⟨rfl, trivial⟩⟩⟩⟩⟩ ?_
            exact k5 x4 (x4 + 1) S G_S F_S (by omega) (by omega) (by omega)
theorem zi_underWay_14_116 {g : mm_G} {l : Launch} (p0 : Int) (p1 : Int) (S0 : zz_S) (n : Nat) (hn : zz_end ≤ n) (G_S0 : zz_G S0) (hp0 : (-2147483648) ≤ p0 ∧ p0 ≤ 2147483647) (hp1 : (-2147483648) ≤ p1 ∧ p1 ≤ 2147483647) : ∀ N : Nat, (∀ (x3 : Int) (x4 : Int) (S : zz_S), zz_G S → zz_fr [] [] (fun _ _ => False) S0 S → ((-1) ≤ x3 ∧ x3 ≤ 601) → (0 ≤ x4 ∧ x4 ≤ 600) → (S0 1079 19 - x4).toNat < N → zz_E g l zy_underWay_14_116 zr_underWay_14_116 (zz_QI n (zp_underWay_14_116 p0 p1 S0)) S n 5 [some (.ref 1079), some (zi p0), some (zi p1), some (zi x3), some (zi x4)] [] 0 0) := by
  intro N
  induction N with
  | zero => exact fun x3 x4 S _ _ _ _ h => absurd h (Nat.not_lt_zero _)
  | succ N ih =>
    exact fun x3 x4 S a b j0 j1 hR => zb_underWay_14_116_5 p0 p1 S0 n hn G_S0 hp0 hp1 x3 x4 S a b j0 j1 _ rfl (fun x3 x4 S a b j0 j1 h => ih x3 x4 S a b j0 j1 (Nat.lt_of_lt_of_le h (Nat.le_of_lt_succ hR)))
theorem zc_underWay_14_116 {g : mm_G} {l : Launch} (p0 : Int) (p1 : Int) (S0 : zz_S) (n : Nat) (hn : zz_end ≤ n) (G_S0 : zz_G S0) (hp0 : (-2147483648) ≤ p0 ∧ p0 ≤ 2147483647) (hp1 : (-2147483648) ≤ p1 ∧ p1 ≤ 2147483647) : mm_Met g l zy_underWay_14_116 zr_underWay_14_116 [.ref 1079, zi p0, zi p1] (zz_M S0 n) n (zz_QI n (zp_underWay_14_116 p0 p1 S0)) := by
  refine zz_enter (by decide) (Nat.le_of_ble_eq_true rfl) (zz_less (ls1 := [some (.ref 1079), some (zi p0), some (zi p1)]) ⟨rfl, ⟨rfl, ⟨rfl, trivial⟩⟩⟩ ?_)
  have F_S0 : zz_fr [] [] (fun _ _ => False) S0 S0 := zz_fr.refl
  have k5 : ∀ (x3 : Int) (x4 : Int) (S : zz_S), zz_G S → zz_fr [] [] (fun _ _ => False) S0 S → ((-1) ≤ x3 ∧ x3 ≤ 601) → (0 ≤ x4 ∧ x4 ≤ 600) → zz_E g l zy_underWay_14_116 zr_underWay_14_116 (zz_QI n (zp_underWay_14_116 p0 p1 S0)) S n 5 [some (.ref 1079), some (zi p0), some (zi p1), some (zi x3), some (zi x4)] [] 0 0 := fun x3 x4 S a b j0 j1 => (zi_underWay_14_116 (g := g) (l := l) p0 p1 S0 n hn G_S0 hp0 hp1 _) x3 x4 S a b j0 j1 (Nat.lt_succ_self _)
  refine zz_iconst zd_14_116_0 ?_
  refine zz_istore_n [some (.ref 1079), some (zi p0), some (zi p1), some (zi (-1))] zd_14_116_1 (by decide) rfl ?_
  refine zz_iconst zd_14_116_2 ?_
  refine zz_istore [some (.ref 1079), some (zi p0), some (zi p1), some (zi (-1)), some (zi 0)] zd_14_116_3 (by decide) rfl ?_
  have g1 := zz_G.r G_S0 1079 19 (-1) 600 rfl rfl
  refine zz_less (ls1 := [some (.ref 1079), some (zi p0), some (zi p1), some (zi (-1)), some (zi 0)]) ⟨rfl, ⟨rfl, ⟨rfl, ⟨rfl, ⟨rfl, trivial⟩⟩⟩⟩⟩ ?_
  exact k5 (-1) 0 S0 G_S0 F_S0 (by omega) (by omega)
abbrev zy_under_14_117 : mm_Y := (⟨"TensorForgeModel", "under", "(II)I"⟩, prog_14_method_117_code, 3, (some .int))
theorem zyw_under_14_117 : mm_Yw zy_under_14_117 2 := ⟨mm_tb_1 2296 (by decide +kernel) rfl, mm_tb_1 12 (by decide +kernel) rfl, ⟨by decide, by decide⟩, by decide +kernel⟩
theorem zk_Md_625 : mm_Vl "TensorForgeModel" 625 11 2 zy_isToldOfRun_14_115 := ⟨zyw_isToldOfRun_14_115, (R_Md, F_Md, 69), rfl, mm_tb_1 2297 (by decide +kernel) rfl, mm_tb_1 2299 (by decide +kernel) rfl, mm_tb_s 159 (by decide +kernel) rfl⟩
theorem zk_Md_628 : mm_Vl "TensorForgeModel" 628 11 2 zy_underWay_14_116 := ⟨zyw_underWay_14_116, (R_Md, F_Md, 69), rfl, mm_tb_1 2301 (by decide +kernel) rfl, mm_tb_1 2303 (by decide +kernel) rfl, mm_tb_s 160 (by decide +kernel) rfl⟩
theorem zg_14_117_0 : zq_at zy_under_14_117.2.1 0 42 ∧ zq_at zy_under_14_117.2.1 1 27 ∧ zq_at zy_under_14_117.2.1 2 28 ∧ zq_at zy_under_14_117.2.1 3 182 ∧ zq_at zy_under_14_117.2.1 4 2 ∧ zq_at zy_under_14_117.2.1 5 113 ∧ zq_at zy_under_14_117.2.1 6 153 ∧ zq_at zy_under_14_117.2.1 7 0 ∧ zq_at zy_under_14_117.2.1 8 12 ∧ zq_at zy_under_14_117.2.1 18 3 ∧ zq_at zy_under_14_117.2.1 19 172 ∧ zq_at zy_under_14_117.2.1 9 42 ∧ zq_at zy_under_14_117.2.1 10 27 ∧ zq_at zy_under_14_117.2.1 11 28 ∧ zq_at zy_under_14_117.2.1 12 182 ∧ zq_at zy_under_14_117.2.1 13 2 ∧ zq_at zy_under_14_117.2.1 14 116 ∧ zq_at zy_under_14_117.2.1 15 167 ∧ zq_at zy_under_14_117.2.1 16 0 ∧ zq_at zy_under_14_117.2.1 17 4 := by decide +kernel
theorem zd_14_117_0 : zz_D zy_under_14_117 0 (.aload_n 0) 1 1 := ⟨zq_42 zg_14_117_0.1, rfl⟩
theorem zd_14_117_1 : zz_D zy_under_14_117 1 (.iload_n 1) 1 2 := ⟨zq_27 zg_14_117_0.2.1, rfl⟩
theorem zd_14_117_2 : zz_D zy_under_14_117 2 (.iload_n 2) 1 3 := ⟨zq_28 zg_14_117_0.2.2.1, rfl⟩
theorem zd_14_117_3 : zz_D zy_under_14_117 3 (.invokevirtual 625) 3 6 := ⟨zq_182 zg_14_117_0.2.2.2.1 zg_14_117_0.2.2.2.2.1 zg_14_117_0.2.2.2.2.2.1 rfl, rfl⟩
theorem zd_14_117_6 : zz_B zy_under_14_117 6 (Instr.ifCond .eq) 18 9 := ⟨12, zq_153 zg_14_117_0.2.2.2.2.2.2.1 zg_14_117_0.2.2.2.2.2.2.2.1 zg_14_117_0.2.2.2.2.2.2.2.2.1 (by decide), rfl, rfl⟩
theorem zd_14_117_18 : zz_D zy_under_14_117 18 (.iconst 0) 1 19 := ⟨zq_3 zg_14_117_0.2.2.2.2.2.2.2.2.2.1, rfl⟩
theorem zd_14_117_19 : zz_D zy_under_14_117 19 (.ireturn) 1 20 := ⟨zq_172 zg_14_117_0.2.2.2.2.2.2.2.2.2.2.1, rfl⟩
theorem zd_14_117_9 : zz_D zy_under_14_117 9 (.aload_n 0) 1 10 := ⟨zq_42 zg_14_117_0.2.2.2.2.2.2.2.2.2.2.2.1, rfl⟩
theorem zd_14_117_10 : zz_D zy_under_14_117 10 (.iload_n 1) 1 11 := ⟨zq_27 zg_14_117_0.2.2.2.2.2.2.2.2.2.2.2.2.1, rfl⟩
theorem zd_14_117_11 : zz_D zy_under_14_117 11 (.iload_n 2) 1 12 := ⟨zq_28 zg_14_117_0.2.2.2.2.2.2.2.2.2.2.2.2.2.1, rfl⟩
theorem zd_14_117_12 : zz_D zy_under_14_117 12 (.invokevirtual 628) 3 15 := ⟨zq_182 zg_14_117_0.2.2.2.2.2.2.2.2.2.2.2.2.2.2.1 zg_14_117_0.2.2.2.2.2.2.2.2.2.2.2.2.2.2.2.1 zg_14_117_0.2.2.2.2.2.2.2.2.2.2.2.2.2.2.2.2.1 rfl, rfl⟩
theorem zd_14_117_15 : zz_B zy_under_14_117 15 Instr.goto 19 18 := ⟨4, zq_167 zg_14_117_0.2.2.2.2.2.2.2.2.2.2.2.2.2.2.2.2.2.1 zg_14_117_0.2.2.2.2.2.2.2.2.2.2.2.2.2.2.2.2.2.2.1 zg_14_117_0.2.2.2.2.2.2.2.2.2.2.2.2.2.2.2.2.2.2.2 (by decide), rfl, rfl⟩
-- TensorForgeModel under (II)I
abbrev zr_under_14_117 : Room := { frames := 2, cells := 0, slots := 0, locals := 34 }
def zp_under_14_117 (p0 : Int) (p1 : Int) (S0 : zz_S) : Int → zz_S → Prop := fun r S => zz_G S ∧ zz_fr [(1079, 0)] [] (fun _ _ => False) S0 S ∧ ((-2147483648) ≤ r ∧ r ≤ 2147483647)
theorem zc_under_14_117 {g : mm_G} {l : Launch} (p0 : Int) (p1 : Int) (S0 : zz_S) (n : Nat) (hn : zz_end ≤ n) (G_S0 : zz_G S0) (hp0 : (-2147483648) ≤ p0 ∧ p0 ≤ 2147483647) (hp1 : (-2147483648) ≤ p1 ∧ p1 ≤ 2147483647) : mm_Met g l zy_under_14_117 zr_under_14_117 [.ref 1079, zi p0, zi p1] (zz_M S0 n) n (zz_QI n (zp_under_14_117 p0 p1 S0)) := by
  refine zz_enter (by decide) (Nat.le_of_ble_eq_true rfl) (zz_less (ls1 := [some (.ref 1079), some (zi p0), some (zi p1)]) ⟨rfl, ⟨rfl, ⟨rfl, trivial⟩⟩⟩ ?_)
  have F_S0 : zz_fr [(1079, 0)] [] (fun _ _ => False) S0 S0 := zz_fr.refl
  refine zz_aload_n (x := 1079) rfl zd_14_117_0 ?_
  refine zz_iload_n (x := p0) rfl zd_14_117_1 ?_
  refine zz_iload_n (x := p1) rfl zd_14_117_2 ?_
  refine zz_callVI [zi p0, zi p1] zd_14_117_3 zk_Md_625 zT_1079 (zz_ltn hn rfl) rfl rfl ⟨Nat.le_of_ble_eq_true rfl, Nat.le_of_ble_eq_true rfl⟩ ⟨rfl, rfl⟩ (Nat.zero_le _) (Nat.zero_le _) (zc_isToldOfRun_14_115 p0 p1 S0 n hn G_S0 (by omega) (by omega)) (fun v2 S1 hP => ?_)
  obtain ⟨G_S1, fS1, o3⟩ := hP
  have F_S1 := zz_fr.trans F_S0 fS1 rfl zz_nv
  rcases (by omega : v2 = 0 ∨ v2 = 1) with rfl | rfl
  · refine zz_if_eq (by omega) zd_14_117_6 (fun c4 => ?_) (fun c4 => ?_)
    · refine zz_iconst zd_14_117_18 ?_
      exact zz_iret zd_14_117_19 rfl (Nat.zero_le _) (Nat.zero_le _) ⟨_, _, rfl, G_S1, F_S1, by omega⟩
    · exfalso; omega
  · refine zz_if_eq (by omega) zd_14_117_6 (fun c5 => ?_) (fun c5 => ?_)
    · exfalso; omega
    · refine zz_aload_n (x := 1079) rfl zd_14_117_9 ?_
      refine zz_iload_n (x := p0) rfl zd_14_117_10 ?_
      refine zz_iload_n (x := p1) rfl zd_14_117_11 ?_
      refine zz_callVI [zi p0, zi p1] zd_14_117_12 zk_Md_628 zT_1079 (zz_ltn hn rfl) rfl rfl ⟨Nat.le_of_ble_eq_true rfl, Nat.le_of_ble_eq_true rfl⟩ ⟨rfl, rfl⟩ (Nat.zero_le _) (Nat.zero_le _) (zc_underWay_14_116 p0 p1 S1 n hn G_S1 (by omega) (by omega)) (fun v7 S6 hP => ?_)
      obtain ⟨rfl, o8⟩ := hP
      refine zz_goto zd_14_117_15 ?_
      exact zz_iret zd_14_117_19 rfl (Nat.zero_le _) (Nat.zero_le _) ⟨_, _, rfl, G_S1, F_S1, by omega⟩
abbrev zy_isTokenThere_14_118 : mm_Y := (⟨"TensorForgeModel", "isTokenThere", "(IZI)Z"⟩, prog_14_method_118_code, 7, (some .boolean))
theorem zyw_isTokenThere_14_118 : mm_Yw zy_isTokenThere_14_118 3 := ⟨mm_tb_1 2312 (by decide +kernel) rfl, mm_tb_1 12 (by decide +kernel) rfl, ⟨by decide, by decide⟩, by decide +kernel⟩
theorem zg_14_118_0 : zq_at zy_isTokenThere_14_118.2.1 0 3 ∧ zq_at zy_isTokenThere_14_118.2.1 1 54 ∧ zq_at zy_isTokenThere_14_118.2.1 2 4 ∧ zq_at zy_isTokenThere_14_118.2.1 3 28 ∧ zq_at zy_isTokenThere_14_118.2.1 4 153 ∧ zq_at zy_isTokenThere_14_118.2.1 5 0 ∧ zq_at zy_isTokenThere_14_118.2.1 6 9 ∧ zq_at zy_isTokenThere_14_118.2.1 13 27 ∧ zq_at zy_isTokenThere_14_118.2.1 14 4 ∧ zq_at zy_isTokenThere_14_118.2.1 15 100 ∧ zq_at zy_isTokenThere_14_118.2.1 16 54 ∧ zq_at zy_isTokenThere_14_118.2.1 17 5 ∧ zq_at zy_isTokenThere_14_118.2.1 18 3 ∧ zq_at zy_isTokenThere_14_118.2.1 19 54 ∧ zq_at zy_isTokenThere_14_118.2.1 20 6 ∧ zq_at zy_isTokenThere_14_118.2.1 7 27 ∧ zq_at zy_isTokenThere_14_118.2.1 8 4 ∧ zq_at zy_isTokenThere_14_118.2.1 9 96 ∧ zq_at zy_isTokenThere_14_118.2.1 10 167 ∧ zq_at zy_isTokenThere_14_118.2.1 11 0 ∧ zq_at zy_isTokenThere_14_118.2.1 12 6 ∧ zq_at zy_isTokenThere_14_118.2.1 21 21 ∧ zq_at zy_isTokenThere_14_118.2.1 22 6 ∧ zq_at zy_isTokenThere_14_118.2.1 23 42 := by decide +kernel
theorem zd_14_118_0 : zz_D zy_isTokenThere_14_118 0 (.iconst 0) 1 1 := ⟨zq_3 zg_14_118_0.1, rfl⟩
theorem zd_14_118_1 : zz_D zy_isTokenThere_14_118 1 (.istore 4) 2 3 := ⟨zq_54 zg_14_118_0.2.1 zg_14_118_0.2.2.1, rfl⟩
theorem zd_14_118_3 : zz_D zy_isTokenThere_14_118 3 (.iload_n 2) 1 4 := ⟨zq_28 zg_14_118_0.2.2.2.1, rfl⟩
theorem zd_14_118_4 : zz_B zy_isTokenThere_14_118 4 (Instr.ifCond .eq) 13 7 := ⟨9, zq_153 zg_14_118_0.2.2.2.2.1 zg_14_118_0.2.2.2.2.2.1 zg_14_118_0.2.2.2.2.2.2.1 (by decide), rfl, rfl⟩
theorem zd_14_118_13 : zz_D zy_isTokenThere_14_118 13 (.iload_n 1) 1 14 := ⟨zq_27 zg_14_118_0.2.2.2.2.2.2.2.1, rfl⟩
theorem zd_14_118_14 : zz_D zy_isTokenThere_14_118 14 (.iconst 1) 1 15 := ⟨zq_4 zg_14_118_0.2.2.2.2.2.2.2.2.1, rfl⟩
theorem zd_14_118_15 : zz_D zy_isTokenThere_14_118 15 (.isub) 1 16 := ⟨zq_100 zg_14_118_0.2.2.2.2.2.2.2.2.2.1, rfl⟩
theorem zd_14_118_16 : zz_D zy_isTokenThere_14_118 16 (.istore 5) 2 18 := ⟨zq_54 zg_14_118_0.2.2.2.2.2.2.2.2.2.2.1 zg_14_118_0.2.2.2.2.2.2.2.2.2.2.2.1, rfl⟩
theorem zd_14_118_18 : zz_D zy_isTokenThere_14_118 18 (.iconst 0) 1 19 := ⟨zq_3 zg_14_118_0.2.2.2.2.2.2.2.2.2.2.2.2.1, rfl⟩
theorem zd_14_118_19 : zz_D zy_isTokenThere_14_118 19 (.istore 6) 2 21 := ⟨zq_54 zg_14_118_0.2.2.2.2.2.2.2.2.2.2.2.2.2.1 zg_14_118_0.2.2.2.2.2.2.2.2.2.2.2.2.2.2.1, rfl⟩
theorem zd_14_118_7 : zz_D zy_isTokenThere_14_118 7 (.iload_n 1) 1 8 := ⟨zq_27 zg_14_118_0.2.2.2.2.2.2.2.2.2.2.2.2.2.2.2.1, rfl⟩
theorem zd_14_118_8 : zz_D zy_isTokenThere_14_118 8 (.iconst 1) 1 9 := ⟨zq_4 zg_14_118_0.2.2.2.2.2.2.2.2.2.2.2.2.2.2.2.2.1, rfl⟩
theorem zd_14_118_9 : zz_D zy_isTokenThere_14_118 9 (.iadd) 1 10 := ⟨zq_96 zg_14_118_0.2.2.2.2.2.2.2.2.2.2.2.2.2.2.2.2.2.1, rfl⟩
theorem zd_14_118_10 : zz_B zy_isTokenThere_14_118 10 Instr.goto 16 13 := ⟨6, zq_167 zg_14_118_0.2.2.2.2.2.2.2.2.2.2.2.2.2.2.2.2.2.2.1 zg_14_118_0.2.2.2.2.2.2.2.2.2.2.2.2.2.2.2.2.2.2.2.1 zg_14_118_0.2.2.2.2.2.2.2.2.2.2.2.2.2.2.2.2.2.2.2.2.1 (by decide), rfl, rfl⟩
theorem zd_14_118_21 : zz_D zy_isTokenThere_14_118 21 (.iload 6) 2 23 := ⟨zq_21 zg_14_118_0.2.2.2.2.2.2.2.2.2.2.2.2.2.2.2.2.2.2.2.2.2.1 zg_14_118_0.2.2.2.2.2.2.2.2.2.2.2.2.2.2.2.2.2.2.2.2.2.2.1, rfl⟩
theorem zd_14_118_23 : zz_D zy_isTokenThere_14_118 23 (.aload_n 0) 1 24 := ⟨zq_42 zg_14_118_0.2.2.2.2.2.2.2.2.2.2.2.2.2.2.2.2.2.2.2.2.2.2.2, rfl⟩
theorem zg_14_118_24 : zq_at zy_isTokenThere_14_118.2.1 24 180 ∧ zq_at zy_isTokenThere_14_118.2.1 25 1 ∧ zq_at zy_isTokenThere_14_118.2.1 26 16 ∧ zq_at zy_isTokenThere_14_118.2.1 27 162 ∧ zq_at zy_isTokenThere_14_118.2.1 28 0 ∧ zq_at zy_isTokenThere_14_118.2.1 29 122 ∧ zq_at zy_isTokenThere_14_118.2.1 149 21 ∧ zq_at zy_isTokenThere_14_118.2.1 150 4 ∧ zq_at zy_isTokenThere_14_118.2.1 151 158 ∧ zq_at zy_isTokenThere_14_118.2.1 152 0 ∧ zq_at zy_isTokenThere_14_118.2.1 153 7 ∧ zq_at zy_isTokenThere_14_118.2.1 158 3 ∧ zq_at zy_isTokenThere_14_118.2.1 159 172 ∧ zq_at zy_isTokenThere_14_118.2.1 30 42 ∧ zq_at zy_isTokenThere_14_118.2.1 31 180 ∧ zq_at zy_isTokenThere_14_118.2.1 32 0 ∧ zq_at zy_isTokenThere_14_118.2.1 33 54 ∧ zq_at zy_isTokenThere_14_118.2.1 34 21 ∧ zq_at zy_isTokenThere_14_118.2.1 35 6 ∧ zq_at zy_isTokenThere_14_118.2.1 36 46 ∧ zq_at zy_isTokenThere_14_118.2.1 37 21 ∧ zq_at zy_isTokenThere_14_118.2.1 38 5 := by decide +kernel
theorem zd_14_118_24 : zz_D zy_isTokenThere_14_118 24 (.getfield 272) 3 27 := ⟨zq_180 zg_14_118_24.1 zg_14_118_24.2.1 zg_14_118_24.2.2.1 rfl, rfl⟩
theorem zd_14_118_27 : zz_B zy_isTokenThere_14_118 27 (Instr.if_icmp .ge) 149 30 := ⟨122, zq_162 zg_14_118_24.2.2.2.1 zg_14_118_24.2.2.2.2.1 zg_14_118_24.2.2.2.2.2.1 (by decide), rfl, rfl⟩
theorem zd_14_118_149 : zz_D zy_isTokenThere_14_118 149 (.iload 4) 2 151 := ⟨zq_21 zg_14_118_24.2.2.2.2.2.2.1 zg_14_118_24.2.2.2.2.2.2.2.1, rfl⟩
theorem zd_14_118_151 : zz_B zy_isTokenThere_14_118 151 (Instr.ifCond .le) 158 154 := ⟨7, zq_158 zg_14_118_24.2.2.2.2.2.2.2.2.1 zg_14_118_24.2.2.2.2.2.2.2.2.2.1 zg_14_118_24.2.2.2.2.2.2.2.2.2.2.1 (by decide), rfl, rfl⟩
theorem zd_14_118_158 : zz_D zy_isTokenThere_14_118 158 (.iconst 0) 1 159 := ⟨zq_3 zg_14_118_24.2.2.2.2.2.2.2.2.2.2.2.1, rfl⟩
theorem zd_14_118_159 : zz_D zy_isTokenThere_14_118 159 (.ireturn) 1 160 := ⟨zq_172 zg_14_118_24.2.2.2.2.2.2.2.2.2.2.2.2.1, rfl⟩
theorem zd_14_118_30 : zz_D zy_isTokenThere_14_118 30 (.aload_n 0) 1 31 := ⟨zq_42 zg_14_118_24.2.2.2.2.2.2.2.2.2.2.2.2.2.1, rfl⟩
theorem zd_14_118_31 : zz_D zy_isTokenThere_14_118 31 (.getfield 54) 3 34 := ⟨zq_180 zg_14_118_24.2.2.2.2.2.2.2.2.2.2.2.2.2.2.1 zg_14_118_24.2.2.2.2.2.2.2.2.2.2.2.2.2.2.2.1 zg_14_118_24.2.2.2.2.2.2.2.2.2.2.2.2.2.2.2.2.1 rfl, rfl⟩
theorem zd_14_118_34 : zz_D zy_isTokenThere_14_118 34 (.iload 6) 2 36 := ⟨zq_21 zg_14_118_24.2.2.2.2.2.2.2.2.2.2.2.2.2.2.2.2.2.1 zg_14_118_24.2.2.2.2.2.2.2.2.2.2.2.2.2.2.2.2.2.2.1, rfl⟩
theorem zd_14_118_36 : zz_D zy_isTokenThere_14_118 36 (.iaload) 1 37 := ⟨zq_46 zg_14_118_24.2.2.2.2.2.2.2.2.2.2.2.2.2.2.2.2.2.2.2.1, rfl⟩
theorem zd_14_118_37 : zz_D zy_isTokenThere_14_118 37 (.iload 5) 2 39 := ⟨zq_21 zg_14_118_24.2.2.2.2.2.2.2.2.2.2.2.2.2.2.2.2.2.2.2.2.1 zg_14_118_24.2.2.2.2.2.2.2.2.2.2.2.2.2.2.2.2.2.2.2.2.2, rfl⟩
theorem zg_14_118_39 : zq_at zy_isTokenThere_14_118.2.1 39 160 ∧ zq_at zy_isTokenThere_14_118.2.1 40 0 ∧ zq_at zy_isTokenThere_14_118.2.1 41 48 ∧ zq_at zy_isTokenThere_14_118.2.1 87 42 ∧ zq_at zy_isTokenThere_14_118.2.1 88 180 ∧ zq_at zy_isTokenThere_14_118.2.1 89 0 ∧ zq_at zy_isTokenThere_14_118.2.1 90 54 ∧ zq_at zy_isTokenThere_14_118.2.1 91 21 ∧ zq_at zy_isTokenThere_14_118.2.1 92 6 ∧ zq_at zy_isTokenThere_14_118.2.1 93 46 ∧ zq_at zy_isTokenThere_14_118.2.1 94 27 ∧ zq_at zy_isTokenThere_14_118.2.1 95 160 ∧ zq_at zy_isTokenThere_14_118.2.1 96 0 ∧ zq_at zy_isTokenThere_14_118.2.1 97 48 ∧ zq_at zy_isTokenThere_14_118.2.1 143 132 ∧ zq_at zy_isTokenThere_14_118.2.1 144 6 ∧ zq_at zy_isTokenThere_14_118.2.1 145 1 ∧ zq_at zy_isTokenThere_14_118.2.1 146 167 ∧ zq_at zy_isTokenThere_14_118.2.1 147 255 ∧ zq_at zy_isTokenThere_14_118.2.1 148 131 ∧ zq_at zy_isTokenThere_14_118.2.1 98 42 ∧ zq_at zy_isTokenThere_14_118.2.1 99 180 ∧ zq_at zy_isTokenThere_14_118.2.1 100 0 ∧ zq_at zy_isTokenThere_14_118.2.1 101 57 := by decide +kernel
theorem zd_14_118_39 : zz_B zy_isTokenThere_14_118 39 (Instr.if_icmp .ne) 87 42 := ⟨48, zq_160 zg_14_118_39.1 zg_14_118_39.2.1 zg_14_118_39.2.2.1 (by decide), rfl, rfl⟩
theorem zd_14_118_87 : zz_D zy_isTokenThere_14_118 87 (.aload_n 0) 1 88 := ⟨zq_42 zg_14_118_39.2.2.2.1, rfl⟩
theorem zd_14_118_88 : zz_D zy_isTokenThere_14_118 88 (.getfield 54) 3 91 := ⟨zq_180 zg_14_118_39.2.2.2.2.1 zg_14_118_39.2.2.2.2.2.1 zg_14_118_39.2.2.2.2.2.2.1 rfl, rfl⟩
theorem zd_14_118_91 : zz_D zy_isTokenThere_14_118 91 (.iload 6) 2 93 := ⟨zq_21 zg_14_118_39.2.2.2.2.2.2.2.1 zg_14_118_39.2.2.2.2.2.2.2.2.1, rfl⟩
theorem zd_14_118_93 : zz_D zy_isTokenThere_14_118 93 (.iaload) 1 94 := ⟨zq_46 zg_14_118_39.2.2.2.2.2.2.2.2.2.1, rfl⟩
theorem zd_14_118_94 : zz_D zy_isTokenThere_14_118 94 (.iload_n 1) 1 95 := ⟨zq_27 zg_14_118_39.2.2.2.2.2.2.2.2.2.2.1, rfl⟩
theorem zd_14_118_95 : zz_B zy_isTokenThere_14_118 95 (Instr.if_icmp .ne) 143 98 := ⟨48, zq_160 zg_14_118_39.2.2.2.2.2.2.2.2.2.2.2.1 zg_14_118_39.2.2.2.2.2.2.2.2.2.2.2.2.1 zg_14_118_39.2.2.2.2.2.2.2.2.2.2.2.2.2.1 (by decide), rfl, rfl⟩
theorem zd_14_118_143 : zz_D zy_isTokenThere_14_118 143 (.iinc 6 1) 3 146 := ⟨zq_132 zg_14_118_39.2.2.2.2.2.2.2.2.2.2.2.2.2.2.1 zg_14_118_39.2.2.2.2.2.2.2.2.2.2.2.2.2.2.2.1 zg_14_118_39.2.2.2.2.2.2.2.2.2.2.2.2.2.2.2.2.1 (by decide), rfl⟩
theorem zd_14_118_146 : zz_B zy_isTokenThere_14_118 146 Instr.goto 21 149 := ⟨(-125), zq_167 zg_14_118_39.2.2.2.2.2.2.2.2.2.2.2.2.2.2.2.2.2.1 zg_14_118_39.2.2.2.2.2.2.2.2.2.2.2.2.2.2.2.2.2.2.1 zg_14_118_39.2.2.2.2.2.2.2.2.2.2.2.2.2.2.2.2.2.2.2.1 (by decide), rfl, rfl⟩
theorem zd_14_118_98 : zz_D zy_isTokenThere_14_118 98 (.aload_n 0) 1 99 := ⟨zq_42 zg_14_118_39.2.2.2.2.2.2.2.2.2.2.2.2.2.2.2.2.2.2.2.2.1, rfl⟩
theorem zd_14_118_99 : zz_D zy_isTokenThere_14_118 99 (.getfield 57) 3 102 := ⟨zq_180 zg_14_118_39.2.2.2.2.2.2.2.2.2.2.2.2.2.2.2.2.2.2.2.2.2.1 zg_14_118_39.2.2.2.2.2.2.2.2.2.2.2.2.2.2.2.2.2.2.2.2.2.2.1 zg_14_118_39.2.2.2.2.2.2.2.2.2.2.2.2.2.2.2.2.2.2.2.2.2.2.2 rfl, rfl⟩
theorem zg_14_118_102 : zq_at zy_isTokenThere_14_118.2.1 102 21 ∧ zq_at zy_isTokenThere_14_118.2.1 103 6 ∧ zq_at zy_isTokenThere_14_118.2.1 104 46 ∧ zq_at zy_isTokenThere_14_118.2.1 105 155 ∧ zq_at zy_isTokenThere_14_118.2.1 106 0 ∧ zq_at zy_isTokenThere_14_118.2.1 107 38 ∧ zq_at zy_isTokenThere_14_118.2.1 108 42 ∧ zq_at zy_isTokenThere_14_118.2.1 109 180 ∧ zq_at zy_isTokenThere_14_118.2.1 110 0 ∧ zq_at zy_isTokenThere_14_118.2.1 111 57 ∧ zq_at zy_isTokenThere_14_118.2.1 112 21 ∧ zq_at zy_isTokenThere_14_118.2.1 113 6 ∧ zq_at zy_isTokenThere_14_118.2.1 114 46 ∧ zq_at zy_isTokenThere_14_118.2.1 115 29 ∧ zq_at zy_isTokenThere_14_118.2.1 116 163 ∧ zq_at zy_isTokenThere_14_118.2.1 117 0 ∧ zq_at zy_isTokenThere_14_118.2.1 118 27 ∧ zq_at zy_isTokenThere_14_118.2.1 119 21 ∧ zq_at zy_isTokenThere_14_118.2.1 120 4 ∧ zq_at zy_isTokenThere_14_118.2.1 121 42 ∧ zq_at zy_isTokenThere_14_118.2.1 122 180 ∧ zq_at zy_isTokenThere_14_118.2.1 123 0 ∧ zq_at zy_isTokenThere_14_118.2.1 124 67 := by decide +kernel
theorem zd_14_118_102 : zz_D zy_isTokenThere_14_118 102 (.iload 6) 2 104 := ⟨zq_21 zg_14_118_102.1 zg_14_118_102.2.1, rfl⟩
theorem zd_14_118_104 : zz_D zy_isTokenThere_14_118 104 (.iaload) 1 105 := ⟨zq_46 zg_14_118_102.2.2.1, rfl⟩
theorem zd_14_118_105 : zz_B zy_isTokenThere_14_118 105 (Instr.ifCond .lt) 143 108 := ⟨38, zq_155 zg_14_118_102.2.2.2.1 zg_14_118_102.2.2.2.2.1 zg_14_118_102.2.2.2.2.2.1 (by decide), rfl, rfl⟩
theorem zd_14_118_108 : zz_D zy_isTokenThere_14_118 108 (.aload_n 0) 1 109 := ⟨zq_42 zg_14_118_102.2.2.2.2.2.2.1, rfl⟩
theorem zd_14_118_109 : zz_D zy_isTokenThere_14_118 109 (.getfield 57) 3 112 := ⟨zq_180 zg_14_118_102.2.2.2.2.2.2.2.1 zg_14_118_102.2.2.2.2.2.2.2.2.1 zg_14_118_102.2.2.2.2.2.2.2.2.2.1 rfl, rfl⟩
theorem zd_14_118_112 : zz_D zy_isTokenThere_14_118 112 (.iload 6) 2 114 := ⟨zq_21 zg_14_118_102.2.2.2.2.2.2.2.2.2.2.1 zg_14_118_102.2.2.2.2.2.2.2.2.2.2.2.1, rfl⟩
theorem zd_14_118_114 : zz_D zy_isTokenThere_14_118 114 (.iaload) 1 115 := ⟨zq_46 zg_14_118_102.2.2.2.2.2.2.2.2.2.2.2.2.1, rfl⟩
theorem zd_14_118_115 : zz_D zy_isTokenThere_14_118 115 (.iload_n 3) 1 116 := ⟨zq_29 zg_14_118_102.2.2.2.2.2.2.2.2.2.2.2.2.2.1, rfl⟩
theorem zd_14_118_116 : zz_B zy_isTokenThere_14_118 116 (Instr.if_icmp .gt) 143 119 := ⟨27, zq_163 zg_14_118_102.2.2.2.2.2.2.2.2.2.2.2.2.2.2.1 zg_14_118_102.2.2.2.2.2.2.2.2.2.2.2.2.2.2.2.1 zg_14_118_102.2.2.2.2.2.2.2.2.2.2.2.2.2.2.2.2.1 (by decide), rfl, rfl⟩
theorem zd_14_118_119 : zz_D zy_isTokenThere_14_118 119 (.iload 4) 2 121 := ⟨zq_21 zg_14_118_102.2.2.2.2.2.2.2.2.2.2.2.2.2.2.2.2.2.1 zg_14_118_102.2.2.2.2.2.2.2.2.2.2.2.2.2.2.2.2.2.2.1, rfl⟩
theorem zd_14_118_121 : zz_D zy_isTokenThere_14_118 121 (.aload_n 0) 1 122 := ⟨zq_42 zg_14_118_102.2.2.2.2.2.2.2.2.2.2.2.2.2.2.2.2.2.2.2.1, rfl⟩
theorem zd_14_118_122 : zz_D zy_isTokenThere_14_118 122 (.getfield 67) 3 125 := ⟨zq_180 zg_14_118_102.2.2.2.2.2.2.2.2.2.2.2.2.2.2.2.2.2.2.2.2.1 zg_14_118_102.2.2.2.2.2.2.2.2.2.2.2.2.2.2.2.2.2.2.2.2.2.1 zg_14_118_102.2.2.2.2.2.2.2.2.2.2.2.2.2.2.2.2.2.2.2.2.2.2 rfl, rfl⟩
theorem zg_14_118_125 : zq_at zy_isTokenThere_14_118.2.1 125 21 ∧ zq_at zy_isTokenThere_14_118.2.1 126 6 ∧ zq_at zy_isTokenThere_14_118.2.1 127 46 ∧ zq_at zy_isTokenThere_14_118.2.1 128 28 ∧ zq_at zy_isTokenThere_14_118.2.1 129 153 ∧ zq_at zy_isTokenThere_14_118.2.1 130 0 ∧ zq_at zy_isTokenThere_14_118.2.1 131 7 ∧ zq_at zy_isTokenThere_14_118.2.1 136 3 ∧ zq_at zy_isTokenThere_14_118.2.1 137 122 ∧ zq_at zy_isTokenThere_14_118.2.1 138 4 ∧ zq_at zy_isTokenThere_14_118.2.1 139 126 ∧ zq_at zy_isTokenThere_14_118.2.1 140 100 ∧ zq_at zy_isTokenThere_14_118.2.1 141 54 ∧ zq_at zy_isTokenThere_14_118.2.1 142 4 ∧ zq_at zy_isTokenThere_14_118.2.1 42 42 ∧ zq_at zy_isTokenThere_14_118.2.1 43 180 ∧ zq_at zy_isTokenThere_14_118.2.1 44 0 ∧ zq_at zy_isTokenThere_14_118.2.1 45 57 ∧ zq_at zy_isTokenThere_14_118.2.1 46 21 ∧ zq_at zy_isTokenThere_14_118.2.1 47 6 ∧ zq_at zy_isTokenThere_14_118.2.1 48 46 ∧ zq_at zy_isTokenThere_14_118.2.1 49 155 ∧ zq_at zy_isTokenThere_14_118.2.1 50 0 ∧ zq_at zy_isTokenThere_14_118.2.1 51 38 := by decide +kernel
theorem zd_14_118_125 : zz_D zy_isTokenThere_14_118 125 (.iload 6) 2 127 := ⟨zq_21 zg_14_118_125.1 zg_14_118_125.2.1, rfl⟩
theorem zd_14_118_127 : zz_D zy_isTokenThere_14_118 127 (.iaload) 1 128 := ⟨zq_46 zg_14_118_125.2.2.1, rfl⟩
theorem zd_14_118_128 : zz_D zy_isTokenThere_14_118 128 (.iload_n 2) 1 129 := ⟨zq_28 zg_14_118_125.2.2.2.1, rfl⟩
theorem zd_14_118_129 : zz_B zy_isTokenThere_14_118 129 (Instr.ifCond .eq) 136 132 := ⟨7, zq_153 zg_14_118_125.2.2.2.2.1 zg_14_118_125.2.2.2.2.2.1 zg_14_118_125.2.2.2.2.2.2.1 (by decide), rfl, rfl⟩
theorem zd_14_118_136 : zz_D zy_isTokenThere_14_118 136 (.iconst 0) 1 137 := ⟨zq_3 zg_14_118_125.2.2.2.2.2.2.2.1, rfl⟩
theorem zd_14_118_137 : zz_D zy_isTokenThere_14_118 137 (.ishr) 1 138 := ⟨zq_122 zg_14_118_125.2.2.2.2.2.2.2.2.1, rfl⟩
theorem zd_14_118_138 : zz_D zy_isTokenThere_14_118 138 (.iconst 1) 1 139 := ⟨zq_4 zg_14_118_125.2.2.2.2.2.2.2.2.2.1, rfl⟩
theorem zd_14_118_139 : zz_D zy_isTokenThere_14_118 139 (.iand) 1 140 := ⟨zq_126 zg_14_118_125.2.2.2.2.2.2.2.2.2.2.1, rfl⟩
theorem zd_14_118_140 : zz_D zy_isTokenThere_14_118 140 (.isub) 1 141 := ⟨zq_100 zg_14_118_125.2.2.2.2.2.2.2.2.2.2.2.1, rfl⟩
theorem zd_14_118_141 : zz_D zy_isTokenThere_14_118 141 (.istore 4) 2 143 := ⟨zq_54 zg_14_118_125.2.2.2.2.2.2.2.2.2.2.2.2.1 zg_14_118_125.2.2.2.2.2.2.2.2.2.2.2.2.2.1, rfl⟩
theorem zd_14_118_42 : zz_D zy_isTokenThere_14_118 42 (.aload_n 0) 1 43 := ⟨zq_42 zg_14_118_125.2.2.2.2.2.2.2.2.2.2.2.2.2.2.1, rfl⟩
theorem zd_14_118_43 : zz_D zy_isTokenThere_14_118 43 (.getfield 57) 3 46 := ⟨zq_180 zg_14_118_125.2.2.2.2.2.2.2.2.2.2.2.2.2.2.2.1 zg_14_118_125.2.2.2.2.2.2.2.2.2.2.2.2.2.2.2.2.1 zg_14_118_125.2.2.2.2.2.2.2.2.2.2.2.2.2.2.2.2.2.1 rfl, rfl⟩
theorem zd_14_118_46 : zz_D zy_isTokenThere_14_118 46 (.iload 6) 2 48 := ⟨zq_21 zg_14_118_125.2.2.2.2.2.2.2.2.2.2.2.2.2.2.2.2.2.2.1 zg_14_118_125.2.2.2.2.2.2.2.2.2.2.2.2.2.2.2.2.2.2.2.1, rfl⟩
theorem zd_14_118_48 : zz_D zy_isTokenThere_14_118 48 (.iaload) 1 49 := ⟨zq_46 zg_14_118_125.2.2.2.2.2.2.2.2.2.2.2.2.2.2.2.2.2.2.2.2.1, rfl⟩
theorem zd_14_118_49 : zz_B zy_isTokenThere_14_118 49 (Instr.ifCond .lt) 87 52 := ⟨38, zq_155 zg_14_118_125.2.2.2.2.2.2.2.2.2.2.2.2.2.2.2.2.2.2.2.2.2.1 zg_14_118_125.2.2.2.2.2.2.2.2.2.2.2.2.2.2.2.2.2.2.2.2.2.2.1 zg_14_118_125.2.2.2.2.2.2.2.2.2.2.2.2.2.2.2.2.2.2.2.2.2.2.2 (by decide), rfl, rfl⟩
theorem zg_14_118_52 : zq_at zy_isTokenThere_14_118.2.1 52 42 ∧ zq_at zy_isTokenThere_14_118.2.1 53 180 ∧ zq_at zy_isTokenThere_14_118.2.1 54 0 ∧ zq_at zy_isTokenThere_14_118.2.1 55 60 ∧ zq_at zy_isTokenThere_14_118.2.1 56 21 ∧ zq_at zy_isTokenThere_14_118.2.1 57 6 ∧ zq_at zy_isTokenThere_14_118.2.1 58 46 ∧ zq_at zy_isTokenThere_14_118.2.1 59 29 ∧ zq_at zy_isTokenThere_14_118.2.1 60 163 ∧ zq_at zy_isTokenThere_14_118.2.1 61 0 ∧ zq_at zy_isTokenThere_14_118.2.1 62 27 ∧ zq_at zy_isTokenThere_14_118.2.1 63 21 ∧ zq_at zy_isTokenThere_14_118.2.1 64 4 ∧ zq_at zy_isTokenThere_14_118.2.1 65 42 ∧ zq_at zy_isTokenThere_14_118.2.1 66 180 ∧ zq_at zy_isTokenThere_14_118.2.1 67 0 ∧ zq_at zy_isTokenThere_14_118.2.1 68 67 ∧ zq_at zy_isTokenThere_14_118.2.1 69 21 ∧ zq_at zy_isTokenThere_14_118.2.1 70 6 ∧ zq_at zy_isTokenThere_14_118.2.1 71 46 ∧ zq_at zy_isTokenThere_14_118.2.1 72 28 ∧ zq_at zy_isTokenThere_14_118.2.1 73 153 ∧ zq_at zy_isTokenThere_14_118.2.1 74 0 ∧ zq_at zy_isTokenThere_14_118.2.1 75 7 := by decide +kernel
theorem zd_14_118_52 : zz_D zy_isTokenThere_14_118 52 (.aload_n 0) 1 53 := ⟨zq_42 zg_14_118_52.1, rfl⟩
theorem zd_14_118_53 : zz_D zy_isTokenThere_14_118 53 (.getfield 60) 3 56 := ⟨zq_180 zg_14_118_52.2.1 zg_14_118_52.2.2.1 zg_14_118_52.2.2.2.1 rfl, rfl⟩
theorem zd_14_118_56 : zz_D zy_isTokenThere_14_118 56 (.iload 6) 2 58 := ⟨zq_21 zg_14_118_52.2.2.2.2.1 zg_14_118_52.2.2.2.2.2.1, rfl⟩
theorem zd_14_118_58 : zz_D zy_isTokenThere_14_118 58 (.iaload) 1 59 := ⟨zq_46 zg_14_118_52.2.2.2.2.2.2.1, rfl⟩
theorem zd_14_118_59 : zz_D zy_isTokenThere_14_118 59 (.iload_n 3) 1 60 := ⟨zq_29 zg_14_118_52.2.2.2.2.2.2.2.1, rfl⟩
theorem zd_14_118_60 : zz_B zy_isTokenThere_14_118 60 (Instr.if_icmp .gt) 87 63 := ⟨27, zq_163 zg_14_118_52.2.2.2.2.2.2.2.2.1 zg_14_118_52.2.2.2.2.2.2.2.2.2.1 zg_14_118_52.2.2.2.2.2.2.2.2.2.2.1 (by decide), rfl, rfl⟩
theorem zd_14_118_63 : zz_D zy_isTokenThere_14_118 63 (.iload 4) 2 65 := ⟨zq_21 zg_14_118_52.2.2.2.2.2.2.2.2.2.2.2.1 zg_14_118_52.2.2.2.2.2.2.2.2.2.2.2.2.1, rfl⟩
theorem zd_14_118_65 : zz_D zy_isTokenThere_14_118 65 (.aload_n 0) 1 66 := ⟨zq_42 zg_14_118_52.2.2.2.2.2.2.2.2.2.2.2.2.2.1, rfl⟩
theorem zd_14_118_66 : zz_D zy_isTokenThere_14_118 66 (.getfield 67) 3 69 := ⟨zq_180 zg_14_118_52.2.2.2.2.2.2.2.2.2.2.2.2.2.2.1 zg_14_118_52.2.2.2.2.2.2.2.2.2.2.2.2.2.2.2.1 zg_14_118_52.2.2.2.2.2.2.2.2.2.2.2.2.2.2.2.2.1 rfl, rfl⟩
theorem zd_14_118_69 : zz_D zy_isTokenThere_14_118 69 (.iload 6) 2 71 := ⟨zq_21 zg_14_118_52.2.2.2.2.2.2.2.2.2.2.2.2.2.2.2.2.2.1 zg_14_118_52.2.2.2.2.2.2.2.2.2.2.2.2.2.2.2.2.2.2.1, rfl⟩
theorem zd_14_118_71 : zz_D zy_isTokenThere_14_118 71 (.iaload) 1 72 := ⟨zq_46 zg_14_118_52.2.2.2.2.2.2.2.2.2.2.2.2.2.2.2.2.2.2.2.1, rfl⟩
theorem zd_14_118_72 : zz_D zy_isTokenThere_14_118 72 (.iload_n 2) 1 73 := ⟨zq_28 zg_14_118_52.2.2.2.2.2.2.2.2.2.2.2.2.2.2.2.2.2.2.2.2.1, rfl⟩
theorem zd_14_118_73 : zz_B zy_isTokenThere_14_118 73 (Instr.ifCond .eq) 80 76 := ⟨7, zq_153 zg_14_118_52.2.2.2.2.2.2.2.2.2.2.2.2.2.2.2.2.2.2.2.2.2.1 zg_14_118_52.2.2.2.2.2.2.2.2.2.2.2.2.2.2.2.2.2.2.2.2.2.2.1 zg_14_118_52.2.2.2.2.2.2.2.2.2.2.2.2.2.2.2.2.2.2.2.2.2.2.2 (by decide), rfl, rfl⟩
theorem zg_14_118_80 : zq_at zy_isTokenThere_14_118.2.1 80 6 ∧ zq_at zy_isTokenThere_14_118.2.1 81 122 ∧ zq_at zy_isTokenThere_14_118.2.1 82 4 ∧ zq_at zy_isTokenThere_14_118.2.1 83 126 ∧ zq_at zy_isTokenThere_14_118.2.1 84 96 ∧ zq_at zy_isTokenThere_14_118.2.1 85 54 ∧ zq_at zy_isTokenThere_14_118.2.1 86 4 ∧ zq_at zy_isTokenThere_14_118.2.1 154 4 ∧ zq_at zy_isTokenThere_14_118.2.1 155 167 ∧ zq_at zy_isTokenThere_14_118.2.1 156 0 ∧ zq_at zy_isTokenThere_14_118.2.1 157 4 ∧ zq_at zy_isTokenThere_14_118.2.1 132 4 ∧ zq_at zy_isTokenThere_14_118.2.1 133 167 ∧ zq_at zy_isTokenThere_14_118.2.1 134 0 ∧ zq_at zy_isTokenThere_14_118.2.1 135 4 ∧ zq_at zy_isTokenThere_14_118.2.1 76 5 ∧ zq_at zy_isTokenThere_14_118.2.1 77 167 ∧ zq_at zy_isTokenThere_14_118.2.1 78 0 ∧ zq_at zy_isTokenThere_14_118.2.1 79 4 := by decide +kernel
theorem zd_14_118_80 : zz_D zy_isTokenThere_14_118 80 (.iconst 3) 1 81 := ⟨zq_6 zg_14_118_80.1, rfl⟩
theorem zd_14_118_81 : zz_D zy_isTokenThere_14_118 81 (.ishr) 1 82 := ⟨zq_122 zg_14_118_80.2.1, rfl⟩
theorem zd_14_118_82 : zz_D zy_isTokenThere_14_118 82 (.iconst 1) 1 83 := ⟨zq_4 zg_14_118_80.2.2.1, rfl⟩
theorem zd_14_118_83 : zz_D zy_isTokenThere_14_118 83 (.iand) 1 84 := ⟨zq_126 zg_14_118_80.2.2.2.1, rfl⟩
theorem zd_14_118_84 : zz_D zy_isTokenThere_14_118 84 (.iadd) 1 85 := ⟨zq_96 zg_14_118_80.2.2.2.2.1, rfl⟩
theorem zd_14_118_85 : zz_D zy_isTokenThere_14_118 85 (.istore 4) 2 87 := ⟨zq_54 zg_14_118_80.2.2.2.2.2.1 zg_14_118_80.2.2.2.2.2.2.1, rfl⟩
theorem zd_14_118_154 : zz_D zy_isTokenThere_14_118 154 (.iconst 1) 1 155 := ⟨zq_4 zg_14_118_80.2.2.2.2.2.2.2.1, rfl⟩
theorem zd_14_118_155 : zz_B zy_isTokenThere_14_118 155 Instr.goto 159 158 := ⟨4, zq_167 zg_14_118_80.2.2.2.2.2.2.2.2.1 zg_14_118_80.2.2.2.2.2.2.2.2.2.1 zg_14_118_80.2.2.2.2.2.2.2.2.2.2.1 (by decide), rfl, rfl⟩
theorem zd_14_118_132 : zz_D zy_isTokenThere_14_118 132 (.iconst 1) 1 133 := ⟨zq_4 zg_14_118_80.2.2.2.2.2.2.2.2.2.2.2.1, rfl⟩
theorem zd_14_118_133 : zz_B zy_isTokenThere_14_118 133 Instr.goto 137 136 := ⟨4, zq_167 zg_14_118_80.2.2.2.2.2.2.2.2.2.2.2.2.1 zg_14_118_80.2.2.2.2.2.2.2.2.2.2.2.2.2.1 zg_14_118_80.2.2.2.2.2.2.2.2.2.2.2.2.2.2.1 (by decide), rfl, rfl⟩
theorem zd_14_118_76 : zz_D zy_isTokenThere_14_118 76 (.iconst 2) 1 77 := ⟨zq_5 zg_14_118_80.2.2.2.2.2.2.2.2.2.2.2.2.2.2.2.1, rfl⟩
theorem zd_14_118_77 : zz_B zy_isTokenThere_14_118 77 Instr.goto 81 80 := ⟨4, zq_167 zg_14_118_80.2.2.2.2.2.2.2.2.2.2.2.2.2.2.2.2.1 zg_14_118_80.2.2.2.2.2.2.2.2.2.2.2.2.2.2.2.2.2.1 zg_14_118_80.2.2.2.2.2.2.2.2.2.2.2.2.2.2.2.2.2.2 (by decide), rfl, rfl⟩
-- TensorForgeModel isTokenThere (IZI)Z
abbrev zr_isTokenThere_14_118 : Room := { frames := 0, cells := 0, slots := 0, locals := 0 }
def zp_isTokenThere_14_118 (p0 : Int) (p1 : Int) (p2 : Int) (S0 : zz_S) : Int → zz_S → Prop := fun r S => S0 = S ∧ (0 ≤ r ∧ r ≤ 1)
theorem zb_isTokenThere_14_118_21 {g : mm_G} {l : Launch} (p0 : Int) (p1 : Int) (p2 : Int) (S0 : zz_S) (n : Nat) (hn : zz_end ≤ n) (G_S0 : zz_G S0) (hp0 : (-2147483648) ≤ p0 ∧ p0 ≤ 2147483647) (hp1 : 0 ≤ p1 ∧ p1 ≤ 1) (hp2 : (-2147483648) ≤ p2 ∧ p2 ≤ 2147483647) (x4 : Int) (x5 : Int) (x6 : Int) (S : zz_S) (G_S : zz_G S) (F_S : zz_fr [] [] (fun _ _ => False) S0 S) (i21_0 : (-2147483648) ≤ x4 ∧ x4 ≤ 2147483647) (i21_1 : (-2147483648) ≤ x5 ∧ x5 ≤ 2147483647) (i21_2 : 0 ≤ x6 ∧ x6 ≤ 600) (R : Nat) (hR : (S0 1079 19 - x6).toNat = R) (k21 : ∀ (x4 : Int) (x5 : Int) (x6 : Int) (S : zz_S), zz_G S → zz_fr [] [] (fun _ _ => False) S0 S → ((-2147483648) ≤ x4 ∧ x4 ≤ 2147483647) → ((-2147483648) ≤ x5 ∧ x5 ≤ 2147483647) → (0 ≤ x6 ∧ x6 ≤ 600) → (S0 1079 19 - x6).toNat < R → zz_E g l zy_isTokenThere_14_118 zr_isTokenThere_14_118 (zz_QI n (zp_isTokenThere_14_118 p0 p1 p2 S0)) S n 21 [some (.ref 1079), some (zi p0), some (zi p1), some (zi p2), some (zi x4), some (zi x5), some (zi x6)] [] 0 0) : zz_E g l zy_isTokenThere_14_118 zr_isTokenThere_14_118 (zz_QI n (zp_isTokenThere_14_118 p0 p1 p2 S0)) S n 21 [some (.ref 1079), some (zi p0), some (zi p1), some (zi p2), some (zi x4), some (zi x5), some (zi x6)] [] 0 0 := by
  refine zz_iload (x := x6) rfl zd_14_118_21 ?_
  refine zz_aload_n (x := 1079) rfl zd_14_118_23 ?_
  have g6 := zz_G.r G_S0 1079 19 (-1) 600 rfl rfl
  refine zz_geti (z := S0 1079 19) zd_14_118_24 zf_Md_272 zT_1079 rfl (zz_ltn hn rfl) (zz_rc F_S rfl rfl (fun h => h) rfl) ?_
  refine zz_icmp_ge (by omega) (by omega) zd_14_118_27 (fun c7 => ?_) (fun c7 => ?_)
  · refine zz_iload (x := x4) rfl zd_14_118_149 ?_
    refine zz_if_le (by omega) zd_14_118_151 (fun c8 => ?_) (fun c8 => ?_)
    · refine zz_iconst zd_14_118_158 ?_
      exact zz_zret zd_14_118_159 rfl (by omega) (Nat.zero_le _) (Nat.zero_le _) ⟨_, _, rfl, zz_fr.eq F_S, by omega⟩
    · refine zz_iconst zd_14_118_154 ?_
      refine zz_goto zd_14_118_155 ?_
      exact zz_zret zd_14_118_159 rfl (by omega) (Nat.zero_le _) (Nat.zero_le _) ⟨_, _, rfl, zz_fr.eq F_S, by omega⟩
  · refine zz_aload_n (x := 1079) rfl zd_14_118_30 ?_
    refine zz_getr (kd := 0) (z := 1092) zd_14_118_31 zf_Md_54 zT_1079 rfl (zz_ltn hn rfl) (zz_G.eq G_S 1079 20 1092 rfl rfl) (by decide) 1092 rfl ?_
    refine zz_iload (x := x6) rfl zd_14_118_34 ?_
    have g9 := zz_G.r G_S0 1092 x6.toNat (-2147483648) 2147483647 rfl rfl
    refine zz_iald (z := S0 1092 x6.toNat) zd_14_118_36 zT_1092 rfl (zz_ltn hn rfl) (by decide) (by omega) (zz_rc F_S (zz_nc1 rfl) rfl (fun h => h) rfl) ?_
    refine zz_iload (x := x5) rfl zd_14_118_37 ?_
    refine zz_icmp_ne (by omega) (by omega) zd_14_118_39 (fun c10 => ?_) (fun c10 => ?_)
    · refine zz_aload_n (x := 1079) rfl zd_14_118_87 ?_
      refine zz_getr (kd := 0) (z := 1092) zd_14_118_88 zf_Md_54 zT_1079 rfl (zz_ltn hn rfl) (zz_G.eq G_S 1079 20 1092 rfl rfl) (by decide) 1092 rfl ?_
      refine zz_iload (x := x6) rfl zd_14_118_91 ?_
      refine zz_iald (z := S0 1092 x6.toNat) zd_14_118_93 zT_1092 rfl (zz_ltn hn rfl) (by decide) (by omega) (zz_rc F_S (zz_nc1 rfl) rfl (fun h => h) rfl) ?_
      refine zz_iload_n (x := p0) rfl zd_14_118_94 ?_
      refine zz_icmp_ne (by omega) (by omega) zd_14_118_95 (fun c11 => ?_) (fun c11 => ?_)
      · refine zz_iinc [some (.ref 1079), some (zi p0), some (zi p1), some (zi p2), some (zi x4), some (zi x5), some (zi (x6 + 1))] zd_14_118_143 rfl rfl ?_
        refine zz_goto zd_14_118_146 ?_
        refine zz_less (ls1 := [some (.ref 1079), some (zi p0), some (zi p1), some (zi p2), some (zi x4), some (zi x5), some (zi (x6 + 1))]) ⟨rfl, ⟨rfl, ⟨rfl, ⟨rfl, ⟨rfl, ⟨rfl, ⟨rfl, trivial⟩⟩⟩⟩⟩⟩⟩ ?_
        exact k21 x4 x5 (x6 + 1) S G_S F_S (by omega) (by omega) (by omega) (by omega)
      · refine zz_aload_n (x := 1079) rfl zd_14_118_98 ?_
        refine zz_getr (kd := 0) (z := 1093) zd_14_118_99 zf_Md_57 zT_1079 rfl (zz_ltn hn rfl) (zz_G.eq G_S 1079 21 1093 rfl rfl) (by decide) 1093 rfl ?_
        refine zz_iload (x := x6) rfl zd_14_118_102 ?_
        have g12 := zz_G.r G_S0 1093 x6.toNat (-2147483648) 2147483647 rfl rfl
        refine zz_iald (z := S0 1093 x6.toNat) zd_14_118_104 zT_1093 rfl (zz_ltn hn rfl) (by decide) (by omega) (zz_rc F_S (zz_nc1 rfl) rfl (fun h => h) rfl) ?_
        refine zz_if_lt (by omega) zd_14_118_105 (fun c13 => ?_) (fun c13 => ?_)
        · refine zz_iinc [some (.ref 1079), some (zi p0), some (zi p1), some (zi p2), some (zi x4), some (zi x5), some (zi (x6 + 1))] zd_14_118_143 rfl rfl ?_
          refine zz_goto zd_14_118_146 ?_
          refine zz_less (ls1 := [some (.ref 1079), some (zi p0), some (zi p1), some (zi p2), some (zi x4), some (zi x5), some (zi (x6 + 1))]) ⟨rfl, ⟨rfl, ⟨rfl, ⟨rfl, ⟨rfl, ⟨rfl, ⟨rfl, trivial⟩⟩⟩⟩⟩⟩⟩ ?_
          exact k21 x4 x5 (x6 + 1) S G_S F_S (by omega) (by omega) (by omega) (by omega)
        · refine zz_aload_n (x := 1079) rfl zd_14_118_108 ?_
          refine zz_getr (kd := 0) (z := 1093) zd_14_118_109 zf_Md_57 zT_1079 rfl (zz_ltn hn rfl) (zz_G.eq G_S 1079 21 1093 rfl rfl) (by decide) 1093 rfl ?_
          refine zz_iload (x := x6) rfl zd_14_118_112 ?_
          refine zz_iald (z := S0 1093 x6.toNat) zd_14_118_114 zT_1093 rfl (zz_ltn hn rfl) (by decide) (by omega) (zz_rc F_S (zz_nc1 rfl) rfl (fun h => h) rfl) ?_
          refine zz_iload_n (x := p2) rfl zd_14_118_115 ?_
          refine zz_icmp_gt (by omega) (by omega) zd_14_118_116 (fun c14 => ?_) (fun c14 => ?_)
          · refine zz_iinc [some (.ref 1079), some (zi p0), some (zi p1), some (zi p2), some (zi x4), some (zi x5), some (zi (x6 + 1))] zd_14_118_143 rfl rfl ?_
            refine zz_goto zd_14_118_146 ?_
            refine zz_less (ls1 := [some (.ref 1079), some (zi p0), some (zi p1), some (zi p2), some (zi x4), some (zi x5), some (zi (x6 + 1))]) ⟨rfl, ⟨rfl, ⟨rfl, ⟨rfl, ⟨rfl, ⟨rfl, ⟨rfl, trivial⟩⟩⟩⟩⟩⟩⟩ ?_
            exact k21 x4 x5 (x6 + 1) S G_S F_S (by omega) (by omega) (by omega) (by omega)
          · refine zz_iload (x := x4) rfl zd_14_118_119 ?_
            refine zz_aload_n (x := 1079) rfl zd_14_118_121 ?_
            refine zz_getr (kd := 0) (z := 1096) zd_14_118_122 zf_Md_67 zT_1079 rfl (zz_ltn hn rfl) (zz_G.eq G_S 1079 24 1096 rfl rfl) (by decide) 1096 rfl ?_
            refine zz_iload (x := x6) rfl zd_14_118_125 ?_
            have g15 := zz_G.r G_S0 1096 x6.toNat (-2147483648) 2147483647 rfl rfl
            refine zz_iald (z := S0 1096 x6.toNat) zd_14_118_127 zT_1096 rfl (zz_ltn hn rfl) (by decide) (by omega) (zz_rc F_S (zz_nc1 rfl) rfl (fun h => h) rfl) ?_
            refine zz_iload_n (x := p1) rfl zd_14_118_128 ?_
            refine zz_if_eq (by omega) zd_14_118_129 (fun c16 => ?_) (fun c16 => ?_)
            · refine zz_iconst zd_14_118_136 ?_
              refine zz_ishr zd_14_118_137 (fun v17 hv17 ev17 => ?_)
              have av17 := zz_shr0 (by omega) ev17
              refine zz_iconst zd_14_118_138 ?_
              refine zz_iand (by omega) (by omega) zd_14_118_139 (fun v18 hv18 av18 bv18 ev18 => ?_)
              refine zz_isub zd_14_118_140 ?_
              refine zz_nrm (fun v19 hv19 ev19 => ?_)
              refine zz_istore [some (.ref 1079), some (zi p0), some (zi p1), some (zi p2), some (zi v19), some (zi x5), some (zi x6)] zd_14_118_141 (by decide) rfl ?_
              refine zz_iinc [some (.ref 1079), some (zi p0), some (zi p1), some (zi p2), some (zi v19), some (zi x5), some (zi (x6 + 1))] zd_14_118_143 rfl rfl ?_
              refine zz_goto zd_14_118_146 ?_
              refine zz_less (ls1 := [some (.ref 1079), some (zi p0), some (zi p1), some (zi p2), some (zi v19), some (zi x5), some (zi (x6 + 1))]) ⟨rfl, ⟨rfl, ⟨rfl, ⟨rfl, ⟨rfl, ⟨rfl, ⟨rfl, trivial⟩⟩⟩⟩⟩⟩⟩ ?_
              exact k21 v19 x5 (x6 + 1) S G_S F_S (by omega) (by omega) (by omega) (by omega)
            · refine zz_iconst zd_14_118_132 ?_
              refine zz_goto zd_14_118_133 ?_
              refine zz_ishr zd_14_118_137 (fun v20 hv20 ev20 => ?_)
              refine zz_iconst zd_14_118_138 ?_
              refine zz_iand (by omega) (by omega) zd_14_118_139 (fun v21 hv21 av21 bv21 ev21 => ?_)
              refine zz_isub zd_14_118_140 ?_
              refine zz_nrm (fun v22 hv22 ev22 => ?_)
              refine zz_istore [some (.ref 1079), some (zi p0), some (zi p1), some (zi p2), some (zi v22), some (zi x5), some (zi x6)] zd_14_118_141 (by decide) rfl ?_
              refine zz_iinc [some (.ref 1079), some (zi p0), some (zi p1), some (zi p2), some (zi v22), some (zi x5), some (zi (x6 + 1))] zd_14_118_143 rfl rfl ?_
              refine zz_goto zd_14_118_146 ?_
              refine zz_less (ls1 := [some (.ref 1079), some (zi p0), some (zi p1), some (zi p2), some (zi v22), some (zi x5), some (zi (x6 + 1))]) ⟨rfl, ⟨rfl, ⟨rfl, ⟨rfl, ⟨rfl, ⟨rfl, ⟨rfl, trivial⟩⟩⟩⟩⟩⟩⟩ ?_
              exact k21 v22 x5 (x6 + 1) S G_S F_S (by omega) (by omega) (by omega) (by omega)
    · refine zz_aload_n (x := 1079) rfl zd_14_118_42 ?_
      refine zz_getr (kd := 0) (z := 1093) zd_14_118_43 zf_Md_57 zT_1079 rfl (zz_ltn hn rfl) (zz_G.eq G_S 1079 21 1093 rfl rfl) (by decide) 1093 rfl ?_
      refine zz_iload (x := x6) rfl zd_14_118_46 ?_
      have g23 := zz_G.r G_S0 1093 x6.toNat (-2147483648) 2147483647 rfl rfl
      refine zz_iald (z := S0 1093 x6.toNat) zd_14_118_48 zT_1093 rfl (zz_ltn hn rfl) (by decide) (by omega) (zz_rc F_S (zz_nc1 rfl) rfl (fun h => h) rfl) ?_
      refine zz_if_lt (by omega) zd_14_118_49 (fun c24 => ?_) (fun c24 => ?_)
      · refine zz_aload_n (x := 1079) rfl zd_14_118_87 ?_
        refine zz_getr (kd := 0) (z := 1092) zd_14_118_88 zf_Md_54 zT_1079 rfl (zz_ltn hn rfl) (zz_G.eq G_S 1079 20 1092 rfl rfl) (by decide) 1092 rfl ?_
        refine zz_iload (x := x6) rfl zd_14_118_91 ?_
        refine zz_iald (z := S0 1092 x6.toNat) zd_14_118_93 zT_1092 rfl (zz_ltn hn rfl) (by decide) (by omega) (zz_rc F_S (zz_nc1 rfl) rfl (fun h => h) rfl) ?_
        refine zz_iload_n (x := p0) rfl zd_14_118_94 ?_
        refine zz_icmp_ne (by omega) (by omega) zd_14_118_95 (fun c25 => ?_) (fun c25 => ?_)
        · refine zz_iinc [some (.ref 1079), some (zi p0), some (zi p1), some (zi p2), some (zi x4), some (zi x5), some (zi (x6 + 1))] zd_14_118_143 rfl rfl ?_
          refine zz_goto zd_14_118_146 ?_
          refine zz_less (ls1 := [some (.ref 1079), some (zi p0), some (zi p1), some (zi p2), some (zi x4), some (zi x5), some (zi (x6 + 1))]) ⟨rfl, ⟨rfl, ⟨rfl, ⟨rfl, ⟨rfl, ⟨rfl, ⟨rfl, trivial⟩⟩⟩⟩⟩⟩⟩ ?_
          exact k21 x4 x5 (x6 + 1) S G_S F_S (by omega) (by omega) (by omega) (by omega)
        · refine zz_aload_n (x := 1079) rfl zd_14_118_98 ?_
          refine zz_getr (kd := 0) (z := 1093) zd_14_118_99 zf_Md_57 zT_1079 rfl (zz_ltn hn rfl) (zz_G.eq G_S 1079 21 1093 rfl rfl) (by decide) 1093 rfl ?_
          refine zz_iload (x := x6) rfl zd_14_118_102 ?_
          refine zz_iald (z := S0 1093 x6.toNat) zd_14_118_104 zT_1093 rfl (zz_ltn hn rfl) (by decide) (by omega) (zz_rc F_S (zz_nc1 rfl) rfl (fun h => h) rfl) ?_
          refine zz_if_lt (by omega) zd_14_118_105 (fun c26 => ?_) (fun c26 => ?_)
          · refine zz_iinc [some (.ref 1079), some (zi p0), some (zi p1), some (zi p2), some (zi x4), some (zi x5), some (zi (x6 + 1))] zd_14_118_143 rfl rfl ?_
            refine zz_goto zd_14_118_146 ?_
            refine zz_less (ls1 := [some (.ref 1079), some (zi p0), some (zi p1), some (zi p2), some (zi x4), some (zi x5), some (zi (x6 + 1))]) ⟨rfl, ⟨rfl, ⟨rfl, ⟨rfl, ⟨rfl, ⟨rfl, ⟨rfl, trivial⟩⟩⟩⟩⟩⟩⟩ ?_
            exact k21 x4 x5 (x6 + 1) S G_S F_S (by omega) (by omega) (by omega) (by omega)
          · exfalso; omega
      · refine zz_aload_n (x := 1079) rfl zd_14_118_52 ?_
        refine zz_getr (kd := 0) (z := 1094) zd_14_118_53 zf_Md_60 zT_1079 rfl (zz_ltn hn rfl) (zz_G.eq G_S 1079 22 1094 rfl rfl) (by decide) 1094 rfl ?_
        refine zz_iload (x := x6) rfl zd_14_118_56 ?_
        have g27 := zz_G.r G_S0 1094 x6.toNat (-2147483648) 2147483647 rfl rfl
        refine zz_iald (z := S0 1094 x6.toNat) zd_14_118_58 zT_1094 rfl (zz_ltn hn rfl) (by decide) (by omega) (zz_rc F_S (zz_nc1 rfl) rfl (fun h => h) rfl) ?_
        refine zz_iload_n (x := p2) rfl zd_14_118_59 ?_
        refine zz_icmp_gt (by omega) (by omega) zd_14_118_60 (fun c28 => ?_) (fun c28 => ?_)
        · refine zz_aload_n (x := 1079) rfl zd_14_118_87 ?_
          refine zz_getr (kd := 0) (z := 1092) zd_14_118_88 zf_Md_54 zT_1079 rfl (zz_ltn hn rfl) (zz_G.eq G_S 1079 20 1092 rfl rfl) (by decide) 1092 rfl ?_
          refine zz_iload (x := x6) rfl zd_14_118_91 ?_
          refine zz_iald (z := S0 1092 x6.toNat) zd_14_118_93 zT_1092 rfl (zz_ltn hn rfl) (by decide) (by omega) (zz_rc F_S (zz_nc1 rfl) rfl (fun h => h) rfl) ?_
          refine zz_iload_n (x := p0) rfl zd_14_118_94 ?_
          refine zz_icmp_ne (by omega) (by omega) zd_14_118_95 (fun c29 => ?_) (fun c29 => ?_)
          · refine zz_iinc [some (.ref 1079), some (zi p0), some (zi p1), some (zi p2), some (zi x4), some (zi x5), some (zi (x6 + 1))] zd_14_118_143 rfl rfl ?_
            refine zz_goto zd_14_118_146 ?_
            refine zz_less (ls1 := [some (.ref 1079), some (zi p0), some (zi p1), some (zi p2), some (zi x4), some (zi x5), some (zi (x6 + 1))]) ⟨rfl, ⟨rfl, ⟨rfl, ⟨rfl, ⟨rfl, ⟨rfl, ⟨rfl, trivial⟩⟩⟩⟩⟩⟩⟩ ?_
            exact k21 x4 x5 (x6 + 1) S G_S F_S (by omega) (by omega) (by omega) (by omega)
          · refine zz_aload_n (x := 1079) rfl zd_14_118_98 ?_
            refine zz_getr (kd := 0) (z := 1093) zd_14_118_99 zf_Md_57 zT_1079 rfl (zz_ltn hn rfl) (zz_G.eq G_S 1079 21 1093 rfl rfl) (by decide) 1093 rfl ?_
            refine zz_iload (x := x6) rfl zd_14_118_102 ?_
            refine zz_iald (z := S0 1093 x6.toNat) zd_14_118_104 zT_1093 rfl (zz_ltn hn rfl) (by decide) (by omega) (zz_rc F_S (zz_nc1 rfl) rfl (fun h => h) rfl) ?_
            refine zz_if_lt (by omega) zd_14_118_105 (fun c30 => ?_) (fun c30 => ?_)
            · exfalso; omega
            · refine zz_aload_n (x := 1079) rfl zd_14_118_108 ?_
              refine zz_getr (kd := 0) (z := 1093) zd_14_118_109 zf_Md_57 zT_1079 rfl (zz_ltn hn rfl) (zz_G.eq G_S 1079 21 1093 rfl rfl) (by decide) 1093 rfl ?_
              refine zz_iload (x := x6) rfl zd_14_118_112 ?_
              refine zz_iald (z := S0 1093 x6.toNat) zd_14_118_114 zT_1093 rfl (zz_ltn hn rfl) (by decide) (by omega) (zz_rc F_S (zz_nc1 rfl) rfl (fun h => h) rfl) ?_
              refine zz_iload_n (x := p2) rfl zd_14_118_115 ?_
              refine zz_icmp_gt (by omega) (by omega) zd_14_118_116 (fun c31 => ?_) (fun c31 => ?_)
              · refine zz_iinc [some (.ref 1079), some (zi p0), some (zi p1), some (zi p2), some (zi x4), some (zi x5), some (zi (x6 + 1))] zd_14_118_143 rfl rfl ?_
                refine zz_goto zd_14_118_146 ?_
                refine zz_less (ls1 := [some (.ref 1079), some (zi p0), some (zi p1), some (zi p2), some (zi x4), some (zi x5), some (zi (x6 + 1))]) ⟨rfl, ⟨rfl, ⟨rfl, ⟨rfl, ⟨rfl, ⟨rfl, ⟨rfl, trivial⟩⟩⟩⟩⟩⟩⟩ ?_
                exact k21 x4 x5 (x6 + 1) S G_S F_S (by omega) (by omega) (by omega) (by omega)
              · refine zz_iload (x := x4) rfl zd_14_118_119 ?_
                refine zz_aload_n (x := 1079) rfl zd_14_118_121 ?_
                refine zz_getr (kd := 0) (z := 1096) zd_14_118_122 zf_Md_67 zT_1079 rfl (zz_ltn hn rfl) (zz_G.eq G_S 1079 24 1096 rfl rfl) (by decide) 1096 rfl ?_
                refine zz_iload (x := x6) rfl zd_14_118_125 ?_
                have g32 := zz_G.r G_S0 1096 x6.toNat (-2147483648) 2147483647 rfl rfl
                refine zz_iald (z := S0 1096 x6.toNat) zd_14_118_127 zT_1096 rfl (zz_ltn hn rfl) (by decide) (by omega) (zz_rc F_S (zz_nc1 rfl) rfl (fun h => h) rfl) ?_
                refine zz_iload_n (x := p1) rfl zd_14_118_128 ?_
                refine zz_if_eq (by omega) zd_14_118_129 (fun c33 => ?_) (fun c33 => ?_)
                · refine zz_iconst zd_14_118_136 ?_
                  refine zz_ishr zd_14_118_137 (fun v34 hv34 ev34 => ?_)
                  have av34 := zz_shr0 (by omega) ev34
                  refine zz_iconst zd_14_118_138 ?_
                  refine zz_iand (by omega) (by omega) zd_14_118_139 (fun v35 hv35 av35 bv35 ev35 => ?_)
                  refine zz_isub zd_14_118_140 ?_
                  refine zz_nrm (fun v36 hv36 ev36 => ?_)
                  refine zz_istore [some (.ref 1079), some (zi p0), some (zi p1), some (zi p2), some (zi v36), some (zi x5), some (zi x6)] zd_14_118_141 (by decide) rfl ?_
                  refine zz_iinc [some (.ref 1079), some (zi p0), some (zi p1), some (zi p2), some (zi v36), some (zi x5), some (zi (x6 + 1))] zd_14_118_143 rfl rfl ?_
                  refine zz_goto zd_14_118_146 ?_
                  refine zz_less (ls1 := [some (.ref 1079), some (zi p0), some (zi p1), some (zi p2), some (zi v36), some (zi x5), some (zi (x6 + 1))]) ⟨rfl, ⟨rfl, ⟨rfl, ⟨rfl, ⟨rfl, ⟨rfl, ⟨rfl, trivial⟩⟩⟩⟩⟩⟩⟩ ?_
                  exact k21 v36 x5 (x6 + 1) S G_S F_S (by omega) (by omega) (by omega) (by omega)
                · refine zz_iconst zd_14_118_132 ?_
                  refine zz_goto zd_14_118_133 ?_
                  refine zz_ishr zd_14_118_137 (fun v37 hv37 ev37 => ?_)
                  refine zz_iconst zd_14_118_138 ?_
                  refine zz_iand (by omega) (by omega) zd_14_118_139 (fun v38 hv38 av38 bv38 ev38 => ?_)
                  refine zz_isub zd_14_118_140 ?_
                  refine zz_nrm (fun v39 hv39 ev39 => ?_)
                  refine zz_istore [some (.ref 1079), some (zi p0), some (zi p1), some (zi p2), some (zi v39), some (zi x5), some (zi x6)] zd_14_118_141 (by decide) rfl ?_
                  refine zz_iinc [some (.ref 1079), some (zi p0), some (zi p1), some (zi p2), some (zi v39), some (zi x5), some (zi (x6 + 1))] zd_14_118_143 rfl rfl ?_
                  refine zz_goto zd_14_118_146 ?_
                  refine zz_less (ls1 := [some (.ref 1079), some (zi p0), some (zi p1), some (zi p2), some (zi v39), some (zi x5), some (zi (x6 + 1))]) ⟨rfl, ⟨rfl, ⟨rfl, ⟨rfl, ⟨rfl, ⟨rfl, ⟨rfl, trivial⟩⟩⟩⟩⟩⟩⟩ ?_
                  exact k21 v39 x5 (x6 + 1) S G_S F_S (by omega) (by omega) (by omega) (by omega)
        · refine zz_iload (x := x4) rfl zd_14_118_63 ?_
          refine zz_aload_n (x := 1079) rfl zd_14_118_65 ?_
          refine zz_getr (kd := 0) (z := 1096) zd_14_118_66 zf_Md_67 zT_1079 rfl (zz_ltn hn rfl) (zz_G.eq G_S 1079 24 1096 rfl rfl) (by decide) 1096 rfl ?_
          refine zz_iload (x := x6) rfl zd_14_118_69 ?_
          have g40 := zz_G.r G_S0 1096 x6.toNat (-2147483648) 2147483647 rfl rfl
          refine zz_iald (z := S0 1096 x6.toNat) zd_14_118_71 zT_1096 rfl (zz_ltn hn rfl) (by decide) (by omega) (zz_rc F_S (zz_nc1 rfl) rfl (fun h => h) rfl) ?_
          refine zz_iload_n (x := p1) rfl zd_14_118_72 ?_
          refine zz_if_eq (by omega) zd_14_118_73 (fun c41 => ?_) (fun c41 => ?_)
          · refine zz_iconst zd_14_118_80 ?_
            refine zz_ishr zd_14_118_81 (fun v42 hv42 ev42 => ?_)
            refine zz_iconst zd_14_118_82 ?_
            refine zz_iand (by omega) (by omega) zd_14_118_83 (fun v43 hv43 av43 bv43 ev43 => ?_)
            refine zz_iadd zd_14_118_84 ?_
            refine zz_nrm (fun v44 hv44 ev44 => ?_)
            refine zz_istore [some (.ref 1079), some (zi p0), some (zi p1), some (zi p2), some (zi v44), some (zi x5), some (zi x6)] zd_14_118_85 (by decide) rfl ?_
            refine zz_aload_n (x := 1079) rfl zd_14_118_87 ?_
            refine zz_getr (kd := 0) (z := 1092) zd_14_118_88 zf_Md_54 zT_1079 rfl (zz_ltn hn rfl) (zz_G.eq G_S 1079 20 1092 rfl rfl) (by decide) 1092 rfl ?_
            refine zz_iload (x := x6) rfl zd_14_118_91 ?_
            refine zz_iald (z := S0 1092 x6.toNat) zd_14_118_93 zT_1092 rfl (zz_ltn hn rfl) (by decide) (by omega) (zz_rc F_S (zz_nc1 rfl) rfl (fun h => h) rfl) ?_
            refine zz_iload_n (x := p0) rfl zd_14_118_94 ?_
            refine zz_icmp_ne (by omega) (by omega) zd_14_118_95 (fun c45 => ?_) (fun c45 => ?_)
            · refine zz_iinc [some (.ref 1079), some (zi p0), some (zi p1), some (zi p2), some (zi v44), some (zi x5), some (zi (x6 + 1))] zd_14_118_143 rfl rfl ?_
              refine zz_goto zd_14_118_146 ?_
              refine zz_less (ls1 := [some (.ref 1079), some (zi p0), some (zi p1), some (zi p2), some (zi v44), some (zi x5), some (zi (x6 + 1))]) ⟨rfl, ⟨rfl, ⟨rfl, ⟨rfl, ⟨rfl, ⟨rfl, ⟨rfl, trivial⟩⟩⟩⟩⟩⟩⟩ ?_
              exact k21 v44 x5 (x6 + 1) S G_S F_S (by omega) (by omega) (by omega) (by omega)
            · refine zz_aload_n (x := 1079) rfl zd_14_118_98 ?_
              refine zz_getr (kd := 0) (z := 1093) zd_14_118_99 zf_Md_57 zT_1079 rfl (zz_ltn hn rfl) (zz_G.eq G_S 1079 21 1093 rfl rfl) (by decide) 1093 rfl ?_
              refine zz_iload (x := x6) rfl zd_14_118_102 ?_
              refine zz_iald (z := S0 1093 x6.toNat) zd_14_118_104 zT_1093 rfl (zz_ltn hn rfl) (by decide) (by omega) (zz_rc F_S (zz_nc1 rfl) rfl (fun h => h) rfl) ?_
              refine zz_if_lt (by omega) zd_14_118_105 (fun c46 => ?_) (fun c46 => ?_)
              · exfalso; omega
              · refine zz_aload_n (x := 1079) rfl zd_14_118_108 ?_
                refine zz_getr (kd := 0) (z := 1093) zd_14_118_109 zf_Md_57 zT_1079 rfl (zz_ltn hn rfl) (zz_G.eq G_S 1079 21 1093 rfl rfl) (by decide) 1093 rfl ?_
                refine zz_iload (x := x6) rfl zd_14_118_112 ?_
                refine zz_iald (z := S0 1093 x6.toNat) zd_14_118_114 zT_1093 rfl (zz_ltn hn rfl) (by decide) (by omega) (zz_rc F_S (zz_nc1 rfl) rfl (fun h => h) rfl) ?_
                refine zz_iload_n (x := p2) rfl zd_14_118_115 ?_
                refine zz_icmp_gt (by omega) (by omega) zd_14_118_116 (fun c47 => ?_) (fun c47 => ?_)
                · refine zz_iinc [some (.ref 1079), some (zi p0), some (zi p1), some (zi p2), some (zi v44), some (zi x5), some (zi (x6 + 1))] zd_14_118_143 rfl rfl ?_
                  refine zz_goto zd_14_118_146 ?_
                  refine zz_less (ls1 := [some (.ref 1079), some (zi p0), some (zi p1), some (zi p2), some (zi v44), some (zi x5), some (zi (x6 + 1))]) ⟨rfl, ⟨rfl, ⟨rfl, ⟨rfl, ⟨rfl, ⟨rfl, ⟨rfl, trivial⟩⟩⟩⟩⟩⟩⟩ ?_
                  exact k21 v44 x5 (x6 + 1) S G_S F_S (by omega) (by omega) (by omega) (by omega)
                · refine zz_iload (x := v44) rfl zd_14_118_119 ?_
                  refine zz_aload_n (x := 1079) rfl zd_14_118_121 ?_
                  refine zz_getr (kd := 0) (z := 1096) zd_14_118_122 zf_Md_67 zT_1079 rfl (zz_ltn hn rfl) (zz_G.eq G_S 1079 24 1096 rfl rfl) (by decide) 1096 rfl ?_
                  refine zz_iload (x := x6) rfl zd_14_118_125 ?_
                  refine zz_iald (z := S0 1096 x6.toNat) zd_14_118_127 zT_1096 rfl (zz_ltn hn rfl) (by decide) (by omega) (zz_rc F_S (zz_nc1 rfl) rfl (fun h => h) rfl) ?_
                  refine zz_iload_n (x := p1) rfl zd_14_118_128 ?_
                  refine zz_if_eq (by omega) zd_14_118_129 (fun c48 => ?_) (fun c48 => ?_)
                  · refine zz_iconst zd_14_118_136 ?_
                    refine zz_ishr zd_14_118_137 (fun v49 hv49 ev49 => ?_)
                    have av49 := zz_shr0 (by omega) ev49
                    refine zz_iconst zd_14_118_138 ?_
                    refine zz_iand (by omega) (by omega) zd_14_118_139 (fun v50 hv50 av50 bv50 ev50 => ?_)
                    refine zz_isub zd_14_118_140 ?_
                    refine zz_nrm (fun v51 hv51 ev51 => ?_)
                    refine zz_istore [some (.ref 1079), some (zi p0), some (zi p1), some (zi p2), some (zi v51), some (zi x5), some (zi x6)] zd_14_118_141 (by decide) rfl ?_
                    refine zz_iinc [some (.ref 1079), some (zi p0), some (zi p1), some (zi p2), some (zi v51), some (zi x5), some (zi (x6 + 1))] zd_14_118_143 rfl rfl ?_
                    refine zz_goto zd_14_118_146 ?_
                    refine zz_less (ls1 := [some (.ref 1079), some (zi p0), some (zi p1), some (zi p2), some (zi v51), some (zi x5), some (zi (x6 + 1))]) ⟨rfl, ⟨rfl, ⟨rfl, ⟨rfl, ⟨rfl, ⟨rfl, ⟨rfl, trivial⟩⟩⟩⟩⟩⟩⟩ ?_
                    exact k21 v51 x5 (x6 + 1) S G_S F_S (by omega) (by omega) (by omega) (by omega)
                  · exfalso; omega
          · refine zz_iconst zd_14_118_76 ?_
            refine zz_goto zd_14_118_77 ?_
            refine zz_ishr zd_14_118_81 (fun v52 hv52 ev52 => ?_)
            refine zz_iconst zd_14_118_82 ?_
            refine zz_iand (by omega) (by omega) zd_14_118_83 (fun v53 hv53 av53 bv53 ev53 => ?_)
            refine zz_iadd zd_14_118_84 ?_
            refine zz_nrm (fun v54 hv54 ev54 => ?_)
            refine zz_istore [some (.ref 1079), some (zi p0), some (zi p1), some (zi p2), some (zi v54), some (zi x5), some (zi x6)] zd_14_118_85 (by decide) rfl ?_
            refine zz_aload_n (x := 1079) rfl zd_14_118_87 ?_
            refine zz_getr (kd := 0) (z := 1092) zd_14_118_88 zf_Md_54 zT_1079 rfl (zz_ltn hn rfl) (zz_G.eq G_S 1079 20 1092 rfl rfl) (by decide) 1092 rfl ?_
            refine zz_iload (x := x6) rfl zd_14_118_91 ?_
            refine zz_iald (z := S0 1092 x6.toNat) zd_14_118_93 zT_1092 rfl (zz_ltn hn rfl) (by decide) (by omega) (zz_rc F_S (zz_nc1 rfl) rfl (fun h => h) rfl) ?_
            refine zz_iload_n (x := p0) rfl zd_14_118_94 ?_
            refine zz_icmp_ne (by omega) (by omega) zd_14_118_95 (fun c55 => ?_) (fun c55 => ?_)
            · refine zz_iinc [some (.ref 1079), some (zi p0), some (zi p1), some (zi p2), some (zi v54), some (zi x5), some (zi (x6 + 1))] zd_14_118_143 rfl rfl ?_
              refine zz_goto zd_14_118_146 ?_
              refine zz_less (ls1 := [some (.ref 1079), some (zi p0), some (zi p1), some (zi p2), some (zi v54), some (zi x5), some (zi (x6 + 1))]) ⟨rfl, ⟨rfl, ⟨rfl, ⟨rfl, ⟨rfl, ⟨rfl, ⟨rfl, trivial⟩⟩⟩⟩⟩⟩⟩ ?_
              exact k21 v54 x5 (x6 + 1) S G_S F_S (by omega) (by omega) (by omega) (by omega)
            · refine zz_aload_n (x := 1079) rfl zd_14_118_98 ?_
              refine zz_getr (kd := 0) (z := 1093) zd_14_118_99 zf_Md_57 zT_1079 rfl (zz_ltn hn rfl) (zz_G.eq G_S 1079 21 1093 rfl rfl) (by decide) 1093 rfl ?_
              refine zz_iload (x := x6) rfl zd_14_118_102 ?_
              refine zz_iald (z := S0 1093 x6.toNat) zd_14_118_104 zT_1093 rfl (zz_ltn hn rfl) (by decide) (by omega) (zz_rc F_S (zz_nc1 rfl) rfl (fun h => h) rfl) ?_
              refine zz_if_lt (by omega) zd_14_118_105 (fun c56 => ?_) (fun c56 => ?_)
              · exfalso; omega
              · refine zz_aload_n (x := 1079) rfl zd_14_118_108 ?_
                refine zz_getr (kd := 0) (z := 1093) zd_14_118_109 zf_Md_57 zT_1079 rfl (zz_ltn hn rfl) (zz_G.eq G_S 1079 21 1093 rfl rfl) (by decide) 1093 rfl ?_
                refine zz_iload (x := x6) rfl zd_14_118_112 ?_
                refine zz_iald (z := S0 1093 x6.toNat) zd_14_118_114 zT_1093 rfl (zz_ltn hn rfl) (by decide) (by omega) (zz_rc F_S (zz_nc1 rfl) rfl (fun h => h) rfl) ?_
                refine zz_iload_n (x := p2) rfl zd_14_118_115 ?_
                refine zz_icmp_gt (by omega) (by omega) zd_14_118_116 (fun c57 => ?_) (fun c57 => ?_)
                · refine zz_iinc [some (.ref 1079), some (zi p0), some (zi p1), some (zi p2), some (zi v54), some (zi x5), some (zi (x6 + 1))] zd_14_118_143 rfl rfl ?_
                  refine zz_goto zd_14_118_146 ?_
                  refine zz_less (ls1 := [some (.ref 1079), some (zi p0), some (zi p1), some (zi p2), some (zi v54), some (zi x5), some (zi (x6 + 1))]) ⟨rfl, ⟨rfl, ⟨rfl, ⟨rfl, ⟨rfl, ⟨rfl, ⟨rfl, trivial⟩⟩⟩⟩⟩⟩⟩ ?_
                  exact k21 v54 x5 (x6 + 1) S G_S F_S (by omega) (by omega) (by omega) (by omega)
                · refine zz_iload (x := v54) rfl zd_14_118_119 ?_
                  refine zz_aload_n (x := 1079) rfl zd_14_118_121 ?_
                  refine zz_getr (kd := 0) (z := 1096) zd_14_118_122 zf_Md_67 zT_1079 rfl (zz_ltn hn rfl) (zz_G.eq G_S 1079 24 1096 rfl rfl) (by decide) 1096 rfl ?_
                  refine zz_iload (x := x6) rfl zd_14_118_125 ?_
                  refine zz_iald (z := S0 1096 x6.toNat) zd_14_118_127 zT_1096 rfl (zz_ltn hn rfl) (by decide) (by omega) (zz_rc F_S (zz_nc1 rfl) rfl (fun h => h) rfl) ?_
                  refine zz_iload_n (x := p1) rfl zd_14_118_128 ?_
                  refine zz_if_eq (by omega) zd_14_118_129 (fun c58 => ?_) (fun c58 => ?_)
                  · exfalso; omega
                  · refine zz_iconst zd_14_118_132 ?_
                    refine zz_goto zd_14_118_133 ?_
                    refine zz_ishr zd_14_118_137 (fun v59 hv59 ev59 => ?_)
                    refine zz_iconst zd_14_118_138 ?_
                    refine zz_iand (by omega) (by omega) zd_14_118_139 (fun v60 hv60 av60 bv60 ev60 => ?_)
                    refine zz_isub zd_14_118_140 ?_
                    refine zz_nrm (fun v61 hv61 ev61 => ?_)
                    refine zz_istore [some (.ref 1079), some (zi p0), some (zi p1), some (zi p2), some (zi v61), some (zi x5), some (zi x6)] zd_14_118_141 (by decide) rfl ?_
                    refine zz_iinc [some (.ref 1079), some (zi p0), some (zi p1), some (zi p2), some (zi v61), some (zi x5), some (zi (x6 + 1))] zd_14_118_143 rfl rfl ?_
                    refine zz_goto zd_14_118_146 ?_
                    refine zz_less (ls1 := [some (.ref 1079), some (zi p0), some (zi p1), some (zi p2), some (zi v61), some (zi x5), some (zi (x6 + 1))]) ⟨rfl, ⟨rfl, ⟨rfl, ⟨rfl, ⟨rfl, ⟨rfl, ⟨rfl, trivial⟩⟩⟩⟩⟩⟩⟩ ?_
                    exact k21 v61 x5 (x6 + 1) S G_S F_S (by omega) (by omega) (by omega) (by omega)
theorem zi_isTokenThere_14_118 {g : mm_G} {l : Launch} (p0 : Int) (p1 : Int) (p2 : Int) (S0 : zz_S) (n : Nat) (hn : zz_end ≤ n) (G_S0 : zz_G S0) (hp0 : (-2147483648) ≤ p0 ∧ p0 ≤ 2147483647) (hp1 : 0 ≤ p1 ∧ p1 ≤ 1) (hp2 : (-2147483648) ≤ p2 ∧ p2 ≤ 2147483647) : ∀ N : Nat, (∀ (x4 : Int) (x5 : Int) (x6 : Int) (S : zz_S), zz_G S → zz_fr [] [] (fun _ _ => False) S0 S → ((-2147483648) ≤ x4 ∧ x4 ≤ 2147483647) → ((-2147483648) ≤ x5 ∧ x5 ≤ 2147483647) → (0 ≤ x6 ∧ x6 ≤ 600) → (S0 1079 19 - x6).toNat < N → zz_E g l zy_isTokenThere_14_118 zr_isTokenThere_14_118 (zz_QI n (zp_isTokenThere_14_118 p0 p1 p2 S0)) S n 21 [some (.ref 1079), some (zi p0), some (zi p1), some (zi p2), some (zi x4), some (zi x5), some (zi x6)] [] 0 0) := by
  intro N
  induction N with
  | zero => exact fun x4 x5 x6 S _ _ _ _ _ h => absurd h (Nat.not_lt_zero _)
  | succ N ih =>
    exact fun x4 x5 x6 S a b j0 j1 j2 hR => zb_isTokenThere_14_118_21 p0 p1 p2 S0 n hn G_S0 hp0 hp1 hp2 x4 x5 x6 S a b j0 j1 j2 _ rfl (fun x4 x5 x6 S a b j0 j1 j2 h => ih x4 x5 x6 S a b j0 j1 j2 (Nat.lt_of_lt_of_le h (Nat.le_of_lt_succ hR)))
theorem zc_isTokenThere_14_118 {g : mm_G} {l : Launch} (p0 : Int) (p1 : Int) (p2 : Int) (S0 : zz_S) (n : Nat) (hn : zz_end ≤ n) (G_S0 : zz_G S0) (hp0 : (-2147483648) ≤ p0 ∧ p0 ≤ 2147483647) (hp1 : 0 ≤ p1 ∧ p1 ≤ 1) (hp2 : (-2147483648) ≤ p2 ∧ p2 ≤ 2147483647) : mm_Met g l zy_isTokenThere_14_118 zr_isTokenThere_14_118 [.ref 1079, zi p0, zi p1, zi p2] (zz_M S0 n) n (zz_QI n (zp_isTokenThere_14_118 p0 p1 p2 S0)) := by
  refine zz_enter (by decide) (Nat.le_of_ble_eq_true rfl) (zz_less (ls1 := [some (.ref 1079), some (zi p0), some (zi p1), some (zi p2)]) ⟨rfl, ⟨rfl, ⟨rfl, ⟨rfl, trivial⟩⟩⟩⟩ ?_)
  have F_S0 : zz_fr [] [] (fun _ _ => False) S0 S0 := zz_fr.refl
  have k21 : ∀ (x4 : Int) (x5 : Int) (x6 : Int) (S : zz_S), zz_G S → zz_fr [] [] (fun _ _ => False) S0 S → ((-2147483648) ≤ x4 ∧ x4 ≤ 2147483647) → ((-2147483648) ≤ x5 ∧ x5 ≤ 2147483647) → (0 ≤ x6 ∧ x6 ≤ 600) → zz_E g l zy_isTokenThere_14_118 zr_isTokenThere_14_118 (zz_QI n (zp_isTokenThere_14_118 p0 p1 p2 S0)) S n 21 [some (.ref 1079), some (zi p0), some (zi p1), some (zi p2), some (zi x4), some (zi x5), some (zi x6)] [] 0 0 := fun x4 x5 x6 S a b j0 j1 j2 => (zi_isTokenThere_14_118 (g := g) (l := l) p0 p1 p2 S0 n hn G_S0 hp0 hp1 hp2 _) x4 x5 x6 S a b j0 j1 j2 (Nat.lt_succ_self _)
  refine zz_iconst zd_14_118_0 ?_
  refine zz_istore [some (.ref 1079), some (zi p0), some (zi p1), some (zi p2), some (zi 0)] zd_14_118_1 (by decide) rfl ?_
  refine zz_iload_n (x := p1) rfl zd_14_118_3 ?_
  refine zz_if_eq (by omega) zd_14_118_4 (fun c1 => ?_) (fun c1 => ?_)
  · refine zz_iload_n (x := p0) rfl zd_14_118_13 ?_
    refine zz_iconst zd_14_118_14 ?_
    refine zz_isub zd_14_118_15 ?_
    refine zz_nrm (fun v2 hv2 ev2 => ?_)
    refine zz_istore [some (.ref 1079), some (zi p0), some (zi p1), some (zi p2), some (zi 0), some (zi v2)] zd_14_118_16 (by decide) rfl ?_
    refine zz_iconst zd_14_118_18 ?_
    refine zz_istore [some (.ref 1079), some (zi p0), some (zi p1), some (zi p2), some (zi 0), some (zi v2), some (zi 0)] zd_14_118_19 (by decide) rfl ?_
    have g3 := zz_G.r G_S0 1079 19 (-1) 600 rfl rfl
    refine zz_less (ls1 := [some (.ref 1079), some (zi p0), some (zi p1), some (zi p2), some (zi 0), some (zi v2), some (zi 0)]) ⟨rfl, ⟨rfl, ⟨rfl, ⟨rfl, ⟨rfl, ⟨rfl, ⟨rfl, trivial⟩⟩⟩⟩⟩⟩⟩ ?_
    exact k21 0 v2 0 S0 G_S0 F_S0 (by omega) (by omega) (by omega)
  · refine zz_iload_n (x := p0) rfl zd_14_118_7 ?_
    refine zz_iconst zd_14_118_8 ?_
    refine zz_iadd zd_14_118_9 ?_
    refine zz_nrm (fun v4 hv4 ev4 => ?_)
    refine zz_goto zd_14_118_10 ?_
    refine zz_istore [some (.ref 1079), some (zi p0), some (zi p1), some (zi p2), some (zi 0), some (zi v4)] zd_14_118_16 (by decide) rfl ?_
    refine zz_iconst zd_14_118_18 ?_
    refine zz_istore [some (.ref 1079), some (zi p0), some (zi p1), some (zi p2), some (zi 0), some (zi v4), some (zi 0)] zd_14_118_19 (by decide) rfl ?_
    have g5 := zz_G.r G_S0 1079 19 (-1) 600 rfl rfl
    refine zz_less (ls1 := [some (.ref 1079), some (zi p0), some (zi p1), some (zi p2), some (zi 0), some (zi v4), some (zi 0)]) ⟨rfl, ⟨rfl, ⟨rfl, ⟨rfl, ⟨rfl, ⟨rfl, ⟨rfl, trivial⟩⟩⟩⟩⟩⟩⟩ ?_
    exact k21 0 v4 0 S0 G_S0 F_S0 (by omega) (by omega) (by omega)
abbrev zy_waits_14_119 : mm_Y := (⟨"TensorForgeModel", "waits", "(II)I"⟩, prog_14_method_119_code, 5, (some .int))
theorem zyw_waits_14_119 : mm_Yw zy_waits_14_119 2 := ⟨mm_tb_1 2308 (by decide +kernel) rfl, mm_tb_1 12 (by decide +kernel) rfl, ⟨by decide, by decide⟩, by decide +kernel⟩
theorem zk_Md_631 : mm_Vl "TensorForgeModel" 631 11 3 zy_isTokenThere_14_118 := ⟨zyw_isTokenThere_14_118, (R_Md, F_Md, 69), rfl, mm_tb_1 2309 (by decide +kernel) rfl, mm_tb_1 2311 (by decide +kernel) rfl, mm_tb_s 161 (by decide +kernel) rfl⟩
theorem zg_14_119_0 : zq_at zy_waits_14_119.2.1 0 42 ∧ zq_at zy_waits_14_119.2.1 1 27 ∧ zq_at zy_waits_14_119.2.1 2 28 ∧ zq_at zy_waits_14_119.2.1 3 182 ∧ zq_at zy_waits_14_119.2.1 4 2 ∧ zq_at zy_waits_14_119.2.1 5 113 ∧ zq_at zy_waits_14_119.2.1 6 153 ∧ zq_at zy_waits_14_119.2.1 7 0 ∧ zq_at zy_waits_14_119.2.1 8 12 ∧ zq_at zy_waits_14_119.2.1 18 3 ∧ zq_at zy_waits_14_119.2.1 19 172 ∧ zq_at zy_waits_14_119.2.1 9 42 ∧ zq_at zy_waits_14_119.2.1 10 27 ∧ zq_at zy_waits_14_119.2.1 11 28 ∧ zq_at zy_waits_14_119.2.1 12 182 ∧ zq_at zy_waits_14_119.2.1 13 2 ∧ zq_at zy_waits_14_119.2.1 14 116 ∧ zq_at zy_waits_14_119.2.1 15 155 ∧ zq_at zy_waits_14_119.2.1 16 0 ∧ zq_at zy_waits_14_119.2.1 17 5 ∧ zq_at zy_waits_14_119.2.1 20 2 ∧ zq_at zy_waits_14_119.2.1 21 62 ∧ zq_at zy_waits_14_119.2.1 22 42 := by decide +kernel
theorem zd_14_119_0 : zz_D zy_waits_14_119 0 (.aload_n 0) 1 1 := ⟨zq_42 zg_14_119_0.1, rfl⟩
theorem zd_14_119_1 : zz_D zy_waits_14_119 1 (.iload_n 1) 1 2 := ⟨zq_27 zg_14_119_0.2.1, rfl⟩
theorem zd_14_119_2 : zz_D zy_waits_14_119 2 (.iload_n 2) 1 3 := ⟨zq_28 zg_14_119_0.2.2.1, rfl⟩
theorem zd_14_119_3 : zz_D zy_waits_14_119 3 (.invokevirtual 625) 3 6 := ⟨zq_182 zg_14_119_0.2.2.2.1 zg_14_119_0.2.2.2.2.1 zg_14_119_0.2.2.2.2.2.1 rfl, rfl⟩
theorem zd_14_119_6 : zz_B zy_waits_14_119 6 (Instr.ifCond .eq) 18 9 := ⟨12, zq_153 zg_14_119_0.2.2.2.2.2.2.1 zg_14_119_0.2.2.2.2.2.2.2.1 zg_14_119_0.2.2.2.2.2.2.2.2.1 (by decide), rfl, rfl⟩
theorem zd_14_119_18 : zz_D zy_waits_14_119 18 (.iconst 0) 1 19 := ⟨zq_3 zg_14_119_0.2.2.2.2.2.2.2.2.2.1, rfl⟩
theorem zd_14_119_19 : zz_D zy_waits_14_119 19 (.ireturn) 1 20 := ⟨zq_172 zg_14_119_0.2.2.2.2.2.2.2.2.2.2.1, rfl⟩
theorem zd_14_119_9 : zz_D zy_waits_14_119 9 (.aload_n 0) 1 10 := ⟨zq_42 zg_14_119_0.2.2.2.2.2.2.2.2.2.2.2.1, rfl⟩
theorem zd_14_119_10 : zz_D zy_waits_14_119 10 (.iload_n 1) 1 11 := ⟨zq_27 zg_14_119_0.2.2.2.2.2.2.2.2.2.2.2.2.1, rfl⟩
theorem zd_14_119_11 : zz_D zy_waits_14_119 11 (.iload_n 2) 1 12 := ⟨zq_28 zg_14_119_0.2.2.2.2.2.2.2.2.2.2.2.2.2.1, rfl⟩
theorem zd_14_119_12 : zz_D zy_waits_14_119 12 (.invokevirtual 628) 3 15 := ⟨zq_182 zg_14_119_0.2.2.2.2.2.2.2.2.2.2.2.2.2.2.1 zg_14_119_0.2.2.2.2.2.2.2.2.2.2.2.2.2.2.2.1 zg_14_119_0.2.2.2.2.2.2.2.2.2.2.2.2.2.2.2.2.1 rfl, rfl⟩
theorem zd_14_119_15 : zz_B zy_waits_14_119 15 (Instr.ifCond .lt) 20 18 := ⟨5, zq_155 zg_14_119_0.2.2.2.2.2.2.2.2.2.2.2.2.2.2.2.2.2.1 zg_14_119_0.2.2.2.2.2.2.2.2.2.2.2.2.2.2.2.2.2.2.1 zg_14_119_0.2.2.2.2.2.2.2.2.2.2.2.2.2.2.2.2.2.2.2.1 (by decide), rfl, rfl⟩
theorem zd_14_119_20 : zz_D zy_waits_14_119 20 (.iconst (-1)) 1 21 := ⟨zq_2 zg_14_119_0.2.2.2.2.2.2.2.2.2.2.2.2.2.2.2.2.2.2.2.2.1, rfl⟩
theorem zd_14_119_21 : zz_D zy_waits_14_119 21 (.istore_n 3) 1 22 := ⟨zq_62 zg_14_119_0.2.2.2.2.2.2.2.2.2.2.2.2.2.2.2.2.2.2.2.2.2.1, rfl⟩
theorem zd_14_119_22 : zz_D zy_waits_14_119 22 (.aload_n 0) 1 23 := ⟨zq_42 zg_14_119_0.2.2.2.2.2.2.2.2.2.2.2.2.2.2.2.2.2.2.2.2.2.2, rfl⟩
theorem zg_14_119_23 : zq_at zy_waits_14_119.2.1 23 180 ∧ zq_at zy_waits_14_119.2.1 24 1 ∧ zq_at zy_waits_14_119.2.1 25 16 ∧ zq_at zy_waits_14_119.2.1 26 4 ∧ zq_at zy_waits_14_119.2.1 27 100 ∧ zq_at zy_waits_14_119.2.1 28 54 ∧ zq_at zy_waits_14_119.2.1 29 4 ∧ zq_at zy_waits_14_119.2.1 30 21 ∧ zq_at zy_waits_14_119.2.1 31 4 ∧ zq_at zy_waits_14_119.2.1 32 155 ∧ zq_at zy_waits_14_119.2.1 33 0 ∧ zq_at zy_waits_14_119.2.1 34 48 ∧ zq_at zy_waits_14_119.2.1 80 29 ∧ zq_at zy_waits_14_119.2.1 81 156 ∧ zq_at zy_waits_14_119.2.1 82 0 ∧ zq_at zy_waits_14_119.2.1 83 5 ∧ zq_at zy_waits_14_119.2.1 84 3 ∧ zq_at zy_waits_14_119.2.1 85 172 ∧ zq_at zy_waits_14_119.2.1 35 42 ∧ zq_at zy_waits_14_119.2.1 36 180 ∧ zq_at zy_waits_14_119.2.1 37 0 ∧ zq_at zy_waits_14_119.2.1 38 54 ∧ zq_at zy_waits_14_119.2.1 39 21 ∧ zq_at zy_waits_14_119.2.1 40 4 := by decide +kernel
theorem zd_14_119_23 : zz_D zy_waits_14_119 23 (.getfield 272) 3 26 := ⟨zq_180 zg_14_119_23.1 zg_14_119_23.2.1 zg_14_119_23.2.2.1 rfl, rfl⟩
theorem zd_14_119_26 : zz_D zy_waits_14_119 26 (.iconst 1) 1 27 := ⟨zq_4 zg_14_119_23.2.2.2.1, rfl⟩
theorem zd_14_119_27 : zz_D zy_waits_14_119 27 (.isub) 1 28 := ⟨zq_100 zg_14_119_23.2.2.2.2.1, rfl⟩
theorem zd_14_119_28 : zz_D zy_waits_14_119 28 (.istore 4) 2 30 := ⟨zq_54 zg_14_119_23.2.2.2.2.2.1 zg_14_119_23.2.2.2.2.2.2.1, rfl⟩
theorem zd_14_119_30 : zz_D zy_waits_14_119 30 (.iload 4) 2 32 := ⟨zq_21 zg_14_119_23.2.2.2.2.2.2.2.1 zg_14_119_23.2.2.2.2.2.2.2.2.1, rfl⟩
theorem zd_14_119_32 : zz_B zy_waits_14_119 32 (Instr.ifCond .lt) 80 35 := ⟨48, zq_155 zg_14_119_23.2.2.2.2.2.2.2.2.2.1 zg_14_119_23.2.2.2.2.2.2.2.2.2.2.1 zg_14_119_23.2.2.2.2.2.2.2.2.2.2.2.1 (by decide), rfl, rfl⟩
theorem zd_14_119_80 : zz_D zy_waits_14_119 80 (.iload_n 3) 1 81 := ⟨zq_29 zg_14_119_23.2.2.2.2.2.2.2.2.2.2.2.2.1, rfl⟩
theorem zd_14_119_81 : zz_B zy_waits_14_119 81 (Instr.ifCond .ge) 86 84 := ⟨5, zq_156 zg_14_119_23.2.2.2.2.2.2.2.2.2.2.2.2.2.1 zg_14_119_23.2.2.2.2.2.2.2.2.2.2.2.2.2.2.1 zg_14_119_23.2.2.2.2.2.2.2.2.2.2.2.2.2.2.2.1 (by decide), rfl, rfl⟩
theorem zd_14_119_84 : zz_D zy_waits_14_119 84 (.iconst 0) 1 85 := ⟨zq_3 zg_14_119_23.2.2.2.2.2.2.2.2.2.2.2.2.2.2.2.2.1, rfl⟩
theorem zd_14_119_85 : zz_D zy_waits_14_119 85 (.ireturn) 1 86 := ⟨zq_172 zg_14_119_23.2.2.2.2.2.2.2.2.2.2.2.2.2.2.2.2.2.1, rfl⟩
theorem zd_14_119_35 : zz_D zy_waits_14_119 35 (.aload_n 0) 1 36 := ⟨zq_42 zg_14_119_23.2.2.2.2.2.2.2.2.2.2.2.2.2.2.2.2.2.2.1, rfl⟩
theorem zd_14_119_36 : zz_D zy_waits_14_119 36 (.getfield 54) 3 39 := ⟨zq_180 zg_14_119_23.2.2.2.2.2.2.2.2.2.2.2.2.2.2.2.2.2.2.2.1 zg_14_119_23.2.2.2.2.2.2.2.2.2.2.2.2.2.2.2.2.2.2.2.2.1 zg_14_119_23.2.2.2.2.2.2.2.2.2.2.2.2.2.2.2.2.2.2.2.2.2.1 rfl, rfl⟩
theorem zd_14_119_39 : zz_D zy_waits_14_119 39 (.iload 4) 2 41 := ⟨zq_21 zg_14_119_23.2.2.2.2.2.2.2.2.2.2.2.2.2.2.2.2.2.2.2.2.2.2.1 zg_14_119_23.2.2.2.2.2.2.2.2.2.2.2.2.2.2.2.2.2.2.2.2.2.2.2, rfl⟩
theorem zg_14_119_41 : zq_at zy_waits_14_119.2.1 41 46 ∧ zq_at zy_waits_14_119.2.1 42 27 ∧ zq_at zy_waits_14_119.2.1 43 160 ∧ zq_at zy_waits_14_119.2.1 44 0 ∧ zq_at zy_waits_14_119.2.1 45 29 ∧ zq_at zy_waits_14_119.2.1 72 29 ∧ zq_at zy_waits_14_119.2.1 73 62 ∧ zq_at zy_waits_14_119.2.1 74 132 ∧ zq_at zy_waits_14_119.2.1 75 4 ∧ zq_at zy_waits_14_119.2.1 76 255 ∧ zq_at zy_waits_14_119.2.1 77 167 ∧ zq_at zy_waits_14_119.2.1 78 255 ∧ zq_at zy_waits_14_119.2.1 79 209 ∧ zq_at zy_waits_14_119.2.1 46 42 ∧ zq_at zy_waits_14_119.2.1 47 180 ∧ zq_at zy_waits_14_119.2.1 48 0 ∧ zq_at zy_waits_14_119.2.1 49 57 ∧ zq_at zy_waits_14_119.2.1 50 21 ∧ zq_at zy_waits_14_119.2.1 51 4 ∧ zq_at zy_waits_14_119.2.1 52 46 ∧ zq_at zy_waits_14_119.2.1 53 155 ∧ zq_at zy_waits_14_119.2.1 54 0 ∧ zq_at zy_waits_14_119.2.1 55 14 := by decide +kernel
theorem zd_14_119_41 : zz_D zy_waits_14_119 41 (.iaload) 1 42 := ⟨zq_46 zg_14_119_41.1, rfl⟩
theorem zd_14_119_42 : zz_D zy_waits_14_119 42 (.iload_n 1) 1 43 := ⟨zq_27 zg_14_119_41.2.1, rfl⟩
theorem zd_14_119_43 : zz_B zy_waits_14_119 43 (Instr.if_icmp .ne) 72 46 := ⟨29, zq_160 zg_14_119_41.2.2.1 zg_14_119_41.2.2.2.1 zg_14_119_41.2.2.2.2.1 (by decide), rfl, rfl⟩
theorem zd_14_119_72 : zz_D zy_waits_14_119 72 (.iload_n 3) 1 73 := ⟨zq_29 zg_14_119_41.2.2.2.2.2.1, rfl⟩
theorem zd_14_119_73 : zz_D zy_waits_14_119 73 (.istore_n 3) 1 74 := ⟨zq_62 zg_14_119_41.2.2.2.2.2.2.1, rfl⟩
theorem zd_14_119_74 : zz_D zy_waits_14_119 74 (.iinc 4 (-1)) 3 77 := ⟨zq_132 zg_14_119_41.2.2.2.2.2.2.2.1 zg_14_119_41.2.2.2.2.2.2.2.2.1 zg_14_119_41.2.2.2.2.2.2.2.2.2.1 (by decide), rfl⟩
theorem zd_14_119_77 : zz_B zy_waits_14_119 77 Instr.goto 30 80 := ⟨(-47), zq_167 zg_14_119_41.2.2.2.2.2.2.2.2.2.2.1 zg_14_119_41.2.2.2.2.2.2.2.2.2.2.2.1 zg_14_119_41.2.2.2.2.2.2.2.2.2.2.2.2.1 (by decide), rfl, rfl⟩
theorem zd_14_119_46 : zz_D zy_waits_14_119 46 (.aload_n 0) 1 47 := ⟨zq_42 zg_14_119_41.2.2.2.2.2.2.2.2.2.2.2.2.2.1, rfl⟩
theorem zd_14_119_47 : zz_D zy_waits_14_119 47 (.getfield 57) 3 50 := ⟨zq_180 zg_14_119_41.2.2.2.2.2.2.2.2.2.2.2.2.2.2.1 zg_14_119_41.2.2.2.2.2.2.2.2.2.2.2.2.2.2.2.1 zg_14_119_41.2.2.2.2.2.2.2.2.2.2.2.2.2.2.2.2.1 rfl, rfl⟩
theorem zd_14_119_50 : zz_D zy_waits_14_119 50 (.iload 4) 2 52 := ⟨zq_21 zg_14_119_41.2.2.2.2.2.2.2.2.2.2.2.2.2.2.2.2.2.1 zg_14_119_41.2.2.2.2.2.2.2.2.2.2.2.2.2.2.2.2.2.2.1, rfl⟩
theorem zd_14_119_52 : zz_D zy_waits_14_119 52 (.iaload) 1 53 := ⟨zq_46 zg_14_119_41.2.2.2.2.2.2.2.2.2.2.2.2.2.2.2.2.2.2.2.1, rfl⟩
theorem zd_14_119_53 : zz_B zy_waits_14_119 53 (Instr.ifCond .lt) 67 56 := ⟨14, zq_155 zg_14_119_41.2.2.2.2.2.2.2.2.2.2.2.2.2.2.2.2.2.2.2.2.1 zg_14_119_41.2.2.2.2.2.2.2.2.2.2.2.2.2.2.2.2.2.2.2.2.2.1 zg_14_119_41.2.2.2.2.2.2.2.2.2.2.2.2.2.2.2.2.2.2.2.2.2.2 (by decide), rfl, rfl⟩
theorem zg_14_119_67 : zq_at zy_waits_14_119.2.1 67 21 ∧ zq_at zy_waits_14_119.2.1 68 4 ∧ zq_at zy_waits_14_119.2.1 69 167 ∧ zq_at zy_waits_14_119.2.1 70 0 ∧ zq_at zy_waits_14_119.2.1 71 4 ∧ zq_at zy_waits_14_119.2.1 56 42 ∧ zq_at zy_waits_14_119.2.1 57 180 ∧ zq_at zy_waits_14_119.2.1 58 0 ∧ zq_at zy_waits_14_119.2.1 59 57 ∧ zq_at zy_waits_14_119.2.1 60 21 ∧ zq_at zy_waits_14_119.2.1 61 4 ∧ zq_at zy_waits_14_119.2.1 62 46 ∧ zq_at zy_waits_14_119.2.1 63 28 ∧ zq_at zy_waits_14_119.2.1 64 164 ∧ zq_at zy_waits_14_119.2.1 65 0 ∧ zq_at zy_waits_14_119.2.1 66 8 ∧ zq_at zy_waits_14_119.2.1 86 42 ∧ zq_at zy_waits_14_119.2.1 87 180 ∧ zq_at zy_waits_14_119.2.1 88 0 ∧ zq_at zy_waits_14_119.2.1 89 67 ∧ zq_at zy_waits_14_119.2.1 90 29 ∧ zq_at zy_waits_14_119.2.1 91 46 ∧ zq_at zy_waits_14_119.2.1 92 4 ∧ zq_at zy_waits_14_119.2.1 93 126 := by decide +kernel
theorem zd_14_119_67 : zz_D zy_waits_14_119 67 (.iload 4) 2 69 := ⟨zq_21 zg_14_119_67.1 zg_14_119_67.2.1, rfl⟩
theorem zd_14_119_69 : zz_B zy_waits_14_119 69 Instr.goto 73 72 := ⟨4, zq_167 zg_14_119_67.2.2.1 zg_14_119_67.2.2.2.1 zg_14_119_67.2.2.2.2.1 (by decide), rfl, rfl⟩
theorem zd_14_119_56 : zz_D zy_waits_14_119 56 (.aload_n 0) 1 57 := ⟨zq_42 zg_14_119_67.2.2.2.2.2.1, rfl⟩
theorem zd_14_119_57 : zz_D zy_waits_14_119 57 (.getfield 57) 3 60 := ⟨zq_180 zg_14_119_67.2.2.2.2.2.2.1 zg_14_119_67.2.2.2.2.2.2.2.1 zg_14_119_67.2.2.2.2.2.2.2.2.1 rfl, rfl⟩
theorem zd_14_119_60 : zz_D zy_waits_14_119 60 (.iload 4) 2 62 := ⟨zq_21 zg_14_119_67.2.2.2.2.2.2.2.2.2.1 zg_14_119_67.2.2.2.2.2.2.2.2.2.2.1, rfl⟩
theorem zd_14_119_62 : zz_D zy_waits_14_119 62 (.iaload) 1 63 := ⟨zq_46 zg_14_119_67.2.2.2.2.2.2.2.2.2.2.2.1, rfl⟩
theorem zd_14_119_63 : zz_D zy_waits_14_119 63 (.iload_n 2) 1 64 := ⟨zq_28 zg_14_119_67.2.2.2.2.2.2.2.2.2.2.2.2.1, rfl⟩
theorem zd_14_119_64 : zz_B zy_waits_14_119 64 (Instr.if_icmp .le) 72 67 := ⟨8, zq_164 zg_14_119_67.2.2.2.2.2.2.2.2.2.2.2.2.2.1 zg_14_119_67.2.2.2.2.2.2.2.2.2.2.2.2.2.2.1 zg_14_119_67.2.2.2.2.2.2.2.2.2.2.2.2.2.2.2.1 (by decide), rfl, rfl⟩
theorem zd_14_119_86 : zz_D zy_waits_14_119 86 (.aload_n 0) 1 87 := ⟨zq_42 zg_14_119_67.2.2.2.2.2.2.2.2.2.2.2.2.2.2.2.2.1, rfl⟩
theorem zd_14_119_87 : zz_D zy_waits_14_119 87 (.getfield 67) 3 90 := ⟨zq_180 zg_14_119_67.2.2.2.2.2.2.2.2.2.2.2.2.2.2.2.2.2.1 zg_14_119_67.2.2.2.2.2.2.2.2.2.2.2.2.2.2.2.2.2.2.1 zg_14_119_67.2.2.2.2.2.2.2.2.2.2.2.2.2.2.2.2.2.2.2.1 rfl, rfl⟩
theorem zd_14_119_90 : zz_D zy_waits_14_119 90 (.iload_n 3) 1 91 := ⟨zq_29 zg_14_119_67.2.2.2.2.2.2.2.2.2.2.2.2.2.2.2.2.2.2.2.2.1, rfl⟩
theorem zd_14_119_91 : zz_D zy_waits_14_119 91 (.iaload) 1 92 := ⟨zq_46 zg_14_119_67.2.2.2.2.2.2.2.2.2.2.2.2.2.2.2.2.2.2.2.2.2.1, rfl⟩
theorem zd_14_119_92 : zz_D zy_waits_14_119 92 (.iconst 1) 1 93 := ⟨zq_4 zg_14_119_67.2.2.2.2.2.2.2.2.2.2.2.2.2.2.2.2.2.2.2.2.2.2.1, rfl⟩
theorem zd_14_119_93 : zz_D zy_waits_14_119 93 (.iand) 1 94 := ⟨zq_126 zg_14_119_67.2.2.2.2.2.2.2.2.2.2.2.2.2.2.2.2.2.2.2.2.2.2.2, rfl⟩
theorem zg_14_119_94 : zq_at zy_waits_14_119.2.1 94 4 ∧ zq_at zy_waits_14_119.2.1 95 160 ∧ zq_at zy_waits_14_119.2.1 96 0 ∧ zq_at zy_waits_14_119.2.1 97 17 ∧ zq_at zy_waits_14_119.2.1 112 3 ∧ zq_at zy_waits_14_119.2.1 113 54 ∧ zq_at zy_waits_14_119.2.1 114 4 ∧ zq_at zy_waits_14_119.2.1 115 42 ∧ zq_at zy_waits_14_119.2.1 116 180 ∧ zq_at zy_waits_14_119.2.1 117 0 ∧ zq_at zy_waits_14_119.2.1 118 67 ∧ zq_at zy_waits_14_119.2.1 119 29 ∧ zq_at zy_waits_14_119.2.1 120 46 ∧ zq_at zy_waits_14_119.2.1 121 4 ∧ zq_at zy_waits_14_119.2.1 122 122 ∧ zq_at zy_waits_14_119.2.1 123 4 ∧ zq_at zy_waits_14_119.2.1 124 126 ∧ zq_at zy_waits_14_119.2.1 125 4 ∧ zq_at zy_waits_14_119.2.1 126 160 ∧ zq_at zy_waits_14_119.2.1 127 0 ∧ zq_at zy_waits_14_119.2.1 128 20 ∧ zq_at zy_waits_14_119.2.1 146 21 ∧ zq_at zy_waits_14_119.2.1 147 4 ∧ zq_at zy_waits_14_119.2.1 148 172 := by decide +kernel
theorem zd_14_119_94 : zz_D zy_waits_14_119 94 (.iconst 1) 1 95 := ⟨zq_4 zg_14_119_94.1, rfl⟩
theorem zd_14_119_95 : zz_B zy_waits_14_119 95 (Instr.if_icmp .ne) 112 98 := ⟨17, zq_160 zg_14_119_94.2.1 zg_14_119_94.2.2.1 zg_14_119_94.2.2.2.1 (by decide), rfl, rfl⟩
theorem zd_14_119_112 : zz_D zy_waits_14_119 112 (.iconst 0) 1 113 := ⟨zq_3 zg_14_119_94.2.2.2.2.1, rfl⟩
theorem zd_14_119_113 : zz_D zy_waits_14_119 113 (.istore 4) 2 115 := ⟨zq_54 zg_14_119_94.2.2.2.2.2.1 zg_14_119_94.2.2.2.2.2.2.1, rfl⟩
theorem zd_14_119_115 : zz_D zy_waits_14_119 115 (.aload_n 0) 1 116 := ⟨zq_42 zg_14_119_94.2.2.2.2.2.2.2.1, rfl⟩
theorem zd_14_119_116 : zz_D zy_waits_14_119 116 (.getfield 67) 3 119 := ⟨zq_180 zg_14_119_94.2.2.2.2.2.2.2.2.1 zg_14_119_94.2.2.2.2.2.2.2.2.2.1 zg_14_119_94.2.2.2.2.2.2.2.2.2.2.1 rfl, rfl⟩
theorem zd_14_119_119 : zz_D zy_waits_14_119 119 (.iload_n 3) 1 120 := ⟨zq_29 zg_14_119_94.2.2.2.2.2.2.2.2.2.2.2.1, rfl⟩
theorem zd_14_119_120 : zz_D zy_waits_14_119 120 (.iaload) 1 121 := ⟨zq_46 zg_14_119_94.2.2.2.2.2.2.2.2.2.2.2.2.1, rfl⟩
theorem zd_14_119_121 : zz_D zy_waits_14_119 121 (.iconst 1) 1 122 := ⟨zq_4 zg_14_119_94.2.2.2.2.2.2.2.2.2.2.2.2.2.1, rfl⟩
theorem zd_14_119_122 : zz_D zy_waits_14_119 122 (.ishr) 1 123 := ⟨zq_122 zg_14_119_94.2.2.2.2.2.2.2.2.2.2.2.2.2.2.1, rfl⟩
theorem zd_14_119_123 : zz_D zy_waits_14_119 123 (.iconst 1) 1 124 := ⟨zq_4 zg_14_119_94.2.2.2.2.2.2.2.2.2.2.2.2.2.2.2.1, rfl⟩
theorem zd_14_119_124 : zz_D zy_waits_14_119 124 (.iand) 1 125 := ⟨zq_126 zg_14_119_94.2.2.2.2.2.2.2.2.2.2.2.2.2.2.2.2.1, rfl⟩
theorem zd_14_119_125 : zz_D zy_waits_14_119 125 (.iconst 1) 1 126 := ⟨zq_4 zg_14_119_94.2.2.2.2.2.2.2.2.2.2.2.2.2.2.2.2.2.1, rfl⟩
theorem zd_14_119_126 : zz_B zy_waits_14_119 126 (Instr.if_icmp .ne) 146 129 := ⟨20, zq_160 zg_14_119_94.2.2.2.2.2.2.2.2.2.2.2.2.2.2.2.2.2.2.1 zg_14_119_94.2.2.2.2.2.2.2.2.2.2.2.2.2.2.2.2.2.2.2.1 zg_14_119_94.2.2.2.2.2.2.2.2.2.2.2.2.2.2.2.2.2.2.2.2.1 (by decide), rfl, rfl⟩
theorem zd_14_119_146 : zz_D zy_waits_14_119 146 (.iload 4) 2 148 := ⟨zq_21 zg_14_119_94.2.2.2.2.2.2.2.2.2.2.2.2.2.2.2.2.2.2.2.2.2.1 zg_14_119_94.2.2.2.2.2.2.2.2.2.2.2.2.2.2.2.2.2.2.2.2.2.2.1, rfl⟩
theorem zd_14_119_148 : zz_D zy_waits_14_119 148 (.ireturn) 1 149 := ⟨zq_172 zg_14_119_94.2.2.2.2.2.2.2.2.2.2.2.2.2.2.2.2.2.2.2.2.2.2.2, rfl⟩
theorem zg_14_119_129 : zq_at zy_waits_14_119.2.1 129 42 ∧ zq_at zy_waits_14_119.2.1 130 27 ∧ zq_at zy_waits_14_119.2.1 131 4 ∧ zq_at zy_waits_14_119.2.1 132 28 ∧ zq_at zy_waits_14_119.2.1 133 182 ∧ zq_at zy_waits_14_119.2.1 134 2 ∧ zq_at zy_waits_14_119.2.1 135 119 ∧ zq_at zy_waits_14_119.2.1 136 154 ∧ zq_at zy_waits_14_119.2.1 137 0 ∧ zq_at zy_waits_14_119.2.1 138 10 ∧ zq_at zy_waits_14_119.2.1 139 21 ∧ zq_at zy_waits_14_119.2.1 140 4 ∧ zq_at zy_waits_14_119.2.1 141 5 ∧ zq_at zy_waits_14_119.2.1 142 96 ∧ zq_at zy_waits_14_119.2.1 143 167 ∧ zq_at zy_waits_14_119.2.1 144 0 ∧ zq_at zy_waits_14_119.2.1 145 5 ∧ zq_at zy_waits_14_119.2.1 98 42 ∧ zq_at zy_waits_14_119.2.1 99 27 ∧ zq_at zy_waits_14_119.2.1 100 3 ∧ zq_at zy_waits_14_119.2.1 101 28 ∧ zq_at zy_waits_14_119.2.1 102 182 ∧ zq_at zy_waits_14_119.2.1 103 2 ∧ zq_at zy_waits_14_119.2.1 104 119 := by decide +kernel
theorem zd_14_119_129 : zz_D zy_waits_14_119 129 (.aload_n 0) 1 130 := ⟨zq_42 zg_14_119_129.1, rfl⟩
theorem zd_14_119_130 : zz_D zy_waits_14_119 130 (.iload_n 1) 1 131 := ⟨zq_27 zg_14_119_129.2.1, rfl⟩
theorem zd_14_119_131 : zz_D zy_waits_14_119 131 (.iconst 1) 1 132 := ⟨zq_4 zg_14_119_129.2.2.1, rfl⟩
theorem zd_14_119_132 : zz_D zy_waits_14_119 132 (.iload_n 2) 1 133 := ⟨zq_28 zg_14_119_129.2.2.2.1, rfl⟩
theorem zd_14_119_133 : zz_D zy_waits_14_119 133 (.invokevirtual 631) 3 136 := ⟨zq_182 zg_14_119_129.2.2.2.2.1 zg_14_119_129.2.2.2.2.2.1 zg_14_119_129.2.2.2.2.2.2.1 rfl, rfl⟩
theorem zd_14_119_136 : zz_B zy_waits_14_119 136 (Instr.ifCond .ne) 146 139 := ⟨10, zq_154 zg_14_119_129.2.2.2.2.2.2.2.1 zg_14_119_129.2.2.2.2.2.2.2.2.1 zg_14_119_129.2.2.2.2.2.2.2.2.2.1 (by decide), rfl, rfl⟩
theorem zd_14_119_139 : zz_D zy_waits_14_119 139 (.iload 4) 2 141 := ⟨zq_21 zg_14_119_129.2.2.2.2.2.2.2.2.2.2.1 zg_14_119_129.2.2.2.2.2.2.2.2.2.2.2.1, rfl⟩
theorem zd_14_119_141 : zz_D zy_waits_14_119 141 (.iconst 2) 1 142 := ⟨zq_5 zg_14_119_129.2.2.2.2.2.2.2.2.2.2.2.2.1, rfl⟩
theorem zd_14_119_142 : zz_D zy_waits_14_119 142 (.iadd) 1 143 := ⟨zq_96 zg_14_119_129.2.2.2.2.2.2.2.2.2.2.2.2.2.1, rfl⟩
theorem zd_14_119_143 : zz_B zy_waits_14_119 143 Instr.goto 148 146 := ⟨5, zq_167 zg_14_119_129.2.2.2.2.2.2.2.2.2.2.2.2.2.2.1 zg_14_119_129.2.2.2.2.2.2.2.2.2.2.2.2.2.2.2.1 zg_14_119_129.2.2.2.2.2.2.2.2.2.2.2.2.2.2.2.2.1 (by decide), rfl, rfl⟩
theorem zd_14_119_98 : zz_D zy_waits_14_119 98 (.aload_n 0) 1 99 := ⟨zq_42 zg_14_119_129.2.2.2.2.2.2.2.2.2.2.2.2.2.2.2.2.2.1, rfl⟩
theorem zd_14_119_99 : zz_D zy_waits_14_119 99 (.iload_n 1) 1 100 := ⟨zq_27 zg_14_119_129.2.2.2.2.2.2.2.2.2.2.2.2.2.2.2.2.2.2.1, rfl⟩
theorem zd_14_119_100 : zz_D zy_waits_14_119 100 (.iconst 0) 1 101 := ⟨zq_3 zg_14_119_129.2.2.2.2.2.2.2.2.2.2.2.2.2.2.2.2.2.2.2.1, rfl⟩
theorem zd_14_119_101 : zz_D zy_waits_14_119 101 (.iload_n 2) 1 102 := ⟨zq_28 zg_14_119_129.2.2.2.2.2.2.2.2.2.2.2.2.2.2.2.2.2.2.2.2.1, rfl⟩
theorem zd_14_119_102 : zz_D zy_waits_14_119 102 (.invokevirtual 631) 3 105 := ⟨zq_182 zg_14_119_129.2.2.2.2.2.2.2.2.2.2.2.2.2.2.2.2.2.2.2.2.2.1 zg_14_119_129.2.2.2.2.2.2.2.2.2.2.2.2.2.2.2.2.2.2.2.2.2.2.1 zg_14_119_129.2.2.2.2.2.2.2.2.2.2.2.2.2.2.2.2.2.2.2.2.2.2.2 rfl, rfl⟩
theorem zg_14_119_105 : zq_at zy_waits_14_119.2.1 105 154 ∧ zq_at zy_waits_14_119.2.1 106 0 ∧ zq_at zy_waits_14_119.2.1 107 7 ∧ zq_at zy_waits_14_119.2.1 108 4 ∧ zq_at zy_waits_14_119.2.1 109 167 ∧ zq_at zy_waits_14_119.2.1 110 0 ∧ zq_at zy_waits_14_119.2.1 111 4 := by decide +kernel
theorem zd_14_119_105 : zz_B zy_waits_14_119 105 (Instr.ifCond .ne) 112 108 := ⟨7, zq_154 zg_14_119_105.1 zg_14_119_105.2.1 zg_14_119_105.2.2.1 (by decide), rfl, rfl⟩
theorem zd_14_119_108 : zz_D zy_waits_14_119 108 (.iconst 1) 1 109 := ⟨zq_4 zg_14_119_105.2.2.2.1, rfl⟩
theorem zd_14_119_109 : zz_B zy_waits_14_119 109 Instr.goto 113 112 := ⟨4, zq_167 zg_14_119_105.2.2.2.2.1 zg_14_119_105.2.2.2.2.2.1 zg_14_119_105.2.2.2.2.2.2 (by decide), rfl, rfl⟩

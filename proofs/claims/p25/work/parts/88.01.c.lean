-- TensorForge$Run soonestEnd ()I
abbrev zr_soonestEnd_10_11 : Room := { frames := 0, cells := 0, slots := 0, locals := 0 }
def zp_soonestEnd_10_11  (S0 : zz_S) : Int → zz_S → Prop := fun r S => S0 = S ∧ ((-2147483648) ≤ r ∧ r ≤ 2147483647)
theorem zb_soonestEnd_10_11_4 {g : mm_G} {l : Launch}  (S0 : zz_S) (n : Nat) (hn : zz_end ≤ n) (G_S0 : zz_G S0)  (x1 : Int) (x2 : Int) (S : zz_S) (G_S : zz_G S) (F_S : zz_fr [] [] (fun _ _ => False) S0 S) (i4_0 : (-2147483648) ≤ x1 ∧ x1 ≤ 2147483647) (i4_1 : 0 ≤ x2 ∧ x2 ≤ 3) (R : Nat) (hR : (3 - x2).toNat = R) (k4 : ∀ (x1 : Int) (x2 : Int) (S : zz_S), zz_G S → zz_fr [] [] (fun _ _ => False) S0 S → ((-2147483648) ≤ x1 ∧ x1 ≤ 2147483647) → (0 ≤ x2 ∧ x2 ≤ 3) → (3 - x2).toNat < R → zz_E g l zy_soonestEnd_10_11 zr_soonestEnd_10_11 (zz_QI n (zp_soonestEnd_10_11  S0)) S n 4 [some (.ref 1042), some (zi x1), some (zi x2)] [] 0 0) : zz_E g l zy_soonestEnd_10_11 zr_soonestEnd_10_11 (zz_QI n (zp_soonestEnd_10_11  S0)) S n 4 [some (.ref 1042), some (zi x1), some (zi x2)] [] 0 0 := by
  refine zz_iload_n (x := x2) rfl zd_10_11_4 ?_
  refine zz_iconst zd_10_11_5 ?_
  refine zz_icmp_ge (by omega) (by omega) zd_10_11_6 (fun c1 => ?_) (fun c1 => ?_)
  · refine zz_iload_n (x := x1) rfl zd_10_11_56 ?_
    exact zz_iret zd_10_11_57 rfl (Nat.zero_le _) (Nat.zero_le _) ⟨_, _, rfl, zz_fr.eq F_S, by omega⟩
  · refine zz_aload_n (x := 1042) rfl zd_10_11_9 ?_
    refine zz_getr (kd := 0) (z := 1048) zd_10_11_10 zf_Run_32 zT_1042 rfl (zz_ltn hn rfl) (zz_G.eq G_S 1042 6 1048 rfl rfl) (by decide) 1048 rfl ?_
    refine zz_iload_n (x := x2) rfl zd_10_11_13 ?_
    have g2 := zz_G.r G_S0 1048 x2.toNat (-1) 600 rfl rfl
    refine zz_iald (z := S0 1048 x2.toNat) zd_10_11_14 zT_1048 rfl (zz_ltn hn rfl) (by decide) (by omega) (zz_rc F_S (zz_nc1 rfl) rfl (fun h => h) rfl) ?_
    refine zz_istore_n [some (.ref 1042), some (zi x1), some (zi x2), some (zi (S0 1048 x2.toNat))] zd_10_11_15 (by decide) rfl ?_
    refine zz_iload_n (x := S0 1048 x2.toNat) rfl zd_10_11_16 ?_
    refine zz_if_lt (by omega) zd_10_11_17 (fun c3 => ?_) (fun c3 => ?_)
    · refine zz_iinc [some (.ref 1042), some (zi x1), some (zi (x2 + 1)), some (zi (S0 1048 x2.toNat))] zd_10_11_50 rfl rfl ?_
      refine zz_goto zd_10_11_53 ?_
      refine zz_less (ls1 := [some (.ref 1042), some (zi x1), some (zi (x2 + 1))]) ⟨rfl, ⟨rfl, ⟨rfl, trivial⟩⟩⟩ ?_
      exact k4 x1 (x2 + 1) S G_S F_S (by omega) (by omega) (by omega)
    · refine zz_iload_n (x := S0 1048 x2.toNat) rfl zd_10_11_20 ?_
      refine zz_aload_n (x := 1042) rfl zd_10_11_21 ?_
      have g4 := zz_G.r G_S0 1042 9 0 600 rfl rfl
      refine zz_geti (z := S0 1042 9) zd_10_11_22 zf_Run_46 zT_1042 rfl (zz_ltn hn rfl) (zz_rc F_S rfl rfl (fun h => h) rfl) ?_
      refine zz_icmp_ge (by omega) (by omega) zd_10_11_25 (fun c5 => ?_) (fun c5 => ?_)
      · refine zz_iinc [some (.ref 1042), some (zi x1), some (zi (x2 + 1)), some (zi (S0 1048 x2.toNat))] zd_10_11_50 rfl rfl ?_
        refine zz_goto zd_10_11_53 ?_
        refine zz_less (ls1 := [some (.ref 1042), some (zi x1), some (zi (x2 + 1))]) ⟨rfl, ⟨rfl, ⟨rfl, trivial⟩⟩⟩ ?_
        exact k4 x1 (x2 + 1) S G_S F_S (by omega) (by omega) (by omega)
      · refine zz_iload_n (x := x1) rfl zd_10_11_28 ?_
        refine zz_iconst zd_10_11_29 ?_
        refine zz_icmp_eq (by omega) (by omega) zd_10_11_30 (fun c6 => ?_) (fun c6 => ?_)
        · refine zz_aload_n (x := 1042) rfl zd_10_11_43 ?_
          refine zz_getr (kd := 0) (z := 1046) zd_10_11_44 zf_Run_26 zT_1042 rfl (zz_ltn hn rfl) (zz_G.eq G_S 1042 4 1046 rfl rfl) (by decide) 1046 rfl ?_
          refine zz_iload_n (x := S0 1048 x2.toNat) rfl zd_10_11_47 ?_
          have g7 := zz_G.r G_S0 1046 ((S0 1048 x2.toNat).toNat) (-2147483648) 2147483647 rfl rfl
          refine zz_iald (z := S0 1046 ((S0 1048 x2.toNat).toNat)) zd_10_11_48 zT_1046 rfl (zz_ltn hn rfl) (by decide) (by omega) (zz_rc F_S (zz_nc1 rfl) rfl (fun h => h) rfl) ?_
          refine zz_istore_n [some (.ref 1042), some (zi (S0 1046 ((S0 1048 x2.toNat).toNat))), some (zi x2), some (zi (S0 1048 x2.toNat))] zd_10_11_49 (by decide) rfl ?_
          refine zz_iinc [some (.ref 1042), some (zi (S0 1046 ((S0 1048 x2.toNat).toNat))), some (zi (x2 + 1)), some (zi (S0 1048 x2.toNat))] zd_10_11_50 rfl rfl ?_
          refine zz_goto zd_10_11_53 ?_
          refine zz_less (ls1 := [some (.ref 1042), some (zi (S0 1046 ((S0 1048 x2.toNat).toNat))), some (zi (x2 + 1))]) ⟨rfl, ⟨rfl, ⟨rfl, trivial⟩⟩⟩ ?_
          exact k4 (S0 1046 ((S0 1048 x2.toNat).toNat)) (x2 + 1) S G_S F_S (by omega) (by omega) (by omega)
        · refine zz_aload_n (x := 1042) rfl zd_10_11_33 ?_
          refine zz_getr (kd := 0) (z := 1046) zd_10_11_34 zf_Run_26 zT_1042 rfl (zz_ltn hn rfl) (zz_G.eq G_S 1042 4 1046 rfl rfl) (by decide) 1046 rfl ?_
          refine zz_iload_n (x := S0 1048 x2.toNat) rfl zd_10_11_37 ?_
          have g8 := zz_G.r G_S0 1046 ((S0 1048 x2.toNat).toNat) (-2147483648) 2147483647 rfl rfl
          refine zz_iald (z := S0 1046 ((S0 1048 x2.toNat).toNat)) zd_10_11_38 zT_1046 rfl (zz_ltn hn rfl) (by decide) (by omega) (zz_rc F_S (zz_nc1 rfl) rfl (fun h => h) rfl) ?_
          refine zz_iload_n (x := x1) rfl zd_10_11_39 ?_
          refine zz_icmp_ge (by omega) (by omega) zd_10_11_40 (fun c9 => ?_) (fun c9 => ?_)
          · refine zz_iinc [some (.ref 1042), some (zi x1), some (zi (x2 + 1)), some (zi (S0 1048 x2.toNat))] zd_10_11_50 rfl rfl ?_
            refine zz_goto zd_10_11_53 ?_
            refine zz_less (ls1 := [some (.ref 1042), some (zi x1), some (zi (x2 + 1))]) ⟨rfl, ⟨rfl, ⟨rfl, trivial⟩⟩⟩ ?_
            exact k4 x1 (x2 + 1) S G_S F_S (by omega) (by omega) (by omega)
          · refine zz_aload_n (x := 1042) rfl zd_10_11_43 ?_
            refine zz_getr (kd := 0) (z := 1046) zd_10_11_44 zf_Run_26 zT_1042 rfl (zz_ltn hn rfl) (zz_G.eq G_S 1042 4 1046 rfl rfl) (by decide) 1046 rfl ?_
            refine zz_iload_n (x := S0 1048 x2.toNat) rfl zd_10_11_47 ?_
            refine zz_iald (z := S0 1046 ((S0 1048 x2.toNat).toNat)) zd_10_11_48 zT_1046 rfl (zz_ltn hn rfl) (by decide) (by omega) (zz_rc F_S (zz_nc1 rfl) rfl (fun h => h) rfl) ?_
            refine zz_istore_n [some (.ref 1042), some (zi (S0 1046 ((S0 1048 x2.toNat).toNat))), some (zi x2), some (zi (S0 1048 x2.toNat))] zd_10_11_49 (by decide) rfl ?_
            refine zz_iinc [some (.ref 1042), some (zi (S0 1046 ((S0 1048 x2.toNat).toNat))), some (zi (x2 + 1)), some (zi (S0 1048 x2.toNat))] zd_10_11_50 rfl rfl ?_
            refine zz_goto zd_10_11_53 ?_
            refine zz_less (ls1 := [some (.ref 1042), some (zi (S0 1046 ((S0 1048 x2.toNat).toNat))), some (zi (x2 + 1))]) ⟨rfl, ⟨rfl, ⟨rfl, trivial⟩⟩⟩ ?_
            exact k4 (S0 1046 ((S0 1048 x2.toNat).toNat)) (x2 + 1) S G_S F_S (by omega) (by omega) (by omega)
theorem zi_soonestEnd_10_11 {g : mm_G} {l : Launch}  (S0 : zz_S) (n : Nat) (hn : zz_end ≤ n) (G_S0 : zz_G S0)  : ∀ N : Nat, (∀ (x1 : Int) (x2 : Int) (S : zz_S), zz_G S → zz_fr [] [] (fun _ _ => False) S0 S → ((-2147483648) ≤ x1 ∧ x1 ≤ 2147483647) → (0 ≤ x2 ∧ x2 ≤ 3) → (3 - x2).toNat < N → zz_E g l zy_soonestEnd_10_11 zr_soonestEnd_10_11 (zz_QI n (zp_soonestEnd_10_11  S0)) S n 4 [some (.ref 1042), some (zi x1), some (zi x2)] [] 0 0) := by
  intro N
  induction N with
  | zero => exact fun x1 x2 S _ _ _ _ h => absurd h (Nat.not_lt_zero _)
  | succ N ih =>
    exact fun x1 x2 S a b j0 j1 hR => zb_soonestEnd_10_11_4  S0 n hn G_S0  x1 x2 S a b j0 j1 _ rfl (fun x1 x2 S a b j0 j1 h => ih x1 x2 S a b j0 j1 (Nat.lt_of_lt_of_le h (Nat.le_of_lt_succ hR)))
theorem zc_soonestEnd_10_11 {g : mm_G} {l : Launch}  (S0 : zz_S) (n : Nat) (hn : zz_end ≤ n) (G_S0 : zz_G S0)  : mm_Met g l zy_soonestEnd_10_11 zr_soonestEnd_10_11 [.ref 1042] (zz_M S0 n) n (zz_QI n (zp_soonestEnd_10_11  S0)) := by
  refine zz_enter (by decide) (Nat.le_of_ble_eq_true rfl) (zz_less (ls1 := [some (.ref 1042)]) ⟨rfl, trivial⟩ ?_)
  have F_S0 : zz_fr [] [] (fun _ _ => False) S0 S0 := zz_fr.refl
  have k4 : ∀ (x1 : Int) (x2 : Int) (S : zz_S), zz_G S → zz_fr [] [] (fun _ _ => False) S0 S → ((-2147483648) ≤ x1 ∧ x1 ≤ 2147483647) → (0 ≤ x2 ∧ x2 ≤ 3) → zz_E g l zy_soonestEnd_10_11 zr_soonestEnd_10_11 (zz_QI n (zp_soonestEnd_10_11  S0)) S n 4 [some (.ref 1042), some (zi x1), some (zi x2)] [] 0 0 := fun x1 x2 S a b j0 j1 => (zi_soonestEnd_10_11 (g := g) (l := l)  S0 n hn G_S0  _) x1 x2 S a b j0 j1 (Nat.lt_succ_self _)
  refine zz_iconst zd_10_11_0 ?_
  refine zz_istore_n [some (.ref 1042), some (zi (-1))] zd_10_11_1 (by decide) rfl ?_
  refine zz_iconst zd_10_11_2 ?_
  refine zz_istore_n [some (.ref 1042), some (zi (-1)), some (zi 0)] zd_10_11_3 (by decide) rfl ?_
  refine zz_less (ls1 := [some (.ref 1042), some (zi (-1)), some (zi 0)]) ⟨rfl, ⟨rfl, ⟨rfl, trivial⟩⟩⟩ ?_
  exact k4 (-1) 0 S0 G_S0 F_S0 (by omega) (by omega)
theorem zk_Run_70 : mm_Vl "TensorForge$Run" 70 5 0 zy_soonestEnd_10_11 := ⟨zyw_soonestEnd_10_11, (R_Run, F_Run, 10), rfl, mm_tb_1 841 (by decide +kernel) rfl, mm_tb_1 843 (by decide +kernel) rfl, mm_tb_s 35 (by decide +kernel) rfl⟩
abbrev zy_leastNext_10_12 : mm_Y := (⟨"TensorForge$Run", "leastNext", "()I"⟩, prog_10_method_12_code, 3, (some .int))
theorem zyw_leastNext_10_12 : mm_Yw zy_leastNext_10_12 0 := ⟨mm_tb_1 848 (by decide +kernel) rfl, mm_tb_1 6 (by decide +kernel) rfl, ⟨by decide, by decide⟩, by decide +kernel⟩
theorem zg_10_2_74 : zq_at zy_follow_10_2.2.1 74 54 ∧ zq_at zy_follow_10_2.2.1 75 7 ∧ zq_at zy_follow_10_2.2.1 76 21 ∧ zq_at zy_follow_10_2.2.1 77 7 ∧ zq_at zy_follow_10_2.2.1 78 2 ∧ zq_at zy_follow_10_2.2.1 79 160 ∧ zq_at zy_follow_10_2.2.1 80 0 ∧ zq_at zy_follow_10_2.2.1 81 31 ∧ zq_at zy_follow_10_2.2.1 110 21 ∧ zq_at zy_follow_10_2.2.1 111 7 ∧ zq_at zy_follow_10_2.2.1 112 54 ∧ zq_at zy_follow_10_2.2.1 113 4 ∧ zq_at zy_follow_10_2.2.1 114 132 ∧ zq_at zy_follow_10_2.2.1 115 5 ∧ zq_at zy_follow_10_2.2.1 116 1 ∧ zq_at zy_follow_10_2.2.1 117 167 ∧ zq_at zy_follow_10_2.2.1 118 255 ∧ zq_at zy_follow_10_2.2.1 119 169 ∧ zq_at zy_follow_10_2.2.1 82 42 ∧ zq_at zy_follow_10_2.2.1 83 182 ∧ zq_at zy_follow_10_2.2.1 84 0 ∧ zq_at zy_follow_10_2.2.1 85 73 := by decide +kernel
theorem zd_10_2_74 : zz_D zy_follow_10_2 74 (.istore 7) 2 76 := ⟨zq_54 zg_10_2_74.1 zg_10_2_74.2.1, rfl⟩
theorem zd_10_2_76 : zz_D zy_follow_10_2 76 (.iload 7) 2 78 := ⟨zq_21 zg_10_2_74.2.2.1 zg_10_2_74.2.2.2.1, rfl⟩
theorem zd_10_2_78 : zz_D zy_follow_10_2 78 (.iconst (-1)) 1 79 := ⟨zq_2 zg_10_2_74.2.2.2.2.1, rfl⟩
theorem zd_10_2_79 : zz_B zy_follow_10_2 79 (Instr.if_icmp .ne) 110 82 := ⟨31, zq_160 zg_10_2_74.2.2.2.2.2.1 zg_10_2_74.2.2.2.2.2.2.1 zg_10_2_74.2.2.2.2.2.2.2.1 (by decide), rfl, rfl⟩
theorem zd_10_2_110 : zz_D zy_follow_10_2 110 (.iload 7) 2 112 := ⟨zq_21 zg_10_2_74.2.2.2.2.2.2.2.2.1 zg_10_2_74.2.2.2.2.2.2.2.2.2.1, rfl⟩
theorem zd_10_2_112 : zz_D zy_follow_10_2 112 (.istore 4) 2 114 := ⟨zq_54 zg_10_2_74.2.2.2.2.2.2.2.2.2.2.1 zg_10_2_74.2.2.2.2.2.2.2.2.2.2.2.1, rfl⟩
theorem zd_10_2_114 : zz_D zy_follow_10_2 114 (.iinc 5 1) 3 117 := ⟨zq_132 zg_10_2_74.2.2.2.2.2.2.2.2.2.2.2.2.1 zg_10_2_74.2.2.2.2.2.2.2.2.2.2.2.2.2.1 zg_10_2_74.2.2.2.2.2.2.2.2.2.2.2.2.2.2.1 (by decide), rfl⟩
theorem zd_10_2_117 : zz_B zy_follow_10_2 117 Instr.goto 30 120 := ⟨(-87), zq_167 zg_10_2_74.2.2.2.2.2.2.2.2.2.2.2.2.2.2.2.1 zg_10_2_74.2.2.2.2.2.2.2.2.2.2.2.2.2.2.2.2.1 zg_10_2_74.2.2.2.2.2.2.2.2.2.2.2.2.2.2.2.2.2.1 (by decide), rfl, rfl⟩
theorem zd_10_2_82 : zz_D zy_follow_10_2 82 (.aload_n 0) 1 83 := ⟨zq_42 zg_10_2_74.2.2.2.2.2.2.2.2.2.2.2.2.2.2.2.2.2.2.1, rfl⟩
theorem zd_10_2_83 : zz_D zy_follow_10_2 83 (.invokevirtual 73) 3 86 := ⟨zq_182 zg_10_2_74.2.2.2.2.2.2.2.2.2.2.2.2.2.2.2.2.2.2.2.1 zg_10_2_74.2.2.2.2.2.2.2.2.2.2.2.2.2.2.2.2.2.2.2.2.1 zg_10_2_74.2.2.2.2.2.2.2.2.2.2.2.2.2.2.2.2.2.2.2.2.2 rfl, rfl⟩
theorem zg_10_12_0 : zq_at zy_leastNext_10_12.2.1 0 2 ∧ zq_at zy_leastNext_10_12.2.1 1 60 ∧ zq_at zy_leastNext_10_12.2.1 2 3 ∧ zq_at zy_leastNext_10_12.2.1 3 61 ∧ zq_at zy_leastNext_10_12.2.1 4 28 ∧ zq_at zy_leastNext_10_12.2.1 5 6 ∧ zq_at zy_leastNext_10_12.2.1 6 162 ∧ zq_at zy_leastNext_10_12.2.1 7 0 ∧ zq_at zy_leastNext_10_12.2.1 8 41 ∧ zq_at zy_leastNext_10_12.2.1 9 42 ∧ zq_at zy_leastNext_10_12.2.1 10 180 ∧ zq_at zy_leastNext_10_12.2.1 11 0 ∧ zq_at zy_leastNext_10_12.2.1 12 29 ∧ zq_at zy_leastNext_10_12.2.1 13 28 ∧ zq_at zy_leastNext_10_12.2.1 14 46 ∧ zq_at zy_leastNext_10_12.2.1 15 2 ∧ zq_at zy_leastNext_10_12.2.1 16 159 ∧ zq_at zy_leastNext_10_12.2.1 17 0 ∧ zq_at zy_leastNext_10_12.2.1 18 25 ∧ zq_at zy_leastNext_10_12.2.1 41 132 ∧ zq_at zy_leastNext_10_12.2.1 42 2 ∧ zq_at zy_leastNext_10_12.2.1 43 1 := by decide +kernel
theorem zd_10_12_0 : zz_D zy_leastNext_10_12 0 (.iconst (-1)) 1 1 := ⟨zq_2 zg_10_12_0.1, rfl⟩
theorem zd_10_12_1 : zz_D zy_leastNext_10_12 1 (.istore_n 1) 1 2 := ⟨zq_60 zg_10_12_0.2.1, rfl⟩
theorem zd_10_12_2 : zz_D zy_leastNext_10_12 2 (.iconst 0) 1 3 := ⟨zq_3 zg_10_12_0.2.2.1, rfl⟩
theorem zd_10_12_3 : zz_D zy_leastNext_10_12 3 (.istore_n 2) 1 4 := ⟨zq_61 zg_10_12_0.2.2.2.1, rfl⟩
theorem zd_10_12_4 : zz_D zy_leastNext_10_12 4 (.iload_n 2) 1 5 := ⟨zq_28 zg_10_12_0.2.2.2.2.1, rfl⟩
theorem zd_10_12_5 : zz_D zy_leastNext_10_12 5 (.iconst 3) 1 6 := ⟨zq_6 zg_10_12_0.2.2.2.2.2.1, rfl⟩
theorem zd_10_12_6 : zz_B zy_leastNext_10_12 6 (Instr.if_icmp .ge) 47 9 := ⟨41, zq_162 zg_10_12_0.2.2.2.2.2.2.1 zg_10_12_0.2.2.2.2.2.2.2.1 zg_10_12_0.2.2.2.2.2.2.2.2.1 (by decide), rfl, rfl⟩
theorem zd_10_12_9 : zz_D zy_leastNext_10_12 9 (.aload_n 0) 1 10 := ⟨zq_42 zg_10_12_0.2.2.2.2.2.2.2.2.2.1, rfl⟩
theorem zd_10_12_10 : zz_D zy_leastNext_10_12 10 (.getfield 29) 3 13 := ⟨zq_180 zg_10_12_0.2.2.2.2.2.2.2.2.2.2.1 zg_10_12_0.2.2.2.2.2.2.2.2.2.2.2.1 zg_10_12_0.2.2.2.2.2.2.2.2.2.2.2.2.1 rfl, rfl⟩
theorem zd_10_12_13 : zz_D zy_leastNext_10_12 13 (.iload_n 2) 1 14 := ⟨zq_28 zg_10_12_0.2.2.2.2.2.2.2.2.2.2.2.2.2.1, rfl⟩
theorem zd_10_12_14 : zz_D zy_leastNext_10_12 14 (.iaload) 1 15 := ⟨zq_46 zg_10_12_0.2.2.2.2.2.2.2.2.2.2.2.2.2.2.1, rfl⟩
theorem zd_10_12_15 : zz_D zy_leastNext_10_12 15 (.iconst (-1)) 1 16 := ⟨zq_2 zg_10_12_0.2.2.2.2.2.2.2.2.2.2.2.2.2.2.2.1, rfl⟩
theorem zd_10_12_16 : zz_B zy_leastNext_10_12 16 (Instr.if_icmp .eq) 41 19 := ⟨25, zq_159 zg_10_12_0.2.2.2.2.2.2.2.2.2.2.2.2.2.2.2.2.1 zg_10_12_0.2.2.2.2.2.2.2.2.2.2.2.2.2.2.2.2.2.1 zg_10_12_0.2.2.2.2.2.2.2.2.2.2.2.2.2.2.2.2.2.2.1 (by decide), rfl, rfl⟩
theorem zd_10_12_41 : zz_D zy_leastNext_10_12 41 (.iinc 2 1) 3 44 := ⟨zq_132 zg_10_12_0.2.2.2.2.2.2.2.2.2.2.2.2.2.2.2.2.2.2.2.1 zg_10_12_0.2.2.2.2.2.2.2.2.2.2.2.2.2.2.2.2.2.2.2.2.1 zg_10_12_0.2.2.2.2.2.2.2.2.2.2.2.2.2.2.2.2.2.2.2.2.2 (by decide), rfl⟩
theorem zg_10_12_44 : zq_at zy_leastNext_10_12.2.1 44 167 ∧ zq_at zy_leastNext_10_12.2.1 45 255 ∧ zq_at zy_leastNext_10_12.2.1 46 216 ∧ zq_at zy_leastNext_10_12.2.1 19 27 ∧ zq_at zy_leastNext_10_12.2.1 20 2 ∧ zq_at zy_leastNext_10_12.2.1 21 159 ∧ zq_at zy_leastNext_10_12.2.1 22 0 ∧ zq_at zy_leastNext_10_12.2.1 23 13 ∧ zq_at zy_leastNext_10_12.2.1 34 42 ∧ zq_at zy_leastNext_10_12.2.1 35 180 ∧ zq_at zy_leastNext_10_12.2.1 36 0 ∧ zq_at zy_leastNext_10_12.2.1 37 29 ∧ zq_at zy_leastNext_10_12.2.1 38 28 ∧ zq_at zy_leastNext_10_12.2.1 39 46 ∧ zq_at zy_leastNext_10_12.2.1 40 60 ∧ zq_at zy_leastNext_10_12.2.1 24 42 ∧ zq_at zy_leastNext_10_12.2.1 25 180 ∧ zq_at zy_leastNext_10_12.2.1 26 0 ∧ zq_at zy_leastNext_10_12.2.1 27 29 ∧ zq_at zy_leastNext_10_12.2.1 28 28 ∧ zq_at zy_leastNext_10_12.2.1 29 46 ∧ zq_at zy_leastNext_10_12.2.1 30 27 := by decide +kernel
theorem zd_10_12_44 : zz_B zy_leastNext_10_12 44 Instr.goto 4 47 := ⟨(-40), zq_167 zg_10_12_44.1 zg_10_12_44.2.1 zg_10_12_44.2.2.1 (by decide), rfl, rfl⟩
theorem zd_10_12_19 : zz_D zy_leastNext_10_12 19 (.iload_n 1) 1 20 := ⟨zq_27 zg_10_12_44.2.2.2.1, rfl⟩
theorem zd_10_12_20 : zz_D zy_leastNext_10_12 20 (.iconst (-1)) 1 21 := ⟨zq_2 zg_10_12_44.2.2.2.2.1, rfl⟩
theorem zd_10_12_21 : zz_B zy_leastNext_10_12 21 (Instr.if_icmp .eq) 34 24 := ⟨13, zq_159 zg_10_12_44.2.2.2.2.2.1 zg_10_12_44.2.2.2.2.2.2.1 zg_10_12_44.2.2.2.2.2.2.2.1 (by decide), rfl, rfl⟩
theorem zd_10_12_34 : zz_D zy_leastNext_10_12 34 (.aload_n 0) 1 35 := ⟨zq_42 zg_10_12_44.2.2.2.2.2.2.2.2.1, rfl⟩
theorem zd_10_12_35 : zz_D zy_leastNext_10_12 35 (.getfield 29) 3 38 := ⟨zq_180 zg_10_12_44.2.2.2.2.2.2.2.2.2.1 zg_10_12_44.2.2.2.2.2.2.2.2.2.2.1 zg_10_12_44.2.2.2.2.2.2.2.2.2.2.2.1 rfl, rfl⟩
theorem zd_10_12_38 : zz_D zy_leastNext_10_12 38 (.iload_n 2) 1 39 := ⟨zq_28 zg_10_12_44.2.2.2.2.2.2.2.2.2.2.2.2.1, rfl⟩
theorem zd_10_12_39 : zz_D zy_leastNext_10_12 39 (.iaload) 1 40 := ⟨zq_46 zg_10_12_44.2.2.2.2.2.2.2.2.2.2.2.2.2.1, rfl⟩
theorem zd_10_12_40 : zz_D zy_leastNext_10_12 40 (.istore_n 1) 1 41 := ⟨zq_60 zg_10_12_44.2.2.2.2.2.2.2.2.2.2.2.2.2.2.1, rfl⟩
theorem zd_10_12_24 : zz_D zy_leastNext_10_12 24 (.aload_n 0) 1 25 := ⟨zq_42 zg_10_12_44.2.2.2.2.2.2.2.2.2.2.2.2.2.2.2.1, rfl⟩
theorem zd_10_12_25 : zz_D zy_leastNext_10_12 25 (.getfield 29) 3 28 := ⟨zq_180 zg_10_12_44.2.2.2.2.2.2.2.2.2.2.2.2.2.2.2.2.1 zg_10_12_44.2.2.2.2.2.2.2.2.2.2.2.2.2.2.2.2.2.1 zg_10_12_44.2.2.2.2.2.2.2.2.2.2.2.2.2.2.2.2.2.2.1 rfl, rfl⟩
theorem zd_10_12_28 : zz_D zy_leastNext_10_12 28 (.iload_n 2) 1 29 := ⟨zq_28 zg_10_12_44.2.2.2.2.2.2.2.2.2.2.2.2.2.2.2.2.2.2.2.1, rfl⟩
theorem zd_10_12_29 : zz_D zy_leastNext_10_12 29 (.iaload) 1 30 := ⟨zq_46 zg_10_12_44.2.2.2.2.2.2.2.2.2.2.2.2.2.2.2.2.2.2.2.2.1, rfl⟩
theorem zd_10_12_30 : zz_D zy_leastNext_10_12 30 (.iload_n 1) 1 31 := ⟨zq_27 zg_10_12_44.2.2.2.2.2.2.2.2.2.2.2.2.2.2.2.2.2.2.2.2.2, rfl⟩
theorem zg_10_12_31 : zq_at zy_leastNext_10_12.2.1 31 162 ∧ zq_at zy_leastNext_10_12.2.1 32 0 ∧ zq_at zy_leastNext_10_12.2.1 33 10 ∧ zq_at zy_leastNext_10_12.2.1 47 27 ∧ zq_at zy_leastNext_10_12.2.1 48 172 := by decide +kernel
theorem zd_10_12_31 : zz_B zy_leastNext_10_12 31 (Instr.if_icmp .ge) 41 34 := ⟨10, zq_162 zg_10_12_31.1 zg_10_12_31.2.1 zg_10_12_31.2.2.1 (by decide), rfl, rfl⟩
theorem zd_10_12_47 : zz_D zy_leastNext_10_12 47 (.iload_n 1) 1 48 := ⟨zq_27 zg_10_12_31.2.2.2.1, rfl⟩
theorem zd_10_12_48 : zz_D zy_leastNext_10_12 48 (.ireturn) 1 49 := ⟨zq_172 zg_10_12_31.2.2.2.2, rfl⟩
-- TensorForge$Run leastNext ()I
abbrev zr_leastNext_10_12 : Room := { frames := 0, cells := 0, slots := 0, locals := 0 }
def zp_leastNext_10_12  (S0 : zz_S) : Int → zz_S → Prop := fun r S => S0 = S ∧ ((-2147483648) ≤ r ∧ r ≤ 2147483647)
theorem zb_leastNext_10_12_4 {g : mm_G} {l : Launch}  (S0 : zz_S) (n : Nat) (hn : zz_end ≤ n) (G_S0 : zz_G S0)  (x1 : Int) (x2 : Int) (S : zz_S) (G_S : zz_G S) (F_S : zz_fr [] [] (fun _ _ => False) S0 S) (i4_0 : (-1) ≤ x1 ∧ x1 ≤ 600) (i4_1 : 0 ≤ x2 ∧ x2 ≤ 3) (R : Nat) (hR : (3 - x2).toNat = R) (k4 : ∀ (x1 : Int) (x2 : Int) (S : zz_S), zz_G S → zz_fr [] [] (fun _ _ => False) S0 S → ((-1) ≤ x1 ∧ x1 ≤ 600) → (0 ≤ x2 ∧ x2 ≤ 3) → (3 - x2).toNat < R → zz_E g l zy_leastNext_10_12 zr_leastNext_10_12 (zz_QI n (zp_leastNext_10_12  S0)) S n 4 [some (.ref 1042), some (zi x1), some (zi x2)] [] 0 0) : zz_E g l zy_leastNext_10_12 zr_leastNext_10_12 (zz_QI n (zp_leastNext_10_12  S0)) S n 4 [some (.ref 1042), some (zi x1), some (zi x2)] [] 0 0 := by
  refine zz_iload_n (x := x2) rfl zd_10_12_4 ?_
  refine zz_iconst zd_10_12_5 ?_
  refine zz_icmp_ge (by omega) (by omega) zd_10_12_6 (fun c1 => ?_) (fun c1 => ?_)
  · refine zz_iload_n (x := x1) rfl zd_10_12_47 ?_
    exact zz_iret zd_10_12_48 rfl (Nat.zero_le _) (Nat.zero_le _) ⟨_, _, rfl, zz_fr.eq F_S, by omega⟩
  · refine zz_aload_n (x := 1042) rfl zd_10_12_9 ?_
    refine zz_getr (kd := 0) (z := 1047) zd_10_12_10 zf_Run_29 zT_1042 rfl (zz_ltn hn rfl) (zz_G.eq G_S 1042 5 1047 rfl rfl) (by decide) 1047 rfl ?_
    refine zz_iload_n (x := x2) rfl zd_10_12_13 ?_
    have g2 := zz_G.r G_S0 1047 x2.toNat (-1) 600 rfl rfl
    refine zz_iald (z := S0 1047 x2.toNat) zd_10_12_14 zT_1047 rfl (zz_ltn hn rfl) (by decide) (by omega) (zz_rc F_S (zz_nc1 rfl) rfl (fun h => h) rfl) ?_
    refine zz_iconst zd_10_12_15 ?_
    refine zz_icmp_eq (by omega) (by omega) zd_10_12_16 (fun c3 => ?_) (fun c3 => ?_)
    · refine zz_iinc [some (.ref 1042), some (zi x1), some (zi (x2 + 1))] zd_10_12_41 rfl rfl ?_
      refine zz_goto zd_10_12_44 ?_
      refine zz_less (ls1 := [some (.ref 1042), some (zi x1), some (zi (x2 + 1))]) ⟨rfl, ⟨rfl, ⟨rfl, trivial⟩⟩⟩ ?_
      exact k4 x1 (x2 + 1) S G_S F_S (by omega) (by omega) (by omega)
    · refine zz_iload_n (x := x1) rfl zd_10_12_19 ?_
      refine zz_iconst zd_10_12_20 ?_
      refine zz_icmp_eq (by omega) (by omega) zd_10_12_21 (fun c4 => ?_) (fun c4 => ?_)
      · refine zz_aload_n (x := 1042) rfl zd_10_12_34 ?_
        refine zz_getr (kd := 0) (z := 1047) zd_10_12_35 zf_Run_29 zT_1042 rfl (zz_ltn hn rfl) (zz_G.eq G_S 1042 5 1047 rfl rfl) (by decide) 1047 rfl ?_
        refine zz_iload_n (x := x2) rfl zd_10_12_38 ?_
        refine zz_iald (z := S0 1047 x2.toNat) zd_10_12_39 zT_1047 rfl (zz_ltn hn rfl) (by decide) (by omega) (zz_rc F_S (zz_nc1 rfl) rfl (fun h => h) rfl) ?_
        refine zz_istore_n [some (.ref 1042), some (zi (S0 1047 x2.toNat)), some (zi x2)] zd_10_12_40 (by decide) rfl ?_
        refine zz_iinc [some (.ref 1042), some (zi (S0 1047 x2.toNat)), some (zi (x2 + 1))] zd_10_12_41 rfl rfl ?_
        refine zz_goto zd_10_12_44 ?_
        refine zz_less (ls1 := [some (.ref 1042), some (zi (S0 1047 x2.toNat)), some (zi (x2 + 1))]) ⟨rfl, ⟨rfl, ⟨rfl, trivial⟩⟩⟩ ?_
        exact k4 (S0 1047 x2.toNat) (x2 + 1) S G_S F_S (by omega) (by omega) (by omega)
      · refine zz_aload_n (x := 1042) rfl zd_10_12_24 ?_
        refine zz_getr (kd := 0) (z := 1047) zd_10_12_25 zf_Run_29 zT_1042 rfl (zz_ltn hn rfl) (zz_G.eq G_S 1042 5 1047 rfl rfl) (by decide) 1047 rfl ?_
        refine zz_iload_n (x := x2) rfl zd_10_12_28 ?_
        refine zz_iald (z := S0 1047 x2.toNat) zd_10_12_29 zT_1047 rfl (zz_ltn hn rfl) (by decide) (by omega) (zz_rc F_S (zz_nc1 rfl) rfl (fun h => h) rfl) ?_
        refine zz_iload_n (x := x1) rfl zd_10_12_30 ?_
        refine zz_icmp_ge (by omega) (by omega) zd_10_12_31 (fun c5 => ?_) (fun c5 => ?_)
        · refine zz_iinc [some (.ref 1042), some (zi x1), some (zi (x2 + 1))] zd_10_12_41 rfl rfl ?_
          refine zz_goto zd_10_12_44 ?_
          refine zz_less (ls1 := [some (.ref 1042), some (zi x1), some (zi (x2 + 1))]) ⟨rfl, ⟨rfl, ⟨rfl, trivial⟩⟩⟩ ?_
          exact k4 x1 (x2 + 1) S G_S F_S (by omega) (by omega) (by omega)
        · refine zz_aload_n (x := 1042) rfl zd_10_12_34 ?_
          refine zz_getr (kd := 0) (z := 1047) zd_10_12_35 zf_Run_29 zT_1042 rfl (zz_ltn hn rfl) (zz_G.eq G_S 1042 5 1047 rfl rfl) (by decide) 1047 rfl ?_
          refine zz_iload_n (x := x2) rfl zd_10_12_38 ?_
          refine zz_iald (z := S0 1047 x2.toNat) zd_10_12_39 zT_1047 rfl (zz_ltn hn rfl) (by decide) (by omega) (zz_rc F_S (zz_nc1 rfl) rfl (fun h => h) rfl) ?_
          refine zz_istore_n [some (.ref 1042), some (zi (S0 1047 x2.toNat)), some (zi x2)] zd_10_12_40 (by decide) rfl ?_
          refine zz_iinc [some (.ref 1042), some (zi (S0 1047 x2.toNat)), some (zi (x2 + 1))] zd_10_12_41 rfl rfl ?_
          refine zz_goto zd_10_12_44 ?_
          refine zz_less (ls1 := [some (.ref 1042), some (zi (S0 1047 x2.toNat)), some (zi (x2 + 1))]) ⟨rfl, ⟨rfl, ⟨rfl, trivial⟩⟩⟩ ?_
          exact k4 (S0 1047 x2.toNat) (x2 + 1) S G_S F_S (by omega) (by omega) (by omega)
theorem zi_leastNext_10_12 {g : mm_G} {l : Launch}  (S0 : zz_S) (n : Nat) (hn : zz_end ≤ n) (G_S0 : zz_G S0)  : ∀ N : Nat, (∀ (x1 : Int) (x2 : Int) (S : zz_S), zz_G S → zz_fr [] [] (fun _ _ => False) S0 S → ((-1) ≤ x1 ∧ x1 ≤ 600) → (0 ≤ x2 ∧ x2 ≤ 3) → (3 - x2).toNat < N → zz_E g l zy_leastNext_10_12 zr_leastNext_10_12 (zz_QI n (zp_leastNext_10_12  S0)) S n 4 [some (.ref 1042), some (zi x1), some (zi x2)] [] 0 0) := by
  intro N
  induction N with
  | zero => exact fun x1 x2 S _ _ _ _ h => absurd h (Nat.not_lt_zero _)
  | succ N ih =>
    exact fun x1 x2 S a b j0 j1 hR => zb_leastNext_10_12_4  S0 n hn G_S0  x1 x2 S a b j0 j1 _ rfl (fun x1 x2 S a b j0 j1 h => ih x1 x2 S a b j0 j1 (Nat.lt_of_lt_of_le h (Nat.le_of_lt_succ hR)))
theorem zc_leastNext_10_12 {g : mm_G} {l : Launch}  (S0 : zz_S) (n : Nat) (hn : zz_end ≤ n) (G_S0 : zz_G S0)  : mm_Met g l zy_leastNext_10_12 zr_leastNext_10_12 [.ref 1042] (zz_M S0 n) n (zz_QI n (zp_leastNext_10_12  S0)) := by
  refine zz_enter (by decide) (Nat.le_of_ble_eq_true rfl) (zz_less (ls1 := [some (.ref 1042)]) ⟨rfl, trivial⟩ ?_)
  have F_S0 : zz_fr [] [] (fun _ _ => False) S0 S0 := zz_fr.refl
  have k4 : ∀ (x1 : Int) (x2 : Int) (S : zz_S), zz_G S → zz_fr [] [] (fun _ _ => False) S0 S → ((-1) ≤ x1 ∧ x1 ≤ 600) → (0 ≤ x2 ∧ x2 ≤ 3) → zz_E g l zy_leastNext_10_12 zr_leastNext_10_12 (zz_QI n (zp_leastNext_10_12  S0)) S n 4 [some (.ref 1042), some (zi x1), some (zi x2)] [] 0 0 := fun x1 x2 S a b j0 j1 => (zi_leastNext_10_12 (g := g) (l := l)  S0 n hn G_S0  _) x1 x2 S a b j0 j1 (Nat.lt_succ_self _)
  refine zz_iconst zd_10_12_0 ?_
  refine zz_istore_n [some (.ref 1042), some (zi (-1))] zd_10_12_1 (by decide) rfl ?_
  refine zz_iconst zd_10_12_2 ?_
  refine zz_istore_n [some (.ref 1042), some (zi (-1)), some (zi 0)] zd_10_12_3 (by decide) rfl ?_
  refine zz_less (ls1 := [some (.ref 1042), some (zi (-1)), some (zi 0)]) ⟨rfl, ⟨rfl, ⟨rfl, trivial⟩⟩⟩ ?_
  exact k4 (-1) 0 S0 G_S0 F_S0 (by omega) (by omega)
theorem zk_Run_73 : mm_Vl "TensorForge$Run" 73 5 0 zy_leastNext_10_12 := ⟨zyw_leastNext_10_12, (R_Run, F_Run, 10), rfl, mm_tb_1 845 (by decide +kernel) rfl, mm_tb_1 847 (by decide +kernel) rfl, mm_tb_s 36 (by decide +kernel) rfl⟩
theorem zq_Run_76 : Cond.constant "TensorForge$Run" 76 (2000000000 : Int32) ∈ mm_tb := mm_tb_1 849 (by decide +kernel) rfl
theorem zg_10_2_86 : zq_at zy_follow_10_2.2.1 86 54 ∧ zq_at zy_follow_10_2.2.1 87 8 ∧ zq_at zy_follow_10_2.2.1 88 42 ∧ zq_at zy_follow_10_2.2.1 89 21 ∧ zq_at zy_follow_10_2.2.1 90 8 ∧ zq_at zy_follow_10_2.2.1 91 2 ∧ zq_at zy_follow_10_2.2.1 92 160 ∧ zq_at zy_follow_10_2.2.1 93 0 ∧ zq_at zy_follow_10_2.2.1 94 7 ∧ zq_at zy_follow_10_2.2.1 99 7 ∧ zq_at zy_follow_10_2.2.1 100 21 ∧ zq_at zy_follow_10_2.2.1 101 8 ∧ zq_at zy_follow_10_2.2.1 102 21 ∧ zq_at zy_follow_10_2.2.1 103 4 ∧ zq_at zy_follow_10_2.2.1 104 182 ∧ zq_at zy_follow_10_2.2.1 105 0 ∧ zq_at zy_follow_10_2.2.1 106 58 ∧ zq_at zy_follow_10_2.2.1 107 167 ∧ zq_at zy_follow_10_2.2.1 108 0 ∧ zq_at zy_follow_10_2.2.1 109 13 ∧ zq_at zy_follow_10_2.2.1 120 42 ∧ zq_at zy_follow_10_2.2.1 121 18 ∧ zq_at zy_follow_10_2.2.1 122 76 := by decide +kernel
theorem zd_10_2_86 : zz_D zy_follow_10_2 86 (.istore 8) 2 88 := ⟨zq_54 zg_10_2_86.1 zg_10_2_86.2.1, rfl⟩
theorem zd_10_2_88 : zz_D zy_follow_10_2 88 (.aload_n 0) 1 89 := ⟨zq_42 zg_10_2_86.2.2.1, rfl⟩
theorem zd_10_2_89 : zz_D zy_follow_10_2 89 (.iload 8) 2 91 := ⟨zq_21 zg_10_2_86.2.2.2.1 zg_10_2_86.2.2.2.2.1, rfl⟩
theorem zd_10_2_91 : zz_D zy_follow_10_2 91 (.iconst (-1)) 1 92 := ⟨zq_2 zg_10_2_86.2.2.2.2.2.1, rfl⟩
theorem zd_10_2_92 : zz_B zy_follow_10_2 92 (Instr.if_icmp .ne) 99 95 := ⟨7, zq_160 zg_10_2_86.2.2.2.2.2.2.1 zg_10_2_86.2.2.2.2.2.2.2.1 zg_10_2_86.2.2.2.2.2.2.2.2.1 (by decide), rfl, rfl⟩
theorem zd_10_2_99 : zz_D zy_follow_10_2 99 (.iconst 4) 1 100 := ⟨zq_7 zg_10_2_86.2.2.2.2.2.2.2.2.2.1, rfl⟩
theorem zd_10_2_100 : zz_D zy_follow_10_2 100 (.iload 8) 2 102 := ⟨zq_21 zg_10_2_86.2.2.2.2.2.2.2.2.2.2.1 zg_10_2_86.2.2.2.2.2.2.2.2.2.2.2.1, rfl⟩
theorem zd_10_2_102 : zz_D zy_follow_10_2 102 (.iload 4) 2 104 := ⟨zq_21 zg_10_2_86.2.2.2.2.2.2.2.2.2.2.2.2.1 zg_10_2_86.2.2.2.2.2.2.2.2.2.2.2.2.2.1, rfl⟩
theorem zd_10_2_104 : zz_D zy_follow_10_2 104 (.invokevirtual 58) 3 107 := ⟨zq_182 zg_10_2_86.2.2.2.2.2.2.2.2.2.2.2.2.2.2.1 zg_10_2_86.2.2.2.2.2.2.2.2.2.2.2.2.2.2.2.1 zg_10_2_86.2.2.2.2.2.2.2.2.2.2.2.2.2.2.2.2.1 rfl, rfl⟩
theorem zd_10_2_107 : zz_B zy_follow_10_2 107 Instr.goto 120 110 := ⟨13, zq_167 zg_10_2_86.2.2.2.2.2.2.2.2.2.2.2.2.2.2.2.2.2.1 zg_10_2_86.2.2.2.2.2.2.2.2.2.2.2.2.2.2.2.2.2.2.1 zg_10_2_86.2.2.2.2.2.2.2.2.2.2.2.2.2.2.2.2.2.2.2.1 (by decide), rfl, rfl⟩
theorem zd_10_2_120 : zz_D zy_follow_10_2 120 (.aload_n 0) 1 121 := ⟨zq_42 zg_10_2_86.2.2.2.2.2.2.2.2.2.2.2.2.2.2.2.2.2.2.2.2.1, rfl⟩
theorem zd_10_2_121 : zz_D zy_follow_10_2 121 (.ldc 76) 2 123 := ⟨zq_18 zg_10_2_86.2.2.2.2.2.2.2.2.2.2.2.2.2.2.2.2.2.2.2.2.2.1 zg_10_2_86.2.2.2.2.2.2.2.2.2.2.2.2.2.2.2.2.2.2.2.2.2.2, rfl⟩
theorem zg_10_2_123 : zq_at zy_follow_10_2.2.1 123 182 ∧ zq_at zy_follow_10_2.2.1 124 0 ∧ zq_at zy_follow_10_2.2.1 125 62 ∧ zq_at zy_follow_10_2.2.1 126 177 ∧ zq_at zy_follow_10_2.2.1 95 4 ∧ zq_at zy_follow_10_2.2.1 96 167 ∧ zq_at zy_follow_10_2.2.1 97 0 ∧ zq_at zy_follow_10_2.2.1 98 4 ∧ zq_at zy_follow_10_2.2.1 58 42 ∧ zq_at zy_follow_10_2.2.1 59 6 ∧ zq_at zy_follow_10_2.2.1 60 21 ∧ zq_at zy_follow_10_2.2.1 61 6 ∧ zq_at zy_follow_10_2.2.1 62 21 ∧ zq_at zy_follow_10_2.2.1 63 4 ∧ zq_at zy_follow_10_2.2.1 64 182 ∧ zq_at zy_follow_10_2.2.1 65 0 ∧ zq_at zy_follow_10_2.2.1 66 58 ∧ zq_at zy_follow_10_2.2.1 67 167 ∧ zq_at zy_follow_10_2.2.1 68 0 ∧ zq_at zy_follow_10_2.2.1 69 53 := by decide +kernel
theorem zd_10_2_123 : zz_D zy_follow_10_2 123 (.invokevirtual 62) 3 126 := ⟨zq_182 zg_10_2_123.1 zg_10_2_123.2.1 zg_10_2_123.2.2.1 rfl, rfl⟩
theorem zd_10_2_126 : zz_D zy_follow_10_2 126 (.return_) 1 127 := ⟨zq_177 zg_10_2_123.2.2.2.1, rfl⟩
theorem zd_10_2_95 : zz_D zy_follow_10_2 95 (.iconst 1) 1 96 := ⟨zq_4 zg_10_2_123.2.2.2.2.1, rfl⟩
theorem zd_10_2_96 : zz_B zy_follow_10_2 96 Instr.goto 100 99 := ⟨4, zq_167 zg_10_2_123.2.2.2.2.2.1 zg_10_2_123.2.2.2.2.2.2.1 zg_10_2_123.2.2.2.2.2.2.2.1 (by decide), rfl, rfl⟩
theorem zd_10_2_58 : zz_D zy_follow_10_2 58 (.aload_n 0) 1 59 := ⟨zq_42 zg_10_2_123.2.2.2.2.2.2.2.2.1, rfl⟩
theorem zd_10_2_59 : zz_D zy_follow_10_2 59 (.iconst 3) 1 60 := ⟨zq_6 zg_10_2_123.2.2.2.2.2.2.2.2.2.1, rfl⟩
theorem zd_10_2_60 : zz_D zy_follow_10_2 60 (.iload 6) 2 62 := ⟨zq_21 zg_10_2_123.2.2.2.2.2.2.2.2.2.2.1 zg_10_2_123.2.2.2.2.2.2.2.2.2.2.2.1, rfl⟩
theorem zd_10_2_62 : zz_D zy_follow_10_2 62 (.iload 4) 2 64 := ⟨zq_21 zg_10_2_123.2.2.2.2.2.2.2.2.2.2.2.2.1 zg_10_2_123.2.2.2.2.2.2.2.2.2.2.2.2.2.1, rfl⟩
theorem zd_10_2_64 : zz_D zy_follow_10_2 64 (.invokevirtual 58) 3 67 := ⟨zq_182 zg_10_2_123.2.2.2.2.2.2.2.2.2.2.2.2.2.2.1 zg_10_2_123.2.2.2.2.2.2.2.2.2.2.2.2.2.2.2.1 zg_10_2_123.2.2.2.2.2.2.2.2.2.2.2.2.2.2.2.2.1 rfl, rfl⟩
theorem zd_10_2_67 : zz_B zy_follow_10_2 67 Instr.goto 120 70 := ⟨53, zq_167 zg_10_2_123.2.2.2.2.2.2.2.2.2.2.2.2.2.2.2.2.2.1 zg_10_2_123.2.2.2.2.2.2.2.2.2.2.2.2.2.2.2.2.2.2.1 zg_10_2_123.2.2.2.2.2.2.2.2.2.2.2.2.2.2.2.2.2.2.2 (by decide), rfl, rfl⟩
-- TensorForge$Run follow ([JI)V
abbrev zr_follow_10_2 : Room := { frames := 6, cells := 0, slots := 0, locals := 103 }
def zp_follow_10_2 (p0 : Int) (p1 : Int) (S0 : zz_S) : zz_S → Prop := fun S => zz_G S ∧ zz_fr [(1031, 7), (1031, 8), (1031, 9), (1031, 10), (1031, 11), (1031, 12), (1031, 13), (1038, 0), (1038, 1), (1038, 2), (1038, 3), (1038, 4), (1039, 0), (1039, 1), (1039, 2), (1039, 3), (1039, 4), (1040, 0), (1040, 1), (1040, 2), (1040, 3), (1040, 4), (1041, 0), (1041, 1), (1041, 2), (1041, 3), (1041, 4), (1042, 8), (1042, 9)] [1032, 1033, 1034, 1035, 1036, 1038, 1039, 1040, 1041, 1043, 1044, 1045, 1046, 1047, 1048, 1049, 1051, 1052, 1053, 1054, 1056, 1057, 1058, 1059, 1061, 1062, 1063, 1064, 1066, 1067, 1068, 1069] (fun _ _ => False) S0 S
theorem zb_follow_10_2_30 {g : mm_G} {l : Launch} (p0 : Int) (p1 : Int) (S0 : zz_S) (n : Nat) (hn : zz_end ≤ n) (G_S0 : zz_G S0) (hp0 : 0 ≤ p0 ∧ p0 ≤ 1) (hp1 : (-2147483648) ≤ p1 ∧ p1 ≤ 2147483647) (x4 : Int) (x5 : Int) (S : zz_S) (G_S : zz_G S) (F_S : zz_fr [(1031, 7), (1031, 8), (1031, 9), (1031, 10), (1031, 11), (1031, 12), (1031, 13), (1038, 0), (1038, 1), (1038, 2), (1038, 3), (1038, 4), (1039, 0), (1039, 1), (1039, 2), (1039, 3), (1039, 4), (1040, 0), (1040, 1), (1040, 2), (1040, 3), (1040, 4), (1041, 0), (1041, 1), (1041, 2), (1041, 3), (1041, 4), (1042, 8), (1042, 9)] [1032, 1033, 1034, 1035, 1036, 1038, 1039, 1040, 1041, 1043, 1044, 1045, 1046, 1047, 1048, 1049, 1051, 1052, 1053, 1054, 1056, 1057, 1058, 1059, 1061, 1062, 1063, 1064, 1066, 1067, 1068, 1069] (fun _ _ => False) S0 S) (i30_0 : (-2147483648) ≤ x4 ∧ x4 ≤ 2147483647) (i30_1 : 0 ≤ x5 ∧ x5 ≤ 602) (i30_2 : ∀ u : Nat, (u : Int) < S 1042 9 → zz_lcl (S 1044 u) (S0 1031 6)) (R : Nat) (hR : (601 + 1 - x5).toNat = R) (k30 : ∀ (x4 : Int) (x5 : Int) (S : zz_S), zz_G S → zz_fr [(1031, 7), (1031, 8), (1031, 9), (1031, 10), (1031, 11), (1031, 12), (1031, 13), (1038, 0), (1038, 1), (1038, 2), (1038, 3), (1038, 4), (1039, 0), (1039, 1), (1039, 2), (1039, 3), (1039, 4), (1040, 0), (1040, 1), (1040, 2), (1040, 3), (1040, 4), (1041, 0), (1041, 1), (1041, 2), (1041, 3), (1041, 4), (1042, 8), (1042, 9)] [1032, 1033, 1034, 1035, 1036, 1038, 1039, 1040, 1041, 1043, 1044, 1045, 1046, 1047, 1048, 1049, 1051, 1052, 1053, 1054, 1056, 1057, 1058, 1059, 1061, 1062, 1063, 1064, 1066, 1067, 1068, 1069] (fun _ _ => False) S0 S → ((-2147483648) ≤ x4 ∧ x4 ≤ 2147483647) → (0 ≤ x5 ∧ x5 ≤ 602) → (∀ u : Nat, (u : Int) < S 1042 9 → zz_lcl (S 1044 u) (S0 1031 6)) → (601 + 1 - x5).toNat < R → zz_E g l zy_follow_10_2 zr_follow_10_2 (zz_QV n (zp_follow_10_2 p0 p1 S0)) S n 30 [some (.ref 1042), none, none, none, some (zi x4), some (zi x5)] [] 0 0) : zz_E g l zy_follow_10_2 zr_follow_10_2 (zz_QV n (zp_follow_10_2 p0 p1 S0)) S n 30 [some (.ref 1042), none, none, none, some (zi x4), some (zi x5)] [] 0 0 := by
  have b_p0 := zz_rf4 (z := p0) (by omega)
  refine zz_iload (x := x5) rfl zd_10_2_30 ?_
  refine zz_sipush (by decide) zd_10_2_32 ?_
  refine zz_icmp_gt (by omega) (by omega) zd_10_2_35 (fun c14 => ?_) (fun c14 => ?_)
  · refine zz_aload_n (x := 1042) rfl zd_10_2_120 ?_
    refine zz_ldc (z := 2000000000) zq_Run_76 (by decide) zd_10_2_121 ?_
    refine zz_callVV [zi 2000000000] zd_10_2_123 zk_Run_62 zT_1042 (zz_ltn hn rfl) rfl rfl ⟨Nat.le_of_ble_eq_true rfl, Nat.le_of_ble_eq_true rfl⟩ ⟨rfl, rfl⟩ (Nat.zero_le _) (Nat.zero_le _) (zc_endUpTo_10_7 2000000000 S n hn G_S (by omega)) (fun S15 hP => ?_)
    obtain ⟨G_S15, fS15⟩ := hP
    have F_S15 := zz_fr.trans F_S fS15 rfl zz_nv
    exact zz_vret zd_10_2_126 rfl (Nat.zero_le _) (Nat.zero_le _) ⟨_, rfl, G_S15, F_S15⟩
  · refine zz_aload_n (x := 1042) rfl zd_10_2_38 ?_
    refine zz_iload (x := x4) rfl zd_10_2_39 ?_
    refine zz_callVV [zi x4] zd_10_2_41 zk_Run_62 zT_1042 (zz_ltn hn rfl) rfl rfl ⟨Nat.le_of_ble_eq_true rfl, Nat.le_of_ble_eq_true rfl⟩ ⟨rfl, rfl⟩ (Nat.zero_le _) (Nat.zero_le _) (zc_endUpTo_10_7 x4 S n hn G_S (by omega)) (fun S17 hP => ?_)
    obtain ⟨G_S17, fS17⟩ := hP
    have F_S17 := zz_fr.trans F_S fS17 rfl zz_nv
    refine zz_aload_n (x := 1042) rfl zd_10_2_44 ?_
    refine zz_iload (x := x4) rfl zd_10_2_45 ?_
    have g19 := zz_G.r G_S0 1031 6 2 8 rfl rfl
    have e20 : S17 1031 6 = S0 1031 6 := (zz_rc fS17 rfl rfl (fun h => h) (zz_rc F_S rfl rfl (fun h => h) rfl))
    have g21 := zz_G.r G_S 1042 9 0 600 rfl rfl
    have e22 : S17 1042 9 = S 1042 9 := (zz_rc fS17 rfl rfl (fun h => h) rfl)
    refine zz_callVI [zi x4] zd_10_2_47 zk_Run_66 zT_1042 (zz_ltn hn rfl) rfl rfl ⟨Nat.le_of_ble_eq_true rfl, Nat.le_of_ble_eq_true rfl⟩ ⟨rfl, rfl⟩ (Nat.zero_le _) (Nat.zero_le _) (zc_beginAt_10_8 x4 S17 n hn G_S17 (by omega) (fun u hu => by have h9 : S17 1042 9 = S 1042 9 := (zz_rc fS17 rfl rfl (fun h => h) rfl); have h8 := i30_2 u (by omega); rw [show S17 1044 u = S 1044 u from (zz_rc fS17 (zz_nc1 rfl) rfl (fun h => h) rfl)]; rw [show S17 1031 6 = S0 1031 6 from (zz_rc fS17 rfl rfl (fun h => h) (zz_rc F_S rfl rfl (fun h => h) rfl))]; exact h8)) (fun v24 S23 hP => ?_)
    obtain ⟨G_S23, fS23, o25⟩ := hP
    have F_S23 := zz_fr.trans F_S17 fS23 rfl zz_nv
    refine zz_istore [some (.ref 1042), none, none, none, some (zi x4), some (zi x5), some (zi v24)] zd_10_2_50 (by decide) rfl ?_
    refine zz_iload (x := v24) rfl zd_10_2_52 ?_
    refine zz_iconst zd_10_2_54 ?_
    refine zz_icmp_eq (by omega) (by omega) zd_10_2_55 (fun c26 => ?_) (fun c26 => ?_)
    · refine zz_aload_n (x := 1042) rfl zd_10_2_70 ?_
      refine zz_callVI [] zd_10_2_71 zk_Run_70 zT_1042 (zz_ltn hn rfl) rfl rfl ⟨Nat.le_of_ble_eq_true rfl, Nat.le_of_ble_eq_true rfl⟩ ⟨rfl, rfl⟩ (Nat.zero_le _) (Nat.zero_le _) (zc_soonestEnd_10_11  S23 n hn G_S23 ) (fun v28 S27 hP => ?_)
      obtain ⟨rfl, o29⟩ := hP
      refine zz_istore [some (.ref 1042), none, none, none, some (zi x4), some (zi x5), some (zi v24), some (zi v28)] zd_10_2_74 (by decide) rfl ?_
      refine zz_iload (x := v28) rfl zd_10_2_76 ?_
      refine zz_iconst zd_10_2_78 ?_
      refine zz_icmp_ne (by omega) (by omega) zd_10_2_79 (fun c30 => ?_) (fun c30 => ?_)
      · refine zz_iload (x := v28) rfl zd_10_2_110 ?_
        refine zz_istore [some (.ref 1042), none, none, none, some (zi v28), some (zi x5), some (zi v24), some (zi v28)] zd_10_2_112 (by decide) rfl ?_
        refine zz_iinc [some (.ref 1042), none, none, none, some (zi v28), some (zi (x5 + 1)), some (zi v24), some (zi v28)] zd_10_2_114 rfl rfl ?_
        refine zz_goto zd_10_2_117 ?_
        have e31 : S23 1042 9 = S 1042 9 := (zz_rc fS23 rfl rfl (fun h => h) (zz_rc fS17 rfl rfl (fun h => h) rfl))
        refine zz_less (ls1 := [some (.ref 1042), none, none, none, some (zi v28), some (zi (x5 + 1))]) ⟨rfl, ⟨rfl, ⟨rfl, trivial⟩⟩⟩ ?_
        exact k30 v28 (x5 + 1) S23 G_S23 F_S23 (by omega) (by omega) (fun u hu => by have h9 : S23 1042 9 = S 1042 9 := (zz_rc fS23 rfl rfl (fun h => h) (zz_rc fS17 rfl rfl (fun h => h) rfl)); have h8 := i30_2 u (by omega); rw [show S23 1044 u = S 1044 u from (zz_rc fS23 (zz_nc1 rfl) rfl (fun h => h) (zz_rc fS17 (zz_nc1 rfl) rfl (fun h => h) rfl))]; exact h8) (by omega)
      · refine zz_aload_n (x := 1042) rfl zd_10_2_82 ?_
        refine zz_callVI [] zd_10_2_83 zk_Run_73 zT_1042 (zz_ltn hn rfl) rfl rfl ⟨Nat.le_of_ble_eq_true rfl, Nat.le_of_ble_eq_true rfl⟩ ⟨rfl, rfl⟩ (Nat.zero_le _) (Nat.zero_le _) (zc_leastNext_10_12  S23 n hn G_S23 ) (fun v33 S32 hP => ?_)
        obtain ⟨rfl, o34⟩ := hP
        refine zz_istore [some (.ref 1042), none, none, none, some (zi x4), some (zi x5), some (zi v24), some (zi v28), some (zi v33)] zd_10_2_86 (by decide) rfl ?_
        refine zz_aload_n (x := 1042) rfl zd_10_2_88 ?_
        refine zz_iload (x := v33) rfl zd_10_2_89 ?_
        refine zz_iconst zd_10_2_91 ?_
        refine zz_icmp_ne (by omega) (by omega) zd_10_2_92 (fun c35 => ?_) (fun c35 => ?_)
        · refine zz_iconst zd_10_2_99 ?_
          refine zz_iload (x := v33) rfl zd_10_2_100 ?_
          refine zz_iload (x := x4) rfl zd_10_2_102 ?_
          refine zz_callVV [zi 4, zi v33, zi x4] zd_10_2_104 zk_Run_58 zT_1042 (zz_ltn hn rfl) rfl rfl ⟨Nat.le_of_ble_eq_true rfl, Nat.le_of_ble_eq_true rfl⟩ ⟨rfl, rfl⟩ (Nat.zero_le _) (Nat.zero_le _) (zc_tell_10_5 4 v33 x4 S23 n hn G_S23 (by omega) (by omega) (by omega)) (fun S36 hP => ?_)
          obtain ⟨G_S36, fS36⟩ := hP
          have F_S36 := zz_fr.trans F_S23 fS36 rfl zz_nv
          refine zz_goto zd_10_2_107 ?_
          refine zz_aload_n (x := 1042) rfl zd_10_2_120 ?_
          refine zz_ldc (z := 2000000000) zq_Run_76 (by decide) zd_10_2_121 ?_
          refine zz_callVV [zi 2000000000] zd_10_2_123 zk_Run_62 zT_1042 (zz_ltn hn rfl) rfl rfl ⟨Nat.le_of_ble_eq_true rfl, Nat.le_of_ble_eq_true rfl⟩ ⟨rfl, rfl⟩ (Nat.zero_le _) (Nat.zero_le _) (zc_endUpTo_10_7 2000000000 S36 n hn G_S36 (by omega)) (fun S38 hP => ?_)
          obtain ⟨G_S38, fS38⟩ := hP
          have F_S38 := zz_fr.trans F_S36 fS38 rfl zz_nv
          exact zz_vret zd_10_2_126 rfl (Nat.zero_le _) (Nat.zero_le _) ⟨_, rfl, G_S38, F_S38⟩
        · refine zz_iconst zd_10_2_95 ?_
          refine zz_goto zd_10_2_96 ?_
          refine zz_iload (x := v33) rfl zd_10_2_100 ?_
          refine zz_iload (x := x4) rfl zd_10_2_102 ?_
          refine zz_callVV [zi 1, zi v33, zi x4] zd_10_2_104 zk_Run_58 zT_1042 (zz_ltn hn rfl) rfl rfl ⟨Nat.le_of_ble_eq_true rfl, Nat.le_of_ble_eq_true rfl⟩ ⟨rfl, rfl⟩ (Nat.zero_le _) (Nat.zero_le _) (zc_tell_10_5 1 v33 x4 S23 n hn G_S23 (by omega) (by omega) (by omega)) (fun S40 hP => ?_)
          obtain ⟨G_S40, fS40⟩ := hP
          have F_S40 := zz_fr.trans F_S23 fS40 rfl zz_nv
          refine zz_goto zd_10_2_107 ?_
          refine zz_aload_n (x := 1042) rfl zd_10_2_120 ?_
          refine zz_ldc (z := 2000000000) zq_Run_76 (by decide) zd_10_2_121 ?_
          refine zz_callVV [zi 2000000000] zd_10_2_123 zk_Run_62 zT_1042 (zz_ltn hn rfl) rfl rfl ⟨Nat.le_of_ble_eq_true rfl, Nat.le_of_ble_eq_true rfl⟩ ⟨rfl, rfl⟩ (Nat.zero_le _) (Nat.zero_le _) (zc_endUpTo_10_7 2000000000 S40 n hn G_S40 (by omega)) (fun S42 hP => ?_)
          obtain ⟨G_S42, fS42⟩ := hP
          have F_S42 := zz_fr.trans F_S40 fS42 rfl zz_nv
          exact zz_vret zd_10_2_126 rfl (Nat.zero_le _) (Nat.zero_le _) ⟨_, rfl, G_S42, F_S42⟩
    · refine zz_aload_n (x := 1042) rfl zd_10_2_58 ?_
      refine zz_iconst zd_10_2_59 ?_
      refine zz_iload (x := v24) rfl zd_10_2_60 ?_
      refine zz_iload (x := x4) rfl zd_10_2_62 ?_
      refine zz_callVV [zi 3, zi v24, zi x4] zd_10_2_64 zk_Run_58 zT_1042 (zz_ltn hn rfl) rfl rfl ⟨Nat.le_of_ble_eq_true rfl, Nat.le_of_ble_eq_true rfl⟩ ⟨rfl, rfl⟩ (Nat.zero_le _) (Nat.zero_le _) (zc_tell_10_5 3 v24 x4 S23 n hn G_S23 (by omega) (by omega) (by omega)) (fun S44 hP => ?_)
      obtain ⟨G_S44, fS44⟩ := hP
      have F_S44 := zz_fr.trans F_S23 fS44 rfl zz_nv
      refine zz_goto zd_10_2_67 ?_
      refine zz_aload_n (x := 1042) rfl zd_10_2_120 ?_
      refine zz_ldc (z := 2000000000) zq_Run_76 (by decide) zd_10_2_121 ?_
      refine zz_callVV [zi 2000000000] zd_10_2_123 zk_Run_62 zT_1042 (zz_ltn hn rfl) rfl rfl ⟨Nat.le_of_ble_eq_true rfl, Nat.le_of_ble_eq_true rfl⟩ ⟨rfl, rfl⟩ (Nat.zero_le _) (Nat.zero_le _) (zc_endUpTo_10_7 2000000000 S44 n hn G_S44 (by omega)) (fun S46 hP => ?_)
      obtain ⟨G_S46, fS46⟩ := hP
      have F_S46 := zz_fr.trans F_S44 fS46 rfl zz_nv
      exact zz_vret zd_10_2_126 rfl (Nat.zero_le _) (Nat.zero_le _) ⟨_, rfl, G_S46, F_S46⟩
theorem zi_follow_10_2 {g : mm_G} {l : Launch} (p0 : Int) (p1 : Int) (S0 : zz_S) (n : Nat) (hn : zz_end ≤ n) (G_S0 : zz_G S0) (hp0 : 0 ≤ p0 ∧ p0 ≤ 1) (hp1 : (-2147483648) ≤ p1 ∧ p1 ≤ 2147483647) : ∀ N : Nat, (∀ (x4 : Int) (x5 : Int) (S : zz_S), zz_G S → zz_fr [(1031, 7), (1031, 8), (1031, 9), (1031, 10), (1031, 11), (1031, 12), (1031, 13), (1038, 0), (1038, 1), (1038, 2), (1038, 3), (1038, 4), (1039, 0), (1039, 1), (1039, 2), (1039, 3), (1039, 4), (1040, 0), (1040, 1), (1040, 2), (1040, 3), (1040, 4), (1041, 0), (1041, 1), (1041, 2), (1041, 3), (1041, 4), (1042, 8), (1042, 9)] [1032, 1033, 1034, 1035, 1036, 1038, 1039, 1040, 1041, 1043, 1044, 1045, 1046, 1047, 1048, 1049, 1051, 1052, 1053, 1054, 1056, 1057, 1058, 1059, 1061, 1062, 1063, 1064, 1066, 1067, 1068, 1069] (fun _ _ => False) S0 S → ((-2147483648) ≤ x4 ∧ x4 ≤ 2147483647) → (0 ≤ x5 ∧ x5 ≤ 602) → (∀ u : Nat, (u : Int) < S 1042 9 → zz_lcl (S 1044 u) (S0 1031 6)) → (601 + 1 - x5).toNat < N → zz_E g l zy_follow_10_2 zr_follow_10_2 (zz_QV n (zp_follow_10_2 p0 p1 S0)) S n 30 [some (.ref 1042), none, none, none, some (zi x4), some (zi x5)] [] 0 0) := by
  intro N
  induction N with
  | zero => exact fun x4 x5 S _ _ _ _ _ h => absurd h (Nat.not_lt_zero _)
  | succ N ih =>
    exact fun x4 x5 S a b j0 j1 j2 hR => zb_follow_10_2_30 p0 p1 S0 n hn G_S0 hp0 hp1 x4 x5 S a b j0 j1 j2 _ rfl (fun x4 x5 S a b j0 j1 j2 h => ih x4 x5 S a b j0 j1 j2 (Nat.lt_of_lt_of_le h (Nat.le_of_lt_succ hR)))
theorem zc_follow_10_2 {g : mm_G} {l : Launch} (p0 : Int) (p1 : Int) (S0 : zz_S) (n : Nat) (hn : zz_end ≤ n) (G_S0 : zz_G S0) (hp0 : 0 ≤ p0 ∧ p0 ≤ 1) (hp1 : (-2147483648) ≤ p1 ∧ p1 ≤ 2147483647) : mm_Met g l zy_follow_10_2 zr_follow_10_2 [.ref 1042, .ref (zz_rf 4 p0), zi p1] (zz_M S0 n) n (zz_QV n (zp_follow_10_2 p0 p1 S0)) := by
  refine zz_enter (by decide) (Nat.le_of_ble_eq_true rfl) (zz_less (ls1 := [some (.ref 1042), some (.ref (zz_rf 4 p0)), some (zi p1)]) ⟨rfl, ⟨rfl, ⟨rfl, trivial⟩⟩⟩ ?_)
  have F_S0 : zz_fr [(1031, 7), (1031, 8), (1031, 9), (1031, 10), (1031, 11), (1031, 12), (1031, 13), (1038, 0), (1038, 1), (1038, 2), (1038, 3), (1038, 4), (1039, 0), (1039, 1), (1039, 2), (1039, 3), (1039, 4), (1040, 0), (1040, 1), (1040, 2), (1040, 3), (1040, 4), (1041, 0), (1041, 1), (1041, 2), (1041, 3), (1041, 4), (1042, 8), (1042, 9)] [1032, 1033, 1034, 1035, 1036, 1038, 1039, 1040, 1041, 1043, 1044, 1045, 1046, 1047, 1048, 1049, 1051, 1052, 1053, 1054, 1056, 1057, 1058, 1059, 1061, 1062, 1063, 1064, 1066, 1067, 1068, 1069] (fun _ _ => False) S0 S0 := zz_fr.refl
  have k30 : ∀ (x4 : Int) (x5 : Int) (S : zz_S), zz_G S → zz_fr [(1031, 7), (1031, 8), (1031, 9), (1031, 10), (1031, 11), (1031, 12), (1031, 13), (1038, 0), (1038, 1), (1038, 2), (1038, 3), (1038, 4), (1039, 0), (1039, 1), (1039, 2), (1039, 3), (1039, 4), (1040, 0), (1040, 1), (1040, 2), (1040, 3), (1040, 4), (1041, 0), (1041, 1), (1041, 2), (1041, 3), (1041, 4), (1042, 8), (1042, 9)] [1032, 1033, 1034, 1035, 1036, 1038, 1039, 1040, 1041, 1043, 1044, 1045, 1046, 1047, 1048, 1049, 1051, 1052, 1053, 1054, 1056, 1057, 1058, 1059, 1061, 1062, 1063, 1064, 1066, 1067, 1068, 1069] (fun _ _ => False) S0 S → ((-2147483648) ≤ x4 ∧ x4 ≤ 2147483647) → (0 ≤ x5 ∧ x5 ≤ 602) → (∀ u : Nat, (u : Int) < S 1042 9 → zz_lcl (S 1044 u) (S0 1031 6)) → zz_E g l zy_follow_10_2 zr_follow_10_2 (zz_QV n (zp_follow_10_2 p0 p1 S0)) S n 30 [some (.ref 1042), none, none, none, some (zi x4), some (zi x5)] [] 0 0 := fun x4 x5 S a b j0 j1 j2 => (zi_follow_10_2 (g := g) (l := l) p0 p1 S0 n hn G_S0 hp0 hp1 _) x4 x5 S a b j0 j1 j2 (Nat.lt_succ_self _)
  have b_p0 := zz_rf4 (z := p0) (by omega)
  refine zz_aload_n (x := 1042) rfl zd_10_2_0 ?_
  refine zz_aload_n (x := zz_rf 4 p0) rfl zd_10_2_1 ?_
  refine zz_iload_n (x := p1) rfl zd_10_2_2 ?_
  refine zz_callVV [.ref (zz_rf 4 p0), zi p1] zd_10_2_3 zk_Run_50 zT_1042 (zz_ltn hn rfl) rfl rfl ⟨Nat.le_of_ble_eq_true rfl, Nat.le_of_ble_eq_true rfl⟩ ⟨rfl, rfl⟩ (Nat.zero_le _) (Nat.zero_le _) (zc_prepare_10_3 p0 p1 S0 n hn G_S0 (by omega) (by omega)) (fun S1 hP => ?_)
  obtain ⟨G_S1, fS1⟩ := hP
  have F_S1 := zz_fr.trans F_S0 fS1 rfl zz_nv
  refine zz_aload_n (x := 1042) rfl zd_10_2_6 ?_
  have g3 := zz_G.r G_S0 1031 6 2 8 rfl rfl
  have e4 : S1 1031 6 = S0 1031 6 := (zz_rc fS1 rfl rfl (fun h => h) rfl)
  have g5 := zz_G.r G_S1 1042 9 0 600 rfl rfl
  refine zz_callVI [] zd_10_2_7 zk_Run_54 zT_1042 (zz_ltn hn rfl) rfl rfl ⟨Nat.le_of_ble_eq_true rfl, Nat.le_of_ble_eq_true rfl⟩ ⟨rfl, rfl⟩ (Nat.zero_le _) (Nat.zero_le _) (zc_firstForbidden_10_4  S1 n hn G_S1 ) (fun v7 S6 hP => ?_)
  obtain ⟨G_S6, fS6, o8, o9⟩ := hP
  have F_S6 := zz_fr.trans F_S1 fS6 rfl zz_nv
  refine zz_istore_n [some (.ref 1042), some (.ref (zz_rf 4 p0)), some (zi p1), some (zi v7)] zd_10_2_10 (by decide) rfl ?_
  refine zz_iload_n (x := v7) rfl zd_10_2_11 ?_
  refine zz_iconst zd_10_2_12 ?_
  refine zz_icmp_eq (by omega) (by omega) zd_10_2_13 (fun c10 => ?_) (fun c10 => ?_)
  · refine zz_iconst zd_10_2_24 ?_
    refine zz_istore [some (.ref 1042), some (.ref (zz_rf 4 p0)), some (zi p1), some (zi v7), some (zi 0)] zd_10_2_25 (by decide) rfl ?_
    refine zz_iconst zd_10_2_27 ?_
    refine zz_istore [some (.ref 1042), some (.ref (zz_rf 4 p0)), some (zi p1), some (zi v7), some (zi 0), some (zi 0)] zd_10_2_28 (by decide) rfl ?_
    have e11 : S6 1042 9 = S1 1042 9 := (zz_rc fS6 rfl rfl (fun h => h) rfl)
    refine zz_less (ls1 := [some (.ref 1042), none, none, none, some (zi 0), some (zi 0)]) ⟨rfl, ⟨rfl, ⟨rfl, trivial⟩⟩⟩ ?_
    exact k30 0 0 S6 G_S6 F_S6 (by omega) (by omega) (fun u hu => by have h9 : S6 1042 9 = S1 1042 9 := (zz_rc fS6 rfl rfl (fun h => h) rfl); have h8 := (o9 (by omega)) u (by omega); rw [show S1 1031 6 = S0 1031 6 from (zz_rc fS1 rfl rfl (fun h => h) rfl)] at h8; rw [show S6 1044 u = S1 1044 u from (zz_rc fS6 (zz_nc1 rfl) rfl (fun h => h) rfl)]; exact h8)
  · refine zz_aload_n (x := 1042) rfl zd_10_2_16 ?_
    refine zz_iconst zd_10_2_17 ?_
    refine zz_iload_n (x := v7) rfl zd_10_2_18 ?_
    refine zz_iconst zd_10_2_19 ?_
    refine zz_callVV [zi 2, zi v7, zi 0] zd_10_2_20 zk_Run_58 zT_1042 (zz_ltn hn rfl) rfl rfl ⟨Nat.le_of_ble_eq_true rfl, Nat.le_of_ble_eq_true rfl⟩ ⟨rfl, rfl⟩ (Nat.zero_le _) (Nat.zero_le _) (zc_tell_10_5 2 v7 0 S6 n hn G_S6 (by omega) (by omega) (by omega)) (fun S12 hP => ?_)
    obtain ⟨G_S12, fS12⟩ := hP
    have F_S12 := zz_fr.trans F_S6 fS12 rfl zz_nv
    exact zz_vret zd_10_2_23 rfl (Nat.zero_le _) (Nat.zero_le _) ⟨_, rfl, G_S12, F_S12⟩
theorem zk_TF_182 : mm_Vl "TensorForge" 182 5 2 zy_follow_10_2 := ⟨zyw_follow_10_2, (R_Run, F_Run, 10), rfl, mm_tb_1 697 (by decide +kernel) rfl, mm_tb_1 698 (by decide +kernel) rfl, mm_tb_1 699 (by decide +kernel) rfl⟩
theorem zf_TF_186 : mm_Fl "TensorForge" 186 5 1 (.array .int) true := ⟨R_Run, F_Run, 10, t_Run, rfl, i_Run, by decide, mm_tb_1 241 (by decide +kernel) rfl, rfl, t_Run_ok, n_Run, rfl, by decide +kernel⟩
theorem zg_1_15_15 : zq_at zy_run_1_15.2.1 15 42 ∧ zq_at zy_run_1_15.2.1 16 180 ∧ zq_at zy_run_1_15.2.1 17 0 ∧ zq_at zy_run_1_15.2.1 18 42 ∧ zq_at zy_run_1_15.2.1 19 180 ∧ zq_at zy_run_1_15.2.1 20 0 ∧ zq_at zy_run_1_15.2.1 21 186 ∧ zq_at zy_run_1_15.2.1 22 3 ∧ zq_at zy_run_1_15.2.1 23 46 ∧ zq_at zy_run_1_15.2.1 24 172 := by decide +kernel
theorem zd_1_15_15 : zz_D zy_run_1_15 15 (.aload_n 0) 1 16 := ⟨zq_42 zg_1_15_15.1, rfl⟩
theorem zd_1_15_16 : zz_D zy_run_1_15 16 (.getfield 42) 3 19 := ⟨zq_180 zg_1_15_15.2.1 zg_1_15_15.2.2.1 zg_1_15_15.2.2.2.1 rfl, rfl⟩
theorem zd_1_15_19 : zz_D zy_run_1_15 19 (.getfield 186) 3 22 := ⟨zq_180 zg_1_15_15.2.2.2.2.1 zg_1_15_15.2.2.2.2.2.1 zg_1_15_15.2.2.2.2.2.2.1 rfl, rfl⟩
theorem zd_1_15_22 : zz_D zy_run_1_15 22 (.iconst 0) 1 23 := ⟨zq_3 zg_1_15_15.2.2.2.2.2.2.2.1, rfl⟩
theorem zd_1_15_23 : zz_D zy_run_1_15 23 (.iaload) 1 24 := ⟨zq_46 zg_1_15_15.2.2.2.2.2.2.2.2.1, rfl⟩
theorem zd_1_15_24 : zz_D zy_run_1_15 24 (.ireturn) 1 25 := ⟨zq_172 zg_1_15_15.2.2.2.2.2.2.2.2.2, rfl⟩
-- TensorForge run ()I
abbrev zr_run_1_15 : Room := { frames := 7, cells := 0, slots := 0, locals := 123 }
def zp_run_1_15  (S0 : zz_S) : Int → zz_S → Prop := fun r S => zz_G S ∧ zz_fr [(1031, 7), (1031, 8), (1031, 9), (1031, 10), (1031, 11), (1031, 12), (1031, 13), (1038, 0), (1038, 1), (1038, 2), (1038, 3), (1038, 4), (1039, 0), (1039, 1), (1039, 2), (1039, 3), (1039, 4), (1040, 0), (1040, 1), (1040, 2), (1040, 3), (1040, 4), (1041, 0), (1041, 1), (1041, 2), (1041, 3), (1041, 4), (1042, 8), (1042, 9)] [1032, 1033, 1034, 1035, 1036, 1038, 1039, 1040, 1041, 1043, 1044, 1045, 1046, 1047, 1048, 1049, 1051, 1052, 1053, 1054, 1056, 1057, 1058, 1059, 1061, 1062, 1063, 1064, 1066, 1067, 1068, 1069] (fun _ _ => False) S0 S ∧ ((-2147483648) ≤ r ∧ r ≤ 2147483647)
theorem zc_run_1_15 {g : mm_G} {l : Launch}  (S0 : zz_S) (n : Nat) (hn : zz_end ≤ n) (G_S0 : zz_G S0)  : mm_Met g l zy_run_1_15 zr_run_1_15 [.ref 1000] (zz_M S0 n) n (zz_QI n (zp_run_1_15  S0)) := by
  refine zz_enter (by decide) (Nat.le_of_ble_eq_true rfl) (zz_less (ls1 := [some (.ref 1000)]) ⟨rfl, trivial⟩ ?_)
  have F_S0 : zz_fr [(1031, 7), (1031, 8), (1031, 9), (1031, 10), (1031, 11), (1031, 12), (1031, 13), (1038, 0), (1038, 1), (1038, 2), (1038, 3), (1038, 4), (1039, 0), (1039, 1), (1039, 2), (1039, 3), (1039, 4), (1040, 0), (1040, 1), (1040, 2), (1040, 3), (1040, 4), (1041, 0), (1041, 1), (1041, 2), (1041, 3), (1041, 4), (1042, 8), (1042, 9)] [1032, 1033, 1034, 1035, 1036, 1038, 1039, 1040, 1041, 1043, 1044, 1045, 1046, 1047, 1048, 1049, 1051, 1052, 1053, 1054, 1056, 1057, 1058, 1059, 1061, 1062, 1063, 1064, 1066, 1067, 1068, 1069] (fun _ _ => False) S0 S0 := zz_fr.refl
  refine zz_aload_n (x := 1000) rfl zd_1_15_0 ?_
  refine zz_getr (kd := 0) (z := 1042) zd_1_15_1 zf_TF_42 zT_1000 rfl (zz_ltn hn rfl) (zz_G.eq G_S0 1000 1 1042 rfl rfl) (by decide) 1042 rfl ?_
  refine zz_aload_n (x := 1000) rfl zd_1_15_4 ?_
  have g1 := zz_G.r G_S0 1000 9 0 1 rfl rfl
  refine zz_getr (kd := 2) (z := S0 1000 9) zd_1_15_5 zf_TF_19 zT_1000 rfl (zz_ltn hn rfl) rfl (by omega) (zz_rf 4 (S0 1000 9)) rfl ?_
  refine zz_aload_n (x := 1000) rfl zd_1_15_8 ?_
  have g2 := zz_G.r G_S0 1000 11 0 600 rfl rfl
  refine zz_geti (z := S0 1000 11) zd_1_15_9 zf_TF_26 zT_1000 rfl (zz_ltn hn rfl) rfl ?_
  refine zz_callVV [.ref (zz_rf 4 (S0 1000 9)), zi (S0 1000 11)] zd_1_15_12 zk_TF_182 zT_1042 (zz_ltn hn rfl) rfl rfl ⟨Nat.le_of_ble_eq_true rfl, Nat.le_of_ble_eq_true rfl⟩ ⟨rfl, rfl⟩ (Nat.zero_le _) (Nat.zero_le _) (zc_follow_10_2 (S0 1000 9) (S0 1000 11) S0 n hn G_S0 (by omega) (by omega)) (fun S3 hP => ?_)
  obtain ⟨G_S3, fS3⟩ := hP
  have F_S3 := zz_fr.trans F_S0 fS3 rfl zz_nv
  refine zz_aload_n (x := 1000) rfl zd_1_15_15 ?_
  refine zz_getr (kd := 0) (z := 1042) zd_1_15_16 zf_TF_42 zT_1000 rfl (zz_ltn hn rfl) (zz_G.eq G_S3 1000 1 1042 rfl rfl) (by decide) 1042 rfl ?_
  refine zz_getr (kd := 0) (z := 1043) zd_1_15_19 zf_TF_186 zT_1042 rfl (zz_ltn hn rfl) (zz_G.eq G_S3 1042 1 1043 rfl rfl) (by decide) 1043 rfl ?_
  refine zz_iconst zd_1_15_22 ?_
  have g5 := zz_G.r G_S3 1043 0 (-2147483648) 2147483647 rfl rfl
  refine zz_iald (z := S3 1043 0) zd_1_15_23 zT_1043 rfl (zz_ltn hn rfl) (by decide) (by decide) rfl ?_
  exact zz_iret zd_1_15_24 rfl (Nat.zero_le _) (Nat.zero_le _) ⟨_, _, rfl, G_S3, F_S3, by omega⟩
abbrev zy_stopped_1_16 : mm_Y := (⟨"TensorForge", "stopped", "(I)I"⟩, prog_1_method_16_code, 2, (some .int))
theorem zyw_stopped_1_16 : mm_Yw zy_stopped_1_16 1 := ⟨mm_tb_1 1310 (by decide +kernel) rfl, mm_tb_1 1 (by decide +kernel) rfl, ⟨by decide, by decide⟩, by decide +kernel⟩
theorem zt_1_16_10 : zz_Thr zy_stopped_1_16 10 87 189 91 := ⟨by decide +kernel, by decide +kernel, by decide +kernel, by decide +kernel, by decide +kernel⟩
theorem zxl_TF_87_189_91 : mm_Xl "TensorForge" 87 189 91 0 := ⟨mm_tb_1 1048 (by decide +kernel) rfl, mm_tb_1 1049 (by decide +kernel) rfl, mm_tb_1 16 (by decide +kernel) rfl, ⟨46, by decide +kernel⟩, zxa_TF_91⟩
theorem zg_1_16_0 : zq_at zy_stopped_1_16.2.1 0 27 ∧ zq_at zy_stopped_1_16.2.1 1 155 ∧ zq_at zy_stopped_1_16.2.1 2 0 ∧ zq_at zy_stopped_1_16.2.1 3 9 ∧ zq_at zy_stopped_1_16.2.1 4 27 ∧ zq_at zy_stopped_1_16.2.1 5 16 ∧ zq_at zy_stopped_1_16.2.1 6 10 ∧ zq_at zy_stopped_1_16.2.1 7 161 ∧ zq_at zy_stopped_1_16.2.1 8 0 ∧ zq_at zy_stopped_1_16.2.1 9 13 ∧ zq_at zy_stopped_1_16.2.1 20 42 ∧ zq_at zy_stopped_1_16.2.1 21 180 ∧ zq_at zy_stopped_1_16.2.1 22 0 ∧ zq_at zy_stopped_1_16.2.1 23 42 ∧ zq_at zy_stopped_1_16.2.1 24 180 ∧ zq_at zy_stopped_1_16.2.1 25 0 ∧ zq_at zy_stopped_1_16.2.1 26 186 ∧ zq_at zy_stopped_1_16.2.1 27 27 ∧ zq_at zy_stopped_1_16.2.1 28 46 ∧ zq_at zy_stopped_1_16.2.1 29 172 := by decide +kernel
theorem zd_1_16_0 : zz_D zy_stopped_1_16 0 (.iload_n 1) 1 1 := ⟨zq_27 zg_1_16_0.1, rfl⟩
theorem zd_1_16_1 : zz_B zy_stopped_1_16 1 (Instr.ifCond .lt) 10 4 := ⟨9, zq_155 zg_1_16_0.2.1 zg_1_16_0.2.2.1 zg_1_16_0.2.2.2.1 (by decide), rfl, rfl⟩
theorem zd_1_16_4 : zz_D zy_stopped_1_16 4 (.iload_n 1) 1 5 := ⟨zq_27 zg_1_16_0.2.2.2.2.1, rfl⟩
theorem zd_1_16_5 : zz_D zy_stopped_1_16 5 (.bipush 10) 2 7 := ⟨zq_16 zg_1_16_0.2.2.2.2.2.1 zg_1_16_0.2.2.2.2.2.2.1 (by decide), rfl⟩
theorem zd_1_16_7 : zz_B zy_stopped_1_16 7 (Instr.if_icmp .lt) 20 10 := ⟨13, zq_161 zg_1_16_0.2.2.2.2.2.2.2.1 zg_1_16_0.2.2.2.2.2.2.2.2.1 zg_1_16_0.2.2.2.2.2.2.2.2.2.1 (by decide), rfl, rfl⟩
theorem zd_1_16_20 : zz_D zy_stopped_1_16 20 (.aload_n 0) 1 21 := ⟨zq_42 zg_1_16_0.2.2.2.2.2.2.2.2.2.2.1, rfl⟩
theorem zd_1_16_21 : zz_D zy_stopped_1_16 21 (.getfield 42) 3 24 := ⟨zq_180 zg_1_16_0.2.2.2.2.2.2.2.2.2.2.2.1 zg_1_16_0.2.2.2.2.2.2.2.2.2.2.2.2.1 zg_1_16_0.2.2.2.2.2.2.2.2.2.2.2.2.2.1 rfl, rfl⟩
theorem zd_1_16_24 : zz_D zy_stopped_1_16 24 (.getfield 186) 3 27 := ⟨zq_180 zg_1_16_0.2.2.2.2.2.2.2.2.2.2.2.2.2.2.1 zg_1_16_0.2.2.2.2.2.2.2.2.2.2.2.2.2.2.2.1 zg_1_16_0.2.2.2.2.2.2.2.2.2.2.2.2.2.2.2.2.1 rfl, rfl⟩
theorem zd_1_16_27 : zz_D zy_stopped_1_16 27 (.iload_n 1) 1 28 := ⟨zq_27 zg_1_16_0.2.2.2.2.2.2.2.2.2.2.2.2.2.2.2.2.2.1, rfl⟩
theorem zd_1_16_28 : zz_D zy_stopped_1_16 28 (.iaload) 1 29 := ⟨zq_46 zg_1_16_0.2.2.2.2.2.2.2.2.2.2.2.2.2.2.2.2.2.2.1, rfl⟩
theorem zd_1_16_29 : zz_D zy_stopped_1_16 29 (.ireturn) 1 30 := ⟨zq_172 zg_1_16_0.2.2.2.2.2.2.2.2.2.2.2.2.2.2.2.2.2.2.2, rfl⟩
-- TensorForge stopped (I)I
abbrev zr_stopped_1_16 : Room := { frames := 6, cells := 1, slots := 6, locals := 82 }
def zp_stopped_1_16 (p0 : Int) (S0 : zz_S) : Int → zz_S → Prop := fun r S => S0 = S ∧ ((-2147483648) ≤ r ∧ r ≤ 2147483647)
def zx_stopped_1_16 (p0 : Int) (S0 : zz_S) : Nat → zz_S → Prop := fun i S => S0 = S ∧ (i < 4) ∧ (i = 0)
theorem zc_stopped_1_16 {g : mm_G} {l : Launch} (p0 : Int) (S0 : zz_S) (n : Nat) (hn : zz_end ≤ n) (hfl : l.flags = flags0) (G_S0 : zz_G S0) (hp0 : (-2147483648) ≤ p0 ∧ p0 ≤ 2147483647) : mm_Met g l zy_stopped_1_16 zr_stopped_1_16 [.ref 1000, zi p0] (zz_M S0 n) n (zz_XI n (zp_stopped_1_16 p0 S0) (zx_stopped_1_16 p0 S0)) := by
  refine zz_enter (by decide) (Nat.le_of_ble_eq_true rfl) (zz_less (ls1 := [some (.ref 1000), some (zi p0)]) ⟨rfl, ⟨rfl, trivial⟩⟩ ?_)
  refine zz_iload_n (x := p0) rfl zd_1_16_0 ?_
  refine zz_if_lt (by omega) zd_1_16_1 (fun c1 => ?_) (fun c1 => ?_)
  · exact zz_throw (i := 0) hfl hn zt_1_16_10 zyw_stopped_1_16 zxl_TF_87_189_91 (Nat.le_of_ble_eq_true rfl) (Nat.le_of_ble_eq_true rfl) ⟨Nat.le_of_ble_eq_true rfl, Nat.le_of_ble_eq_true rfl⟩ (Or.inr ⟨_, _, rfl, rfl, by omega, by omega⟩)
  · refine zz_iload_n (x := p0) rfl zd_1_16_4 ?_
    refine zz_bipush (by decide) zd_1_16_5 ?_
    refine zz_icmp_lt (by omega) (by omega) zd_1_16_7 (fun c2 => ?_) (fun c2 => ?_)
    · refine zz_aload_n (x := 1000) rfl zd_1_16_20 ?_
      refine zz_getr (kd := 0) (z := 1042) zd_1_16_21 zf_TF_42 zT_1000 rfl (zz_ltn hn rfl) (zz_G.eq G_S0 1000 1 1042 rfl rfl) (by decide) 1042 rfl ?_
      refine zz_getr (kd := 0) (z := 1043) zd_1_16_24 zf_TF_186 zT_1042 rfl (zz_ltn hn rfl) (zz_G.eq G_S0 1042 1 1043 rfl rfl) (by decide) 1043 rfl ?_
      refine zz_iload_n (x := p0) rfl zd_1_16_27 ?_
      have g3 := zz_G.r G_S0 1043 p0.toNat (-2147483648) 2147483647 rfl rfl
      refine zz_iald (z := S0 1043 p0.toNat) zd_1_16_28 zT_1043 rfl (zz_ltn hn rfl) (by decide) (by omega) rfl ?_
      exact zz_iret zd_1_16_29 rfl (Nat.le_of_ble_eq_true rfl) (Nat.le_of_ble_eq_true rfl) (Or.inl ⟨_, _, rfl, rfl, by omega⟩)
    · exact zz_throw (i := 0) hfl hn zt_1_16_10 zyw_stopped_1_16 zxl_TF_87_189_91 (Nat.le_of_ble_eq_true rfl) (Nat.le_of_ble_eq_true rfl) ⟨Nat.le_of_ble_eq_true rfl, Nat.le_of_ble_eq_true rfl⟩ (Or.inr ⟨_, _, rfl, rfl, by omega, by omega⟩)
abbrev zy_instruction_1_17 : mm_Y := (⟨"TensorForge", "instruction", "(II)I"⟩, prog_1_method_17_code, 3, (some .int))
theorem zyw_instruction_1_17 : mm_Yw zy_instruction_1_17 2 := ⟨mm_tb_1 1319 (by decide +kernel) rfl, mm_tb_1 1 (by decide +kernel) rfl, ⟨by decide, by decide⟩, by decide +kernel⟩
abbrev zy_needRun_1_32 : mm_Y := (⟨"TensorForge", "needRun", "()V"⟩, prog_1_method_32_code, 2, none)
theorem zyw_needRun_1_32 : mm_Yw zy_needRun_1_32 0 := ⟨mm_tb_1 1323 (by decide +kernel) rfl, mm_tb_1 1 (by decide +kernel) rfl, ⟨by decide, by decide⟩, by decide +kernel⟩
theorem zt_1_32_19 : zz_ThrW zy_needRun_1_32 19 333 335 337 := ⟨by decide +kernel, by decide +kernel, by decide +kernel, by decide +kernel, by decide +kernel⟩
theorem zxa_TF_337 : ∀ w ∈ Bundle.ownAtoms "TensorForge" 337 (mm_xn 3) ["java/lang/RuntimeException", "java/lang/Exception"], (goodWord w = true ∧ w ∈ tables_1) ∨ w ∈ mm_xs := by decide +kernel
theorem zxl_TF_333_335_337 : mm_Xl "TensorForge" 333 335 337 3 := ⟨mm_tb_1 1324 (by decide +kernel) rfl, mm_tb_1 1325 (by decide +kernel) rfl, mm_tb_1 27 (by decide +kernel) rfl, ⟨47, by decide +kernel⟩, zxa_TF_337⟩
theorem zg_1_17_0 : zq_at zy_instruction_1_17.2.1 0 42 ∧ zq_at zy_instruction_1_17.2.1 1 182 ∧ zq_at zy_instruction_1_17.2.1 2 0 ∧ zq_at zy_instruction_1_17.2.1 3 191 := by decide +kernel
theorem zd_1_17_0 : zz_D zy_instruction_1_17 0 (.aload_n 0) 1 1 := ⟨zq_42 zg_1_17_0.1, rfl⟩
theorem zd_1_17_1 : zz_D zy_instruction_1_17 1 (.invokevirtual 191) 3 4 := ⟨zq_182 zg_1_17_0.2.1 zg_1_17_0.2.2.1 zg_1_17_0.2.2.2 rfl, rfl⟩
theorem zg_1_32_0 : zq_at zy_needRun_1_32.2.1 0 42 ∧ zq_at zy_needRun_1_32.2.1 1 180 ∧ zq_at zy_needRun_1_32.2.1 2 0 ∧ zq_at zy_needRun_1_32.2.1 3 42 ∧ zq_at zy_needRun_1_32.2.1 4 180 ∧ zq_at zy_needRun_1_32.2.1 5 0 ∧ zq_at zy_needRun_1_32.2.1 6 186 ∧ zq_at zy_needRun_1_32.2.1 7 3 ∧ zq_at zy_needRun_1_32.2.1 8 46 ∧ zq_at zy_needRun_1_32.2.1 9 60 ∧ zq_at zy_needRun_1_32.2.1 10 27 ∧ zq_at zy_needRun_1_32.2.1 11 153 ∧ zq_at zy_needRun_1_32.2.1 12 0 ∧ zq_at zy_needRun_1_32.2.1 13 8 ∧ zq_at zy_needRun_1_32.2.1 14 27 ∧ zq_at zy_needRun_1_32.2.1 15 5 ∧ zq_at zy_needRun_1_32.2.1 16 160 ∧ zq_at zy_needRun_1_32.2.1 17 0 ∧ zq_at zy_needRun_1_32.2.1 18 14 ∧ zq_at zy_needRun_1_32.2.1 30 177 := by decide +kernel
theorem zd_1_32_0 : zz_D zy_needRun_1_32 0 (.aload_n 0) 1 1 := ⟨zq_42 zg_1_32_0.1, rfl⟩
theorem zd_1_32_1 : zz_D zy_needRun_1_32 1 (.getfield 42) 3 4 := ⟨zq_180 zg_1_32_0.2.1 zg_1_32_0.2.2.1 zg_1_32_0.2.2.2.1 rfl, rfl⟩
theorem zd_1_32_4 : zz_D zy_needRun_1_32 4 (.getfield 186) 3 7 := ⟨zq_180 zg_1_32_0.2.2.2.2.1 zg_1_32_0.2.2.2.2.2.1 zg_1_32_0.2.2.2.2.2.2.1 rfl, rfl⟩
theorem zd_1_32_7 : zz_D zy_needRun_1_32 7 (.iconst 0) 1 8 := ⟨zq_3 zg_1_32_0.2.2.2.2.2.2.2.1, rfl⟩
theorem zd_1_32_8 : zz_D zy_needRun_1_32 8 (.iaload) 1 9 := ⟨zq_46 zg_1_32_0.2.2.2.2.2.2.2.2.1, rfl⟩
theorem zd_1_32_9 : zz_D zy_needRun_1_32 9 (.istore_n 1) 1 10 := ⟨zq_60 zg_1_32_0.2.2.2.2.2.2.2.2.2.1, rfl⟩
theorem zd_1_32_10 : zz_D zy_needRun_1_32 10 (.iload_n 1) 1 11 := ⟨zq_27 zg_1_32_0.2.2.2.2.2.2.2.2.2.2.1, rfl⟩
theorem zd_1_32_11 : zz_B zy_needRun_1_32 11 (Instr.ifCond .eq) 19 14 := ⟨8, zq_153 zg_1_32_0.2.2.2.2.2.2.2.2.2.2.2.1 zg_1_32_0.2.2.2.2.2.2.2.2.2.2.2.2.1 zg_1_32_0.2.2.2.2.2.2.2.2.2.2.2.2.2.1 (by decide), rfl, rfl⟩
theorem zd_1_32_14 : zz_D zy_needRun_1_32 14 (.iload_n 1) 1 15 := ⟨zq_27 zg_1_32_0.2.2.2.2.2.2.2.2.2.2.2.2.2.2.1, rfl⟩
theorem zd_1_32_15 : zz_D zy_needRun_1_32 15 (.iconst 2) 1 16 := ⟨zq_5 zg_1_32_0.2.2.2.2.2.2.2.2.2.2.2.2.2.2.2.1, rfl⟩
theorem zd_1_32_16 : zz_B zy_needRun_1_32 16 (Instr.if_icmp .ne) 30 19 := ⟨14, zq_160 zg_1_32_0.2.2.2.2.2.2.2.2.2.2.2.2.2.2.2.2.1 zg_1_32_0.2.2.2.2.2.2.2.2.2.2.2.2.2.2.2.2.2.1 zg_1_32_0.2.2.2.2.2.2.2.2.2.2.2.2.2.2.2.2.2.2.1 (by decide), rfl, rfl⟩
theorem zd_1_32_30 : zz_D zy_needRun_1_32 30 (.return_) 1 31 := ⟨zq_177 zg_1_32_0.2.2.2.2.2.2.2.2.2.2.2.2.2.2.2.2.2.2.2, rfl⟩
-- TensorForge needRun ()V
abbrev zr_needRun_1_32 : Room := { frames := 6, cells := 1, slots := 6, locals := 82 }
def zp_needRun_1_32  (S0 : zz_S) : zz_S → Prop := fun S => S0 = S
def zx_needRun_1_32  (S0 : zz_S) : Nat → zz_S → Prop := fun i S => S0 = S ∧ (i < 4) ∧ (i = 3)
theorem zc_needRun_1_32 {g : mm_G} {l : Launch}  (S0 : zz_S) (n : Nat) (hn : zz_end ≤ n) (hfl : l.flags = flags0) (G_S0 : zz_G S0)  : mm_Met g l zy_needRun_1_32 zr_needRun_1_32 [.ref 1000] (zz_M S0 n) n (zz_XV n (zp_needRun_1_32  S0) (zx_needRun_1_32  S0)) := by
  refine zz_enter (by decide) (Nat.le_of_ble_eq_true rfl) (zz_less (ls1 := [some (.ref 1000)]) ⟨rfl, trivial⟩ ?_)
  refine zz_aload_n (x := 1000) rfl zd_1_32_0 ?_
  refine zz_getr (kd := 0) (z := 1042) zd_1_32_1 zf_TF_42 zT_1000 rfl (zz_ltn hn rfl) (zz_G.eq G_S0 1000 1 1042 rfl rfl) (by decide) 1042 rfl ?_
  refine zz_getr (kd := 0) (z := 1043) zd_1_32_4 zf_TF_186 zT_1042 rfl (zz_ltn hn rfl) (zz_G.eq G_S0 1042 1 1043 rfl rfl) (by decide) 1043 rfl ?_
  refine zz_iconst zd_1_32_7 ?_
  have g1 := zz_G.r G_S0 1043 0 (-2147483648) 2147483647 rfl rfl
  refine zz_iald (z := S0 1043 0) zd_1_32_8 zT_1043 rfl (zz_ltn hn rfl) (by decide) (by decide) rfl ?_
  refine zz_istore_n [some (.ref 1000), some (zi (S0 1043 0))] zd_1_32_9 (by decide) rfl ?_
  refine zz_iload_n (x := S0 1043 0) rfl zd_1_32_10 ?_
  refine zz_if_eq (by omega) zd_1_32_11 (fun c2 => ?_) (fun c2 => ?_)
  · exact zz_throwW (i := 3) hfl hn zt_1_32_19 zyw_needRun_1_32 zxl_TF_333_335_337 (Nat.le_of_ble_eq_true rfl) (Nat.le_of_ble_eq_true rfl) ⟨Nat.le_of_ble_eq_true rfl, Nat.le_of_ble_eq_true rfl⟩ (Or.inr ⟨_, _, rfl, rfl, by omega, by omega⟩)
  · refine zz_iload_n (x := S0 1043 0) rfl zd_1_32_14 ?_
    refine zz_iconst zd_1_32_15 ?_
    refine zz_icmp_ne (by omega) (by omega) zd_1_32_16 (fun c3 => ?_) (fun c3 => ?_)
    · exact zz_vret zd_1_32_30 rfl (Nat.le_of_ble_eq_true rfl) (Nat.le_of_ble_eq_true rfl) (Or.inl ⟨_, rfl, rfl⟩)
    · exact zz_throwW (i := 3) hfl hn zt_1_32_19 zyw_needRun_1_32 zxl_TF_333_335_337 (Nat.le_of_ble_eq_true rfl) (Nat.le_of_ble_eq_true rfl) ⟨Nat.le_of_ble_eq_true rfl, Nat.le_of_ble_eq_true rfl⟩ (Or.inr ⟨_, _, rfl, rfl, by omega, by omega⟩)
theorem zk_TF_191 : mm_Vl "TensorForge" 191 0 0 zy_needRun_1_32 := ⟨zyw_needRun_1_32, (R_TF, F_TF, 12), rfl, mm_tb_1 1320 (by decide +kernel) rfl, mm_tb_1 1322 (by decide +kernel) rfl, mm_tb_s 61 (by decide +kernel) rfl⟩
theorem zt_1_17_19 : zz_Thr zy_instruction_1_17 19 101 195 105 := ⟨by decide +kernel, by decide +kernel, by decide +kernel, by decide +kernel, by decide +kernel⟩
theorem zxl_TF_101_195_105 : mm_Xl "TensorForge" 101 195 105 1 := ⟨mm_tb_1 1133 (by decide +kernel) rfl, mm_tb_1 1134 (by decide +kernel) rfl, mm_tb_1 18 (by decide +kernel) rfl, ⟨48, by decide +kernel⟩, zxa_TF_105⟩
theorem zf_TF_194 : mm_Fl "TensorForge" 194 5 9 .int false := ⟨R_Run, F_Run, 10, t_Run, rfl, i_Run, by decide, mm_tb_1 253 (by decide +kernel) rfl, rfl, t_Run_ok, n_Run, rfl, by decide +kernel⟩
theorem zt_1_17_38 : zz_Thr zy_instruction_1_17 38 87 197 91 := ⟨by decide +kernel, by decide +kernel, by decide +kernel, by decide +kernel, by decide +kernel⟩
theorem zxl_TF_87_197_91 : mm_Xl "TensorForge" 87 197 91 0 := ⟨mm_tb_1 1048 (by decide +kernel) rfl, mm_tb_1 1049 (by decide +kernel) rfl, mm_tb_1 16 (by decide +kernel) rfl, ⟨49, by decide +kernel⟩, zxa_TF_91⟩
theorem zf_TF_207 : mm_Fl "TensorForge" 207 5 4 (.array .int) true := ⟨R_Run, F_Run, 10, t_Run, rfl, i_Run, by decide, mm_tb_1 247 (by decide +kernel) rfl, rfl, t_Run_ok, n_Run, rfl, by decide +kernel⟩
theorem zf_TF_204 : mm_Fl "TensorForge" 204 5 3 (.array .int) true := ⟨R_Run, F_Run, 10, t_Run, rfl, i_Run, by decide, mm_tb_1 245 (by decide +kernel) rfl, rfl, t_Run_ok, n_Run, rfl, by decide +kernel⟩
theorem zf_TF_199 : mm_Fl "TensorForge" 199 5 2 (.array .long) true := ⟨R_Run, F_Run, 10, t_Run, rfl, i_Run, by decide, mm_tb_1 243 (by decide +kernel) rfl, rfl, t_Run_ok, n_Run, rfl, by decide +kernel⟩
theorem zk_TF_200 : mm_Sl "TensorForge" 200 1 zy_unitOf_12_10 := ⟨zyw_unitOf_12_10, mm_tb_1 1342 (by decide +kernel) rfl, mm_tb_1 520 (by decide +kernel) rfl⟩
theorem zg_1_17_4 : zq_at zy_instruction_1_17.2.1 4 27 ∧ zq_at zy_instruction_1_17.2.1 5 155 ∧ zq_at zy_instruction_1_17.2.1 6 0 ∧ zq_at zy_instruction_1_17.2.1 7 14 ∧ zq_at zy_instruction_1_17.2.1 8 27 ∧ zq_at zy_instruction_1_17.2.1 9 42 ∧ zq_at zy_instruction_1_17.2.1 10 180 ∧ zq_at zy_instruction_1_17.2.1 11 0 ∧ zq_at zy_instruction_1_17.2.1 12 42 ∧ zq_at zy_instruction_1_17.2.1 13 180 ∧ zq_at zy_instruction_1_17.2.1 14 0 ∧ zq_at zy_instruction_1_17.2.1 15 194 ∧ zq_at zy_instruction_1_17.2.1 16 161 ∧ zq_at zy_instruction_1_17.2.1 17 0 ∧ zq_at zy_instruction_1_17.2.1 18 13 ∧ zq_at zy_instruction_1_17.2.1 29 28 ∧ zq_at zy_instruction_1_17.2.1 30 155 ∧ zq_at zy_instruction_1_17.2.1 31 0 ∧ zq_at zy_instruction_1_17.2.1 32 8 ∧ zq_at zy_instruction_1_17.2.1 33 28 ∧ zq_at zy_instruction_1_17.2.1 34 5 ∧ zq_at zy_instruction_1_17.2.1 35 164 ∧ zq_at zy_instruction_1_17.2.1 36 0 ∧ zq_at zy_instruction_1_17.2.1 37 13 := by decide +kernel
theorem zd_1_17_4 : zz_D zy_instruction_1_17 4 (.iload_n 1) 1 5 := ⟨zq_27 zg_1_17_4.1, rfl⟩
theorem zd_1_17_5 : zz_B zy_instruction_1_17 5 (Instr.ifCond .lt) 19 8 := ⟨14, zq_155 zg_1_17_4.2.1 zg_1_17_4.2.2.1 zg_1_17_4.2.2.2.1 (by decide), rfl, rfl⟩
theorem zd_1_17_8 : zz_D zy_instruction_1_17 8 (.iload_n 1) 1 9 := ⟨zq_27 zg_1_17_4.2.2.2.2.1, rfl⟩
theorem zd_1_17_9 : zz_D zy_instruction_1_17 9 (.aload_n 0) 1 10 := ⟨zq_42 zg_1_17_4.2.2.2.2.2.1, rfl⟩
theorem zd_1_17_10 : zz_D zy_instruction_1_17 10 (.getfield 42) 3 13 := ⟨zq_180 zg_1_17_4.2.2.2.2.2.2.1 zg_1_17_4.2.2.2.2.2.2.2.1 zg_1_17_4.2.2.2.2.2.2.2.2.1 rfl, rfl⟩
theorem zd_1_17_13 : zz_D zy_instruction_1_17 13 (.getfield 194) 3 16 := ⟨zq_180 zg_1_17_4.2.2.2.2.2.2.2.2.2.1 zg_1_17_4.2.2.2.2.2.2.2.2.2.2.1 zg_1_17_4.2.2.2.2.2.2.2.2.2.2.2.1 rfl, rfl⟩
theorem zd_1_17_16 : zz_B zy_instruction_1_17 16 (Instr.if_icmp .lt) 29 19 := ⟨13, zq_161 zg_1_17_4.2.2.2.2.2.2.2.2.2.2.2.2.1 zg_1_17_4.2.2.2.2.2.2.2.2.2.2.2.2.2.1 zg_1_17_4.2.2.2.2.2.2.2.2.2.2.2.2.2.2.1 (by decide), rfl, rfl⟩
theorem zd_1_17_29 : zz_D zy_instruction_1_17 29 (.iload_n 2) 1 30 := ⟨zq_28 zg_1_17_4.2.2.2.2.2.2.2.2.2.2.2.2.2.2.2.1, rfl⟩
theorem zd_1_17_30 : zz_B zy_instruction_1_17 30 (Instr.ifCond .lt) 38 33 := ⟨8, zq_155 zg_1_17_4.2.2.2.2.2.2.2.2.2.2.2.2.2.2.2.2.1 zg_1_17_4.2.2.2.2.2.2.2.2.2.2.2.2.2.2.2.2.2.1 zg_1_17_4.2.2.2.2.2.2.2.2.2.2.2.2.2.2.2.2.2.2.1 (by decide), rfl, rfl⟩
theorem zd_1_17_33 : zz_D zy_instruction_1_17 33 (.iload_n 2) 1 34 := ⟨zq_28 zg_1_17_4.2.2.2.2.2.2.2.2.2.2.2.2.2.2.2.2.2.2.2.1, rfl⟩
theorem zd_1_17_34 : zz_D zy_instruction_1_17 34 (.iconst 2) 1 35 := ⟨zq_5 zg_1_17_4.2.2.2.2.2.2.2.2.2.2.2.2.2.2.2.2.2.2.2.2.1, rfl⟩
theorem zd_1_17_35 : zz_B zy_instruction_1_17 35 (Instr.if_icmp .le) 48 38 := ⟨13, zq_164 zg_1_17_4.2.2.2.2.2.2.2.2.2.2.2.2.2.2.2.2.2.2.2.2.2.1 zg_1_17_4.2.2.2.2.2.2.2.2.2.2.2.2.2.2.2.2.2.2.2.2.2.2.1 zg_1_17_4.2.2.2.2.2.2.2.2.2.2.2.2.2.2.2.2.2.2.2.2.2.2.2 (by decide), rfl, rfl⟩
theorem zg_1_17_48 : zq_at zy_instruction_1_17.2.1 48 28 ∧ zq_at zy_instruction_1_17.2.1 49 154 ∧ zq_at zy_instruction_1_17.2.1 50 0 ∧ zq_at zy_instruction_1_17.2.1 51 16 ∧ zq_at zy_instruction_1_17.2.1 65 28 ∧ zq_at zy_instruction_1_17.2.1 66 4 ∧ zq_at zy_instruction_1_17.2.1 67 160 ∧ zq_at zy_instruction_1_17.2.1 68 0 ∧ zq_at zy_instruction_1_17.2.1 69 15 ∧ zq_at zy_instruction_1_17.2.1 82 42 ∧ zq_at zy_instruction_1_17.2.1 83 180 ∧ zq_at zy_instruction_1_17.2.1 84 0 ∧ zq_at zy_instruction_1_17.2.1 85 42 ∧ zq_at zy_instruction_1_17.2.1 86 180 ∧ zq_at zy_instruction_1_17.2.1 87 0 ∧ zq_at zy_instruction_1_17.2.1 88 207 ∧ zq_at zy_instruction_1_17.2.1 89 27 ∧ zq_at zy_instruction_1_17.2.1 90 46 ∧ zq_at zy_instruction_1_17.2.1 91 172 ∧ zq_at zy_instruction_1_17.2.1 70 42 ∧ zq_at zy_instruction_1_17.2.1 71 180 ∧ zq_at zy_instruction_1_17.2.1 72 0 ∧ zq_at zy_instruction_1_17.2.1 73 42 := by decide +kernel
theorem zd_1_17_48 : zz_D zy_instruction_1_17 48 (.iload_n 2) 1 49 := ⟨zq_28 zg_1_17_48.1, rfl⟩
theorem zd_1_17_49 : zz_B zy_instruction_1_17 49 (Instr.ifCond .ne) 65 52 := ⟨16, zq_154 zg_1_17_48.2.1 zg_1_17_48.2.2.1 zg_1_17_48.2.2.2.1 (by decide), rfl, rfl⟩
theorem zd_1_17_65 : zz_D zy_instruction_1_17 65 (.iload_n 2) 1 66 := ⟨zq_28 zg_1_17_48.2.2.2.2.1, rfl⟩
theorem zd_1_17_66 : zz_D zy_instruction_1_17 66 (.iconst 1) 1 67 := ⟨zq_4 zg_1_17_48.2.2.2.2.2.1, rfl⟩
theorem zd_1_17_67 : zz_B zy_instruction_1_17 67 (Instr.if_icmp .ne) 82 70 := ⟨15, zq_160 zg_1_17_48.2.2.2.2.2.2.1 zg_1_17_48.2.2.2.2.2.2.2.1 zg_1_17_48.2.2.2.2.2.2.2.2.1 (by decide), rfl, rfl⟩
theorem zd_1_17_82 : zz_D zy_instruction_1_17 82 (.aload_n 0) 1 83 := ⟨zq_42 zg_1_17_48.2.2.2.2.2.2.2.2.2.1, rfl⟩
theorem zd_1_17_83 : zz_D zy_instruction_1_17 83 (.getfield 42) 3 86 := ⟨zq_180 zg_1_17_48.2.2.2.2.2.2.2.2.2.2.1 zg_1_17_48.2.2.2.2.2.2.2.2.2.2.2.1 zg_1_17_48.2.2.2.2.2.2.2.2.2.2.2.2.1 rfl, rfl⟩
theorem zd_1_17_86 : zz_D zy_instruction_1_17 86 (.getfield 207) 3 89 := ⟨zq_180 zg_1_17_48.2.2.2.2.2.2.2.2.2.2.2.2.2.1 zg_1_17_48.2.2.2.2.2.2.2.2.2.2.2.2.2.2.1 zg_1_17_48.2.2.2.2.2.2.2.2.2.2.2.2.2.2.2.1 rfl, rfl⟩
theorem zd_1_17_89 : zz_D zy_instruction_1_17 89 (.iload_n 1) 1 90 := ⟨zq_27 zg_1_17_48.2.2.2.2.2.2.2.2.2.2.2.2.2.2.2.2.1, rfl⟩
theorem zd_1_17_90 : zz_D zy_instruction_1_17 90 (.iaload) 1 91 := ⟨zq_46 zg_1_17_48.2.2.2.2.2.2.2.2.2.2.2.2.2.2.2.2.2.1, rfl⟩
theorem zd_1_17_91 : zz_D zy_instruction_1_17 91 (.ireturn) 1 92 := ⟨zq_172 zg_1_17_48.2.2.2.2.2.2.2.2.2.2.2.2.2.2.2.2.2.2.1, rfl⟩
theorem zd_1_17_70 : zz_D zy_instruction_1_17 70 (.aload_n 0) 1 71 := ⟨zq_42 zg_1_17_48.2.2.2.2.2.2.2.2.2.2.2.2.2.2.2.2.2.2.2.1, rfl⟩
theorem zd_1_17_71 : zz_D zy_instruction_1_17 71 (.getfield 42) 3 74 := ⟨zq_180 zg_1_17_48.2.2.2.2.2.2.2.2.2.2.2.2.2.2.2.2.2.2.2.2.1 zg_1_17_48.2.2.2.2.2.2.2.2.2.2.2.2.2.2.2.2.2.2.2.2.2.1 zg_1_17_48.2.2.2.2.2.2.2.2.2.2.2.2.2.2.2.2.2.2.2.2.2.2 rfl, rfl⟩
theorem zg_1_17_74 : zq_at zy_instruction_1_17.2.1 74 180 ∧ zq_at zy_instruction_1_17.2.1 75 0 ∧ zq_at zy_instruction_1_17.2.1 76 204 ∧ zq_at zy_instruction_1_17.2.1 77 27 ∧ zq_at zy_instruction_1_17.2.1 78 46 ∧ zq_at zy_instruction_1_17.2.1 79 167 ∧ zq_at zy_instruction_1_17.2.1 80 0 ∧ zq_at zy_instruction_1_17.2.1 81 12 ∧ zq_at zy_instruction_1_17.2.1 52 42 ∧ zq_at zy_instruction_1_17.2.1 53 180 ∧ zq_at zy_instruction_1_17.2.1 54 0 ∧ zq_at zy_instruction_1_17.2.1 55 42 ∧ zq_at zy_instruction_1_17.2.1 56 180 ∧ zq_at zy_instruction_1_17.2.1 57 0 ∧ zq_at zy_instruction_1_17.2.1 58 199 ∧ zq_at zy_instruction_1_17.2.1 59 27 ∧ zq_at zy_instruction_1_17.2.1 60 47 ∧ zq_at zy_instruction_1_17.2.1 61 184 ∧ zq_at zy_instruction_1_17.2.1 62 0 ∧ zq_at zy_instruction_1_17.2.1 63 200 ∧ zq_at zy_instruction_1_17.2.1 64 172 := by decide +kernel
theorem zd_1_17_74 : zz_D zy_instruction_1_17 74 (.getfield 204) 3 77 := ⟨zq_180 zg_1_17_74.1 zg_1_17_74.2.1 zg_1_17_74.2.2.1 rfl, rfl⟩
theorem zd_1_17_77 : zz_D zy_instruction_1_17 77 (.iload_n 1) 1 78 := ⟨zq_27 zg_1_17_74.2.2.2.1, rfl⟩
theorem zd_1_17_78 : zz_D zy_instruction_1_17 78 (.iaload) 1 79 := ⟨zq_46 zg_1_17_74.2.2.2.2.1, rfl⟩
theorem zd_1_17_79 : zz_B zy_instruction_1_17 79 Instr.goto 91 82 := ⟨12, zq_167 zg_1_17_74.2.2.2.2.2.1 zg_1_17_74.2.2.2.2.2.2.1 zg_1_17_74.2.2.2.2.2.2.2.1 (by decide), rfl, rfl⟩
theorem zd_1_17_52 : zz_D zy_instruction_1_17 52 (.aload_n 0) 1 53 := ⟨zq_42 zg_1_17_74.2.2.2.2.2.2.2.2.1, rfl⟩
theorem zd_1_17_53 : zz_D zy_instruction_1_17 53 (.getfield 42) 3 56 := ⟨zq_180 zg_1_17_74.2.2.2.2.2.2.2.2.2.1 zg_1_17_74.2.2.2.2.2.2.2.2.2.2.1 zg_1_17_74.2.2.2.2.2.2.2.2.2.2.2.1 rfl, rfl⟩
theorem zd_1_17_56 : zz_D zy_instruction_1_17 56 (.getfield 199) 3 59 := ⟨zq_180 zg_1_17_74.2.2.2.2.2.2.2.2.2.2.2.2.1 zg_1_17_74.2.2.2.2.2.2.2.2.2.2.2.2.2.1 zg_1_17_74.2.2.2.2.2.2.2.2.2.2.2.2.2.2.1 rfl, rfl⟩
theorem zd_1_17_59 : zz_D zy_instruction_1_17 59 (.iload_n 1) 1 60 := ⟨zq_27 zg_1_17_74.2.2.2.2.2.2.2.2.2.2.2.2.2.2.2.1, rfl⟩
theorem zd_1_17_60 : zz_D zy_instruction_1_17 60 (.laload) 1 61 := ⟨zq_47 zg_1_17_74.2.2.2.2.2.2.2.2.2.2.2.2.2.2.2.2.1, rfl⟩
theorem zd_1_17_61 : zz_D zy_instruction_1_17 61 (.invokestatic 200) 3 64 := ⟨zq_184 zg_1_17_74.2.2.2.2.2.2.2.2.2.2.2.2.2.2.2.2.2.1 zg_1_17_74.2.2.2.2.2.2.2.2.2.2.2.2.2.2.2.2.2.2.1 zg_1_17_74.2.2.2.2.2.2.2.2.2.2.2.2.2.2.2.2.2.2.2.1 rfl, rfl⟩
theorem zd_1_17_64 : zz_D zy_instruction_1_17 64 (.ireturn) 1 65 := ⟨zq_172 zg_1_17_74.2.2.2.2.2.2.2.2.2.2.2.2.2.2.2.2.2.2.2.2, rfl⟩
-- TensorForge instruction (II)I
abbrev zr_instruction_1_17 : Room := { frames := 7, cells := 2, slots := 12, locals := 95 }
def zp_instruction_1_17 (p0 : Int) (p1 : Int) (S0 : zz_S) : Int → zz_S → Prop := fun r S => S0 = S ∧ ((-2147483648) ≤ r ∧ r ≤ 2147483647)
def zx_instruction_1_17 (p0 : Int) (p1 : Int) (S0 : zz_S) : Nat → zz_S → Prop := fun i S => S0 = S ∧ (i < 4) ∧ (i = 0 ∨ i = 1 ∨ i = 3)
theorem zc_instruction_1_17 {g : mm_G} {l : Launch} (p0 : Int) (p1 : Int) (S0 : zz_S) (n : Nat) (hn : zz_end ≤ n) (hfl : l.flags = flags0) (G_S0 : zz_G S0) (hp0 : (-2147483648) ≤ p0 ∧ p0 ≤ 2147483647) (hp1 : (-2147483648) ≤ p1 ∧ p1 ≤ 2147483647) : mm_Met g l zy_instruction_1_17 zr_instruction_1_17 [.ref 1000, zi p0, zi p1] (zz_M S0 n) n (zz_XI n (zp_instruction_1_17 p0 p1 S0) (zx_instruction_1_17 p0 p1 S0)) := by
  refine zz_enter (by decide) (Nat.le_of_ble_eq_true rfl) (zz_less (ls1 := [some (.ref 1000), some (zi p0), some (zi p1)]) ⟨rfl, ⟨rfl, ⟨rfl, trivial⟩⟩⟩ ?_)
  refine zz_aload_n (x := 1000) rfl zd_1_17_0 ?_
  refine zz_callVXV [] zd_1_17_1 zk_TF_191 zT_1000 (zz_ltn hn rfl) rfl rfl ⟨Nat.le_of_ble_eq_true rfl, Nat.le_of_ble_eq_true rfl⟩ (Nat.le_of_ble_eq_true rfl) (Nat.le_of_ble_eq_true rfl) (zc_needRun_1_32  S0 n hn hfl G_S0 ) zyw_instruction_1_17 (fun i SX hX => by obtain ⟨rfl, x0, x1⟩ := hX; exact Or.inr ⟨_, _, rfl, rfl, by omega, by omega⟩) (fun S3 hP => ?_)
  obtain ⟨rfl⟩ := hP
  refine zz_iload_n (x := p0) rfl zd_1_17_4 ?_
  refine zz_if_lt (by omega) zd_1_17_5 (fun c5 => ?_) (fun c5 => ?_)
  · exact zz_throw (i := 1) hfl hn zt_1_17_19 zyw_instruction_1_17 zxl_TF_101_195_105 (Nat.le_of_ble_eq_true rfl) (Nat.le_of_ble_eq_true rfl) ⟨Nat.le_of_ble_eq_true rfl, Nat.le_of_ble_eq_true rfl⟩ (Or.inr ⟨_, _, rfl, rfl, by omega, by omega⟩)
  · refine zz_iload_n (x := p0) rfl zd_1_17_8 ?_
    refine zz_aload_n (x := 1000) rfl zd_1_17_9 ?_
    refine zz_getr (kd := 0) (z := 1042) zd_1_17_10 zf_TF_42 zT_1000 rfl (zz_ltn hn rfl) (zz_G.eq G_S0 1000 1 1042 rfl rfl) (by decide) 1042 rfl ?_
    have g6 := zz_G.r G_S0 1042 9 0 600 rfl rfl
    refine zz_geti (z := S0 1042 9) zd_1_17_13 zf_TF_194 zT_1042 rfl (zz_ltn hn rfl) rfl ?_
    refine zz_icmp_lt (by omega) (by omega) zd_1_17_16 (fun c7 => ?_) (fun c7 => ?_)
    · refine zz_iload_n (x := p1) rfl zd_1_17_29 ?_
      refine zz_if_lt (by omega) zd_1_17_30 (fun c8 => ?_) (fun c8 => ?_)
      · exact zz_throw (i := 0) hfl hn zt_1_17_38 zyw_instruction_1_17 zxl_TF_87_197_91 (Nat.le_of_ble_eq_true rfl) (Nat.le_of_ble_eq_true rfl) ⟨Nat.le_of_ble_eq_true rfl, Nat.le_of_ble_eq_true rfl⟩ (Or.inr ⟨_, _, rfl, rfl, by omega, by omega⟩)
      · refine zz_iload_n (x := p1) rfl zd_1_17_33 ?_
        refine zz_iconst zd_1_17_34 ?_
        refine zz_icmp_le (by omega) (by omega) zd_1_17_35 (fun c9 => ?_) (fun c9 => ?_)
        · refine zz_iload_n (x := p1) rfl zd_1_17_48 ?_
          refine zz_if_ne (by omega) zd_1_17_49 (fun c10 => ?_) (fun c10 => ?_)
          · refine zz_iload_n (x := p1) rfl zd_1_17_65 ?_
            refine zz_iconst zd_1_17_66 ?_
            refine zz_icmp_ne (by omega) (by omega) zd_1_17_67 (fun c11 => ?_) (fun c11 => ?_)
            · refine zz_aload_n (x := 1000) rfl zd_1_17_82 ?_
              refine zz_getr (kd := 0) (z := 1042) zd_1_17_83 zf_TF_42 zT_1000 rfl (zz_ltn hn rfl) (zz_G.eq G_S0 1000 1 1042 rfl rfl) (by decide) 1042 rfl ?_
              refine zz_getr (kd := 0) (z := 1046) zd_1_17_86 zf_TF_207 zT_1042 rfl (zz_ltn hn rfl) (zz_G.eq G_S0 1042 4 1046 rfl rfl) (by decide) 1046 rfl ?_
              refine zz_iload_n (x := p0) rfl zd_1_17_89 ?_
              have g12 := zz_G.r G_S0 1046 p0.toNat (-2147483648) 2147483647 rfl rfl
              refine zz_iald (z := S0 1046 p0.toNat) zd_1_17_90 zT_1046 rfl (zz_ltn hn rfl) (by decide) (by omega) rfl ?_
              exact zz_iret zd_1_17_91 rfl (Nat.le_of_ble_eq_true rfl) (Nat.le_of_ble_eq_true rfl) (Or.inl ⟨_, _, rfl, rfl, by omega⟩)
            · refine zz_aload_n (x := 1000) rfl zd_1_17_70 ?_
              refine zz_getr (kd := 0) (z := 1042) zd_1_17_71 zf_TF_42 zT_1000 rfl (zz_ltn hn rfl) (zz_G.eq G_S0 1000 1 1042 rfl rfl) (by decide) 1042 rfl ?_
              refine zz_getr (kd := 0) (z := 1045) zd_1_17_74 zf_TF_204 zT_1042 rfl (zz_ltn hn rfl) (zz_G.eq G_S0 1042 3 1045 rfl rfl) (by decide) 1045 rfl ?_
              refine zz_iload_n (x := p0) rfl zd_1_17_77 ?_
              have g13 := zz_G.r G_S0 1045 p0.toNat (-2147483648) 2147483647 rfl rfl
              refine zz_iald (z := S0 1045 p0.toNat) zd_1_17_78 zT_1045 rfl (zz_ltn hn rfl) (by decide) (by omega) rfl ?_
              refine zz_goto zd_1_17_79 ?_
              exact zz_iret zd_1_17_91 rfl (Nat.le_of_ble_eq_true rfl) (Nat.le_of_ble_eq_true rfl) (Or.inl ⟨_, _, rfl, rfl, by omega⟩)
          · refine zz_aload_n (x := 1000) rfl zd_1_17_52 ?_
            refine zz_getr (kd := 0) (z := 1042) zd_1_17_53 zf_TF_42 zT_1000 rfl (zz_ltn hn rfl) (zz_G.eq G_S0 1000 1 1042 rfl rfl) (by decide) 1042 rfl ?_
            refine zz_getr (kd := 0) (z := 1044) zd_1_17_56 zf_TF_199 zT_1042 rfl (zz_ltn hn rfl) (zz_G.eq G_S0 1042 2 1044 rfl rfl) (by decide) 1044 rfl ?_
            refine zz_iload_n (x := p0) rfl zd_1_17_59 ?_
            have g14 := zz_G.r G_S0 1044 p0.toNat (-9223372036854775808) 9223372036854775807 rfl rfl
            refine zz_lald (z := S0 1044 p0.toNat) zd_1_17_60 zT_1044 rfl (zz_ltn hn rfl) (by decide) (by omega) rfl ?_
            refine zz_callSI [zl (S0 1044 p0.toNat)] zd_1_17_61 zk_TF_200 rfl rfl ⟨Nat.le_of_ble_eq_true rfl, Nat.le_of_ble_eq_true rfl⟩ ⟨rfl, rfl⟩ (Nat.le_of_ble_eq_true rfl) (Nat.le_of_ble_eq_true rfl) (zc_unitOf_12_10 (S0 1044 p0.toNat) S0 n hn G_S0 (by omega)) (fun v16 S15 hP => ?_)
            obtain ⟨rfl, o17, o18⟩ := hP
            exact zz_iret zd_1_17_64 rfl (Nat.le_of_ble_eq_true rfl) (Nat.le_of_ble_eq_true rfl) (Or.inl ⟨_, _, rfl, rfl, by omega⟩)
        · exact zz_throw (i := 0) hfl hn zt_1_17_38 zyw_instruction_1_17 zxl_TF_87_197_91 (Nat.le_of_ble_eq_true rfl) (Nat.le_of_ble_eq_true rfl) ⟨Nat.le_of_ble_eq_true rfl, Nat.le_of_ble_eq_true rfl⟩ (Or.inr ⟨_, _, rfl, rfl, by omega, by omega⟩)
    · exact zz_throw (i := 1) hfl hn zt_1_17_19 zyw_instruction_1_17 zxl_TF_101_195_105 (Nat.le_of_ble_eq_true rfl) (Nat.le_of_ble_eq_true rfl) ⟨Nat.le_of_ble_eq_true rfl, Nat.le_of_ble_eq_true rfl⟩ (Or.inr ⟨_, _, rfl, rfl, by omega, by omega⟩)
abbrev zy_input_1_18 : mm_Y := (⟨"TensorForge", "input", "(III)V"⟩, prog_1_method_18_code, 4, none)
theorem zyw_input_1_18 : mm_Yw zy_input_1_18 3 := ⟨mm_tb_1 1349 (by decide +kernel) rfl, mm_tb_1 1 (by decide +kernel) rfl, ⟨by decide, by decide⟩, by decide +kernel⟩
abbrev zy_inputFits_7_2 : mm_Y := (⟨"TensorForge$Network", "inputFits", "(III)Z"⟩, prog_7_method_2_code, 3, (some .boolean))
theorem zyw_inputFits_7_2 : mm_Yw zy_inputFits_7_2 3 := ⟨mm_tb_1 1024 (by decide +kernel) rfl, mm_tb_1 2 (by decide +kernel) rfl, ⟨by decide, by decide⟩, by decide +kernel⟩
abbrev zy_isWithin_4_9 : mm_Y := (⟨"TensorForge$Layer", "isWithin", "(III)Z"⟩, prog_4_method_9_code, 3, (some .boolean))
theorem zyw_isWithin_4_9 : mm_Yw zy_isWithin_4_9 3 := ⟨mm_tb_1 1000 (by decide +kernel) rfl, mm_tb_1 3 (by decide +kernel) rfl, ⟨by decide, by decide⟩, by decide +kernel⟩
theorem zg_1_18_0 : zq_at zy_input_1_18.2.1 0 27 ∧ zq_at zy_input_1_18.2.1 1 28 ∧ zq_at zy_input_1_18.2.1 2 29 ∧ zq_at zy_input_1_18.2.1 3 184 ∧ zq_at zy_input_1_18.2.1 4 0 ∧ zq_at zy_input_1_18.2.1 5 210 := by decide +kernel
theorem zd_1_18_0 : zz_D zy_input_1_18 0 (.iload_n 1) 1 1 := ⟨zq_27 zg_1_18_0.1, rfl⟩
theorem zd_1_18_1 : zz_D zy_input_1_18 1 (.iload_n 2) 1 2 := ⟨zq_28 zg_1_18_0.2.1, rfl⟩
theorem zd_1_18_2 : zz_D zy_input_1_18 2 (.iload_n 3) 1 3 := ⟨zq_29 zg_1_18_0.2.2.1, rfl⟩
theorem zd_1_18_3 : zz_D zy_input_1_18 3 (.invokestatic 210) 3 6 := ⟨zq_184 zg_1_18_0.2.2.2.1 zg_1_18_0.2.2.2.2.1 zg_1_18_0.2.2.2.2.2 rfl, rfl⟩
theorem zg_7_2_0 : zq_at zy_inputFits_7_2.2.1 0 26 ∧ zq_at zy_inputFits_7_2.2.1 1 4 ∧ zq_at zy_inputFits_7_2.2.1 2 16 ∧ zq_at zy_inputFits_7_2.2.1 3 63 ∧ zq_at zy_inputFits_7_2.2.1 4 184 ∧ zq_at zy_inputFits_7_2.2.1 5 0 ∧ zq_at zy_inputFits_7_2.2.1 6 20 := by decide +kernel
theorem zd_7_2_0 : zz_D zy_inputFits_7_2 0 (.iload_n 0) 1 1 := ⟨zq_26 zg_7_2_0.1, rfl⟩
theorem zd_7_2_1 : zz_D zy_inputFits_7_2 1 (.iconst 1) 1 2 := ⟨zq_4 zg_7_2_0.2.1, rfl⟩
theorem zd_7_2_2 : zz_D zy_inputFits_7_2 2 (.bipush 63) 2 4 := ⟨zq_16 zg_7_2_0.2.2.1 zg_7_2_0.2.2.2.1 (by decide), rfl⟩
theorem zd_7_2_4 : zz_D zy_inputFits_7_2 4 (.invokestatic 20) 3 7 := ⟨zq_184 zg_7_2_0.2.2.2.2.1 zg_7_2_0.2.2.2.2.2.1 zg_7_2_0.2.2.2.2.2.2 rfl, rfl⟩
theorem zg_4_9_0 : zq_at zy_isWithin_4_9.2.1 0 26 ∧ zq_at zy_isWithin_4_9.2.1 1 27 ∧ zq_at zy_isWithin_4_9.2.1 2 161 ∧ zq_at zy_isWithin_4_9.2.1 3 0 ∧ zq_at zy_isWithin_4_9.2.1 4 12 ∧ zq_at zy_isWithin_4_9.2.1 14 3 ∧ zq_at zy_isWithin_4_9.2.1 15 172 ∧ zq_at zy_isWithin_4_9.2.1 5 26 ∧ zq_at zy_isWithin_4_9.2.1 6 28 ∧ zq_at zy_isWithin_4_9.2.1 7 163 ∧ zq_at zy_isWithin_4_9.2.1 8 0 ∧ zq_at zy_isWithin_4_9.2.1 9 7 ∧ zq_at zy_isWithin_4_9.2.1 10 4 ∧ zq_at zy_isWithin_4_9.2.1 11 167 ∧ zq_at zy_isWithin_4_9.2.1 12 0 ∧ zq_at zy_isWithin_4_9.2.1 13 4 := by decide +kernel
theorem zd_4_9_0 : zz_D zy_isWithin_4_9 0 (.iload_n 0) 1 1 := ⟨zq_26 zg_4_9_0.1, rfl⟩
theorem zd_4_9_1 : zz_D zy_isWithin_4_9 1 (.iload_n 1) 1 2 := ⟨zq_27 zg_4_9_0.2.1, rfl⟩
theorem zd_4_9_2 : zz_B zy_isWithin_4_9 2 (Instr.if_icmp .lt) 14 5 := ⟨12, zq_161 zg_4_9_0.2.2.1 zg_4_9_0.2.2.2.1 zg_4_9_0.2.2.2.2.1 (by decide), rfl, rfl⟩
theorem zd_4_9_14 : zz_D zy_isWithin_4_9 14 (.iconst 0) 1 15 := ⟨zq_3 zg_4_9_0.2.2.2.2.2.1, rfl⟩
theorem zd_4_9_15 : zz_D zy_isWithin_4_9 15 (.ireturn) 1 16 := ⟨zq_172 zg_4_9_0.2.2.2.2.2.2.1, rfl⟩
theorem zd_4_9_5 : zz_D zy_isWithin_4_9 5 (.iload_n 0) 1 6 := ⟨zq_26 zg_4_9_0.2.2.2.2.2.2.2.1, rfl⟩
theorem zd_4_9_6 : zz_D zy_isWithin_4_9 6 (.iload_n 2) 1 7 := ⟨zq_28 zg_4_9_0.2.2.2.2.2.2.2.2.1, rfl⟩
theorem zd_4_9_7 : zz_B zy_isWithin_4_9 7 (Instr.if_icmp .gt) 14 10 := ⟨7, zq_163 zg_4_9_0.2.2.2.2.2.2.2.2.2.1 zg_4_9_0.2.2.2.2.2.2.2.2.2.2.1 zg_4_9_0.2.2.2.2.2.2.2.2.2.2.2.1 (by decide), rfl, rfl⟩
theorem zd_4_9_10 : zz_D zy_isWithin_4_9 10 (.iconst 1) 1 11 := ⟨zq_4 zg_4_9_0.2.2.2.2.2.2.2.2.2.2.2.2.1, rfl⟩
theorem zd_4_9_11 : zz_B zy_isWithin_4_9 11 Instr.goto 15 14 := ⟨4, zq_167 zg_4_9_0.2.2.2.2.2.2.2.2.2.2.2.2.2.1 zg_4_9_0.2.2.2.2.2.2.2.2.2.2.2.2.2.2.1 zg_4_9_0.2.2.2.2.2.2.2.2.2.2.2.2.2.2.2 (by decide), rfl, rfl⟩
-- TensorForge$Layer isWithin (III)Z
abbrev zr_isWithin_4_9 : Room := { frames := 0, cells := 0, slots := 0, locals := 0 }
def zp_isWithin_4_9 (p0 : Int) (p1 : Int) (p2 : Int) (S0 : zz_S) : Int → zz_S → Prop := fun r S => S0 = S ∧ (0 ≤ r ∧ r ≤ 1) ∧ ((r = 1 ∧ p1 ≤ p0 ∧ p0 ≤ p2) ∨ (r = 0 ∧ (p0 < p1 ∨ p2 < p0)))
theorem zc_isWithin_4_9 {g : mm_G} {l : Launch} (p0 : Int) (p1 : Int) (p2 : Int) (S0 : zz_S) (n : Nat) (hn : zz_end ≤ n) (G_S0 : zz_G S0) (hp0 : (-2147483648) ≤ p0 ∧ p0 ≤ 2147483647) (hp1 : (-2147483648) ≤ p1 ∧ p1 ≤ 2147483647) (hp2 : (-2147483648) ≤ p2 ∧ p2 ≤ 2147483647) : mm_Met g l zy_isWithin_4_9 zr_isWithin_4_9 [zi p0, zi p1, zi p2] (zz_M S0 n) n (zz_QI n (zp_isWithin_4_9 p0 p1 p2 S0)) := by
  refine zz_enter (by decide) (Nat.le_of_ble_eq_true rfl) (zz_less (ls1 := [some (zi p0), some (zi p1), some (zi p2)]) ⟨rfl, ⟨rfl, ⟨rfl, trivial⟩⟩⟩ ?_)
  refine zz_iload_n (x := p0) rfl zd_4_9_0 ?_
  refine zz_iload_n (x := p1) rfl zd_4_9_1 ?_
  refine zz_icmp_lt (by omega) (by omega) zd_4_9_2 (fun c1 => ?_) (fun c1 => ?_)
  · refine zz_iconst zd_4_9_14 ?_
    exact zz_zret zd_4_9_15 rfl (by omega) (Nat.zero_le _) (Nat.zero_le _) ⟨_, _, rfl, rfl, by omega, by omega⟩
  · refine zz_iload_n (x := p0) rfl zd_4_9_5 ?_
    refine zz_iload_n (x := p2) rfl zd_4_9_6 ?_
    refine zz_icmp_gt (by omega) (by omega) zd_4_9_7 (fun c2 => ?_) (fun c2 => ?_)
    · refine zz_iconst zd_4_9_14 ?_
      exact zz_zret zd_4_9_15 rfl (by omega) (Nat.zero_le _) (Nat.zero_le _) ⟨_, _, rfl, rfl, by omega, by omega⟩
    · refine zz_iconst zd_4_9_10 ?_
      refine zz_goto zd_4_9_11 ?_
      exact zz_zret zd_4_9_15 rfl (by omega) (Nat.zero_le _) (Nat.zero_le _) ⟨_, _, rfl, rfl, by omega, by omega⟩
theorem zk_Network_20 : mm_Sl "TensorForge$Network" 20 3 zy_isWithin_4_9 := ⟨zyw_isWithin_4_9, mm_tb_1 1025 (by decide +kernel) rfl, mm_tb_1 999 (by decide +kernel) rfl⟩
theorem zg_7_2_7 : zq_at zy_inputFits_7_2.2.1 7 153 ∧ zq_at zy_inputFits_7_2.2.1 8 0 ∧ zq_at zy_inputFits_7_2.2.1 9 38 ∧ zq_at zy_inputFits_7_2.2.1 45 3 ∧ zq_at zy_inputFits_7_2.2.1 46 172 ∧ zq_at zy_inputFits_7_2.2.1 10 27 ∧ zq_at zy_inputFits_7_2.2.1 11 4 ∧ zq_at zy_inputFits_7_2.2.1 12 16 ∧ zq_at zy_inputFits_7_2.2.1 13 63 ∧ zq_at zy_inputFits_7_2.2.1 14 184 ∧ zq_at zy_inputFits_7_2.2.1 15 0 ∧ zq_at zy_inputFits_7_2.2.1 16 20 ∧ zq_at zy_inputFits_7_2.2.1 17 153 ∧ zq_at zy_inputFits_7_2.2.1 18 0 ∧ zq_at zy_inputFits_7_2.2.1 19 28 ∧ zq_at zy_inputFits_7_2.2.1 20 28 ∧ zq_at zy_inputFits_7_2.2.1 21 4 ∧ zq_at zy_inputFits_7_2.2.1 22 16 ∧ zq_at zy_inputFits_7_2.2.1 23 63 ∧ zq_at zy_inputFits_7_2.2.1 24 184 ∧ zq_at zy_inputFits_7_2.2.1 25 0 ∧ zq_at zy_inputFits_7_2.2.1 26 20 := by decide +kernel
theorem zd_7_2_7 : zz_B zy_inputFits_7_2 7 (Instr.ifCond .eq) 45 10 := ⟨38, zq_153 zg_7_2_7.1 zg_7_2_7.2.1 zg_7_2_7.2.2.1 (by decide), rfl, rfl⟩
theorem zd_7_2_45 : zz_D zy_inputFits_7_2 45 (.iconst 0) 1 46 := ⟨zq_3 zg_7_2_7.2.2.2.1, rfl⟩
theorem zd_7_2_46 : zz_D zy_inputFits_7_2 46 (.ireturn) 1 47 := ⟨zq_172 zg_7_2_7.2.2.2.2.1, rfl⟩
theorem zd_7_2_10 : zz_D zy_inputFits_7_2 10 (.iload_n 1) 1 11 := ⟨zq_27 zg_7_2_7.2.2.2.2.2.1, rfl⟩
theorem zd_7_2_11 : zz_D zy_inputFits_7_2 11 (.iconst 1) 1 12 := ⟨zq_4 zg_7_2_7.2.2.2.2.2.2.1, rfl⟩
theorem zd_7_2_12 : zz_D zy_inputFits_7_2 12 (.bipush 63) 2 14 := ⟨zq_16 zg_7_2_7.2.2.2.2.2.2.2.1 zg_7_2_7.2.2.2.2.2.2.2.2.1 (by decide), rfl⟩
theorem zd_7_2_14 : zz_D zy_inputFits_7_2 14 (.invokestatic 20) 3 17 := ⟨zq_184 zg_7_2_7.2.2.2.2.2.2.2.2.2.1 zg_7_2_7.2.2.2.2.2.2.2.2.2.2.1 zg_7_2_7.2.2.2.2.2.2.2.2.2.2.2.1 rfl, rfl⟩
theorem zd_7_2_17 : zz_B zy_inputFits_7_2 17 (Instr.ifCond .eq) 45 20 := ⟨28, zq_153 zg_7_2_7.2.2.2.2.2.2.2.2.2.2.2.2.1 zg_7_2_7.2.2.2.2.2.2.2.2.2.2.2.2.2.1 zg_7_2_7.2.2.2.2.2.2.2.2.2.2.2.2.2.2.1 (by decide), rfl, rfl⟩
theorem zd_7_2_20 : zz_D zy_inputFits_7_2 20 (.iload_n 2) 1 21 := ⟨zq_28 zg_7_2_7.2.2.2.2.2.2.2.2.2.2.2.2.2.2.2.1, rfl⟩
theorem zd_7_2_21 : zz_D zy_inputFits_7_2 21 (.iconst 1) 1 22 := ⟨zq_4 zg_7_2_7.2.2.2.2.2.2.2.2.2.2.2.2.2.2.2.2.1, rfl⟩
theorem zd_7_2_22 : zz_D zy_inputFits_7_2 22 (.bipush 63) 2 24 := ⟨zq_16 zg_7_2_7.2.2.2.2.2.2.2.2.2.2.2.2.2.2.2.2.2.1 zg_7_2_7.2.2.2.2.2.2.2.2.2.2.2.2.2.2.2.2.2.2.1 (by decide), rfl⟩
theorem zd_7_2_24 : zz_D zy_inputFits_7_2 24 (.invokestatic 20) 3 27 := ⟨zq_184 zg_7_2_7.2.2.2.2.2.2.2.2.2.2.2.2.2.2.2.2.2.2.2.1 zg_7_2_7.2.2.2.2.2.2.2.2.2.2.2.2.2.2.2.2.2.2.2.2.1 zg_7_2_7.2.2.2.2.2.2.2.2.2.2.2.2.2.2.2.2.2.2.2.2.2 rfl, rfl⟩
theorem zg_7_2_27 : zq_at zy_inputFits_7_2.2.1 27 153 ∧ zq_at zy_inputFits_7_2.2.1 28 0 ∧ zq_at zy_inputFits_7_2.2.1 29 18 ∧ zq_at zy_inputFits_7_2.2.1 30 26 ∧ zq_at zy_inputFits_7_2.2.1 31 27 ∧ zq_at zy_inputFits_7_2.2.1 32 104 ∧ zq_at zy_inputFits_7_2.2.1 33 28 ∧ zq_at zy_inputFits_7_2.2.1 34 104 ∧ zq_at zy_inputFits_7_2.2.1 35 17 ∧ zq_at zy_inputFits_7_2.2.1 36 8 ∧ zq_at zy_inputFits_7_2.2.1 37 0 ∧ zq_at zy_inputFits_7_2.2.1 38 163 ∧ zq_at zy_inputFits_7_2.2.1 39 0 ∧ zq_at zy_inputFits_7_2.2.1 40 7 ∧ zq_at zy_inputFits_7_2.2.1 41 4 ∧ zq_at zy_inputFits_7_2.2.1 42 167 ∧ zq_at zy_inputFits_7_2.2.1 43 0 ∧ zq_at zy_inputFits_7_2.2.1 44 4 := by decide +kernel
theorem zd_7_2_27 : zz_B zy_inputFits_7_2 27 (Instr.ifCond .eq) 45 30 := ⟨18, zq_153 zg_7_2_27.1 zg_7_2_27.2.1 zg_7_2_27.2.2.1 (by decide), rfl, rfl⟩
theorem zd_7_2_30 : zz_D zy_inputFits_7_2 30 (.iload_n 0) 1 31 := ⟨zq_26 zg_7_2_27.2.2.2.1, rfl⟩
theorem zd_7_2_31 : zz_D zy_inputFits_7_2 31 (.iload_n 1) 1 32 := ⟨zq_27 zg_7_2_27.2.2.2.2.1, rfl⟩
theorem zd_7_2_32 : zz_D zy_inputFits_7_2 32 (.imul) 1 33 := ⟨zq_104 zg_7_2_27.2.2.2.2.2.1, rfl⟩
theorem zd_7_2_33 : zz_D zy_inputFits_7_2 33 (.iload_n 2) 1 34 := ⟨zq_28 zg_7_2_27.2.2.2.2.2.2.1, rfl⟩
theorem zd_7_2_34 : zz_D zy_inputFits_7_2 34 (.imul) 1 35 := ⟨zq_104 zg_7_2_27.2.2.2.2.2.2.2.1, rfl⟩
theorem zd_7_2_35 : zz_D zy_inputFits_7_2 35 (.sipush 2048) 3 38 := ⟨zq_17 zg_7_2_27.2.2.2.2.2.2.2.2.1 zg_7_2_27.2.2.2.2.2.2.2.2.2.1 zg_7_2_27.2.2.2.2.2.2.2.2.2.2.1 (by decide), rfl⟩
theorem zd_7_2_38 : zz_B zy_inputFits_7_2 38 (Instr.if_icmp .gt) 45 41 := ⟨7, zq_163 zg_7_2_27.2.2.2.2.2.2.2.2.2.2.2.1 zg_7_2_27.2.2.2.2.2.2.2.2.2.2.2.2.1 zg_7_2_27.2.2.2.2.2.2.2.2.2.2.2.2.2.1 (by decide), rfl, rfl⟩
theorem zd_7_2_41 : zz_D zy_inputFits_7_2 41 (.iconst 1) 1 42 := ⟨zq_4 zg_7_2_27.2.2.2.2.2.2.2.2.2.2.2.2.2.2.1, rfl⟩
theorem zd_7_2_42 : zz_B zy_inputFits_7_2 42 Instr.goto 46 45 := ⟨4, zq_167 zg_7_2_27.2.2.2.2.2.2.2.2.2.2.2.2.2.2.2.1 zg_7_2_27.2.2.2.2.2.2.2.2.2.2.2.2.2.2.2.2.1 zg_7_2_27.2.2.2.2.2.2.2.2.2.2.2.2.2.2.2.2.2 (by decide), rfl, rfl⟩
-- TensorForge$Network inputFits (III)Z
abbrev zr_inputFits_7_2 : Room := { frames := 1, cells := 0, slots := 0, locals := 14 }
def zp_inputFits_7_2 (p0 : Int) (p1 : Int) (p2 : Int) (S0 : zz_S) : Int → zz_S → Prop := fun r S => S0 = S ∧ (0 ≤ r ∧ r ≤ 1) ∧ ((r = 1 ∧ 1 ≤ p0 ∧ p0 ≤ 63 ∧ 1 ≤ p1 ∧ p1 ≤ 63 ∧ 1 ≤ p2 ∧ p2 ≤ 63 ∧ (p0 * p1) * p2 ≤ 2048) ∨ (r = 0 ∧ (p0 < 1 ∨ 63 < p0 ∨ p1 < 1 ∨ 63 < p1 ∨ p2 < 1 ∨ 63 < p2 ∨ 2048 < (p0 * p1) * p2)))
theorem zc_inputFits_7_2 {g : mm_G} {l : Launch} (p0 : Int) (p1 : Int) (p2 : Int) (S0 : zz_S) (n : Nat) (hn : zz_end ≤ n) (G_S0 : zz_G S0) (hp0 : (-2147483648) ≤ p0 ∧ p0 ≤ 2147483647) (hp1 : (-2147483648) ≤ p1 ∧ p1 ≤ 2147483647) (hp2 : (-2147483648) ≤ p2 ∧ p2 ≤ 2147483647) : mm_Met g l zy_inputFits_7_2 zr_inputFits_7_2 [zi p0, zi p1, zi p2] (zz_M S0 n) n (zz_QI n (zp_inputFits_7_2 p0 p1 p2 S0)) := by
  refine zz_enter (by decide) (Nat.le_of_ble_eq_true rfl) (zz_less (ls1 := [some (zi p0), some (zi p1), some (zi p2)]) ⟨rfl, ⟨rfl, ⟨rfl, trivial⟩⟩⟩ ?_)
  refine zz_iload_n (x := p0) rfl zd_7_2_0 ?_
  refine zz_iconst zd_7_2_1 ?_
  refine zz_bipush (by decide) zd_7_2_2 ?_
  refine zz_callSI [zi p0, zi 1, zi 63] zd_7_2_4 zk_Network_20 rfl rfl ⟨Nat.le_of_ble_eq_true rfl, Nat.le_of_ble_eq_true rfl⟩ ⟨rfl, rfl⟩ (Nat.zero_le _) (Nat.zero_le _) (zc_isWithin_4_9 p0 1 63 S0 n hn G_S0 (by omega) (by omega) (by omega)) (fun v2 S1 hP => ?_)
  obtain ⟨rfl, o3, o4⟩ := hP
  rcases (by omega : v2 = 0 ∨ v2 = 1) with rfl | rfl
  · refine zz_if_eq (by omega) zd_7_2_7 (fun c5 => ?_) (fun c5 => ?_)
    · refine zz_iconst zd_7_2_45 ?_
      exact zz_zret zd_7_2_46 rfl (by omega) (Nat.zero_le _) (Nat.zero_le _) ⟨_, _, rfl, rfl, by omega, by omega⟩
    · exfalso; omega
  · refine zz_if_eq (by omega) zd_7_2_7 (fun c6 => ?_) (fun c6 => ?_)
    · exfalso; omega
    · refine zz_iload_n (x := p1) rfl zd_7_2_10 ?_
      refine zz_iconst zd_7_2_11 ?_
      refine zz_bipush (by decide) zd_7_2_12 ?_
      refine zz_callSI [zi p1, zi 1, zi 63] zd_7_2_14 zk_Network_20 rfl rfl ⟨Nat.le_of_ble_eq_true rfl, Nat.le_of_ble_eq_true rfl⟩ ⟨rfl, rfl⟩ (Nat.zero_le _) (Nat.zero_le _) (zc_isWithin_4_9 p1 1 63 S0 n hn G_S0 (by omega) (by omega) (by omega)) (fun v8 S7 hP => ?_)
      obtain ⟨rfl, o9, o10⟩ := hP
      rcases (by omega : v8 = 0 ∨ v8 = 1) with rfl | rfl
      · refine zz_if_eq (by omega) zd_7_2_17 (fun c11 => ?_) (fun c11 => ?_)
        · refine zz_iconst zd_7_2_45 ?_
          exact zz_zret zd_7_2_46 rfl (by omega) (Nat.zero_le _) (Nat.zero_le _) ⟨_, _, rfl, rfl, by omega, by omega⟩
        · exfalso; omega
      · refine zz_if_eq (by omega) zd_7_2_17 (fun c12 => ?_) (fun c12 => ?_)
        · exfalso; omega
        · refine zz_iload_n (x := p2) rfl zd_7_2_20 ?_
          refine zz_iconst zd_7_2_21 ?_
          refine zz_bipush (by decide) zd_7_2_22 ?_
          refine zz_callSI [zi p2, zi 1, zi 63] zd_7_2_24 zk_Network_20 rfl rfl ⟨Nat.le_of_ble_eq_true rfl, Nat.le_of_ble_eq_true rfl⟩ ⟨rfl, rfl⟩ (Nat.zero_le _) (Nat.zero_le _) (zc_isWithin_4_9 p2 1 63 S0 n hn G_S0 (by omega) (by omega) (by omega)) (fun v14 S13 hP => ?_)
          obtain ⟨rfl, o15, o16⟩ := hP
          rcases (by omega : v14 = 0 ∨ v14 = 1) with rfl | rfl
          · refine zz_if_eq (by omega) zd_7_2_27 (fun c17 => ?_) (fun c17 => ?_)
            · refine zz_iconst zd_7_2_45 ?_
              exact zz_zret zd_7_2_46 rfl (by omega) (Nat.zero_le _) (Nat.zero_le _) ⟨_, _, rfl, rfl, by omega, by omega⟩
            · exfalso; omega
          · refine zz_if_eq (by omega) zd_7_2_27 (fun c18 => ?_) (fun c18 => ?_)
            · exfalso; omega
            · skip
              refine zz_iload_n (x := p0) rfl zd_7_2_30 ?_
              refine zz_iload_n (x := p1) rfl zd_7_2_31 ?_
              refine zz_imul zd_7_2_32 ?_
              have m19 := zz_mulb (a := p0) (b := p1) 63 63 3969 (by omega) (by omega) (by decide)
              refine zz_iload_n (x := p2) rfl zd_7_2_33 ?_
              refine zz_imul zd_7_2_34 ?_
              have m20 := zz_mulb (a := p0 * p1) (b := p2) 3969 63 250047 (by omega) (by omega) (by decide)
              refine zz_sipush (by decide) zd_7_2_35 ?_
              refine zz_icmp_gt (by omega) (by omega) zd_7_2_38 (fun c21 => ?_) (fun c21 => ?_)
              · refine zz_iconst zd_7_2_45 ?_
                exact zz_zret zd_7_2_46 rfl (by omega) (Nat.zero_le _) (Nat.zero_le _) ⟨_, _, rfl, rfl, by omega, by omega⟩
              · refine zz_iconst zd_7_2_41 ?_
                refine zz_goto zd_7_2_42 ?_
                exact zz_zret zd_7_2_46 rfl (by omega) (Nat.zero_le _) (Nat.zero_le _) ⟨_, _, rfl, rfl, by omega, by omega⟩
theorem zk_TF_210 : mm_Sl "TensorForge" 210 3 zy_inputFits_7_2 := ⟨zyw_inputFits_7_2, mm_tb_1 1350 (by decide +kernel) rfl, mm_tb_1 1023 (by decide +kernel) rfl⟩
theorem zt_1_18_9 : zz_Thr zy_input_1_18 9 87 214 91 := ⟨by decide +kernel, by decide +kernel, by decide +kernel, by decide +kernel, by decide +kernel⟩
theorem zxl_TF_87_214_91 : mm_Xl "TensorForge" 87 214 91 0 := ⟨mm_tb_1 1048 (by decide +kernel) rfl, mm_tb_1 1049 (by decide +kernel) rfl, mm_tb_1 16 (by decide +kernel) rfl, ⟨50, by decide +kernel⟩, zxa_TF_91⟩
abbrev zy_beginWith_7_3 : mm_Y := (⟨"TensorForge$Network", "beginWith", "(III)V"⟩, prog_7_method_3_code, 4, none)
theorem zyw_beginWith_7_3 : mm_Yw zy_beginWith_7_3 3 := ⟨mm_tb_1 1029 (by decide +kernel) rfl, mm_tb_1 2 (by decide +kernel) rfl, ⟨by decide, by decide⟩, by decide +kernel⟩
theorem zk_Network_24 : mm_Vl "TensorForge$Network" 24 1 0 zy_dropLayers_7_4 := ⟨zyw_dropLayers_7_4, (R_Network, F_Network, 2), rfl, mm_tb_1 1030 (by decide +kernel) rfl, mm_tb_1 1031 (by decide +kernel) rfl, mm_tb_1 1032 (by decide +kernel) rfl⟩
theorem zg_1_18_6 : zq_at zy_input_1_18.2.1 6 154 ∧ zq_at zy_input_1_18.2.1 7 0 ∧ zq_at zy_input_1_18.2.1 8 13 ∧ zq_at zy_input_1_18.2.1 19 42 ∧ zq_at zy_input_1_18.2.1 20 180 ∧ zq_at zy_input_1_18.2.1 21 0 ∧ zq_at zy_input_1_18.2.1 22 10 ∧ zq_at zy_input_1_18.2.1 23 27 ∧ zq_at zy_input_1_18.2.1 24 28 ∧ zq_at zy_input_1_18.2.1 25 29 ∧ zq_at zy_input_1_18.2.1 26 182 ∧ zq_at zy_input_1_18.2.1 27 0 ∧ zq_at zy_input_1_18.2.1 28 216 := by decide +kernel
theorem zd_1_18_6 : zz_B zy_input_1_18 6 (Instr.ifCond .ne) 19 9 := ⟨13, zq_154 zg_1_18_6.1 zg_1_18_6.2.1 zg_1_18_6.2.2.1 (by decide), rfl, rfl⟩
theorem zd_1_18_19 : zz_D zy_input_1_18 19 (.aload_n 0) 1 20 := ⟨zq_42 zg_1_18_6.2.2.2.1, rfl⟩
theorem zd_1_18_20 : zz_D zy_input_1_18 20 (.getfield 10) 3 23 := ⟨zq_180 zg_1_18_6.2.2.2.2.1 zg_1_18_6.2.2.2.2.2.1 zg_1_18_6.2.2.2.2.2.2.1 rfl, rfl⟩
theorem zd_1_18_23 : zz_D zy_input_1_18 23 (.iload_n 1) 1 24 := ⟨zq_27 zg_1_18_6.2.2.2.2.2.2.2.1, rfl⟩
theorem zd_1_18_24 : zz_D zy_input_1_18 24 (.iload_n 2) 1 25 := ⟨zq_28 zg_1_18_6.2.2.2.2.2.2.2.2.1, rfl⟩
theorem zd_1_18_25 : zz_D zy_input_1_18 25 (.iload_n 3) 1 26 := ⟨zq_29 zg_1_18_6.2.2.2.2.2.2.2.2.2.1, rfl⟩
theorem zd_1_18_26 : zz_D zy_input_1_18 26 (.invokevirtual 216) 3 29 := ⟨zq_182 zg_1_18_6.2.2.2.2.2.2.2.2.2.2.1 zg_1_18_6.2.2.2.2.2.2.2.2.2.2.2.1 zg_1_18_6.2.2.2.2.2.2.2.2.2.2.2.2 rfl, rfl⟩
theorem zg_7_3_0 : zq_at zy_beginWith_7_3.2.1 0 42 ∧ zq_at zy_beginWith_7_3.2.1 1 182 ∧ zq_at zy_beginWith_7_3.2.1 2 0 ∧ zq_at zy_beginWith_7_3.2.1 3 24 ∧ zq_at zy_beginWith_7_3.2.1 4 42 ∧ zq_at zy_beginWith_7_3.2.1 5 180 ∧ zq_at zy_beginWith_7_3.2.1 6 0 ∧ zq_at zy_beginWith_7_3.2.1 7 11 ∧ zq_at zy_beginWith_7_3.2.1 8 3 ∧ zq_at zy_beginWith_7_3.2.1 9 50 ∧ zq_at zy_beginWith_7_3.2.1 10 3 ∧ zq_at zy_beginWith_7_3.2.1 11 3 ∧ zq_at zy_beginWith_7_3.2.1 12 3 ∧ zq_at zy_beginWith_7_3.2.1 13 182 ∧ zq_at zy_beginWith_7_3.2.1 14 0 ∧ zq_at zy_beginWith_7_3.2.1 15 27 := by decide +kernel
theorem zd_7_3_0 : zz_D zy_beginWith_7_3 0 (.aload_n 0) 1 1 := ⟨zq_42 zg_7_3_0.1, rfl⟩
theorem zd_7_3_1 : zz_D zy_beginWith_7_3 1 (.invokevirtual 24) 3 4 := ⟨zq_182 zg_7_3_0.2.1 zg_7_3_0.2.2.1 zg_7_3_0.2.2.2.1 rfl, rfl⟩
theorem zd_7_3_4 : zz_D zy_beginWith_7_3 4 (.aload_n 0) 1 5 := ⟨zq_42 zg_7_3_0.2.2.2.2.1, rfl⟩
theorem zd_7_3_5 : zz_D zy_beginWith_7_3 5 (.getfield 11) 3 8 := ⟨zq_180 zg_7_3_0.2.2.2.2.2.1 zg_7_3_0.2.2.2.2.2.2.1 zg_7_3_0.2.2.2.2.2.2.2.1 rfl, rfl⟩
theorem zd_7_3_8 : zz_D zy_beginWith_7_3 8 (.iconst 0) 1 9 := ⟨zq_3 zg_7_3_0.2.2.2.2.2.2.2.2.1, rfl⟩
theorem zd_7_3_9 : zz_D zy_beginWith_7_3 9 (.aaload) 1 10 := ⟨zq_50 zg_7_3_0.2.2.2.2.2.2.2.2.2.1, rfl⟩
theorem zd_7_3_10 : zz_D zy_beginWith_7_3 10 (.iconst 0) 1 11 := ⟨zq_3 zg_7_3_0.2.2.2.2.2.2.2.2.2.2.1, rfl⟩
theorem zd_7_3_11 : zz_D zy_beginWith_7_3 11 (.iconst 0) 1 12 := ⟨zq_3 zg_7_3_0.2.2.2.2.2.2.2.2.2.2.2.1, rfl⟩
theorem zd_7_3_12 : zz_D zy_beginWith_7_3 12 (.iconst 0) 1 13 := ⟨zq_3 zg_7_3_0.2.2.2.2.2.2.2.2.2.2.2.2.1, rfl⟩
theorem zd_7_3_13 : zz_D zy_beginWith_7_3 13 (.invokevirtual 27) 3 16 := ⟨zq_182 zg_7_3_0.2.2.2.2.2.2.2.2.2.2.2.2.2.1 zg_7_3_0.2.2.2.2.2.2.2.2.2.2.2.2.2.2.1 zg_7_3_0.2.2.2.2.2.2.2.2.2.2.2.2.2.2.2 rfl, rfl⟩

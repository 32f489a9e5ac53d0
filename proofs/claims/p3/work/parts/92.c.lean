-- TensorForge$Run popsUpTo (III)I
abbrev zr_popsUpTo_10_28 : Room := { frames := 2, cells := 0, slots := 0, locals := 28 }
def zp_popsUpTo_10_28 (p0 : Int) (p1 : Int) (p2 : Int) (S0 : zz_S) : Int → zz_S → Prop := fun r S => S0 = S ∧ ((-2147483648) ≤ r ∧ r ≤ 2147483647)
theorem zb_popsUpTo_10_28_6 {g : mm_G} {l : Launch} (p0 : Int) (p1 : Int) (p2 : Int) (S0 : zz_S) (n : Nat) (hn : zz_end ≤ n) (G_S0 : zz_G S0) (hp0 : (-2147483648) ≤ p0 ∧ p0 ≤ 2147483647) (hp1 : (-2147483648) ≤ p1 ∧ p1 ≤ 2147483647) (hp2 : (-2147483648) ≤ p2 ∧ p2 ≤ 2147483647) (x4 : Int) (x5 : Int) (S : zz_S) (G_S : zz_G S) (F_S : zz_fr [] [] (fun _ _ => False) S0 S) (i6_0 : (-2147483648) ≤ x4 ∧ x4 ≤ 2147483647) (i6_1 : 0 ≤ x5 ∧ x5 ≤ 600) (R : Nat) (hR : (S0 1042 9 - x5).toNat = R) (k6 : ∀ (x4 : Int) (x5 : Int) (S : zz_S), zz_G S → zz_fr [] [] (fun _ _ => False) S0 S → ((-2147483648) ≤ x4 ∧ x4 ≤ 2147483647) → (0 ≤ x5 ∧ x5 ≤ 600) → (S0 1042 9 - x5).toNat < R → zz_E g l zy_popsUpTo_10_28 zr_popsUpTo_10_28 (zz_QI n (zp_popsUpTo_10_28 p0 p1 p2 S0)) S n 6 [some (.ref 1042), some (zi p0), some (zi p1), some (zi p2), some (zi x4), some (zi x5)] [] 0 0) : zz_E g l zy_popsUpTo_10_28 zr_popsUpTo_10_28 (zz_QI n (zp_popsUpTo_10_28 p0 p1 p2 S0)) S n 6 [some (.ref 1042), some (zi p0), some (zi p1), some (zi p2), some (zi x4), some (zi x5)] [] 0 0 := by
  refine zz_iload (x := x5) rfl zd_10_28_6 ?_
  refine zz_aload_n (x := 1042) rfl zd_10_28_8 ?_
  have g2 := zz_G.r G_S0 1042 9 0 600 rfl rfl
  refine zz_geti (z := S0 1042 9) zd_10_28_9 zf_Run_46 zT_1042 rfl (zz_ltn hn rfl) (zz_rc F_S rfl rfl (fun h => h) rfl) ?_
  refine zz_icmp_ge (by omega) (by omega) zd_10_28_12 (fun c3 => ?_) (fun c3 => ?_)
  · refine zz_iload (x := x4) rfl zd_10_28_61 ?_
    exact zz_iret zd_10_28_63 rfl (Nat.zero_le _) (Nat.zero_le _) ⟨_, _, rfl, zz_fr.eq F_S, by omega⟩
  · refine zz_aload_n (x := 1042) rfl zd_10_28_15 ?_
    refine zz_getr (kd := 0) (z := 1044) zd_10_28_16 zf_Run_19 zT_1042 rfl (zz_ltn hn rfl) (zz_G.eq G_S 1042 2 1044 rfl rfl) (by decide) 1044 rfl ?_
    refine zz_iload (x := x5) rfl zd_10_28_19 ?_
    have g4 := zz_G.r G_S0 1044 x5.toNat (-9223372036854775808) 9223372036854775807 rfl rfl
    refine zz_lald (z := S0 1044 x5.toNat) zd_10_28_21 zT_1044 rfl (zz_ltn hn rfl) (by decide) (by omega) (zz_rc F_S (zz_nc1 rfl) rfl (fun h => h) rfl) ?_
    refine zz_callSI [zl (S0 1044 x5.toNat)] zd_10_28_22 zk_Run_107 rfl rfl ⟨Nat.le_of_ble_eq_true rfl, Nat.le_of_ble_eq_true rfl⟩ ⟨rfl, rfl⟩ (Nat.zero_le _) (Nat.zero_le _) (zc_unitOf_12_10 (S0 1044 x5.toNat) S n hn G_S (by omega)) (fun v6 S5 hP => ?_)
    obtain ⟨rfl, o7⟩ := hP
    refine zz_iload_n (x := p0) rfl zd_10_28_25 ?_
    refine zz_icmp_ne (by omega) (by omega) zd_10_28_26 (fun c8 => ?_) (fun c8 => ?_)
    · refine zz_iinc [some (.ref 1042), some (zi p0), some (zi p1), some (zi p2), some (zi x4), some (zi (x5 + 1))] zd_10_28_55 rfl rfl ?_
      refine zz_goto zd_10_28_58 ?_
      refine zz_less (ls1 := [some (.ref 1042), some (zi p0), some (zi p1), some (zi p2), some (zi x4), some (zi (x5 + 1))]) ⟨rfl, ⟨rfl, ⟨rfl, ⟨rfl, ⟨rfl, ⟨rfl, trivial⟩⟩⟩⟩⟩⟩ ?_
      exact k6 x4 (x5 + 1) S G_S F_S (by omega) (by omega) (by omega)
    · refine zz_aload_n (x := 1042) rfl zd_10_28_29 ?_
      refine zz_iload (x := x5) rfl zd_10_28_30 ?_
      refine zz_iload_n (x := p2) rfl zd_10_28_32 ?_
      refine zz_callVI [zi x5, zi p2] zd_10_28_33 zk_Run_176 zT_1042 (zz_ltn hn rfl) rfl rfl ⟨Nat.le_of_ble_eq_true rfl, Nat.le_of_ble_eq_true rfl⟩ ⟨rfl, rfl⟩ (Nat.zero_le _) (Nat.zero_le _) (zc_hadBegun_10_22 x5 p2 S n hn G_S (by omega) (by omega)) (fun v10 S9 hP => ?_)
      obtain ⟨rfl, o11⟩ := hP
      rcases (by omega : v10 = 0 ∨ v10 = 1) with rfl | rfl
      · refine zz_if_eq (by omega) zd_10_28_36 (fun c12 => ?_) (fun c12 => ?_)
        · refine zz_iinc [some (.ref 1042), some (zi p0), some (zi p1), some (zi p2), some (zi x4), some (zi (x5 + 1))] zd_10_28_55 rfl rfl ?_
          refine zz_goto zd_10_28_58 ?_
          refine zz_less (ls1 := [some (.ref 1042), some (zi p0), some (zi p1), some (zi p2), some (zi x4), some (zi (x5 + 1))]) ⟨rfl, ⟨rfl, ⟨rfl, ⟨rfl, ⟨rfl, ⟨rfl, trivial⟩⟩⟩⟩⟩⟩ ?_
          exact k6 x4 (x5 + 1) S G_S F_S (by omega) (by omega) (by omega)
        · exfalso; omega
      · refine zz_if_eq (by omega) zd_10_28_36 (fun c13 => ?_) (fun c13 => ?_)
        · exfalso; omega
        · refine zz_iload (x := x4) rfl zd_10_28_39 ?_
          refine zz_aload_n (x := 1042) rfl zd_10_28_41 ?_
          refine zz_getr (kd := 0) (z := 1044) zd_10_28_42 zf_Run_19 zT_1042 rfl (zz_ltn hn rfl) (zz_G.eq G_S 1042 2 1044 rfl rfl) (by decide) 1044 rfl ?_
          refine zz_iload (x := x5) rfl zd_10_28_45 ?_
          refine zz_lald (z := S0 1044 x5.toNat) zd_10_28_47 zT_1044 rfl (zz_ltn hn rfl) (by decide) (by omega) (zz_rc F_S (zz_nc1 rfl) rfl (fun h => h) rfl) ?_
          refine zz_iload_n (x := p1) rfl zd_10_28_48 ?_
          refine zz_callSI [zl (S0 1044 x5.toNat), zi p1] zd_10_28_49 zk_Run_163 rfl rfl ⟨Nat.le_of_ble_eq_true rfl, Nat.le_of_ble_eq_true rfl⟩ ⟨rfl, rfl⟩ (Nat.zero_le _) (Nat.zero_le _) (zc_get_12_2 (S0 1044 x5.toNat) p1 S n hn G_S (by omega) (by omega)) (fun v15 S14 hP => ?_)
          obtain ⟨rfl, o16⟩ := hP
          refine zz_iadd zd_10_28_52 ?_
          refine zz_nrm (fun v17 hv17 ev17 => ?_)
          refine zz_istore [some (.ref 1042), some (zi p0), some (zi p1), some (zi p2), some (zi v17), some (zi x5)] zd_10_28_53 (by decide) rfl ?_
          refine zz_iinc [some (.ref 1042), some (zi p0), some (zi p1), some (zi p2), some (zi v17), some (zi (x5 + 1))] zd_10_28_55 rfl rfl ?_
          refine zz_goto zd_10_28_58 ?_
          refine zz_less (ls1 := [some (.ref 1042), some (zi p0), some (zi p1), some (zi p2), some (zi v17), some (zi (x5 + 1))]) ⟨rfl, ⟨rfl, ⟨rfl, ⟨rfl, ⟨rfl, ⟨rfl, trivial⟩⟩⟩⟩⟩⟩ ?_
          exact k6 v17 (x5 + 1) S G_S F_S (by omega) (by omega) (by omega)
theorem zi_popsUpTo_10_28 {g : mm_G} {l : Launch} (p0 : Int) (p1 : Int) (p2 : Int) (S0 : zz_S) (n : Nat) (hn : zz_end ≤ n) (G_S0 : zz_G S0) (hp0 : (-2147483648) ≤ p0 ∧ p0 ≤ 2147483647) (hp1 : (-2147483648) ≤ p1 ∧ p1 ≤ 2147483647) (hp2 : (-2147483648) ≤ p2 ∧ p2 ≤ 2147483647) : ∀ N : Nat, (∀ (x4 : Int) (x5 : Int) (S : zz_S), zz_G S → zz_fr [] [] (fun _ _ => False) S0 S → ((-2147483648) ≤ x4 ∧ x4 ≤ 2147483647) → (0 ≤ x5 ∧ x5 ≤ 600) → (S0 1042 9 - x5).toNat < N → zz_E g l zy_popsUpTo_10_28 zr_popsUpTo_10_28 (zz_QI n (zp_popsUpTo_10_28 p0 p1 p2 S0)) S n 6 [some (.ref 1042), some (zi p0), some (zi p1), some (zi p2), some (zi x4), some (zi x5)] [] 0 0) := by
  intro N
  induction N with
  | zero => exact fun x4 x5 S _ _ _ _ h => absurd h (Nat.not_lt_zero _)
  | succ N ih =>
    exact fun x4 x5 S a b j0 j1 hR => zb_popsUpTo_10_28_6 p0 p1 p2 S0 n hn G_S0 hp0 hp1 hp2 x4 x5 S a b j0 j1 _ rfl (fun x4 x5 S a b j0 j1 h => ih x4 x5 S a b j0 j1 (Nat.lt_of_lt_of_le h (Nat.le_of_lt_succ hR)))
theorem zc_popsUpTo_10_28 {g : mm_G} {l : Launch} (p0 : Int) (p1 : Int) (p2 : Int) (S0 : zz_S) (n : Nat) (hn : zz_end ≤ n) (G_S0 : zz_G S0) (hp0 : (-2147483648) ≤ p0 ∧ p0 ≤ 2147483647) (hp1 : (-2147483648) ≤ p1 ∧ p1 ≤ 2147483647) (hp2 : (-2147483648) ≤ p2 ∧ p2 ≤ 2147483647) : mm_Met g l zy_popsUpTo_10_28 zr_popsUpTo_10_28 [.ref 1042, zi p0, zi p1, zi p2] (zz_M S0 n) n (zz_QI n (zp_popsUpTo_10_28 p0 p1 p2 S0)) := by
  refine zz_enter (by decide) (Nat.le_of_ble_eq_true rfl) (zz_less (ls1 := [some (.ref 1042), some (zi p0), some (zi p1), some (zi p2)]) ⟨rfl, ⟨rfl, ⟨rfl, ⟨rfl, trivial⟩⟩⟩⟩ ?_)
  have F_S0 : zz_fr [] [] (fun _ _ => False) S0 S0 := zz_fr.refl
  have k6 : ∀ (x4 : Int) (x5 : Int) (S : zz_S), zz_G S → zz_fr [] [] (fun _ _ => False) S0 S → ((-2147483648) ≤ x4 ∧ x4 ≤ 2147483647) → (0 ≤ x5 ∧ x5 ≤ 600) → zz_E g l zy_popsUpTo_10_28 zr_popsUpTo_10_28 (zz_QI n (zp_popsUpTo_10_28 p0 p1 p2 S0)) S n 6 [some (.ref 1042), some (zi p0), some (zi p1), some (zi p2), some (zi x4), some (zi x5)] [] 0 0 := fun x4 x5 S a b j0 j1 => (zi_popsUpTo_10_28 (g := g) (l := l) p0 p1 p2 S0 n hn G_S0 hp0 hp1 hp2 _) x4 x5 S a b j0 j1 (Nat.lt_succ_self _)
  refine zz_iconst zd_10_28_0 ?_
  refine zz_istore [some (.ref 1042), some (zi p0), some (zi p1), some (zi p2), some (zi 0)] zd_10_28_1 (by decide) rfl ?_
  refine zz_iconst zd_10_28_3 ?_
  refine zz_istore [some (.ref 1042), some (zi p0), some (zi p1), some (zi p2), some (zi 0), some (zi 0)] zd_10_28_4 (by decide) rfl ?_
  have g1 := zz_G.r G_S0 1042 9 0 600 rfl rfl
  refine zz_less (ls1 := [some (.ref 1042), some (zi p0), some (zi p1), some (zi p2), some (zi 0), some (zi 0)]) ⟨rfl, ⟨rfl, ⟨rfl, ⟨rfl, ⟨rfl, ⟨rfl, trivial⟩⟩⟩⟩⟩⟩ ?_
  exact k6 0 0 S0 G_S0 F_S0 (by omega) (by omega)
theorem zk_Run_193 : mm_Vl "TensorForge$Run" 193 5 3 zy_popsUpTo_10_28 := ⟨zyw_popsUpTo_10_28, (R_Run, F_Run, 10), rfl, mm_tb_1 1578 (by decide +kernel) rfl, mm_tb_1 1580 (by decide +kernel) rfl, mm_tb_s 84 (by decide +kernel) rfl⟩
theorem zd_10_25_91 : zz_B zy_missingAt_10_25 91 (Instr.if_icmp .gt) 97 94 := ⟨6, by decide +kernel, rfl, rfl⟩
theorem zd_10_25_94 : zz_D zy_missingAt_10_25 94 (.iinc 4 2) 3 97 := ⟨by decide +kernel, rfl⟩
theorem zd_10_25_40 : zz_D zy_missingAt_10_25 40 (.aload_n 0) 1 41 := ⟨by decide +kernel, rfl⟩
theorem zd_10_25_41 : zz_D zy_missingAt_10_25 41 (.iload_n 1) 1 42 := ⟨by decide +kernel, rfl⟩
theorem zd_10_25_42 : zz_D zy_missingAt_10_25 42 (.iconst 1) 1 43 := ⟨by decide +kernel, rfl⟩
theorem zd_10_25_43 : zz_D zy_missingAt_10_25 43 (.isub) 1 44 := ⟨by decide +kernel, rfl⟩
theorem zd_10_25_44 : zz_D zy_missingAt_10_25 44 (.iconst 4) 1 45 := ⟨by decide +kernel, rfl⟩
theorem zd_10_25_45 : zz_D zy_missingAt_10_25 45 (.iload_n 2) 1 46 := ⟨by decide +kernel, rfl⟩
theorem zd_10_25_46 : zz_D zy_missingAt_10_25 46 (.invokevirtual 189) 3 49 := ⟨by decide +kernel, rfl⟩
theorem zd_10_25_49 : zz_D zy_missingAt_10_25 49 (.aload_n 0) 1 50 := ⟨by decide +kernel, rfl⟩
theorem zd_10_25_50 : zz_D zy_missingAt_10_25 50 (.iload_n 1) 1 51 := ⟨by decide +kernel, rfl⟩
theorem zd_10_25_51 : zz_D zy_missingAt_10_25 51 (.iconst 1) 1 52 := ⟨by decide +kernel, rfl⟩
theorem zd_10_25_52 : zz_D zy_missingAt_10_25 52 (.iload_n 2) 1 53 := ⟨by decide +kernel, rfl⟩
theorem zd_10_25_53 : zz_D zy_missingAt_10_25 53 (.invokevirtual 193) 3 56 := ⟨by decide +kernel, rfl⟩
theorem zd_10_25_56 : zz_B zy_missingAt_10_25 56 (Instr.if_icmp .gt) 62 59 := ⟨6, by decide +kernel, rfl, rfl⟩
theorem zd_10_25_59 : zz_D zy_missingAt_10_25 59 (.iinc 4 1) 3 62 := ⟨by decide +kernel, rfl⟩
-- TensorForge$Run missingAt (II)I
abbrev zr_missingAt_10_25 : Room := { frames := 3, cells := 0, slots := 0, locals := 46 }
def zp_missingAt_10_25 (p0 : Int) (p1 : Int) (S0 : zz_S) : Int → zz_S → Prop := fun r S => S0 = S ∧ ((-2147483648) ≤ r ∧ r ≤ 2147483647)
theorem zc_missingAt_10_25 {g : mm_G} {l : Launch} (p0 : Int) (p1 : Int) (S0 : zz_S) (n : Nat) (hn : zz_end ≤ n) (G_S0 : zz_G S0) (hp0 : (-2147483648) ≤ p0 ∧ p0 ≤ 2147483647) (hp1 : (-2147483648) ≤ p1 ∧ p1 ≤ 2147483647) : mm_Met g l zy_missingAt_10_25 zr_missingAt_10_25 [.ref 1042, zi p0, zi p1] (zz_M S0 n) n (zz_QI n (zp_missingAt_10_25 p0 p1 S0)) := by
  refine zz_enter (by decide) (Nat.le_of_ble_eq_true rfl) (zz_less (ls1 := [some (.ref 1042), some (zi p0), some (zi p1)]) ⟨rfl, ⟨rfl, ⟨rfl, trivial⟩⟩⟩ ?_)
  refine zz_aload_n (x := 1042) rfl zd_10_25_0 ?_
  refine zz_iload_n (x := p0) rfl zd_10_25_1 ?_
  refine zz_iload_n (x := p1) rfl zd_10_25_2 ?_
  refine zz_callVI [zi p0, zi p1] zd_10_25_3 zk_Run_183 zT_1042 (zz_ltn hn rfl) rfl rfl ⟨Nat.le_of_ble_eq_true rfl, Nat.le_of_ble_eq_true rfl⟩ ⟨rfl, rfl⟩ (Nat.zero_le _) (Nat.zero_le _) (zc_firstNotBegun_10_26 p0 p1 S0 n hn G_S0 (by omega) (by omega)) (fun v2 S1 hP => ?_)
  obtain ⟨rfl, o3⟩ := hP
  refine zz_istore_n [some (.ref 1042), some (zi p0), some (zi p1), some (zi v2)] zd_10_25_6 (by decide) rfl ?_
  refine zz_iload_n (x := v2) rfl zd_10_25_7 ?_
  refine zz_iconst zd_10_25_8 ?_
  refine zz_icmp_eq (by omega) (by omega) zd_10_25_9 (fun c4 => ?_) (fun c4 => ?_)
  · refine zz_iconst zd_10_25_22 ?_
    exact zz_iret zd_10_25_23 rfl (Nat.zero_le _) (Nat.zero_le _) ⟨_, _, rfl, rfl, by omega⟩
  · refine zz_aload_n (x := 1042) rfl zd_10_25_12 ?_
    refine zz_iload_n (x := p0) rfl zd_10_25_13 ?_
    refine zz_iload_n (x := p1) rfl zd_10_25_14 ?_
    refine zz_callVI [zi p0, zi p1] zd_10_25_15 zk_Run_186 zT_1042 (zz_ltn hn rfl) rfl rfl ⟨Nat.le_of_ble_eq_true rfl, Nat.le_of_ble_eq_true rfl⟩ ⟨rfl, rfl⟩ (Nat.zero_le _) (Nat.zero_le _) (zc_underWayAt_10_24 p0 p1 S0 n hn G_S0 (by omega) (by omega)) (fun v6 S5 hP => ?_)
    obtain ⟨rfl, o7⟩ := hP
    refine zz_iconst zd_10_25_18 ?_
    refine zz_icmp_eq (by omega) (by omega) zd_10_25_19 (fun c8 => ?_) (fun c8 => ?_)
    · refine zz_iconst zd_10_25_24 ?_
      refine zz_istore [some (.ref 1042), some (zi p0), some (zi p1), some (zi v2), some (zi 0)] zd_10_25_25 (by decide) rfl ?_
      refine zz_aload_n (x := 1042) rfl zd_10_25_27 ?_
      refine zz_getr (kd := 0) (z := 1044) zd_10_25_28 zf_Run_19 zT_1042 rfl (zz_ltn hn rfl) (zz_G.eq G_S0 1042 2 1044 rfl rfl) (by decide) 1044 rfl ?_
      refine zz_iload_n (x := v2) rfl zd_10_25_31 ?_
      have g9 := zz_G.r G_S0 1044 v2.toNat (-9223372036854775808) 9223372036854775807 rfl rfl
      refine zz_lald (z := S0 1044 v2.toNat) zd_10_25_32 zT_1044 rfl (zz_ltn hn rfl) (by decide) (by omega) rfl ?_
      refine zz_iconst zd_10_25_33 ?_
      refine zz_callSI [zl (S0 1044 v2.toNat), zi 1] zd_10_25_34 zk_Run_150 rfl rfl ⟨Nat.le_of_ble_eq_true rfl, Nat.le_of_ble_eq_true rfl⟩ ⟨rfl, rfl⟩ (Nat.zero_le _) (Nat.zero_le _) (zc_has_12_3 (S0 1044 v2.toNat) 1 S0 n hn G_S0 (by omega) (by omega)) (fun v11 S10 hP => ?_)
      obtain ⟨rfl, o12⟩ := hP
      rcases (by omega : v11 = 0 ∨ v11 = 1) with rfl | rfl
      · refine zz_if_eq (by omega) zd_10_25_37 (fun c13 => ?_) (fun c13 => ?_)
        · refine zz_aload_n (x := 1042) rfl zd_10_25_62 ?_
          refine zz_getr (kd := 0) (z := 1044) zd_10_25_63 zf_Run_19 zT_1042 rfl (zz_ltn hn rfl) (zz_G.eq G_S0 1042 2 1044 rfl rfl) (by decide) 1044 rfl ?_
          refine zz_iload_n (x := v2) rfl zd_10_25_66 ?_
          refine zz_lald (z := S0 1044 v2.toNat) zd_10_25_67 zT_1044 rfl (zz_ltn hn rfl) (by decide) (by omega) rfl ?_
          refine zz_iconst zd_10_25_68 ?_
          refine zz_callSI [zl (S0 1044 v2.toNat), zi 2] zd_10_25_69 zk_Run_150 rfl rfl ⟨Nat.le_of_ble_eq_true rfl, Nat.le_of_ble_eq_true rfl⟩ ⟨rfl, rfl⟩ (Nat.zero_le _) (Nat.zero_le _) (zc_has_12_3 (S0 1044 v2.toNat) 2 S0 n hn G_S0 (by omega) (by omega)) (fun v15 S14 hP => ?_)
          obtain ⟨rfl, o16⟩ := hP
          rcases (by omega : v15 = 0 ∨ v15 = 1) with rfl | rfl
          · refine zz_if_eq (by omega) zd_10_25_72 (fun c17 => ?_) (fun c17 => ?_)
            · refine zz_iload (x := 0) rfl zd_10_25_97 ?_
              exact zz_iret zd_10_25_99 rfl (Nat.zero_le _) (Nat.zero_le _) ⟨_, _, rfl, rfl, by omega⟩
            · exfalso; omega
          · refine zz_if_eq (by omega) zd_10_25_72 (fun c18 => ?_) (fun c18 => ?_)
            · exfalso; omega
            · refine zz_aload_n (x := 1042) rfl zd_10_25_75 ?_
              refine zz_iload_n (x := p0) rfl zd_10_25_76 ?_
              refine zz_iconst zd_10_25_77 ?_
              refine zz_iadd zd_10_25_78 ?_
              refine zz_nrm (fun v19 hv19 ev19 => ?_)
              refine zz_iconst zd_10_25_79 ?_
              refine zz_iload_n (x := p1) rfl zd_10_25_80 ?_
              refine zz_callVI [zi v19, zi 3, zi p1] zd_10_25_81 zk_Run_189 zT_1042 (zz_ltn hn rfl) rfl rfl ⟨Nat.le_of_ble_eq_true rfl, Nat.le_of_ble_eq_true rfl⟩ ⟨rfl, rfl⟩ (Nat.zero_le _) (Nat.zero_le _) (zc_pushesUpTo_10_27 v19 3 p1 S0 n hn G_S0 (by omega) (by omega) (by omega)) (fun v21 S20 hP => ?_)
              obtain ⟨rfl, o22⟩ := hP
              refine zz_aload_n (x := 1042) rfl zd_10_25_84 ?_
              refine zz_iload_n (x := p0) rfl zd_10_25_85 ?_
              refine zz_iconst zd_10_25_86 ?_
              refine zz_iload_n (x := p1) rfl zd_10_25_87 ?_
              refine zz_callVI [zi p0, zi 2, zi p1] zd_10_25_88 zk_Run_193 zT_1042 (zz_ltn hn rfl) rfl rfl ⟨Nat.le_of_ble_eq_true rfl, Nat.le_of_ble_eq_true rfl⟩ ⟨rfl, rfl⟩ (Nat.zero_le _) (Nat.zero_le _) (zc_popsUpTo_10_28 p0 2 p1 S0 n hn G_S0 (by omega) (by omega) (by omega)) (fun v24 S23 hP => ?_)
              obtain ⟨rfl, o25⟩ := hP
              refine zz_icmp_gt (by omega) (by omega) zd_10_25_91 (fun c26 => ?_) (fun c26 => ?_)
              · refine zz_iload (x := 0) rfl zd_10_25_97 ?_
                exact zz_iret zd_10_25_99 rfl (Nat.zero_le _) (Nat.zero_le _) ⟨_, _, rfl, rfl, by omega⟩
              · refine zz_iinc [some (.ref 1042), some (zi p0), some (zi p1), some (zi v2), some (zi (0 + 2))] zd_10_25_94 rfl rfl ?_
                refine zz_iload (x := 0 + 2) rfl zd_10_25_97 ?_
                exact zz_iret zd_10_25_99 rfl (Nat.zero_le _) (Nat.zero_le _) ⟨_, _, rfl, rfl, by omega⟩
        · exfalso; omega
      · refine zz_if_eq (by omega) zd_10_25_37 (fun c27 => ?_) (fun c27 => ?_)
        · exfalso; omega
        · refine zz_aload_n (x := 1042) rfl zd_10_25_40 ?_
          refine zz_iload_n (x := p0) rfl zd_10_25_41 ?_
          refine zz_iconst zd_10_25_42 ?_
          refine zz_isub zd_10_25_43 ?_
          refine zz_nrm (fun v28 hv28 ev28 => ?_)
          refine zz_iconst zd_10_25_44 ?_
          refine zz_iload_n (x := p1) rfl zd_10_25_45 ?_
          refine zz_callVI [zi v28, zi 4, zi p1] zd_10_25_46 zk_Run_189 zT_1042 (zz_ltn hn rfl) rfl rfl ⟨Nat.le_of_ble_eq_true rfl, Nat.le_of_ble_eq_true rfl⟩ ⟨rfl, rfl⟩ (Nat.zero_le _) (Nat.zero_le _) (zc_pushesUpTo_10_27 v28 4 p1 S0 n hn G_S0 (by omega) (by omega) (by omega)) (fun v30 S29 hP => ?_)
          obtain ⟨rfl, o31⟩ := hP
          refine zz_aload_n (x := 1042) rfl zd_10_25_49 ?_
          refine zz_iload_n (x := p0) rfl zd_10_25_50 ?_
          refine zz_iconst zd_10_25_51 ?_
          refine zz_iload_n (x := p1) rfl zd_10_25_52 ?_
          refine zz_callVI [zi p0, zi 1, zi p1] zd_10_25_53 zk_Run_193 zT_1042 (zz_ltn hn rfl) rfl rfl ⟨Nat.le_of_ble_eq_true rfl, Nat.le_of_ble_eq_true rfl⟩ ⟨rfl, rfl⟩ (Nat.zero_le _) (Nat.zero_le _) (zc_popsUpTo_10_28 p0 1 p1 S0 n hn G_S0 (by omega) (by omega) (by omega)) (fun v33 S32 hP => ?_)
          obtain ⟨rfl, o34⟩ := hP
          refine zz_icmp_gt (by omega) (by omega) zd_10_25_56 (fun c35 => ?_) (fun c35 => ?_)
          · refine zz_aload_n (x := 1042) rfl zd_10_25_62 ?_
            refine zz_getr (kd := 0) (z := 1044) zd_10_25_63 zf_Run_19 zT_1042 rfl (zz_ltn hn rfl) (zz_G.eq G_S0 1042 2 1044 rfl rfl) (by decide) 1044 rfl ?_
            refine zz_iload_n (x := v2) rfl zd_10_25_66 ?_
            refine zz_lald (z := S0 1044 v2.toNat) zd_10_25_67 zT_1044 rfl (zz_ltn hn rfl) (by decide) (by omega) rfl ?_
            refine zz_iconst zd_10_25_68 ?_
            refine zz_callSI [zl (S0 1044 v2.toNat), zi 2] zd_10_25_69 zk_Run_150 rfl rfl ⟨Nat.le_of_ble_eq_true rfl, Nat.le_of_ble_eq_true rfl⟩ ⟨rfl, rfl⟩ (Nat.zero_le _) (Nat.zero_le _) (zc_has_12_3 (S0 1044 v2.toNat) 2 S0 n hn G_S0 (by omega) (by omega)) (fun v37 S36 hP => ?_)
            obtain ⟨rfl, o38⟩ := hP
            rcases (by omega : v37 = 0 ∨ v37 = 1) with rfl | rfl
            · refine zz_if_eq (by omega) zd_10_25_72 (fun c39 => ?_) (fun c39 => ?_)
              · refine zz_iload (x := 0) rfl zd_10_25_97 ?_
                exact zz_iret zd_10_25_99 rfl (Nat.zero_le _) (Nat.zero_le _) ⟨_, _, rfl, rfl, by omega⟩
              · exfalso; omega
            · refine zz_if_eq (by omega) zd_10_25_72 (fun c40 => ?_) (fun c40 => ?_)
              · exfalso; omega
              · refine zz_aload_n (x := 1042) rfl zd_10_25_75 ?_
                refine zz_iload_n (x := p0) rfl zd_10_25_76 ?_
                refine zz_iconst zd_10_25_77 ?_
                refine zz_iadd zd_10_25_78 ?_
                refine zz_nrm (fun v41 hv41 ev41 => ?_)
                refine zz_iconst zd_10_25_79 ?_
                refine zz_iload_n (x := p1) rfl zd_10_25_80 ?_
                refine zz_callVI [zi v41, zi 3, zi p1] zd_10_25_81 zk_Run_189 zT_1042 (zz_ltn hn rfl) rfl rfl ⟨Nat.le_of_ble_eq_true rfl, Nat.le_of_ble_eq_true rfl⟩ ⟨rfl, rfl⟩ (Nat.zero_le _) (Nat.zero_le _) (zc_pushesUpTo_10_27 v41 3 p1 S0 n hn G_S0 (by omega) (by omega) (by omega)) (fun v43 S42 hP => ?_)
                obtain ⟨rfl, o44⟩ := hP
                refine zz_aload_n (x := 1042) rfl zd_10_25_84 ?_
                refine zz_iload_n (x := p0) rfl zd_10_25_85 ?_
                refine zz_iconst zd_10_25_86 ?_
                refine zz_iload_n (x := p1) rfl zd_10_25_87 ?_
                refine zz_callVI [zi p0, zi 2, zi p1] zd_10_25_88 zk_Run_193 zT_1042 (zz_ltn hn rfl) rfl rfl ⟨Nat.le_of_ble_eq_true rfl, Nat.le_of_ble_eq_true rfl⟩ ⟨rfl, rfl⟩ (Nat.zero_le _) (Nat.zero_le _) (zc_popsUpTo_10_28 p0 2 p1 S0 n hn G_S0 (by omega) (by omega) (by omega)) (fun v46 S45 hP => ?_)
                obtain ⟨rfl, o47⟩ := hP
                refine zz_icmp_gt (by omega) (by omega) zd_10_25_91 (fun c48 => ?_) (fun c48 => ?_)
                · refine zz_iload (x := 0) rfl zd_10_25_97 ?_
                  exact zz_iret zd_10_25_99 rfl (Nat.zero_le _) (Nat.zero_le _) ⟨_, _, rfl, rfl, by omega⟩
                · refine zz_iinc [some (.ref 1042), some (zi p0), some (zi p1), some (zi v2), some (zi (0 + 2))] zd_10_25_94 rfl rfl ?_
                  refine zz_iload (x := 0 + 2) rfl zd_10_25_97 ?_
                  exact zz_iret zd_10_25_99 rfl (Nat.zero_le _) (Nat.zero_le _) ⟨_, _, rfl, rfl, by omega⟩
          · refine zz_iinc [some (.ref 1042), some (zi p0), some (zi p1), some (zi v2), some (zi (0 + 1))] zd_10_25_59 rfl rfl ?_
            refine zz_aload_n (x := 1042) rfl zd_10_25_62 ?_
            refine zz_getr (kd := 0) (z := 1044) zd_10_25_63 zf_Run_19 zT_1042 rfl (zz_ltn hn rfl) (zz_G.eq G_S0 1042 2 1044 rfl rfl) (by decide) 1044 rfl ?_
            refine zz_iload_n (x := v2) rfl zd_10_25_66 ?_
            refine zz_lald (z := S0 1044 v2.toNat) zd_10_25_67 zT_1044 rfl (zz_ltn hn rfl) (by decide) (by omega) rfl ?_
            refine zz_iconst zd_10_25_68 ?_
            refine zz_callSI [zl (S0 1044 v2.toNat), zi 2] zd_10_25_69 zk_Run_150 rfl rfl ⟨Nat.le_of_ble_eq_true rfl, Nat.le_of_ble_eq_true rfl⟩ ⟨rfl, rfl⟩ (Nat.zero_le _) (Nat.zero_le _) (zc_has_12_3 (S0 1044 v2.toNat) 2 S0 n hn G_S0 (by omega) (by omega)) (fun v50 S49 hP => ?_)
            obtain ⟨rfl, o51⟩ := hP
            rcases (by omega : v50 = 0 ∨ v50 = 1) with rfl | rfl
            · refine zz_if_eq (by omega) zd_10_25_72 (fun c52 => ?_) (fun c52 => ?_)
              · refine zz_iload (x := 0 + 1) rfl zd_10_25_97 ?_
                exact zz_iret zd_10_25_99 rfl (Nat.zero_le _) (Nat.zero_le _) ⟨_, _, rfl, rfl, by omega⟩
              · exfalso; omega
            · refine zz_if_eq (by omega) zd_10_25_72 (fun c53 => ?_) (fun c53 => ?_)
              · exfalso; omega
              · refine zz_aload_n (x := 1042) rfl zd_10_25_75 ?_
                refine zz_iload_n (x := p0) rfl zd_10_25_76 ?_
                refine zz_iconst zd_10_25_77 ?_
                refine zz_iadd zd_10_25_78 ?_
                refine zz_nrm (fun v54 hv54 ev54 => ?_)
                refine zz_iconst zd_10_25_79 ?_
                refine zz_iload_n (x := p1) rfl zd_10_25_80 ?_
                refine zz_callVI [zi v54, zi 3, zi p1] zd_10_25_81 zk_Run_189 zT_1042 (zz_ltn hn rfl) rfl rfl ⟨Nat.le_of_ble_eq_true rfl, Nat.le_of_ble_eq_true rfl⟩ ⟨rfl, rfl⟩ (Nat.zero_le _) (Nat.zero_le _) (zc_pushesUpTo_10_27 v54 3 p1 S0 n hn G_S0 (by omega) (by omega) (by omega)) (fun v56 S55 hP => ?_)
                obtain ⟨rfl, o57⟩ := hP
                refine zz_aload_n (x := 1042) rfl zd_10_25_84 ?_
                refine zz_iload_n (x := p0) rfl zd_10_25_85 ?_
                refine zz_iconst zd_10_25_86 ?_
                refine zz_iload_n (x := p1) rfl zd_10_25_87 ?_
                refine zz_callVI [zi p0, zi 2, zi p1] zd_10_25_88 zk_Run_193 zT_1042 (zz_ltn hn rfl) rfl rfl ⟨Nat.le_of_ble_eq_true rfl, Nat.le_of_ble_eq_true rfl⟩ ⟨rfl, rfl⟩ (Nat.zero_le _) (Nat.zero_le _) (zc_popsUpTo_10_28 p0 2 p1 S0 n hn G_S0 (by omega) (by omega) (by omega)) (fun v59 S58 hP => ?_)
                obtain ⟨rfl, o60⟩ := hP
                refine zz_icmp_gt (by omega) (by omega) zd_10_25_91 (fun c61 => ?_) (fun c61 => ?_)
                · refine zz_iload (x := 0 + 1) rfl zd_10_25_97 ?_
                  exact zz_iret zd_10_25_99 rfl (Nat.zero_le _) (Nat.zero_le _) ⟨_, _, rfl, rfl, by omega⟩
                · refine zz_iinc [some (.ref 1042), some (zi p0), some (zi p1), some (zi v2), some (zi (0 + 1 + 2))] zd_10_25_94 rfl rfl ?_
                  refine zz_iload (x := 0 + 1 + 2) rfl zd_10_25_97 ?_
                  exact zz_iret zd_10_25_99 rfl (Nat.zero_le _) (Nat.zero_le _) ⟨_, _, rfl, rfl, by omega⟩
    · refine zz_iconst zd_10_25_22 ?_
      exact zz_iret zd_10_25_23 rfl (Nat.zero_le _) (Nat.zero_le _) ⟨_, _, rfl, rfl, by omega⟩
theorem zk_TF_323 : mm_Vl "TensorForge" 323 5 2 zy_missingAt_10_25 := ⟨zyw_missingAt_10_25, (R_Run, F_Run, 10), rfl, mm_tb_1 1565 (by decide +kernel) rfl, mm_tb_1 1566 (by decide +kernel) rfl, mm_tb_1 1567 (by decide +kernel) rfl⟩
theorem zd_1_29_19 : zz_D zy_waits_1_29 19 (.ireturn) 1 20 := ⟨by decide +kernel, rfl⟩
-- TensorForge waits (II)I
abbrev zr_waits_1_29 : Room := { frames := 7, cells := 2, slots := 12, locals := 96 }
def zp_waits_1_29 (p0 : Int) (p1 : Int) (S0 : zz_S) : Int → zz_S → Prop := fun r S => S0 = S ∧ ((-2147483648) ≤ r ∧ r ≤ 2147483647)
def zx_waits_1_29 (p0 : Int) (p1 : Int) (S0 : zz_S) : Nat → zz_S → Prop := fun i S => S0 = S ∧ (i < 4)
theorem zc_waits_1_29 {g : mm_G} {l : Launch} (p0 : Int) (p1 : Int) (S0 : zz_S) (n : Nat) (hn : zz_end ≤ n) (hfl : l.flags = flags0) (G_S0 : zz_G S0) (hp0 : (-2147483648) ≤ p0 ∧ p0 ≤ 2147483647) (hp1 : (-2147483648) ≤ p1 ∧ p1 ≤ 2147483647) : mm_Met g l zy_waits_1_29 zr_waits_1_29 [.ref 1000, zi p0, zi p1] (zz_M S0 n) n (zz_XI n (zp_waits_1_29 p0 p1 S0) (zx_waits_1_29 p0 p1 S0)) := by
  refine zz_enter (by decide) (Nat.le_of_ble_eq_true rfl) (zz_less (ls1 := [some (.ref 1000), some (zi p0), some (zi p1)]) ⟨rfl, ⟨rfl, ⟨rfl, trivial⟩⟩⟩ ?_)
  refine zz_aload_n (x := 1000) rfl zd_1_29_0 ?_
  refine zz_callVXV [] zd_1_29_1 zk_TF_191 zT_1000 (zz_ltn hn rfl) rfl rfl ⟨Nat.le_of_ble_eq_true rfl, Nat.le_of_ble_eq_true rfl⟩ (Nat.le_of_ble_eq_true rfl) (Nat.le_of_ble_eq_true rfl) (zc_needRun_1_32  S0 n hn hfl G_S0 ) zyw_waits_1_29 (fun i SX hX => by obtain ⟨rfl, x0⟩ := hX; exact Or.inr ⟨_, _, rfl, rfl, by omega⟩) (fun S3 hP => ?_)
  obtain ⟨rfl⟩ := hP
  refine zz_aload_n (x := 1000) rfl zd_1_29_4 ?_
  refine zz_iload_n (x := p0) rfl zd_1_29_5 ?_
  refine zz_iload_n (x := p1) rfl zd_1_29_6 ?_
  refine zz_callVXV [zi p0, zi p1] zd_1_29_7 zk_TF_317 zT_1000 (zz_ltn hn rfl) rfl rfl ⟨Nat.le_of_ble_eq_true rfl, Nat.le_of_ble_eq_true rfl⟩ (Nat.le_of_ble_eq_true rfl) (Nat.le_of_ble_eq_true rfl) (zc_needUnitAndCycle_1_33 p0 p1 S0 n hn hfl G_S0 (by omega) (by omega)) zyw_waits_1_29 (fun i SX hX => by obtain ⟨rfl, x0⟩ := hX; exact Or.inr ⟨_, _, rfl, rfl, by omega⟩) (fun S7 hP => ?_)
  obtain ⟨rfl⟩ := hP
  refine zz_aload_n (x := 1000) rfl zd_1_29_10 ?_
  refine zz_getr (kd := 0) (z := 1042) zd_1_29_11 zf_TF_42 zT_1000 rfl (zz_ltn hn rfl) (zz_G.eq G_S0 1000 1 1042 rfl rfl) (by decide) 1042 rfl ?_
  refine zz_iload_n (x := p0) rfl zd_1_29_14 ?_
  refine zz_iload_n (x := p1) rfl zd_1_29_15 ?_
  refine zz_callVI [zi p0, zi p1] zd_1_29_16 zk_TF_323 zT_1042 (zz_ltn hn rfl) rfl rfl ⟨Nat.le_of_ble_eq_true rfl, Nat.le_of_ble_eq_true rfl⟩ ⟨rfl, rfl⟩ (Nat.zero_le _) (Nat.zero_le _) (zc_missingAt_10_25 p0 p1 S0 n hn G_S0 (by omega) (by omega)) (fun v10 S9 hP => ?_)
  obtain ⟨rfl, o11⟩ := hP
  exact zz_iret zd_1_29_19 rfl (Nat.le_of_ble_eq_true rfl) (Nat.le_of_ble_eq_true rfl) (Or.inl ⟨_, _, rfl, rfl, by omega⟩)
abbrev zy_open_3_2 : mm_Y := (⟨"TensorForge$Compiler", "open", "(I[J)V"⟩, prog_3_method_2_code, 3, none)
theorem zyw_open_3_2 : mm_Yw zy_open_3_2 2 := ⟨mm_tb_1 1408 (by decide +kernel) rfl, mm_tb_1 10 (by decide +kernel) rfl, ⟨by decide, by decide⟩, by decide +kernel⟩
theorem zd_3_2_0 : zz_D zy_open_3_2 0 (.aload_n 0) 1 1 := ⟨by decide +kernel, rfl⟩
theorem zd_3_2_1 : zz_D zy_open_3_2 1 (.iconst 2) 1 2 := ⟨by decide +kernel, rfl⟩
theorem zd_3_2_2 : zz_D zy_open_3_2 2 (.bipush 8) 2 4 := ⟨by decide +kernel, rfl⟩
theorem zd_3_2_4 : zz_D zy_open_3_2 4 (.iload_n 1) 1 5 := ⟨by decide +kernel, rfl⟩
theorem zd_3_2_5 : zz_D zy_open_3_2 5 (.invokestatic 24) 3 8 := ⟨by decide +kernel, rfl⟩
theorem zm_Compiler_24 : Cond.methodLink "TensorForge$Compiler" 24 Lib.Math.min.name ∈ mm_tb ∧ Cond.static Lib.Math.min.name ∈ mm_tb ∧ Cond.initialized "java/lang/Math" ∈ mm_tb ∧ Cond.code Lib.Math.min.name Lib.Math.min.code 2 (some .int) ∈ mm_tb := ⟨mm_tb_1 1409 (by decide +kernel) rfl, mm_tb_1 706 (by decide +kernel) rfl, mm_tb_1 25 (by decide +kernel) rfl, mm_tb_1 707 (by decide +kernel) rfl⟩
theorem zd_3_2_8 : zz_D zy_open_3_2 8 (.invokestatic 30) 3 11 := ⟨by decide +kernel, rfl⟩
theorem zm_Compiler_30 : Cond.methodLink "TensorForge$Compiler" 30 Lib.Math.max.name ∈ mm_tb ∧ Cond.static Lib.Math.max.name ∈ mm_tb ∧ Cond.initialized "java/lang/Math" ∈ mm_tb ∧ Cond.code Lib.Math.max.name Lib.Math.max.code 2 (some .int) ∈ mm_tb := ⟨mm_tb_1 1410 (by decide +kernel) rfl, mm_tb_1 709 (by decide +kernel) rfl, mm_tb_1 25 (by decide +kernel) rfl, mm_tb_1 710 (by decide +kernel) rfl⟩
theorem zd_3_2_11 : zz_D zy_open_3_2 11 (.putfield 21) 3 14 := ⟨by decide +kernel, rfl⟩
theorem zf_Compiler_21 : mm_Fl "TensorForge$Compiler" 21 9 2 .int false := ⟨R_Compiler, F_Compiler, 17, t_Compiler, rfl, i_Compiler, by decide, mm_tb_1 377 (by decide +kernel) rfl, rfl, t_Compiler_ok, n_Compiler, rfl, by decide +kernel⟩
theorem zd_3_2_14 : zz_D zy_open_3_2 14 (.aload_n 0) 1 15 := ⟨by decide +kernel, rfl⟩
theorem zd_3_2_15 : zz_D zy_open_3_2 15 (.aload_n 2) 1 16 := ⟨by decide +kernel, rfl⟩
theorem zd_3_2_16 : zz_D zy_open_3_2 16 (.putfield 9) 3 19 := ⟨by decide +kernel, rfl⟩
theorem zf_Compiler_9 : mm_Fl "TensorForge$Compiler" 9 9 0 (.array .long) false := ⟨R_Compiler, F_Compiler, 17, t_Compiler, rfl, i_Compiler, by decide, mm_tb_1 374 (by decide +kernel) rfl, rfl, t_Compiler_ok, n_Compiler, rfl, by decide +kernel⟩
theorem zd_3_2_19 : zz_D zy_open_3_2 19 (.aload_n 0) 1 20 := ⟨by decide +kernel, rfl⟩
theorem zd_3_2_20 : zz_D zy_open_3_2 20 (.iconst 0) 1 21 := ⟨by decide +kernel, rfl⟩
theorem zd_3_2_21 : zz_D zy_open_3_2 21 (.putfield 15) 3 24 := ⟨by decide +kernel, rfl⟩
theorem zf_Compiler_15 : mm_Fl "TensorForge$Compiler" 15 9 1 .int false := ⟨R_Compiler, F_Compiler, 17, t_Compiler, rfl, i_Compiler, by decide, mm_tb_1 375 (by decide +kernel) rfl, rfl, t_Compiler_ok, n_Compiler, rfl, by decide +kernel⟩
theorem zd_3_2_24 : zz_D zy_open_3_2 24 (.return_) 1 25 := ⟨by decide +kernel, rfl⟩
-- TensorForge$Compiler open (I[J)V
abbrev zr_open_3_2 : Room := { frames := 1, cells := 0, slots := 0, locals := 15 }
def zp_open_3_2 (p0 : Int) (p1 : Int) (S0 : zz_S) : zz_S → Prop := fun S => zz_G S ∧ zz_fr [(1076, 0), (1076, 1), (1076, 2)] [] (fun _ _ => False) S0 S
theorem zc_open_3_2 {g : mm_G} {l : Launch} (p0 : Int) (p1 : Int) (S0 : zz_S) (n : Nat) (hn : zz_end ≤ n) (G_S0 : zz_G S0) (hp0 : (-2147483648) ≤ p0 ∧ p0 ≤ 2147483647) (hp1 : 0 ≤ p1 ∧ p1 ≤ 1) : mm_Met g l zy_open_3_2 zr_open_3_2 [.ref 1076, zi p0, .ref (zz_rf 4 p1)] (zz_M S0 n) n (zz_QV n (zp_open_3_2 p0 p1 S0)) := by
  refine zz_enter (by decide) (Nat.le_of_ble_eq_true rfl) (zz_less (ls1 := [some (.ref 1076), some (zi p0), some (.ref (zz_rf 4 p1))]) ⟨rfl, ⟨rfl, ⟨rfl, trivial⟩⟩⟩ ?_)
  have F_S0 : zz_fr [(1076, 0), (1076, 1), (1076, 2)] [] (fun _ _ => False) S0 S0 := zz_fr.refl
  have b_p1 := zz_rf4 (z := p1) (by omega)
  refine zz_aload_n (x := 1076) rfl zd_3_2_0 ?_
  refine zz_iconst zd_3_2_1 ?_
  refine zz_bipush (by decide) zd_3_2_2 ?_
  refine zz_iload_n (x := p0) rfl zd_3_2_4 ?_
  refine zz_mmin (by omega) (by omega) zd_3_2_5 zm_Compiler_24 ⟨Nat.le_of_ble_eq_true rfl, Nat.le_of_ble_eq_true rfl⟩ (Nat.zero_le _) (Nat.zero_le _) (fun v1 hv1 => ?_)
  refine zz_mmax (by omega) (by omega) zd_3_2_8 zm_Compiler_30 ⟨Nat.le_of_ble_eq_true rfl, Nat.le_of_ble_eq_true rfl⟩ (Nat.zero_le _) (Nat.zero_le _) (fun v2 hv2 => ?_)
  refine zz_puti zd_3_2_11 zf_Compiler_21 zT_1076 rfl (zz_ltn hn rfl) (fun S3 qS3 => ?_)
  have G_S3 := zz_G.put G_S0 qS3 2 8 rfl (by omega)
  have F_S3 := zz_fr.puts F_S0 qS3 rfl
  refine zz_aload_n (x := 1076) rfl zd_3_2_14 ?_
  refine zz_aload_n (x := zz_rf 4 p1) rfl zd_3_2_15 ?_
  refine zz_putr (kd := 2) p1 zd_3_2_16 zf_Compiler_9 zT_1076 rfl (zz_ltn hn rfl) (by omega) rfl (fun _ => rfl) (fun _ => rfl) (fun S4 qS4 => ?_)
  have G_S4 := zz_G.put G_S3 qS4 0 1 rfl (by omega)
  have F_S4 := zz_fr.puts F_S3 qS4 rfl
  refine zz_aload_n (x := 1076) rfl zd_3_2_19 ?_
  refine zz_iconst zd_3_2_20 ?_
  refine zz_puti zd_3_2_21 zf_Compiler_15 zT_1076 rfl (zz_ltn hn rfl) (fun S5 qS5 => ?_)
  have G_S5 := zz_G.put G_S4 qS5 0 1000000 rfl (by omega)
  have F_S5 := zz_fr.puts F_S4 qS5 rfl
  exact zz_vret zd_3_2_24 rfl (Nat.zero_le _) (Nat.zero_le _) ⟨_, rfl, G_S5, F_S5⟩
abbrev zy_makeGroup_3_5 : mm_Y := (⟨"TensorForge$Compiler", "makeGroup", "(ZZ)V"⟩, prog_3_method_5_code, 6, none)
theorem zyw_makeGroup_3_5 : mm_Yw zy_makeGroup_3_5 2 := ⟨mm_tb_1 1423 (by decide +kernel) rfl, mm_tb_1 10 (by decide +kernel) rfl, ⟨by decide, by decide⟩, by decide +kernel⟩
theorem zd_3_5_0 : zz_D zy_makeGroup_3_5 0 (.aload_n 0) 1 1 := ⟨by decide +kernel, rfl⟩
theorem zd_3_5_1 : zz_D zy_makeGroup_3_5 1 (.getfield 15) 3 4 := ⟨by decide +kernel, rfl⟩
theorem zd_3_5_4 : zz_D zy_makeGroup_3_5 4 (.istore_n 3) 1 5 := ⟨by decide +kernel, rfl⟩
theorem zd_3_5_5 : zz_D zy_makeGroup_3_5 5 (.aload_n 0) 1 6 := ⟨by decide +kernel, rfl⟩
theorem zd_3_5_6 : zz_D zy_makeGroup_3_5 6 (.getfield 51) 3 9 := ⟨by decide +kernel, rfl⟩
theorem zf_Compiler_51 : mm_Fl "TensorForge$Compiler" 51 9 3 (.object "TensorForge$Layer") false := ⟨R_Compiler, F_Compiler, 17, t_Compiler, rfl, i_Compiler, by decide, mm_tb_1 378 (by decide +kernel) rfl, rfl, t_Compiler_ok, n_Compiler, rfl, by decide +kernel⟩
theorem zd_3_5_9 : zz_D zy_makeGroup_3_5 9 (.getfield 61) 3 12 := ⟨by decide +kernel, rfl⟩
theorem zf_Compiler_61 : mm_Fl "TensorForge$Compiler" 61 2 0 .int false := ⟨R_Layer, F_Layer, 15, t_Layer, rfl, i_Layer, by decide, mm_tb_1 58 (by decide +kernel) rfl, rfl, t_Layer_ok, n_Layer, rfl, by decide +kernel⟩
theorem zd_3_5_12 : zz_D zy_makeGroup_3_5 12 (.iconst 1) 1 13 := ⟨by decide +kernel, rfl⟩
theorem zd_3_5_13 : zz_B zy_makeGroup_3_5 13 (Instr.if_icmp .ne) 32 16 := ⟨19, by decide +kernel, rfl, rfl⟩
theorem zd_3_5_32 : zz_D zy_makeGroup_3_5 32 (.aload_n 0) 1 33 := ⟨by decide +kernel, rfl⟩
theorem zd_3_5_33 : zz_D zy_makeGroup_3_5 33 (.getfield 51) 3 36 := ⟨by decide +kernel, rfl⟩
theorem zd_3_5_36 : zz_D zy_makeGroup_3_5 36 (.getfield 61) 3 39 := ⟨by decide +kernel, rfl⟩
theorem zd_3_5_39 : zz_D zy_makeGroup_3_5 39 (.iconst 2) 1 40 := ⟨by decide +kernel, rfl⟩
theorem zd_3_5_40 : zz_B zy_makeGroup_3_5 40 (Instr.if_icmp .ne) 54 43 := ⟨14, by decide +kernel, rfl, rfl⟩
theorem zd_3_5_54 : zz_D zy_makeGroup_3_5 54 (.aload_n 0) 1 55 := ⟨by decide +kernel, rfl⟩
theorem zd_3_5_55 : zz_D zy_makeGroup_3_5 55 (.getfield 109) 3 58 := ⟨by decide +kernel, rfl⟩
theorem zf_Compiler_109 : mm_Fl "TensorForge$Compiler" 109 9 14 .int false := ⟨R_Compiler, F_Compiler, 17, t_Compiler, rfl, i_Compiler, by decide, mm_tb_1 389 (by decide +kernel) rfl, rfl, t_Compiler_ok, n_Compiler, rfl, by decide +kernel⟩
theorem zd_3_5_58 : zz_B zy_makeGroup_3_5 58 (Instr.ifCond .ne) 68 61 := ⟨10, by decide +kernel, rfl, rfl⟩
theorem zd_3_5_68 : zz_D zy_makeGroup_3_5 68 (.aload_n 0) 1 69 := ⟨by decide +kernel, rfl⟩
theorem zd_3_5_69 : zz_D zy_makeGroup_3_5 69 (.getfield 58) 3 72 := ⟨by decide +kernel, rfl⟩
theorem zf_Compiler_58 : mm_Fl "TensorForge$Compiler" 58 9 5 (.object "TensorForge$Layer") false := ⟨R_Compiler, F_Compiler, 17, t_Compiler, rfl, i_Compiler, by decide, mm_tb_1 380 (by decide +kernel) rfl, rfl, t_Compiler_ok, n_Compiler, rfl, by decide +kernel⟩
theorem zd_3_5_72 : zz_D zy_makeGroup_3_5 72 (.astore 4) 2 74 := ⟨by decide +kernel, rfl⟩
theorem zd_3_5_74 : zz_D zy_makeGroup_3_5 74 (.aload_n 0) 1 75 := ⟨by decide +kernel, rfl⟩
theorem zd_3_5_75 : zz_D zy_makeGroup_3_5 75 (.iconst 0) 1 76 := ⟨by decide +kernel, rfl⟩
theorem zd_3_5_76 : zz_D zy_makeGroup_3_5 76 (.aload_n 0) 1 77 := ⟨by decide +kernel, rfl⟩
theorem zd_3_5_77 : zz_D zy_makeGroup_3_5 77 (.getfield 91) 3 80 := ⟨by decide +kernel, rfl⟩
theorem zf_Compiler_91 : mm_Fl "TensorForge$Compiler" 91 9 11 .int false := ⟨R_Compiler, F_Compiler, 17, t_Compiler, rfl, i_Compiler, by decide, mm_tb_1 386 (by decide +kernel) rfl, rfl, t_Compiler_ok, n_Compiler, rfl, by decide +kernel⟩
theorem zd_3_5_80 : zz_D zy_makeGroup_3_5 80 (.aload 4) 2 82 := ⟨by decide +kernel, rfl⟩
theorem zd_3_5_82 : zz_D zy_makeGroup_3_5 82 (.iconst 0) 1 83 := ⟨by decide +kernel, rfl⟩
theorem zd_3_5_83 : zz_D zy_makeGroup_3_5 83 (.aload_n 0) 1 84 := ⟨by decide +kernel, rfl⟩
theorem zd_3_5_84 : zz_D zy_makeGroup_3_5 84 (.getfield 88) 3 87 := ⟨by decide +kernel, rfl⟩
theorem zf_Compiler_88 : mm_Fl "TensorForge$Compiler" 88 9 10 .int false := ⟨R_Compiler, F_Compiler, 17, t_Compiler, rfl, i_Compiler, by decide, mm_tb_1 385 (by decide +kernel) rfl, rfl, t_Compiler_ok, n_Compiler, rfl, by decide +kernel⟩
theorem zd_3_5_87 : zz_D zy_makeGroup_3_5 87 (.aload_n 0) 1 88 := ⟨by decide +kernel, rfl⟩
theorem zd_3_5_88 : zz_D zy_makeGroup_3_5 88 (.getfield 76) 3 91 := ⟨by decide +kernel, rfl⟩
theorem zf_Compiler_76 : mm_Fl "TensorForge$Compiler" 76 9 7 .int false := ⟨R_Compiler, F_Compiler, 17, t_Compiler, rfl, i_Compiler, by decide, mm_tb_1 382 (by decide +kernel) rfl, rfl, t_Compiler_ok, n_Compiler, rfl, by decide +kernel⟩
theorem zd_3_5_91 : zz_D zy_makeGroup_3_5 91 (.invokevirtual 147) 3 94 := ⟨by decide +kernel, rfl⟩
theorem zk_Compiler_147 : mm_Vl "TensorForge$Compiler" 147 2 3 zy_cellAt_4_15 := ⟨zyw_cellAt_4_15, (R_Layer, F_Layer, 15), rfl, mm_tb_1 1458 (by decide +kernel) rfl, mm_tb_1 867 (by decide +kernel) rfl, mm_tb_1 868 (by decide +kernel) rfl⟩
theorem zd_3_5_94 : zz_D zy_makeGroup_3_5 94 (.aload 4) 2 96 := ⟨by decide +kernel, rfl⟩
theorem zd_3_5_96 : zz_D zy_makeGroup_3_5 96 (.getfield 79) 3 99 := ⟨by decide +kernel, rfl⟩
theorem zf_Compiler_79 : mm_Fl "TensorForge$Compiler" 79 2 12 .int false := ⟨R_Layer, F_Layer, 15, t_Layer, rfl, i_Layer, by decide, mm_tb_1 103 (by decide +kernel) rfl, rfl, t_Layer_ok, n_Layer, rfl, by decide +kernel⟩
theorem zd_3_5_99 : zz_D zy_makeGroup_3_5 99 (.invokevirtual 159) 3 102 := ⟨by decide +kernel, rfl⟩
abbrev zy_loadPlaces_3_10 : mm_Y := (⟨"TensorForge$Compiler", "loadPlaces", "(IIII)V"⟩, prog_3_method_10_code, 5, none)
theorem zyw_loadPlaces_3_10 : mm_Yw zy_loadPlaces_3_10 4 := ⟨mm_tb_1 1462 (by decide +kernel) rfl, mm_tb_1 10 (by decide +kernel) rfl, ⟨by decide, by decide⟩, by decide +kernel⟩
theorem zd_3_10_0 : zz_D zy_loadPlaces_3_10 0 (.iload_n 2) 1 1 := ⟨by decide +kernel, rfl⟩
theorem zd_3_10_1 : zz_D zy_loadPlaces_3_10 1 (.iload_n 1) 1 2 := ⟨by decide +kernel, rfl⟩
theorem zd_3_10_2 : zz_B zy_loadPlaces_3_10 2 (Instr.if_icmp .le) 51 5 := ⟨49, by decide +kernel, rfl, rfl⟩
theorem zd_3_10_51 : zz_D zy_loadPlaces_3_10 51 (.return_) 1 52 := ⟨by decide +kernel, rfl⟩
theorem zd_3_10_5 : zz_D zy_loadPlaces_3_10 5 (.aload_n 0) 1 6 := ⟨by decide +kernel, rfl⟩
theorem zd_3_10_6 : zz_D zy_loadPlaces_3_10 6 (.iconst 1) 1 7 := ⟨by decide +kernel, rfl⟩
theorem zd_3_10_7 : zz_D zy_loadPlaces_3_10 7 (.iload_n 2) 1 8 := ⟨by decide +kernel, rfl⟩
theorem zd_3_10_8 : zz_D zy_loadPlaces_3_10 8 (.iload_n 1) 1 9 := ⟨by decide +kernel, rfl⟩
theorem zd_3_10_9 : zz_D zy_loadPlaces_3_10 9 (.isub) 1 10 := ⟨by decide +kernel, rfl⟩
theorem zd_3_10_10 : zz_D zy_loadPlaces_3_10 10 (.aload_n 0) 1 11 := ⟨by decide +kernel, rfl⟩
theorem zd_3_10_11 : zz_D zy_loadPlaces_3_10 11 (.getfield 115) 3 14 := ⟨by decide +kernel, rfl⟩
theorem zf_Compiler_115 : mm_Fl "TensorForge$Compiler" 115 9 16 .int false := ⟨R_Compiler, F_Compiler, 17, t_Compiler, rfl, i_Compiler, by decide, mm_tb_1 391 (by decide +kernel) rfl, rfl, t_Compiler_ok, n_Compiler, rfl, by decide +kernel⟩
theorem zd_3_10_14 : zz_D zy_loadPlaces_3_10 14 (.invokestatic 128) 3 17 := ⟨by decide +kernel, rfl⟩
abbrev zy_shaped_12_6 : mm_Y := (⟨"TensorForge$Words", "shaped", "(III)J"⟩, prog_12_method_6_code, 3, (some .long))
theorem zyw_shaped_12_6 : mm_Yw zy_shaped_12_6 3 := ⟨mm_tb_1 1430 (by decide +kernel) rfl, mm_tb_1 20 (by decide +kernel) rfl, ⟨by decide, by decide⟩, by decide +kernel⟩
theorem zd_12_6_0 : zz_D zy_shaped_12_6 0 (.iload_n 0) 1 1 := ⟨by decide +kernel, rfl⟩
theorem zd_12_6_1 : zz_D zy_shaped_12_6 1 (.i2l) 1 2 := ⟨by decide +kernel, rfl⟩
theorem zd_12_6_2 : zz_D zy_shaped_12_6 2 (.iload_n 1) 1 3 := ⟨by decide +kernel, rfl⟩
theorem zd_12_6_3 : zz_D zy_shaped_12_6 3 (.i2l) 1 4 := ⟨by decide +kernel, rfl⟩
theorem zd_12_6_4 : zz_D zy_shaped_12_6 4 (.getstatic 9) 3 7 := ⟨by decide +kernel, rfl⟩
theorem zd_12_6_7 : zz_D zy_shaped_12_6 7 (.bipush 6) 2 9 := ⟨by decide +kernel, rfl⟩
theorem zd_12_6_9 : zz_D zy_shaped_12_6 9 (.iaload) 1 10 := ⟨by decide +kernel, rfl⟩
theorem zd_12_6_10 : zz_D zy_shaped_12_6 10 (.lshl) 1 11 := ⟨by decide +kernel, rfl⟩
theorem zd_12_6_11 : zz_D zy_shaped_12_6 11 (.lor) 1 12 := ⟨by decide +kernel, rfl⟩
theorem zd_12_6_12 : zz_D zy_shaped_12_6 12 (.iload_n 2) 1 13 := ⟨by decide +kernel, rfl⟩
theorem zd_12_6_13 : zz_D zy_shaped_12_6 13 (.i2l) 1 14 := ⟨by decide +kernel, rfl⟩
theorem zd_12_6_14 : zz_D zy_shaped_12_6 14 (.getstatic 9) 3 17 := ⟨by decide +kernel, rfl⟩
theorem zd_12_6_17 : zz_D zy_shaped_12_6 17 (.bipush 7) 2 19 := ⟨by decide +kernel, rfl⟩
theorem zd_12_6_19 : zz_D zy_shaped_12_6 19 (.iaload) 1 20 := ⟨by decide +kernel, rfl⟩
theorem zd_12_6_20 : zz_D zy_shaped_12_6 20 (.lshl) 1 21 := ⟨by decide +kernel, rfl⟩
theorem zd_12_6_21 : zz_D zy_shaped_12_6 21 (.lor) 1 22 := ⟨by decide +kernel, rfl⟩
theorem zd_12_6_22 : zz_D zy_shaped_12_6 22 (.lreturn) 1 23 := ⟨by decide +kernel, rfl⟩
-- TensorForge$Words shaped (III)J
abbrev zr_shaped_12_6 : Room := { frames := 0, cells := 0, slots := 0, locals := 0 }
def zp_shaped_12_6 (p0 : Int) (p1 : Int) (p2 : Int) (S0 : zz_S) : Int → zz_S → Prop := fun r S => S0 = S ∧ ((-9223372036854775808) ≤ r ∧ r ≤ 9223372036854775807)
theorem zc_shaped_12_6 {g : mm_G} {l : Launch} (p0 : Int) (p1 : Int) (p2 : Int) (S0 : zz_S) (n : Nat) (hn : zz_end ≤ n) (G_S0 : zz_G S0) (hp0 : (-2147483648) ≤ p0 ∧ p0 ≤ 2147483647) (hp1 : (-2147483648) ≤ p1 ∧ p1 ≤ 2147483647) (hp2 : (-2147483648) ≤ p2 ∧ p2 ≤ 2147483647) : mm_Met g l zy_shaped_12_6 zr_shaped_12_6 [zi p0, zi p1, zi p2] (zz_M S0 n) n (zz_QJ n (zp_shaped_12_6 p0 p1 p2 S0)) := by
  refine zz_enter (by decide) (Nat.le_of_ble_eq_true rfl) (zz_less (ls1 := [some (zi p0), some (zi p1), some (zi p2)]) ⟨rfl, ⟨rfl, ⟨rfl, trivial⟩⟩⟩ ?_)
  refine zz_iload_n (x := p0) rfl zd_12_6_0 ?_
  refine zz_i2l (by omega) zd_12_6_1 ?_
  refine zz_iload_n (x := p1) rfl zd_12_6_2 ?_
  refine zz_i2l (by omega) zd_12_6_3 ?_
  refine zz_gets (q0 := 1) zd_12_6_4 rfl (by decide) zs_Words_9 ?_
  refine zz_bipush (by decide) zd_12_6_7 ?_
  refine zz_tiald 20 zd_12_6_9 rfl (by decide) rfl (by decide) (by decide) rfl ?_
  refine zz_lshl zd_12_6_10 (fun v1 hv1 ev1 => ?_)
  refine zz_lor zd_12_6_11 (fun v2 hv2 ev2 => ?_)
  refine zz_iload_n (x := p2) rfl zd_12_6_12 ?_
  refine zz_i2l (by omega) zd_12_6_13 ?_
  refine zz_gets (q0 := 1) zd_12_6_14 rfl (by decide) zs_Words_9 ?_
  refine zz_bipush (by decide) zd_12_6_17 ?_
  refine zz_tiald 26 zd_12_6_19 rfl (by decide) rfl (by decide) (by decide) rfl ?_
  refine zz_lshl zd_12_6_20 (fun v3 hv3 ev3 => ?_)
  refine zz_lor zd_12_6_21 (fun v4 hv4 ev4 => ?_)
  exact zz_lret zd_12_6_22 rfl (Nat.zero_le _) (Nat.zero_le _) ⟨_, _, rfl, rfl, by omega⟩
theorem zk_Compiler_128 : mm_Sl "TensorForge$Compiler" 128 3 zy_shaped_12_6 := ⟨zyw_shaped_12_6, mm_tb_1 1428 (by decide +kernel) rfl, mm_tb_1 1429 (by decide +kernel) rfl⟩
theorem zd_3_10_17 : zz_D zy_loadPlaces_3_10 17 (.bipush 8) 2 19 := ⟨by decide +kernel, rfl⟩
theorem zd_3_10_19 : zz_D zy_loadPlaces_3_10 19 (.aload_n 0) 1 20 := ⟨by decide +kernel, rfl⟩
theorem zd_3_10_20 : zz_D zy_loadPlaces_3_10 20 (.invokevirtual 175) 3 23 := ⟨by decide +kernel, rfl⟩
abbrev zy_groupHalf_3_14 : mm_Y := (⟨"TensorForge$Compiler", "groupHalf", "()I"⟩, prog_3_method_14_code, 1, (some .int))
theorem zyw_groupHalf_3_14 : mm_Yw zy_groupHalf_3_14 0 := ⟨mm_tb_1 1444 (by decide +kernel) rfl, mm_tb_1 10 (by decide +kernel) rfl, ⟨by decide, by decide⟩, by decide +kernel⟩
theorem zd_3_14_0 : zz_D zy_groupHalf_3_14 0 (.sipush 256) 3 3 := ⟨by decide +kernel, rfl⟩
theorem zd_3_14_3 : zz_D zy_groupHalf_3_14 3 (.aload_n 0) 1 4 := ⟨by decide +kernel, rfl⟩
theorem zd_3_14_4 : zz_D zy_groupHalf_3_14 4 (.getfield 73) 3 7 := ⟨by decide +kernel, rfl⟩
theorem zf_Compiler_73 : mm_Fl "TensorForge$Compiler" 73 9 12 .int false := ⟨R_Compiler, F_Compiler, 17, t_Compiler, rfl, i_Compiler, by decide, mm_tb_1 387 (by decide +kernel) rfl, rfl, t_Compiler_ok, n_Compiler, rfl, by decide +kernel⟩
theorem zd_3_14_7 : zz_D zy_groupHalf_3_14 7 (.iconst 1) 1 8 := ⟨by decide +kernel, rfl⟩
theorem zd_3_14_8 : zz_D zy_groupHalf_3_14 8 (.iand) 1 9 := ⟨by decide +kernel, rfl⟩
theorem zd_3_14_9 : zz_D zy_groupHalf_3_14 9 (.imul) 1 10 := ⟨by decide +kernel, rfl⟩
theorem zd_3_14_10 : zz_D zy_groupHalf_3_14 10 (.ireturn) 1 11 := ⟨by decide +kernel, rfl⟩
-- TensorForge$Compiler groupHalf ()I
abbrev zr_groupHalf_3_14 : Room := { frames := 0, cells := 0, slots := 0, locals := 0 }
def zp_groupHalf_3_14  (S0 : zz_S) : Int → zz_S → Prop := fun r S => S0 = S ∧ ((-2147483648) ≤ r ∧ r ≤ 2147483647)
theorem zc_groupHalf_3_14 {g : mm_G} {l : Launch}  (S0 : zz_S) (n : Nat) (hn : zz_end ≤ n) (G_S0 : zz_G S0)  : mm_Met g l zy_groupHalf_3_14 zr_groupHalf_3_14 [.ref 1076] (zz_M S0 n) n (zz_QI n (zp_groupHalf_3_14  S0)) := by
  refine zz_enter (by decide) (Nat.le_of_ble_eq_true rfl) (zz_less (ls1 := [some (.ref 1076)]) ⟨rfl, trivial⟩ ?_)
  refine zz_sipush (by decide) zd_3_14_0 ?_
  refine zz_aload_n (x := 1076) rfl zd_3_14_3 ?_
  have g1 := zz_G.r G_S0 1076 12 (-2147483648) 2147483647 rfl rfl
  refine zz_geti (z := S0 1076 12) zd_3_14_4 zf_Compiler_73 zT_1076 rfl (zz_ltn hn rfl) rfl ?_
  refine zz_iconst zd_3_14_7 ?_
  refine zz_iand (by omega) (by omega) zd_3_14_8 (fun v2 hv2 av2 bv2 ev2 => ?_)
  refine zz_imul zd_3_14_9 ?_
  exact zz_iret zd_3_14_10 rfl (Nat.zero_le _) (Nat.zero_le _) ⟨_, _, rfl, rfl, by omega⟩
theorem zk_Compiler_175 : mm_Vl "TensorForge$Compiler" 175 9 0 zy_groupHalf_3_14 := ⟨zyw_groupHalf_3_14, (R_Compiler, F_Compiler, 17), rfl, mm_tb_1 1441 (by decide +kernel) rfl, mm_tb_1 1443 (by decide +kernel) rfl, mm_tb_s 68 (by decide +kernel) rfl⟩
theorem zd_3_10_23 : zz_D zy_loadPlaces_3_10 23 (.iload_n 1) 1 24 := ⟨by decide +kernel, rfl⟩
theorem zd_3_10_24 : zz_D zy_loadPlaces_3_10 24 (.aload_n 0) 1 25 := ⟨by decide +kernel, rfl⟩
theorem zd_3_10_25 : zz_D zy_loadPlaces_3_10 25 (.getfield 21) 3 28 := ⟨by decide +kernel, rfl⟩
theorem zd_3_10_28 : zz_D zy_loadPlaces_3_10 28 (.imul) 1 29 := ⟨by decide +kernel, rfl⟩
theorem zd_3_10_29 : zz_D zy_loadPlaces_3_10 29 (.iadd) 1 30 := ⟨by decide +kernel, rfl⟩
theorem zd_3_10_30 : zz_D zy_loadPlaces_3_10 30 (.invokestatic 132) 3 33 := ⟨by decide +kernel, rfl⟩
theorem zk_Compiler_132 : mm_Sl "TensorForge$Compiler" 132 2 zy_bits_12_4 := ⟨zyw_bits_12_4, mm_tb_1 1435 (by decide +kernel) rfl, mm_tb_1 647 (by decide +kernel) rfl⟩
theorem zd_3_10_33 : zz_D zy_loadPlaces_3_10 33 (.lor) 1 34 := ⟨by decide +kernel, rfl⟩
theorem zd_3_10_34 : zz_D zy_loadPlaces_3_10 34 (.iconst 5) 1 35 := ⟨by decide +kernel, rfl⟩
theorem zd_3_10_35 : zz_D zy_loadPlaces_3_10 35 (.iload_n 3) 1 36 := ⟨by decide +kernel, rfl⟩
theorem zd_3_10_36 : zz_D zy_loadPlaces_3_10 36 (.invokestatic 132) 3 39 := ⟨by decide +kernel, rfl⟩
theorem zd_3_10_39 : zz_D zy_loadPlaces_3_10 39 (.lor) 1 40 := ⟨by decide +kernel, rfl⟩
theorem zd_3_10_40 : zz_D zy_loadPlaces_3_10 40 (.bipush 10) 2 42 := ⟨by decide +kernel, rfl⟩
theorem zd_3_10_42 : zz_D zy_loadPlaces_3_10 42 (.iload 4) 2 44 := ⟨by decide +kernel, rfl⟩
theorem zd_3_10_44 : zz_D zy_loadPlaces_3_10 44 (.invokestatic 132) 3 47 := ⟨by decide +kernel, rfl⟩
theorem zd_3_10_47 : zz_D zy_loadPlaces_3_10 47 (.lor) 1 48 := ⟨by decide +kernel, rfl⟩
theorem zd_3_10_48 : zz_D zy_loadPlaces_3_10 48 (.invokevirtual 143) 3 51 := ⟨by decide +kernel, rfl⟩
abbrev zy_emit_3_15 : mm_Y := (⟨"TensorForge$Compiler", "emit", "(J)V"⟩, prog_3_method_15_code, 3, none)
theorem zyw_emit_3_15 : mm_Yw zy_emit_3_15 1 := ⟨mm_tb_1 1440 (by decide +kernel) rfl, mm_tb_1 10 (by decide +kernel) rfl, ⟨by decide, by decide⟩, by decide +kernel⟩
theorem zd_3_15_0 : zz_D zy_emit_3_15 0 (.aload_n 0) 1 1 := ⟨by decide +kernel, rfl⟩
theorem zd_3_15_1 : zz_D zy_emit_3_15 1 (.getfield 15) 3 4 := ⟨by decide +kernel, rfl⟩
theorem zd_3_15_4 : zz_D zy_emit_3_15 4 (.sipush 600) 3 7 := ⟨by decide +kernel, rfl⟩
theorem zd_3_15_7 : zz_B zy_emit_3_15 7 (Instr.if_icmp .ge) 32 10 := ⟨25, by decide +kernel, rfl, rfl⟩
theorem zd_3_15_32 : zz_D zy_emit_3_15 32 (.aload_n 0) 1 33 := ⟨by decide +kernel, rfl⟩
theorem zd_3_15_33 : zz_D zy_emit_3_15 33 (.dup) 1 34 := ⟨by decide +kernel, rfl⟩
theorem zd_3_15_34 : zz_D zy_emit_3_15 34 (.getfield 15) 3 37 := ⟨by decide +kernel, rfl⟩
theorem zd_3_15_37 : zz_D zy_emit_3_15 37 (.iconst 1) 1 38 := ⟨by decide +kernel, rfl⟩
theorem zd_3_15_38 : zz_D zy_emit_3_15 38 (.iadd) 1 39 := ⟨by decide +kernel, rfl⟩
theorem zd_3_15_39 : zz_D zy_emit_3_15 39 (.putfield 15) 3 42 := ⟨by decide +kernel, rfl⟩
theorem zd_3_15_42 : zz_D zy_emit_3_15 42 (.return_) 1 43 := ⟨by decide +kernel, rfl⟩
theorem zd_3_15_10 : zz_D zy_emit_3_15 10 (.aload_n 0) 1 11 := ⟨by decide +kernel, rfl⟩
theorem zd_3_15_11 : zz_D zy_emit_3_15 11 (.getfield 15) 3 14 := ⟨by decide +kernel, rfl⟩
theorem zd_3_15_14 : zz_D zy_emit_3_15 14 (.aload_n 0) 1 15 := ⟨by decide +kernel, rfl⟩
theorem zd_3_15_15 : zz_D zy_emit_3_15 15 (.getfield 9) 3 18 := ⟨by decide +kernel, rfl⟩
theorem zd_3_15_18 : zz_D zy_emit_3_15 18 (.arraylength) 1 19 := ⟨by decide +kernel, rfl⟩
theorem zd_3_15_19 : zz_B zy_emit_3_15 19 (Instr.if_icmp .ge) 32 22 := ⟨13, by decide +kernel, rfl, rfl⟩
theorem zd_3_15_22 : zz_D zy_emit_3_15 22 (.aload_n 0) 1 23 := ⟨by decide +kernel, rfl⟩
theorem zd_3_15_23 : zz_D zy_emit_3_15 23 (.getfield 9) 3 26 := ⟨by decide +kernel, rfl⟩
theorem zd_3_15_26 : zz_D zy_emit_3_15 26 (.aload_n 0) 1 27 := ⟨by decide +kernel, rfl⟩
theorem zd_3_15_27 : zz_D zy_emit_3_15 27 (.getfield 15) 3 30 := ⟨by decide +kernel, rfl⟩
theorem zd_3_15_30 : zz_D zy_emit_3_15 30 (.lload_n 1) 1 31 := ⟨by decide +kernel, rfl⟩
theorem zd_3_15_31 : zz_D zy_emit_3_15 31 (.lastore) 1 32 := ⟨by decide +kernel, rfl⟩
-- TensorForge$Compiler emit (J)V
abbrev zr_emit_3_15 : Room := { frames := 0, cells := 0, slots := 0, locals := 0 }
def zp_emit_3_15 (p0 : Int) (S0 : zz_S) : zz_S → Prop := fun S => zz_G S ∧ zz_fr [(1076, 1)] [] (fun a i => a = zz_rf 4 (S0 1076 0)) S0 S ∧ (S 1076 1 = S0 1076 1 + 1)
theorem zc_emit_3_15 {g : mm_G} {l : Launch} (p0 : Int) (S0 : zz_S) (n : Nat) (hn : zz_end ≤ n) (G_S0 : zz_G S0) (hp0 : (-9223372036854775808) ≤ p0 ∧ p0 ≤ 9223372036854775807) (hq : S0 1076 1 ≤ 990000) : mm_Met g l zy_emit_3_15 zr_emit_3_15 [.ref 1076, zl p0] (zz_M S0 n) n (zz_QV n (zp_emit_3_15 p0 S0)) := by
  refine zz_enter (by decide) (Nat.le_of_ble_eq_true rfl) (zz_less (ls1 := [some (.ref 1076), some (zl p0), none]) ⟨rfl, ⟨rfl, trivial⟩⟩ ?_)
  have F_S0 : zz_fr [(1076, 1)] [] (fun a i => a = zz_rf 4 (S0 1076 0)) S0 S0 := zz_fr.refl
  refine zz_aload_n (x := 1076) rfl zd_3_15_0 ?_
  have g1 := zz_G.r G_S0 1076 1 0 1000000 rfl rfl
  refine zz_geti (z := S0 1076 1) zd_3_15_1 zf_Compiler_15 zT_1076 rfl (zz_ltn hn rfl) rfl ?_
  refine zz_sipush (by decide) zd_3_15_4 ?_
  refine zz_icmp_ge (by omega) (by omega) zd_3_15_7 (fun c2 => ?_) (fun c2 => ?_)
  · refine zz_aload_n (x := 1076) rfl zd_3_15_32 ?_
    refine zz_dup rfl zd_3_15_33 ?_
    refine zz_geti (z := S0 1076 1) zd_3_15_34 zf_Compiler_15 zT_1076 rfl (zz_ltn hn rfl) rfl ?_
    refine zz_iconst zd_3_15_37 ?_
    refine zz_iadd zd_3_15_38 ?_
    refine zz_puti zd_3_15_39 zf_Compiler_15 zT_1076 rfl (zz_ltn hn rfl) (fun S3 qS3 => ?_)
    have G_S3 := zz_G.put G_S0 qS3 0 1000000 rfl (by omega)
    have F_S3 := zz_fr.puts F_S0 qS3 rfl
    have e4 : S3 1076 1 = (S0 1076 1) + 1 := (zz_rs qS3)
    exact zz_vret zd_3_15_42 rfl (Nat.zero_le _) (Nat.zero_le _) ⟨_, rfl, G_S3, F_S3, by omega⟩
  · refine zz_aload_n (x := 1076) rfl zd_3_15_10 ?_
    refine zz_geti (z := S0 1076 1) zd_3_15_11 zf_Compiler_15 zT_1076 rfl (zz_ltn hn rfl) rfl ?_
    refine zz_aload_n (x := 1076) rfl zd_3_15_14 ?_
    have g5 := zz_G.r G_S0 1076 0 0 1 rfl rfl
    refine zz_getr (kd := 2) (z := S0 1076 0) zd_3_15_15 zf_Compiler_9 zT_1076 rfl (zz_ltn hn rfl) rfl (by omega) (zz_rf 4 (S0 1076 0)) rfl ?_
    refine zz_alen zd_3_15_18 (zT_k4 (by omega)) rfl (zN_k4 hn (by omega)) ?_
    refine zz_icmp_ge (by omega) (by omega) zd_3_15_19 (fun c6 => ?_) (fun c6 => ?_)
    · exfalso; omega
    · refine zz_aload_n (x := 1076) rfl zd_3_15_22 ?_
      refine zz_getr (kd := 2) (z := S0 1076 0) zd_3_15_23 zf_Compiler_9 zT_1076 rfl (zz_ltn hn rfl) rfl (by omega) (zz_rf 4 (S0 1076 0)) rfl ?_
      refine zz_aload_n (x := 1076) rfl zd_3_15_26 ?_
      refine zz_geti (z := S0 1076 1) zd_3_15_27 zf_Compiler_15 zT_1076 rfl (zz_ltn hn rfl) rfl ?_
      refine zz_lload_n (x := p0) rfl zd_3_15_30 ?_
      refine zz_last zd_3_15_31 (zT_k4 (by omega)) rfl (zN_k4 hn (by omega)) (by decide) (by omega) (fun S7 qS7 => ?_)
      have G_S7 := zz_G.put G_S0 qS7 (-9223372036854775808) 9223372036854775807 (zR_k4 (by omega)) (by omega)
      have F_S7 := zz_fr.putv F_S0 qS7 (rfl)
      refine zz_aload_n (x := 1076) rfl zd_3_15_32 ?_
      refine zz_dup rfl zd_3_15_33 ?_
      refine zz_geti (z := S0 1076 1) zd_3_15_34 zf_Compiler_15 zT_1076 rfl (zz_ltn hn rfl) (zz_ro qS7 (fun h => absurd h.1 (by have := zz_rf4 (z := S0 1076 0) (by omega); omega)) rfl) ?_
      refine zz_iconst zd_3_15_37 ?_
      refine zz_iadd zd_3_15_38 ?_
      refine zz_puti zd_3_15_39 zf_Compiler_15 zT_1076 rfl (zz_ltn hn rfl) (fun S8 qS8 => ?_)
      have G_S8 := zz_G.put G_S7 qS8 0 1000000 rfl (by omega)
      have F_S8 := zz_fr.puts F_S7 qS8 rfl
      have e9 : S8 1076 1 = (S0 1076 1) + 1 := (zz_rs qS8)
      exact zz_vret zd_3_15_42 rfl (Nat.zero_le _) (Nat.zero_le _) ⟨_, rfl, G_S8, F_S8, by omega⟩
theorem zk_Compiler_143 : mm_Vl "TensorForge$Compiler" 143 9 1 zy_emit_3_15 := ⟨zyw_emit_3_15, (R_Compiler, F_Compiler, 17), rfl, mm_tb_1 1437 (by decide +kernel) rfl, mm_tb_1 1439 (by decide +kernel) rfl, mm_tb_s 67 (by decide +kernel) rfl⟩
-- TensorForge$Compiler loadPlaces (IIII)V
abbrev zr_loadPlaces_3_10 : Room := { frames := 1, cells := 0, slots := 0, locals := 16 }
def zp_loadPlaces_3_10 (p0 : Int) (p1 : Int) (p2 : Int) (p3 : Int) (S0 : zz_S) : zz_S → Prop := fun S => zz_G S ∧ zz_fr [(1076, 1)] [] (fun a i => a = zz_rf 4 (S0 1076 0)) S0 S ∧ (S0 1076 1 ≤ S 1076 1 ∧ S 1076 1 ≤ S0 1076 1 + 1)
theorem zc_loadPlaces_3_10 {g : mm_G} {l : Launch} (p0 : Int) (p1 : Int) (p2 : Int) (p3 : Int) (S0 : zz_S) (n : Nat) (hn : zz_end ≤ n) (G_S0 : zz_G S0) (hp0 : (-2147483648) ≤ p0 ∧ p0 ≤ 2147483647) (hp1 : (-2147483648) ≤ p1 ∧ p1 ≤ 2147483647) (hp2 : (-2147483648) ≤ p2 ∧ p2 ≤ 2147483647) (hp3 : (-2147483648) ≤ p3 ∧ p3 ≤ 2147483647) (hq : S0 1076 1 ≤ 900000) (hl : 0 ≤ S0 1076 3 ∧ 0 ≤ S0 1076 4 ∧ 0 ≤ S0 1076 5) : mm_Met g l zy_loadPlaces_3_10 zr_loadPlaces_3_10 [.ref 1076, zi p0, zi p1, zi p2, zi p3] (zz_M S0 n) n (zz_QV n (zp_loadPlaces_3_10 p0 p1 p2 p3 S0)) := by
  refine zz_enter (by decide) (Nat.le_of_ble_eq_true rfl) (zz_less (ls1 := [some (.ref 1076), some (zi p0), some (zi p1), some (zi p2), some (zi p3)]) ⟨rfl, ⟨rfl, ⟨rfl, ⟨rfl, ⟨rfl, trivial⟩⟩⟩⟩⟩ ?_)
  have F_S0 : zz_fr [(1076, 1)] [] (fun a i => a = zz_rf 4 (S0 1076 0)) S0 S0 := zz_fr.refl
  refine zz_iload_n (x := p1) rfl zd_3_10_0 ?_
  refine zz_iload_n (x := p0) rfl zd_3_10_1 ?_
  refine zz_icmp_le (by omega) (by omega) zd_3_10_2 (fun c1 => ?_) (fun c1 => ?_)
  · have g2 := zz_G.r G_S0 1076 1 0 1000000 rfl rfl
    exact zz_vret zd_3_10_51 rfl (Nat.zero_le _) (Nat.zero_le _) ⟨_, rfl, G_S0, F_S0, by omega⟩
  · refine zz_aload_n (x := 1076) rfl zd_3_10_5 ?_
    refine zz_iconst zd_3_10_6 ?_
    refine zz_iload_n (x := p1) rfl zd_3_10_7 ?_
    refine zz_iload_n (x := p0) rfl zd_3_10_8 ?_
    refine zz_isub zd_3_10_9 ?_
    refine zz_nrm (fun v3 hv3 ev3 => ?_)
    refine zz_aload_n (x := 1076) rfl zd_3_10_10 ?_
    have g4 := zz_G.r G_S0 1076 16 (-2147483648) 2147483647 rfl rfl
    refine zz_geti (z := S0 1076 16) zd_3_10_11 zf_Compiler_115 zT_1076 rfl (zz_ltn hn rfl) rfl ?_
    refine zz_callSJ [zi 1, zi v3, zi (S0 1076 16)] zd_3_10_14 zk_Compiler_128 rfl rfl ⟨Nat.le_of_ble_eq_true rfl, Nat.le_of_ble_eq_true rfl⟩ ⟨rfl, rfl⟩ (Nat.zero_le _) (Nat.zero_le _) (zc_shaped_12_6 1 v3 (S0 1076 16) S0 n hn G_S0 (by omega) (by omega) (by omega)) (fun v6 S5 hP => ?_)
    obtain ⟨rfl, o7⟩ := hP
    refine zz_bipush (by decide) zd_3_10_17 ?_
    refine zz_aload_n (x := 1076) rfl zd_3_10_19 ?_
    refine zz_callVI [] zd_3_10_20 zk_Compiler_175 zT_1076 (zz_ltn hn rfl) rfl rfl ⟨Nat.le_of_ble_eq_true rfl, Nat.le_of_ble_eq_true rfl⟩ ⟨rfl, rfl⟩ (Nat.zero_le _) (Nat.zero_le _) (zc_groupHalf_3_14  S0 n hn G_S0 ) (fun v9 S8 hP => ?_)
    obtain ⟨rfl, o10⟩ := hP
    refine zz_iload_n (x := p0) rfl zd_3_10_23 ?_
    refine zz_aload_n (x := 1076) rfl zd_3_10_24 ?_
    have g11 := zz_G.r G_S0 1076 2 2 8 rfl rfl
    refine zz_geti (z := S0 1076 2) zd_3_10_25 zf_Compiler_21 zT_1076 rfl (zz_ltn hn rfl) rfl ?_
    refine zz_imul zd_3_10_28 ?_
    refine zz_nrm (fun v12 hv12 ev12 => ?_)
    refine zz_iadd zd_3_10_29 ?_
    refine zz_nrm (fun v13 hv13 ev13 => ?_)
    refine zz_callSJ [zi 8, zi v13] zd_3_10_30 zk_Compiler_132 rfl rfl ⟨Nat.le_of_ble_eq_true rfl, Nat.le_of_ble_eq_true rfl⟩ ⟨rfl, rfl⟩ (Nat.zero_le _) (Nat.zero_le _) (zc_bits_12_4 8 v13 S0 n hn G_S0 (by omega) (by omega)) (fun v15 S14 hP => ?_)
    obtain ⟨rfl, o16⟩ := hP
    refine zz_lor zd_3_10_33 (fun v17 hv17 ev17 => ?_)
    refine zz_iconst zd_3_10_34 ?_
    refine zz_iload_n (x := p2) rfl zd_3_10_35 ?_
    refine zz_callSJ [zi 5, zi p2] zd_3_10_36 zk_Compiler_132 rfl rfl ⟨Nat.le_of_ble_eq_true rfl, Nat.le_of_ble_eq_true rfl⟩ ⟨rfl, rfl⟩ (Nat.zero_le _) (Nat.zero_le _) (zc_bits_12_4 5 p2 S0 n hn G_S0 (by omega) (by omega)) (fun v19 S18 hP => ?_)
    obtain ⟨rfl, o20⟩ := hP
    refine zz_lor zd_3_10_39 (fun v21 hv21 ev21 => ?_)
    refine zz_bipush (by decide) zd_3_10_40 ?_
    refine zz_iload (x := p3) rfl zd_3_10_42 ?_
    refine zz_callSJ [zi 10, zi p3] zd_3_10_44 zk_Compiler_132 rfl rfl ⟨Nat.le_of_ble_eq_true rfl, Nat.le_of_ble_eq_true rfl⟩ ⟨rfl, rfl⟩ (Nat.zero_le _) (Nat.zero_le _) (zc_bits_12_4 10 p3 S0 n hn G_S0 (by omega) (by omega)) (fun v23 S22 hP => ?_)
    obtain ⟨rfl, o24⟩ := hP
    refine zz_lor zd_3_10_47 (fun v25 hv25 ev25 => ?_)
    have g26 := zz_G.r G_S0 1076 1 0 1000000 rfl rfl
    refine zz_callVV [zl v25] zd_3_10_48 zk_Compiler_143 zT_1076 (zz_ltn hn rfl) rfl rfl ⟨Nat.le_of_ble_eq_true rfl, Nat.le_of_ble_eq_true rfl⟩ ⟨rfl, rfl⟩ (Nat.zero_le _) (Nat.zero_le _) (zc_emit_3_15 v25 S0 n hn G_S0 (by omega) (by omega)) (fun S27 hP => ?_)
    obtain ⟨G_S27, fS27, o29⟩ := hP
    have F_S27 := zz_fr.trans F_S0 fS27 rfl (fun a i h => Or.inr (Or.inr (h)))
    have g30 := zz_G.r G_S27 1076 1 0 1000000 rfl rfl
    exact zz_vret zd_3_10_51 rfl (Nat.zero_le _) (Nat.zero_le _) ⟨_, rfl, G_S27, F_S27, by omega⟩
theorem zk_Compiler_159 : mm_Vl "TensorForge$Compiler" 159 9 4 zy_loadPlaces_3_10 := ⟨zyw_loadPlaces_3_10, (R_Compiler, F_Compiler, 17), rfl, mm_tb_1 1459 (by decide +kernel) rfl, mm_tb_1 1461 (by decide +kernel) rfl, mm_tb_s 72 (by decide +kernel) rfl⟩
theorem zd_3_5_102 : zz_D zy_makeGroup_3_5 102 (.aload_n 0) 1 103 := ⟨by decide +kernel, rfl⟩
theorem zd_3_5_103 : zz_D zy_makeGroup_3_5 103 (.getfield 73) 3 106 := ⟨by decide +kernel, rfl⟩
theorem zd_3_5_106 : zz_D zy_makeGroup_3_5 106 (.iconst 1) 1 107 := ⟨by decide +kernel, rfl⟩
theorem zd_3_5_107 : zz_B zy_makeGroup_3_5 107 (Instr.if_icmp .le) 116 110 := ⟨9, by decide +kernel, rfl, rfl⟩
theorem zd_3_5_116 : zz_D zy_makeGroup_3_5 116 (.aload_n 0) 1 117 := ⟨by decide +kernel, rfl⟩
theorem zd_3_5_117 : zz_D zy_makeGroup_3_5 117 (.aload_n 0) 1 118 := ⟨by decide +kernel, rfl⟩
theorem zd_3_5_118 : zz_D zy_makeGroup_3_5 118 (.getfield 15) 3 121 := ⟨by decide +kernel, rfl⟩
theorem zd_3_5_121 : zz_D zy_makeGroup_3_5 121 (.iconst 1) 1 122 := ⟨by decide +kernel, rfl⟩
theorem zd_3_5_122 : zz_D zy_makeGroup_3_5 122 (.isub) 1 123 := ⟨by decide +kernel, rfl⟩
theorem zd_3_5_123 : zz_D zy_makeGroup_3_5 123 (.iconst 4) 1 124 := ⟨by decide +kernel, rfl⟩
theorem zd_3_5_124 : zz_D zy_makeGroup_3_5 124 (.invokevirtual 163) 3 127 := ⟨by decide +kernel, rfl⟩
abbrev zy_mark_3_16 : mm_Y := (⟨"TensorForge$Compiler", "mark", "(II)V"⟩, prog_3_method_16_code, 3, none)
theorem zyw_mark_3_16 : mm_Yw zy_mark_3_16 2 := ⟨mm_tb_1 1466 (by decide +kernel) rfl, mm_tb_1 10 (by decide +kernel) rfl, ⟨by decide, by decide⟩, by decide +kernel⟩
theorem zd_3_16_0 : zz_D zy_mark_3_16 0 (.iload_n 1) 1 1 := ⟨by decide +kernel, rfl⟩
theorem zd_3_16_1 : zz_B zy_mark_3_16 1 (Instr.ifCond .lt) 33 4 := ⟨32, by decide +kernel, rfl, rfl⟩
theorem zd_3_16_33 : zz_D zy_mark_3_16 33 (.return_) 1 34 := ⟨by decide +kernel, rfl⟩
theorem zd_3_16_4 : zz_D zy_mark_3_16 4 (.iload_n 1) 1 5 := ⟨by decide +kernel, rfl⟩
theorem zd_3_16_5 : zz_D zy_mark_3_16 5 (.sipush 600) 3 8 := ⟨by decide +kernel, rfl⟩
theorem zd_3_16_8 : zz_B zy_mark_3_16 8 (Instr.if_icmp .ge) 33 11 := ⟨25, by decide +kernel, rfl, rfl⟩
theorem zd_3_16_11 : zz_D zy_mark_3_16 11 (.iload_n 1) 1 12 := ⟨by decide +kernel, rfl⟩
theorem zd_3_16_12 : zz_D zy_mark_3_16 12 (.aload_n 0) 1 13 := ⟨by decide +kernel, rfl⟩
theorem zd_3_16_13 : zz_D zy_mark_3_16 13 (.getfield 9) 3 16 := ⟨by decide +kernel, rfl⟩
theorem zd_3_16_16 : zz_D zy_mark_3_16 16 (.arraylength) 1 17 := ⟨by decide +kernel, rfl⟩
theorem zd_3_16_17 : zz_B zy_mark_3_16 17 (Instr.if_icmp .ge) 33 20 := ⟨16, by decide +kernel, rfl, rfl⟩
theorem zd_3_16_20 : zz_D zy_mark_3_16 20 (.aload_n 0) 1 21 := ⟨by decide +kernel, rfl⟩
theorem zd_3_16_21 : zz_D zy_mark_3_16 21 (.getfield 9) 3 24 := ⟨by decide +kernel, rfl⟩
theorem zd_3_16_24 : zz_D zy_mark_3_16 24 (.iload_n 1) 1 25 := ⟨by decide +kernel, rfl⟩
theorem zd_3_16_25 : zz_D zy_mark_3_16 25 (.dup2) 1 26 := ⟨by decide +kernel, rfl⟩
theorem zd_3_16_26 : zz_D zy_mark_3_16 26 (.laload) 1 27 := ⟨by decide +kernel, rfl⟩
theorem zd_3_16_27 : zz_D zy_mark_3_16 27 (.iload_n 2) 1 28 := ⟨by decide +kernel, rfl⟩
theorem zd_3_16_28 : zz_D zy_mark_3_16 28 (.invokestatic 139) 3 31 := ⟨by decide +kernel, rfl⟩
abbrev zy_flag_12_5 : mm_Y := (⟨"TensorForge$Words", "flag", "(I)J"⟩, prog_12_method_5_code, 1, (some .long))
theorem zyw_flag_12_5 : mm_Yw zy_flag_12_5 1 := ⟨mm_tb_1 1469 (by decide +kernel) rfl, mm_tb_1 20 (by decide +kernel) rfl, ⟨by decide, by decide⟩, by decide +kernel⟩
theorem zd_12_5_0 : zz_D zy_flag_12_5 0 (.iload_n 0) 1 1 := ⟨by decide +kernel, rfl⟩
theorem zd_12_5_1 : zz_D zy_flag_12_5 1 (.iconst 1) 1 2 := ⟨by decide +kernel, rfl⟩
theorem zd_12_5_2 : zz_D zy_flag_12_5 2 (.invokestatic 20) 3 5 := ⟨by decide +kernel, rfl⟩
theorem zk_Words_20 : mm_Sl "TensorForge$Words" 20 2 zy_bits_12_4 := ⟨zyw_bits_12_4, mm_tb_1 1470 (by decide +kernel) rfl, mm_tb_1 647 (by decide +kernel) rfl⟩
theorem zd_12_5_5 : zz_D zy_flag_12_5 5 (.lreturn) 1 6 := ⟨by decide +kernel, rfl⟩
-- TensorForge$Words flag (I)J
abbrev zr_flag_12_5 : Room := { frames := 1, cells := 0, slots := 0, locals := 13 }
def zp_flag_12_5 (p0 : Int) (S0 : zz_S) : Int → zz_S → Prop := fun r S => S0 = S ∧ ((-9223372036854775808) ≤ r ∧ r ≤ 9223372036854775807)
theorem zc_flag_12_5 {g : mm_G} {l : Launch} (p0 : Int) (S0 : zz_S) (n : Nat) (hn : zz_end ≤ n) (G_S0 : zz_G S0) (hp0 : (-2147483648) ≤ p0 ∧ p0 ≤ 2147483647) : mm_Met g l zy_flag_12_5 zr_flag_12_5 [zi p0] (zz_M S0 n) n (zz_QJ n (zp_flag_12_5 p0 S0)) := by
  refine zz_enter (by decide) (Nat.le_of_ble_eq_true rfl) (zz_less (ls1 := [some (zi p0)]) ⟨rfl, trivial⟩ ?_)
  refine zz_iload_n (x := p0) rfl zd_12_5_0 ?_
  refine zz_iconst zd_12_5_1 ?_
  refine zz_callSJ [zi p0, zi 1] zd_12_5_2 zk_Words_20 rfl rfl ⟨Nat.le_of_ble_eq_true rfl, Nat.le_of_ble_eq_true rfl⟩ ⟨rfl, rfl⟩ (Nat.zero_le _) (Nat.zero_le _) (zc_bits_12_4 p0 1 S0 n hn G_S0 (by omega) (by omega)) (fun v2 S1 hP => ?_)
  obtain ⟨rfl, o3⟩ := hP
  exact zz_lret zd_12_5_5 rfl (Nat.zero_le _) (Nat.zero_le _) ⟨_, _, rfl, rfl, by omega⟩
theorem zk_Compiler_139 : mm_Sl "TensorForge$Compiler" 139 1 zy_flag_12_5 := ⟨zyw_flag_12_5, mm_tb_1 1467 (by decide +kernel) rfl, mm_tb_1 1468 (by decide +kernel) rfl⟩
theorem zd_3_16_31 : zz_D zy_mark_3_16 31 (.lor) 1 32 := ⟨by decide +kernel, rfl⟩
theorem zd_3_16_32 : zz_D zy_mark_3_16 32 (.lastore) 1 33 := ⟨by decide +kernel, rfl⟩
-- TensorForge$Compiler mark (II)V
abbrev zr_mark_3_16 : Room := { frames := 2, cells := 0, slots := 0, locals := 29 }
def zp_mark_3_16 (p0 : Int) (p1 : Int) (S0 : zz_S) : zz_S → Prop := fun S => zz_G S ∧ zz_fr [] [] (fun a i => a = zz_rf 4 (S0 1076 0)) S0 S
theorem zc_mark_3_16 {g : mm_G} {l : Launch} (p0 : Int) (p1 : Int) (S0 : zz_S) (n : Nat) (hn : zz_end ≤ n) (G_S0 : zz_G S0) (hp0 : (-2147483648) ≤ p0 ∧ p0 ≤ 2147483647) (hp1 : (-2147483648) ≤ p1 ∧ p1 ≤ 2147483647) : mm_Met g l zy_mark_3_16 zr_mark_3_16 [.ref 1076, zi p0, zi p1] (zz_M S0 n) n (zz_QV n (zp_mark_3_16 p0 p1 S0)) := by
  refine zz_enter (by decide) (Nat.le_of_ble_eq_true rfl) (zz_less (ls1 := [some (.ref 1076), some (zi p0), some (zi p1)]) ⟨rfl, ⟨rfl, ⟨rfl, trivial⟩⟩⟩ ?_)
  have F_S0 : zz_fr [] [] (fun a i => a = zz_rf 4 (S0 1076 0)) S0 S0 := zz_fr.refl
  refine zz_iload_n (x := p0) rfl zd_3_16_0 ?_
  refine zz_if_lt (by omega) zd_3_16_1 (fun c1 => ?_) (fun c1 => ?_)
  · exact zz_vret zd_3_16_33 rfl (Nat.zero_le _) (Nat.zero_le _) ⟨_, rfl, G_S0, F_S0⟩
  · refine zz_iload_n (x := p0) rfl zd_3_16_4 ?_
    refine zz_sipush (by decide) zd_3_16_5 ?_
    refine zz_icmp_ge (by omega) (by omega) zd_3_16_8 (fun c2 => ?_) (fun c2 => ?_)
    · exact zz_vret zd_3_16_33 rfl (Nat.zero_le _) (Nat.zero_le _) ⟨_, rfl, G_S0, F_S0⟩
    · refine zz_iload_n (x := p0) rfl zd_3_16_11 ?_
      refine zz_aload_n (x := 1076) rfl zd_3_16_12 ?_
      have g3 := zz_G.r G_S0 1076 0 0 1 rfl rfl
      refine zz_getr (kd := 2) (z := S0 1076 0) zd_3_16_13 zf_Compiler_9 zT_1076 rfl (zz_ltn hn rfl) rfl (by omega) (zz_rf 4 (S0 1076 0)) rfl ?_
      refine zz_alen zd_3_16_16 (zT_k4 (by omega)) rfl (zN_k4 hn (by omega)) ?_
      refine zz_icmp_ge (by omega) (by omega) zd_3_16_17 (fun c4 => ?_) (fun c4 => ?_)
      · exfalso; omega
      · refine zz_aload_n (x := 1076) rfl zd_3_16_20 ?_
        refine zz_getr (kd := 2) (z := S0 1076 0) zd_3_16_21 zf_Compiler_9 zT_1076 rfl (zz_ltn hn rfl) rfl (by omega) (zz_rf 4 (S0 1076 0)) rfl ?_
        refine zz_iload_n (x := p0) rfl zd_3_16_24 ?_
        refine zz_dup2_11 rfl rfl zd_3_16_25 ?_
        have g5 := zz_G.r G_S0 (zz_rf 4 (S0 1076 0)) p0.toNat (-9223372036854775808) 9223372036854775807 (zR_k4 (by omega)) (zB_k4 (by omega))
        refine zz_lald (z := S0 (zz_rf 4 (S0 1076 0)) p0.toNat) zd_3_16_26 (zT_k4 (by omega)) rfl (zN_k4 hn (by omega)) (by decide) (by omega) rfl ?_
        refine zz_iload_n (x := p1) rfl zd_3_16_27 ?_
        refine zz_callSJ [zi p1] zd_3_16_28 zk_Compiler_139 rfl rfl ⟨Nat.le_of_ble_eq_true rfl, Nat.le_of_ble_eq_true rfl⟩ ⟨rfl, rfl⟩ (Nat.zero_le _) (Nat.zero_le _) (zc_flag_12_5 p1 S0 n hn G_S0 (by omega)) (fun v7 S6 hP => ?_)
        obtain ⟨rfl, o8⟩ := hP
        refine zz_lor zd_3_16_31 (fun v9 hv9 ev9 => ?_)
        refine zz_last zd_3_16_32 (zT_k4 (by omega)) rfl (zN_k4 hn (by omega)) (by decide) (by omega) (fun S10 qS10 => ?_)
        have G_S10 := zz_G.put G_S0 qS10 (-9223372036854775808) 9223372036854775807 (zR_k4 (by omega)) (by omega)
        have F_S10 := zz_fr.putv F_S0 qS10 (rfl)
        exact zz_vret zd_3_16_33 rfl (Nat.zero_le _) (Nat.zero_le _) ⟨_, rfl, G_S10, F_S10⟩
theorem zk_Compiler_163 : mm_Vl "TensorForge$Compiler" 163 9 2 zy_mark_3_16 := ⟨zyw_mark_3_16, (R_Compiler, F_Compiler, 17), rfl, mm_tb_1 1463 (by decide +kernel) rfl, mm_tb_1 1465 (by decide +kernel) rfl, mm_tb_s 73 (by decide +kernel) rfl⟩
theorem zd_3_5_127 : zz_D zy_makeGroup_3_5 127 (.aload_n 0) 1 128 := ⟨by decide +kernel, rfl⟩
theorem zd_3_5_128 : zz_D zy_makeGroup_3_5 128 (.iload_n 1) 1 129 := ⟨by decide +kernel, rfl⟩
theorem zd_3_5_129 : zz_D zy_makeGroup_3_5 129 (.invokevirtual 167) 3 132 := ⟨by decide +kernel, rfl⟩
abbrev zy_workOf_3_11 : mm_Y := (⟨"TensorForge$Compiler", "workOf", "(Z)J"⟩, prog_3_method_11_code, 3, (some .long))
theorem zyw_workOf_3_11 : mm_Yw zy_workOf_3_11 1 := ⟨mm_tb_1 1474 (by decide +kernel) rfl, mm_tb_1 10 (by decide +kernel) rfl, ⟨by decide, by decide⟩, by decide +kernel⟩
theorem zd_3_11_0 : zz_D zy_workOf_3_11 0 (.aload_n 0) 1 1 := ⟨by decide +kernel, rfl⟩
theorem zd_3_11_1 : zz_D zy_workOf_3_11 1 (.getfield 51) 3 4 := ⟨by decide +kernel, rfl⟩
theorem zd_3_11_4 : zz_D zy_workOf_3_11 4 (.getfield 61) 3 7 := ⟨by decide +kernel, rfl⟩
theorem zd_3_11_7 : zz_D zy_workOf_3_11 7 (.iconst 1) 1 8 := ⟨by decide +kernel, rfl⟩
theorem zd_3_11_8 : zz_B zy_workOf_3_11 8 (Instr.if_icmp .ne) 68 11 := ⟨60, by decide +kernel, rfl, rfl⟩
theorem zd_3_11_68 : zz_D zy_workOf_3_11 68 (.aload_n 0) 1 69 := ⟨by decide +kernel, rfl⟩
theorem zd_3_11_69 : zz_D zy_workOf_3_11 69 (.getfield 51) 3 72 := ⟨by decide +kernel, rfl⟩
theorem zd_3_11_72 : zz_D zy_workOf_3_11 72 (.getfield 61) 3 75 := ⟨by decide +kernel, rfl⟩
theorem zd_3_11_75 : zz_D zy_workOf_3_11 75 (.iconst 2) 1 76 := ⟨by decide +kernel, rfl⟩
theorem zd_3_11_76 : zz_B zy_workOf_3_11 76 (Instr.if_icmp .ne) 83 79 := ⟨7, by decide +kernel, rfl, rfl⟩
theorem zd_3_11_83 : zz_D zy_workOf_3_11 83 (.iconst 1) 1 84 := ⟨by decide +kernel, rfl⟩
theorem zd_3_11_84 : zz_D zy_workOf_3_11 84 (.istore_n 2) 1 85 := ⟨by decide +kernel, rfl⟩
theorem zd_3_11_85 : zz_D zy_workOf_3_11 85 (.bipush 6) 2 87 := ⟨by decide +kernel, rfl⟩
theorem zd_3_11_87 : zz_D zy_workOf_3_11 87 (.aload_n 0) 1 88 := ⟨by decide +kernel, rfl⟩
theorem zd_3_11_88 : zz_D zy_workOf_3_11 88 (.getfield 91) 3 91 := ⟨by decide +kernel, rfl⟩
theorem zd_3_11_91 : zz_D zy_workOf_3_11 91 (.aload_n 0) 1 92 := ⟨by decide +kernel, rfl⟩
theorem zd_3_11_92 : zz_D zy_workOf_3_11 92 (.getfield 82) 3 95 := ⟨by decide +kernel, rfl⟩
theorem zf_Compiler_82 : mm_Fl "TensorForge$Compiler" 82 9 8 .int false := ⟨R_Compiler, F_Compiler, 17, t_Compiler, rfl, i_Compiler, by decide, mm_tb_1 383 (by decide +kernel) rfl, rfl, t_Compiler_ok, n_Compiler, rfl, by decide +kernel⟩
theorem zd_3_11_95 : zz_D zy_workOf_3_11 95 (.invokestatic 128) 3 98 := ⟨by decide +kernel, rfl⟩
theorem zd_3_11_98 : zz_D zy_workOf_3_11 98 (.bipush 8) 2 100 := ⟨by decide +kernel, rfl⟩
theorem zd_3_11_100 : zz_D zy_workOf_3_11 100 (.aload_n 0) 1 101 := ⟨by decide +kernel, rfl⟩
theorem zd_3_11_101 : zz_D zy_workOf_3_11 101 (.invokevirtual 175) 3 104 := ⟨by decide +kernel, rfl⟩
theorem zd_3_11_104 : zz_D zy_workOf_3_11 104 (.invokestatic 132) 3 107 := ⟨by decide +kernel, rfl⟩
theorem zd_3_11_107 : zz_D zy_workOf_3_11 107 (.lor) 1 108 := ⟨by decide +kernel, rfl⟩
theorem zd_3_11_108 : zz_D zy_workOf_3_11 108 (.bipush 9) 2 110 := ⟨by decide +kernel, rfl⟩
theorem zd_3_11_110 : zz_D zy_workOf_3_11 110 (.aload_n 0) 1 111 := ⟨by decide +kernel, rfl⟩
theorem zd_3_11_111 : zz_D zy_workOf_3_11 111 (.invokevirtual 122) 3 114 := ⟨by decide +kernel, rfl⟩
abbrev zy_tileHalf_3_13 : mm_Y := (⟨"TensorForge$Compiler", "tileHalf", "()I"⟩, prog_3_method_13_code, 1, (some .int))
theorem zyw_tileHalf_3_13 : mm_Yw zy_tileHalf_3_13 0 := ⟨mm_tb_1 1434 (by decide +kernel) rfl, mm_tb_1 10 (by decide +kernel) rfl, ⟨by decide, by decide⟩, by decide +kernel⟩
theorem zd_3_13_0 : zz_D zy_tileHalf_3_13 0 (.sipush 128) 3 3 := ⟨by decide +kernel, rfl⟩
theorem zd_3_13_3 : zz_D zy_tileHalf_3_13 3 (.aload_n 0) 1 4 := ⟨by decide +kernel, rfl⟩
theorem zd_3_13_4 : zz_D zy_tileHalf_3_13 4 (.getfield 70) 3 7 := ⟨by decide +kernel, rfl⟩
theorem zf_Compiler_70 : mm_Fl "TensorForge$Compiler" 70 9 6 .int false := ⟨R_Compiler, F_Compiler, 17, t_Compiler, rfl, i_Compiler, by decide, mm_tb_1 381 (by decide +kernel) rfl, rfl, t_Compiler_ok, n_Compiler, rfl, by decide +kernel⟩
theorem zd_3_13_7 : zz_D zy_tileHalf_3_13 7 (.iconst 1) 1 8 := ⟨by decide +kernel, rfl⟩
theorem zd_3_13_8 : zz_D zy_tileHalf_3_13 8 (.iand) 1 9 := ⟨by decide +kernel, rfl⟩
theorem zd_3_13_9 : zz_D zy_tileHalf_3_13 9 (.imul) 1 10 := ⟨by decide +kernel, rfl⟩
theorem zd_3_13_10 : zz_D zy_tileHalf_3_13 10 (.ireturn) 1 11 := ⟨by decide +kernel, rfl⟩
-- TensorForge$Compiler tileHalf ()I
abbrev zr_tileHalf_3_13 : Room := { frames := 0, cells := 0, slots := 0, locals := 0 }
def zp_tileHalf_3_13  (S0 : zz_S) : Int → zz_S → Prop := fun r S => S0 = S ∧ ((-2147483648) ≤ r ∧ r ≤ 2147483647)
theorem zc_tileHalf_3_13 {g : mm_G} {l : Launch}  (S0 : zz_S) (n : Nat) (hn : zz_end ≤ n) (G_S0 : zz_G S0)  : mm_Met g l zy_tileHalf_3_13 zr_tileHalf_3_13 [.ref 1076] (zz_M S0 n) n (zz_QI n (zp_tileHalf_3_13  S0)) := by
  refine zz_enter (by decide) (Nat.le_of_ble_eq_true rfl) (zz_less (ls1 := [some (.ref 1076)]) ⟨rfl, trivial⟩ ?_)
  refine zz_sipush (by decide) zd_3_13_0 ?_
  refine zz_aload_n (x := 1076) rfl zd_3_13_3 ?_
  have g1 := zz_G.r G_S0 1076 6 (-2147483648) 2147483647 rfl rfl
  refine zz_geti (z := S0 1076 6) zd_3_13_4 zf_Compiler_70 zT_1076 rfl (zz_ltn hn rfl) rfl ?_
  refine zz_iconst zd_3_13_7 ?_
  refine zz_iand (by omega) (by omega) zd_3_13_8 (fun v2 hv2 av2 bv2 ev2 => ?_)
  refine zz_imul zd_3_13_9 ?_
  exact zz_iret zd_3_13_10 rfl (Nat.zero_le _) (Nat.zero_le _) ⟨_, _, rfl, rfl, by omega⟩
theorem zk_Compiler_122 : mm_Vl "TensorForge$Compiler" 122 9 0 zy_tileHalf_3_13 := ⟨zyw_tileHalf_3_13, (R_Compiler, F_Compiler, 17), rfl, mm_tb_1 1431 (by decide +kernel) rfl, mm_tb_1 1433 (by decide +kernel) rfl, mm_tb_s 66 (by decide +kernel) rfl⟩
theorem zd_3_11_114 : zz_D zy_workOf_3_11 114 (.invokestatic 132) 3 117 := ⟨by decide +kernel, rfl⟩
theorem zd_3_11_117 : zz_D zy_workOf_3_11 117 (.lor) 1 118 := ⟨by decide +kernel, rfl⟩
theorem zd_3_11_118 : zz_D zy_workOf_3_11 118 (.bipush 11) 2 120 := ⟨by decide +kernel, rfl⟩
theorem zd_3_11_120 : zz_D zy_workOf_3_11 120 (.iload_n 1) 1 121 := ⟨by decide +kernel, rfl⟩
theorem zd_3_11_121 : zz_B zy_workOf_3_11 121 (Instr.ifCond .eq) 128 124 := ⟨7, by decide +kernel, rfl, rfl⟩
theorem zd_3_11_128 : zz_D zy_workOf_3_11 128 (.iload_n 2) 1 129 := ⟨by decide +kernel, rfl⟩
theorem zd_3_11_129 : zz_D zy_workOf_3_11 129 (.invokestatic 132) 3 132 := ⟨by decide +kernel, rfl⟩
theorem zd_3_11_132 : zz_D zy_workOf_3_11 132 (.lor) 1 133 := ⟨by decide +kernel, rfl⟩
theorem zd_3_11_133 : zz_D zy_workOf_3_11 133 (.lreturn) 1 134 := ⟨by decide +kernel, rfl⟩
theorem zd_3_11_124 : zz_D zy_workOf_3_11 124 (.iconst 0) 1 125 := ⟨by decide +kernel, rfl⟩
theorem zd_3_11_125 : zz_B zy_workOf_3_11 125 Instr.goto 129 128 := ⟨4, by decide +kernel, rfl, rfl⟩
theorem zd_3_11_79 : zz_D zy_workOf_3_11 79 (.iconst 2) 1 80 := ⟨by decide +kernel, rfl⟩
theorem zd_3_11_80 : zz_B zy_workOf_3_11 80 Instr.goto 84 83 := ⟨4, by decide +kernel, rfl, rfl⟩
theorem zd_3_11_11 : zz_D zy_workOf_3_11 11 (.iconst 5) 1 12 := ⟨by decide +kernel, rfl⟩
theorem zd_3_11_12 : zz_D zy_workOf_3_11 12 (.aload_n 0) 1 13 := ⟨by decide +kernel, rfl⟩
theorem zd_3_11_13 : zz_D zy_workOf_3_11 13 (.getfield 91) 3 16 := ⟨by decide +kernel, rfl⟩
theorem zd_3_11_16 : zz_D zy_workOf_3_11 16 (.aload_n 0) 1 17 := ⟨by decide +kernel, rfl⟩
theorem zd_3_11_17 : zz_D zy_workOf_3_11 17 (.getfield 82) 3 20 := ⟨by decide +kernel, rfl⟩
theorem zd_3_11_20 : zz_D zy_workOf_3_11 20 (.invokestatic 128) 3 23 := ⟨by decide +kernel, rfl⟩
theorem zd_3_11_23 : zz_D zy_workOf_3_11 23 (.bipush 8) 2 25 := ⟨by decide +kernel, rfl⟩
theorem zd_3_11_25 : zz_D zy_workOf_3_11 25 (.aload_n 0) 1 26 := ⟨by decide +kernel, rfl⟩
theorem zd_3_11_26 : zz_D zy_workOf_3_11 26 (.invokevirtual 175) 3 29 := ⟨by decide +kernel, rfl⟩
theorem zd_3_11_29 : zz_D zy_workOf_3_11 29 (.invokestatic 132) 3 32 := ⟨by decide +kernel, rfl⟩
theorem zd_3_11_32 : zz_D zy_workOf_3_11 32 (.lor) 1 33 := ⟨by decide +kernel, rfl⟩
theorem zd_3_11_33 : zz_D zy_workOf_3_11 33 (.bipush 10) 2 35 := ⟨by decide +kernel, rfl⟩
theorem zd_3_11_35 : zz_D zy_workOf_3_11 35 (.aload_n 0) 1 36 := ⟨by decide +kernel, rfl⟩
theorem zd_3_11_36 : zz_D zy_workOf_3_11 36 (.invokevirtual 175) 3 39 := ⟨by decide +kernel, rfl⟩
theorem zd_3_11_39 : zz_D zy_workOf_3_11 39 (.invokestatic 132) 3 42 := ⟨by decide +kernel, rfl⟩
theorem zd_3_11_42 : zz_D zy_workOf_3_11 42 (.lor) 1 43 := ⟨by decide +kernel, rfl⟩
theorem zd_3_11_43 : zz_D zy_workOf_3_11 43 (.bipush 9) 2 45 := ⟨by decide +kernel, rfl⟩
theorem zd_3_11_45 : zz_D zy_workOf_3_11 45 (.aload_n 0) 1 46 := ⟨by decide +kernel, rfl⟩
theorem zd_3_11_46 : zz_D zy_workOf_3_11 46 (.invokevirtual 122) 3 49 := ⟨by decide +kernel, rfl⟩
theorem zd_3_11_49 : zz_D zy_workOf_3_11 49 (.invokestatic 132) 3 52 := ⟨by decide +kernel, rfl⟩
theorem zd_3_11_52 : zz_D zy_workOf_3_11 52 (.lor) 1 53 := ⟨by decide +kernel, rfl⟩
theorem zd_3_11_53 : zz_D zy_workOf_3_11 53 (.bipush 11) 2 55 := ⟨by decide +kernel, rfl⟩
theorem zd_3_11_55 : zz_D zy_workOf_3_11 55 (.iconst 2) 1 56 := ⟨by decide +kernel, rfl⟩
theorem zd_3_11_56 : zz_D zy_workOf_3_11 56 (.aload_n 0) 1 57 := ⟨by decide +kernel, rfl⟩
theorem zd_3_11_57 : zz_D zy_workOf_3_11 57 (.getfield 115) 3 60 := ⟨by decide +kernel, rfl⟩
theorem zd_3_11_60 : zz_D zy_workOf_3_11 60 (.imul) 1 61 := ⟨by decide +kernel, rfl⟩
theorem zd_3_11_61 : zz_D zy_workOf_3_11 61 (.iconst 1) 1 62 := ⟨by decide +kernel, rfl⟩
theorem zd_3_11_62 : zz_D zy_workOf_3_11 62 (.iadd) 1 63 := ⟨by decide +kernel, rfl⟩
theorem zd_3_11_63 : zz_D zy_workOf_3_11 63 (.invokestatic 132) 3 66 := ⟨by decide +kernel, rfl⟩
theorem zd_3_11_66 : zz_D zy_workOf_3_11 66 (.lor) 1 67 := ⟨by decide +kernel, rfl⟩
theorem zd_3_11_67 : zz_D zy_workOf_3_11 67 (.lreturn) 1 68 := ⟨by decide +kernel, rfl⟩
-- TensorForge$Compiler workOf (Z)J
abbrev zr_workOf_3_11 : Room := { frames := 1, cells := 0, slots := 0, locals := 15 }
def zp_workOf_3_11 (p0 : Int) (S0 : zz_S) : Int → zz_S → Prop := fun r S => S0 = S ∧ ((-9223372036854775808) ≤ r ∧ r ≤ 9223372036854775807)
theorem zc_workOf_3_11 {g : mm_G} {l : Launch} (p0 : Int) (S0 : zz_S) (n : Nat) (hn : zz_end ≤ n) (G_S0 : zz_G S0) (hp0 : 0 ≤ p0 ∧ p0 ≤ 1) (hl : 0 ≤ S0 1076 3 ∧ 0 ≤ S0 1076 4 ∧ 0 ≤ S0 1076 5) : mm_Met g l zy_workOf_3_11 zr_workOf_3_11 [.ref 1076, zi p0] (zz_M S0 n) n (zz_QJ n (zp_workOf_3_11 p0 S0)) := by
  refine zz_enter (by decide) (Nat.le_of_ble_eq_true rfl) (zz_less (ls1 := [some (.ref 1076), some (zi p0)]) ⟨rfl, ⟨rfl, trivial⟩⟩ ?_)
  refine zz_aload_n (x := 1076) rfl zd_3_11_0 ?_
  have g1 := zz_G.r G_S0 1076 3 (-1) 23 rfl rfl
  refine zz_getr (kd := 4) (z := S0 1076 3) zd_3_11_1 zf_Compiler_51 zT_1076 rfl (zz_ltn hn rfl) rfl (by omega) (zz_rf 6 (S0 1076 3)) rfl ?_
  have g2 := zz_G.r G_S0 (zz_rf 6 (S0 1076 3)) 0 (-2147483648) 2147483647 (zR_k6_0 (by omega)) (zB_k6 (by omega))
  refine zz_geti (z := S0 (zz_rf 6 (S0 1076 3)) 0) zd_3_11_4 zf_Compiler_61 (zT_k6 (by omega)) rfl (zN_k6 hn (by omega)) rfl ?_
  refine zz_iconst zd_3_11_7 ?_
  refine zz_icmp_ne (by omega) (by omega) zd_3_11_8 (fun c3 => ?_) (fun c3 => ?_)
  · refine zz_aload_n (x := 1076) rfl zd_3_11_68 ?_
    refine zz_getr (kd := 4) (z := S0 1076 3) zd_3_11_69 zf_Compiler_51 zT_1076 rfl (zz_ltn hn rfl) rfl (by omega) (zz_rf 6 (S0 1076 3)) rfl ?_
    refine zz_geti (z := S0 (zz_rf 6 (S0 1076 3)) 0) zd_3_11_72 zf_Compiler_61 (zT_k6 (by omega)) rfl (zN_k6 hn (by omega)) rfl ?_
    refine zz_iconst zd_3_11_75 ?_
    refine zz_icmp_ne (by omega) (by omega) zd_3_11_76 (fun c4 => ?_) (fun c4 => ?_)
    · refine zz_iconst zd_3_11_83 ?_
      refine zz_istore_n [some (.ref 1076), some (zi p0), some (zi 1)] zd_3_11_84 (by decide) rfl ?_
      refine zz_bipush (by decide) zd_3_11_85 ?_
      refine zz_aload_n (x := 1076) rfl zd_3_11_87 ?_
      have g5 := zz_G.r G_S0 1076 11 (-2147483648) 2147483647 rfl rfl
      refine zz_geti (z := S0 1076 11) zd_3_11_88 zf_Compiler_91 zT_1076 rfl (zz_ltn hn rfl) rfl ?_
      refine zz_aload_n (x := 1076) rfl zd_3_11_91 ?_
      have g6 := zz_G.r G_S0 1076 8 (-2147483648) 2147483647 rfl rfl
      refine zz_geti (z := S0 1076 8) zd_3_11_92 zf_Compiler_82 zT_1076 rfl (zz_ltn hn rfl) rfl ?_
      refine zz_callSJ [zi 6, zi (S0 1076 11), zi (S0 1076 8)] zd_3_11_95 zk_Compiler_128 rfl rfl ⟨Nat.le_of_ble_eq_true rfl, Nat.le_of_ble_eq_true rfl⟩ ⟨rfl, rfl⟩ (Nat.zero_le _) (Nat.zero_le _) (zc_shaped_12_6 6 (S0 1076 11) (S0 1076 8) S0 n hn G_S0 (by omega) (by omega) (by omega)) (fun v8 S7 hP => ?_)
      obtain ⟨rfl, o9⟩ := hP
      refine zz_bipush (by decide) zd_3_11_98 ?_
      refine zz_aload_n (x := 1076) rfl zd_3_11_100 ?_
      refine zz_callVI [] zd_3_11_101 zk_Compiler_175 zT_1076 (zz_ltn hn rfl) rfl rfl ⟨Nat.le_of_ble_eq_true rfl, Nat.le_of_ble_eq_true rfl⟩ ⟨rfl, rfl⟩ (Nat.zero_le _) (Nat.zero_le _) (zc_groupHalf_3_14  S0 n hn G_S0 ) (fun v11 S10 hP => ?_)
      obtain ⟨rfl, o12⟩ := hP
      refine zz_callSJ [zi 8, zi v11] zd_3_11_104 zk_Compiler_132 rfl rfl ⟨Nat.le_of_ble_eq_true rfl, Nat.le_of_ble_eq_true rfl⟩ ⟨rfl, rfl⟩ (Nat.zero_le _) (Nat.zero_le _) (zc_bits_12_4 8 v11 S0 n hn G_S0 (by omega) (by omega)) (fun v14 S13 hP => ?_)
      obtain ⟨rfl, o15⟩ := hP
      refine zz_lor zd_3_11_107 (fun v16 hv16 ev16 => ?_)
      refine zz_bipush (by decide) zd_3_11_108 ?_
      refine zz_aload_n (x := 1076) rfl zd_3_11_110 ?_
      refine zz_callVI [] zd_3_11_111 zk_Compiler_122 zT_1076 (zz_ltn hn rfl) rfl rfl ⟨Nat.le_of_ble_eq_true rfl, Nat.le_of_ble_eq_true rfl⟩ ⟨rfl, rfl⟩ (Nat.zero_le _) (Nat.zero_le _) (zc_tileHalf_3_13  S0 n hn G_S0 ) (fun v18 S17 hP => ?_)
      obtain ⟨rfl, o19⟩ := hP
      refine zz_callSJ [zi 9, zi v18] zd_3_11_114 zk_Compiler_132 rfl rfl ⟨Nat.le_of_ble_eq_true rfl, Nat.le_of_ble_eq_true rfl⟩ ⟨rfl, rfl⟩ (Nat.zero_le _) (Nat.zero_le _) (zc_bits_12_4 9 v18 S0 n hn G_S0 (by omega) (by omega)) (fun v21 S20 hP => ?_)
      obtain ⟨rfl, o22⟩ := hP
      refine zz_lor zd_3_11_117 (fun v23 hv23 ev23 => ?_)
      refine zz_bipush (by decide) zd_3_11_118 ?_
      refine zz_iload_n (x := p0) rfl zd_3_11_120 ?_
      refine zz_if_eq (by omega) zd_3_11_121 (fun c24 => ?_) (fun c24 => ?_)
      · refine zz_iload_n (x := 1) rfl zd_3_11_128 ?_
        refine zz_callSJ [zi 11, zi 1] zd_3_11_129 zk_Compiler_132 rfl rfl ⟨Nat.le_of_ble_eq_true rfl, Nat.le_of_ble_eq_true rfl⟩ ⟨rfl, rfl⟩ (Nat.zero_le _) (Nat.zero_le _) (zc_bits_12_4 11 1 S0 n hn G_S0 (by omega) (by omega)) (fun v26 S25 hP => ?_)
        obtain ⟨rfl, o27⟩ := hP
        refine zz_lor zd_3_11_132 (fun v28 hv28 ev28 => ?_)
        exact zz_lret zd_3_11_133 rfl (Nat.zero_le _) (Nat.zero_le _) ⟨_, _, rfl, rfl, by omega⟩
      · refine zz_iconst zd_3_11_124 ?_
        refine zz_goto zd_3_11_125 ?_
        refine zz_callSJ [zi 11, zi 0] zd_3_11_129 zk_Compiler_132 rfl rfl ⟨Nat.le_of_ble_eq_true rfl, Nat.le_of_ble_eq_true rfl⟩ ⟨rfl, rfl⟩ (Nat.zero_le _) (Nat.zero_le _) (zc_bits_12_4 11 0 S0 n hn G_S0 (by omega) (by omega)) (fun v30 S29 hP => ?_)
        obtain ⟨rfl, o31⟩ := hP
        refine zz_lor zd_3_11_132 (fun v32 hv32 ev32 => ?_)
        exact zz_lret zd_3_11_133 rfl (Nat.zero_le _) (Nat.zero_le _) ⟨_, _, rfl, rfl, by omega⟩
    · refine zz_iconst zd_3_11_79 ?_
      refine zz_goto zd_3_11_80 ?_
      refine zz_istore_n [some (.ref 1076), some (zi p0), some (zi 2)] zd_3_11_84 (by decide) rfl ?_
      refine zz_bipush (by decide) zd_3_11_85 ?_
      refine zz_aload_n (x := 1076) rfl zd_3_11_87 ?_
      have g33 := zz_G.r G_S0 1076 11 (-2147483648) 2147483647 rfl rfl
      refine zz_geti (z := S0 1076 11) zd_3_11_88 zf_Compiler_91 zT_1076 rfl (zz_ltn hn rfl) rfl ?_
      refine zz_aload_n (x := 1076) rfl zd_3_11_91 ?_
      have g34 := zz_G.r G_S0 1076 8 (-2147483648) 2147483647 rfl rfl
      refine zz_geti (z := S0 1076 8) zd_3_11_92 zf_Compiler_82 zT_1076 rfl (zz_ltn hn rfl) rfl ?_
      refine zz_callSJ [zi 6, zi (S0 1076 11), zi (S0 1076 8)] zd_3_11_95 zk_Compiler_128 rfl rfl ⟨Nat.le_of_ble_eq_true rfl, Nat.le_of_ble_eq_true rfl⟩ ⟨rfl, rfl⟩ (Nat.zero_le _) (Nat.zero_le _) (zc_shaped_12_6 6 (S0 1076 11) (S0 1076 8) S0 n hn G_S0 (by omega) (by omega) (by omega)) (fun v36 S35 hP => ?_)
      obtain ⟨rfl, o37⟩ := hP
      refine zz_bipush (by decide) zd_3_11_98 ?_
      refine zz_aload_n (x := 1076) rfl zd_3_11_100 ?_
      refine zz_callVI [] zd_3_11_101 zk_Compiler_175 zT_1076 (zz_ltn hn rfl) rfl rfl ⟨Nat.le_of_ble_eq_true rfl, Nat.le_of_ble_eq_true rfl⟩ ⟨rfl, rfl⟩ (Nat.zero_le _) (Nat.zero_le _) (zc_groupHalf_3_14  S0 n hn G_S0 ) (fun v39 S38 hP => ?_)
      obtain ⟨rfl, o40⟩ := hP
      refine zz_callSJ [zi 8, zi v39] zd_3_11_104 zk_Compiler_132 rfl rfl ⟨Nat.le_of_ble_eq_true rfl, Nat.le_of_ble_eq_true rfl⟩ ⟨rfl, rfl⟩ (Nat.zero_le _) (Nat.zero_le _) (zc_bits_12_4 8 v39 S0 n hn G_S0 (by omega) (by omega)) (fun v42 S41 hP => ?_)
      obtain ⟨rfl, o43⟩ := hP
      refine zz_lor zd_3_11_107 (fun v44 hv44 ev44 => ?_)
      refine zz_bipush (by decide) zd_3_11_108 ?_
      refine zz_aload_n (x := 1076) rfl zd_3_11_110 ?_
      refine zz_callVI [] zd_3_11_111 zk_Compiler_122 zT_1076 (zz_ltn hn rfl) rfl rfl ⟨Nat.le_of_ble_eq_true rfl, Nat.le_of_ble_eq_true rfl⟩ ⟨rfl, rfl⟩ (Nat.zero_le _) (Nat.zero_le _) (zc_tileHalf_3_13  S0 n hn G_S0 ) (fun v46 S45 hP => ?_)
      obtain ⟨rfl, o47⟩ := hP
      refine zz_callSJ [zi 9, zi v46] zd_3_11_114 zk_Compiler_132 rfl rfl ⟨Nat.le_of_ble_eq_true rfl, Nat.le_of_ble_eq_true rfl⟩ ⟨rfl, rfl⟩ (Nat.zero_le _) (Nat.zero_le _) (zc_bits_12_4 9 v46 S0 n hn G_S0 (by omega) (by omega)) (fun v49 S48 hP => ?_)
      obtain ⟨rfl, o50⟩ := hP
      refine zz_lor zd_3_11_117 (fun v51 hv51 ev51 => ?_)
      refine zz_bipush (by decide) zd_3_11_118 ?_
      refine zz_iload_n (x := p0) rfl zd_3_11_120 ?_
      refine zz_if_eq (by omega) zd_3_11_121 (fun c52 => ?_) (fun c52 => ?_)
      · refine zz_iload_n (x := 2) rfl zd_3_11_128 ?_
        refine zz_callSJ [zi 11, zi 2] zd_3_11_129 zk_Compiler_132 rfl rfl ⟨Nat.le_of_ble_eq_true rfl, Nat.le_of_ble_eq_true rfl⟩ ⟨rfl, rfl⟩ (Nat.zero_le _) (Nat.zero_le _) (zc_bits_12_4 11 2 S0 n hn G_S0 (by omega) (by omega)) (fun v54 S53 hP => ?_)
        obtain ⟨rfl, o55⟩ := hP
        refine zz_lor zd_3_11_132 (fun v56 hv56 ev56 => ?_)
        exact zz_lret zd_3_11_133 rfl (Nat.zero_le _) (Nat.zero_le _) ⟨_, _, rfl, rfl, by omega⟩
      · refine zz_iconst zd_3_11_124 ?_
        refine zz_goto zd_3_11_125 ?_
        refine zz_callSJ [zi 11, zi 0] zd_3_11_129 zk_Compiler_132 rfl rfl ⟨Nat.le_of_ble_eq_true rfl, Nat.le_of_ble_eq_true rfl⟩ ⟨rfl, rfl⟩ (Nat.zero_le _) (Nat.zero_le _) (zc_bits_12_4 11 0 S0 n hn G_S0 (by omega) (by omega)) (fun v58 S57 hP => ?_)
        obtain ⟨rfl, o59⟩ := hP
        refine zz_lor zd_3_11_132 (fun v60 hv60 ev60 => ?_)
        exact zz_lret zd_3_11_133 rfl (Nat.zero_le _) (Nat.zero_le _) ⟨_, _, rfl, rfl, by omega⟩
  · refine zz_iconst zd_3_11_11 ?_
    refine zz_aload_n (x := 1076) rfl zd_3_11_12 ?_
    have g61 := zz_G.r G_S0 1076 11 (-2147483648) 2147483647 rfl rfl
    refine zz_geti (z := S0 1076 11) zd_3_11_13 zf_Compiler_91 zT_1076 rfl (zz_ltn hn rfl) rfl ?_
    refine zz_aload_n (x := 1076) rfl zd_3_11_16 ?_
    have g62 := zz_G.r G_S0 1076 8 (-2147483648) 2147483647 rfl rfl
    refine zz_geti (z := S0 1076 8) zd_3_11_17 zf_Compiler_82 zT_1076 rfl (zz_ltn hn rfl) rfl ?_
    refine zz_callSJ [zi 5, zi (S0 1076 11), zi (S0 1076 8)] zd_3_11_20 zk_Compiler_128 rfl rfl ⟨Nat.le_of_ble_eq_true rfl, Nat.le_of_ble_eq_true rfl⟩ ⟨rfl, rfl⟩ (Nat.zero_le _) (Nat.zero_le _) (zc_shaped_12_6 5 (S0 1076 11) (S0 1076 8) S0 n hn G_S0 (by omega) (by omega) (by omega)) (fun v64 S63 hP => ?_)
    obtain ⟨rfl, o65⟩ := hP
    refine zz_bipush (by decide) zd_3_11_23 ?_
    refine zz_aload_n (x := 1076) rfl zd_3_11_25 ?_
    refine zz_callVI [] zd_3_11_26 zk_Compiler_175 zT_1076 (zz_ltn hn rfl) rfl rfl ⟨Nat.le_of_ble_eq_true rfl, Nat.le_of_ble_eq_true rfl⟩ ⟨rfl, rfl⟩ (Nat.zero_le _) (Nat.zero_le _) (zc_groupHalf_3_14  S0 n hn G_S0 ) (fun v67 S66 hP => ?_)
    obtain ⟨rfl, o68⟩ := hP
    refine zz_callSJ [zi 8, zi v67] zd_3_11_29 zk_Compiler_132 rfl rfl ⟨Nat.le_of_ble_eq_true rfl, Nat.le_of_ble_eq_true rfl⟩ ⟨rfl, rfl⟩ (Nat.zero_le _) (Nat.zero_le _) (zc_bits_12_4 8 v67 S0 n hn G_S0 (by omega) (by omega)) (fun v70 S69 hP => ?_)
    obtain ⟨rfl, o71⟩ := hP
    refine zz_lor zd_3_11_32 (fun v72 hv72 ev72 => ?_)
    refine zz_bipush (by decide) zd_3_11_33 ?_
    refine zz_aload_n (x := 1076) rfl zd_3_11_35 ?_
    refine zz_callVI [] zd_3_11_36 zk_Compiler_175 zT_1076 (zz_ltn hn rfl) rfl rfl ⟨Nat.le_of_ble_eq_true rfl, Nat.le_of_ble_eq_true rfl⟩ ⟨rfl, rfl⟩ (Nat.zero_le _) (Nat.zero_le _) (zc_groupHalf_3_14  S0 n hn G_S0 ) (fun v74 S73 hP => ?_)
    obtain ⟨rfl, o75⟩ := hP
    refine zz_callSJ [zi 10, zi v74] zd_3_11_39 zk_Compiler_132 rfl rfl ⟨Nat.le_of_ble_eq_true rfl, Nat.le_of_ble_eq_true rfl⟩ ⟨rfl, rfl⟩ (Nat.zero_le _) (Nat.zero_le _) (zc_bits_12_4 10 v74 S0 n hn G_S0 (by omega) (by omega)) (fun v77 S76 hP => ?_)
    obtain ⟨rfl, o78⟩ := hP
    refine zz_lor zd_3_11_42 (fun v79 hv79 ev79 => ?_)
    refine zz_bipush (by decide) zd_3_11_43 ?_
    refine zz_aload_n (x := 1076) rfl zd_3_11_45 ?_
    refine zz_callVI [] zd_3_11_46 zk_Compiler_122 zT_1076 (zz_ltn hn rfl) rfl rfl ⟨Nat.le_of_ble_eq_true rfl, Nat.le_of_ble_eq_true rfl⟩ ⟨rfl, rfl⟩ (Nat.zero_le _) (Nat.zero_le _) (zc_tileHalf_3_13  S0 n hn G_S0 ) (fun v81 S80 hP => ?_)
    obtain ⟨rfl, o82⟩ := hP
    refine zz_callSJ [zi 9, zi v81] zd_3_11_49 zk_Compiler_132 rfl rfl ⟨Nat.le_of_ble_eq_true rfl, Nat.le_of_ble_eq_true rfl⟩ ⟨rfl, rfl⟩ (Nat.zero_le _) (Nat.zero_le _) (zc_bits_12_4 9 v81 S0 n hn G_S0 (by omega) (by omega)) (fun v84 S83 hP => ?_)
    obtain ⟨rfl, o85⟩ := hP
    refine zz_lor zd_3_11_52 (fun v86 hv86 ev86 => ?_)
    refine zz_bipush (by decide) zd_3_11_53 ?_
    refine zz_iconst zd_3_11_55 ?_
    refine zz_aload_n (x := 1076) rfl zd_3_11_56 ?_
    have g87 := zz_G.r G_S0 1076 16 (-2147483648) 2147483647 rfl rfl
    refine zz_geti (z := S0 1076 16) zd_3_11_57 zf_Compiler_115 zT_1076 rfl (zz_ltn hn rfl) rfl ?_
    refine zz_imul zd_3_11_60 ?_
    refine zz_nrm (fun v88 hv88 ev88 => ?_)
    refine zz_iconst zd_3_11_61 ?_
    refine zz_iadd zd_3_11_62 ?_
    refine zz_nrm (fun v89 hv89 ev89 => ?_)
    refine zz_callSJ [zi 11, zi v89] zd_3_11_63 zk_Compiler_132 rfl rfl ⟨Nat.le_of_ble_eq_true rfl, Nat.le_of_ble_eq_true rfl⟩ ⟨rfl, rfl⟩ (Nat.zero_le _) (Nat.zero_le _) (zc_bits_12_4 11 v89 S0 n hn G_S0 (by omega) (by omega)) (fun v91 S90 hP => ?_)
    obtain ⟨rfl, o92⟩ := hP
    refine zz_lor zd_3_11_66 (fun v93 hv93 ev93 => ?_)
    exact zz_lret zd_3_11_67 rfl (Nat.zero_le _) (Nat.zero_le _) ⟨_, _, rfl, rfl, by omega⟩
theorem zk_Compiler_167 : mm_Vl "TensorForge$Compiler" 167 9 1 zy_workOf_3_11 := ⟨zyw_workOf_3_11, (R_Compiler, F_Compiler, 17), rfl, mm_tb_1 1471 (by decide +kernel) rfl, mm_tb_1 1473 (by decide +kernel) rfl, mm_tb_s 74 (by decide +kernel) rfl⟩
theorem zd_3_5_132 : zz_D zy_makeGroup_3_5 132 (.iconst 1) 1 133 := ⟨by decide +kernel, rfl⟩
theorem zd_3_5_133 : zz_D zy_makeGroup_3_5 133 (.invokestatic 139) 3 136 := ⟨by decide +kernel, rfl⟩
theorem zd_3_5_136 : zz_D zy_makeGroup_3_5 136 (.lor) 1 137 := ⟨by decide +kernel, rfl⟩
theorem zd_3_5_137 : zz_D zy_makeGroup_3_5 137 (.lstore 4) 2 139 := ⟨by decide +kernel, rfl⟩
theorem zd_3_5_139 : zz_D zy_makeGroup_3_5 139 (.aload_n 0) 1 140 := ⟨by decide +kernel, rfl⟩
theorem zd_3_5_140 : zz_D zy_makeGroup_3_5 140 (.iload_n 2) 1 141 := ⟨by decide +kernel, rfl⟩
theorem zd_3_5_141 : zz_B zy_makeGroup_3_5 141 (Instr.ifCond .eq) 149 144 := ⟨8, by decide +kernel, rfl, rfl⟩
theorem zd_3_5_149 : zz_D zy_makeGroup_3_5 149 (.lload 4) 2 151 := ⟨by decide +kernel, rfl⟩
theorem zd_3_5_151 : zz_D zy_makeGroup_3_5 151 (.iconst 3) 1 152 := ⟨by decide +kernel, rfl⟩
theorem zd_3_5_152 : zz_D zy_makeGroup_3_5 152 (.invokestatic 139) 3 155 := ⟨by decide +kernel, rfl⟩
theorem zd_3_5_155 : zz_D zy_makeGroup_3_5 155 (.lor) 1 156 := ⟨by decide +kernel, rfl⟩
theorem zd_3_5_156 : zz_D zy_makeGroup_3_5 156 (.invokevirtual 143) 3 159 := ⟨by decide +kernel, rfl⟩
theorem zd_3_5_159 : zz_D zy_makeGroup_3_5 159 (.return_) 1 160 := ⟨by decide +kernel, rfl⟩
theorem zd_3_5_144 : zz_D zy_makeGroup_3_5 144 (.lload 4) 2 146 := ⟨by decide +kernel, rfl⟩
theorem zd_3_5_146 : zz_B zy_makeGroup_3_5 146 Instr.goto 156 149 := ⟨10, by decide +kernel, rfl, rfl⟩
theorem zd_3_5_110 : zz_D zy_makeGroup_3_5 110 (.aload_n 0) 1 111 := ⟨by decide +kernel, rfl⟩
theorem zd_3_5_111 : zz_D zy_makeGroup_3_5 111 (.iload_n 3) 1 112 := ⟨by decide +kernel, rfl⟩
theorem zd_3_5_112 : zz_D zy_makeGroup_3_5 112 (.iconst 2) 1 113 := ⟨by decide +kernel, rfl⟩
theorem zd_3_5_113 : zz_D zy_makeGroup_3_5 113 (.invokevirtual 163) 3 116 := ⟨by decide +kernel, rfl⟩
theorem zd_3_5_61 : zz_D zy_makeGroup_3_5 61 (.aload_n 0) 1 62 := ⟨by decide +kernel, rfl⟩
theorem zd_3_5_62 : zz_D zy_makeGroup_3_5 62 (.getfield 55) 3 65 := ⟨by decide +kernel, rfl⟩
theorem zf_Compiler_55 : mm_Fl "TensorForge$Compiler" 55 9 4 (.object "TensorForge$Layer") false := ⟨R_Compiler, F_Compiler, 17, t_Compiler, rfl, i_Compiler, by decide, mm_tb_1 379 (by decide +kernel) rfl, rfl, t_Compiler_ok, n_Compiler, rfl, by decide +kernel⟩
theorem zd_3_5_65 : zz_B zy_makeGroup_3_5 65 Instr.goto 72 68 := ⟨7, by decide +kernel, rfl, rfl⟩
theorem zd_3_5_43 : zz_D zy_makeGroup_3_5 43 (.aload_n 0) 1 44 := ⟨by decide +kernel, rfl⟩
theorem zd_3_5_44 : zz_D zy_makeGroup_3_5 44 (.aload_n 0) 1 45 := ⟨by decide +kernel, rfl⟩
theorem zd_3_5_45 : zz_D zy_makeGroup_3_5 45 (.getfield 76) 3 48 := ⟨by decide +kernel, rfl⟩
theorem zd_3_5_48 : zz_D zy_makeGroup_3_5 48 (.invokevirtual 155) 3 51 := ⟨by decide +kernel, rfl⟩
abbrev zy_loadMet_3_7 : mm_Y := (⟨"TensorForge$Compiler", "loadMet", "(I)V"⟩, prog_3_method_7_code, 5, none)
theorem zyw_loadMet_3_7 : mm_Yw zy_loadMet_3_7 1 := ⟨mm_tb_1 1449 (by decide +kernel) rfl, mm_tb_1 10 (by decide +kernel) rfl, ⟨by decide, by decide⟩, by decide +kernel⟩
theorem zd_3_7_0 : zz_D zy_loadMet_3_7 0 (.aload_n 0) 1 1 := ⟨by decide +kernel, rfl⟩
theorem zd_3_7_1 : zz_D zy_loadMet_3_7 1 (.getfield 51) 3 4 := ⟨by decide +kernel, rfl⟩
theorem zd_3_7_4 : zz_D zy_loadMet_3_7 4 (.getfield 182) 3 7 := ⟨by decide +kernel, rfl⟩
theorem zf_Compiler_182 : mm_Fl "TensorForge$Compiler" 182 2 5 .int false := ⟨R_Layer, F_Layer, 15, t_Layer, rfl, i_Layer, by decide, mm_tb_1 76 (by decide +kernel) rfl, rfl, t_Layer_ok, n_Layer, rfl, by decide +kernel⟩
theorem zd_3_7_7 : zz_D zy_loadMet_3_7 7 (.aload_n 0) 1 8 := ⟨by decide +kernel, rfl⟩
theorem zd_3_7_8 : zz_D zy_loadMet_3_7 8 (.getfield 85) 3 11 := ⟨by decide +kernel, rfl⟩
theorem zf_Compiler_85 : mm_Fl "TensorForge$Compiler" 85 9 9 .int false := ⟨R_Compiler, F_Compiler, 17, t_Compiler, rfl, i_Compiler, by decide, mm_tb_1 384 (by decide +kernel) rfl, rfl, t_Compiler_ok, n_Compiler, rfl, by decide +kernel⟩
theorem zd_3_7_11 : zz_D zy_loadMet_3_7 11 (.imul) 1 12 := ⟨by decide +kernel, rfl⟩
theorem zd_3_7_12 : zz_D zy_loadMet_3_7 12 (.aload_n 0) 1 13 := ⟨by decide +kernel, rfl⟩
theorem zd_3_7_13 : zz_D zy_loadMet_3_7 13 (.getfield 106) 3 16 := ⟨by decide +kernel, rfl⟩
theorem zf_Compiler_106 : mm_Fl "TensorForge$Compiler" 106 9 13 .int false := ⟨R_Compiler, F_Compiler, 17, t_Compiler, rfl, i_Compiler, by decide, mm_tb_1 388 (by decide +kernel) rfl, rfl, t_Compiler_ok, n_Compiler, rfl, by decide +kernel⟩
theorem zd_3_7_16 : zz_D zy_loadMet_3_7 16 (.iadd) 1 17 := ⟨by decide +kernel, rfl⟩
theorem zd_3_7_17 : zz_D zy_loadMet_3_7 17 (.aload_n 0) 1 18 := ⟨by decide +kernel, rfl⟩
theorem zd_3_7_18 : zz_D zy_loadMet_3_7 18 (.getfield 51) 3 21 := ⟨by decide +kernel, rfl⟩
theorem zd_3_7_21 : zz_D zy_loadMet_3_7 21 (.getfield 185) 3 24 := ⟨by decide +kernel, rfl⟩
theorem zf_Compiler_185 : mm_Fl "TensorForge$Compiler" 185 2 6 .int false := ⟨R_Layer, F_Layer, 15, t_Layer, rfl, i_Layer, by decide, mm_tb_1 81 (by decide +kernel) rfl, rfl, t_Layer_ok, n_Layer, rfl, by decide +kernel⟩
theorem zd_3_7_24 : zz_D zy_loadMet_3_7 24 (.isub) 1 25 := ⟨by decide +kernel, rfl⟩
theorem zd_3_7_25 : zz_D zy_loadMet_3_7 25 (.istore_n 2) 1 26 := ⟨by decide +kernel, rfl⟩
theorem zd_3_7_26 : zz_D zy_loadMet_3_7 26 (.iload_n 2) 1 27 := ⟨by decide +kernel, rfl⟩
theorem zd_3_7_27 : zz_B zy_loadMet_3_7 27 (Instr.ifCond .lt) 41 30 := ⟨14, by decide +kernel, rfl, rfl⟩
theorem zd_3_7_41 : zz_D zy_loadMet_3_7 41 (.aload_n 0) 1 42 := ⟨by decide +kernel, rfl⟩
theorem zd_3_7_42 : zz_D zy_loadMet_3_7 42 (.iconst 0) 1 43 := ⟨by decide +kernel, rfl⟩
theorem zd_3_7_43 : zz_D zy_loadMet_3_7 43 (.aload_n 0) 1 44 := ⟨by decide +kernel, rfl⟩
theorem zd_3_7_44 : zz_D zy_loadMet_3_7 44 (.getfield 91) 3 47 := ⟨by decide +kernel, rfl⟩
theorem zd_3_7_47 : zz_D zy_loadMet_3_7 47 (.invokevirtual 188) 3 50 := ⟨by decide +kernel, rfl⟩
abbrev zy_clearPlaces_3_9 : mm_Y := (⟨"TensorForge$Compiler", "clearPlaces", "(II)V"⟩, prog_3_method_9_code, 3, none)
theorem zyw_clearPlaces_3_9 : mm_Yw zy_clearPlaces_3_9 2 := ⟨mm_tb_1 1453 (by decide +kernel) rfl, mm_tb_1 10 (by decide +kernel) rfl, ⟨by decide, by decide⟩, by decide +kernel⟩
theorem zd_3_9_0 : zz_D zy_clearPlaces_3_9 0 (.iload_n 2) 1 1 := ⟨by decide +kernel, rfl⟩
theorem zd_3_9_1 : zz_D zy_clearPlaces_3_9 1 (.iload_n 1) 1 2 := ⟨by decide +kernel, rfl⟩
theorem zd_3_9_2 : zz_B zy_clearPlaces_3_9 2 (Instr.if_icmp .le) 37 5 := ⟨35, by decide +kernel, rfl, rfl⟩
theorem zd_3_9_37 : zz_D zy_clearPlaces_3_9 37 (.return_) 1 38 := ⟨by decide +kernel, rfl⟩
theorem zd_3_9_5 : zz_D zy_clearPlaces_3_9 5 (.aload_n 0) 1 6 := ⟨by decide +kernel, rfl⟩
theorem zd_3_9_6 : zz_D zy_clearPlaces_3_9 6 (.iconst 3) 1 7 := ⟨by decide +kernel, rfl⟩
theorem zd_3_9_7 : zz_D zy_clearPlaces_3_9 7 (.iload_n 2) 1 8 := ⟨by decide +kernel, rfl⟩
theorem zd_3_9_8 : zz_D zy_clearPlaces_3_9 8 (.iload_n 1) 1 9 := ⟨by decide +kernel, rfl⟩
theorem zd_3_9_9 : zz_D zy_clearPlaces_3_9 9 (.isub) 1 10 := ⟨by decide +kernel, rfl⟩
theorem zd_3_9_10 : zz_D zy_clearPlaces_3_9 10 (.aload_n 0) 1 11 := ⟨by decide +kernel, rfl⟩
theorem zd_3_9_11 : zz_D zy_clearPlaces_3_9 11 (.getfield 115) 3 14 := ⟨by decide +kernel, rfl⟩
theorem zd_3_9_14 : zz_D zy_clearPlaces_3_9 14 (.invokestatic 128) 3 17 := ⟨by decide +kernel, rfl⟩
theorem zd_3_9_17 : zz_D zy_clearPlaces_3_9 17 (.bipush 8) 2 19 := ⟨by decide +kernel, rfl⟩
theorem zd_3_9_19 : zz_D zy_clearPlaces_3_9 19 (.aload_n 0) 1 20 := ⟨by decide +kernel, rfl⟩
theorem zd_3_9_20 : zz_D zy_clearPlaces_3_9 20 (.invokevirtual 175) 3 23 := ⟨by decide +kernel, rfl⟩
theorem zd_3_9_23 : zz_D zy_clearPlaces_3_9 23 (.iload_n 1) 1 24 := ⟨by decide +kernel, rfl⟩
theorem zd_3_9_24 : zz_D zy_clearPlaces_3_9 24 (.aload_n 0) 1 25 := ⟨by decide +kernel, rfl⟩
theorem zd_3_9_25 : zz_D zy_clearPlaces_3_9 25 (.getfield 21) 3 28 := ⟨by decide +kernel, rfl⟩
theorem zd_3_9_28 : zz_D zy_clearPlaces_3_9 28 (.imul) 1 29 := ⟨by decide +kernel, rfl⟩
theorem zd_3_9_29 : zz_D zy_clearPlaces_3_9 29 (.iadd) 1 30 := ⟨by decide +kernel, rfl⟩
theorem zd_3_9_30 : zz_D zy_clearPlaces_3_9 30 (.invokestatic 132) 3 33 := ⟨by decide +kernel, rfl⟩
theorem zd_3_9_33 : zz_D zy_clearPlaces_3_9 33 (.lor) 1 34 := ⟨by decide +kernel, rfl⟩
theorem zd_3_9_34 : zz_D zy_clearPlaces_3_9 34 (.invokevirtual 143) 3 37 := ⟨by decide +kernel, rfl⟩
-- TensorForge$Compiler clearPlaces (II)V
abbrev zr_clearPlaces_3_9 : Room := { frames := 1, cells := 0, slots := 0, locals := 16 }
def zp_clearPlaces_3_9 (p0 : Int) (p1 : Int) (S0 : zz_S) : zz_S → Prop := fun S => zz_G S ∧ zz_fr [(1076, 1)] [] (fun a i => a = zz_rf 4 (S0 1076 0)) S0 S ∧ (S0 1076 1 ≤ S 1076 1 ∧ S 1076 1 ≤ S0 1076 1 + 1)
theorem zc_clearPlaces_3_9 {g : mm_G} {l : Launch} (p0 : Int) (p1 : Int) (S0 : zz_S) (n : Nat) (hn : zz_end ≤ n) (G_S0 : zz_G S0) (hp0 : (-2147483648) ≤ p0 ∧ p0 ≤ 2147483647) (hp1 : (-2147483648) ≤ p1 ∧ p1 ≤ 2147483647) (hq : S0 1076 1 ≤ 900000) (hl : 0 ≤ S0 1076 3 ∧ 0 ≤ S0 1076 4 ∧ 0 ≤ S0 1076 5) : mm_Met g l zy_clearPlaces_3_9 zr_clearPlaces_3_9 [.ref 1076, zi p0, zi p1] (zz_M S0 n) n (zz_QV n (zp_clearPlaces_3_9 p0 p1 S0)) := by
  refine zz_enter (by decide) (Nat.le_of_ble_eq_true rfl) (zz_less (ls1 := [some (.ref 1076), some (zi p0), some (zi p1)]) ⟨rfl, ⟨rfl, ⟨rfl, trivial⟩⟩⟩ ?_)
  have F_S0 : zz_fr [(1076, 1)] [] (fun a i => a = zz_rf 4 (S0 1076 0)) S0 S0 := zz_fr.refl
  refine zz_iload_n (x := p1) rfl zd_3_9_0 ?_
  refine zz_iload_n (x := p0) rfl zd_3_9_1 ?_
  refine zz_icmp_le (by omega) (by omega) zd_3_9_2 (fun c1 => ?_) (fun c1 => ?_)
  · have g2 := zz_G.r G_S0 1076 1 0 1000000 rfl rfl
    exact zz_vret zd_3_9_37 rfl (Nat.zero_le _) (Nat.zero_le _) ⟨_, rfl, G_S0, F_S0, by omega⟩
  · refine zz_aload_n (x := 1076) rfl zd_3_9_5 ?_
    refine zz_iconst zd_3_9_6 ?_
    refine zz_iload_n (x := p1) rfl zd_3_9_7 ?_
    refine zz_iload_n (x := p0) rfl zd_3_9_8 ?_
    refine zz_isub zd_3_9_9 ?_
    refine zz_nrm (fun v3 hv3 ev3 => ?_)
    refine zz_aload_n (x := 1076) rfl zd_3_9_10 ?_
    have g4 := zz_G.r G_S0 1076 16 (-2147483648) 2147483647 rfl rfl
    refine zz_geti (z := S0 1076 16) zd_3_9_11 zf_Compiler_115 zT_1076 rfl (zz_ltn hn rfl) rfl ?_
    refine zz_callSJ [zi 3, zi v3, zi (S0 1076 16)] zd_3_9_14 zk_Compiler_128 rfl rfl ⟨Nat.le_of_ble_eq_true rfl, Nat.le_of_ble_eq_true rfl⟩ ⟨rfl, rfl⟩ (Nat.zero_le _) (Nat.zero_le _) (zc_shaped_12_6 3 v3 (S0 1076 16) S0 n hn G_S0 (by omega) (by omega) (by omega)) (fun v6 S5 hP => ?_)
    obtain ⟨rfl, o7⟩ := hP
    refine zz_bipush (by decide) zd_3_9_17 ?_
    refine zz_aload_n (x := 1076) rfl zd_3_9_19 ?_
    refine zz_callVI [] zd_3_9_20 zk_Compiler_175 zT_1076 (zz_ltn hn rfl) rfl rfl ⟨Nat.le_of_ble_eq_true rfl, Nat.le_of_ble_eq_true rfl⟩ ⟨rfl, rfl⟩ (Nat.zero_le _) (Nat.zero_le _) (zc_groupHalf_3_14  S0 n hn G_S0 ) (fun v9 S8 hP => ?_)
    obtain ⟨rfl, o10⟩ := hP
    refine zz_iload_n (x := p0) rfl zd_3_9_23 ?_
    refine zz_aload_n (x := 1076) rfl zd_3_9_24 ?_
    have g11 := zz_G.r G_S0 1076 2 2 8 rfl rfl
    refine zz_geti (z := S0 1076 2) zd_3_9_25 zf_Compiler_21 zT_1076 rfl (zz_ltn hn rfl) rfl ?_
    refine zz_imul zd_3_9_28 ?_
    refine zz_nrm (fun v12 hv12 ev12 => ?_)
    refine zz_iadd zd_3_9_29 ?_
    refine zz_nrm (fun v13 hv13 ev13 => ?_)
    refine zz_callSJ [zi 8, zi v13] zd_3_9_30 zk_Compiler_132 rfl rfl ⟨Nat.le_of_ble_eq_true rfl, Nat.le_of_ble_eq_true rfl⟩ ⟨rfl, rfl⟩ (Nat.zero_le _) (Nat.zero_le _) (zc_bits_12_4 8 v13 S0 n hn G_S0 (by omega) (by omega)) (fun v15 S14 hP => ?_)
    obtain ⟨rfl, o16⟩ := hP
    refine zz_lor zd_3_9_33 (fun v17 hv17 ev17 => ?_)
    have g18 := zz_G.r G_S0 1076 1 0 1000000 rfl rfl
    refine zz_callVV [zl v17] zd_3_9_34 zk_Compiler_143 zT_1076 (zz_ltn hn rfl) rfl rfl ⟨Nat.le_of_ble_eq_true rfl, Nat.le_of_ble_eq_true rfl⟩ ⟨rfl, rfl⟩ (Nat.zero_le _) (Nat.zero_le _) (zc_emit_3_15 v17 S0 n hn G_S0 (by omega) (by omega)) (fun S19 hP => ?_)
    obtain ⟨G_S19, fS19, o21⟩ := hP
    have F_S19 := zz_fr.trans F_S0 fS19 rfl (fun a i h => Or.inr (Or.inr (h)))
    have g22 := zz_G.r G_S19 1076 1 0 1000000 rfl rfl
    exact zz_vret zd_3_9_37 rfl (Nat.zero_le _) (Nat.zero_le _) ⟨_, rfl, G_S19, F_S19, by omega⟩
theorem zk_Compiler_188 : mm_Vl "TensorForge$Compiler" 188 9 2 zy_clearPlaces_3_9 := ⟨zyw_clearPlaces_3_9, (R_Compiler, F_Compiler, 17), rfl, mm_tb_1 1450 (by decide +kernel) rfl, mm_tb_1 1452 (by decide +kernel) rfl, mm_tb_s 70 (by decide +kernel) rfl⟩
theorem zd_3_7_50 : zz_D zy_loadMet_3_7 50 (.return_) 1 51 := ⟨by decide +kernel, rfl⟩
theorem zd_3_7_30 : zz_D zy_loadMet_3_7 30 (.iload_n 2) 1 31 := ⟨by decide +kernel, rfl⟩
theorem zd_3_7_31 : zz_D zy_loadMet_3_7 31 (.aload_n 0) 1 32 := ⟨by decide +kernel, rfl⟩
theorem zd_3_7_32 : zz_D zy_loadMet_3_7 32 (.getfield 55) 3 35 := ⟨by decide +kernel, rfl⟩
theorem zd_3_7_35 : zz_D zy_loadMet_3_7 35 (.getfield 64) 3 38 := ⟨by decide +kernel, rfl⟩
theorem zf_Compiler_64 : mm_Fl "TensorForge$Compiler" 64 2 10 .int false := ⟨R_Layer, F_Layer, 15, t_Layer, rfl, i_Layer, by decide, mm_tb_1 95 (by decide +kernel) rfl, rfl, t_Layer_ok, n_Layer, rfl, by decide +kernel⟩
theorem zd_3_7_38 : zz_B zy_loadMet_3_7 38 (Instr.if_icmp .lt) 51 41 := ⟨13, by decide +kernel, rfl, rfl⟩
theorem zd_3_7_51 : zz_D zy_loadMet_3_7 51 (.iconst 0) 1 52 := ⟨by decide +kernel, rfl⟩
theorem zd_3_7_52 : zz_D zy_loadMet_3_7 52 (.istore_n 3) 1 53 := ⟨by decide +kernel, rfl⟩
theorem zd_3_7_53 : zz_D zy_loadMet_3_7 53 (.iload_n 3) 1 54 := ⟨by decide +kernel, rfl⟩
theorem zd_3_7_54 : zz_D zy_loadMet_3_7 54 (.aload_n 0) 1 55 := ⟨by decide +kernel, rfl⟩
theorem zd_3_7_55 : zz_D zy_loadMet_3_7 55 (.getfield 91) 3 58 := ⟨by decide +kernel, rfl⟩
theorem zd_3_7_58 : zz_B zy_loadMet_3_7 58 (Instr.if_icmp .ge) 75 61 := ⟨17, by decide +kernel, rfl, rfl⟩
theorem zd_3_7_75 : zz_D zy_loadMet_3_7 75 (.iload_n 3) 1 76 := ⟨by decide +kernel, rfl⟩
theorem zd_3_7_76 : zz_D zy_loadMet_3_7 76 (.istore 4) 2 78 := ⟨by decide +kernel, rfl⟩
theorem zd_3_7_61 : zz_D zy_loadMet_3_7 61 (.aload_n 0) 1 62 := ⟨by decide +kernel, rfl⟩
theorem zd_3_7_62 : zz_D zy_loadMet_3_7 62 (.iload_n 3) 1 63 := ⟨by decide +kernel, rfl⟩
theorem zd_3_7_63 : zz_D zy_loadMet_3_7 63 (.invokevirtual 191) 3 66 := ⟨by decide +kernel, rfl⟩
abbrev zy_metColumn_3_8 : mm_Y := (⟨"TensorForge$Compiler", "metColumn", "(I)I"⟩, prog_3_method_8_code, 2, (some .int))
theorem zyw_metColumn_3_8 : mm_Yw zy_metColumn_3_8 1 := ⟨mm_tb_1 1457 (by decide +kernel) rfl, mm_tb_1 10 (by decide +kernel) rfl, ⟨by decide, by decide⟩, by decide +kernel⟩
theorem zd_3_8_0 : zz_D zy_metColumn_3_8 0 (.aload_n 0) 1 1 := ⟨by decide +kernel, rfl⟩
theorem zd_3_8_1 : zz_D zy_metColumn_3_8 1 (.getfield 51) 3 4 := ⟨by decide +kernel, rfl⟩
theorem zd_3_8_4 : zz_D zy_metColumn_3_8 4 (.getfield 182) 3 7 := ⟨by decide +kernel, rfl⟩
theorem zd_3_8_7 : zz_D zy_metColumn_3_8 7 (.aload_n 0) 1 8 := ⟨by decide +kernel, rfl⟩
theorem zd_3_8_8 : zz_D zy_metColumn_3_8 8 (.getfield 88) 3 11 := ⟨by decide +kernel, rfl⟩
theorem zd_3_8_11 : zz_D zy_metColumn_3_8 11 (.iload_n 1) 1 12 := ⟨by decide +kernel, rfl⟩
theorem zd_3_8_12 : zz_D zy_metColumn_3_8 12 (.iadd) 1 13 := ⟨by decide +kernel, rfl⟩
theorem zd_3_8_13 : zz_D zy_metColumn_3_8 13 (.imul) 1 14 := ⟨by decide +kernel, rfl⟩
theorem zd_3_8_14 : zz_D zy_metColumn_3_8 14 (.aload_n 0) 1 15 := ⟨by decide +kernel, rfl⟩
theorem zd_3_8_15 : zz_D zy_metColumn_3_8 15 (.getfield 109) 3 18 := ⟨by decide +kernel, rfl⟩
theorem zd_3_8_18 : zz_D zy_metColumn_3_8 18 (.iadd) 1 19 := ⟨by decide +kernel, rfl⟩
theorem zd_3_8_19 : zz_D zy_metColumn_3_8 19 (.aload_n 0) 1 20 := ⟨by decide +kernel, rfl⟩
theorem zd_3_8_20 : zz_D zy_metColumn_3_8 20 (.getfield 51) 3 23 := ⟨by decide +kernel, rfl⟩
theorem zd_3_8_23 : zz_D zy_metColumn_3_8 23 (.getfield 185) 3 26 := ⟨by decide +kernel, rfl⟩
theorem zd_3_8_26 : zz_D zy_metColumn_3_8 26 (.isub) 1 27 := ⟨by decide +kernel, rfl⟩
theorem zd_3_8_27 : zz_D zy_metColumn_3_8 27 (.ireturn) 1 28 := ⟨by decide +kernel, rfl⟩
-- TensorForge$Compiler metColumn (I)I
abbrev zr_metColumn_3_8 : Room := { frames := 0, cells := 0, slots := 0, locals := 0 }
def zp_metColumn_3_8 (p0 : Int) (S0 : zz_S) : Int → zz_S → Prop := fun r S => S0 = S ∧ ((-2147483648) ≤ r ∧ r ≤ 2147483647)
theorem zc_metColumn_3_8 {g : mm_G} {l : Launch} (p0 : Int) (S0 : zz_S) (n : Nat) (hn : zz_end ≤ n) (G_S0 : zz_G S0) (hp0 : (-2147483648) ≤ p0 ∧ p0 ≤ 2147483647) (hl : 0 ≤ S0 1076 3 ∧ 0 ≤ S0 1076 4 ∧ 0 ≤ S0 1076 5) : mm_Met g l zy_metColumn_3_8 zr_metColumn_3_8 [.ref 1076, zi p0] (zz_M S0 n) n (zz_QI n (zp_metColumn_3_8 p0 S0)) := by
  refine zz_enter (by decide) (Nat.le_of_ble_eq_true rfl) (zz_less (ls1 := [some (.ref 1076), some (zi p0)]) ⟨rfl, ⟨rfl, trivial⟩⟩ ?_)
  refine zz_aload_n (x := 1076) rfl zd_3_8_0 ?_
  have g1 := zz_G.r G_S0 1076 3 (-1) 23 rfl rfl
  refine zz_getr (kd := 4) (z := S0 1076 3) zd_3_8_1 zf_Compiler_51 zT_1076 rfl (zz_ltn hn rfl) rfl (by omega) (zz_rf 6 (S0 1076 3)) rfl ?_
  have g2 := zz_G.r G_S0 (zz_rf 6 (S0 1076 3)) 5 (-2147483648) 2147483647 (zR_k6_5 (by omega)) (zB_k6 (by omega))
  refine zz_geti (z := S0 (zz_rf 6 (S0 1076 3)) 5) zd_3_8_4 zf_Compiler_182 (zT_k6 (by omega)) rfl (zN_k6 hn (by omega)) rfl ?_
  refine zz_aload_n (x := 1076) rfl zd_3_8_7 ?_
  have g3 := zz_G.r G_S0 1076 10 (-2147483648) 2147483647 rfl rfl
  refine zz_geti (z := S0 1076 10) zd_3_8_8 zf_Compiler_88 zT_1076 rfl (zz_ltn hn rfl) rfl ?_
  refine zz_iload_n (x := p0) rfl zd_3_8_11 ?_
  refine zz_iadd zd_3_8_12 ?_
  refine zz_nrm (fun v4 hv4 ev4 => ?_)
  refine zz_imul zd_3_8_13 ?_
  refine zz_nrm (fun v5 hv5 ev5 => ?_)
  refine zz_aload_n (x := 1076) rfl zd_3_8_14 ?_
  have g6 := zz_G.r G_S0 1076 14 (-2147483648) 2147483647 rfl rfl
  refine zz_geti (z := S0 1076 14) zd_3_8_15 zf_Compiler_109 zT_1076 rfl (zz_ltn hn rfl) rfl ?_
  refine zz_iadd zd_3_8_18 ?_
  refine zz_nrm (fun v7 hv7 ev7 => ?_)
  refine zz_aload_n (x := 1076) rfl zd_3_8_19 ?_
  refine zz_getr (kd := 4) (z := S0 1076 3) zd_3_8_20 zf_Compiler_51 zT_1076 rfl (zz_ltn hn rfl) rfl (by omega) (zz_rf 6 (S0 1076 3)) rfl ?_
  have g8 := zz_G.r G_S0 (zz_rf 6 (S0 1076 3)) 6 (-2147483648) 2147483647 (zR_k6_6 (by omega)) (zB_k6 (by omega))
  refine zz_geti (z := S0 (zz_rf 6 (S0 1076 3)) 6) zd_3_8_23 zf_Compiler_185 (zT_k6 (by omega)) rfl (zN_k6 hn (by omega)) rfl ?_
  refine zz_isub zd_3_8_26 ?_
  refine zz_nrm (fun v9 hv9 ev9 => ?_)
  exact zz_iret zd_3_8_27 rfl (Nat.zero_le _) (Nat.zero_le _) ⟨_, _, rfl, rfl, by omega⟩
theorem zk_Compiler_191 : mm_Vl "TensorForge$Compiler" 191 9 1 zy_metColumn_3_8 := ⟨zyw_metColumn_3_8, (R_Compiler, F_Compiler, 17), rfl, mm_tb_1 1454 (by decide +kernel) rfl, mm_tb_1 1456 (by decide +kernel) rfl, mm_tb_s 71 (by decide +kernel) rfl⟩
theorem zd_3_7_66 : zz_B zy_loadMet_3_7 66 (Instr.ifCond .ge) 75 69 := ⟨9, by decide +kernel, rfl, rfl⟩
theorem zd_3_7_69 : zz_D zy_loadMet_3_7 69 (.iinc 3 1) 3 72 := ⟨by decide +kernel, rfl⟩
theorem zd_3_7_72 : zz_B zy_loadMet_3_7 72 Instr.goto 53 75 := ⟨(-19), by decide +kernel, rfl, rfl⟩
theorem zd_3_7_78 : zz_D zy_loadMet_3_7 78 (.iload 4) 2 80 := ⟨by decide +kernel, rfl⟩
theorem zd_3_7_80 : zz_D zy_loadMet_3_7 80 (.aload_n 0) 1 81 := ⟨by decide +kernel, rfl⟩
theorem zd_3_7_81 : zz_D zy_loadMet_3_7 81 (.getfield 91) 3 84 := ⟨by decide +kernel, rfl⟩
theorem zd_3_7_84 : zz_B zy_loadMet_3_7 84 (Instr.if_icmp .ge) 109 87 := ⟨25, by decide +kernel, rfl, rfl⟩
theorem zd_3_7_109 : zz_D zy_loadMet_3_7 109 (.aload_n 0) 1 110 := ⟨by decide +kernel, rfl⟩
theorem zd_3_7_110 : zz_D zy_loadMet_3_7 110 (.iconst 0) 1 111 := ⟨by decide +kernel, rfl⟩
theorem zd_3_7_111 : zz_D zy_loadMet_3_7 111 (.iload_n 3) 1 112 := ⟨by decide +kernel, rfl⟩
theorem zd_3_7_112 : zz_D zy_loadMet_3_7 112 (.invokevirtual 188) 3 115 := ⟨by decide +kernel, rfl⟩
theorem zd_3_7_115 : zz_D zy_loadMet_3_7 115 (.aload_n 0) 1 116 := ⟨by decide +kernel, rfl⟩
theorem zd_3_7_116 : zz_D zy_loadMet_3_7 116 (.iload_n 3) 1 117 := ⟨by decide +kernel, rfl⟩
theorem zd_3_7_117 : zz_D zy_loadMet_3_7 117 (.iload 4) 2 119 := ⟨by decide +kernel, rfl⟩
theorem zd_3_7_119 : zz_D zy_loadMet_3_7 119 (.aload_n 0) 1 120 := ⟨by decide +kernel, rfl⟩
theorem zd_3_7_120 : zz_D zy_loadMet_3_7 120 (.getfield 55) 3 123 := ⟨by decide +kernel, rfl⟩
theorem zd_3_7_123 : zz_D zy_loadMet_3_7 123 (.iload_n 2) 1 124 := ⟨by decide +kernel, rfl⟩
theorem zd_3_7_124 : zz_D zy_loadMet_3_7 124 (.aload_n 0) 1 125 := ⟨by decide +kernel, rfl⟩
theorem zd_3_7_125 : zz_D zy_loadMet_3_7 125 (.iload_n 3) 1 126 := ⟨by decide +kernel, rfl⟩
theorem zd_3_7_126 : zz_D zy_loadMet_3_7 126 (.invokevirtual 191) 3 129 := ⟨by decide +kernel, rfl⟩
theorem zd_3_7_129 : zz_D zy_loadMet_3_7 129 (.iload_n 1) 1 130 := ⟨by decide +kernel, rfl⟩
theorem zd_3_7_130 : zz_D zy_loadMet_3_7 130 (.invokevirtual 147) 3 133 := ⟨by decide +kernel, rfl⟩
theorem zd_3_7_133 : zz_D zy_loadMet_3_7 133 (.aload_n 0) 1 134 := ⟨by decide +kernel, rfl⟩
theorem zd_3_7_134 : zz_D zy_loadMet_3_7 134 (.getfield 51) 3 137 := ⟨by decide +kernel, rfl⟩
theorem zd_3_7_137 : zz_D zy_loadMet_3_7 137 (.getfield 182) 3 140 := ⟨by decide +kernel, rfl⟩
theorem zd_3_7_140 : zz_D zy_loadMet_3_7 140 (.aload_n 0) 1 141 := ⟨by decide +kernel, rfl⟩
theorem zd_3_7_141 : zz_D zy_loadMet_3_7 141 (.getfield 55) 3 144 := ⟨by decide +kernel, rfl⟩
theorem zd_3_7_144 : zz_D zy_loadMet_3_7 144 (.getfield 79) 3 147 := ⟨by decide +kernel, rfl⟩
theorem zd_3_7_147 : zz_D zy_loadMet_3_7 147 (.imul) 1 148 := ⟨by decide +kernel, rfl⟩
theorem zd_3_7_148 : zz_D zy_loadMet_3_7 148 (.invokevirtual 159) 3 151 := ⟨by decide +kernel, rfl⟩
theorem zd_3_7_151 : zz_D zy_loadMet_3_7 151 (.aload_n 0) 1 152 := ⟨by decide +kernel, rfl⟩
theorem zd_3_7_152 : zz_D zy_loadMet_3_7 152 (.iload 4) 2 154 := ⟨by decide +kernel, rfl⟩
theorem zd_3_7_154 : zz_D zy_loadMet_3_7 154 (.aload_n 0) 1 155 := ⟨by decide +kernel, rfl⟩
theorem zd_3_7_155 : zz_D zy_loadMet_3_7 155 (.getfield 91) 3 158 := ⟨by decide +kernel, rfl⟩
theorem zd_3_7_158 : zz_D zy_loadMet_3_7 158 (.invokevirtual 188) 3 161 := ⟨by decide +kernel, rfl⟩
theorem zd_3_7_161 : zz_D zy_loadMet_3_7 161 (.return_) 1 162 := ⟨by decide +kernel, rfl⟩
theorem zd_3_7_87 : zz_D zy_loadMet_3_7 87 (.aload_n 0) 1 88 := ⟨by decide +kernel, rfl⟩
theorem zd_3_7_88 : zz_D zy_loadMet_3_7 88 (.iload 4) 2 90 := ⟨by decide +kernel, rfl⟩
theorem zd_3_7_90 : zz_D zy_loadMet_3_7 90 (.invokevirtual 191) 3 93 := ⟨by decide +kernel, rfl⟩
theorem zd_3_7_93 : zz_D zy_loadMet_3_7 93 (.aload_n 0) 1 94 := ⟨by decide +kernel, rfl⟩
theorem zd_3_7_94 : zz_D zy_loadMet_3_7 94 (.getfield 55) 3 97 := ⟨by decide +kernel, rfl⟩
theorem zd_3_7_97 : zz_D zy_loadMet_3_7 97 (.getfield 67) 3 100 := ⟨by decide +kernel, rfl⟩
theorem zf_Compiler_67 : mm_Fl "TensorForge$Compiler" 67 2 11 .int false := ⟨R_Layer, F_Layer, 15, t_Layer, rfl, i_Layer, by decide, mm_tb_1 99 (by decide +kernel) rfl, rfl, t_Layer_ok, n_Layer, rfl, by decide +kernel⟩
theorem zd_3_7_100 : zz_B zy_loadMet_3_7 100 (Instr.if_icmp .ge) 109 103 := ⟨9, by decide +kernel, rfl, rfl⟩
theorem zd_3_7_103 : zz_D zy_loadMet_3_7 103 (.iinc 4 1) 3 106 := ⟨by decide +kernel, rfl⟩
theorem zd_3_7_106 : zz_B zy_loadMet_3_7 106 Instr.goto 78 109 := ⟨(-28), by decide +kernel, rfl, rfl⟩
-- TensorForge$Compiler loadMet (I)V
abbrev zr_loadMet_3_7 : Room := { frames := 2, cells := 0, slots := 0, locals := 32 }
def zp_loadMet_3_7 (p0 : Int) (S0 : zz_S) : zz_S → Prop := fun S => zz_G S ∧ zz_fr [(1076, 1)] [] (fun a i => a = zz_rf 4 (S0 1076 0)) S0 S ∧ (S0 1076 1 ≤ S 1076 1 ∧ S 1076 1 ≤ S0 1076 1 + 3)
theorem zb_loadMet_3_7_53 {g : mm_G} {l : Launch} (p0 : Int) (S0 : zz_S) (n : Nat) (hn : zz_end ≤ n) (G_S0 : zz_G S0) (hp0 : (-2147483648) ≤ p0 ∧ p0 ≤ 2147483647) (hq : S0 1076 1 ≤ 900000) (hl : 0 ≤ S0 1076 3 ∧ 0 ≤ S0 1076 4 ∧ 0 ≤ S0 1076 5) (x2 : Int) (x3 : Int) (S : zz_S) (G_S : zz_G S) (F_S : zz_fr [(1076, 1)] [] (fun a i => a = zz_rf 4 (S0 1076 0)) S0 S) (i53_0 : 0 ≤ x2 ∧ x2 ≤ 2147483646) (i53_1 : 0 ≤ x3 ∧ x3 ≤ 2147483647) (R : Nat) (hR : (34359738368 + (S0 1076 11 - x3).toNat) = R) (k53 : ∀ (x2 : Int) (x3 : Int) (S : zz_S), zz_G S → zz_fr [(1076, 1)] [] (fun a i => a = zz_rf 4 (S0 1076 0)) S0 S → (0 ≤ x2 ∧ x2 ≤ 2147483646) → (0 ≤ x3 ∧ x3 ≤ 2147483647) → (34359738368 + (S0 1076 11 - x3).toNat) < R → zz_E g l zy_loadMet_3_7 zr_loadMet_3_7 (zz_QV n (zp_loadMet_3_7 p0 S0)) S n 53 [some (.ref 1076), some (zi p0), some (zi x2), some (zi x3)] [] 0 0) (k78 : ∀ (x2 : Int) (x3 : Int) (x4 : Int) (S : zz_S), zz_G S → zz_fr [(1076, 1)] [] (fun a i => a = zz_rf 4 (S0 1076 0)) S0 S → (0 ≤ x2 ∧ x2 ≤ 2147483646) → (0 ≤ x3 ∧ x3 ≤ 2147483647) → (0 ≤ x4 ∧ x4 ≤ 2147483647) → (17179869184 + (S0 1076 11 - x4).toNat) < R → zz_E g l zy_loadMet_3_7 zr_loadMet_3_7 (zz_QV n (zp_loadMet_3_7 p0 S0)) S n 78 [some (.ref 1076), some (zi p0), some (zi x2), some (zi x3), some (zi x4)] [] 0 0) : zz_E g l zy_loadMet_3_7 zr_loadMet_3_7 (zz_QV n (zp_loadMet_3_7 p0 S0)) S n 53 [some (.ref 1076), some (zi p0), some (zi x2), some (zi x3)] [] 0 0 := by
  refine zz_iload_n (x := x3) rfl zd_3_7_53 ?_
  refine zz_aload_n (x := 1076) rfl zd_3_7_54 ?_
  have g29 := zz_G.r G_S0 1076 11 (-2147483648) 2147483647 rfl rfl
  refine zz_geti (z := S0 1076 11) zd_3_7_55 zf_Compiler_91 zT_1076 rfl (zz_ltn hn rfl) (zz_rc F_S rfl rfl (by omega) rfl) ?_
  refine zz_icmp_ge (by omega) (by omega) zd_3_7_58 (fun c30 => ?_) (fun c30 => ?_)
  · refine zz_iload_n (x := x3) rfl zd_3_7_75 ?_
    refine zz_istore [some (.ref 1076), some (zi p0), some (zi x2), some (zi x3), some (zi x3)] zd_3_7_76 (by decide) rfl ?_
    refine zz_less (ls1 := [some (.ref 1076), some (zi p0), some (zi x2), some (zi x3), some (zi x3)]) ⟨rfl, ⟨rfl, ⟨rfl, ⟨rfl, ⟨rfl, trivial⟩⟩⟩⟩⟩ ?_
    exact k78 x2 x3 x3 S G_S F_S (by omega) (by omega) (by omega) (by omega)
  · refine zz_aload_n (x := 1076) rfl zd_3_7_61 ?_
    refine zz_iload_n (x := x3) rfl zd_3_7_62 ?_
    have g31 := zz_G.r G_S0 1076 3 (-1) 23 rfl rfl
    have e32 : S 1076 3 = S0 1076 3 := (zz_rc F_S rfl rfl (by omega) rfl)
    have g33 := zz_G.r G_S0 1076 4 (-1) 23 rfl rfl
    have e34 : S 1076 4 = S0 1076 4 := (zz_rc F_S rfl rfl (by omega) rfl)
    have g35 := zz_G.r G_S0 1076 5 (-1) 23 rfl rfl
    have e36 : S 1076 5 = S0 1076 5 := (zz_rc F_S rfl rfl (by omega) rfl)
    refine zz_callVI [zi x3] zd_3_7_63 zk_Compiler_191 zT_1076 (zz_ltn hn rfl) rfl rfl ⟨Nat.le_of_ble_eq_true rfl, Nat.le_of_ble_eq_true rfl⟩ ⟨rfl, rfl⟩ (Nat.zero_le _) (Nat.zero_le _) (zc_metColumn_3_8 x3 S n hn G_S (by omega) (by omega)) (fun v38 S37 hP => ?_)
    obtain ⟨rfl, o39⟩ := hP
    refine zz_if_ge (by omega) zd_3_7_66 (fun c40 => ?_) (fun c40 => ?_)
    · refine zz_iload_n (x := x3) rfl zd_3_7_75 ?_
      refine zz_istore [some (.ref 1076), some (zi p0), some (zi x2), some (zi x3), some (zi x3)] zd_3_7_76 (by decide) rfl ?_
      refine zz_less (ls1 := [some (.ref 1076), some (zi p0), some (zi x2), some (zi x3), some (zi x3)]) ⟨rfl, ⟨rfl, ⟨rfl, ⟨rfl, ⟨rfl, trivial⟩⟩⟩⟩⟩ ?_
      exact k78 x2 x3 x3 S G_S F_S (by omega) (by omega) (by omega) (by omega)
    · refine zz_iinc [some (.ref 1076), some (zi p0), some (zi x2), some (zi (x3 + 1))] zd_3_7_69 rfl rfl ?_
      refine zz_goto zd_3_7_72 ?_
      refine zz_less (ls1 := [some (.ref 1076), some (zi p0), some (zi x2), some (zi (x3 + 1))]) ⟨rfl, ⟨rfl, ⟨rfl, ⟨rfl, trivial⟩⟩⟩⟩ ?_
      exact k53 x2 (x3 + 1) S G_S F_S (by omega) (by omega) (by omega)
theorem zb_loadMet_3_7_78 {g : mm_G} {l : Launch} (p0 : Int) (S0 : zz_S) (n : Nat) (hn : zz_end ≤ n) (G_S0 : zz_G S0) (hp0 : (-2147483648) ≤ p0 ∧ p0 ≤ 2147483647) (hq : S0 1076 1 ≤ 900000) (hl : 0 ≤ S0 1076 3 ∧ 0 ≤ S0 1076 4 ∧ 0 ≤ S0 1076 5) (x2 : Int) (x3 : Int) (x4 : Int) (S : zz_S) (G_S : zz_G S) (F_S : zz_fr [(1076, 1)] [] (fun a i => a = zz_rf 4 (S0 1076 0)) S0 S) (i78_0 : 0 ≤ x2 ∧ x2 ≤ 2147483646) (i78_1 : 0 ≤ x3 ∧ x3 ≤ 2147483647) (i78_2 : 0 ≤ x4 ∧ x4 ≤ 2147483647) (R : Nat) (hR : (17179869184 + (S0 1076 11 - x4).toNat) = R) (k78 : ∀ (x2 : Int) (x3 : Int) (x4 : Int) (S : zz_S), zz_G S → zz_fr [(1076, 1)] [] (fun a i => a = zz_rf 4 (S0 1076 0)) S0 S → (0 ≤ x2 ∧ x2 ≤ 2147483646) → (0 ≤ x3 ∧ x3 ≤ 2147483647) → (0 ≤ x4 ∧ x4 ≤ 2147483647) → (17179869184 + (S0 1076 11 - x4).toNat) < R → zz_E g l zy_loadMet_3_7 zr_loadMet_3_7 (zz_QV n (zp_loadMet_3_7 p0 S0)) S n 78 [some (.ref 1076), some (zi p0), some (zi x2), some (zi x3), some (zi x4)] [] 0 0) : zz_E g l zy_loadMet_3_7 zr_loadMet_3_7 (zz_QV n (zp_loadMet_3_7 p0 S0)) S n 78 [some (.ref 1076), some (zi p0), some (zi x2), some (zi x3), some (zi x4)] [] 0 0 := by
  refine zz_iload (x := x4) rfl zd_3_7_78 ?_
  refine zz_aload_n (x := 1076) rfl zd_3_7_80 ?_
  have g41 := zz_G.r G_S0 1076 11 (-2147483648) 2147483647 rfl rfl
  refine zz_geti (z := S0 1076 11) zd_3_7_81 zf_Compiler_91 zT_1076 rfl (zz_ltn hn rfl) (zz_rc F_S rfl rfl (by omega) rfl) ?_
  refine zz_icmp_ge (by omega) (by omega) zd_3_7_84 (fun c42 => ?_) (fun c42 => ?_)
  · refine zz_aload_n (x := 1076) rfl zd_3_7_109 ?_
    refine zz_iconst zd_3_7_110 ?_
    refine zz_iload_n (x := x3) rfl zd_3_7_111 ?_
    have g43 := zz_G.r G_S 1076 1 0 1000000 rfl rfl
    have g44 := zz_G.r G_S0 1076 3 (-1) 23 rfl rfl
    have e45 : S 1076 3 = S0 1076 3 := (zz_rc F_S rfl rfl (by omega) rfl)
    have g46 := zz_G.r G_S0 1076 4 (-1) 23 rfl rfl
    have e47 : S 1076 4 = S0 1076 4 := (zz_rc F_S rfl rfl (by omega) rfl)
    have g48 := zz_G.r G_S0 1076 5 (-1) 23 rfl rfl
    have e49 : S 1076 5 = S0 1076 5 := (zz_rc F_S rfl rfl (by omega) rfl)
    refine zz_callVV [zi 0, zi x3] zd_3_7_112 zk_Compiler_188 zT_1076 (zz_ltn hn rfl) rfl rfl ⟨Nat.le_of_ble_eq_true rfl, Nat.le_of_ble_eq_true rfl⟩ ⟨rfl, rfl⟩ (Nat.zero_le _) (Nat.zero_le _) (zc_clearPlaces_3_9 0 x3 S n hn G_S (by omega) (by omega) (by omega) (by omega)) (fun S50 hP => ?_)
    obtain ⟨G_S50, fS50, o52⟩ := hP
    have F_S50 := zz_fr.trans F_S fS50 rfl (fun a i h => Or.inr (Or.inr (h)))
    refine zz_aload_n (x := 1076) rfl zd_3_7_115 ?_
    refine zz_iload_n (x := x3) rfl zd_3_7_116 ?_
    refine zz_iload (x := x4) rfl zd_3_7_117 ?_
    refine zz_aload_n (x := 1076) rfl zd_3_7_119 ?_
    refine zz_getr (kd := 4) (z := S0 1076 4) zd_3_7_120 zf_Compiler_55 zT_1076 rfl (zz_ltn hn rfl) (zz_rc fS50 rfl rfl (by omega) (zz_rc F_S rfl rfl (by omega) rfl)) (by omega) (zz_rf 6 (S0 1076 4)) rfl ?_
    refine zz_iload_n (x := x2) rfl zd_3_7_123 ?_
    refine zz_aload_n (x := 1076) rfl zd_3_7_124 ?_
    refine zz_iload_n (x := x3) rfl zd_3_7_125 ?_
    have e53 : S50 1076 3 = S0 1076 3 := (zz_rc fS50 rfl rfl (by omega) (zz_rc F_S rfl rfl (by omega) rfl))
    have e54 : S50 1076 4 = S0 1076 4 := (zz_rc fS50 rfl rfl (by omega) (zz_rc F_S rfl rfl (by omega) rfl))
    have e55 : S50 1076 5 = S0 1076 5 := (zz_rc fS50 rfl rfl (by omega) (zz_rc F_S rfl rfl (by omega) rfl))
    refine zz_callVI [zi x3] zd_3_7_126 zk_Compiler_191 zT_1076 (zz_ltn hn rfl) rfl rfl ⟨Nat.le_of_ble_eq_true rfl, Nat.le_of_ble_eq_true rfl⟩ ⟨rfl, rfl⟩ (Nat.zero_le _) (Nat.zero_le _) (zc_metColumn_3_8 x3 S50 n hn G_S50 (by omega) (by omega)) (fun v57 S56 hP => ?_)
    obtain ⟨rfl, o58⟩ := hP
    refine zz_iload_n (x := p0) rfl zd_3_7_129 ?_
    refine zz_callVI [zi x2, zi v57, zi p0] zd_3_7_130 zk_Compiler_147 (zT_k6 (by omega)) (zN_k6 hn (by omega)) rfl rfl ⟨Nat.le_of_ble_eq_true rfl, Nat.le_of_ble_eq_true rfl⟩ ⟨rfl, rfl⟩ (Nat.zero_le _) (Nat.zero_le _) (zc_cellAt_4_15 (S0 1076 4) x2 v57 p0 S50 n hn G_S50 (by omega) (by omega) (by omega) (by omega)) (fun v60 S59 hP => ?_)
    obtain ⟨rfl, o61⟩ := hP
    refine zz_aload_n (x := 1076) rfl zd_3_7_133 ?_
    refine zz_getr (kd := 4) (z := S0 1076 3) zd_3_7_134 zf_Compiler_51 zT_1076 rfl (zz_ltn hn rfl) (zz_rc fS50 rfl rfl (by omega) (zz_rc F_S rfl rfl (by omega) rfl)) (by omega) (zz_rf 6 (S0 1076 3)) rfl ?_
    have g62 := zz_G.r G_S0 (zz_rf 6 (S0 1076 3)) 5 (-2147483648) 2147483647 (zR_k6_5 (by omega)) (zB_k6 (by omega))
    refine zz_geti (z := S0 (zz_rf 6 (S0 1076 3)) 5) zd_3_7_137 zf_Compiler_182 (zT_k6 (by omega)) rfl (zN_k6 hn (by omega)) (zz_rc fS50 (zP_k6 (by omega) rfl) (zQ_k6 (by omega) rfl) (by omega) (zz_rc F_S (zP_k6 (by omega) rfl) (zQ_k6 (by omega) rfl) (by omega) rfl)) ?_
    refine zz_aload_n (x := 1076) rfl zd_3_7_140 ?_
    refine zz_getr (kd := 4) (z := S0 1076 4) zd_3_7_141 zf_Compiler_55 zT_1076 rfl (zz_ltn hn rfl) (zz_rc fS50 rfl rfl (by omega) (zz_rc F_S rfl rfl (by omega) rfl)) (by omega) (zz_rf 6 (S0 1076 4)) rfl ?_
    have g63 := zz_G.r G_S0 (zz_rf 6 (S0 1076 4)) 12 (-2147483648) 2147483647 (zR_k6_12 (by omega)) (zB_k6 (by omega))
    refine zz_geti (z := S0 (zz_rf 6 (S0 1076 4)) 12) zd_3_7_144 zf_Compiler_79 (zT_k6 (by omega)) rfl (zN_k6 hn (by omega)) (zz_rc fS50 (zP_k6 (by omega) rfl) (zQ_k6 (by omega) rfl) (by omega) (zz_rc F_S (zP_k6 (by omega) rfl) (zQ_k6 (by omega) rfl) (by omega) rfl)) ?_
    refine zz_imul zd_3_7_147 ?_
    refine zz_nrm (fun v64 hv64 ev64 => ?_)
    have g65 := zz_G.r G_S50 1076 1 0 1000000 rfl rfl
    refine zz_callVV [zi x3, zi x4, zi v60, zi v64] zd_3_7_148 zk_Compiler_159 zT_1076 (zz_ltn hn rfl) rfl rfl ⟨Nat.le_of_ble_eq_true rfl, Nat.le_of_ble_eq_true rfl⟩ ⟨rfl, rfl⟩ (Nat.zero_le _) (Nat.zero_le _) (zc_loadPlaces_3_10 x3 x4 v60 v64 S50 n hn G_S50 (by omega) (by omega) (by omega) (by omega) (by omega) (by omega)) (fun S66 hP => ?_)
    obtain ⟨G_S66, fS66, o68⟩ := hP
    have F_S66 := zz_fr.trans F_S50 fS66 rfl (fun a i h => Or.inr (Or.inr (h)))
    refine zz_aload_n (x := 1076) rfl zd_3_7_151 ?_
    refine zz_iload (x := x4) rfl zd_3_7_152 ?_
    refine zz_aload_n (x := 1076) rfl zd_3_7_154 ?_
    refine zz_geti (z := S0 1076 11) zd_3_7_155 zf_Compiler_91 zT_1076 rfl (zz_ltn hn rfl) (zz_rc fS66 rfl rfl (by omega) (zz_rc fS50 rfl rfl (by omega) (zz_rc F_S rfl rfl (by omega) rfl))) ?_
    have g69 := zz_G.r G_S66 1076 1 0 1000000 rfl rfl
    have e70 : S66 1076 3 = S0 1076 3 := (zz_rc fS66 rfl rfl (by omega) (zz_rc fS50 rfl rfl (by omega) (zz_rc F_S rfl rfl (by omega) rfl)))
    have e71 : S66 1076 4 = S0 1076 4 := (zz_rc fS66 rfl rfl (by omega) (zz_rc fS50 rfl rfl (by omega) (zz_rc F_S rfl rfl (by omega) rfl)))
    have e72 : S66 1076 5 = S0 1076 5 := (zz_rc fS66 rfl rfl (by omega) (zz_rc fS50 rfl rfl (by omega) (zz_rc F_S rfl rfl (by omega) rfl)))
    refine zz_callVV [zi x4, zi (S0 1076 11)] zd_3_7_158 zk_Compiler_188 zT_1076 (zz_ltn hn rfl) rfl rfl ⟨Nat.le_of_ble_eq_true rfl, Nat.le_of_ble_eq_true rfl⟩ ⟨rfl, rfl⟩ (Nat.zero_le _) (Nat.zero_le _) (zc_clearPlaces_3_9 x4 (S0 1076 11) S66 n hn G_S66 (by omega) (by omega) (by omega) (by omega)) (fun S73 hP => ?_)
    obtain ⟨G_S73, fS73, o75⟩ := hP
    have F_S73 := zz_fr.trans F_S66 fS73 rfl (fun a i h => Or.inr (Or.inr (h)))
    have g76 := zz_G.r G_S73 1076 1 0 1000000 rfl rfl
    exact zz_vret zd_3_7_161 rfl (Nat.zero_le _) (Nat.zero_le _) ⟨_, rfl, G_S73, F_S73, by omega⟩
  · refine zz_aload_n (x := 1076) rfl zd_3_7_87 ?_
    refine zz_iload (x := x4) rfl zd_3_7_88 ?_
    have g77 := zz_G.r G_S0 1076 3 (-1) 23 rfl rfl
    have e78 : S 1076 3 = S0 1076 3 := (zz_rc F_S rfl rfl (by omega) rfl)
    have g79 := zz_G.r G_S0 1076 4 (-1) 23 rfl rfl
    have e80 : S 1076 4 = S0 1076 4 := (zz_rc F_S rfl rfl (by omega) rfl)
    have g81 := zz_G.r G_S0 1076 5 (-1) 23 rfl rfl
    have e82 : S 1076 5 = S0 1076 5 := (zz_rc F_S rfl rfl (by omega) rfl)
    refine zz_callVI [zi x4] zd_3_7_90 zk_Compiler_191 zT_1076 (zz_ltn hn rfl) rfl rfl ⟨Nat.le_of_ble_eq_true rfl, Nat.le_of_ble_eq_true rfl⟩ ⟨rfl, rfl⟩ (Nat.zero_le _) (Nat.zero_le _) (zc_metColumn_3_8 x4 S n hn G_S (by omega) (by omega)) (fun v84 S83 hP => ?_)
    obtain ⟨rfl, o85⟩ := hP
    refine zz_aload_n (x := 1076) rfl zd_3_7_93 ?_
    refine zz_getr (kd := 4) (z := S0 1076 4) zd_3_7_94 zf_Compiler_55 zT_1076 rfl (zz_ltn hn rfl) (zz_rc F_S rfl rfl (by omega) rfl) (by omega) (zz_rf 6 (S0 1076 4)) rfl ?_
    have g86 := zz_G.r G_S0 (zz_rf 6 (S0 1076 4)) 11 (-2147483648) 2147483647 (zR_k6_11 (by omega)) (zB_k6 (by omega))
    refine zz_geti (z := S0 (zz_rf 6 (S0 1076 4)) 11) zd_3_7_97 zf_Compiler_67 (zT_k6 (by omega)) rfl (zN_k6 hn (by omega)) (zz_rc F_S (zP_k6 (by omega) rfl) (zQ_k6 (by omega) rfl) (by omega) rfl) ?_
    refine zz_icmp_ge (by omega) (by omega) zd_3_7_100 (fun c87 => ?_) (fun c87 => ?_)
    · refine zz_aload_n (x := 1076) rfl zd_3_7_109 ?_
      refine zz_iconst zd_3_7_110 ?_
      refine zz_iload_n (x := x3) rfl zd_3_7_111 ?_
      have g88 := zz_G.r G_S 1076 1 0 1000000 rfl rfl
      refine zz_callVV [zi 0, zi x3] zd_3_7_112 zk_Compiler_188 zT_1076 (zz_ltn hn rfl) rfl rfl ⟨Nat.le_of_ble_eq_true rfl, Nat.le_of_ble_eq_true rfl⟩ ⟨rfl, rfl⟩ (Nat.zero_le _) (Nat.zero_le _) (zc_clearPlaces_3_9 0 x3 S n hn G_S (by omega) (by omega) (by omega) (by omega)) (fun S89 hP => ?_)
      obtain ⟨G_S89, fS89, o91⟩ := hP
      have F_S89 := zz_fr.trans F_S fS89 rfl (fun a i h => Or.inr (Or.inr (h)))
      refine zz_aload_n (x := 1076) rfl zd_3_7_115 ?_
      refine zz_iload_n (x := x3) rfl zd_3_7_116 ?_
      refine zz_iload (x := x4) rfl zd_3_7_117 ?_
      refine zz_aload_n (x := 1076) rfl zd_3_7_119 ?_
      refine zz_getr (kd := 4) (z := S0 1076 4) zd_3_7_120 zf_Compiler_55 zT_1076 rfl (zz_ltn hn rfl) (zz_rc fS89 rfl rfl (by omega) (zz_rc F_S rfl rfl (by omega) rfl)) (by omega) (zz_rf 6 (S0 1076 4)) rfl ?_
      refine zz_iload_n (x := x2) rfl zd_3_7_123 ?_
      refine zz_aload_n (x := 1076) rfl zd_3_7_124 ?_
      refine zz_iload_n (x := x3) rfl zd_3_7_125 ?_
      have e92 : S89 1076 3 = S0 1076 3 := (zz_rc fS89 rfl rfl (by omega) (zz_rc F_S rfl rfl (by omega) rfl))
      have e93 : S89 1076 4 = S0 1076 4 := (zz_rc fS89 rfl rfl (by omega) (zz_rc F_S rfl rfl (by omega) rfl))
      have e94 : S89 1076 5 = S0 1076 5 := (zz_rc fS89 rfl rfl (by omega) (zz_rc F_S rfl rfl (by omega) rfl))
      refine zz_callVI [zi x3] zd_3_7_126 zk_Compiler_191 zT_1076 (zz_ltn hn rfl) rfl rfl ⟨Nat.le_of_ble_eq_true rfl, Nat.le_of_ble_eq_true rfl⟩ ⟨rfl, rfl⟩ (Nat.zero_le _) (Nat.zero_le _) (zc_metColumn_3_8 x3 S89 n hn G_S89 (by omega) (by omega)) (fun v96 S95 hP => ?_)
      obtain ⟨rfl, o97⟩ := hP
      refine zz_iload_n (x := p0) rfl zd_3_7_129 ?_
      refine zz_callVI [zi x2, zi v96, zi p0] zd_3_7_130 zk_Compiler_147 (zT_k6 (by omega)) (zN_k6 hn (by omega)) rfl rfl ⟨Nat.le_of_ble_eq_true rfl, Nat.le_of_ble_eq_true rfl⟩ ⟨rfl, rfl⟩ (Nat.zero_le _) (Nat.zero_le _) (zc_cellAt_4_15 (S0 1076 4) x2 v96 p0 S89 n hn G_S89 (by omega) (by omega) (by omega) (by omega)) (fun v99 S98 hP => ?_)
      obtain ⟨rfl, o100⟩ := hP
      refine zz_aload_n (x := 1076) rfl zd_3_7_133 ?_
      refine zz_getr (kd := 4) (z := S0 1076 3) zd_3_7_134 zf_Compiler_51 zT_1076 rfl (zz_ltn hn rfl) (zz_rc fS89 rfl rfl (by omega) (zz_rc F_S rfl rfl (by omega) rfl)) (by omega) (zz_rf 6 (S0 1076 3)) rfl ?_
      have g101 := zz_G.r G_S0 (zz_rf 6 (S0 1076 3)) 5 (-2147483648) 2147483647 (zR_k6_5 (by omega)) (zB_k6 (by omega))
      refine zz_geti (z := S0 (zz_rf 6 (S0 1076 3)) 5) zd_3_7_137 zf_Compiler_182 (zT_k6 (by omega)) rfl (zN_k6 hn (by omega)) (zz_rc fS89 (zP_k6 (by omega) rfl) (zQ_k6 (by omega) rfl) (by omega) (zz_rc F_S (zP_k6 (by omega) rfl) (zQ_k6 (by omega) rfl) (by omega) rfl)) ?_
      refine zz_aload_n (x := 1076) rfl zd_3_7_140 ?_
      refine zz_getr (kd := 4) (z := S0 1076 4) zd_3_7_141 zf_Compiler_55 zT_1076 rfl (zz_ltn hn rfl) (zz_rc fS89 rfl rfl (by omega) (zz_rc F_S rfl rfl (by omega) rfl)) (by omega) (zz_rf 6 (S0 1076 4)) rfl ?_
      have g102 := zz_G.r G_S0 (zz_rf 6 (S0 1076 4)) 12 (-2147483648) 2147483647 (zR_k6_12 (by omega)) (zB_k6 (by omega))
      refine zz_geti (z := S0 (zz_rf 6 (S0 1076 4)) 12) zd_3_7_144 zf_Compiler_79 (zT_k6 (by omega)) rfl (zN_k6 hn (by omega)) (zz_rc fS89 (zP_k6 (by omega) rfl) (zQ_k6 (by omega) rfl) (by omega) (zz_rc F_S (zP_k6 (by omega) rfl) (zQ_k6 (by omega) rfl) (by omega) rfl)) ?_
      refine zz_imul zd_3_7_147 ?_
      refine zz_nrm (fun v103 hv103 ev103 => ?_)
      have g104 := zz_G.r G_S89 1076 1 0 1000000 rfl rfl
      refine zz_callVV [zi x3, zi x4, zi v99, zi v103] zd_3_7_148 zk_Compiler_159 zT_1076 (zz_ltn hn rfl) rfl rfl ⟨Nat.le_of_ble_eq_true rfl, Nat.le_of_ble_eq_true rfl⟩ ⟨rfl, rfl⟩ (Nat.zero_le _) (Nat.zero_le _) (zc_loadPlaces_3_10 x3 x4 v99 v103 S89 n hn G_S89 (by omega) (by omega) (by omega) (by omega) (by omega) (by omega)) (fun S105 hP => ?_)
      obtain ⟨G_S105, fS105, o107⟩ := hP
      have F_S105 := zz_fr.trans F_S89 fS105 rfl (fun a i h => Or.inr (Or.inr (h)))
      refine zz_aload_n (x := 1076) rfl zd_3_7_151 ?_
      refine zz_iload (x := x4) rfl zd_3_7_152 ?_
      refine zz_aload_n (x := 1076) rfl zd_3_7_154 ?_
      refine zz_geti (z := S0 1076 11) zd_3_7_155 zf_Compiler_91 zT_1076 rfl (zz_ltn hn rfl) (zz_rc fS105 rfl rfl (by omega) (zz_rc fS89 rfl rfl (by omega) (zz_rc F_S rfl rfl (by omega) rfl))) ?_
      have g108 := zz_G.r G_S105 1076 1 0 1000000 rfl rfl
      have e109 : S105 1076 3 = S0 1076 3 := (zz_rc fS105 rfl rfl (by omega) (zz_rc fS89 rfl rfl (by omega) (zz_rc F_S rfl rfl (by omega) rfl)))
      have e110 : S105 1076 4 = S0 1076 4 := (zz_rc fS105 rfl rfl (by omega) (zz_rc fS89 rfl rfl (by omega) (zz_rc F_S rfl rfl (by omega) rfl)))
      have e111 : S105 1076 5 = S0 1076 5 := (zz_rc fS105 rfl rfl (by omega) (zz_rc fS89 rfl rfl (by omega) (zz_rc F_S rfl rfl (by omega) rfl)))
      refine zz_callVV [zi x4, zi (S0 1076 11)] zd_3_7_158 zk_Compiler_188 zT_1076 (zz_ltn hn rfl) rfl rfl ⟨Nat.le_of_ble_eq_true rfl, Nat.le_of_ble_eq_true rfl⟩ ⟨rfl, rfl⟩ (Nat.zero_le _) (Nat.zero_le _) (zc_clearPlaces_3_9 x4 (S0 1076 11) S105 n hn G_S105 (by omega) (by omega) (by omega) (by omega)) (fun S112 hP => ?_)
      obtain ⟨G_S112, fS112, o114⟩ := hP
      have F_S112 := zz_fr.trans F_S105 fS112 rfl (fun a i h => Or.inr (Or.inr (h)))
      have g115 := zz_G.r G_S112 1076 1 0 1000000 rfl rfl
      exact zz_vret zd_3_7_161 rfl (Nat.zero_le _) (Nat.zero_le _) ⟨_, rfl, G_S112, F_S112, by omega⟩
    · refine zz_iinc [some (.ref 1076), some (zi p0), some (zi x2), some (zi x3), some (zi (x4 + 1))] zd_3_7_103 rfl rfl ?_
      refine zz_goto zd_3_7_106 ?_
      refine zz_less (ls1 := [some (.ref 1076), some (zi p0), some (zi x2), some (zi x3), some (zi (x4 + 1))]) ⟨rfl, ⟨rfl, ⟨rfl, ⟨rfl, ⟨rfl, trivial⟩⟩⟩⟩⟩ ?_
      exact k78 x2 x3 (x4 + 1) S G_S F_S (by omega) (by omega) (by omega) (by omega)
theorem zi_loadMet_3_7 {g : mm_G} {l : Launch} (p0 : Int) (S0 : zz_S) (n : Nat) (hn : zz_end ≤ n) (G_S0 : zz_G S0) (hp0 : (-2147483648) ≤ p0 ∧ p0 ≤ 2147483647) (hq : S0 1076 1 ≤ 900000) (hl : 0 ≤ S0 1076 3 ∧ 0 ≤ S0 1076 4 ∧ 0 ≤ S0 1076 5) : ∀ N : Nat, (∀ (x2 : Int) (x3 : Int) (S : zz_S), zz_G S → zz_fr [(1076, 1)] [] (fun a i => a = zz_rf 4 (S0 1076 0)) S0 S → (0 ≤ x2 ∧ x2 ≤ 2147483646) → (0 ≤ x3 ∧ x3 ≤ 2147483647) → (34359738368 + (S0 1076 11 - x3).toNat) < N → zz_E g l zy_loadMet_3_7 zr_loadMet_3_7 (zz_QV n (zp_loadMet_3_7 p0 S0)) S n 53 [some (.ref 1076), some (zi p0), some (zi x2), some (zi x3)] [] 0 0) ∧ (∀ (x2 : Int) (x3 : Int) (x4 : Int) (S : zz_S), zz_G S → zz_fr [(1076, 1)] [] (fun a i => a = zz_rf 4 (S0 1076 0)) S0 S → (0 ≤ x2 ∧ x2 ≤ 2147483646) → (0 ≤ x3 ∧ x3 ≤ 2147483647) → (0 ≤ x4 ∧ x4 ≤ 2147483647) → (17179869184 + (S0 1076 11 - x4).toNat) < N → zz_E g l zy_loadMet_3_7 zr_loadMet_3_7 (zz_QV n (zp_loadMet_3_7 p0 S0)) S n 78 [some (.ref 1076), some (zi p0), some (zi x2), some (zi x3), some (zi x4)] [] 0 0) := by
  intro N
  induction N with
  | zero => exact ⟨fun x2 x3 S _ _ _ _ h => absurd h (Nat.not_lt_zero _), fun x2 x3 x4 S _ _ _ _ _ h => absurd h (Nat.not_lt_zero _)⟩
  | succ N ih =>
    exact ⟨fun x2 x3 S a b j0 j1 hR => zb_loadMet_3_7_53 p0 S0 n hn G_S0 hp0 hq hl x2 x3 S a b j0 j1 _ rfl (fun x2 x3 S a b j0 j1 h => ih.1 x2 x3 S a b j0 j1 (Nat.lt_of_lt_of_le h (Nat.le_of_lt_succ hR))) (fun x2 x3 x4 S a b j0 j1 j2 h => ih.2 x2 x3 x4 S a b j0 j1 j2 (Nat.lt_of_lt_of_le h (Nat.le_of_lt_succ hR))),
      fun x2 x3 x4 S a b j0 j1 j2 hR => zb_loadMet_3_7_78 p0 S0 n hn G_S0 hp0 hq hl x2 x3 x4 S a b j0 j1 j2 _ rfl (fun x2 x3 x4 S a b j0 j1 j2 h => ih.2 x2 x3 x4 S a b j0 j1 j2 (Nat.lt_of_lt_of_le h (Nat.le_of_lt_succ hR)))⟩
theorem zc_loadMet_3_7 {g : mm_G} {l : Launch} (p0 : Int) (S0 : zz_S) (n : Nat) (hn : zz_end ≤ n) (G_S0 : zz_G S0) (hp0 : (-2147483648) ≤ p0 ∧ p0 ≤ 2147483647) (hq : S0 1076 1 ≤ 900000) (hl : 0 ≤ S0 1076 3 ∧ 0 ≤ S0 1076 4 ∧ 0 ≤ S0 1076 5) : mm_Met g l zy_loadMet_3_7 zr_loadMet_3_7 [.ref 1076, zi p0] (zz_M S0 n) n (zz_QV n (zp_loadMet_3_7 p0 S0)) := by
  refine zz_enter (by decide) (Nat.le_of_ble_eq_true rfl) (zz_less (ls1 := [some (.ref 1076), some (zi p0)]) ⟨rfl, ⟨rfl, trivial⟩⟩ ?_)
  have F_S0 : zz_fr [(1076, 1)] [] (fun a i => a = zz_rf 4 (S0 1076 0)) S0 S0 := zz_fr.refl
  have k53 : ∀ (x2 : Int) (x3 : Int) (S : zz_S), zz_G S → zz_fr [(1076, 1)] [] (fun a i => a = zz_rf 4 (S0 1076 0)) S0 S → (0 ≤ x2 ∧ x2 ≤ 2147483646) → (0 ≤ x3 ∧ x3 ≤ 2147483647) → zz_E g l zy_loadMet_3_7 zr_loadMet_3_7 (zz_QV n (zp_loadMet_3_7 p0 S0)) S n 53 [some (.ref 1076), some (zi p0), some (zi x2), some (zi x3)] [] 0 0 := fun x2 x3 S a b j0 j1 => (zi_loadMet_3_7 (g := g) (l := l) p0 S0 n hn G_S0 hp0 hq hl _).1 x2 x3 S a b j0 j1 (Nat.lt_succ_self _)
  refine zz_aload_n (x := 1076) rfl zd_3_7_0 ?_
  have g1 := zz_G.r G_S0 1076 3 (-1) 23 rfl rfl
  refine zz_getr (kd := 4) (z := S0 1076 3) zd_3_7_1 zf_Compiler_51 zT_1076 rfl (zz_ltn hn rfl) rfl (by omega) (zz_rf 6 (S0 1076 3)) rfl ?_
  have g2 := zz_G.r G_S0 (zz_rf 6 (S0 1076 3)) 5 (-2147483648) 2147483647 (zR_k6_5 (by omega)) (zB_k6 (by omega))
  refine zz_geti (z := S0 (zz_rf 6 (S0 1076 3)) 5) zd_3_7_4 zf_Compiler_182 (zT_k6 (by omega)) rfl (zN_k6 hn (by omega)) rfl ?_
  refine zz_aload_n (x := 1076) rfl zd_3_7_7 ?_
  have g3 := zz_G.r G_S0 1076 9 (-2147483648) 2147483647 rfl rfl
  refine zz_geti (z := S0 1076 9) zd_3_7_8 zf_Compiler_85 zT_1076 rfl (zz_ltn hn rfl) rfl ?_
  refine zz_imul zd_3_7_11 ?_
  refine zz_nrm (fun v4 hv4 ev4 => ?_)
  refine zz_aload_n (x := 1076) rfl zd_3_7_12 ?_
  have g5 := zz_G.r G_S0 1076 13 (-2147483648) 2147483647 rfl rfl
  refine zz_geti (z := S0 1076 13) zd_3_7_13 zf_Compiler_106 zT_1076 rfl (zz_ltn hn rfl) rfl ?_
  refine zz_iadd zd_3_7_16 ?_
  refine zz_nrm (fun v6 hv6 ev6 => ?_)
  refine zz_aload_n (x := 1076) rfl zd_3_7_17 ?_
  refine zz_getr (kd := 4) (z := S0 1076 3) zd_3_7_18 zf_Compiler_51 zT_1076 rfl (zz_ltn hn rfl) rfl (by omega) (zz_rf 6 (S0 1076 3)) rfl ?_
  have g7 := zz_G.r G_S0 (zz_rf 6 (S0 1076 3)) 6 (-2147483648) 2147483647 (zR_k6_6 (by omega)) (zB_k6 (by omega))
  refine zz_geti (z := S0 (zz_rf 6 (S0 1076 3)) 6) zd_3_7_21 zf_Compiler_185 (zT_k6 (by omega)) rfl (zN_k6 hn (by omega)) rfl ?_
  refine zz_isub zd_3_7_24 ?_
  refine zz_nrm (fun v8 hv8 ev8 => ?_)
  refine zz_istore_n [some (.ref 1076), some (zi p0), some (zi v8)] zd_3_7_25 (by decide) rfl ?_
  refine zz_iload_n (x := v8) rfl zd_3_7_26 ?_
  refine zz_if_lt (by omega) zd_3_7_27 (fun c9 => ?_) (fun c9 => ?_)
  · refine zz_aload_n (x := 1076) rfl zd_3_7_41 ?_
    refine zz_iconst zd_3_7_42 ?_
    refine zz_aload_n (x := 1076) rfl zd_3_7_43 ?_
    have g10 := zz_G.r G_S0 1076 11 (-2147483648) 2147483647 rfl rfl
    refine zz_geti (z := S0 1076 11) zd_3_7_44 zf_Compiler_91 zT_1076 rfl (zz_ltn hn rfl) rfl ?_
    have g11 := zz_G.r G_S0 1076 1 0 1000000 rfl rfl
    have g12 := zz_G.r G_S0 1076 4 (-1) 23 rfl rfl
    have g13 := zz_G.r G_S0 1076 5 (-1) 23 rfl rfl
    refine zz_callVV [zi 0, zi (S0 1076 11)] zd_3_7_47 zk_Compiler_188 zT_1076 (zz_ltn hn rfl) rfl rfl ⟨Nat.le_of_ble_eq_true rfl, Nat.le_of_ble_eq_true rfl⟩ ⟨rfl, rfl⟩ (Nat.zero_le _) (Nat.zero_le _) (zc_clearPlaces_3_9 0 (S0 1076 11) S0 n hn G_S0 (by omega) (by omega) (by omega) (by omega)) (fun S14 hP => ?_)
    obtain ⟨G_S14, fS14, o16⟩ := hP
    have F_S14 := zz_fr.trans F_S0 fS14 rfl (fun a i h => Or.inr (Or.inr (h)))
    have g17 := zz_G.r G_S14 1076 1 0 1000000 rfl rfl
    exact zz_vret zd_3_7_50 rfl (Nat.zero_le _) (Nat.zero_le _) ⟨_, rfl, G_S14, F_S14, by omega⟩
  · refine zz_iload_n (x := v8) rfl zd_3_7_30 ?_
    refine zz_aload_n (x := 1076) rfl zd_3_7_31 ?_
    have g18 := zz_G.r G_S0 1076 4 (-1) 23 rfl rfl
    refine zz_getr (kd := 4) (z := S0 1076 4) zd_3_7_32 zf_Compiler_55 zT_1076 rfl (zz_ltn hn rfl) rfl (by omega) (zz_rf 6 (S0 1076 4)) rfl ?_
    have g19 := zz_G.r G_S0 (zz_rf 6 (S0 1076 4)) 10 (-2147483648) 2147483647 (zR_k6_10 (by omega)) (zB_k6 (by omega))
    refine zz_geti (z := S0 (zz_rf 6 (S0 1076 4)) 10) zd_3_7_35 zf_Compiler_64 (zT_k6 (by omega)) rfl (zN_k6 hn (by omega)) rfl ?_
    refine zz_icmp_lt (by omega) (by omega) zd_3_7_38 (fun c20 => ?_) (fun c20 => ?_)
    · refine zz_iconst zd_3_7_51 ?_
      refine zz_istore_n [some (.ref 1076), some (zi p0), some (zi v8), some (zi 0)] zd_3_7_52 (by decide) rfl ?_
      have g21 := zz_G.r G_S0 1076 11 (-2147483648) 2147483647 rfl rfl
      refine zz_less (ls1 := [some (.ref 1076), some (zi p0), some (zi v8), some (zi 0)]) ⟨rfl, ⟨rfl, ⟨rfl, ⟨rfl, trivial⟩⟩⟩⟩ ?_
      exact k53 v8 0 S0 G_S0 F_S0 (by omega) (by omega)
    · refine zz_aload_n (x := 1076) rfl zd_3_7_41 ?_
      refine zz_iconst zd_3_7_42 ?_
      refine zz_aload_n (x := 1076) rfl zd_3_7_43 ?_
      have g22 := zz_G.r G_S0 1076 11 (-2147483648) 2147483647 rfl rfl
      refine zz_geti (z := S0 1076 11) zd_3_7_44 zf_Compiler_91 zT_1076 rfl (zz_ltn hn rfl) rfl ?_
      have g23 := zz_G.r G_S0 1076 1 0 1000000 rfl rfl
      have g24 := zz_G.r G_S0 1076 5 (-1) 23 rfl rfl
      refine zz_callVV [zi 0, zi (S0 1076 11)] zd_3_7_47 zk_Compiler_188 zT_1076 (zz_ltn hn rfl) rfl rfl ⟨Nat.le_of_ble_eq_true rfl, Nat.le_of_ble_eq_true rfl⟩ ⟨rfl, rfl⟩ (Nat.zero_le _) (Nat.zero_le _) (zc_clearPlaces_3_9 0 (S0 1076 11) S0 n hn G_S0 (by omega) (by omega) (by omega) (by omega)) (fun S25 hP => ?_)
      obtain ⟨G_S25, fS25, o27⟩ := hP
      have F_S25 := zz_fr.trans F_S0 fS25 rfl (fun a i h => Or.inr (Or.inr (h)))
      have g28 := zz_G.r G_S25 1076 1 0 1000000 rfl rfl
      exact zz_vret zd_3_7_50 rfl (Nat.zero_le _) (Nat.zero_le _) ⟨_, rfl, G_S25, F_S25, by omega⟩
theorem zk_Compiler_155 : mm_Vl "TensorForge$Compiler" 155 9 1 zy_loadMet_3_7 := ⟨zyw_loadMet_3_7, (R_Compiler, F_Compiler, 17), rfl, mm_tb_1 1446 (by decide +kernel) rfl, mm_tb_1 1448 (by decide +kernel) rfl, mm_tb_s 69 (by decide +kernel) rfl⟩
theorem zd_3_5_51 : zz_B zy_makeGroup_3_5 51 Instr.goto 102 54 := ⟨51, by decide +kernel, rfl, rfl⟩
theorem zd_3_5_16 : zz_D zy_makeGroup_3_5 16 (.aload_n 0) 1 17 := ⟨by decide +kernel, rfl⟩
theorem zd_3_5_17 : zz_D zy_makeGroup_3_5 17 (.iload_n 1) 1 18 := ⟨by decide +kernel, rfl⟩
theorem zd_3_5_18 : zz_D zy_makeGroup_3_5 18 (.invokevirtual 151) 3 21 := ⟨by decide +kernel, rfl⟩
abbrev zy_loadParameters_3_6 : mm_Y := (⟨"TensorForge$Compiler", "loadParameters", "(Z)V"⟩, prog_3_method_6_code, 2, none)
theorem zyw_loadParameters_3_6 : mm_Yw zy_loadParameters_3_6 1 := ⟨mm_tb_1 1427 (by decide +kernel) rfl, mm_tb_1 10 (by decide +kernel) rfl, ⟨by decide, by decide⟩, by decide +kernel⟩
theorem zd_3_6_0 : zz_D zy_loadParameters_3_6 0 (.iload_n 1) 1 1 := ⟨by decide +kernel, rfl⟩
theorem zd_3_6_1 : zz_B zy_loadParameters_3_6 1 (Instr.ifCond .eq) 46 4 := ⟨45, by decide +kernel, rfl, rfl⟩
theorem zd_3_6_46 : zz_D zy_loadParameters_3_6 46 (.aload_n 0) 1 47 := ⟨by decide +kernel, rfl⟩
theorem zd_3_6_47 : zz_D zy_loadParameters_3_6 47 (.iconst 2) 1 48 := ⟨by decide +kernel, rfl⟩
theorem zd_3_6_48 : zz_D zy_loadParameters_3_6 48 (.aload_n 0) 1 49 := ⟨by decide +kernel, rfl⟩
theorem zd_3_6_49 : zz_D zy_loadParameters_3_6 49 (.getfield 115) 3 52 := ⟨by decide +kernel, rfl⟩
theorem zd_3_6_52 : zz_D zy_loadParameters_3_6 52 (.aload_n 0) 1 53 := ⟨by decide +kernel, rfl⟩
theorem zd_3_6_53 : zz_D zy_loadParameters_3_6 53 (.getfield 82) 3 56 := ⟨by decide +kernel, rfl⟩
theorem zd_3_6_56 : zz_D zy_loadParameters_3_6 56 (.invokestatic 128) 3 59 := ⟨by decide +kernel, rfl⟩
theorem zd_3_6_59 : zz_D zy_loadParameters_3_6 59 (.bipush 8) 2 61 := ⟨by decide +kernel, rfl⟩
theorem zd_3_6_61 : zz_D zy_loadParameters_3_6 61 (.aload_n 0) 1 62 := ⟨by decide +kernel, rfl⟩
theorem zd_3_6_62 : zz_D zy_loadParameters_3_6 62 (.invokevirtual 175) 3 65 := ⟨by decide +kernel, rfl⟩
theorem zd_3_6_65 : zz_D zy_loadParameters_3_6 65 (.invokestatic 132) 3 68 := ⟨by decide +kernel, rfl⟩
theorem zd_3_6_68 : zz_D zy_loadParameters_3_6 68 (.lor) 1 69 := ⟨by decide +kernel, rfl⟩
theorem zd_3_6_69 : zz_D zy_loadParameters_3_6 69 (.iconst 5) 1 70 := ⟨by decide +kernel, rfl⟩
theorem zd_3_6_70 : zz_D zy_loadParameters_3_6 70 (.aload_n 0) 1 71 := ⟨by decide +kernel, rfl⟩
theorem zd_3_6_71 : zz_D zy_loadParameters_3_6 71 (.getfield 51) 3 74 := ⟨by decide +kernel, rfl⟩
theorem zd_3_6_74 : zz_D zy_loadParameters_3_6 74 (.aload_n 0) 1 75 := ⟨by decide +kernel, rfl⟩
theorem zd_3_6_75 : zz_D zy_loadParameters_3_6 75 (.getfield 55) 3 78 := ⟨by decide +kernel, rfl⟩
theorem zd_3_6_78 : zz_D zy_loadParameters_3_6 78 (.aload_n 0) 1 79 := ⟨by decide +kernel, rfl⟩
theorem zd_3_6_79 : zz_D zy_loadParameters_3_6 79 (.getfield 106) 3 82 := ⟨by decide +kernel, rfl⟩
theorem zd_3_6_82 : zz_D zy_loadParameters_3_6 82 (.aload_n 0) 1 83 := ⟨by decide +kernel, rfl⟩
theorem zd_3_6_83 : zz_D zy_loadParameters_3_6 83 (.getfield 109) 3 86 := ⟨by decide +kernel, rfl⟩
theorem zd_3_6_86 : zz_D zy_loadParameters_3_6 86 (.aload_n 0) 1 87 := ⟨by decide +kernel, rfl⟩
theorem zd_3_6_87 : zz_D zy_loadParameters_3_6 87 (.getfield 112) 3 90 := ⟨by decide +kernel, rfl⟩
theorem zf_Compiler_112 : mm_Fl "TensorForge$Compiler" 112 9 15 .int false := ⟨R_Compiler, F_Compiler, 17, t_Compiler, rfl, i_Compiler, by decide, mm_tb_1 390 (by decide +kernel) rfl, rfl, t_Compiler_ok, n_Compiler, rfl, by decide +kernel⟩
theorem zd_3_6_90 : zz_D zy_loadParameters_3_6 90 (.aload_n 0) 1 91 := ⟨by decide +kernel, rfl⟩
theorem zd_3_6_91 : zz_D zy_loadParameters_3_6 91 (.getfield 76) 3 94 := ⟨by decide +kernel, rfl⟩
theorem zd_3_6_94 : zz_D zy_loadParameters_3_6 94 (.invokevirtual 178) 3 97 := ⟨by decide +kernel, rfl⟩
theorem zk_Compiler_178 : mm_Vl "TensorForge$Compiler" 178 2 5 zy_weightAt_4_14 := ⟨zyw_weightAt_4_14, (R_Layer, F_Layer, 15), rfl, mm_tb_1 1445 (by decide +kernel) rfl, mm_tb_1 888 (by decide +kernel) rfl, mm_tb_1 889 (by decide +kernel) rfl⟩
theorem zd_3_6_97 : zz_D zy_loadParameters_3_6 97 (.invokestatic 132) 3 100 := ⟨by decide +kernel, rfl⟩
theorem zd_3_6_100 : zz_D zy_loadParameters_3_6 100 (.lor) 1 101 := ⟨by decide +kernel, rfl⟩
theorem zd_3_6_101 : zz_D zy_loadParameters_3_6 101 (.bipush 10) 2 103 := ⟨by decide +kernel, rfl⟩
theorem zd_3_6_103 : zz_D zy_loadParameters_3_6 103 (.aload_n 0) 1 104 := ⟨by decide +kernel, rfl⟩
theorem zd_3_6_104 : zz_D zy_loadParameters_3_6 104 (.getfield 51) 3 107 := ⟨by decide +kernel, rfl⟩
theorem zd_3_6_107 : zz_D zy_loadParameters_3_6 107 (.getfield 79) 3 110 := ⟨by decide +kernel, rfl⟩
theorem zd_3_6_110 : zz_D zy_loadParameters_3_6 110 (.invokestatic 132) 3 113 := ⟨by decide +kernel, rfl⟩
theorem zd_3_6_113 : zz_D zy_loadParameters_3_6 113 (.lor) 1 114 := ⟨by decide +kernel, rfl⟩
theorem zd_3_6_114 : zz_D zy_loadParameters_3_6 114 (.invokevirtual 143) 3 117 := ⟨by decide +kernel, rfl⟩
theorem zd_3_6_117 : zz_D zy_loadParameters_3_6 117 (.return_) 1 118 := ⟨by decide +kernel, rfl⟩
theorem zd_3_6_4 : zz_D zy_loadParameters_3_6 4 (.aload_n 0) 1 5 := ⟨by decide +kernel, rfl⟩
theorem zd_3_6_5 : zz_D zy_loadParameters_3_6 5 (.iconst 4) 1 6 := ⟨by decide +kernel, rfl⟩
theorem zd_3_6_6 : zz_D zy_loadParameters_3_6 6 (.aload_n 0) 1 7 := ⟨by decide +kernel, rfl⟩
theorem zd_3_6_7 : zz_D zy_loadParameters_3_6 7 (.getfield 91) 3 10 := ⟨by decide +kernel, rfl⟩
theorem zd_3_6_10 : zz_D zy_loadParameters_3_6 10 (.aload_n 0) 1 11 := ⟨by decide +kernel, rfl⟩
theorem zd_3_6_11 : zz_D zy_loadParameters_3_6 11 (.getfield 82) 3 14 := ⟨by decide +kernel, rfl⟩
theorem zd_3_6_14 : zz_D zy_loadParameters_3_6 14 (.invokestatic 128) 3 17 := ⟨by decide +kernel, rfl⟩
theorem zd_3_6_17 : zz_D zy_loadParameters_3_6 17 (.bipush 8) 2 19 := ⟨by decide +kernel, rfl⟩
theorem zd_3_6_19 : zz_D zy_loadParameters_3_6 19 (.aload_n 0) 1 20 := ⟨by decide +kernel, rfl⟩
theorem zd_3_6_20 : zz_D zy_loadParameters_3_6 20 (.invokevirtual 122) 3 23 := ⟨by decide +kernel, rfl⟩
theorem zd_3_6_23 : zz_D zy_loadParameters_3_6 23 (.invokestatic 132) 3 26 := ⟨by decide +kernel, rfl⟩
theorem zd_3_6_26 : zz_D zy_loadParameters_3_6 26 (.lor) 1 27 := ⟨by decide +kernel, rfl⟩
theorem zd_3_6_27 : zz_D zy_loadParameters_3_6 27 (.iconst 5) 1 28 := ⟨by decide +kernel, rfl⟩
theorem zd_3_6_28 : zz_D zy_loadParameters_3_6 28 (.aload_n 0) 1 29 := ⟨by decide +kernel, rfl⟩
theorem zd_3_6_29 : zz_D zy_loadParameters_3_6 29 (.getfield 51) 3 32 := ⟨by decide +kernel, rfl⟩
theorem zd_3_6_32 : zz_D zy_loadParameters_3_6 32 (.aload_n 0) 1 33 := ⟨by decide +kernel, rfl⟩
theorem zd_3_6_33 : zz_D zy_loadParameters_3_6 33 (.getfield 76) 3 36 := ⟨by decide +kernel, rfl⟩
theorem zd_3_6_36 : zz_D zy_loadParameters_3_6 36 (.invokevirtual 171) 3 39 := ⟨by decide +kernel, rfl⟩
theorem zk_Compiler_171 : mm_Vl "TensorForge$Compiler" 171 2 1 zy_biasAt_4_13 := ⟨zyw_biasAt_4_13, (R_Layer, F_Layer, 15), rfl, mm_tb_1 1436 (by decide +kernel) rfl, mm_tb_1 879 (by decide +kernel) rfl, mm_tb_1 880 (by decide +kernel) rfl⟩
theorem zd_3_6_39 : zz_D zy_loadParameters_3_6 39 (.invokestatic 132) 3 42 := ⟨by decide +kernel, rfl⟩
theorem zd_3_6_42 : zz_D zy_loadParameters_3_6 42 (.lor) 1 43 := ⟨by decide +kernel, rfl⟩
theorem zd_3_6_43 : zz_D zy_loadParameters_3_6 43 (.invokevirtual 143) 3 46 := ⟨by decide +kernel, rfl⟩
-- TensorForge$Compiler loadParameters (Z)V
abbrev zr_loadParameters_3_6 : Room := { frames := 1, cells := 0, slots := 0, locals := 22 }
def zp_loadParameters_3_6 (p0 : Int) (S0 : zz_S) : zz_S → Prop := fun S => zz_G S ∧ zz_fr [(1076, 1)] [] (fun a i => a = zz_rf 4 (S0 1076 0)) S0 S ∧ (S0 1076 1 ≤ S 1076 1 ∧ S 1076 1 ≤ S0 1076 1 + 2)
theorem zc_loadParameters_3_6 {g : mm_G} {l : Launch} (p0 : Int) (S0 : zz_S) (n : Nat) (hn : zz_end ≤ n) (G_S0 : zz_G S0) (hp0 : 0 ≤ p0 ∧ p0 ≤ 1) (hq : S0 1076 1 ≤ 900000) (hl : 0 ≤ S0 1076 3 ∧ 0 ≤ S0 1076 4 ∧ 0 ≤ S0 1076 5) : mm_Met g l zy_loadParameters_3_6 zr_loadParameters_3_6 [.ref 1076, zi p0] (zz_M S0 n) n (zz_QV n (zp_loadParameters_3_6 p0 S0)) := by
  refine zz_enter (by decide) (Nat.le_of_ble_eq_true rfl) (zz_less (ls1 := [some (.ref 1076), some (zi p0)]) ⟨rfl, ⟨rfl, trivial⟩⟩ ?_)
  have F_S0 : zz_fr [(1076, 1)] [] (fun a i => a = zz_rf 4 (S0 1076 0)) S0 S0 := zz_fr.refl
  refine zz_iload_n (x := p0) rfl zd_3_6_0 ?_
  refine zz_if_eq (by omega) zd_3_6_1 (fun c1 => ?_) (fun c1 => ?_)
  · refine zz_aload_n (x := 1076) rfl zd_3_6_46 ?_
    refine zz_iconst zd_3_6_47 ?_
    refine zz_aload_n (x := 1076) rfl zd_3_6_48 ?_
    have g2 := zz_G.r G_S0 1076 16 (-2147483648) 2147483647 rfl rfl
    refine zz_geti (z := S0 1076 16) zd_3_6_49 zf_Compiler_115 zT_1076 rfl (zz_ltn hn rfl) rfl ?_
    refine zz_aload_n (x := 1076) rfl zd_3_6_52 ?_
    have g3 := zz_G.r G_S0 1076 8 (-2147483648) 2147483647 rfl rfl
    refine zz_geti (z := S0 1076 8) zd_3_6_53 zf_Compiler_82 zT_1076 rfl (zz_ltn hn rfl) rfl ?_
    refine zz_callSJ [zi 2, zi (S0 1076 16), zi (S0 1076 8)] zd_3_6_56 zk_Compiler_128 rfl rfl ⟨Nat.le_of_ble_eq_true rfl, Nat.le_of_ble_eq_true rfl⟩ ⟨rfl, rfl⟩ (Nat.zero_le _) (Nat.zero_le _) (zc_shaped_12_6 2 (S0 1076 16) (S0 1076 8) S0 n hn G_S0 (by omega) (by omega) (by omega)) (fun v5 S4 hP => ?_)
    obtain ⟨rfl, o6⟩ := hP
    refine zz_bipush (by decide) zd_3_6_59 ?_
    refine zz_aload_n (x := 1076) rfl zd_3_6_61 ?_
    refine zz_callVI [] zd_3_6_62 zk_Compiler_175 zT_1076 (zz_ltn hn rfl) rfl rfl ⟨Nat.le_of_ble_eq_true rfl, Nat.le_of_ble_eq_true rfl⟩ ⟨rfl, rfl⟩ (Nat.zero_le _) (Nat.zero_le _) (zc_groupHalf_3_14  S0 n hn G_S0 ) (fun v8 S7 hP => ?_)
    obtain ⟨rfl, o9⟩ := hP
    refine zz_callSJ [zi 8, zi v8] zd_3_6_65 zk_Compiler_132 rfl rfl ⟨Nat.le_of_ble_eq_true rfl, Nat.le_of_ble_eq_true rfl⟩ ⟨rfl, rfl⟩ (Nat.zero_le _) (Nat.zero_le _) (zc_bits_12_4 8 v8 S0 n hn G_S0 (by omega) (by omega)) (fun v11 S10 hP => ?_)
    obtain ⟨rfl, o12⟩ := hP
    refine zz_lor zd_3_6_68 (fun v13 hv13 ev13 => ?_)
    refine zz_iconst zd_3_6_69 ?_
    refine zz_aload_n (x := 1076) rfl zd_3_6_70 ?_
    have g14 := zz_G.r G_S0 1076 3 (-1) 23 rfl rfl
    refine zz_getr (kd := 4) (z := S0 1076 3) zd_3_6_71 zf_Compiler_51 zT_1076 rfl (zz_ltn hn rfl) rfl (by omega) (zz_rf 6 (S0 1076 3)) rfl ?_
    refine zz_aload_n (x := 1076) rfl zd_3_6_74 ?_
    have g15 := zz_G.r G_S0 1076 4 (-1) 23 rfl rfl
    refine zz_getr (kd := 4) (z := S0 1076 4) zd_3_6_75 zf_Compiler_55 zT_1076 rfl (zz_ltn hn rfl) rfl (by omega) (zz_rf 6 (S0 1076 4)) rfl ?_
    refine zz_aload_n (x := 1076) rfl zd_3_6_78 ?_
    have g16 := zz_G.r G_S0 1076 13 (-2147483648) 2147483647 rfl rfl
    refine zz_geti (z := S0 1076 13) zd_3_6_79 zf_Compiler_106 zT_1076 rfl (zz_ltn hn rfl) rfl ?_
    refine zz_aload_n (x := 1076) rfl zd_3_6_82 ?_
    have g17 := zz_G.r G_S0 1076 14 (-2147483648) 2147483647 rfl rfl
    refine zz_geti (z := S0 1076 14) zd_3_6_83 zf_Compiler_109 zT_1076 rfl (zz_ltn hn rfl) rfl ?_
    refine zz_aload_n (x := 1076) rfl zd_3_6_86 ?_
    have g18 := zz_G.r G_S0 1076 15 (-2147483648) 2147483647 rfl rfl
    refine zz_geti (z := S0 1076 15) zd_3_6_87 zf_Compiler_112 zT_1076 rfl (zz_ltn hn rfl) rfl ?_
    refine zz_aload_n (x := 1076) rfl zd_3_6_90 ?_
    have g19 := zz_G.r G_S0 1076 7 (-2147483648) 2147483647 rfl rfl
    refine zz_geti (z := S0 1076 7) zd_3_6_91 zf_Compiler_76 zT_1076 rfl (zz_ltn hn rfl) rfl ?_
    refine zz_callVI [.ref (zz_rf 6 (S0 1076 4)), zi (S0 1076 13), zi (S0 1076 14), zi (S0 1076 15), zi (S0 1076 7)] zd_3_6_94 zk_Compiler_178 (zT_k6 (by omega)) (zN_k6 hn (by omega)) rfl rfl ⟨Nat.le_of_ble_eq_true rfl, Nat.le_of_ble_eq_true rfl⟩ ⟨rfl, rfl⟩ (Nat.zero_le _) (Nat.zero_le _) (zc_weightAt_4_14 (S0 1076 3) (S0 1076 4) (S0 1076 13) (S0 1076 14) (S0 1076 15) (S0 1076 7) S0 n hn G_S0 (by omega) (by omega) (by omega) (by omega) (by omega) (by omega)) (fun v21 S20 hP => ?_)
    obtain ⟨rfl, o22⟩ := hP
    refine zz_callSJ [zi 5, zi v21] zd_3_6_97 zk_Compiler_132 rfl rfl ⟨Nat.le_of_ble_eq_true rfl, Nat.le_of_ble_eq_true rfl⟩ ⟨rfl, rfl⟩ (Nat.zero_le _) (Nat.zero_le _) (zc_bits_12_4 5 v21 S0 n hn G_S0 (by omega) (by omega)) (fun v24 S23 hP => ?_)
    obtain ⟨rfl, o25⟩ := hP
    refine zz_lor zd_3_6_100 (fun v26 hv26 ev26 => ?_)
    refine zz_bipush (by decide) zd_3_6_101 ?_
    refine zz_aload_n (x := 1076) rfl zd_3_6_103 ?_
    refine zz_getr (kd := 4) (z := S0 1076 3) zd_3_6_104 zf_Compiler_51 zT_1076 rfl (zz_ltn hn rfl) rfl (by omega) (zz_rf 6 (S0 1076 3)) rfl ?_
    have g27 := zz_G.r G_S0 (zz_rf 6 (S0 1076 3)) 12 (-2147483648) 2147483647 (zR_k6_12 (by omega)) (zB_k6 (by omega))
    refine zz_geti (z := S0 (zz_rf 6 (S0 1076 3)) 12) zd_3_6_107 zf_Compiler_79 (zT_k6 (by omega)) rfl (zN_k6 hn (by omega)) rfl ?_
    refine zz_callSJ [zi 10, zi (S0 (zz_rf 6 (S0 1076 3)) 12)] zd_3_6_110 zk_Compiler_132 rfl rfl ⟨Nat.le_of_ble_eq_true rfl, Nat.le_of_ble_eq_true rfl⟩ ⟨rfl, rfl⟩ (Nat.zero_le _) (Nat.zero_le _) (zc_bits_12_4 10 (S0 (zz_rf 6 (S0 1076 3)) 12) S0 n hn G_S0 (by omega) (by omega)) (fun v29 S28 hP => ?_)
    obtain ⟨rfl, o30⟩ := hP
    refine zz_lor zd_3_6_113 (fun v31 hv31 ev31 => ?_)
    have g32 := zz_G.r G_S0 1076 1 0 1000000 rfl rfl
    refine zz_callVV [zl v31] zd_3_6_114 zk_Compiler_143 zT_1076 (zz_ltn hn rfl) rfl rfl ⟨Nat.le_of_ble_eq_true rfl, Nat.le_of_ble_eq_true rfl⟩ ⟨rfl, rfl⟩ (Nat.zero_le _) (Nat.zero_le _) (zc_emit_3_15 v31 S0 n hn G_S0 (by omega) (by omega)) (fun S33 hP => ?_)
    obtain ⟨G_S33, fS33, o35⟩ := hP
    have F_S33 := zz_fr.trans F_S0 fS33 rfl (fun a i h => Or.inr (Or.inr (h)))
    have g36 := zz_G.r G_S33 1076 1 0 1000000 rfl rfl
    exact zz_vret zd_3_6_117 rfl (Nat.zero_le _) (Nat.zero_le _) ⟨_, rfl, G_S33, F_S33, by omega⟩
  · refine zz_aload_n (x := 1076) rfl zd_3_6_4 ?_
    refine zz_iconst zd_3_6_5 ?_
    refine zz_aload_n (x := 1076) rfl zd_3_6_6 ?_
    have g37 := zz_G.r G_S0 1076 11 (-2147483648) 2147483647 rfl rfl
    refine zz_geti (z := S0 1076 11) zd_3_6_7 zf_Compiler_91 zT_1076 rfl (zz_ltn hn rfl) rfl ?_
    refine zz_aload_n (x := 1076) rfl zd_3_6_10 ?_
    have g38 := zz_G.r G_S0 1076 8 (-2147483648) 2147483647 rfl rfl
    refine zz_geti (z := S0 1076 8) zd_3_6_11 zf_Compiler_82 zT_1076 rfl (zz_ltn hn rfl) rfl ?_
    refine zz_callSJ [zi 4, zi (S0 1076 11), zi (S0 1076 8)] zd_3_6_14 zk_Compiler_128 rfl rfl ⟨Nat.le_of_ble_eq_true rfl, Nat.le_of_ble_eq_true rfl⟩ ⟨rfl, rfl⟩ (Nat.zero_le _) (Nat.zero_le _) (zc_shaped_12_6 4 (S0 1076 11) (S0 1076 8) S0 n hn G_S0 (by omega) (by omega) (by omega)) (fun v40 S39 hP => ?_)
    obtain ⟨rfl, o41⟩ := hP
    refine zz_bipush (by decide) zd_3_6_17 ?_
    refine zz_aload_n (x := 1076) rfl zd_3_6_19 ?_
    refine zz_callVI [] zd_3_6_20 zk_Compiler_122 zT_1076 (zz_ltn hn rfl) rfl rfl ⟨Nat.le_of_ble_eq_true rfl, Nat.le_of_ble_eq_true rfl⟩ ⟨rfl, rfl⟩ (Nat.zero_le _) (Nat.zero_le _) (zc_tileHalf_3_13  S0 n hn G_S0 ) (fun v43 S42 hP => ?_)
    obtain ⟨rfl, o44⟩ := hP
    refine zz_callSJ [zi 8, zi v43] zd_3_6_23 zk_Compiler_132 rfl rfl ⟨Nat.le_of_ble_eq_true rfl, Nat.le_of_ble_eq_true rfl⟩ ⟨rfl, rfl⟩ (Nat.zero_le _) (Nat.zero_le _) (zc_bits_12_4 8 v43 S0 n hn G_S0 (by omega) (by omega)) (fun v46 S45 hP => ?_)
    obtain ⟨rfl, o47⟩ := hP
    refine zz_lor zd_3_6_26 (fun v48 hv48 ev48 => ?_)
    refine zz_iconst zd_3_6_27 ?_
    refine zz_aload_n (x := 1076) rfl zd_3_6_28 ?_
    have g49 := zz_G.r G_S0 1076 3 (-1) 23 rfl rfl
    refine zz_getr (kd := 4) (z := S0 1076 3) zd_3_6_29 zf_Compiler_51 zT_1076 rfl (zz_ltn hn rfl) rfl (by omega) (zz_rf 6 (S0 1076 3)) rfl ?_
    refine zz_aload_n (x := 1076) rfl zd_3_6_32 ?_
    have g50 := zz_G.r G_S0 1076 7 (-2147483648) 2147483647 rfl rfl
    refine zz_geti (z := S0 1076 7) zd_3_6_33 zf_Compiler_76 zT_1076 rfl (zz_ltn hn rfl) rfl ?_
    refine zz_callVI [zi (S0 1076 7)] zd_3_6_36 zk_Compiler_171 (zT_k6 (by omega)) (zN_k6 hn (by omega)) rfl rfl ⟨Nat.le_of_ble_eq_true rfl, Nat.le_of_ble_eq_true rfl⟩ ⟨rfl, rfl⟩ (Nat.zero_le _) (Nat.zero_le _) (zc_biasAt_4_13 (S0 1076 3) (S0 1076 7) S0 n hn G_S0 (by omega) (by omega)) (fun v52 S51 hP => ?_)
    obtain ⟨rfl, o53⟩ := hP
    refine zz_callSJ [zi 5, zi v52] zd_3_6_39 zk_Compiler_132 rfl rfl ⟨Nat.le_of_ble_eq_true rfl, Nat.le_of_ble_eq_true rfl⟩ ⟨rfl, rfl⟩ (Nat.zero_le _) (Nat.zero_le _) (zc_bits_12_4 5 v52 S0 n hn G_S0 (by omega) (by omega)) (fun v55 S54 hP => ?_)
    obtain ⟨rfl, o56⟩ := hP
    refine zz_lor zd_3_6_42 (fun v57 hv57 ev57 => ?_)
    have g58 := zz_G.r G_S0 1076 1 0 1000000 rfl rfl
    refine zz_callVV [zl v57] zd_3_6_43 zk_Compiler_143 zT_1076 (zz_ltn hn rfl) rfl rfl ⟨Nat.le_of_ble_eq_true rfl, Nat.le_of_ble_eq_true rfl⟩ ⟨rfl, rfl⟩ (Nat.zero_le _) (Nat.zero_le _) (zc_emit_3_15 v57 S0 n hn G_S0 (by omega) (by omega)) (fun S59 hP => ?_)
    obtain ⟨G_S59, fS59, o61⟩ := hP
    have F_S59 := zz_fr.trans F_S0 fS59 rfl (fun a i h => Or.inr (Or.inr (h)))
    refine zz_aload_n (x := 1076) rfl zd_3_6_46 ?_
    refine zz_iconst zd_3_6_47 ?_
    refine zz_aload_n (x := 1076) rfl zd_3_6_48 ?_
    have g62 := zz_G.r G_S0 1076 16 (-2147483648) 2147483647 rfl rfl
    refine zz_geti (z := S0 1076 16) zd_3_6_49 zf_Compiler_115 zT_1076 rfl (zz_ltn hn rfl) (zz_rc fS59 rfl rfl (by omega) rfl) ?_
    refine zz_aload_n (x := 1076) rfl zd_3_6_52 ?_
    refine zz_geti (z := S0 1076 8) zd_3_6_53 zf_Compiler_82 zT_1076 rfl (zz_ltn hn rfl) (zz_rc fS59 rfl rfl (by omega) rfl) ?_
    refine zz_callSJ [zi 2, zi (S0 1076 16), zi (S0 1076 8)] zd_3_6_56 zk_Compiler_128 rfl rfl ⟨Nat.le_of_ble_eq_true rfl, Nat.le_of_ble_eq_true rfl⟩ ⟨rfl, rfl⟩ (Nat.zero_le _) (Nat.zero_le _) (zc_shaped_12_6 2 (S0 1076 16) (S0 1076 8) S59 n hn G_S59 (by omega) (by omega) (by omega)) (fun v64 S63 hP => ?_)
    obtain ⟨rfl, o65⟩ := hP
    refine zz_bipush (by decide) zd_3_6_59 ?_
    refine zz_aload_n (x := 1076) rfl zd_3_6_61 ?_
    refine zz_callVI [] zd_3_6_62 zk_Compiler_175 zT_1076 (zz_ltn hn rfl) rfl rfl ⟨Nat.le_of_ble_eq_true rfl, Nat.le_of_ble_eq_true rfl⟩ ⟨rfl, rfl⟩ (Nat.zero_le _) (Nat.zero_le _) (zc_groupHalf_3_14  S59 n hn G_S59 ) (fun v67 S66 hP => ?_)
    obtain ⟨rfl, o68⟩ := hP
    refine zz_callSJ [zi 8, zi v67] zd_3_6_65 zk_Compiler_132 rfl rfl ⟨Nat.le_of_ble_eq_true rfl, Nat.le_of_ble_eq_true rfl⟩ ⟨rfl, rfl⟩ (Nat.zero_le _) (Nat.zero_le _) (zc_bits_12_4 8 v67 S59 n hn G_S59 (by omega) (by omega)) (fun v70 S69 hP => ?_)
    obtain ⟨rfl, o71⟩ := hP
    refine zz_lor zd_3_6_68 (fun v72 hv72 ev72 => ?_)
    refine zz_iconst zd_3_6_69 ?_
    refine zz_aload_n (x := 1076) rfl zd_3_6_70 ?_
    refine zz_getr (kd := 4) (z := S0 1076 3) zd_3_6_71 zf_Compiler_51 zT_1076 rfl (zz_ltn hn rfl) (zz_rc fS59 rfl rfl (by omega) rfl) (by omega) (zz_rf 6 (S0 1076 3)) rfl ?_
    refine zz_aload_n (x := 1076) rfl zd_3_6_74 ?_
    have g73 := zz_G.r G_S0 1076 4 (-1) 23 rfl rfl
    refine zz_getr (kd := 4) (z := S0 1076 4) zd_3_6_75 zf_Compiler_55 zT_1076 rfl (zz_ltn hn rfl) (zz_rc fS59 rfl rfl (by omega) rfl) (by omega) (zz_rf 6 (S0 1076 4)) rfl ?_
    refine zz_aload_n (x := 1076) rfl zd_3_6_78 ?_
    have g74 := zz_G.r G_S0 1076 13 (-2147483648) 2147483647 rfl rfl
    refine zz_geti (z := S0 1076 13) zd_3_6_79 zf_Compiler_106 zT_1076 rfl (zz_ltn hn rfl) (zz_rc fS59 rfl rfl (by omega) rfl) ?_
    refine zz_aload_n (x := 1076) rfl zd_3_6_82 ?_
    have g75 := zz_G.r G_S0 1076 14 (-2147483648) 2147483647 rfl rfl
    refine zz_geti (z := S0 1076 14) zd_3_6_83 zf_Compiler_109 zT_1076 rfl (zz_ltn hn rfl) (zz_rc fS59 rfl rfl (by omega) rfl) ?_
    refine zz_aload_n (x := 1076) rfl zd_3_6_86 ?_
    have g76 := zz_G.r G_S0 1076 15 (-2147483648) 2147483647 rfl rfl
    refine zz_geti (z := S0 1076 15) zd_3_6_87 zf_Compiler_112 zT_1076 rfl (zz_ltn hn rfl) (zz_rc fS59 rfl rfl (by omega) rfl) ?_
    refine zz_aload_n (x := 1076) rfl zd_3_6_90 ?_
    refine zz_geti (z := S0 1076 7) zd_3_6_91 zf_Compiler_76 zT_1076 rfl (zz_ltn hn rfl) (zz_rc fS59 rfl rfl (by omega) rfl) ?_
    refine zz_callVI [.ref (zz_rf 6 (S0 1076 4)), zi (S0 1076 13), zi (S0 1076 14), zi (S0 1076 15), zi (S0 1076 7)] zd_3_6_94 zk_Compiler_178 (zT_k6 (by omega)) (zN_k6 hn (by omega)) rfl rfl ⟨Nat.le_of_ble_eq_true rfl, Nat.le_of_ble_eq_true rfl⟩ ⟨rfl, rfl⟩ (Nat.zero_le _) (Nat.zero_le _) (zc_weightAt_4_14 (S0 1076 3) (S0 1076 4) (S0 1076 13) (S0 1076 14) (S0 1076 15) (S0 1076 7) S59 n hn G_S59 (by omega) (by omega) (by omega) (by omega) (by omega) (by omega)) (fun v78 S77 hP => ?_)
    obtain ⟨rfl, o79⟩ := hP
    refine zz_callSJ [zi 5, zi v78] zd_3_6_97 zk_Compiler_132 rfl rfl ⟨Nat.le_of_ble_eq_true rfl, Nat.le_of_ble_eq_true rfl⟩ ⟨rfl, rfl⟩ (Nat.zero_le _) (Nat.zero_le _) (zc_bits_12_4 5 v78 S59 n hn G_S59 (by omega) (by omega)) (fun v81 S80 hP => ?_)
    obtain ⟨rfl, o82⟩ := hP
    refine zz_lor zd_3_6_100 (fun v83 hv83 ev83 => ?_)
    refine zz_bipush (by decide) zd_3_6_101 ?_
    refine zz_aload_n (x := 1076) rfl zd_3_6_103 ?_
    refine zz_getr (kd := 4) (z := S0 1076 3) zd_3_6_104 zf_Compiler_51 zT_1076 rfl (zz_ltn hn rfl) (zz_rc fS59 rfl rfl (by omega) rfl) (by omega) (zz_rf 6 (S0 1076 3)) rfl ?_
    have g84 := zz_G.r G_S0 (zz_rf 6 (S0 1076 3)) 12 (-2147483648) 2147483647 (zR_k6_12 (by omega)) (zB_k6 (by omega))
    refine zz_geti (z := S0 (zz_rf 6 (S0 1076 3)) 12) zd_3_6_107 zf_Compiler_79 (zT_k6 (by omega)) rfl (zN_k6 hn (by omega)) (zz_rc fS59 (zP_k6 (by omega) rfl) (zQ_k6 (by omega) rfl) (by omega) rfl) ?_
    refine zz_callSJ [zi 10, zi (S0 (zz_rf 6 (S0 1076 3)) 12)] zd_3_6_110 zk_Compiler_132 rfl rfl ⟨Nat.le_of_ble_eq_true rfl, Nat.le_of_ble_eq_true rfl⟩ ⟨rfl, rfl⟩ (Nat.zero_le _) (Nat.zero_le _) (zc_bits_12_4 10 (S0 (zz_rf 6 (S0 1076 3)) 12) S59 n hn G_S59 (by omega) (by omega)) (fun v86 S85 hP => ?_)
    obtain ⟨rfl, o87⟩ := hP
    refine zz_lor zd_3_6_113 (fun v88 hv88 ev88 => ?_)
    have g89 := zz_G.r G_S59 1076 1 0 1000000 rfl rfl
    refine zz_callVV [zl v88] zd_3_6_114 zk_Compiler_143 zT_1076 (zz_ltn hn rfl) rfl rfl ⟨Nat.le_of_ble_eq_true rfl, Nat.le_of_ble_eq_true rfl⟩ ⟨rfl, rfl⟩ (Nat.zero_le _) (Nat.zero_le _) (zc_emit_3_15 v88 S59 n hn G_S59 (by omega) (by omega)) (fun S90 hP => ?_)
    obtain ⟨G_S90, fS90, o92⟩ := hP
    have F_S90 := zz_fr.trans F_S59 fS90 rfl (fun a i h => Or.inr (Or.inr (h)))
    have g93 := zz_G.r G_S90 1076 1 0 1000000 rfl rfl
    exact zz_vret zd_3_6_117 rfl (Nat.zero_le _) (Nat.zero_le _) ⟨_, rfl, G_S90, F_S90, by omega⟩
theorem zk_Compiler_151 : mm_Vl "TensorForge$Compiler" 151 9 1 zy_loadParameters_3_6 := ⟨zyw_loadParameters_3_6, (R_Compiler, F_Compiler, 17), rfl, mm_tb_1 1424 (by decide +kernel) rfl, mm_tb_1 1426 (by decide +kernel) rfl, mm_tb_s 65 (by decide +kernel) rfl⟩
theorem zd_3_5_21 : zz_D zy_makeGroup_3_5 21 (.aload_n 0) 1 22 := ⟨by decide +kernel, rfl⟩
theorem zd_3_5_22 : zz_D zy_makeGroup_3_5 22 (.aload_n 0) 1 23 := ⟨by decide +kernel, rfl⟩
theorem zd_3_5_23 : zz_D zy_makeGroup_3_5 23 (.getfield 112) 3 26 := ⟨by decide +kernel, rfl⟩
theorem zd_3_5_26 : zz_D zy_makeGroup_3_5 26 (.invokevirtual 155) 3 29 := ⟨by decide +kernel, rfl⟩
theorem zd_3_5_29 : zz_B zy_makeGroup_3_5 29 Instr.goto 102 32 := ⟨73, by decide +kernel, rfl, rfl⟩

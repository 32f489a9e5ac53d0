-- TensorForge$Run firstNotBegun (II)I
abbrev zr_firstNotBegun_10_26 : Room := { frames := 2, cells := 0, slots := 0, locals := 28 }
def zp_firstNotBegun_10_26 (p0 : Int) (p1 : Int) (S0 : zz_S) : Int → zz_S → Prop := fun r S => S0 = S ∧ ((-1) ≤ r ∧ r ≤ 599)
theorem zb_firstNotBegun_10_26_2 {g : mm_G} {l : Launch} (p0 : Int) (p1 : Int) (S0 : zz_S) (n : Nat) (hn : zz_end ≤ n) (G_S0 : zz_G S0) (hp0 : (-2147483648) ≤ p0 ∧ p0 ≤ 2147483647) (hp1 : (-2147483648) ≤ p1 ∧ p1 ≤ 2147483647) (x3 : Int) (S : zz_S) (G_S : zz_G S) (F_S : zz_fr [] [] (fun _ _ => False) S0 S) (i2_0 : 0 ≤ x3 ∧ x3 ≤ 600) (R : Nat) (hR : (S0 1042 9 - x3).toNat = R) (k2 : ∀ (x3 : Int) (S : zz_S), zz_G S → zz_fr [] [] (fun _ _ => False) S0 S → (0 ≤ x3 ∧ x3 ≤ 600) → (S0 1042 9 - x3).toNat < R → zz_E g l zy_firstNotBegun_10_26 zr_firstNotBegun_10_26 (zz_QI n (zp_firstNotBegun_10_26 p0 p1 S0)) S n 2 [some (.ref 1042), some (zi p0), some (zi p1), some (zi x3)] [] 0 0) : zz_E g l zy_firstNotBegun_10_26 zr_firstNotBegun_10_26 (zz_QI n (zp_firstNotBegun_10_26 p0 p1 S0)) S n 2 [some (.ref 1042), some (zi p0), some (zi p1), some (zi x3)] [] 0 0 := by
  refine zz_iload_n (x := x3) rfl zd_10_26_2 ?_
  refine zz_aload_n (x := 1042) rfl zd_10_26_3 ?_
  have g2 := zz_G.r G_S0 1042 9 0 600 rfl rfl
  refine zz_geti (z := S0 1042 9) zd_10_26_4 zf_Run_46 zT_1042 rfl (zz_ltn hn rfl) (zz_rc F_S rfl rfl (fun h => h) rfl) ?_
  refine zz_icmp_ge (by omega) (by omega) zd_10_26_7 (fun c3 => ?_) (fun c3 => ?_)
  · refine zz_iconst zd_10_26_40 ?_
    exact zz_iret zd_10_26_41 rfl (Nat.zero_le _) (Nat.zero_le _) ⟨_, _, rfl, zz_fr.eq F_S, by omega⟩
  · refine zz_aload_n (x := 1042) rfl zd_10_26_10 ?_
    refine zz_getr (kd := 0) (z := 1044) zd_10_26_11 zf_Run_19 zT_1042 rfl (zz_ltn hn rfl) (zz_G.eq G_S 1042 2 1044 rfl rfl) (by decide) 1044 rfl ?_
    refine zz_iload_n (x := x3) rfl zd_10_26_14 ?_
    have g4 := zz_G.r G_S0 1044 x3.toNat (-9223372036854775808) 9223372036854775807 rfl rfl
    refine zz_lald (z := S0 1044 x3.toNat) zd_10_26_15 zT_1044 rfl (zz_ltn hn rfl) (by decide) (by omega) (zz_rc F_S (zz_nc1 rfl) rfl (fun h => h) rfl) ?_
    refine zz_callSI [zl (S0 1044 x3.toNat)] zd_10_26_16 zk_Run_107 rfl rfl ⟨Nat.le_of_ble_eq_true rfl, Nat.le_of_ble_eq_true rfl⟩ ⟨rfl, rfl⟩ (Nat.zero_le _) (Nat.zero_le _) (zc_unitOf_12_10 (S0 1044 x3.toNat) S n hn G_S (by omega)) (fun v6 S5 hP => ?_)
    obtain ⟨rfl, o7, o8⟩ := hP
    refine zz_iload_n (x := p0) rfl zd_10_26_19 ?_
    refine zz_icmp_ne (by omega) (by omega) zd_10_26_20 (fun c9 => ?_) (fun c9 => ?_)
    · refine zz_iinc [some (.ref 1042), some (zi p0), some (zi p1), some (zi (x3 + 1))] zd_10_26_34 rfl rfl ?_
      refine zz_goto zd_10_26_37 ?_
      refine zz_less (ls1 := [some (.ref 1042), some (zi p0), some (zi p1), some (zi (x3 + 1))]) ⟨rfl, ⟨rfl, ⟨rfl, ⟨rfl, trivial⟩⟩⟩⟩ ?_
      exact k2 (x3 + 1) S G_S F_S (by omega) (by omega)
    · refine zz_aload_n (x := 1042) rfl zd_10_26_23 ?_
      refine zz_iload_n (x := x3) rfl zd_10_26_24 ?_
      refine zz_iload_n (x := p1) rfl zd_10_26_25 ?_
      refine zz_callVI [zi x3, zi p1] zd_10_26_26 zk_Run_176 zT_1042 (zz_ltn hn rfl) rfl rfl ⟨Nat.le_of_ble_eq_true rfl, Nat.le_of_ble_eq_true rfl⟩ ⟨rfl, rfl⟩ (Nat.zero_le _) (Nat.zero_le _) (zc_hadBegun_10_22 x3 p1 S n hn G_S (by omega) (by omega)) (fun v11 S10 hP => ?_)
      obtain ⟨rfl, o12⟩ := hP
      rcases (by omega : v11 = 0 ∨ v11 = 1) with rfl | rfl
      · refine zz_if_ne (by omega) zd_10_26_29 (fun c13 => ?_) (fun c13 => ?_)
        · exfalso; omega
        · refine zz_iload_n (x := x3) rfl zd_10_26_32 ?_
          exact zz_iret zd_10_26_33 rfl (Nat.zero_le _) (Nat.zero_le _) ⟨_, _, rfl, zz_fr.eq F_S, by omega⟩
      · refine zz_if_ne (by omega) zd_10_26_29 (fun c14 => ?_) (fun c14 => ?_)
        · refine zz_iinc [some (.ref 1042), some (zi p0), some (zi p1), some (zi (x3 + 1))] zd_10_26_34 rfl rfl ?_
          refine zz_goto zd_10_26_37 ?_
          refine zz_less (ls1 := [some (.ref 1042), some (zi p0), some (zi p1), some (zi (x3 + 1))]) ⟨rfl, ⟨rfl, ⟨rfl, ⟨rfl, trivial⟩⟩⟩⟩ ?_
          exact k2 (x3 + 1) S G_S F_S (by omega) (by omega)
        · exfalso; omega
theorem zi_firstNotBegun_10_26 {g : mm_G} {l : Launch} (p0 : Int) (p1 : Int) (S0 : zz_S) (n : Nat) (hn : zz_end ≤ n) (G_S0 : zz_G S0) (hp0 : (-2147483648) ≤ p0 ∧ p0 ≤ 2147483647) (hp1 : (-2147483648) ≤ p1 ∧ p1 ≤ 2147483647) : ∀ N : Nat, (∀ (x3 : Int) (S : zz_S), zz_G S → zz_fr [] [] (fun _ _ => False) S0 S → (0 ≤ x3 ∧ x3 ≤ 600) → (S0 1042 9 - x3).toNat < N → zz_E g l zy_firstNotBegun_10_26 zr_firstNotBegun_10_26 (zz_QI n (zp_firstNotBegun_10_26 p0 p1 S0)) S n 2 [some (.ref 1042), some (zi p0), some (zi p1), some (zi x3)] [] 0 0) := by
  intro N
  induction N with
  | zero => exact fun x3 S _ _ _ h => absurd h (Nat.not_lt_zero _)
  | succ N ih =>
    exact fun x3 S a b j0 hR => zb_firstNotBegun_10_26_2 p0 p1 S0 n hn G_S0 hp0 hp1 x3 S a b j0 _ rfl (fun x3 S a b j0 h => ih x3 S a b j0 (Nat.lt_of_lt_of_le h (Nat.le_of_lt_succ hR)))
theorem zc_firstNotBegun_10_26 {g : mm_G} {l : Launch} (p0 : Int) (p1 : Int) (S0 : zz_S) (n : Nat) (hn : zz_end ≤ n) (G_S0 : zz_G S0) (hp0 : (-2147483648) ≤ p0 ∧ p0 ≤ 2147483647) (hp1 : (-2147483648) ≤ p1 ∧ p1 ≤ 2147483647) : mm_Met g l zy_firstNotBegun_10_26 zr_firstNotBegun_10_26 [.ref 1042, zi p0, zi p1] (zz_M S0 n) n (zz_QI n (zp_firstNotBegun_10_26 p0 p1 S0)) := by
  refine zz_enter (by decide) (Nat.le_of_ble_eq_true rfl) (zz_less (ls1 := [some (.ref 1042), some (zi p0), some (zi p1)]) ⟨rfl, ⟨rfl, ⟨rfl, trivial⟩⟩⟩ ?_)
  have F_S0 : zz_fr [] [] (fun _ _ => False) S0 S0 := zz_fr.refl
  have k2 : ∀ (x3 : Int) (S : zz_S), zz_G S → zz_fr [] [] (fun _ _ => False) S0 S → (0 ≤ x3 ∧ x3 ≤ 600) → zz_E g l zy_firstNotBegun_10_26 zr_firstNotBegun_10_26 (zz_QI n (zp_firstNotBegun_10_26 p0 p1 S0)) S n 2 [some (.ref 1042), some (zi p0), some (zi p1), some (zi x3)] [] 0 0 := fun x3 S a b j0 => (zi_firstNotBegun_10_26 (g := g) (l := l) p0 p1 S0 n hn G_S0 hp0 hp1 _) x3 S a b j0 (Nat.lt_succ_self _)
  refine zz_iconst zd_10_26_0 ?_
  refine zz_istore_n [some (.ref 1042), some (zi p0), some (zi p1), some (zi 0)] zd_10_26_1 (by decide) rfl ?_
  have g1 := zz_G.r G_S0 1042 9 0 600 rfl rfl
  refine zz_less (ls1 := [some (.ref 1042), some (zi p0), some (zi p1), some (zi 0)]) ⟨rfl, ⟨rfl, ⟨rfl, ⟨rfl, trivial⟩⟩⟩⟩ ?_
  exact k2 0 S0 G_S0 F_S0 (by omega)
theorem zk_Run_183 : mm_Vl "TensorForge$Run" 183 5 2 zy_firstNotBegun_10_26 := ⟨zyw_firstNotBegun_10_26, (R_Run, F_Run, 10), rfl, mm_tb_1 1569 (by decide +kernel) rfl, mm_tb_1 1571 (by decide +kernel) rfl, mm_tb_s 82 (by decide +kernel) rfl⟩
theorem zk_Run_186 : mm_Vl "TensorForge$Run" 186 5 2 zy_underWayAt_10_24 := ⟨zyw_underWayAt_10_24, (R_Run, F_Run, 10), rfl, mm_tb_1 1573 (by decide +kernel) rfl, mm_tb_1 1547 (by decide +kernel) rfl, mm_tb_1 1548 (by decide +kernel) rfl⟩
abbrev zy_pushesUpTo_10_27 : mm_Y := (⟨"TensorForge$Run", "pushesUpTo", "(III)I"⟩, prog_10_method_27_code, 6, (some .int))
theorem zyw_pushesUpTo_10_27 : mm_Yw zy_pushesUpTo_10_27 3 := ⟨mm_tb_1 1577 (by decide +kernel) rfl, mm_tb_1 6 (by decide +kernel) rfl, ⟨by decide, by decide⟩, by decide +kernel⟩
theorem zg_10_25_6 : (decode zy_missingAt_10_25.2.1 6 = .ok ((.istore_n 3), 1)) ∧ (decode zy_missingAt_10_25.2.1 7 = .ok ((.iload_n 3), 1)) ∧ (decode zy_missingAt_10_25.2.1 8 = .ok ((.iconst (-1)), 1)) ∧ (decode zy_missingAt_10_25.2.1 9 = .ok ((Instr.if_icmp .eq) 13, 3)) ∧ (decode zy_missingAt_10_25.2.1 22 = .ok ((.iconst 0), 1)) ∧ (decode zy_missingAt_10_25.2.1 23 = .ok ((.ireturn), 1)) ∧ (decode zy_missingAt_10_25.2.1 12 = .ok ((.aload_n 0), 1)) ∧ (decode zy_missingAt_10_25.2.1 13 = .ok ((.iload_n 1), 1)) ∧ (decode zy_missingAt_10_25.2.1 14 = .ok ((.iload_n 2), 1)) ∧ (decode zy_missingAt_10_25.2.1 15 = .ok ((.invokevirtual 186), 3)) := by decide +kernel
theorem zd_10_25_6 : zz_D zy_missingAt_10_25 6 (.istore_n 3) 1 7 := ⟨zg_10_25_6.1, rfl⟩
theorem zd_10_25_7 : zz_D zy_missingAt_10_25 7 (.iload_n 3) 1 8 := ⟨zg_10_25_6.2.1, rfl⟩
theorem zd_10_25_8 : zz_D zy_missingAt_10_25 8 (.iconst (-1)) 1 9 := ⟨zg_10_25_6.2.2.1, rfl⟩
theorem zd_10_25_9 : zz_B zy_missingAt_10_25 9 (Instr.if_icmp .eq) 22 12 := ⟨13, zg_10_25_6.2.2.2.1, rfl, rfl⟩
theorem zd_10_25_22 : zz_D zy_missingAt_10_25 22 (.iconst 0) 1 23 := ⟨zg_10_25_6.2.2.2.2.1, rfl⟩
theorem zd_10_25_23 : zz_D zy_missingAt_10_25 23 (.ireturn) 1 24 := ⟨zg_10_25_6.2.2.2.2.2.1, rfl⟩
theorem zd_10_25_12 : zz_D zy_missingAt_10_25 12 (.aload_n 0) 1 13 := ⟨zg_10_25_6.2.2.2.2.2.2.1, rfl⟩
theorem zd_10_25_13 : zz_D zy_missingAt_10_25 13 (.iload_n 1) 1 14 := ⟨zg_10_25_6.2.2.2.2.2.2.2.1, rfl⟩
theorem zd_10_25_14 : zz_D zy_missingAt_10_25 14 (.iload_n 2) 1 15 := ⟨zg_10_25_6.2.2.2.2.2.2.2.2.1, rfl⟩
theorem zd_10_25_15 : zz_D zy_missingAt_10_25 15 (.invokevirtual 186) 3 18 := ⟨zg_10_25_6.2.2.2.2.2.2.2.2.2, rfl⟩
theorem zg_10_25_18 : (decode zy_missingAt_10_25.2.1 18 = .ok ((.iconst (-1)), 1)) ∧ (decode zy_missingAt_10_25.2.1 19 = .ok ((Instr.if_icmp .eq) 5, 3)) ∧ (decode zy_missingAt_10_25.2.1 24 = .ok ((.iconst 0), 1)) ∧ (decode zy_missingAt_10_25.2.1 25 = .ok ((.istore 4), 2)) ∧ (decode zy_missingAt_10_25.2.1 27 = .ok ((.aload_n 0), 1)) ∧ (decode zy_missingAt_10_25.2.1 28 = .ok ((.getfield 19), 3)) ∧ (decode zy_missingAt_10_25.2.1 31 = .ok ((.iload_n 3), 1)) ∧ (decode zy_missingAt_10_25.2.1 32 = .ok ((.laload), 1)) ∧ (decode zy_missingAt_10_25.2.1 33 = .ok ((.iconst 1), 1)) ∧ (decode zy_missingAt_10_25.2.1 34 = .ok ((.invokestatic 150), 3)) := by decide +kernel
theorem zd_10_25_18 : zz_D zy_missingAt_10_25 18 (.iconst (-1)) 1 19 := ⟨zg_10_25_18.1, rfl⟩
theorem zd_10_25_19 : zz_B zy_missingAt_10_25 19 (Instr.if_icmp .eq) 24 22 := ⟨5, zg_10_25_18.2.1, rfl, rfl⟩
theorem zd_10_25_24 : zz_D zy_missingAt_10_25 24 (.iconst 0) 1 25 := ⟨zg_10_25_18.2.2.1, rfl⟩
theorem zd_10_25_25 : zz_D zy_missingAt_10_25 25 (.istore 4) 2 27 := ⟨zg_10_25_18.2.2.2.1, rfl⟩
theorem zd_10_25_27 : zz_D zy_missingAt_10_25 27 (.aload_n 0) 1 28 := ⟨zg_10_25_18.2.2.2.2.1, rfl⟩
theorem zd_10_25_28 : zz_D zy_missingAt_10_25 28 (.getfield 19) 3 31 := ⟨zg_10_25_18.2.2.2.2.2.1, rfl⟩
theorem zd_10_25_31 : zz_D zy_missingAt_10_25 31 (.iload_n 3) 1 32 := ⟨zg_10_25_18.2.2.2.2.2.2.1, rfl⟩
theorem zd_10_25_32 : zz_D zy_missingAt_10_25 32 (.laload) 1 33 := ⟨zg_10_25_18.2.2.2.2.2.2.2.1, rfl⟩
theorem zd_10_25_33 : zz_D zy_missingAt_10_25 33 (.iconst 1) 1 34 := ⟨zg_10_25_18.2.2.2.2.2.2.2.2.1, rfl⟩
theorem zd_10_25_34 : zz_D zy_missingAt_10_25 34 (.invokestatic 150) 3 37 := ⟨zg_10_25_18.2.2.2.2.2.2.2.2.2, rfl⟩
theorem zg_10_25_37 : (decode zy_missingAt_10_25.2.1 37 = .ok ((Instr.ifCond .eq) 25, 3)) ∧ (decode zy_missingAt_10_25.2.1 62 = .ok ((.aload_n 0), 1)) ∧ (decode zy_missingAt_10_25.2.1 63 = .ok ((.getfield 19), 3)) ∧ (decode zy_missingAt_10_25.2.1 66 = .ok ((.iload_n 3), 1)) ∧ (decode zy_missingAt_10_25.2.1 67 = .ok ((.laload), 1)) ∧ (decode zy_missingAt_10_25.2.1 68 = .ok ((.iconst 2), 1)) ∧ (decode zy_missingAt_10_25.2.1 69 = .ok ((.invokestatic 150), 3)) ∧ (decode zy_missingAt_10_25.2.1 72 = .ok ((Instr.ifCond .eq) 25, 3)) ∧ (decode zy_missingAt_10_25.2.1 97 = .ok ((.iload 4), 2)) ∧ (decode zy_missingAt_10_25.2.1 99 = .ok ((.ireturn), 1)) := by decide +kernel
theorem zd_10_25_37 : zz_B zy_missingAt_10_25 37 (Instr.ifCond .eq) 62 40 := ⟨25, zg_10_25_37.1, rfl, rfl⟩
theorem zd_10_25_62 : zz_D zy_missingAt_10_25 62 (.aload_n 0) 1 63 := ⟨zg_10_25_37.2.1, rfl⟩
theorem zd_10_25_63 : zz_D zy_missingAt_10_25 63 (.getfield 19) 3 66 := ⟨zg_10_25_37.2.2.1, rfl⟩
theorem zd_10_25_66 : zz_D zy_missingAt_10_25 66 (.iload_n 3) 1 67 := ⟨zg_10_25_37.2.2.2.1, rfl⟩
theorem zd_10_25_67 : zz_D zy_missingAt_10_25 67 (.laload) 1 68 := ⟨zg_10_25_37.2.2.2.2.1, rfl⟩
theorem zd_10_25_68 : zz_D zy_missingAt_10_25 68 (.iconst 2) 1 69 := ⟨zg_10_25_37.2.2.2.2.2.1, rfl⟩
theorem zd_10_25_69 : zz_D zy_missingAt_10_25 69 (.invokestatic 150) 3 72 := ⟨zg_10_25_37.2.2.2.2.2.2.1, rfl⟩
theorem zd_10_25_72 : zz_B zy_missingAt_10_25 72 (Instr.ifCond .eq) 97 75 := ⟨25, zg_10_25_37.2.2.2.2.2.2.2.1, rfl, rfl⟩
theorem zd_10_25_97 : zz_D zy_missingAt_10_25 97 (.iload 4) 2 99 := ⟨zg_10_25_37.2.2.2.2.2.2.2.2.1, rfl⟩
theorem zd_10_25_99 : zz_D zy_missingAt_10_25 99 (.ireturn) 1 100 := ⟨zg_10_25_37.2.2.2.2.2.2.2.2.2, rfl⟩
theorem zg_10_25_75 : (decode zy_missingAt_10_25.2.1 75 = .ok ((.aload_n 0), 1)) ∧ (decode zy_missingAt_10_25.2.1 76 = .ok ((.iload_n 1), 1)) ∧ (decode zy_missingAt_10_25.2.1 77 = .ok ((.iconst 1), 1)) ∧ (decode zy_missingAt_10_25.2.1 78 = .ok ((.iadd), 1)) ∧ (decode zy_missingAt_10_25.2.1 79 = .ok ((.iconst 3), 1)) ∧ (decode zy_missingAt_10_25.2.1 80 = .ok ((.iload_n 2), 1)) ∧ (decode zy_missingAt_10_25.2.1 81 = .ok ((.invokevirtual 189), 3)) := by decide +kernel
theorem zd_10_25_75 : zz_D zy_missingAt_10_25 75 (.aload_n 0) 1 76 := ⟨zg_10_25_75.1, rfl⟩
theorem zd_10_25_76 : zz_D zy_missingAt_10_25 76 (.iload_n 1) 1 77 := ⟨zg_10_25_75.2.1, rfl⟩
theorem zd_10_25_77 : zz_D zy_missingAt_10_25 77 (.iconst 1) 1 78 := ⟨zg_10_25_75.2.2.1, rfl⟩
theorem zd_10_25_78 : zz_D zy_missingAt_10_25 78 (.iadd) 1 79 := ⟨zg_10_25_75.2.2.2.1, rfl⟩
theorem zd_10_25_79 : zz_D zy_missingAt_10_25 79 (.iconst 3) 1 80 := ⟨zg_10_25_75.2.2.2.2.1, rfl⟩
theorem zd_10_25_80 : zz_D zy_missingAt_10_25 80 (.iload_n 2) 1 81 := ⟨zg_10_25_75.2.2.2.2.2.1, rfl⟩
theorem zd_10_25_81 : zz_D zy_missingAt_10_25 81 (.invokevirtual 189) 3 84 := ⟨zg_10_25_75.2.2.2.2.2.2, rfl⟩
theorem zg_10_27_0 : (decode zy_pushesUpTo_10_27.2.1 0 = .ok ((.iconst 0), 1)) ∧ (decode zy_pushesUpTo_10_27.2.1 1 = .ok ((.istore 4), 2)) ∧ (decode zy_pushesUpTo_10_27.2.1 3 = .ok ((.iconst 0), 1)) ∧ (decode zy_pushesUpTo_10_27.2.1 4 = .ok ((.istore 5), 2)) ∧ (decode zy_pushesUpTo_10_27.2.1 6 = .ok ((.iload 5), 2)) ∧ (decode zy_pushesUpTo_10_27.2.1 8 = .ok ((.aload_n 0), 1)) ∧ (decode zy_pushesUpTo_10_27.2.1 9 = .ok ((.getfield 46), 3)) ∧ (decode zy_pushesUpTo_10_27.2.1 12 = .ok ((Instr.if_icmp .ge) 49, 3)) ∧ (decode zy_pushesUpTo_10_27.2.1 61 = .ok ((.iload 4), 2)) ∧ (decode zy_pushesUpTo_10_27.2.1 63 = .ok ((.ireturn), 1)) := by decide +kernel
theorem zd_10_27_0 : zz_D zy_pushesUpTo_10_27 0 (.iconst 0) 1 1 := ⟨zg_10_27_0.1, rfl⟩
theorem zd_10_27_1 : zz_D zy_pushesUpTo_10_27 1 (.istore 4) 2 3 := ⟨zg_10_27_0.2.1, rfl⟩
theorem zd_10_27_3 : zz_D zy_pushesUpTo_10_27 3 (.iconst 0) 1 4 := ⟨zg_10_27_0.2.2.1, rfl⟩
theorem zd_10_27_4 : zz_D zy_pushesUpTo_10_27 4 (.istore 5) 2 6 := ⟨zg_10_27_0.2.2.2.1, rfl⟩
theorem zd_10_27_6 : zz_D zy_pushesUpTo_10_27 6 (.iload 5) 2 8 := ⟨zg_10_27_0.2.2.2.2.1, rfl⟩
theorem zd_10_27_8 : zz_D zy_pushesUpTo_10_27 8 (.aload_n 0) 1 9 := ⟨zg_10_27_0.2.2.2.2.2.1, rfl⟩
theorem zd_10_27_9 : zz_D zy_pushesUpTo_10_27 9 (.getfield 46) 3 12 := ⟨zg_10_27_0.2.2.2.2.2.2.1, rfl⟩
theorem zd_10_27_12 : zz_B zy_pushesUpTo_10_27 12 (Instr.if_icmp .ge) 61 15 := ⟨49, zg_10_27_0.2.2.2.2.2.2.2.1, rfl, rfl⟩
theorem zd_10_27_61 : zz_D zy_pushesUpTo_10_27 61 (.iload 4) 2 63 := ⟨zg_10_27_0.2.2.2.2.2.2.2.2.1, rfl⟩
theorem zd_10_27_63 : zz_D zy_pushesUpTo_10_27 63 (.ireturn) 1 64 := ⟨zg_10_27_0.2.2.2.2.2.2.2.2.2, rfl⟩
theorem zg_10_27_15 : (decode zy_pushesUpTo_10_27.2.1 15 = .ok ((.aload_n 0), 1)) ∧ (decode zy_pushesUpTo_10_27.2.1 16 = .ok ((.getfield 19), 3)) ∧ (decode zy_pushesUpTo_10_27.2.1 19 = .ok ((.iload 5), 2)) ∧ (decode zy_pushesUpTo_10_27.2.1 21 = .ok ((.laload), 1)) ∧ (decode zy_pushesUpTo_10_27.2.1 22 = .ok ((.invokestatic 107), 3)) ∧ (decode zy_pushesUpTo_10_27.2.1 25 = .ok ((.iload_n 1), 1)) ∧ (decode zy_pushesUpTo_10_27.2.1 26 = .ok ((Instr.if_icmp .ne) 29, 3)) ∧ (decode zy_pushesUpTo_10_27.2.1 55 = .ok ((.iinc 5 1), 3)) ∧ (decode zy_pushesUpTo_10_27.2.1 58 = .ok (Instr.goto (-52), 3)) ∧ (decode zy_pushesUpTo_10_27.2.1 29 = .ok ((.aload_n 0), 1)) := by decide +kernel
theorem zd_10_27_15 : zz_D zy_pushesUpTo_10_27 15 (.aload_n 0) 1 16 := ⟨zg_10_27_15.1, rfl⟩
theorem zd_10_27_16 : zz_D zy_pushesUpTo_10_27 16 (.getfield 19) 3 19 := ⟨zg_10_27_15.2.1, rfl⟩
theorem zd_10_27_19 : zz_D zy_pushesUpTo_10_27 19 (.iload 5) 2 21 := ⟨zg_10_27_15.2.2.1, rfl⟩
theorem zd_10_27_21 : zz_D zy_pushesUpTo_10_27 21 (.laload) 1 22 := ⟨zg_10_27_15.2.2.2.1, rfl⟩
theorem zd_10_27_22 : zz_D zy_pushesUpTo_10_27 22 (.invokestatic 107) 3 25 := ⟨zg_10_27_15.2.2.2.2.1, rfl⟩
theorem zd_10_27_25 : zz_D zy_pushesUpTo_10_27 25 (.iload_n 1) 1 26 := ⟨zg_10_27_15.2.2.2.2.2.1, rfl⟩
theorem zd_10_27_26 : zz_B zy_pushesUpTo_10_27 26 (Instr.if_icmp .ne) 55 29 := ⟨29, zg_10_27_15.2.2.2.2.2.2.1, rfl, rfl⟩
theorem zd_10_27_55 : zz_D zy_pushesUpTo_10_27 55 (.iinc 5 1) 3 58 := ⟨zg_10_27_15.2.2.2.2.2.2.2.1, rfl⟩
theorem zd_10_27_58 : zz_B zy_pushesUpTo_10_27 58 Instr.goto 6 61 := ⟨(-52), zg_10_27_15.2.2.2.2.2.2.2.2.1, rfl, rfl⟩
theorem zd_10_27_29 : zz_D zy_pushesUpTo_10_27 29 (.aload_n 0) 1 30 := ⟨zg_10_27_15.2.2.2.2.2.2.2.2.2, rfl⟩
theorem zg_10_27_30 : (decode zy_pushesUpTo_10_27.2.1 30 = .ok ((.iload 5), 2)) ∧ (decode zy_pushesUpTo_10_27.2.1 32 = .ok ((.iload_n 3), 1)) ∧ (decode zy_pushesUpTo_10_27.2.1 33 = .ok ((.invokevirtual 180), 3)) ∧ (decode zy_pushesUpTo_10_27.2.1 36 = .ok ((Instr.ifCond .eq) 19, 3)) ∧ (decode zy_pushesUpTo_10_27.2.1 39 = .ok ((.iload 4), 2)) ∧ (decode zy_pushesUpTo_10_27.2.1 41 = .ok ((.aload_n 0), 1)) ∧ (decode zy_pushesUpTo_10_27.2.1 42 = .ok ((.getfield 19), 3)) ∧ (decode zy_pushesUpTo_10_27.2.1 45 = .ok ((.iload 5), 2)) ∧ (decode zy_pushesUpTo_10_27.2.1 47 = .ok ((.laload), 1)) ∧ (decode zy_pushesUpTo_10_27.2.1 48 = .ok ((.iload_n 2), 1)) := by decide +kernel
theorem zd_10_27_30 : zz_D zy_pushesUpTo_10_27 30 (.iload 5) 2 32 := ⟨zg_10_27_30.1, rfl⟩
theorem zd_10_27_32 : zz_D zy_pushesUpTo_10_27 32 (.iload_n 3) 1 33 := ⟨zg_10_27_30.2.1, rfl⟩
theorem zd_10_27_33 : zz_D zy_pushesUpTo_10_27 33 (.invokevirtual 180) 3 36 := ⟨zg_10_27_30.2.2.1, rfl⟩
theorem zd_10_27_36 : zz_B zy_pushesUpTo_10_27 36 (Instr.ifCond .eq) 55 39 := ⟨19, zg_10_27_30.2.2.2.1, rfl, rfl⟩
theorem zd_10_27_39 : zz_D zy_pushesUpTo_10_27 39 (.iload 4) 2 41 := ⟨zg_10_27_30.2.2.2.2.1, rfl⟩
theorem zd_10_27_41 : zz_D zy_pushesUpTo_10_27 41 (.aload_n 0) 1 42 := ⟨zg_10_27_30.2.2.2.2.2.1, rfl⟩
theorem zd_10_27_42 : zz_D zy_pushesUpTo_10_27 42 (.getfield 19) 3 45 := ⟨zg_10_27_30.2.2.2.2.2.2.1, rfl⟩
theorem zd_10_27_45 : zz_D zy_pushesUpTo_10_27 45 (.iload 5) 2 47 := ⟨zg_10_27_30.2.2.2.2.2.2.2.1, rfl⟩
theorem zd_10_27_47 : zz_D zy_pushesUpTo_10_27 47 (.laload) 1 48 := ⟨zg_10_27_30.2.2.2.2.2.2.2.2.1, rfl⟩
theorem zd_10_27_48 : zz_D zy_pushesUpTo_10_27 48 (.iload_n 2) 1 49 := ⟨zg_10_27_30.2.2.2.2.2.2.2.2.2, rfl⟩
theorem zg_10_27_49 : (decode zy_pushesUpTo_10_27.2.1 49 = .ok ((.invokestatic 163), 3)) ∧ (decode zy_pushesUpTo_10_27.2.1 52 = .ok ((.iadd), 1)) ∧ (decode zy_pushesUpTo_10_27.2.1 53 = .ok ((.istore 4), 2)) := by decide +kernel
theorem zd_10_27_49 : zz_D zy_pushesUpTo_10_27 49 (.invokestatic 163) 3 52 := ⟨zg_10_27_49.1, rfl⟩
theorem zd_10_27_52 : zz_D zy_pushesUpTo_10_27 52 (.iadd) 1 53 := ⟨zg_10_27_49.2.1, rfl⟩
theorem zd_10_27_53 : zz_D zy_pushesUpTo_10_27 53 (.istore 4) 2 55 := ⟨zg_10_27_49.2.2, rfl⟩
-- TensorForge$Run pushesUpTo (III)I
abbrev zr_pushesUpTo_10_27 : Room := { frames := 2, cells := 0, slots := 0, locals := 28 }
def zp_pushesUpTo_10_27 (p0 : Int) (p1 : Int) (p2 : Int) (S0 : zz_S) : Int → zz_S → Prop := fun r S => S0 = S ∧ ((-2147483648) ≤ r ∧ r ≤ 2147483647)
theorem zb_pushesUpTo_10_27_6 {g : mm_G} {l : Launch} (p0 : Int) (p1 : Int) (p2 : Int) (S0 : zz_S) (n : Nat) (hn : zz_end ≤ n) (G_S0 : zz_G S0) (hp0 : (-2147483648) ≤ p0 ∧ p0 ≤ 2147483647) (hp1 : (-2147483648) ≤ p1 ∧ p1 ≤ 2147483647) (hp2 : (-2147483648) ≤ p2 ∧ p2 ≤ 2147483647) (x4 : Int) (x5 : Int) (S : zz_S) (G_S : zz_G S) (F_S : zz_fr [] [] (fun _ _ => False) S0 S) (i6_0 : (-2147483648) ≤ x4 ∧ x4 ≤ 2147483647) (i6_1 : 0 ≤ x5 ∧ x5 ≤ 600) (R : Nat) (hR : (S0 1042 9 - x5).toNat = R) (k6 : ∀ (x4 : Int) (x5 : Int) (S : zz_S), zz_G S → zz_fr [] [] (fun _ _ => False) S0 S → ((-2147483648) ≤ x4 ∧ x4 ≤ 2147483647) → (0 ≤ x5 ∧ x5 ≤ 600) → (S0 1042 9 - x5).toNat < R → zz_E g l zy_pushesUpTo_10_27 zr_pushesUpTo_10_27 (zz_QI n (zp_pushesUpTo_10_27 p0 p1 p2 S0)) S n 6 [some (.ref 1042), some (zi p0), some (zi p1), some (zi p2), some (zi x4), some (zi x5)] [] 0 0) : zz_E g l zy_pushesUpTo_10_27 zr_pushesUpTo_10_27 (zz_QI n (zp_pushesUpTo_10_27 p0 p1 p2 S0)) S n 6 [some (.ref 1042), some (zi p0), some (zi p1), some (zi p2), some (zi x4), some (zi x5)] [] 0 0 := by
  refine zz_iload (x := x5) rfl zd_10_27_6 ?_
  refine zz_aload_n (x := 1042) rfl zd_10_27_8 ?_
  have g2 := zz_G.r G_S0 1042 9 0 600 rfl rfl
  refine zz_geti (z := S0 1042 9) zd_10_27_9 zf_Run_46 zT_1042 rfl (zz_ltn hn rfl) (zz_rc F_S rfl rfl (fun h => h) rfl) ?_
  refine zz_icmp_ge (by omega) (by omega) zd_10_27_12 (fun c3 => ?_) (fun c3 => ?_)
  · refine zz_iload (x := x4) rfl zd_10_27_61 ?_
    exact zz_iret zd_10_27_63 rfl (Nat.zero_le _) (Nat.zero_le _) ⟨_, _, rfl, zz_fr.eq F_S, by omega⟩
  · refine zz_aload_n (x := 1042) rfl zd_10_27_15 ?_
    refine zz_getr (kd := 0) (z := 1044) zd_10_27_16 zf_Run_19 zT_1042 rfl (zz_ltn hn rfl) (zz_G.eq G_S 1042 2 1044 rfl rfl) (by decide) 1044 rfl ?_
    refine zz_iload (x := x5) rfl zd_10_27_19 ?_
    have g4 := zz_G.r G_S0 1044 x5.toNat (-9223372036854775808) 9223372036854775807 rfl rfl
    refine zz_lald (z := S0 1044 x5.toNat) zd_10_27_21 zT_1044 rfl (zz_ltn hn rfl) (by decide) (by omega) (zz_rc F_S (zz_nc1 rfl) rfl (fun h => h) rfl) ?_
    refine zz_callSI [zl (S0 1044 x5.toNat)] zd_10_27_22 zk_Run_107 rfl rfl ⟨Nat.le_of_ble_eq_true rfl, Nat.le_of_ble_eq_true rfl⟩ ⟨rfl, rfl⟩ (Nat.zero_le _) (Nat.zero_le _) (zc_unitOf_12_10 (S0 1044 x5.toNat) S n hn G_S (by omega)) (fun v6 S5 hP => ?_)
    obtain ⟨rfl, o7, o8⟩ := hP
    refine zz_iload_n (x := p0) rfl zd_10_27_25 ?_
    refine zz_icmp_ne (by omega) (by omega) zd_10_27_26 (fun c9 => ?_) (fun c9 => ?_)
    · refine zz_iinc [some (.ref 1042), some (zi p0), some (zi p1), some (zi p2), some (zi x4), some (zi (x5 + 1))] zd_10_27_55 rfl rfl ?_
      refine zz_goto zd_10_27_58 ?_
      refine zz_less (ls1 := [some (.ref 1042), some (zi p0), some (zi p1), some (zi p2), some (zi x4), some (zi (x5 + 1))]) ⟨rfl, ⟨rfl, ⟨rfl, ⟨rfl, ⟨rfl, ⟨rfl, trivial⟩⟩⟩⟩⟩⟩ ?_
      exact k6 x4 (x5 + 1) S G_S F_S (by omega) (by omega) (by omega)
    · refine zz_aload_n (x := 1042) rfl zd_10_27_29 ?_
      refine zz_iload (x := x5) rfl zd_10_27_30 ?_
      refine zz_iload_n (x := p2) rfl zd_10_27_32 ?_
      refine zz_callVI [zi x5, zi p2] zd_10_27_33 zk_Run_180 zT_1042 (zz_ltn hn rfl) rfl rfl ⟨Nat.le_of_ble_eq_true rfl, Nat.le_of_ble_eq_true rfl⟩ ⟨rfl, rfl⟩ (Nat.zero_le _) (Nat.zero_le _) (zc_hadEnded_10_23 x5 p2 S n hn G_S (by omega) (by omega)) (fun v11 S10 hP => ?_)
      obtain ⟨rfl, o12⟩ := hP
      rcases (by omega : v11 = 0 ∨ v11 = 1) with rfl | rfl
      · refine zz_if_eq (by omega) zd_10_27_36 (fun c13 => ?_) (fun c13 => ?_)
        · refine zz_iinc [some (.ref 1042), some (zi p0), some (zi p1), some (zi p2), some (zi x4), some (zi (x5 + 1))] zd_10_27_55 rfl rfl ?_
          refine zz_goto zd_10_27_58 ?_
          refine zz_less (ls1 := [some (.ref 1042), some (zi p0), some (zi p1), some (zi p2), some (zi x4), some (zi (x5 + 1))]) ⟨rfl, ⟨rfl, ⟨rfl, ⟨rfl, ⟨rfl, ⟨rfl, trivial⟩⟩⟩⟩⟩⟩ ?_
          exact k6 x4 (x5 + 1) S G_S F_S (by omega) (by omega) (by omega)
        · exfalso; omega
      · refine zz_if_eq (by omega) zd_10_27_36 (fun c14 => ?_) (fun c14 => ?_)
        · exfalso; omega
        · refine zz_iload (x := x4) rfl zd_10_27_39 ?_
          refine zz_aload_n (x := 1042) rfl zd_10_27_41 ?_
          refine zz_getr (kd := 0) (z := 1044) zd_10_27_42 zf_Run_19 zT_1042 rfl (zz_ltn hn rfl) (zz_G.eq G_S 1042 2 1044 rfl rfl) (by decide) 1044 rfl ?_
          refine zz_iload (x := x5) rfl zd_10_27_45 ?_
          refine zz_lald (z := S0 1044 x5.toNat) zd_10_27_47 zT_1044 rfl (zz_ltn hn rfl) (by decide) (by omega) (zz_rc F_S (zz_nc1 rfl) rfl (fun h => h) rfl) ?_
          refine zz_iload_n (x := p1) rfl zd_10_27_48 ?_
          refine zz_callSI [zl (S0 1044 x5.toNat), zi p1] zd_10_27_49 zk_Run_163 rfl rfl ⟨Nat.le_of_ble_eq_true rfl, Nat.le_of_ble_eq_true rfl⟩ ⟨rfl, rfl⟩ (Nat.zero_le _) (Nat.zero_le _) (zc_get_12_2 (S0 1044 x5.toNat) p1 S n hn G_S (by omega) (by omega)) (fun v16 S15 hP => ?_)
          obtain ⟨rfl, o17⟩ := hP
          refine zz_iadd zd_10_27_52 ?_
          refine zz_nrm (fun v18 hv18 ev18 => ?_)
          refine zz_istore [some (.ref 1042), some (zi p0), some (zi p1), some (zi p2), some (zi v18), some (zi x5)] zd_10_27_53 (by decide) rfl ?_
          refine zz_iinc [some (.ref 1042), some (zi p0), some (zi p1), some (zi p2), some (zi v18), some (zi (x5 + 1))] zd_10_27_55 rfl rfl ?_
          refine zz_goto zd_10_27_58 ?_
          refine zz_less (ls1 := [some (.ref 1042), some (zi p0), some (zi p1), some (zi p2), some (zi v18), some (zi (x5 + 1))]) ⟨rfl, ⟨rfl, ⟨rfl, ⟨rfl, ⟨rfl, ⟨rfl, trivial⟩⟩⟩⟩⟩⟩ ?_
          exact k6 v18 (x5 + 1) S G_S F_S (by omega) (by omega) (by omega)
theorem zi_pushesUpTo_10_27 {g : mm_G} {l : Launch} (p0 : Int) (p1 : Int) (p2 : Int) (S0 : zz_S) (n : Nat) (hn : zz_end ≤ n) (G_S0 : zz_G S0) (hp0 : (-2147483648) ≤ p0 ∧ p0 ≤ 2147483647) (hp1 : (-2147483648) ≤ p1 ∧ p1 ≤ 2147483647) (hp2 : (-2147483648) ≤ p2 ∧ p2 ≤ 2147483647) : ∀ N : Nat, (∀ (x4 : Int) (x5 : Int) (S : zz_S), zz_G S → zz_fr [] [] (fun _ _ => False) S0 S → ((-2147483648) ≤ x4 ∧ x4 ≤ 2147483647) → (0 ≤ x5 ∧ x5 ≤ 600) → (S0 1042 9 - x5).toNat < N → zz_E g l zy_pushesUpTo_10_27 zr_pushesUpTo_10_27 (zz_QI n (zp_pushesUpTo_10_27 p0 p1 p2 S0)) S n 6 [some (.ref 1042), some (zi p0), some (zi p1), some (zi p2), some (zi x4), some (zi x5)] [] 0 0) := by
  intro N
  induction N with
  | zero => exact fun x4 x5 S _ _ _ _ h => absurd h (Nat.not_lt_zero _)
  | succ N ih =>
    exact fun x4 x5 S a b j0 j1 hR => zb_pushesUpTo_10_27_6 p0 p1 p2 S0 n hn G_S0 hp0 hp1 hp2 x4 x5 S a b j0 j1 _ rfl (fun x4 x5 S a b j0 j1 h => ih x4 x5 S a b j0 j1 (Nat.lt_of_lt_of_le h (Nat.le_of_lt_succ hR)))
theorem zc_pushesUpTo_10_27 {g : mm_G} {l : Launch} (p0 : Int) (p1 : Int) (p2 : Int) (S0 : zz_S) (n : Nat) (hn : zz_end ≤ n) (G_S0 : zz_G S0) (hp0 : (-2147483648) ≤ p0 ∧ p0 ≤ 2147483647) (hp1 : (-2147483648) ≤ p1 ∧ p1 ≤ 2147483647) (hp2 : (-2147483648) ≤ p2 ∧ p2 ≤ 2147483647) : mm_Met g l zy_pushesUpTo_10_27 zr_pushesUpTo_10_27 [.ref 1042, zi p0, zi p1, zi p2] (zz_M S0 n) n (zz_QI n (zp_pushesUpTo_10_27 p0 p1 p2 S0)) := by
  refine zz_enter (by decide) (Nat.le_of_ble_eq_true rfl) (zz_less (ls1 := [some (.ref 1042), some (zi p0), some (zi p1), some (zi p2)]) ⟨rfl, ⟨rfl, ⟨rfl, ⟨rfl, trivial⟩⟩⟩⟩ ?_)
  have F_S0 : zz_fr [] [] (fun _ _ => False) S0 S0 := zz_fr.refl
  have k6 : ∀ (x4 : Int) (x5 : Int) (S : zz_S), zz_G S → zz_fr [] [] (fun _ _ => False) S0 S → ((-2147483648) ≤ x4 ∧ x4 ≤ 2147483647) → (0 ≤ x5 ∧ x5 ≤ 600) → zz_E g l zy_pushesUpTo_10_27 zr_pushesUpTo_10_27 (zz_QI n (zp_pushesUpTo_10_27 p0 p1 p2 S0)) S n 6 [some (.ref 1042), some (zi p0), some (zi p1), some (zi p2), some (zi x4), some (zi x5)] [] 0 0 := fun x4 x5 S a b j0 j1 => (zi_pushesUpTo_10_27 (g := g) (l := l) p0 p1 p2 S0 n hn G_S0 hp0 hp1 hp2 _) x4 x5 S a b j0 j1 (Nat.lt_succ_self _)
  refine zz_iconst zd_10_27_0 ?_
  refine zz_istore [some (.ref 1042), some (zi p0), some (zi p1), some (zi p2), some (zi 0)] zd_10_27_1 (by decide) rfl ?_
  refine zz_iconst zd_10_27_3 ?_
  refine zz_istore [some (.ref 1042), some (zi p0), some (zi p1), some (zi p2), some (zi 0), some (zi 0)] zd_10_27_4 (by decide) rfl ?_
  have g1 := zz_G.r G_S0 1042 9 0 600 rfl rfl
  refine zz_less (ls1 := [some (.ref 1042), some (zi p0), some (zi p1), some (zi p2), some (zi 0), some (zi 0)]) ⟨rfl, ⟨rfl, ⟨rfl, ⟨rfl, ⟨rfl, ⟨rfl, trivial⟩⟩⟩⟩⟩⟩ ?_
  exact k6 0 0 S0 G_S0 F_S0 (by omega) (by omega)
theorem zk_Run_189 : mm_Vl "TensorForge$Run" 189 5 3 zy_pushesUpTo_10_27 := ⟨zyw_pushesUpTo_10_27, (R_Run, F_Run, 10), rfl, mm_tb_1 1574 (by decide +kernel) rfl, mm_tb_1 1576 (by decide +kernel) rfl, mm_tb_s 83 (by decide +kernel) rfl⟩
abbrev zy_popsUpTo_10_28 : mm_Y := (⟨"TensorForge$Run", "popsUpTo", "(III)I"⟩, prog_10_method_28_code, 6, (some .int))
theorem zyw_popsUpTo_10_28 : mm_Yw zy_popsUpTo_10_28 3 := ⟨mm_tb_1 1581 (by decide +kernel) rfl, mm_tb_1 6 (by decide +kernel) rfl, ⟨by decide, by decide⟩, by decide +kernel⟩
theorem zg_10_25_84 : (decode zy_missingAt_10_25.2.1 84 = .ok ((.aload_n 0), 1)) ∧ (decode zy_missingAt_10_25.2.1 85 = .ok ((.iload_n 1), 1)) ∧ (decode zy_missingAt_10_25.2.1 86 = .ok ((.iconst 2), 1)) ∧ (decode zy_missingAt_10_25.2.1 87 = .ok ((.iload_n 2), 1)) ∧ (decode zy_missingAt_10_25.2.1 88 = .ok ((.invokevirtual 193), 3)) := by decide +kernel
theorem zd_10_25_84 : zz_D zy_missingAt_10_25 84 (.aload_n 0) 1 85 := ⟨zg_10_25_84.1, rfl⟩
theorem zd_10_25_85 : zz_D zy_missingAt_10_25 85 (.iload_n 1) 1 86 := ⟨zg_10_25_84.2.1, rfl⟩
theorem zd_10_25_86 : zz_D zy_missingAt_10_25 86 (.iconst 2) 1 87 := ⟨zg_10_25_84.2.2.1, rfl⟩
theorem zd_10_25_87 : zz_D zy_missingAt_10_25 87 (.iload_n 2) 1 88 := ⟨zg_10_25_84.2.2.2.1, rfl⟩
theorem zd_10_25_88 : zz_D zy_missingAt_10_25 88 (.invokevirtual 193) 3 91 := ⟨zg_10_25_84.2.2.2.2, rfl⟩
theorem zg_10_28_0 : (decode zy_popsUpTo_10_28.2.1 0 = .ok ((.iconst 0), 1)) ∧ (decode zy_popsUpTo_10_28.2.1 1 = .ok ((.istore 4), 2)) ∧ (decode zy_popsUpTo_10_28.2.1 3 = .ok ((.iconst 0), 1)) ∧ (decode zy_popsUpTo_10_28.2.1 4 = .ok ((.istore 5), 2)) ∧ (decode zy_popsUpTo_10_28.2.1 6 = .ok ((.iload 5), 2)) ∧ (decode zy_popsUpTo_10_28.2.1 8 = .ok ((.aload_n 0), 1)) ∧ (decode zy_popsUpTo_10_28.2.1 9 = .ok ((.getfield 46), 3)) ∧ (decode zy_popsUpTo_10_28.2.1 12 = .ok ((Instr.if_icmp .ge) 49, 3)) ∧ (decode zy_popsUpTo_10_28.2.1 61 = .ok ((.iload 4), 2)) ∧ (decode zy_popsUpTo_10_28.2.1 63 = .ok ((.ireturn), 1)) := by decide +kernel
theorem zd_10_28_0 : zz_D zy_popsUpTo_10_28 0 (.iconst 0) 1 1 := ⟨zg_10_28_0.1, rfl⟩
theorem zd_10_28_1 : zz_D zy_popsUpTo_10_28 1 (.istore 4) 2 3 := ⟨zg_10_28_0.2.1, rfl⟩
theorem zd_10_28_3 : zz_D zy_popsUpTo_10_28 3 (.iconst 0) 1 4 := ⟨zg_10_28_0.2.2.1, rfl⟩
theorem zd_10_28_4 : zz_D zy_popsUpTo_10_28 4 (.istore 5) 2 6 := ⟨zg_10_28_0.2.2.2.1, rfl⟩
theorem zd_10_28_6 : zz_D zy_popsUpTo_10_28 6 (.iload 5) 2 8 := ⟨zg_10_28_0.2.2.2.2.1, rfl⟩
theorem zd_10_28_8 : zz_D zy_popsUpTo_10_28 8 (.aload_n 0) 1 9 := ⟨zg_10_28_0.2.2.2.2.2.1, rfl⟩
theorem zd_10_28_9 : zz_D zy_popsUpTo_10_28 9 (.getfield 46) 3 12 := ⟨zg_10_28_0.2.2.2.2.2.2.1, rfl⟩
theorem zd_10_28_12 : zz_B zy_popsUpTo_10_28 12 (Instr.if_icmp .ge) 61 15 := ⟨49, zg_10_28_0.2.2.2.2.2.2.2.1, rfl, rfl⟩
theorem zd_10_28_61 : zz_D zy_popsUpTo_10_28 61 (.iload 4) 2 63 := ⟨zg_10_28_0.2.2.2.2.2.2.2.2.1, rfl⟩
theorem zd_10_28_63 : zz_D zy_popsUpTo_10_28 63 (.ireturn) 1 64 := ⟨zg_10_28_0.2.2.2.2.2.2.2.2.2, rfl⟩
theorem zg_10_28_15 : (decode zy_popsUpTo_10_28.2.1 15 = .ok ((.aload_n 0), 1)) ∧ (decode zy_popsUpTo_10_28.2.1 16 = .ok ((.getfield 19), 3)) ∧ (decode zy_popsUpTo_10_28.2.1 19 = .ok ((.iload 5), 2)) ∧ (decode zy_popsUpTo_10_28.2.1 21 = .ok ((.laload), 1)) ∧ (decode zy_popsUpTo_10_28.2.1 22 = .ok ((.invokestatic 107), 3)) ∧ (decode zy_popsUpTo_10_28.2.1 25 = .ok ((.iload_n 1), 1)) ∧ (decode zy_popsUpTo_10_28.2.1 26 = .ok ((Instr.if_icmp .ne) 29, 3)) ∧ (decode zy_popsUpTo_10_28.2.1 55 = .ok ((.iinc 5 1), 3)) ∧ (decode zy_popsUpTo_10_28.2.1 58 = .ok (Instr.goto (-52), 3)) ∧ (decode zy_popsUpTo_10_28.2.1 29 = .ok ((.aload_n 0), 1)) := by decide +kernel
theorem zd_10_28_15 : zz_D zy_popsUpTo_10_28 15 (.aload_n 0) 1 16 := ⟨zg_10_28_15.1, rfl⟩
theorem zd_10_28_16 : zz_D zy_popsUpTo_10_28 16 (.getfield 19) 3 19 := ⟨zg_10_28_15.2.1, rfl⟩
theorem zd_10_28_19 : zz_D zy_popsUpTo_10_28 19 (.iload 5) 2 21 := ⟨zg_10_28_15.2.2.1, rfl⟩
theorem zd_10_28_21 : zz_D zy_popsUpTo_10_28 21 (.laload) 1 22 := ⟨zg_10_28_15.2.2.2.1, rfl⟩
theorem zd_10_28_22 : zz_D zy_popsUpTo_10_28 22 (.invokestatic 107) 3 25 := ⟨zg_10_28_15.2.2.2.2.1, rfl⟩
theorem zd_10_28_25 : zz_D zy_popsUpTo_10_28 25 (.iload_n 1) 1 26 := ⟨zg_10_28_15.2.2.2.2.2.1, rfl⟩
theorem zd_10_28_26 : zz_B zy_popsUpTo_10_28 26 (Instr.if_icmp .ne) 55 29 := ⟨29, zg_10_28_15.2.2.2.2.2.2.1, rfl, rfl⟩
theorem zd_10_28_55 : zz_D zy_popsUpTo_10_28 55 (.iinc 5 1) 3 58 := ⟨zg_10_28_15.2.2.2.2.2.2.2.1, rfl⟩
theorem zd_10_28_58 : zz_B zy_popsUpTo_10_28 58 Instr.goto 6 61 := ⟨(-52), zg_10_28_15.2.2.2.2.2.2.2.2.1, rfl, rfl⟩
theorem zd_10_28_29 : zz_D zy_popsUpTo_10_28 29 (.aload_n 0) 1 30 := ⟨zg_10_28_15.2.2.2.2.2.2.2.2.2, rfl⟩
theorem zg_10_28_30 : (decode zy_popsUpTo_10_28.2.1 30 = .ok ((.iload 5), 2)) ∧ (decode zy_popsUpTo_10_28.2.1 32 = .ok ((.iload_n 3), 1)) ∧ (decode zy_popsUpTo_10_28.2.1 33 = .ok ((.invokevirtual 176), 3)) ∧ (decode zy_popsUpTo_10_28.2.1 36 = .ok ((Instr.ifCond .eq) 19, 3)) ∧ (decode zy_popsUpTo_10_28.2.1 39 = .ok ((.iload 4), 2)) ∧ (decode zy_popsUpTo_10_28.2.1 41 = .ok ((.aload_n 0), 1)) ∧ (decode zy_popsUpTo_10_28.2.1 42 = .ok ((.getfield 19), 3)) ∧ (decode zy_popsUpTo_10_28.2.1 45 = .ok ((.iload 5), 2)) ∧ (decode zy_popsUpTo_10_28.2.1 47 = .ok ((.laload), 1)) ∧ (decode zy_popsUpTo_10_28.2.1 48 = .ok ((.iload_n 2), 1)) := by decide +kernel
theorem zd_10_28_30 : zz_D zy_popsUpTo_10_28 30 (.iload 5) 2 32 := ⟨zg_10_28_30.1, rfl⟩
theorem zd_10_28_32 : zz_D zy_popsUpTo_10_28 32 (.iload_n 3) 1 33 := ⟨zg_10_28_30.2.1, rfl⟩
theorem zd_10_28_33 : zz_D zy_popsUpTo_10_28 33 (.invokevirtual 176) 3 36 := ⟨zg_10_28_30.2.2.1, rfl⟩
theorem zd_10_28_36 : zz_B zy_popsUpTo_10_28 36 (Instr.ifCond .eq) 55 39 := ⟨19, zg_10_28_30.2.2.2.1, rfl, rfl⟩
theorem zd_10_28_39 : zz_D zy_popsUpTo_10_28 39 (.iload 4) 2 41 := ⟨zg_10_28_30.2.2.2.2.1, rfl⟩
theorem zd_10_28_41 : zz_D zy_popsUpTo_10_28 41 (.aload_n 0) 1 42 := ⟨zg_10_28_30.2.2.2.2.2.1, rfl⟩
theorem zd_10_28_42 : zz_D zy_popsUpTo_10_28 42 (.getfield 19) 3 45 := ⟨zg_10_28_30.2.2.2.2.2.2.1, rfl⟩
theorem zd_10_28_45 : zz_D zy_popsUpTo_10_28 45 (.iload 5) 2 47 := ⟨zg_10_28_30.2.2.2.2.2.2.2.1, rfl⟩
theorem zd_10_28_47 : zz_D zy_popsUpTo_10_28 47 (.laload) 1 48 := ⟨zg_10_28_30.2.2.2.2.2.2.2.2.1, rfl⟩
theorem zd_10_28_48 : zz_D zy_popsUpTo_10_28 48 (.iload_n 2) 1 49 := ⟨zg_10_28_30.2.2.2.2.2.2.2.2.2, rfl⟩
theorem zg_10_28_49 : (decode zy_popsUpTo_10_28.2.1 49 = .ok ((.invokestatic 163), 3)) ∧ (decode zy_popsUpTo_10_28.2.1 52 = .ok ((.iadd), 1)) ∧ (decode zy_popsUpTo_10_28.2.1 53 = .ok ((.istore 4), 2)) := by decide +kernel
theorem zd_10_28_49 : zz_D zy_popsUpTo_10_28 49 (.invokestatic 163) 3 52 := ⟨zg_10_28_49.1, rfl⟩
theorem zd_10_28_52 : zz_D zy_popsUpTo_10_28 52 (.iadd) 1 53 := ⟨zg_10_28_49.2.1, rfl⟩
theorem zd_10_28_53 : zz_D zy_popsUpTo_10_28 53 (.istore 4) 2 55 := ⟨zg_10_28_49.2.2, rfl⟩
-- TensorForge$Run popsUpTo (III)I
abbrev zr_popsUpTo_10_28 : Room := { frames := 2, cells := 0, slots := 0, locals := 28 }
def zp_popsUpTo_10_28 (p0 : Int) (p1 : Int) (p2 : Int) (S0 : zz_S) : Int → zz_S → Prop := fun r S => S0 = S ∧ ((-2147483648) ≤ r ∧ r ≤ 2147483647)
theorem zb_popsUpTo_10_28_6 {g : mm_G} {l : Launch} (p0 : Int) (p1 : Int) (p2 : Int) (S0 : zz_S) (n : Nat) (hn : zz_end ≤ n) (G_S0 : zz_G S0) (hp0 : (-2147483648) ≤ p0 ∧ p0 ≤ 2147483647) (hp1 : (-2147483648) ≤ p1 ∧ p1 ≤ 2147483647) (hp2 : (-2147483648) ≤ p2 ∧ p2 ≤ 2147483647) (x4 : Int) (x5 : Int) (S : zz_S) (G_S : zz_G S) (F_S : zz_fr [] [] (fun _ _ => False) S0 S) (i6_0 : (-2147483648) ≤ x4 ∧ x4 ≤ 2147483647) (i6_1 : 0 ≤ x5 ∧ x5 ≤ 600) (R : Nat) (hR : (S0 1042 9 - x5).toNat = R) (k6 : ∀ (x4 : Int) (x5 : Int) (S : zz_S), zz_G S → zz_fr [] [] (fun _ _ => False) S0 S → ((-2147483648) ≤ x4 ∧ x4 ≤ 2147483647) → (0 ≤ x5 ∧ x5 ≤ 600) → (S0 1042 9 - x5).toNat < R → zz_E g l zy_popsUpTo_10_28 zr_popsUpTo_10_28 (zz_QI n (zp_popsUpTo_10_28 p0 p1 p2 S0)) S n 6 [some (.ref 1042), some (zi p0), some (zi p1), some (zi p2), some (zi x4), some (zi x5)] [] 0 0) : zz_E g l zy_popsUpTo_10_28 zr_popsUpTo_10_28 (zz_QI n (zp_popsUpTo_10_28 p0 p1 p2 S0)) S n 6 [some (.ref 1042), some (zi p0), some (zi p1), some (zi p2), some (zi x4), some (zi x5)] [] 0 0 := by
  refine zz_iload (x := x5) rfl zd_10_28_6 ?_
  refine zz_aload_n (x := 1042) rfl zd_10_28_8 ?_
  have g2 := zz_G.r G_S0 1042 9 0 600 rfl rfl
  refine zz_geti (z := S0 1042 9) zd_10_28_9 zf_Run_46 zT_1042 rfl (zz_ltn hn rfl) (zz_rc F_S rfl rfl (fun h => h) rfl) ?_
  refine zz_icmp_ge (by omega) (by omega) zd_10_28_12 (fun c3 => ?_) (fun c3 => ?_)
  · refine zz_iload (x := x4) rfl zd_10_28_61 ?_
    exact zz_iret zd_10_28_63 rfl (Nat.zero_le _) (Nat.zero_le _) ⟨_, _, rfl, zz_fr.eq F_S, by omega⟩
  · refine zz_aload_n (x := 1042) rfl zd_10_28_15 ?_
    refine zz_getr (kd := 0) (z := 1044) zd_10_28_16 zf_Run_19 zT_1042 rfl (zz_ltn hn rfl) (zz_G.eq G_S 1042 2 1044 rfl rfl) (by decide) 1044 rfl ?_
    refine zz_iload (x := x5) rfl zd_10_28_19 ?_
    have g4 := zz_G.r G_S0 1044 x5.toNat (-9223372036854775808) 9223372036854775807 rfl rfl
    refine zz_lald (z := S0 1044 x5.toNat) zd_10_28_21 zT_1044 rfl (zz_ltn hn rfl) (by decide) (by omega) (zz_rc F_S (zz_nc1 rfl) rfl (fun h => h) rfl) ?_
    refine zz_callSI [zl (S0 1044 x5.toNat)] zd_10_28_22 zk_Run_107 rfl rfl ⟨Nat.le_of_ble_eq_true rfl, Nat.le_of_ble_eq_true rfl⟩ ⟨rfl, rfl⟩ (Nat.zero_le _) (Nat.zero_le _) (zc_unitOf_12_10 (S0 1044 x5.toNat) S n hn G_S (by omega)) (fun v6 S5 hP => ?_)
    obtain ⟨rfl, o7, o8⟩ := hP
    refine zz_iload_n (x := p0) rfl zd_10_28_25 ?_
    refine zz_icmp_ne (by omega) (by omega) zd_10_28_26 (fun c9 => ?_) (fun c9 => ?_)
    · refine zz_iinc [some (.ref 1042), some (zi p0), some (zi p1), some (zi p2), some (zi x4), some (zi (x5 + 1))] zd_10_28_55 rfl rfl ?_
      refine zz_goto zd_10_28_58 ?_
      refine zz_less (ls1 := [some (.ref 1042), some (zi p0), some (zi p1), some (zi p2), some (zi x4), some (zi (x5 + 1))]) ⟨rfl, ⟨rfl, ⟨rfl, ⟨rfl, ⟨rfl, ⟨rfl, trivial⟩⟩⟩⟩⟩⟩ ?_
      exact k6 x4 (x5 + 1) S G_S F_S (by omega) (by omega) (by omega)
    · refine zz_aload_n (x := 1042) rfl zd_10_28_29 ?_
      refine zz_iload (x := x5) rfl zd_10_28_30 ?_
      refine zz_iload_n (x := p2) rfl zd_10_28_32 ?_
      refine zz_callVI [zi x5, zi p2] zd_10_28_33 zk_Run_176 zT_1042 (zz_ltn hn rfl) rfl rfl ⟨Nat.le_of_ble_eq_true rfl, Nat.le_of_ble_eq_true rfl⟩ ⟨rfl, rfl⟩ (Nat.zero_le _) (Nat.zero_le _) (zc_hadBegun_10_22 x5 p2 S n hn G_S (by omega) (by omega)) (fun v11 S10 hP => ?_)
      obtain ⟨rfl, o12⟩ := hP
      rcases (by omega : v11 = 0 ∨ v11 = 1) with rfl | rfl
      · refine zz_if_eq (by omega) zd_10_28_36 (fun c13 => ?_) (fun c13 => ?_)
        · refine zz_iinc [some (.ref 1042), some (zi p0), some (zi p1), some (zi p2), some (zi x4), some (zi (x5 + 1))] zd_10_28_55 rfl rfl ?_
          refine zz_goto zd_10_28_58 ?_
          refine zz_less (ls1 := [some (.ref 1042), some (zi p0), some (zi p1), some (zi p2), some (zi x4), some (zi (x5 + 1))]) ⟨rfl, ⟨rfl, ⟨rfl, ⟨rfl, ⟨rfl, ⟨rfl, trivial⟩⟩⟩⟩⟩⟩ ?_
          exact k6 x4 (x5 + 1) S G_S F_S (by omega) (by omega) (by omega)
        · exfalso; omega
      · refine zz_if_eq (by omega) zd_10_28_36 (fun c14 => ?_) (fun c14 => ?_)
        · exfalso; omega
        · refine zz_iload (x := x4) rfl zd_10_28_39 ?_
          refine zz_aload_n (x := 1042) rfl zd_10_28_41 ?_
          refine zz_getr (kd := 0) (z := 1044) zd_10_28_42 zf_Run_19 zT_1042 rfl (zz_ltn hn rfl) (zz_G.eq G_S 1042 2 1044 rfl rfl) (by decide) 1044 rfl ?_
          refine zz_iload (x := x5) rfl zd_10_28_45 ?_
          refine zz_lald (z := S0 1044 x5.toNat) zd_10_28_47 zT_1044 rfl (zz_ltn hn rfl) (by decide) (by omega) (zz_rc F_S (zz_nc1 rfl) rfl (fun h => h) rfl) ?_
          refine zz_iload_n (x := p1) rfl zd_10_28_48 ?_
          refine zz_callSI [zl (S0 1044 x5.toNat), zi p1] zd_10_28_49 zk_Run_163 rfl rfl ⟨Nat.le_of_ble_eq_true rfl, Nat.le_of_ble_eq_true rfl⟩ ⟨rfl, rfl⟩ (Nat.zero_le _) (Nat.zero_le _) (zc_get_12_2 (S0 1044 x5.toNat) p1 S n hn G_S (by omega) (by omega)) (fun v16 S15 hP => ?_)
          obtain ⟨rfl, o17⟩ := hP
          refine zz_iadd zd_10_28_52 ?_
          refine zz_nrm (fun v18 hv18 ev18 => ?_)
          refine zz_istore [some (.ref 1042), some (zi p0), some (zi p1), some (zi p2), some (zi v18), some (zi x5)] zd_10_28_53 (by decide) rfl ?_
          refine zz_iinc [some (.ref 1042), some (zi p0), some (zi p1), some (zi p2), some (zi v18), some (zi (x5 + 1))] zd_10_28_55 rfl rfl ?_
          refine zz_goto zd_10_28_58 ?_
          refine zz_less (ls1 := [some (.ref 1042), some (zi p0), some (zi p1), some (zi p2), some (zi v18), some (zi (x5 + 1))]) ⟨rfl, ⟨rfl, ⟨rfl, ⟨rfl, ⟨rfl, ⟨rfl, trivial⟩⟩⟩⟩⟩⟩ ?_
          exact k6 v18 (x5 + 1) S G_S F_S (by omega) (by omega) (by omega)
theorem zi_popsUpTo_10_28 {g : mm_G} {l : Launch} (p0 : Int) (p1 : Int) (p2 : Int) (S0 : zz_S) (n : Nat) (hn : zz_end ≤ n) (G_S0 : zz_G S0) (hp0 : (-2147483648) ≤ p0 ∧ p0 ≤ 2147483647) (hp1 : (-2147483648) ≤ p1 ∧ p1 ≤ 2147483647) (hp2 : (-2147483648) ≤ p2 ∧ p2 ≤ 2147483647) : ∀ N : Nat, (∀ (x4 : Int) (x5 : Int) (S : zz_S), zz_G S → zz_fr [] [] (fun _ _ => False) S0 S → ((-2147483648) ≤ x4 ∧ x4 ≤ 2147483647) → (0 ≤ x5 ∧ x5 ≤ 600) → (S0 1042 9 - x5).toNat < N → zz_E g l zy_popsUpTo_10_28 zr_popsUpTo_10_28 (zz_QI n (zp_popsUpTo_10_28 p0 p1 p2 S0)) S n 6 [some (.ref 1042), some (zi p0), some (zi p1), some (zi p2), some (zi x4), some (zi x5)] [] 0 0) := by
  intro N
  induction N with
  | zero => exact fun x4 x5 S _ _ _ _ h => absurd h (Nat.not_lt_zero _)
  | succ N ih =>
    exact fun x4 x5 S a b j0 j1 hR => zb_popsUpTo_10_28_6 p0 p1 p2 S0 n hn G_S0 hp0 hp1 hp2 x4 x5 S a b j0 j1 _ rfl (fun x4 x5 S a b j0 j1 h => ih x4 x5 S a b j0 j1 (Nat.lt_of_lt_of_le h (Nat.le_of_lt_succ hR)))
theorem zc_popsUpTo_10_28 {g : mm_G} {l : Launch} (p0 : Int) (p1 : Int) (p2 : Int) (S0 : zz_S) (n : Nat) (hn : zz_end ≤ n) (G_S0 : zz_G S0) (hp0 : (-2147483648) ≤ p0 ∧ p0 ≤ 2147483647) (hp1 : (-2147483648) ≤ p1 ∧ p1 ≤ 2147483647) (hp2 : (-2147483648) ≤ p2 ∧ p2 ≤ 2147483647) : mm_Met g l zy_popsUpTo_10_28 zr_popsUpTo_10_28 [.ref 1042, zi p0, zi p1, zi p2] (zz_M S0 n) n (zz_QI n (zp_popsUpTo_10_28 p0 p1 p2 S0)) := by
  refine zz_enter (by decide) (Nat.le_of_ble_eq_true rfl) (zz_less (ls1 := [some (.ref 1042), some (zi p0), some (zi p1), some (zi p2)]) ⟨rfl, ⟨rfl, ⟨rfl, ⟨rfl, trivial⟩⟩⟩⟩ ?_)
  have F_S0 : zz_fr [] [] (fun _ _ => False) S0 S0 := zz_fr.refl
  have k6 : ∀ (x4 : Int) (x5 : Int) (S : zz_S), zz_G S → zz_fr [] [] (fun _ _ => False) S0 S → ((-2147483648) ≤ x4 ∧ x4 ≤ 2147483647) → (0 ≤ x5 ∧ x5 ≤ 600) → zz_E g l zy_popsUpTo_10_28 zr_popsUpTo_10_28 (zz_QI n (zp_popsUpTo_10_28 p0 p1 p2 S0)) S n 6 [some (.ref 1042), some (zi p0), some (zi p1), some (zi p2), some (zi x4), some (zi x5)] [] 0 0 := fun x4 x5 S a b j0 j1 => (zi_popsUpTo_10_28 (g := g) (l := l) p0 p1 p2 S0 n hn G_S0 hp0 hp1 hp2 _) x4 x5 S a b j0 j1 (Nat.lt_succ_self _)
  refine zz_iconst zd_10_28_0 ?_
  refine zz_istore [some (.ref 1042), some (zi p0), some (zi p1), some (zi p2), some (zi 0)] zd_10_28_1 (by decide) rfl ?_
  refine zz_iconst zd_10_28_3 ?_
  refine zz_istore [some (.ref 1042), some (zi p0), some (zi p1), some (zi p2), some (zi 0), some (zi 0)] zd_10_28_4 (by decide) rfl ?_
  have g1 := zz_G.r G_S0 1042 9 0 600 rfl rfl
  refine zz_less (ls1 := [some (.ref 1042), some (zi p0), some (zi p1), some (zi p2), some (zi 0), some (zi 0)]) ⟨rfl, ⟨rfl, ⟨rfl, ⟨rfl, ⟨rfl, ⟨rfl, trivial⟩⟩⟩⟩⟩⟩ ?_
  exact k6 0 0 S0 G_S0 F_S0 (by omega) (by omega)
theorem zk_Run_193 : mm_Vl "TensorForge$Run" 193 5 3 zy_popsUpTo_10_28 := ⟨zyw_popsUpTo_10_28, (R_Run, F_Run, 10), rfl, mm_tb_1 1578 (by decide +kernel) rfl, mm_tb_1 1580 (by decide +kernel) rfl, mm_tb_s 84 (by decide +kernel) rfl⟩
theorem zg_10_25_91 : (decode zy_missingAt_10_25.2.1 91 = .ok ((Instr.if_icmp .gt) 6, 3)) ∧ (decode zy_missingAt_10_25.2.1 94 = .ok ((.iinc 4 2), 3)) ∧ (decode zy_missingAt_10_25.2.1 40 = .ok ((.aload_n 0), 1)) ∧ (decode zy_missingAt_10_25.2.1 41 = .ok ((.iload_n 1), 1)) ∧ (decode zy_missingAt_10_25.2.1 42 = .ok ((.iconst 1), 1)) ∧ (decode zy_missingAt_10_25.2.1 43 = .ok ((.isub), 1)) ∧ (decode zy_missingAt_10_25.2.1 44 = .ok ((.iconst 4), 1)) ∧ (decode zy_missingAt_10_25.2.1 45 = .ok ((.iload_n 2), 1)) ∧ (decode zy_missingAt_10_25.2.1 46 = .ok ((.invokevirtual 189), 3)) ∧ (decode zy_missingAt_10_25.2.1 49 = .ok ((.aload_n 0), 1)) := by decide +kernel
theorem zd_10_25_91 : zz_B zy_missingAt_10_25 91 (Instr.if_icmp .gt) 97 94 := ⟨6, zg_10_25_91.1, rfl, rfl⟩
theorem zd_10_25_94 : zz_D zy_missingAt_10_25 94 (.iinc 4 2) 3 97 := ⟨zg_10_25_91.2.1, rfl⟩
theorem zd_10_25_40 : zz_D zy_missingAt_10_25 40 (.aload_n 0) 1 41 := ⟨zg_10_25_91.2.2.1, rfl⟩
theorem zd_10_25_41 : zz_D zy_missingAt_10_25 41 (.iload_n 1) 1 42 := ⟨zg_10_25_91.2.2.2.1, rfl⟩
theorem zd_10_25_42 : zz_D zy_missingAt_10_25 42 (.iconst 1) 1 43 := ⟨zg_10_25_91.2.2.2.2.1, rfl⟩
theorem zd_10_25_43 : zz_D zy_missingAt_10_25 43 (.isub) 1 44 := ⟨zg_10_25_91.2.2.2.2.2.1, rfl⟩
theorem zd_10_25_44 : zz_D zy_missingAt_10_25 44 (.iconst 4) 1 45 := ⟨zg_10_25_91.2.2.2.2.2.2.1, rfl⟩
theorem zd_10_25_45 : zz_D zy_missingAt_10_25 45 (.iload_n 2) 1 46 := ⟨zg_10_25_91.2.2.2.2.2.2.2.1, rfl⟩
theorem zd_10_25_46 : zz_D zy_missingAt_10_25 46 (.invokevirtual 189) 3 49 := ⟨zg_10_25_91.2.2.2.2.2.2.2.2.1, rfl⟩
theorem zd_10_25_49 : zz_D zy_missingAt_10_25 49 (.aload_n 0) 1 50 := ⟨zg_10_25_91.2.2.2.2.2.2.2.2.2, rfl⟩
theorem zg_10_25_50 : (decode zy_missingAt_10_25.2.1 50 = .ok ((.iload_n 1), 1)) ∧ (decode zy_missingAt_10_25.2.1 51 = .ok ((.iconst 1), 1)) ∧ (decode zy_missingAt_10_25.2.1 52 = .ok ((.iload_n 2), 1)) ∧ (decode zy_missingAt_10_25.2.1 53 = .ok ((.invokevirtual 193), 3)) ∧ (decode zy_missingAt_10_25.2.1 56 = .ok ((Instr.if_icmp .gt) 6, 3)) ∧ (decode zy_missingAt_10_25.2.1 59 = .ok ((.iinc 4 1), 3)) := by decide +kernel
theorem zd_10_25_50 : zz_D zy_missingAt_10_25 50 (.iload_n 1) 1 51 := ⟨zg_10_25_50.1, rfl⟩
theorem zd_10_25_51 : zz_D zy_missingAt_10_25 51 (.iconst 1) 1 52 := ⟨zg_10_25_50.2.1, rfl⟩
theorem zd_10_25_52 : zz_D zy_missingAt_10_25 52 (.iload_n 2) 1 53 := ⟨zg_10_25_50.2.2.1, rfl⟩
theorem zd_10_25_53 : zz_D zy_missingAt_10_25 53 (.invokevirtual 193) 3 56 := ⟨zg_10_25_50.2.2.2.1, rfl⟩
theorem zd_10_25_56 : zz_B zy_missingAt_10_25 56 (Instr.if_icmp .gt) 62 59 := ⟨6, zg_10_25_50.2.2.2.2.1, rfl, rfl⟩
theorem zd_10_25_59 : zz_D zy_missingAt_10_25 59 (.iinc 4 1) 3 62 := ⟨zg_10_25_50.2.2.2.2.2, rfl⟩
-- TensorForge$Run missingAt (II)I
abbrev zr_missingAt_10_25 : Room := { frames := 3, cells := 0, slots := 0, locals := 46 }
def zp_missingAt_10_25 (p0 : Int) (p1 : Int) (S0 : zz_S) : Int → zz_S → Prop := fun r S => S0 = S ∧ ((-2147483648) ≤ r ∧ r ≤ 2147483647)
theorem zc_missingAt_10_25 {g : mm_G} {l : Launch} (p0 : Int) (p1 : Int) (S0 : zz_S) (n : Nat) (hn : zz_end ≤ n) (G_S0 : zz_G S0) (hp0 : (-2147483648) ≤ p0 ∧ p0 ≤ 2147483647) (hp1 : (-2147483648) ≤ p1 ∧ p1 ≤ 2147483647) : mm_Met g l zy_missingAt_10_25 zr_missingAt_10_25 [.ref 1042, zi p0, zi p1] (zz_M S0 n) n (zz_QI n (zp_missingAt_10_25 p0 p1 S0)) := by
  refine zz_enter (by decide) (Nat.le_of_ble_eq_true rfl) (zz_less (ls1 := [some (.ref 1042), some (zi p0), some (zi p1)]) ⟨rfl, ⟨rfl, ⟨rfl, trivial⟩⟩⟩ ?_)
  refine zz_aload_n (x := 1042) rfl zd_10_25_0 ?_
  refine zz_iload_n (x := p0) rfl zd_10_25_1 ?_
  refine zz_iload_n (x := p1) rfl zd_10_25_2 ?_
  refine zz_callVI [zi p0, zi p1] zd_10_25_3 zk_Run_183 zT_1042 (zz_ltn hn rfl) rfl rfl ⟨Nat.le_of_ble_eq_true rfl, Nat.le_of_ble_eq_true rfl⟩ ⟨rfl, rfl⟩ (Nat.zero_le _) (Nat.zero_le _) (zc_firstNotBegun_10_26 p0 p1 S0 n hn G_S0 (by omega) (by omega)) (fun v2 S1 hP => ?_)
  obtain ⟨rfl, o3⟩ := hP
  refine zz_istore_n [some (.ref 1042), some (zi p0), some (zi p1), some (zi v2)] zd_10_25_6 (by decide) rfl ?_
  refine zz_iload_n (x := v2) rfl zd_10_25_7 ?_
  refine zz_iconst zd_10_25_8 ?_
  refine zz_icmp_eq (by omega) (by omega) zd_10_25_9 (fun c4 => ?_) (fun c4 => ?_)
  · refine zz_iconst zd_10_25_22 ?_
    exact zz_iret zd_10_25_23 rfl (Nat.zero_le _) (Nat.zero_le _) ⟨_, _, rfl, rfl, by omega⟩
  · refine zz_aload_n (x := 1042) rfl zd_10_25_12 ?_
    refine zz_iload_n (x := p0) rfl zd_10_25_13 ?_
    refine zz_iload_n (x := p1) rfl zd_10_25_14 ?_
    refine zz_callVI [zi p0, zi p1] zd_10_25_15 zk_Run_186 zT_1042 (zz_ltn hn rfl) rfl rfl ⟨Nat.le_of_ble_eq_true rfl, Nat.le_of_ble_eq_true rfl⟩ ⟨rfl, rfl⟩ (Nat.zero_le _) (Nat.zero_le _) (zc_underWayAt_10_24 p0 p1 S0 n hn G_S0 (by omega) (by omega)) (fun v6 S5 hP => ?_)
    obtain ⟨rfl, o7⟩ := hP
    refine zz_iconst zd_10_25_18 ?_
    refine zz_icmp_eq (by omega) (by omega) zd_10_25_19 (fun c8 => ?_) (fun c8 => ?_)
    · refine zz_iconst zd_10_25_24 ?_
      refine zz_istore [some (.ref 1042), some (zi p0), some (zi p1), some (zi v2), some (zi 0)] zd_10_25_25 (by decide) rfl ?_
      refine zz_aload_n (x := 1042) rfl zd_10_25_27 ?_
      refine zz_getr (kd := 0) (z := 1044) zd_10_25_28 zf_Run_19 zT_1042 rfl (zz_ltn hn rfl) (zz_G.eq G_S0 1042 2 1044 rfl rfl) (by decide) 1044 rfl ?_
      refine zz_iload_n (x := v2) rfl zd_10_25_31 ?_
      have g9 := zz_G.r G_S0 1044 v2.toNat (-9223372036854775808) 9223372036854775807 rfl rfl
      refine zz_lald (z := S0 1044 v2.toNat) zd_10_25_32 zT_1044 rfl (zz_ltn hn rfl) (by decide) (by omega) rfl ?_
      refine zz_iconst zd_10_25_33 ?_
      refine zz_callSI [zl (S0 1044 v2.toNat), zi 1] zd_10_25_34 zk_Run_150 rfl rfl ⟨Nat.le_of_ble_eq_true rfl, Nat.le_of_ble_eq_true rfl⟩ ⟨rfl, rfl⟩ (Nat.zero_le _) (Nat.zero_le _) (zc_has_12_3x_1 (S0 1044 v2.toNat) S0 n hn G_S0 (by omega)) (fun v11 S10 hP => ?_)
      obtain ⟨rfl, o12, o13⟩ := hP
      rcases (by omega : v11 = 0 ∨ v11 = 1) with rfl | rfl
      · refine zz_if_eq (by omega) zd_10_25_37 (fun c14 => ?_) (fun c14 => ?_)
        · refine zz_aload_n (x := 1042) rfl zd_10_25_62 ?_
          refine zz_getr (kd := 0) (z := 1044) zd_10_25_63 zf_Run_19 zT_1042 rfl (zz_ltn hn rfl) (zz_G.eq G_S0 1042 2 1044 rfl rfl) (by decide) 1044 rfl ?_
          refine zz_iload_n (x := v2) rfl zd_10_25_66 ?_
          refine zz_lald (z := S0 1044 v2.toNat) zd_10_25_67 zT_1044 rfl (zz_ltn hn rfl) (by decide) (by omega) rfl ?_
          refine zz_iconst zd_10_25_68 ?_
          refine zz_callSI [zl (S0 1044 v2.toNat), zi 2] zd_10_25_69 zk_Run_150 rfl rfl ⟨Nat.le_of_ble_eq_true rfl, Nat.le_of_ble_eq_true rfl⟩ ⟨rfl, rfl⟩ (Nat.zero_le _) (Nat.zero_le _) (zc_has_12_3x_2 (S0 1044 v2.toNat) S0 n hn G_S0 (by omega)) (fun v16 S15 hP => ?_)
          obtain ⟨rfl, o17, o18⟩ := hP
          rcases (by omega : v16 = 0 ∨ v16 = 1) with rfl | rfl
          · refine zz_if_eq (by omega) zd_10_25_72 (fun c19 => ?_) (fun c19 => ?_)
            · refine zz_iload (x := 0) rfl zd_10_25_97 ?_
              exact zz_iret zd_10_25_99 rfl (Nat.zero_le _) (Nat.zero_le _) ⟨_, _, rfl, rfl, by omega⟩
            · exfalso; omega
          · refine zz_if_eq (by omega) zd_10_25_72 (fun c20 => ?_) (fun c20 => ?_)
            · exfalso; omega
            · refine zz_aload_n (x := 1042) rfl zd_10_25_75 ?_
              refine zz_iload_n (x := p0) rfl zd_10_25_76 ?_
              refine zz_iconst zd_10_25_77 ?_
              refine zz_iadd zd_10_25_78 ?_
              refine zz_nrm (fun v21 hv21 ev21 => ?_)
              refine zz_iconst zd_10_25_79 ?_
              refine zz_iload_n (x := p1) rfl zd_10_25_80 ?_
              refine zz_callVI [zi v21, zi 3, zi p1] zd_10_25_81 zk_Run_189 zT_1042 (zz_ltn hn rfl) rfl rfl ⟨Nat.le_of_ble_eq_true rfl, Nat.le_of_ble_eq_true rfl⟩ ⟨rfl, rfl⟩ (Nat.zero_le _) (Nat.zero_le _) (zc_pushesUpTo_10_27 v21 3 p1 S0 n hn G_S0 (by omega) (by omega) (by omega)) (fun v23 S22 hP => ?_)
              obtain ⟨rfl, o24⟩ := hP
              refine zz_aload_n (x := 1042) rfl zd_10_25_84 ?_
              refine zz_iload_n (x := p0) rfl zd_10_25_85 ?_
              refine zz_iconst zd_10_25_86 ?_
              refine zz_iload_n (x := p1) rfl zd_10_25_87 ?_
              refine zz_callVI [zi p0, zi 2, zi p1] zd_10_25_88 zk_Run_193 zT_1042 (zz_ltn hn rfl) rfl rfl ⟨Nat.le_of_ble_eq_true rfl, Nat.le_of_ble_eq_true rfl⟩ ⟨rfl, rfl⟩ (Nat.zero_le _) (Nat.zero_le _) (zc_popsUpTo_10_28 p0 2 p1 S0 n hn G_S0 (by omega) (by omega) (by omega)) (fun v26 S25 hP => ?_)
              obtain ⟨rfl, o27⟩ := hP
              refine zz_icmp_gt (by omega) (by omega) zd_10_25_91 (fun c28 => ?_) (fun c28 => ?_)
              · refine zz_iload (x := 0) rfl zd_10_25_97 ?_
                exact zz_iret zd_10_25_99 rfl (Nat.zero_le _) (Nat.zero_le _) ⟨_, _, rfl, rfl, by omega⟩
              · refine zz_iinc [some (.ref 1042), some (zi p0), some (zi p1), some (zi v2), some (zi (0 + 2))] zd_10_25_94 rfl rfl ?_
                refine zz_iload (x := 0 + 2) rfl zd_10_25_97 ?_
                exact zz_iret zd_10_25_99 rfl (Nat.zero_le _) (Nat.zero_le _) ⟨_, _, rfl, rfl, by omega⟩
        · exfalso; omega
      · refine zz_if_eq (by omega) zd_10_25_37 (fun c29 => ?_) (fun c29 => ?_)
        · exfalso; omega
        · refine zz_aload_n (x := 1042) rfl zd_10_25_40 ?_
          refine zz_iload_n (x := p0) rfl zd_10_25_41 ?_
          refine zz_iconst zd_10_25_42 ?_
          refine zz_isub zd_10_25_43 ?_
          refine zz_nrm (fun v30 hv30 ev30 => ?_)
          refine zz_iconst zd_10_25_44 ?_
          refine zz_iload_n (x := p1) rfl zd_10_25_45 ?_
          refine zz_callVI [zi v30, zi 4, zi p1] zd_10_25_46 zk_Run_189 zT_1042 (zz_ltn hn rfl) rfl rfl ⟨Nat.le_of_ble_eq_true rfl, Nat.le_of_ble_eq_true rfl⟩ ⟨rfl, rfl⟩ (Nat.zero_le _) (Nat.zero_le _) (zc_pushesUpTo_10_27 v30 4 p1 S0 n hn G_S0 (by omega) (by omega) (by omega)) (fun v32 S31 hP => ?_)
          obtain ⟨rfl, o33⟩ := hP
          refine zz_aload_n (x := 1042) rfl zd_10_25_49 ?_
          refine zz_iload_n (x := p0) rfl zd_10_25_50 ?_
          refine zz_iconst zd_10_25_51 ?_
          refine zz_iload_n (x := p1) rfl zd_10_25_52 ?_
          refine zz_callVI [zi p0, zi 1, zi p1] zd_10_25_53 zk_Run_193 zT_1042 (zz_ltn hn rfl) rfl rfl ⟨Nat.le_of_ble_eq_true rfl, Nat.le_of_ble_eq_true rfl⟩ ⟨rfl, rfl⟩ (Nat.zero_le _) (Nat.zero_le _) (zc_popsUpTo_10_28 p0 1 p1 S0 n hn G_S0 (by omega) (by omega) (by omega)) (fun v35 S34 hP => ?_)
          obtain ⟨rfl, o36⟩ := hP
          refine zz_icmp_gt (by omega) (by omega) zd_10_25_56 (fun c37 => ?_) (fun c37 => ?_)
          · refine zz_aload_n (x := 1042) rfl zd_10_25_62 ?_
            refine zz_getr (kd := 0) (z := 1044) zd_10_25_63 zf_Run_19 zT_1042 rfl (zz_ltn hn rfl) (zz_G.eq G_S0 1042 2 1044 rfl rfl) (by decide) 1044 rfl ?_
            refine zz_iload_n (x := v2) rfl zd_10_25_66 ?_
            refine zz_lald (z := S0 1044 v2.toNat) zd_10_25_67 zT_1044 rfl (zz_ltn hn rfl) (by decide) (by omega) rfl ?_
            refine zz_iconst zd_10_25_68 ?_
            refine zz_callSI [zl (S0 1044 v2.toNat), zi 2] zd_10_25_69 zk_Run_150 rfl rfl ⟨Nat.le_of_ble_eq_true rfl, Nat.le_of_ble_eq_true rfl⟩ ⟨rfl, rfl⟩ (Nat.zero_le _) (Nat.zero_le _) (zc_has_12_3x_2 (S0 1044 v2.toNat) S0 n hn G_S0 (by omega)) (fun v39 S38 hP => ?_)
            obtain ⟨rfl, o40, o41⟩ := hP
            rcases (by omega : v39 = 0 ∨ v39 = 1) with rfl | rfl
            · refine zz_if_eq (by omega) zd_10_25_72 (fun c42 => ?_) (fun c42 => ?_)
              · refine zz_iload (x := 0) rfl zd_10_25_97 ?_
                exact zz_iret zd_10_25_99 rfl (Nat.zero_le _) (Nat.zero_le _) ⟨_, _, rfl, rfl, by omega⟩
              · exfalso; omega
            · refine zz_if_eq (by omega) zd_10_25_72 (fun c43 => ?_) (fun c43 => ?_)
              · exfalso; omega
              · refine zz_aload_n (x := 1042) rfl zd_10_25_75 ?_
                refine zz_iload_n (x := p0) rfl zd_10_25_76 ?_
                refine zz_iconst zd_10_25_77 ?_
                refine zz_iadd zd_10_25_78 ?_
                refine zz_nrm (fun v44 hv44 ev44 => ?_)
                refine zz_iconst zd_10_25_79 ?_
                refine zz_iload_n (x := p1) rfl zd_10_25_80 ?_
                refine zz_callVI [zi v44, zi 3, zi p1] zd_10_25_81 zk_Run_189 zT_1042 (zz_ltn hn rfl) rfl rfl ⟨Nat.le_of_ble_eq_true rfl, Nat.le_of_ble_eq_true rfl⟩ ⟨rfl, rfl⟩ (Nat.zero_le _) (Nat.zero_le _) (zc_pushesUpTo_10_27 v44 3 p1 S0 n hn G_S0 (by omega) (by omega) (by omega)) (fun v46 S45 hP => ?_)
                obtain ⟨rfl, o47⟩ := hP
                refine zz_aload_n (x := 1042) rfl zd_10_25_84 ?_
                refine zz_iload_n (x := p0) rfl zd_10_25_85 ?_
                refine zz_iconst zd_10_25_86 ?_
                refine zz_iload_n (x := p1) rfl zd_10_25_87 ?_
                refine zz_callVI [zi p0, zi 2, zi p1] zd_10_25_88 zk_Run_193 zT_1042 (zz_ltn hn rfl) rfl rfl ⟨Nat.le_of_ble_eq_true rfl, Nat.le_of_ble_eq_true rfl⟩ ⟨rfl, rfl⟩ (Nat.zero_le _) (Nat.zero_le _) (zc_popsUpTo_10_28 p0 2 p1 S0 n hn G_S0 (by omega) (by omega) (by omega)) (fun v49 S48 hP => ?_)
                obtain ⟨rfl, o50⟩ := hP
                refine zz_icmp_gt (by omega) (by omega) zd_10_25_91 (fun c51 => ?_) (fun c51 => ?_)
                · refine zz_iload (x := 0) rfl zd_10_25_97 ?_
                  exact zz_iret zd_10_25_99 rfl (Nat.zero_le _) (Nat.zero_le _) ⟨_, _, rfl, rfl, by omega⟩
                · refine zz_iinc [some (.ref 1042), some (zi p0), some (zi p1), some (zi v2), some (zi (0 + 2))] zd_10_25_94 rfl rfl ?_
                  refine zz_iload (x := 0 + 2) rfl zd_10_25_97 ?_
                  exact zz_iret zd_10_25_99 rfl (Nat.zero_le _) (Nat.zero_le _) ⟨_, _, rfl, rfl, by omega⟩
          · refine zz_iinc [some (.ref 1042), some (zi p0), some (zi p1), some (zi v2), some (zi (0 + 1))] zd_10_25_59 rfl rfl ?_
            refine zz_aload_n (x := 1042) rfl zd_10_25_62 ?_
            refine zz_getr (kd := 0) (z := 1044) zd_10_25_63 zf_Run_19 zT_1042 rfl (zz_ltn hn rfl) (zz_G.eq G_S0 1042 2 1044 rfl rfl) (by decide) 1044 rfl ?_
            refine zz_iload_n (x := v2) rfl zd_10_25_66 ?_
            refine zz_lald (z := S0 1044 v2.toNat) zd_10_25_67 zT_1044 rfl (zz_ltn hn rfl) (by decide) (by omega) rfl ?_
            refine zz_iconst zd_10_25_68 ?_
            refine zz_callSI [zl (S0 1044 v2.toNat), zi 2] zd_10_25_69 zk_Run_150 rfl rfl ⟨Nat.le_of_ble_eq_true rfl, Nat.le_of_ble_eq_true rfl⟩ ⟨rfl, rfl⟩ (Nat.zero_le _) (Nat.zero_le _) (zc_has_12_3x_2 (S0 1044 v2.toNat) S0 n hn G_S0 (by omega)) (fun v53 S52 hP => ?_)
            obtain ⟨rfl, o54, o55⟩ := hP
            rcases (by omega : v53 = 0 ∨ v53 = 1) with rfl | rfl
            · refine zz_if_eq (by omega) zd_10_25_72 (fun c56 => ?_) (fun c56 => ?_)
              · refine zz_iload (x := 0 + 1) rfl zd_10_25_97 ?_
                exact zz_iret zd_10_25_99 rfl (Nat.zero_le _) (Nat.zero_le _) ⟨_, _, rfl, rfl, by omega⟩
              · exfalso; omega
            · refine zz_if_eq (by omega) zd_10_25_72 (fun c57 => ?_) (fun c57 => ?_)
              · exfalso; omega
              · refine zz_aload_n (x := 1042) rfl zd_10_25_75 ?_
                refine zz_iload_n (x := p0) rfl zd_10_25_76 ?_
                refine zz_iconst zd_10_25_77 ?_
                refine zz_iadd zd_10_25_78 ?_
                refine zz_nrm (fun v58 hv58 ev58 => ?_)
                refine zz_iconst zd_10_25_79 ?_
                refine zz_iload_n (x := p1) rfl zd_10_25_80 ?_
                refine zz_callVI [zi v58, zi 3, zi p1] zd_10_25_81 zk_Run_189 zT_1042 (zz_ltn hn rfl) rfl rfl ⟨Nat.le_of_ble_eq_true rfl, Nat.le_of_ble_eq_true rfl⟩ ⟨rfl, rfl⟩ (Nat.zero_le _) (Nat.zero_le _) (zc_pushesUpTo_10_27 v58 3 p1 S0 n hn G_S0 (by omega) (by omega) (by omega)) (fun v60 S59 hP => ?_)
                obtain ⟨rfl, o61⟩ := hP
                refine zz_aload_n (x := 1042) rfl zd_10_25_84 ?_
                refine zz_iload_n (x := p0) rfl zd_10_25_85 ?_
                refine zz_iconst zd_10_25_86 ?_
                refine zz_iload_n (x := p1) rfl zd_10_25_87 ?_
                refine zz_callVI [zi p0, zi 2, zi p1] zd_10_25_88 zk_Run_193 zT_1042 (zz_ltn hn rfl) rfl rfl ⟨Nat.le_of_ble_eq_true rfl, Nat.le_of_ble_eq_true rfl⟩ ⟨rfl, rfl⟩ (Nat.zero_le _) (Nat.zero_le _) (zc_popsUpTo_10_28 p0 2 p1 S0 n hn G_S0 (by omega) (by omega) (by omega)) (fun v63 S62 hP => ?_)
                obtain ⟨rfl, o64⟩ := hP
                refine zz_icmp_gt (by omega) (by omega) zd_10_25_91 (fun c65 => ?_) (fun c65 => ?_)
                · refine zz_iload (x := 0 + 1) rfl zd_10_25_97 ?_
                  exact zz_iret zd_10_25_99 rfl (Nat.zero_le _) (Nat.zero_le _) ⟨_, _, rfl, rfl, by omega⟩
                · refine zz_iinc [some (.ref 1042), some (zi p0), some (zi p1), some (zi v2), some (zi (0 + 1 + 2))] zd_10_25_94 rfl rfl ?_
                  refine zz_iload (x := 0 + 1 + 2) rfl zd_10_25_97 ?_
                  exact zz_iret zd_10_25_99 rfl (Nat.zero_le _) (Nat.zero_le _) ⟨_, _, rfl, rfl, by omega⟩
    · refine zz_iconst zd_10_25_22 ?_
      exact zz_iret zd_10_25_23 rfl (Nat.zero_le _) (Nat.zero_le _) ⟨_, _, rfl, rfl, by omega⟩
theorem zk_TF_323 : mm_Vl "TensorForge" 323 5 2 zy_missingAt_10_25 := ⟨zyw_missingAt_10_25, (R_Run, F_Run, 10), rfl, mm_tb_1 1565 (by decide +kernel) rfl, mm_tb_1 1566 (by decide +kernel) rfl, mm_tb_1 1567 (by decide +kernel) rfl⟩
theorem zd_1_29_19 : zz_D zy_waits_1_29 19 (.ireturn) 1 20 := ⟨by decide +kernel, rfl⟩
-- TensorForge waits (II)I
abbrev zr_waits_1_29 : Room := { frames := 7, cells := 2, slots := 12, locals := 96 }
def zp_waits_1_29 (p0 : Int) (p1 : Int) (S0 : zz_S) : Int → zz_S → Prop := fun r S => S0 = S ∧ ((-2147483648) ≤ r ∧ r ≤ 2147483647)
def zx_waits_1_29 (p0 : Int) (p1 : Int) (S0 : zz_S) : Nat → zz_S → Prop := fun i S => S0 = S ∧ (i < 4) ∧ (i = 0 ∨ i = 3)
theorem zc_waits_1_29 {g : mm_G} {l : Launch} (p0 : Int) (p1 : Int) (S0 : zz_S) (n : Nat) (hn : zz_end ≤ n) (hfl : l.flags = flags0) (G_S0 : zz_G S0) (hp0 : (-2147483648) ≤ p0 ∧ p0 ≤ 2147483647) (hp1 : (-2147483648) ≤ p1 ∧ p1 ≤ 2147483647) : mm_Met g l zy_waits_1_29 zr_waits_1_29 [.ref 1000, zi p0, zi p1] (zz_M S0 n) n (zz_XI n (zp_waits_1_29 p0 p1 S0) (zx_waits_1_29 p0 p1 S0)) := by
  refine zz_enter (by decide) (Nat.le_of_ble_eq_true rfl) (zz_less (ls1 := [some (.ref 1000), some (zi p0), some (zi p1)]) ⟨rfl, ⟨rfl, ⟨rfl, trivial⟩⟩⟩ ?_)
  refine zz_aload_n (x := 1000) rfl zd_1_29_0 ?_
  refine zz_callVXV [] zd_1_29_1 zk_TF_191 zT_1000 (zz_ltn hn rfl) rfl rfl ⟨Nat.le_of_ble_eq_true rfl, Nat.le_of_ble_eq_true rfl⟩ (Nat.le_of_ble_eq_true rfl) (Nat.le_of_ble_eq_true rfl) (zc_needRun_1_32  S0 n hn hfl G_S0 ) zyw_waits_1_29 (fun i SX hX => by obtain ⟨rfl, x0, x1⟩ := hX; exact Or.inr ⟨_, _, rfl, rfl, by omega, by omega⟩) (fun S3 hP => ?_)
  obtain ⟨rfl⟩ := hP
  refine zz_aload_n (x := 1000) rfl zd_1_29_4 ?_
  refine zz_iload_n (x := p0) rfl zd_1_29_5 ?_
  refine zz_iload_n (x := p1) rfl zd_1_29_6 ?_
  refine zz_callVXV [zi p0, zi p1] zd_1_29_7 zk_TF_317 zT_1000 (zz_ltn hn rfl) rfl rfl ⟨Nat.le_of_ble_eq_true rfl, Nat.le_of_ble_eq_true rfl⟩ (Nat.le_of_ble_eq_true rfl) (Nat.le_of_ble_eq_true rfl) (zc_needUnitAndCycle_1_33 p0 p1 S0 n hn hfl G_S0 (by omega) (by omega)) zyw_waits_1_29 (fun i SX hX => by obtain ⟨rfl, x0, x1⟩ := hX; exact Or.inr ⟨_, _, rfl, rfl, by omega, by omega⟩) (fun S7 hP => ?_)
  obtain ⟨rfl⟩ := hP
  refine zz_aload_n (x := 1000) rfl zd_1_29_10 ?_
  refine zz_getr (kd := 0) (z := 1042) zd_1_29_11 zf_TF_42 zT_1000 rfl (zz_ltn hn rfl) (zz_G.eq G_S0 1000 1 1042 rfl rfl) (by decide) 1042 rfl ?_
  refine zz_iload_n (x := p0) rfl zd_1_29_14 ?_
  refine zz_iload_n (x := p1) rfl zd_1_29_15 ?_
  refine zz_callVI [zi p0, zi p1] zd_1_29_16 zk_TF_323 zT_1042 (zz_ltn hn rfl) rfl rfl ⟨Nat.le_of_ble_eq_true rfl, Nat.le_of_ble_eq_true rfl⟩ ⟨rfl, rfl⟩ (Nat.le_of_ble_eq_true rfl) (Nat.le_of_ble_eq_true rfl) (zc_missingAt_10_25 p0 p1 S0 n hn G_S0 (by omega) (by omega)) (fun v10 S9 hP => ?_)
  obtain ⟨rfl, o11⟩ := hP
  exact zz_iret zd_1_29_19 rfl (Nat.le_of_ble_eq_true rfl) (Nat.le_of_ble_eq_true rfl) (Or.inl ⟨_, _, rfl, rfl, by omega⟩)
-- TensorForge$Reaches areThere ()Z
abbrev zr_areThere_9_3 : Room := { frames := 0, cells := 0, slots := 0, locals := 0 }
def zp_areThere_9_3 (t : Int) (S0 : zz_S) : Int → zz_S → Prop := fun r S => S0 = S ∧ (0 ≤ r ∧ r ≤ 1)
theorem zb_areThere_9_3_2 {g : mm_G} {l : Launch} (t : Int) (S0 : zz_S) (n : Nat) (hn : zz_end ≤ n) (G_S0 : zz_G S0) (ht : 0 ≤ t ∧ t ≤ 4) (x1 : Int) (S : zz_S) (G_S : zz_G S) (F_S : zz_fr [] [] (fun _ _ => False) S0 S) (i2_0 : 0 ≤ x1 ∧ x1 ≤ 5) (R : Nat) (hR : (5 - x1).toNat = R) (k2 : ∀ (x1 : Int) (S : zz_S), zz_G S → zz_fr [] [] (fun _ _ => False) S0 S → (0 ≤ x1 ∧ x1 ≤ 5) → (5 - x1).toNat < R → zz_E g l zy_areThere_9_3 zr_areThere_9_3 (zz_QI n (zp_areThere_9_3 t S0)) S n 2 [some (.ref (zz_rf 5 t)), some (zi x1)] [] 0 0) : zz_E g l zy_areThere_9_3 zr_areThere_9_3 (zz_QI n (zp_areThere_9_3 t S0)) S n 2 [some (.ref (zz_rf 5 t)), some (zi x1)] [] 0 0 := by
  have b_t := zz_rf5 (z := t) (by omega)
  refine zz_iload_n (x := x1) rfl zd_9_3_2 ?_
  refine zz_iconst zd_9_3_3 ?_
  refine zz_icmp_ge (by omega) (by omega) zd_9_3_4 (fun c1 => ?_) (fun c1 => ?_)
  · refine zz_iconst zd_9_3_43 ?_
    exact zz_zret zd_9_3_44 rfl (by omega) (Nat.zero_le _) (Nat.zero_le _) ⟨_, _, rfl, zz_fr.eq F_S, by omega⟩
  · refine zz_aload_n (x := zz_rf 5 t) rfl zd_9_3_7 ?_
    refine zz_getr (kd := 0) (z := ((zz_rf 5 t + 2 : Nat) : Int)) zd_9_3_8 zf_Reaches_15 (zT_k5 (by omega)) rfl (zN_k5 hn (by omega)) (zE_k5a2 G_S (by omega)) (Int.natCast_nonneg _) (zz_rf 5 t + 2) (Int.toNat_natCast _) ?_
    refine zz_iload_n (x := x1) rfl zd_9_3_11 ?_
    have g2 := zz_G.r G_S0 (zz_rf 5 t + 2) x1.toNat (-2147483648) 2147483647 (zR_k5a2 (by omega)) (zB_k5a2 (by omega))
    refine zz_iald (z := S0 (zz_rf 5 t + 2) x1.toNat) zd_9_3_12 (zT_k5a2 (by omega)) rfl (zN_k5a2 hn (by omega)) (by decide) (by omega) (zz_rc F_S (zP_k5a2 (by omega) rfl) (zQ_k5a2 (by omega) rfl) (fun h => h) rfl) ?_
    refine zz_gets (q0 := 0) zd_9_3_13 rfl (by decide) zs_Reaches_44 ?_
    refine zz_iload_n (x := x1) rfl zd_9_3_16 ?_
    obtain ⟨v3, hv3, tv3⟩ := zz_sta0 (i := x1) (by omega)
    refine zz_tiald (N := 5) v3 zd_9_3_17 rfl (by decide) rfl (by decide) (by omega) tv3 ?_
    refine zz_icmp_ge (by omega) (by omega) zd_9_3_18 (fun c4 => ?_) (fun c4 => ?_)
    · refine zz_iconst zd_9_3_35 ?_
      exact zz_zret zd_9_3_36 rfl (by omega) (Nat.zero_le _) (Nat.zero_le _) ⟨_, _, rfl, zz_fr.eq F_S, by omega⟩
    · refine zz_aload_n (x := zz_rf 5 t) rfl zd_9_3_21 ?_
      refine zz_getr (kd := 0) (z := ((zz_rf 5 t + 4 : Nat) : Int)) zd_9_3_22 zf_Reaches_21 (zT_k5 (by omega)) rfl (zN_k5 hn (by omega)) (zE_k5a4 G_S (by omega)) (Int.natCast_nonneg _) (zz_rf 5 t + 4) (Int.toNat_natCast _) ?_
      refine zz_iload_n (x := x1) rfl zd_9_3_25 ?_
      have g5 := zz_G.r G_S0 (zz_rf 5 t + 4) x1.toNat (-2147483648) 2147483647 (zR_k5a4 (by omega)) (zB_k5a4 (by omega))
      refine zz_iald (z := S0 (zz_rf 5 t + 4) x1.toNat) zd_9_3_26 (zT_k5a4 (by omega)) rfl (zN_k5a4 hn (by omega)) (by decide) (by omega) (zz_rc F_S (zP_k5a4 (by omega) rfl) (zQ_k5a4 (by omega) rfl) (fun h => h) rfl) ?_
      refine zz_gets (q0 := 0) zd_9_3_27 rfl (by decide) zs_Reaches_44 ?_
      refine zz_iload_n (x := x1) rfl zd_9_3_30 ?_
      obtain ⟨v6, hv6, tv6⟩ := zz_sta0 (i := x1) (by omega)
      refine zz_tiald (N := 5) v6 zd_9_3_31 rfl (by decide) rfl (by decide) (by omega) tv6 ?_
      refine zz_icmp_lt (by omega) (by omega) zd_9_3_32 (fun c7 => ?_) (fun c7 => ?_)
      · refine zz_iinc [some (.ref (zz_rf 5 t)), some (zi (x1 + 1))] zd_9_3_37 rfl rfl ?_
        refine zz_goto zd_9_3_40 ?_
        refine zz_less (ls1 := [some (.ref (zz_rf 5 t)), some (zi (x1 + 1))]) ⟨rfl, ⟨rfl, trivial⟩⟩ ?_
        exact k2 (x1 + 1) S G_S F_S (by omega) (by omega)
      · refine zz_iconst zd_9_3_35 ?_
        exact zz_zret zd_9_3_36 rfl (by omega) (Nat.zero_le _) (Nat.zero_le _) ⟨_, _, rfl, zz_fr.eq F_S, by omega⟩
theorem zi_areThere_9_3 {g : mm_G} {l : Launch} (t : Int) (S0 : zz_S) (n : Nat) (hn : zz_end ≤ n) (G_S0 : zz_G S0) (ht : 0 ≤ t ∧ t ≤ 4) : ∀ N : Nat, (∀ (x1 : Int) (S : zz_S), zz_G S → zz_fr [] [] (fun _ _ => False) S0 S → (0 ≤ x1 ∧ x1 ≤ 5) → (5 - x1).toNat < N → zz_E g l zy_areThere_9_3 zr_areThere_9_3 (zz_QI n (zp_areThere_9_3 t S0)) S n 2 [some (.ref (zz_rf 5 t)), some (zi x1)] [] 0 0) := by
  intro N
  induction N with
  | zero => exact fun x1 S _ _ _ h => absurd h (Nat.not_lt_zero _)
  | succ N ih =>
    exact fun x1 S a b j0 hR => zb_areThere_9_3_2 t S0 n hn G_S0 ht x1 S a b j0 _ rfl (fun x1 S a b j0 h => ih x1 S a b j0 (Nat.lt_of_lt_of_le h (Nat.le_of_lt_succ hR)))
theorem zc_areThere_9_3 {g : mm_G} {l : Launch} (t : Int) (S0 : zz_S) (n : Nat) (hn : zz_end ≤ n) (G_S0 : zz_G S0) (ht : 0 ≤ t ∧ t ≤ 4) : mm_Met g l zy_areThere_9_3 zr_areThere_9_3 [.ref (zz_rf 5 t)] (zz_M S0 n) n (zz_QI n (zp_areThere_9_3 t S0)) := by
  refine zz_enter (by decide) (Nat.le_of_ble_eq_true rfl) (zz_less (ls1 := [some (.ref (zz_rf 5 t))]) ⟨rfl, trivial⟩ ?_)
  have F_S0 : zz_fr [] [] (fun _ _ => False) S0 S0 := zz_fr.refl
  have k2 : ∀ (x1 : Int) (S : zz_S), zz_G S → zz_fr [] [] (fun _ _ => False) S0 S → (0 ≤ x1 ∧ x1 ≤ 5) → zz_E g l zy_areThere_9_3 zr_areThere_9_3 (zz_QI n (zp_areThere_9_3 t S0)) S n 2 [some (.ref (zz_rf 5 t)), some (zi x1)] [] 0 0 := fun x1 S a b j0 => (zi_areThere_9_3 (g := g) (l := l) t S0 n hn G_S0 ht _) x1 S a b j0 (Nat.lt_succ_self _)
  have b_t := zz_rf5 (z := t) (by omega)
  refine zz_iconst zd_9_3_0 ?_
  refine zz_istore_n [some (.ref (zz_rf 5 t)), some (zi 0)] zd_9_3_1 (by decide) rfl ?_
  refine zz_less (ls1 := [some (.ref (zz_rf 5 t)), some (zi 0)]) ⟨rfl, ⟨rfl, trivial⟩⟩ ?_
  exact k2 0 S0 G_S0 F_S0 (by omega)
theorem zg_12_7_10 : (decode zy_most_12_7.2.1 10 = .ok ((.iconst 0), 1)) ∧ (decode zy_most_12_7.2.1 11 = .ok (Instr.goto 8, 3)) := by decide +kernel
theorem zd_12_7_10 : zz_D zy_most_12_7 10 (.iconst 0) 1 11 := ⟨zg_12_7_10.1, rfl⟩
theorem zd_12_7_11 : zz_B zy_most_12_7 11 Instr.goto 19 14 := ⟨8, zg_12_7_10.2, rfl, rfl⟩
-- TensorForge$Words most (I)I
abbrev zr_most_12_7 : Room := { frames := 0, cells := 0, slots := 0, locals := 0 }
def zp_most_12_7 (p0 : Int) (S0 : zz_S) : Int → zz_S → Prop := fun r S => S0 = S ∧ ((-2147483648) ≤ r ∧ r ≤ 2147483647)
theorem zc_most_12_7 {g : mm_G} {l : Launch} (p0 : Int) (S0 : zz_S) (n : Nat) (hn : zz_end ≤ n) (G_S0 : zz_G S0) (hp0 : (-2147483648) ≤ p0 ∧ p0 ≤ 2147483647) : mm_Met g l zy_most_12_7 zr_most_12_7 [zi p0] (zz_M S0 n) n (zz_QI n (zp_most_12_7 p0 S0)) := by
  refine zz_enter (by decide) (Nat.le_of_ble_eq_true rfl) (zz_less (ls1 := [some (zi p0)]) ⟨rfl, trivial⟩ ?_)
  refine zz_iload_n (x := p0) rfl zd_12_7_0 ?_
  refine zz_if_lt (by omega) zd_12_7_1 (fun c1 => ?_) (fun c1 => ?_)
  · refine zz_iconst zd_12_7_10 ?_
    refine zz_goto zd_12_7_11 ?_
    exact zz_iret zd_12_7_19 rfl (Nat.zero_le _) (Nat.zero_le _) ⟨_, _, rfl, rfl, by omega⟩
  · refine zz_iload_n (x := p0) rfl zd_12_7_4 ?_
    refine zz_bipush (by decide) zd_12_7_5 ?_
    refine zz_icmp_lt (by omega) (by omega) zd_12_7_7 (fun c2 => ?_) (fun c2 => ?_)
    · refine zz_gets (q0 := 2) zd_12_7_14 rfl (by decide) zs_Words_13 ?_
      refine zz_iload_n (x := p0) rfl zd_12_7_17 ?_
      obtain ⟨v3, hv3, tv3⟩ := zz_sta2 (i := p0) (by omega)
      refine zz_tiald (N := 12) v3 zd_12_7_18 rfl (by decide) rfl (by decide) (by omega) tv3 ?_
      exact zz_iret zd_12_7_19 rfl (Nat.zero_le _) (Nat.zero_le _) ⟨_, _, rfl, rfl, by omega⟩
    · refine zz_iconst zd_12_7_10 ?_
      refine zz_goto zd_12_7_11 ?_
      exact zz_iret zd_12_7_19 rfl (Nat.zero_le _) (Nat.zero_le _) ⟨_, _, rfl, rfl, by omega⟩

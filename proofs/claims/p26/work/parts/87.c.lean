-- TensorForge$Reaches meet (IIII)Z
abbrev zr_meet_9_10 : Room := { frames := 0, cells := 0, slots := 0, locals := 0 }
def zp_meet_9_10 (p0 : Int) (p1 : Int) (p2 : Int) (p3 : Int) (S0 : zz_S) : Int → zz_S → Prop := fun r S => S0 = S ∧ (0 ≤ r ∧ r ≤ 1)
theorem zc_meet_9_10 {g : mm_G} {l : Launch} (p0 : Int) (p1 : Int) (p2 : Int) (p3 : Int) (S0 : zz_S) (n : Nat) (hn : zz_end ≤ n) (G_S0 : zz_G S0) (hp0 : (-2147483648) ≤ p0 ∧ p0 ≤ 2147483647) (hp1 : (-2147483648) ≤ p1 ∧ p1 ≤ 2147483647) (hp2 : (-2147483648) ≤ p2 ∧ p2 ≤ 2147483647) (hp3 : (-2147483648) ≤ p3 ∧ p3 ≤ 2147483647) : mm_Met g l zy_meet_9_10 zr_meet_9_10 [zi p0, zi p1, zi p2, zi p3] (zz_M S0 n) n (zz_QI n (zp_meet_9_10 p0 p1 p2 p3 S0)) := by
  refine zz_enter (by decide) (Nat.le_of_ble_eq_true rfl) (zz_less (ls1 := [some (zi p0), some (zi p1), some (zi p2), some (zi p3)]) ⟨rfl, ⟨rfl, ⟨rfl, ⟨rfl, trivial⟩⟩⟩⟩ ?_)
  refine zz_iload_n (x := p0) rfl zd_9_10_0 ?_
  refine zz_iload_n (x := p1) rfl zd_9_10_1 ?_
  refine zz_icmp_gt (by omega) (by omega) zd_9_10_2 (fun c1 => ?_) (fun c1 => ?_)
  · refine zz_iconst zd_9_10_24 ?_
    exact zz_zret zd_9_10_25 rfl (by omega) (Nat.zero_le _) (Nat.zero_le _) ⟨_, _, rfl, rfl, by omega⟩
  · refine zz_iload_n (x := p2) rfl zd_9_10_5 ?_
    refine zz_iload_n (x := p3) rfl zd_9_10_6 ?_
    refine zz_icmp_gt (by omega) (by omega) zd_9_10_7 (fun c2 => ?_) (fun c2 => ?_)
    · refine zz_iconst zd_9_10_24 ?_
      exact zz_zret zd_9_10_25 rfl (by omega) (Nat.zero_le _) (Nat.zero_le _) ⟨_, _, rfl, rfl, by omega⟩
    · refine zz_iload_n (x := p0) rfl zd_9_10_10 ?_
      refine zz_iload_n (x := p3) rfl zd_9_10_11 ?_
      refine zz_icmp_gt (by omega) (by omega) zd_9_10_12 (fun c3 => ?_) (fun c3 => ?_)
      · refine zz_iconst zd_9_10_24 ?_
        exact zz_zret zd_9_10_25 rfl (by omega) (Nat.zero_le _) (Nat.zero_le _) ⟨_, _, rfl, rfl, by omega⟩
      · refine zz_iload_n (x := p2) rfl zd_9_10_15 ?_
        refine zz_iload_n (x := p1) rfl zd_9_10_16 ?_
        refine zz_icmp_gt (by omega) (by omega) zd_9_10_17 (fun c4 => ?_) (fun c4 => ?_)
        · refine zz_iconst zd_9_10_24 ?_
          exact zz_zret zd_9_10_25 rfl (by omega) (Nat.zero_le _) (Nat.zero_le _) ⟨_, _, rfl, rfl, by omega⟩
        · refine zz_iconst zd_9_10_20 ?_
          refine zz_goto zd_9_10_21 ?_
          exact zz_zret zd_9_10_25 rfl (by omega) (Nat.zero_le _) (Nat.zero_le _) ⟨_, _, rfl, rfl, by omega⟩
theorem zk_Reaches_47 : mm_Sl "TensorForge$Reaches" 47 4 zy_meet_9_10 := ⟨zyw_meet_9_10, mm_tb_1 776 (by decide +kernel) rfl, mm_tb_1 777 (by decide +kernel) rfl⟩
theorem zg_9_4_34 : zq_at zy_raceWith_9_4.2.1 34 154 ∧ zq_at zy_raceWith_9_4.2.1 35 0 ∧ zq_at zy_raceWith_9_4.2.1 36 63 ∧ zq_at zy_raceWith_9_4.2.1 37 42 ∧ zq_at zy_raceWith_9_4.2.1 38 180 ∧ zq_at zy_raceWith_9_4.2.1 39 0 ∧ zq_at zy_raceWith_9_4.2.1 40 18 ∧ zq_at zy_raceWith_9_4.2.1 41 28 ∧ zq_at zy_raceWith_9_4.2.1 42 46 ∧ zq_at zy_raceWith_9_4.2.1 43 42 ∧ zq_at zy_raceWith_9_4.2.1 44 180 ∧ zq_at zy_raceWith_9_4.2.1 45 0 ∧ zq_at zy_raceWith_9_4.2.1 46 21 ∧ zq_at zy_raceWith_9_4.2.1 47 28 ∧ zq_at zy_raceWith_9_4.2.1 48 46 ∧ zq_at zy_raceWith_9_4.2.1 49 43 ∧ zq_at zy_raceWith_9_4.2.1 50 180 ∧ zq_at zy_raceWith_9_4.2.1 51 0 ∧ zq_at zy_raceWith_9_4.2.1 52 11 ∧ zq_at zy_raceWith_9_4.2.1 53 28 ∧ zq_at zy_raceWith_9_4.2.1 54 46 ∧ zq_at zy_raceWith_9_4.2.1 55 43 := by decide +kernel
theorem zd_9_4_34 : zz_B zy_raceWith_9_4 34 (Instr.ifCond .ne) 97 37 := ⟨63, zq_154 zg_9_4_34.1 zg_9_4_34.2.1 zg_9_4_34.2.2.1 (by decide), rfl, rfl⟩
theorem zd_9_4_37 : zz_D zy_raceWith_9_4 37 (.aload_n 0) 1 38 := ⟨zq_42 zg_9_4_34.2.2.2.1, rfl⟩
theorem zd_9_4_38 : zz_D zy_raceWith_9_4 38 (.getfield 18) 3 41 := ⟨zq_180 zg_9_4_34.2.2.2.2.1 zg_9_4_34.2.2.2.2.2.1 zg_9_4_34.2.2.2.2.2.2.1 rfl, rfl⟩
theorem zd_9_4_41 : zz_D zy_raceWith_9_4 41 (.iload_n 2) 1 42 := ⟨zq_28 zg_9_4_34.2.2.2.2.2.2.2.1, rfl⟩
theorem zd_9_4_42 : zz_D zy_raceWith_9_4 42 (.iaload) 1 43 := ⟨zq_46 zg_9_4_34.2.2.2.2.2.2.2.2.1, rfl⟩
theorem zd_9_4_43 : zz_D zy_raceWith_9_4 43 (.aload_n 0) 1 44 := ⟨zq_42 zg_9_4_34.2.2.2.2.2.2.2.2.2.1, rfl⟩
theorem zd_9_4_44 : zz_D zy_raceWith_9_4 44 (.getfield 21) 3 47 := ⟨zq_180 zg_9_4_34.2.2.2.2.2.2.2.2.2.2.1 zg_9_4_34.2.2.2.2.2.2.2.2.2.2.2.1 zg_9_4_34.2.2.2.2.2.2.2.2.2.2.2.2.1 rfl, rfl⟩
theorem zd_9_4_47 : zz_D zy_raceWith_9_4 47 (.iload_n 2) 1 48 := ⟨zq_28 zg_9_4_34.2.2.2.2.2.2.2.2.2.2.2.2.2.1, rfl⟩
theorem zd_9_4_48 : zz_D zy_raceWith_9_4 48 (.iaload) 1 49 := ⟨zq_46 zg_9_4_34.2.2.2.2.2.2.2.2.2.2.2.2.2.2.1, rfl⟩
theorem zd_9_4_49 : zz_D zy_raceWith_9_4 49 (.aload_n 1) 1 50 := ⟨zq_43 zg_9_4_34.2.2.2.2.2.2.2.2.2.2.2.2.2.2.2.1, rfl⟩
theorem zd_9_4_50 : zz_D zy_raceWith_9_4 50 (.getfield 11) 3 53 := ⟨zq_180 zg_9_4_34.2.2.2.2.2.2.2.2.2.2.2.2.2.2.2.2.1 zg_9_4_34.2.2.2.2.2.2.2.2.2.2.2.2.2.2.2.2.2.1 zg_9_4_34.2.2.2.2.2.2.2.2.2.2.2.2.2.2.2.2.2.2.1 rfl, rfl⟩
theorem zd_9_4_53 : zz_D zy_raceWith_9_4 53 (.iload_n 2) 1 54 := ⟨zq_28 zg_9_4_34.2.2.2.2.2.2.2.2.2.2.2.2.2.2.2.2.2.2.2.1, rfl⟩
theorem zd_9_4_54 : zz_D zy_raceWith_9_4 54 (.iaload) 1 55 := ⟨zq_46 zg_9_4_34.2.2.2.2.2.2.2.2.2.2.2.2.2.2.2.2.2.2.2.2.1, rfl⟩
theorem zd_9_4_55 : zz_D zy_raceWith_9_4 55 (.aload_n 1) 1 56 := ⟨zq_43 zg_9_4_34.2.2.2.2.2.2.2.2.2.2.2.2.2.2.2.2.2.2.2.2.2, rfl⟩
theorem zg_9_4_56 : zq_at zy_raceWith_9_4.2.1 56 180 ∧ zq_at zy_raceWith_9_4.2.1 57 0 ∧ zq_at zy_raceWith_9_4.2.1 58 15 ∧ zq_at zy_raceWith_9_4.2.1 59 28 ∧ zq_at zy_raceWith_9_4.2.1 60 46 ∧ zq_at zy_raceWith_9_4.2.1 61 184 ∧ zq_at zy_raceWith_9_4.2.1 62 0 ∧ zq_at zy_raceWith_9_4.2.1 63 47 ∧ zq_at zy_raceWith_9_4.2.1 64 154 ∧ zq_at zy_raceWith_9_4.2.1 65 0 ∧ zq_at zy_raceWith_9_4.2.1 66 33 ∧ zq_at zy_raceWith_9_4.2.1 67 42 ∧ zq_at zy_raceWith_9_4.2.1 68 180 ∧ zq_at zy_raceWith_9_4.2.1 69 0 ∧ zq_at zy_raceWith_9_4.2.1 70 11 ∧ zq_at zy_raceWith_9_4.2.1 71 28 ∧ zq_at zy_raceWith_9_4.2.1 72 46 ∧ zq_at zy_raceWith_9_4.2.1 73 42 ∧ zq_at zy_raceWith_9_4.2.1 74 180 ∧ zq_at zy_raceWith_9_4.2.1 75 0 ∧ zq_at zy_raceWith_9_4.2.1 76 15 ∧ zq_at zy_raceWith_9_4.2.1 77 28 ∧ zq_at zy_raceWith_9_4.2.1 78 46 ∧ zq_at zy_raceWith_9_4.2.1 79 43 := by decide +kernel
theorem zd_9_4_56 : zz_D zy_raceWith_9_4 56 (.getfield 15) 3 59 := ⟨zq_180 zg_9_4_56.1 zg_9_4_56.2.1 zg_9_4_56.2.2.1 rfl, rfl⟩
theorem zd_9_4_59 : zz_D zy_raceWith_9_4 59 (.iload_n 2) 1 60 := ⟨zq_28 zg_9_4_56.2.2.2.1, rfl⟩
theorem zd_9_4_60 : zz_D zy_raceWith_9_4 60 (.iaload) 1 61 := ⟨zq_46 zg_9_4_56.2.2.2.2.1, rfl⟩
theorem zd_9_4_61 : zz_D zy_raceWith_9_4 61 (.invokestatic 47) 3 64 := ⟨zq_184 zg_9_4_56.2.2.2.2.2.1 zg_9_4_56.2.2.2.2.2.2.1 zg_9_4_56.2.2.2.2.2.2.2.1 rfl, rfl⟩
theorem zd_9_4_64 : zz_B zy_raceWith_9_4 64 (Instr.ifCond .ne) 97 67 := ⟨33, zq_154 zg_9_4_56.2.2.2.2.2.2.2.2.1 zg_9_4_56.2.2.2.2.2.2.2.2.2.1 zg_9_4_56.2.2.2.2.2.2.2.2.2.2.1 (by decide), rfl, rfl⟩
theorem zd_9_4_67 : zz_D zy_raceWith_9_4 67 (.aload_n 0) 1 68 := ⟨zq_42 zg_9_4_56.2.2.2.2.2.2.2.2.2.2.2.1, rfl⟩
theorem zd_9_4_68 : zz_D zy_raceWith_9_4 68 (.getfield 11) 3 71 := ⟨zq_180 zg_9_4_56.2.2.2.2.2.2.2.2.2.2.2.2.1 zg_9_4_56.2.2.2.2.2.2.2.2.2.2.2.2.2.1 zg_9_4_56.2.2.2.2.2.2.2.2.2.2.2.2.2.2.1 rfl, rfl⟩
theorem zd_9_4_71 : zz_D zy_raceWith_9_4 71 (.iload_n 2) 1 72 := ⟨zq_28 zg_9_4_56.2.2.2.2.2.2.2.2.2.2.2.2.2.2.2.1, rfl⟩
theorem zd_9_4_72 : zz_D zy_raceWith_9_4 72 (.iaload) 1 73 := ⟨zq_46 zg_9_4_56.2.2.2.2.2.2.2.2.2.2.2.2.2.2.2.2.1, rfl⟩
theorem zd_9_4_73 : zz_D zy_raceWith_9_4 73 (.aload_n 0) 1 74 := ⟨zq_42 zg_9_4_56.2.2.2.2.2.2.2.2.2.2.2.2.2.2.2.2.2.1, rfl⟩
theorem zd_9_4_74 : zz_D zy_raceWith_9_4 74 (.getfield 15) 3 77 := ⟨zq_180 zg_9_4_56.2.2.2.2.2.2.2.2.2.2.2.2.2.2.2.2.2.2.1 zg_9_4_56.2.2.2.2.2.2.2.2.2.2.2.2.2.2.2.2.2.2.2.1 zg_9_4_56.2.2.2.2.2.2.2.2.2.2.2.2.2.2.2.2.2.2.2.2.1 rfl, rfl⟩
theorem zd_9_4_77 : zz_D zy_raceWith_9_4 77 (.iload_n 2) 1 78 := ⟨zq_28 zg_9_4_56.2.2.2.2.2.2.2.2.2.2.2.2.2.2.2.2.2.2.2.2.2.1, rfl⟩
theorem zd_9_4_78 : zz_D zy_raceWith_9_4 78 (.iaload) 1 79 := ⟨zq_46 zg_9_4_56.2.2.2.2.2.2.2.2.2.2.2.2.2.2.2.2.2.2.2.2.2.2.1, rfl⟩
theorem zd_9_4_79 : zz_D zy_raceWith_9_4 79 (.aload_n 1) 1 80 := ⟨zq_43 zg_9_4_56.2.2.2.2.2.2.2.2.2.2.2.2.2.2.2.2.2.2.2.2.2.2.2, rfl⟩
theorem zg_9_4_80 : zq_at zy_raceWith_9_4.2.1 80 180 ∧ zq_at zy_raceWith_9_4.2.1 81 0 ∧ zq_at zy_raceWith_9_4.2.1 82 18 ∧ zq_at zy_raceWith_9_4.2.1 83 28 ∧ zq_at zy_raceWith_9_4.2.1 84 46 ∧ zq_at zy_raceWith_9_4.2.1 85 43 ∧ zq_at zy_raceWith_9_4.2.1 86 180 ∧ zq_at zy_raceWith_9_4.2.1 87 0 ∧ zq_at zy_raceWith_9_4.2.1 88 21 ∧ zq_at zy_raceWith_9_4.2.1 89 28 ∧ zq_at zy_raceWith_9_4.2.1 90 46 ∧ zq_at zy_raceWith_9_4.2.1 91 184 ∧ zq_at zy_raceWith_9_4.2.1 92 0 ∧ zq_at zy_raceWith_9_4.2.1 93 47 ∧ zq_at zy_raceWith_9_4.2.1 94 153 ∧ zq_at zy_raceWith_9_4.2.1 95 0 ∧ zq_at zy_raceWith_9_4.2.1 96 5 ∧ zq_at zy_raceWith_9_4.2.1 99 132 ∧ zq_at zy_raceWith_9_4.2.1 100 2 ∧ zq_at zy_raceWith_9_4.2.1 101 1 ∧ zq_at zy_raceWith_9_4.2.1 102 167 ∧ zq_at zy_raceWith_9_4.2.1 103 255 ∧ zq_at zy_raceWith_9_4.2.1 104 156 ∧ zq_at zy_raceWith_9_4.2.1 97 4 := by decide +kernel
theorem zd_9_4_80 : zz_D zy_raceWith_9_4 80 (.getfield 18) 3 83 := ⟨zq_180 zg_9_4_80.1 zg_9_4_80.2.1 zg_9_4_80.2.2.1 rfl, rfl⟩
theorem zd_9_4_83 : zz_D zy_raceWith_9_4 83 (.iload_n 2) 1 84 := ⟨zq_28 zg_9_4_80.2.2.2.1, rfl⟩
theorem zd_9_4_84 : zz_D zy_raceWith_9_4 84 (.iaload) 1 85 := ⟨zq_46 zg_9_4_80.2.2.2.2.1, rfl⟩
theorem zd_9_4_85 : zz_D zy_raceWith_9_4 85 (.aload_n 1) 1 86 := ⟨zq_43 zg_9_4_80.2.2.2.2.2.1, rfl⟩
theorem zd_9_4_86 : zz_D zy_raceWith_9_4 86 (.getfield 21) 3 89 := ⟨zq_180 zg_9_4_80.2.2.2.2.2.2.1 zg_9_4_80.2.2.2.2.2.2.2.1 zg_9_4_80.2.2.2.2.2.2.2.2.1 rfl, rfl⟩
theorem zd_9_4_89 : zz_D zy_raceWith_9_4 89 (.iload_n 2) 1 90 := ⟨zq_28 zg_9_4_80.2.2.2.2.2.2.2.2.2.1, rfl⟩
theorem zd_9_4_90 : zz_D zy_raceWith_9_4 90 (.iaload) 1 91 := ⟨zq_46 zg_9_4_80.2.2.2.2.2.2.2.2.2.2.1, rfl⟩
theorem zd_9_4_91 : zz_D zy_raceWith_9_4 91 (.invokestatic 47) 3 94 := ⟨zq_184 zg_9_4_80.2.2.2.2.2.2.2.2.2.2.2.1 zg_9_4_80.2.2.2.2.2.2.2.2.2.2.2.2.1 zg_9_4_80.2.2.2.2.2.2.2.2.2.2.2.2.2.1 rfl, rfl⟩
theorem zd_9_4_94 : zz_B zy_raceWith_9_4 94 (Instr.ifCond .eq) 99 97 := ⟨5, zq_153 zg_9_4_80.2.2.2.2.2.2.2.2.2.2.2.2.2.2.1 zg_9_4_80.2.2.2.2.2.2.2.2.2.2.2.2.2.2.2.1 zg_9_4_80.2.2.2.2.2.2.2.2.2.2.2.2.2.2.2.2.1 (by decide), rfl, rfl⟩
theorem zd_9_4_99 : zz_D zy_raceWith_9_4 99 (.iinc 2 1) 3 102 := ⟨zq_132 zg_9_4_80.2.2.2.2.2.2.2.2.2.2.2.2.2.2.2.2.2.1 zg_9_4_80.2.2.2.2.2.2.2.2.2.2.2.2.2.2.2.2.2.2.1 zg_9_4_80.2.2.2.2.2.2.2.2.2.2.2.2.2.2.2.2.2.2.2.1 (by decide), rfl⟩
theorem zd_9_4_102 : zz_B zy_raceWith_9_4 102 Instr.goto 2 105 := ⟨(-100), zq_167 zg_9_4_80.2.2.2.2.2.2.2.2.2.2.2.2.2.2.2.2.2.2.2.2.1 zg_9_4_80.2.2.2.2.2.2.2.2.2.2.2.2.2.2.2.2.2.2.2.2.2.1 zg_9_4_80.2.2.2.2.2.2.2.2.2.2.2.2.2.2.2.2.2.2.2.2.2.2.1 (by decide), rfl, rfl⟩
theorem zd_9_4_97 : zz_D zy_raceWith_9_4 97 (.iconst 1) 1 98 := ⟨zq_4 zg_9_4_80.2.2.2.2.2.2.2.2.2.2.2.2.2.2.2.2.2.2.2.2.2.2.2, rfl⟩
theorem zg_9_4_98 : zq_at zy_raceWith_9_4.2.1 98 172 ∧ zq_at zy_raceWith_9_4.2.1 105 3 ∧ zq_at zy_raceWith_9_4.2.1 106 172 := by decide +kernel
theorem zd_9_4_98 : zz_D zy_raceWith_9_4 98 (.ireturn) 1 99 := ⟨zq_172 zg_9_4_98.1, rfl⟩
theorem zd_9_4_105 : zz_D zy_raceWith_9_4 105 (.iconst 0) 1 106 := ⟨zq_3 zg_9_4_98.2.1, rfl⟩
theorem zd_9_4_106 : zz_D zy_raceWith_9_4 106 (.ireturn) 1 107 := ⟨zq_172 zg_9_4_98.2.2, rfl⟩
-- TensorForge$Reaches raceWith (LTensorForge$Reaches;)Z
abbrev zr_raceWith_9_4 : Room := { frames := 1, cells := 0, slots := 0, locals := 15 }
def zp_raceWith_9_4 (t : Int) (p0 : Int) (S0 : zz_S) : Int → zz_S → Prop := fun r S => S0 = S ∧ (0 ≤ r ∧ r ≤ 1)
theorem zb_raceWith_9_4_2 {g : mm_G} {l : Launch} (t : Int) (p0 : Int) (S0 : zz_S) (n : Nat) (hn : zz_end ≤ n) (G_S0 : zz_G S0) (ht : 0 ≤ t ∧ t ≤ 4) (hp0 : 0 ≤ p0 ∧ p0 ≤ 4) (x2 : Int) (S : zz_S) (G_S : zz_G S) (F_S : zz_fr [] [] (fun _ _ => False) S0 S) (i2_0 : 0 ≤ x2 ∧ x2 ≤ 5) (R : Nat) (hR : (5 - x2).toNat = R) (k2 : ∀ (x2 : Int) (S : zz_S), zz_G S → zz_fr [] [] (fun _ _ => False) S0 S → (0 ≤ x2 ∧ x2 ≤ 5) → (5 - x2).toNat < R → zz_E g l zy_raceWith_9_4 zr_raceWith_9_4 (zz_QI n (zp_raceWith_9_4 t p0 S0)) S n 2 [some (.ref (zz_rf 5 t)), some (.ref (zz_rf 5 p0)), some (zi x2)] [] 0 0) : zz_E g l zy_raceWith_9_4 zr_raceWith_9_4 (zz_QI n (zp_raceWith_9_4 t p0 S0)) S n 2 [some (.ref (zz_rf 5 t)), some (.ref (zz_rf 5 p0)), some (zi x2)] [] 0 0 := by
  have b_p0 := zz_rf5 (z := p0) (by omega)
  have b_t := zz_rf5 (z := t) (by omega)
  refine zz_iload_n (x := x2) rfl zd_9_4_2 ?_
  refine zz_iconst zd_9_4_3 ?_
  refine zz_icmp_ge (by omega) (by omega) zd_9_4_4 (fun c1 => ?_) (fun c1 => ?_)
  · refine zz_iconst zd_9_4_105 ?_
    exact zz_zret zd_9_4_106 rfl (by omega) (Nat.zero_le _) (Nat.zero_le _) ⟨_, _, rfl, zz_fr.eq F_S, by omega⟩
  · refine zz_aload_n (x := zz_rf 5 t) rfl zd_9_4_7 ?_
    refine zz_getr (kd := 0) (z := ((zz_rf 5 t + 3 : Nat) : Int)) zd_9_4_8 zf_Reaches_18 (zT_k5 (by omega)) rfl (zN_k5 hn (by omega)) (zE_k5a3 G_S (by omega)) (Int.natCast_nonneg _) (zz_rf 5 t + 3) (Int.toNat_natCast _) ?_
    refine zz_iload_n (x := x2) rfl zd_9_4_11 ?_
    have g2 := zz_G.r G_S0 (zz_rf 5 t + 3) x2.toNat (-2147483648) 2147483647 (zR_k5a3 (by omega)) (zB_k5a3 (by omega))
    refine zz_iald (z := S0 (zz_rf 5 t + 3) x2.toNat) zd_9_4_12 (zT_k5a3 (by omega)) rfl (zN_k5a3 hn (by omega)) (by decide) (by omega) (zz_rc F_S (zP_k5a3 (by omega) rfl) (zQ_k5a3 (by omega) rfl) (fun h => h) rfl) ?_
    refine zz_aload_n (x := zz_rf 5 t) rfl zd_9_4_13 ?_
    refine zz_getr (kd := 0) (z := ((zz_rf 5 t + 4 : Nat) : Int)) zd_9_4_14 zf_Reaches_21 (zT_k5 (by omega)) rfl (zN_k5 hn (by omega)) (zE_k5a4 G_S (by omega)) (Int.natCast_nonneg _) (zz_rf 5 t + 4) (Int.toNat_natCast _) ?_
    refine zz_iload_n (x := x2) rfl zd_9_4_17 ?_
    have g3 := zz_G.r G_S0 (zz_rf 5 t + 4) x2.toNat (-2147483648) 2147483647 (zR_k5a4 (by omega)) (zB_k5a4 (by omega))
    refine zz_iald (z := S0 (zz_rf 5 t + 4) x2.toNat) zd_9_4_18 (zT_k5a4 (by omega)) rfl (zN_k5a4 hn (by omega)) (by decide) (by omega) (zz_rc F_S (zP_k5a4 (by omega) rfl) (zQ_k5a4 (by omega) rfl) (fun h => h) rfl) ?_
    refine zz_aload_n (x := zz_rf 5 p0) rfl zd_9_4_19 ?_
    refine zz_getr (kd := 0) (z := ((zz_rf 5 p0 + 3 : Nat) : Int)) zd_9_4_20 zf_Reaches_18 (zT_k5 (by omega)) rfl (zN_k5 hn (by omega)) (zE_k5a3 G_S (by omega)) (Int.natCast_nonneg _) (zz_rf 5 p0 + 3) (Int.toNat_natCast _) ?_
    refine zz_iload_n (x := x2) rfl zd_9_4_23 ?_
    have g4 := zz_G.r G_S0 (zz_rf 5 p0 + 3) x2.toNat (-2147483648) 2147483647 (zR_k5a3 (by omega)) (zB_k5a3 (by omega))
    refine zz_iald (z := S0 (zz_rf 5 p0 + 3) x2.toNat) zd_9_4_24 (zT_k5a3 (by omega)) rfl (zN_k5a3 hn (by omega)) (by decide) (by omega) (zz_rc F_S (zP_k5a3 (by omega) rfl) (zQ_k5a3 (by omega) rfl) (fun h => h) rfl) ?_
    refine zz_aload_n (x := zz_rf 5 p0) rfl zd_9_4_25 ?_
    refine zz_getr (kd := 0) (z := ((zz_rf 5 p0 + 4 : Nat) : Int)) zd_9_4_26 zf_Reaches_21 (zT_k5 (by omega)) rfl (zN_k5 hn (by omega)) (zE_k5a4 G_S (by omega)) (Int.natCast_nonneg _) (zz_rf 5 p0 + 4) (Int.toNat_natCast _) ?_
    refine zz_iload_n (x := x2) rfl zd_9_4_29 ?_
    have g5 := zz_G.r G_S0 (zz_rf 5 p0 + 4) x2.toNat (-2147483648) 2147483647 (zR_k5a4 (by omega)) (zB_k5a4 (by omega))
    refine zz_iald (z := S0 (zz_rf 5 p0 + 4) x2.toNat) zd_9_4_30 (zT_k5a4 (by omega)) rfl (zN_k5a4 hn (by omega)) (by decide) (by omega) (zz_rc F_S (zP_k5a4 (by omega) rfl) (zQ_k5a4 (by omega) rfl) (fun h => h) rfl) ?_
    refine zz_callSI [zi (S0 (zz_rf 5 t + 3) x2.toNat), zi (S0 (zz_rf 5 t + 4) x2.toNat), zi (S0 (zz_rf 5 p0 + 3) x2.toNat), zi (S0 (zz_rf 5 p0 + 4) x2.toNat)] zd_9_4_31 zk_Reaches_47 rfl rfl ⟨Nat.le_of_ble_eq_true rfl, Nat.le_of_ble_eq_true rfl⟩ ⟨rfl, rfl⟩ (Nat.zero_le _) (Nat.zero_le _) (zc_meet_9_10 (S0 (zz_rf 5 t + 3) x2.toNat) (S0 (zz_rf 5 t + 4) x2.toNat) (S0 (zz_rf 5 p0 + 3) x2.toNat) (S0 (zz_rf 5 p0 + 4) x2.toNat) S n hn G_S (by omega) (by omega) (by omega) (by omega)) (fun v7 S6 hP => ?_)
    obtain ⟨rfl, o8⟩ := hP
    rcases (by omega : v7 = 0 ∨ v7 = 1) with rfl | rfl
    · refine zz_if_ne (by omega) zd_9_4_34 (fun c9 => ?_) (fun c9 => ?_)
      · exfalso; omega
      · refine zz_aload_n (x := zz_rf 5 t) rfl zd_9_4_37 ?_
        refine zz_getr (kd := 0) (z := ((zz_rf 5 t + 3 : Nat) : Int)) zd_9_4_38 zf_Reaches_18 (zT_k5 (by omega)) rfl (zN_k5 hn (by omega)) (zE_k5a3 G_S (by omega)) (Int.natCast_nonneg _) (zz_rf 5 t + 3) (Int.toNat_natCast _) ?_
        refine zz_iload_n (x := x2) rfl zd_9_4_41 ?_
        refine zz_iald (z := S0 (zz_rf 5 t + 3) x2.toNat) zd_9_4_42 (zT_k5a3 (by omega)) rfl (zN_k5a3 hn (by omega)) (by decide) (by omega) (zz_rc F_S (zP_k5a3 (by omega) rfl) (zQ_k5a3 (by omega) rfl) (fun h => h) rfl) ?_
        refine zz_aload_n (x := zz_rf 5 t) rfl zd_9_4_43 ?_
        refine zz_getr (kd := 0) (z := ((zz_rf 5 t + 4 : Nat) : Int)) zd_9_4_44 zf_Reaches_21 (zT_k5 (by omega)) rfl (zN_k5 hn (by omega)) (zE_k5a4 G_S (by omega)) (Int.natCast_nonneg _) (zz_rf 5 t + 4) (Int.toNat_natCast _) ?_
        refine zz_iload_n (x := x2) rfl zd_9_4_47 ?_
        refine zz_iald (z := S0 (zz_rf 5 t + 4) x2.toNat) zd_9_4_48 (zT_k5a4 (by omega)) rfl (zN_k5a4 hn (by omega)) (by decide) (by omega) (zz_rc F_S (zP_k5a4 (by omega) rfl) (zQ_k5a4 (by omega) rfl) (fun h => h) rfl) ?_
        refine zz_aload_n (x := zz_rf 5 p0) rfl zd_9_4_49 ?_
        refine zz_getr (kd := 0) (z := ((zz_rf 5 p0 + 1 : Nat) : Int)) zd_9_4_50 zf_Reaches_11 (zT_k5 (by omega)) rfl (zN_k5 hn (by omega)) (zE_k5a1 G_S (by omega)) (Int.natCast_nonneg _) (zz_rf 5 p0 + 1) (Int.toNat_natCast _) ?_
        refine zz_iload_n (x := x2) rfl zd_9_4_53 ?_
        have g10 := zz_G.r G_S0 (zz_rf 5 p0 + 1) x2.toNat (-2147483648) 2147483647 (zR_k5a1 (by omega)) (zB_k5a1 (by omega))
        refine zz_iald (z := S0 (zz_rf 5 p0 + 1) x2.toNat) zd_9_4_54 (zT_k5a1 (by omega)) rfl (zN_k5a1 hn (by omega)) (by decide) (by omega) (zz_rc F_S (zP_k5a1 (by omega) rfl) (zQ_k5a1 (by omega) rfl) (fun h => h) rfl) ?_
        refine zz_aload_n (x := zz_rf 5 p0) rfl zd_9_4_55 ?_
        refine zz_getr (kd := 0) (z := ((zz_rf 5 p0 + 2 : Nat) : Int)) zd_9_4_56 zf_Reaches_15 (zT_k5 (by omega)) rfl (zN_k5 hn (by omega)) (zE_k5a2 G_S (by omega)) (Int.natCast_nonneg _) (zz_rf 5 p0 + 2) (Int.toNat_natCast _) ?_
        refine zz_iload_n (x := x2) rfl zd_9_4_59 ?_
        have g11 := zz_G.r G_S0 (zz_rf 5 p0 + 2) x2.toNat (-2147483648) 2147483647 (zR_k5a2 (by omega)) (zB_k5a2 (by omega))
        refine zz_iald (z := S0 (zz_rf 5 p0 + 2) x2.toNat) zd_9_4_60 (zT_k5a2 (by omega)) rfl (zN_k5a2 hn (by omega)) (by decide) (by omega) (zz_rc F_S (zP_k5a2 (by omega) rfl) (zQ_k5a2 (by omega) rfl) (fun h => h) rfl) ?_
        refine zz_callSI [zi (S0 (zz_rf 5 t + 3) x2.toNat), zi (S0 (zz_rf 5 t + 4) x2.toNat), zi (S0 (zz_rf 5 p0 + 1) x2.toNat), zi (S0 (zz_rf 5 p0 + 2) x2.toNat)] zd_9_4_61 zk_Reaches_47 rfl rfl ⟨Nat.le_of_ble_eq_true rfl, Nat.le_of_ble_eq_true rfl⟩ ⟨rfl, rfl⟩ (Nat.zero_le _) (Nat.zero_le _) (zc_meet_9_10 (S0 (zz_rf 5 t + 3) x2.toNat) (S0 (zz_rf 5 t + 4) x2.toNat) (S0 (zz_rf 5 p0 + 1) x2.toNat) (S0 (zz_rf 5 p0 + 2) x2.toNat) S n hn G_S (by omega) (by omega) (by omega) (by omega)) (fun v13 S12 hP => ?_)
        obtain ⟨rfl, o14⟩ := hP
        rcases (by omega : v13 = 0 ∨ v13 = 1) with rfl | rfl
        · refine zz_if_ne (by omega) zd_9_4_64 (fun c15 => ?_) (fun c15 => ?_)
          · exfalso; omega
          · refine zz_aload_n (x := zz_rf 5 t) rfl zd_9_4_67 ?_
            refine zz_getr (kd := 0) (z := ((zz_rf 5 t + 1 : Nat) : Int)) zd_9_4_68 zf_Reaches_11 (zT_k5 (by omega)) rfl (zN_k5 hn (by omega)) (zE_k5a1 G_S (by omega)) (Int.natCast_nonneg _) (zz_rf 5 t + 1) (Int.toNat_natCast _) ?_
            refine zz_iload_n (x := x2) rfl zd_9_4_71 ?_
            have g16 := zz_G.r G_S0 (zz_rf 5 t + 1) x2.toNat (-2147483648) 2147483647 (zR_k5a1 (by omega)) (zB_k5a1 (by omega))
            refine zz_iald (z := S0 (zz_rf 5 t + 1) x2.toNat) zd_9_4_72 (zT_k5a1 (by omega)) rfl (zN_k5a1 hn (by omega)) (by decide) (by omega) (zz_rc F_S (zP_k5a1 (by omega) rfl) (zQ_k5a1 (by omega) rfl) (fun h => h) rfl) ?_
            refine zz_aload_n (x := zz_rf 5 t) rfl zd_9_4_73 ?_
            refine zz_getr (kd := 0) (z := ((zz_rf 5 t + 2 : Nat) : Int)) zd_9_4_74 zf_Reaches_15 (zT_k5 (by omega)) rfl (zN_k5 hn (by omega)) (zE_k5a2 G_S (by omega)) (Int.natCast_nonneg _) (zz_rf 5 t + 2) (Int.toNat_natCast _) ?_
            refine zz_iload_n (x := x2) rfl zd_9_4_77 ?_
            have g17 := zz_G.r G_S0 (zz_rf 5 t + 2) x2.toNat (-2147483648) 2147483647 (zR_k5a2 (by omega)) (zB_k5a2 (by omega))
            refine zz_iald (z := S0 (zz_rf 5 t + 2) x2.toNat) zd_9_4_78 (zT_k5a2 (by omega)) rfl (zN_k5a2 hn (by omega)) (by decide) (by omega) (zz_rc F_S (zP_k5a2 (by omega) rfl) (zQ_k5a2 (by omega) rfl) (fun h => h) rfl) ?_
            refine zz_aload_n (x := zz_rf 5 p0) rfl zd_9_4_79 ?_
            refine zz_getr (kd := 0) (z := ((zz_rf 5 p0 + 3 : Nat) : Int)) zd_9_4_80 zf_Reaches_18 (zT_k5 (by omega)) rfl (zN_k5 hn (by omega)) (zE_k5a3 G_S (by omega)) (Int.natCast_nonneg _) (zz_rf 5 p0 + 3) (Int.toNat_natCast _) ?_
            refine zz_iload_n (x := x2) rfl zd_9_4_83 ?_
            refine zz_iald (z := S0 (zz_rf 5 p0 + 3) x2.toNat) zd_9_4_84 (zT_k5a3 (by omega)) rfl (zN_k5a3 hn (by omega)) (by decide) (by omega) (zz_rc F_S (zP_k5a3 (by omega) rfl) (zQ_k5a3 (by omega) rfl) (fun h => h) rfl) ?_
            refine zz_aload_n (x := zz_rf 5 p0) rfl zd_9_4_85 ?_
            refine zz_getr (kd := 0) (z := ((zz_rf 5 p0 + 4 : Nat) : Int)) zd_9_4_86 zf_Reaches_21 (zT_k5 (by omega)) rfl (zN_k5 hn (by omega)) (zE_k5a4 G_S (by omega)) (Int.natCast_nonneg _) (zz_rf 5 p0 + 4) (Int.toNat_natCast _) ?_
            refine zz_iload_n (x := x2) rfl zd_9_4_89 ?_
            refine zz_iald (z := S0 (zz_rf 5 p0 + 4) x2.toNat) zd_9_4_90 (zT_k5a4 (by omega)) rfl (zN_k5a4 hn (by omega)) (by decide) (by omega) (zz_rc F_S (zP_k5a4 (by omega) rfl) (zQ_k5a4 (by omega) rfl) (fun h => h) rfl) ?_
            refine zz_callSI [zi (S0 (zz_rf 5 t + 1) x2.toNat), zi (S0 (zz_rf 5 t + 2) x2.toNat), zi (S0 (zz_rf 5 p0 + 3) x2.toNat), zi (S0 (zz_rf 5 p0 + 4) x2.toNat)] zd_9_4_91 zk_Reaches_47 rfl rfl ⟨Nat.le_of_ble_eq_true rfl, Nat.le_of_ble_eq_true rfl⟩ ⟨rfl, rfl⟩ (Nat.zero_le _) (Nat.zero_le _) (zc_meet_9_10 (S0 (zz_rf 5 t + 1) x2.toNat) (S0 (zz_rf 5 t + 2) x2.toNat) (S0 (zz_rf 5 p0 + 3) x2.toNat) (S0 (zz_rf 5 p0 + 4) x2.toNat) S n hn G_S (by omega) (by omega) (by omega) (by omega)) (fun v19 S18 hP => ?_)
            obtain ⟨rfl, o20⟩ := hP
            rcases (by omega : v19 = 0 ∨ v19 = 1) with rfl | rfl
            · refine zz_if_eq (by omega) zd_9_4_94 (fun c21 => ?_) (fun c21 => ?_)
              · refine zz_iinc [some (.ref (zz_rf 5 t)), some (.ref (zz_rf 5 p0)), some (zi (x2 + 1))] zd_9_4_99 rfl rfl ?_
                refine zz_goto zd_9_4_102 ?_
                refine zz_less (ls1 := [some (.ref (zz_rf 5 t)), some (.ref (zz_rf 5 p0)), some (zi (x2 + 1))]) ⟨rfl, ⟨rfl, ⟨rfl, trivial⟩⟩⟩ ?_
                exact k2 (x2 + 1) S G_S F_S (by omega) (by omega)
              · exfalso; omega
            · refine zz_if_eq (by omega) zd_9_4_94 (fun c22 => ?_) (fun c22 => ?_)
              · exfalso; omega
              · refine zz_iconst zd_9_4_97 ?_
                exact zz_zret zd_9_4_98 rfl (by omega) (Nat.zero_le _) (Nat.zero_le _) ⟨_, _, rfl, zz_fr.eq F_S, by omega⟩
        · refine zz_if_ne (by omega) zd_9_4_64 (fun c23 => ?_) (fun c23 => ?_)
          · refine zz_iconst zd_9_4_97 ?_
            exact zz_zret zd_9_4_98 rfl (by omega) (Nat.zero_le _) (Nat.zero_le _) ⟨_, _, rfl, zz_fr.eq F_S, by omega⟩
          · exfalso; omega
    · refine zz_if_ne (by omega) zd_9_4_34 (fun c24 => ?_) (fun c24 => ?_)
      · refine zz_iconst zd_9_4_97 ?_
        exact zz_zret zd_9_4_98 rfl (by omega) (Nat.zero_le _) (Nat.zero_le _) ⟨_, _, rfl, zz_fr.eq F_S, by omega⟩
      · exfalso; omega
theorem zi_raceWith_9_4 {g : mm_G} {l : Launch} (t : Int) (p0 : Int) (S0 : zz_S) (n : Nat) (hn : zz_end ≤ n) (G_S0 : zz_G S0) (ht : 0 ≤ t ∧ t ≤ 4) (hp0 : 0 ≤ p0 ∧ p0 ≤ 4) : ∀ N : Nat, (∀ (x2 : Int) (S : zz_S), zz_G S → zz_fr [] [] (fun _ _ => False) S0 S → (0 ≤ x2 ∧ x2 ≤ 5) → (5 - x2).toNat < N → zz_E g l zy_raceWith_9_4 zr_raceWith_9_4 (zz_QI n (zp_raceWith_9_4 t p0 S0)) S n 2 [some (.ref (zz_rf 5 t)), some (.ref (zz_rf 5 p0)), some (zi x2)] [] 0 0) := by
  intro N
  induction N with
  | zero => exact fun x2 S _ _ _ h => absurd h (Nat.not_lt_zero _)
  | succ N ih =>
    exact fun x2 S a b j0 hR => zb_raceWith_9_4_2 t p0 S0 n hn G_S0 ht hp0 x2 S a b j0 _ rfl (fun x2 S a b j0 h => ih x2 S a b j0 (Nat.lt_of_lt_of_le h (Nat.le_of_lt_succ hR)))
theorem zc_raceWith_9_4 {g : mm_G} {l : Launch} (t : Int) (p0 : Int) (S0 : zz_S) (n : Nat) (hn : zz_end ≤ n) (G_S0 : zz_G S0) (ht : 0 ≤ t ∧ t ≤ 4) (hp0 : 0 ≤ p0 ∧ p0 ≤ 4) : mm_Met g l zy_raceWith_9_4 zr_raceWith_9_4 [.ref (zz_rf 5 t), .ref (zz_rf 5 p0)] (zz_M S0 n) n (zz_QI n (zp_raceWith_9_4 t p0 S0)) := by
  refine zz_enter (by decide) (Nat.le_of_ble_eq_true rfl) (zz_less (ls1 := [some (.ref (zz_rf 5 t)), some (.ref (zz_rf 5 p0))]) ⟨rfl, ⟨rfl, trivial⟩⟩ ?_)
  have F_S0 : zz_fr [] [] (fun _ _ => False) S0 S0 := zz_fr.refl
  have k2 : ∀ (x2 : Int) (S : zz_S), zz_G S → zz_fr [] [] (fun _ _ => False) S0 S → (0 ≤ x2 ∧ x2 ≤ 5) → zz_E g l zy_raceWith_9_4 zr_raceWith_9_4 (zz_QI n (zp_raceWith_9_4 t p0 S0)) S n 2 [some (.ref (zz_rf 5 t)), some (.ref (zz_rf 5 p0)), some (zi x2)] [] 0 0 := fun x2 S a b j0 => (zi_raceWith_9_4 (g := g) (l := l) t p0 S0 n hn G_S0 ht hp0 _) x2 S a b j0 (Nat.lt_succ_self _)
  have b_p0 := zz_rf5 (z := p0) (by omega)
  have b_t := zz_rf5 (z := t) (by omega)
  refine zz_iconst zd_9_4_0 ?_
  refine zz_istore_n [some (.ref (zz_rf 5 t)), some (.ref (zz_rf 5 p0)), some (zi 0)] zd_9_4_1 (by decide) rfl ?_
  refine zz_less (ls1 := [some (.ref (zz_rf 5 t)), some (.ref (zz_rf 5 p0)), some (zi 0)]) ⟨rfl, ⟨rfl, ⟨rfl, trivial⟩⟩⟩ ?_
  exact k2 0 S0 G_S0 F_S0 (by omega)
theorem zk_Run_135 : mm_Vl "TensorForge$Run" 135 4 1 zy_raceWith_9_4 := ⟨zyw_raceWith_9_4, (R_Reaches, F_Reaches, 4), rfl, mm_tb_1 772 (by decide +kernel) rfl, mm_tb_1 773 (by decide +kernel) rfl, mm_tb_1 774 (by decide +kernel) rfl⟩
theorem zg_10_9_30 : zq_at zy_races_10_9.2.1 30 153 ∧ zq_at zy_races_10_9.2.1 31 0 ∧ zq_at zy_races_10_9.2.1 32 5 ∧ zq_at zy_races_10_9.2.1 33 4 ∧ zq_at zy_races_10_9.2.1 34 172 ∧ zq_at zy_races_10_9.2.1 41 3 ∧ zq_at zy_races_10_9.2.1 42 172 := by decide +kernel
theorem zd_10_9_30 : zz_B zy_races_10_9 30 (Instr.ifCond .eq) 35 33 := ⟨5, zq_153 zg_10_9_30.1 zg_10_9_30.2.1 zg_10_9_30.2.2.1 (by decide), rfl, rfl⟩
theorem zd_10_9_33 : zz_D zy_races_10_9 33 (.iconst 1) 1 34 := ⟨zq_4 zg_10_9_30.2.2.2.1, rfl⟩
theorem zd_10_9_34 : zz_D zy_races_10_9 34 (.ireturn) 1 35 := ⟨zq_172 zg_10_9_30.2.2.2.2.1, rfl⟩
theorem zd_10_9_41 : zz_D zy_races_10_9 41 (.iconst 0) 1 42 := ⟨zq_3 zg_10_9_30.2.2.2.2.2.1, rfl⟩
theorem zd_10_9_42 : zz_D zy_races_10_9 42 (.ireturn) 1 43 := ⟨zq_172 zg_10_9_30.2.2.2.2.2.2, rfl⟩
-- TensorForge$Run races ()Z
abbrev zr_races_10_9 : Room := { frames := 2, cells := 0, slots := 0, locals := 29 }
def zp_races_10_9  (S0 : zz_S) : Int → zz_S → Prop := fun r S => S0 = S ∧ (0 ≤ r ∧ r ≤ 1)
theorem zb_races_10_9_2 {g : mm_G} {l : Launch}  (S0 : zz_S) (n : Nat) (hn : zz_end ≤ n) (G_S0 : zz_G S0)  (x1 : Int) (S : zz_S) (G_S : zz_G S) (F_S : zz_fr [] [] (fun _ _ => False) S0 S) (i2_0 : 0 ≤ x1 ∧ x1 ≤ 3) (R : Nat) (hR : (3 - x1).toNat = R) (k2 : ∀ (x1 : Int) (S : zz_S), zz_G S → zz_fr [] [] (fun _ _ => False) S0 S → (0 ≤ x1 ∧ x1 ≤ 3) → (3 - x1).toNat < R → zz_E g l zy_races_10_9 zr_races_10_9 (zz_QI n (zp_races_10_9  S0)) S n 2 [some (.ref 1042), some (zi x1)] [] 0 0) : zz_E g l zy_races_10_9 zr_races_10_9 (zz_QI n (zp_races_10_9  S0)) S n 2 [some (.ref 1042), some (zi x1)] [] 0 0 := by
  refine zz_iload_n (x := x1) rfl zd_10_9_2 ?_
  refine zz_iconst zd_10_9_3 ?_
  refine zz_icmp_ge (by omega) (by omega) zd_10_9_4 (fun c1 => ?_) (fun c1 => ?_)
  · refine zz_iconst zd_10_9_41 ?_
    exact zz_zret zd_10_9_42 rfl (by omega) (Nat.zero_le _) (Nat.zero_le _) ⟨_, _, rfl, zz_fr.eq F_S, by omega⟩
  · refine zz_aload_n (x := 1042) rfl zd_10_9_7 ?_
    refine zz_getr (kd := 0) (z := 1048) zd_10_9_8 zf_Run_32 zT_1042 rfl (zz_ltn hn rfl) (zz_G.eq G_S 1042 6 1048 rfl rfl) (by decide) 1048 rfl ?_
    refine zz_iload_n (x := x1) rfl zd_10_9_11 ?_
    have g2 := zz_G.r G_S0 1048 x1.toNat (-1) 600 rfl rfl
    refine zz_iald (z := S0 1048 x1.toNat) zd_10_9_12 zT_1048 rfl (zz_ltn hn rfl) (by decide) (by omega) (zz_rc F_S (zz_nc1 rfl) rfl (fun h => h) rfl) ?_
    refine zz_iconst zd_10_9_13 ?_
    refine zz_icmp_eq (by omega) (by omega) zd_10_9_14 (fun c3 => ?_) (fun c3 => ?_)
    · refine zz_iinc [some (.ref 1042), some (zi (x1 + 1))] zd_10_9_35 rfl rfl ?_
      refine zz_goto zd_10_9_38 ?_
      refine zz_less (ls1 := [some (.ref 1042), some (zi (x1 + 1))]) ⟨rfl, ⟨rfl, trivial⟩⟩ ?_
      exact k2 (x1 + 1) S G_S F_S (by omega) (by omega)
    · refine zz_aload_n (x := 1042) rfl zd_10_9_17 ?_
      have g4 := zz_G.r G_S0 1042 8 0 3 rfl rfl
      refine zz_getr (kd := 3) (z := S0 1042 8) zd_10_9_18 zf_Run_42 zT_1042 rfl (zz_ltn hn rfl) (zz_rc F_S rfl rfl (fun h => h) rfl) (by omega) (zz_rf 5 (S0 1042 8)) rfl ?_
      refine zz_aload_n (x := 1042) rfl zd_10_9_21 ?_
      refine zz_getr (kd := 0) (z := 1049) zd_10_9_22 zf_Run_37 zT_1042 rfl (zz_ltn hn rfl) (zz_G.eq G_S 1042 7 1049 rfl rfl) (by decide) 1049 rfl ?_
      refine zz_iload_n (x := x1) rfl zd_10_9_25 ?_
      have g5 := zz_G.r G_S0 1049 x1.toNat 0 3 rfl rfl
      refine zz_aald (kd := 3) (z := S0 1049 x1.toNat) zd_10_9_26 zT_1049 rfl (zz_ltn hn rfl) (by decide) (by omega) (zz_rc F_S (zz_nc1 rfl) rfl (fun h => h) rfl) (by omega) (zz_rf 5 (S0 1049 x1.toNat)) rfl ?_
      refine zz_callVI [.ref (zz_rf 5 (S0 1049 x1.toNat))] zd_10_9_27 zk_Run_135 (zT_k5 (by omega)) (zN_k5 hn (by omega)) rfl rfl ⟨Nat.le_of_ble_eq_true rfl, Nat.le_of_ble_eq_true rfl⟩ ⟨rfl, rfl⟩ (Nat.zero_le _) (Nat.zero_le _) (zc_raceWith_9_4 (S0 1042 8) (S0 1049 x1.toNat) S n hn G_S (by omega) (by omega)) (fun v7 S6 hP => ?_)
      obtain ⟨rfl, o8⟩ := hP
      rcases (by omega : v7 = 0 ∨ v7 = 1) with rfl | rfl
      · refine zz_if_eq (by omega) zd_10_9_30 (fun c9 => ?_) (fun c9 => ?_)
        · refine zz_iinc [some (.ref 1042), some (zi (x1 + 1))] zd_10_9_35 rfl rfl ?_
          refine zz_goto zd_10_9_38 ?_
          refine zz_less (ls1 := [some (.ref 1042), some (zi (x1 + 1))]) ⟨rfl, ⟨rfl, trivial⟩⟩ ?_
          exact k2 (x1 + 1) S G_S F_S (by omega) (by omega)
        · exfalso; omega
      · refine zz_if_eq (by omega) zd_10_9_30 (fun c10 => ?_) (fun c10 => ?_)
        · exfalso; omega
        · refine zz_iconst zd_10_9_33 ?_
          exact zz_zret zd_10_9_34 rfl (by omega) (Nat.zero_le _) (Nat.zero_le _) ⟨_, _, rfl, zz_fr.eq F_S, by omega⟩
theorem zi_races_10_9 {g : mm_G} {l : Launch}  (S0 : zz_S) (n : Nat) (hn : zz_end ≤ n) (G_S0 : zz_G S0)  : ∀ N : Nat, (∀ (x1 : Int) (S : zz_S), zz_G S → zz_fr [] [] (fun _ _ => False) S0 S → (0 ≤ x1 ∧ x1 ≤ 3) → (3 - x1).toNat < N → zz_E g l zy_races_10_9 zr_races_10_9 (zz_QI n (zp_races_10_9  S0)) S n 2 [some (.ref 1042), some (zi x1)] [] 0 0) := by
  intro N
  induction N with
  | zero => exact fun x1 S _ _ _ h => absurd h (Nat.not_lt_zero _)
  | succ N ih =>
    exact fun x1 S a b j0 hR => zb_races_10_9_2  S0 n hn G_S0  x1 S a b j0 _ rfl (fun x1 S a b j0 h => ih x1 S a b j0 (Nat.lt_of_lt_of_le h (Nat.le_of_lt_succ hR)))
theorem zc_races_10_9 {g : mm_G} {l : Launch}  (S0 : zz_S) (n : Nat) (hn : zz_end ≤ n) (G_S0 : zz_G S0)  : mm_Met g l zy_races_10_9 zr_races_10_9 [.ref 1042] (zz_M S0 n) n (zz_QI n (zp_races_10_9  S0)) := by
  refine zz_enter (by decide) (Nat.le_of_ble_eq_true rfl) (zz_less (ls1 := [some (.ref 1042)]) ⟨rfl, trivial⟩ ?_)
  have F_S0 : zz_fr [] [] (fun _ _ => False) S0 S0 := zz_fr.refl
  have k2 : ∀ (x1 : Int) (S : zz_S), zz_G S → zz_fr [] [] (fun _ _ => False) S0 S → (0 ≤ x1 ∧ x1 ≤ 3) → zz_E g l zy_races_10_9 zr_races_10_9 (zz_QI n (zp_races_10_9  S0)) S n 2 [some (.ref 1042), some (zi x1)] [] 0 0 := fun x1 S a b j0 => (zi_races_10_9 (g := g) (l := l)  S0 n hn G_S0  _) x1 S a b j0 (Nat.lt_succ_self _)
  refine zz_iconst zd_10_9_0 ?_
  refine zz_istore_n [some (.ref 1042), some (zi 0)] zd_10_9_1 (by decide) rfl ?_
  refine zz_less (ls1 := [some (.ref 1042), some (zi 0)]) ⟨rfl, ⟨rfl, trivial⟩⟩ ?_
  exact k2 0 S0 G_S0 F_S0 (by omega)
theorem zk_Run_128 : mm_Vl "TensorForge$Run" 128 5 0 zy_races_10_9 := ⟨zyw_races_10_9, (R_Run, F_Run, 10), rfl, mm_tb_1 768 (by decide +kernel) rfl, mm_tb_1 770 (by decide +kernel) rfl, mm_tb_s 24 (by decide +kernel) rfl⟩
abbrev zy_begin_10_10 : mm_Y := (⟨"TensorForge$Run", "begin", "(III)V"⟩, prog_10_method_10_code, 6, none)
theorem zyw_begin_10_10 : mm_Yw zy_begin_10_10 3 := ⟨mm_tb_1 782 (by decide +kernel) rfl, mm_tb_1 6 (by decide +kernel) rfl, ⟨by decide, by decide⟩, by decide +kernel⟩
abbrev zy_cyclesOf_12_11 : mm_Y := (⟨"TensorForge$Words", "cyclesOf", "(JI)I"⟩, prog_12_method_11_code, 6, (some .int))
theorem zyw_cyclesOf_12_11 : mm_Yw zy_cyclesOf_12_11 2 := ⟨mm_tb_1 785 (by decide +kernel) rfl, mm_tb_1 20 (by decide +kernel) rfl, ⟨by decide, by decide⟩, by decide +kernel⟩
theorem zg_10_8_74 : zq_at zy_beginAt_10_8.2.1 74 153 ∧ zq_at zy_beginAt_10_8.2.1 75 0 ∧ zq_at zy_beginAt_10_8.2.1 76 5 ∧ zq_at zy_beginAt_10_8.2.1 79 42 ∧ zq_at zy_beginAt_10_8.2.1 80 28 ∧ zq_at zy_beginAt_10_8.2.1 81 29 ∧ zq_at zy_beginAt_10_8.2.1 82 27 ∧ zq_at zy_beginAt_10_8.2.1 83 182 ∧ zq_at zy_beginAt_10_8.2.1 84 0 ∧ zq_at zy_beginAt_10_8.2.1 85 132 := by decide +kernel
theorem zd_10_8_74 : zz_B zy_beginAt_10_8 74 (Instr.ifCond .eq) 79 77 := ⟨5, zq_153 zg_10_8_74.1 zg_10_8_74.2.1 zg_10_8_74.2.2.1 (by decide), rfl, rfl⟩
theorem zd_10_8_79 : zz_D zy_beginAt_10_8 79 (.aload_n 0) 1 80 := ⟨zq_42 zg_10_8_74.2.2.2.1, rfl⟩
theorem zd_10_8_80 : zz_D zy_beginAt_10_8 80 (.iload_n 2) 1 81 := ⟨zq_28 zg_10_8_74.2.2.2.2.1, rfl⟩
theorem zd_10_8_81 : zz_D zy_beginAt_10_8 81 (.iload_n 3) 1 82 := ⟨zq_29 zg_10_8_74.2.2.2.2.2.1, rfl⟩
theorem zd_10_8_82 : zz_D zy_beginAt_10_8 82 (.iload_n 1) 1 83 := ⟨zq_27 zg_10_8_74.2.2.2.2.2.2.1, rfl⟩
theorem zd_10_8_83 : zz_D zy_beginAt_10_8 83 (.invokevirtual 132) 3 86 := ⟨zq_182 zg_10_8_74.2.2.2.2.2.2.2.1 zg_10_8_74.2.2.2.2.2.2.2.2.1 zg_10_8_74.2.2.2.2.2.2.2.2.2 rfl, rfl⟩
theorem zg_10_10_0 : zq_at zy_begin_10_10.2.1 0 42 ∧ zq_at zy_begin_10_10.2.1 1 180 ∧ zq_at zy_begin_10_10.2.1 2 0 ∧ zq_at zy_begin_10_10.2.1 3 19 ∧ zq_at zy_begin_10_10.2.1 4 28 ∧ zq_at zy_begin_10_10.2.1 5 47 ∧ zq_at zy_begin_10_10.2.1 6 42 ∧ zq_at zy_begin_10_10.2.1 7 180 ∧ zq_at zy_begin_10_10.2.1 8 0 ∧ zq_at zy_begin_10_10.2.1 9 9 ∧ zq_at zy_begin_10_10.2.1 10 180 ∧ zq_at zy_begin_10_10.2.1 11 0 ∧ zq_at zy_begin_10_10.2.1 12 121 ∧ zq_at zy_begin_10_10.2.1 13 184 ∧ zq_at zy_begin_10_10.2.1 14 0 ∧ zq_at zy_begin_10_10.2.1 15 139 := by decide +kernel
theorem zd_10_10_0 : zz_D zy_begin_10_10 0 (.aload_n 0) 1 1 := ⟨zq_42 zg_10_10_0.1, rfl⟩
theorem zd_10_10_1 : zz_D zy_begin_10_10 1 (.getfield 19) 3 4 := ⟨zq_180 zg_10_10_0.2.1 zg_10_10_0.2.2.1 zg_10_10_0.2.2.2.1 rfl, rfl⟩
theorem zd_10_10_4 : zz_D zy_begin_10_10 4 (.iload_n 2) 1 5 := ⟨zq_28 zg_10_10_0.2.2.2.2.1, rfl⟩
theorem zd_10_10_5 : zz_D zy_begin_10_10 5 (.laload) 1 6 := ⟨zq_47 zg_10_10_0.2.2.2.2.2.1, rfl⟩
theorem zd_10_10_6 : zz_D zy_begin_10_10 6 (.aload_n 0) 1 7 := ⟨zq_42 zg_10_10_0.2.2.2.2.2.2.1, rfl⟩
theorem zd_10_10_7 : zz_D zy_begin_10_10 7 (.getfield 9) 3 10 := ⟨zq_180 zg_10_10_0.2.2.2.2.2.2.2.1 zg_10_10_0.2.2.2.2.2.2.2.2.1 zg_10_10_0.2.2.2.2.2.2.2.2.2.1 rfl, rfl⟩
theorem zd_10_10_10 : zz_D zy_begin_10_10 10 (.getfield 121) 3 13 := ⟨zq_180 zg_10_10_0.2.2.2.2.2.2.2.2.2.2.1 zg_10_10_0.2.2.2.2.2.2.2.2.2.2.2.1 zg_10_10_0.2.2.2.2.2.2.2.2.2.2.2.2.1 rfl, rfl⟩
theorem zd_10_10_13 : zz_D zy_begin_10_10 13 (.invokestatic 139) 3 16 := ⟨zq_184 zg_10_10_0.2.2.2.2.2.2.2.2.2.2.2.2.2.1 zg_10_10_0.2.2.2.2.2.2.2.2.2.2.2.2.2.2.1 zg_10_10_0.2.2.2.2.2.2.2.2.2.2.2.2.2.2.2 rfl, rfl⟩
theorem zg_12_11_0 : zq_at zy_cyclesOf_12_11.2.1 0 30 ∧ zq_at zy_cyclesOf_12_11.2.1 1 3 ∧ zq_at zy_cyclesOf_12_11.2.1 2 184 ∧ zq_at zy_cyclesOf_12_11.2.1 3 0 ∧ zq_at zy_cyclesOf_12_11.2.1 4 16 ∧ zq_at zy_cyclesOf_12_11.2.1 5 62 ∧ zq_at zy_cyclesOf_12_11.2.1 6 30 ∧ zq_at zy_cyclesOf_12_11.2.1 7 16 ∧ zq_at zy_cyclesOf_12_11.2.1 8 6 ∧ zq_at zy_cyclesOf_12_11.2.1 9 184 ∧ zq_at zy_cyclesOf_12_11.2.1 10 0 ∧ zq_at zy_cyclesOf_12_11.2.1 11 16 ∧ zq_at zy_cyclesOf_12_11.2.1 12 54 ∧ zq_at zy_cyclesOf_12_11.2.1 13 4 ∧ zq_at zy_cyclesOf_12_11.2.1 14 29 ∧ zq_at zy_cyclesOf_12_11.2.1 15 16 ∧ zq_at zy_cyclesOf_12_11.2.1 16 9 ∧ zq_at zy_cyclesOf_12_11.2.1 17 160 ∧ zq_at zy_cyclesOf_12_11.2.1 18 0 ∧ zq_at zy_cyclesOf_12_11.2.1 19 5 ∧ zq_at zy_cyclesOf_12_11.2.1 22 29 ∧ zq_at zy_cyclesOf_12_11.2.1 23 8 := by decide +kernel
theorem zd_12_11_0 : zz_D zy_cyclesOf_12_11 0 (.lload_n 0) 1 1 := ⟨zq_30 zg_12_11_0.1, rfl⟩
theorem zd_12_11_1 : zz_D zy_cyclesOf_12_11 1 (.iconst 0) 1 2 := ⟨zq_3 zg_12_11_0.2.1, rfl⟩
theorem zd_12_11_2 : zz_D zy_cyclesOf_12_11 2 (.invokestatic 16) 3 5 := ⟨zq_184 zg_12_11_0.2.2.1 zg_12_11_0.2.2.2.1 zg_12_11_0.2.2.2.2.1 rfl, rfl⟩
theorem zd_12_11_5 : zz_D zy_cyclesOf_12_11 5 (.istore_n 3) 1 6 := ⟨zq_62 zg_12_11_0.2.2.2.2.2.1, rfl⟩
theorem zd_12_11_6 : zz_D zy_cyclesOf_12_11 6 (.lload_n 0) 1 7 := ⟨zq_30 zg_12_11_0.2.2.2.2.2.2.1, rfl⟩
theorem zd_12_11_7 : zz_D zy_cyclesOf_12_11 7 (.bipush 6) 2 9 := ⟨zq_16 zg_12_11_0.2.2.2.2.2.2.2.1 zg_12_11_0.2.2.2.2.2.2.2.2.1 (by decide), rfl⟩
theorem zd_12_11_9 : zz_D zy_cyclesOf_12_11 9 (.invokestatic 16) 3 12 := ⟨zq_184 zg_12_11_0.2.2.2.2.2.2.2.2.2.1 zg_12_11_0.2.2.2.2.2.2.2.2.2.2.1 zg_12_11_0.2.2.2.2.2.2.2.2.2.2.2.1 rfl, rfl⟩
theorem zd_12_11_12 : zz_D zy_cyclesOf_12_11 12 (.istore 4) 2 14 := ⟨zq_54 zg_12_11_0.2.2.2.2.2.2.2.2.2.2.2.2.1 zg_12_11_0.2.2.2.2.2.2.2.2.2.2.2.2.2.1, rfl⟩
theorem zd_12_11_14 : zz_D zy_cyclesOf_12_11 14 (.iload_n 3) 1 15 := ⟨zq_29 zg_12_11_0.2.2.2.2.2.2.2.2.2.2.2.2.2.2.1, rfl⟩
theorem zd_12_11_15 : zz_D zy_cyclesOf_12_11 15 (.bipush 9) 2 17 := ⟨zq_16 zg_12_11_0.2.2.2.2.2.2.2.2.2.2.2.2.2.2.2.1 zg_12_11_0.2.2.2.2.2.2.2.2.2.2.2.2.2.2.2.2.1 (by decide), rfl⟩
theorem zd_12_11_17 : zz_B zy_cyclesOf_12_11 17 (Instr.if_icmp .ne) 22 20 := ⟨5, zq_160 zg_12_11_0.2.2.2.2.2.2.2.2.2.2.2.2.2.2.2.2.2.1 zg_12_11_0.2.2.2.2.2.2.2.2.2.2.2.2.2.2.2.2.2.2.1 zg_12_11_0.2.2.2.2.2.2.2.2.2.2.2.2.2.2.2.2.2.2.2.1 (by decide), rfl, rfl⟩
theorem zd_12_11_22 : zz_D zy_cyclesOf_12_11 22 (.iload_n 3) 1 23 := ⟨zq_29 zg_12_11_0.2.2.2.2.2.2.2.2.2.2.2.2.2.2.2.2.2.2.2.2.1, rfl⟩
theorem zd_12_11_23 : zz_D zy_cyclesOf_12_11 23 (.iconst 5) 1 24 := ⟨zq_8 zg_12_11_0.2.2.2.2.2.2.2.2.2.2.2.2.2.2.2.2.2.2.2.2.2, rfl⟩
theorem zg_12_11_24 : zq_at zy_cyclesOf_12_11.2.1 24 160 ∧ zq_at zy_cyclesOf_12_11.2.1 25 0 ∧ zq_at zy_cyclesOf_12_11.2.1 26 12 ∧ zq_at zy_cyclesOf_12_11.2.1 36 21 ∧ zq_at zy_cyclesOf_12_11.2.1 37 4 ∧ zq_at zy_cyclesOf_12_11.2.1 38 30 ∧ zq_at zy_cyclesOf_12_11.2.1 39 16 ∧ zq_at zy_cyclesOf_12_11.2.1 40 7 ∧ zq_at zy_cyclesOf_12_11.2.1 41 184 ∧ zq_at zy_cyclesOf_12_11.2.1 42 0 ∧ zq_at zy_cyclesOf_12_11.2.1 43 16 ∧ zq_at zy_cyclesOf_12_11.2.1 44 104 ∧ zq_at zy_cyclesOf_12_11.2.1 45 54 ∧ zq_at zy_cyclesOf_12_11.2.1 46 5 ∧ zq_at zy_cyclesOf_12_11.2.1 47 29 ∧ zq_at zy_cyclesOf_12_11.2.1 48 7 ∧ zq_at zy_cyclesOf_12_11.2.1 49 160 ∧ zq_at zy_cyclesOf_12_11.2.1 50 0 ∧ zq_at zy_cyclesOf_12_11.2.1 51 10 ∧ zq_at zy_cyclesOf_12_11.2.1 59 21 ∧ zq_at zy_cyclesOf_12_11.2.1 60 5 ∧ zq_at zy_cyclesOf_12_11.2.1 61 172 ∧ zq_at zy_cyclesOf_12_11.2.1 52 7 := by decide +kernel
theorem zd_12_11_24 : zz_B zy_cyclesOf_12_11 24 (Instr.if_icmp .ne) 36 27 := ⟨12, zq_160 zg_12_11_24.1 zg_12_11_24.2.1 zg_12_11_24.2.2.1 (by decide), rfl, rfl⟩
theorem zd_12_11_36 : zz_D zy_cyclesOf_12_11 36 (.iload 4) 2 38 := ⟨zq_21 zg_12_11_24.2.2.2.1 zg_12_11_24.2.2.2.2.1, rfl⟩
theorem zd_12_11_38 : zz_D zy_cyclesOf_12_11 38 (.lload_n 0) 1 39 := ⟨zq_30 zg_12_11_24.2.2.2.2.2.1, rfl⟩
theorem zd_12_11_39 : zz_D zy_cyclesOf_12_11 39 (.bipush 7) 2 41 := ⟨zq_16 zg_12_11_24.2.2.2.2.2.2.1 zg_12_11_24.2.2.2.2.2.2.2.1 (by decide), rfl⟩
theorem zd_12_11_41 : zz_D zy_cyclesOf_12_11 41 (.invokestatic 16) 3 44 := ⟨zq_184 zg_12_11_24.2.2.2.2.2.2.2.2.1 zg_12_11_24.2.2.2.2.2.2.2.2.2.1 zg_12_11_24.2.2.2.2.2.2.2.2.2.2.1 rfl, rfl⟩
theorem zd_12_11_44 : zz_D zy_cyclesOf_12_11 44 (.imul) 1 45 := ⟨zq_104 zg_12_11_24.2.2.2.2.2.2.2.2.2.2.2.1, rfl⟩
theorem zd_12_11_45 : zz_D zy_cyclesOf_12_11 45 (.istore 5) 2 47 := ⟨zq_54 zg_12_11_24.2.2.2.2.2.2.2.2.2.2.2.2.1 zg_12_11_24.2.2.2.2.2.2.2.2.2.2.2.2.2.1, rfl⟩
theorem zd_12_11_47 : zz_D zy_cyclesOf_12_11 47 (.iload_n 3) 1 48 := ⟨zq_29 zg_12_11_24.2.2.2.2.2.2.2.2.2.2.2.2.2.2.1, rfl⟩
theorem zd_12_11_48 : zz_D zy_cyclesOf_12_11 48 (.iconst 4) 1 49 := ⟨zq_7 zg_12_11_24.2.2.2.2.2.2.2.2.2.2.2.2.2.2.2.1, rfl⟩
theorem zd_12_11_49 : zz_B zy_cyclesOf_12_11 49 (Instr.if_icmp .ne) 59 52 := ⟨10, zq_160 zg_12_11_24.2.2.2.2.2.2.2.2.2.2.2.2.2.2.2.2.1 zg_12_11_24.2.2.2.2.2.2.2.2.2.2.2.2.2.2.2.2.2.1 zg_12_11_24.2.2.2.2.2.2.2.2.2.2.2.2.2.2.2.2.2.2.1 (by decide), rfl, rfl⟩
theorem zd_12_11_59 : zz_D zy_cyclesOf_12_11 59 (.iload 5) 2 61 := ⟨zq_21 zg_12_11_24.2.2.2.2.2.2.2.2.2.2.2.2.2.2.2.2.2.2.2.1 zg_12_11_24.2.2.2.2.2.2.2.2.2.2.2.2.2.2.2.2.2.2.2.2.1, rfl⟩
theorem zd_12_11_61 : zz_D zy_cyclesOf_12_11 61 (.ireturn) 1 62 := ⟨zq_172 zg_12_11_24.2.2.2.2.2.2.2.2.2.2.2.2.2.2.2.2.2.2.2.2.2.1, rfl⟩
theorem zd_12_11_52 : zz_D zy_cyclesOf_12_11 52 (.iconst 4) 1 53 := ⟨zq_7 zg_12_11_24.2.2.2.2.2.2.2.2.2.2.2.2.2.2.2.2.2.2.2.2.2.2, rfl⟩
theorem zg_12_11_53 : zq_at zy_cyclesOf_12_11.2.1 53 21 ∧ zq_at zy_cyclesOf_12_11.2.1 54 5 ∧ zq_at zy_cyclesOf_12_11.2.1 55 104 ∧ zq_at zy_cyclesOf_12_11.2.1 56 167 ∧ zq_at zy_cyclesOf_12_11.2.1 57 0 ∧ zq_at zy_cyclesOf_12_11.2.1 58 5 ∧ zq_at zy_cyclesOf_12_11.2.1 27 21 ∧ zq_at zy_cyclesOf_12_11.2.1 28 4 ∧ zq_at zy_cyclesOf_12_11.2.1 29 5 ∧ zq_at zy_cyclesOf_12_11.2.1 30 28 ∧ zq_at zy_cyclesOf_12_11.2.1 31 104 ∧ zq_at zy_cyclesOf_12_11.2.1 32 96 ∧ zq_at zy_cyclesOf_12_11.2.1 33 5 ∧ zq_at zy_cyclesOf_12_11.2.1 34 100 ∧ zq_at zy_cyclesOf_12_11.2.1 35 172 ∧ zq_at zy_cyclesOf_12_11.2.1 20 4 ∧ zq_at zy_cyclesOf_12_11.2.1 21 172 := by decide +kernel
theorem zd_12_11_53 : zz_D zy_cyclesOf_12_11 53 (.iload 5) 2 55 := ⟨zq_21 zg_12_11_53.1 zg_12_11_53.2.1, rfl⟩
theorem zd_12_11_55 : zz_D zy_cyclesOf_12_11 55 (.imul) 1 56 := ⟨zq_104 zg_12_11_53.2.2.1, rfl⟩
theorem zd_12_11_56 : zz_B zy_cyclesOf_12_11 56 Instr.goto 61 59 := ⟨5, zq_167 zg_12_11_53.2.2.2.1 zg_12_11_53.2.2.2.2.1 zg_12_11_53.2.2.2.2.2.1 (by decide), rfl, rfl⟩
theorem zd_12_11_27 : zz_D zy_cyclesOf_12_11 27 (.iload 4) 2 29 := ⟨zq_21 zg_12_11_53.2.2.2.2.2.2.1 zg_12_11_53.2.2.2.2.2.2.2.1, rfl⟩
theorem zd_12_11_29 : zz_D zy_cyclesOf_12_11 29 (.iconst 2) 1 30 := ⟨zq_5 zg_12_11_53.2.2.2.2.2.2.2.2.1, rfl⟩
theorem zd_12_11_30 : zz_D zy_cyclesOf_12_11 30 (.iload_n 2) 1 31 := ⟨zq_28 zg_12_11_53.2.2.2.2.2.2.2.2.2.1, rfl⟩
theorem zd_12_11_31 : zz_D zy_cyclesOf_12_11 31 (.imul) 1 32 := ⟨zq_104 zg_12_11_53.2.2.2.2.2.2.2.2.2.2.1, rfl⟩
theorem zd_12_11_32 : zz_D zy_cyclesOf_12_11 32 (.iadd) 1 33 := ⟨zq_96 zg_12_11_53.2.2.2.2.2.2.2.2.2.2.2.1, rfl⟩
theorem zd_12_11_33 : zz_D zy_cyclesOf_12_11 33 (.iconst 2) 1 34 := ⟨zq_5 zg_12_11_53.2.2.2.2.2.2.2.2.2.2.2.2.1, rfl⟩
theorem zd_12_11_34 : zz_D zy_cyclesOf_12_11 34 (.isub) 1 35 := ⟨zq_100 zg_12_11_53.2.2.2.2.2.2.2.2.2.2.2.2.2.1, rfl⟩
theorem zd_12_11_35 : zz_D zy_cyclesOf_12_11 35 (.ireturn) 1 36 := ⟨zq_172 zg_12_11_53.2.2.2.2.2.2.2.2.2.2.2.2.2.2.1, rfl⟩
theorem zd_12_11_20 : zz_D zy_cyclesOf_12_11 20 (.iconst 1) 1 21 := ⟨zq_4 zg_12_11_53.2.2.2.2.2.2.2.2.2.2.2.2.2.2.2.1, rfl⟩
theorem zd_12_11_21 : zz_D zy_cyclesOf_12_11 21 (.ireturn) 1 22 := ⟨zq_172 zg_12_11_53.2.2.2.2.2.2.2.2.2.2.2.2.2.2.2.2, rfl⟩
-- TensorForge$Words cyclesOf (JI)I
abbrev zr_cyclesOf_12_11 : Room := { frames := 1, cells := 0, slots := 0, locals := 15 }
def zp_cyclesOf_12_11 (p0 : Int) (p1 : Int) (S0 : zz_S) : Int → zz_S → Prop := fun r S => S0 = S ∧ ((-2147483648) ≤ r ∧ r ≤ 2147483647)
theorem zc_cyclesOf_12_11 {g : mm_G} {l : Launch} (p0 : Int) (p1 : Int) (S0 : zz_S) (n : Nat) (hn : zz_end ≤ n) (G_S0 : zz_G S0) (hp0 : (-9223372036854775808) ≤ p0 ∧ p0 ≤ 9223372036854775807) (hp1 : (-2147483648) ≤ p1 ∧ p1 ≤ 2147483647) : mm_Met g l zy_cyclesOf_12_11 zr_cyclesOf_12_11 [zl p0, zi p1] (zz_M S0 n) n (zz_QI n (zp_cyclesOf_12_11 p0 p1 S0)) := by
  refine zz_enter (by decide) (Nat.le_of_ble_eq_true rfl) (zz_less (ls1 := [some (zl p0), none, some (zi p1)]) ⟨rfl, ⟨rfl, trivial⟩⟩ ?_)
  refine zz_lload_n (x := p0) rfl zd_12_11_0 ?_
  refine zz_iconst zd_12_11_1 ?_
  refine zz_callSI [zl p0, zi 0] zd_12_11_2 zk_Words_16 rfl rfl ⟨Nat.le_of_ble_eq_true rfl, Nat.le_of_ble_eq_true rfl⟩ ⟨rfl, rfl⟩ (Nat.zero_le _) (Nat.zero_le _) (zc_get_12_2x_0 p0 S0 n hn G_S0 (by omega)) (fun v2 S1 hP => ?_)
  obtain ⟨rfl, o3, o4⟩ := hP
  subst o4
  refine zz_istore_n [some (zl p0), none, some (zi p1), some (zi (zz_fy p0 0 15))] zd_12_11_5 (by decide) rfl ?_
  refine zz_lload_n (x := p0) rfl zd_12_11_6 ?_
  refine zz_bipush (by decide) zd_12_11_7 ?_
  refine zz_callSI [zl p0, zi 6] zd_12_11_9 zk_Words_16 rfl rfl ⟨Nat.le_of_ble_eq_true rfl, Nat.le_of_ble_eq_true rfl⟩ ⟨rfl, rfl⟩ (Nat.zero_le _) (Nat.zero_le _) (zc_get_12_2x_6 p0 S0 n hn G_S0 (by omega)) (fun v6 S5 hP => ?_)
  obtain ⟨rfl, o7, o8⟩ := hP
  subst o8
  refine zz_istore [some (zl p0), none, some (zi p1), some (zi (zz_fy p0 0 15)), some (zi (zz_fy p0 20 63))] zd_12_11_12 (by decide) rfl ?_
  refine zz_iload_n (x := zz_fy p0 0 15) rfl zd_12_11_14 ?_
  refine zz_bipush (by decide) zd_12_11_15 ?_
  refine zz_icmp_ne (by omega) (by omega) zd_12_11_17 (fun c9 => ?_) (fun c9 => ?_)
  · refine zz_iload_n (x := zz_fy p0 0 15) rfl zd_12_11_22 ?_
    refine zz_iconst zd_12_11_23 ?_
    refine zz_icmp_ne (by omega) (by omega) zd_12_11_24 (fun c10 => ?_) (fun c10 => ?_)
    · refine zz_iload (x := zz_fy p0 20 63) rfl zd_12_11_36 ?_
      refine zz_lload_n (x := p0) rfl zd_12_11_38 ?_
      refine zz_bipush (by decide) zd_12_11_39 ?_
      refine zz_callSI [zl p0, zi 7] zd_12_11_41 zk_Words_16 rfl rfl ⟨Nat.le_of_ble_eq_true rfl, Nat.le_of_ble_eq_true rfl⟩ ⟨rfl, rfl⟩ (Nat.zero_le _) (Nat.zero_le _) (zc_get_12_2x_7 p0 S0 n hn G_S0 (by omega)) (fun v12 S11 hP => ?_)
      obtain ⟨rfl, o13, o14⟩ := hP
      subst o14
      refine zz_imul zd_12_11_44 ?_
      have m15 := zz_mulb (a := zz_fy p0 20 63) (b := zz_fy p0 26 31) 63 31 1953 (by omega) (by omega) (by decide)
      refine zz_istore [some (zl p0), none, some (zi p1), some (zi (zz_fy p0 0 15)), some (zi (zz_fy p0 20 63)), some (zi ((zz_fy p0 20 63) * (zz_fy p0 26 31)))] zd_12_11_45 (by decide) rfl ?_
      refine zz_iload_n (x := zz_fy p0 0 15) rfl zd_12_11_47 ?_
      refine zz_iconst zd_12_11_48 ?_
      refine zz_icmp_ne (by omega) (by omega) zd_12_11_49 (fun c16 => ?_) (fun c16 => ?_)
      · refine zz_iload (x := (zz_fy p0 20 63) * (zz_fy p0 26 31)) rfl zd_12_11_59 ?_
        exact zz_iret zd_12_11_61 rfl (Nat.zero_le _) (Nat.zero_le _) ⟨_, _, rfl, rfl, by omega⟩
      · refine zz_iconst zd_12_11_52 ?_
        refine zz_iload (x := (zz_fy p0 20 63) * (zz_fy p0 26 31)) rfl zd_12_11_53 ?_
        refine zz_imul zd_12_11_55 ?_
        refine zz_goto zd_12_11_56 ?_
        exact zz_iret zd_12_11_61 rfl (Nat.zero_le _) (Nat.zero_le _) ⟨_, _, rfl, rfl, by omega⟩
    · refine zz_iload (x := zz_fy p0 20 63) rfl zd_12_11_27 ?_
      refine zz_iconst zd_12_11_29 ?_
      refine zz_iload_n (x := p1) rfl zd_12_11_30 ?_
      refine zz_imul zd_12_11_31 ?_
      refine zz_nrm (fun v17 hv17 ev17 => ?_)
      refine zz_iadd zd_12_11_32 ?_
      refine zz_nrm (fun v18 hv18 ev18 => ?_)
      refine zz_iconst zd_12_11_33 ?_
      refine zz_isub zd_12_11_34 ?_
      refine zz_nrm (fun v19 hv19 ev19 => ?_)
      exact zz_iret zd_12_11_35 rfl (Nat.zero_le _) (Nat.zero_le _) ⟨_, _, rfl, rfl, by omega⟩
  · refine zz_iconst zd_12_11_20 ?_
    exact zz_iret zd_12_11_21 rfl (Nat.zero_le _) (Nat.zero_le _) ⟨_, _, rfl, rfl, by omega⟩
theorem zk_Run_139 : mm_Sl "TensorForge$Run" 139 2 zy_cyclesOf_12_11 := ⟨zyw_cyclesOf_12_11, mm_tb_1 783 (by decide +kernel) rfl, mm_tb_1 784 (by decide +kernel) rfl⟩
abbrev zy_popTokens_10_20 : mm_Y := (⟨"TensorForge$Run", "popTokens", "(IJ)V"⟩, prog_10_method_20_code, 4, none)
theorem zyw_popTokens_10_20 : mm_Yw zy_popTokens_10_20 2 := ⟨mm_tb_1 789 (by decide +kernel) rfl, mm_tb_1 6 (by decide +kernel) rfl, ⟨by decide, by decide⟩, by decide +kernel⟩
theorem zg_10_10_16 : zq_at zy_begin_10_10.2.1 16 54 ∧ zq_at zy_begin_10_10.2.1 17 4 ∧ zq_at zy_begin_10_10.2.1 18 42 ∧ zq_at zy_begin_10_10.2.1 19 27 ∧ zq_at zy_begin_10_10.2.1 20 42 ∧ zq_at zy_begin_10_10.2.1 21 180 ∧ zq_at zy_begin_10_10.2.1 22 0 ∧ zq_at zy_begin_10_10.2.1 23 19 ∧ zq_at zy_begin_10_10.2.1 24 28 ∧ zq_at zy_begin_10_10.2.1 25 47 ∧ zq_at zy_begin_10_10.2.1 26 182 ∧ zq_at zy_begin_10_10.2.1 27 0 ∧ zq_at zy_begin_10_10.2.1 28 143 := by decide +kernel
theorem zd_10_10_16 : zz_D zy_begin_10_10 16 (.istore 4) 2 18 := ⟨zq_54 zg_10_10_16.1 zg_10_10_16.2.1, rfl⟩
theorem zd_10_10_18 : zz_D zy_begin_10_10 18 (.aload_n 0) 1 19 := ⟨zq_42 zg_10_10_16.2.2.1, rfl⟩
theorem zd_10_10_19 : zz_D zy_begin_10_10 19 (.iload_n 1) 1 20 := ⟨zq_27 zg_10_10_16.2.2.2.1, rfl⟩
theorem zd_10_10_20 : zz_D zy_begin_10_10 20 (.aload_n 0) 1 21 := ⟨zq_42 zg_10_10_16.2.2.2.2.1, rfl⟩
theorem zd_10_10_21 : zz_D zy_begin_10_10 21 (.getfield 19) 3 24 := ⟨zq_180 zg_10_10_16.2.2.2.2.2.1 zg_10_10_16.2.2.2.2.2.2.1 zg_10_10_16.2.2.2.2.2.2.2.1 rfl, rfl⟩
theorem zd_10_10_24 : zz_D zy_begin_10_10 24 (.iload_n 2) 1 25 := ⟨zq_28 zg_10_10_16.2.2.2.2.2.2.2.2.1, rfl⟩
theorem zd_10_10_25 : zz_D zy_begin_10_10 25 (.laload) 1 26 := ⟨zq_47 zg_10_10_16.2.2.2.2.2.2.2.2.2.1, rfl⟩
theorem zd_10_10_26 : zz_D zy_begin_10_10 26 (.invokevirtual 143) 3 29 := ⟨zq_182 zg_10_10_16.2.2.2.2.2.2.2.2.2.2.1 zg_10_10_16.2.2.2.2.2.2.2.2.2.2.2.1 zg_10_10_16.2.2.2.2.2.2.2.2.2.2.2.2 rfl, rfl⟩
theorem zg_10_20_0 : zq_at zy_popTokens_10_20.2.1 0 42 ∧ zq_at zy_popTokens_10_20.2.1 1 27 ∧ zq_at zy_popTokens_10_20.2.1 2 184 ∧ zq_at zy_popTokens_10_20.2.1 3 0 ∧ zq_at zy_popTokens_10_20.2.1 4 154 ∧ zq_at zy_popTokens_10_20.2.1 5 32 ∧ zq_at zy_popTokens_10_20.2.1 6 4 ∧ zq_at zy_popTokens_10_20.2.1 7 184 ∧ zq_at zy_popTokens_10_20.2.1 8 0 ∧ zq_at zy_popTokens_10_20.2.1 9 163 ∧ zq_at zy_popTokens_10_20.2.1 10 116 ∧ zq_at zy_popTokens_10_20.2.1 11 182 ∧ zq_at zy_popTokens_10_20.2.1 12 0 ∧ zq_at zy_popTokens_10_20.2.1 13 166 ∧ zq_at zy_popTokens_10_20.2.1 14 42 ∧ zq_at zy_popTokens_10_20.2.1 15 27 ∧ zq_at zy_popTokens_10_20.2.1 16 184 ∧ zq_at zy_popTokens_10_20.2.1 17 0 ∧ zq_at zy_popTokens_10_20.2.1 18 160 ∧ zq_at zy_popTokens_10_20.2.1 19 32 ∧ zq_at zy_popTokens_10_20.2.1 20 5 ∧ zq_at zy_popTokens_10_20.2.1 21 184 ∧ zq_at zy_popTokens_10_20.2.1 22 0 ∧ zq_at zy_popTokens_10_20.2.1 23 163 := by decide +kernel
theorem zd_10_20_0 : zz_D zy_popTokens_10_20 0 (.aload_n 0) 1 1 := ⟨zq_42 zg_10_20_0.1, rfl⟩
theorem zd_10_20_1 : zz_D zy_popTokens_10_20 1 (.iload_n 1) 1 2 := ⟨zq_27 zg_10_20_0.2.1, rfl⟩
theorem zd_10_20_2 : zz_D zy_popTokens_10_20 2 (.invokestatic 154) 3 5 := ⟨zq_184 zg_10_20_0.2.2.1 zg_10_20_0.2.2.2.1 zg_10_20_0.2.2.2.2.1 rfl, rfl⟩
theorem zd_10_20_5 : zz_D zy_popTokens_10_20 5 (.lload_n 2) 1 6 := ⟨zq_32 zg_10_20_0.2.2.2.2.2.1, rfl⟩
theorem zd_10_20_6 : zz_D zy_popTokens_10_20 6 (.iconst 1) 1 7 := ⟨zq_4 zg_10_20_0.2.2.2.2.2.2.1, rfl⟩
theorem zd_10_20_7 : zz_D zy_popTokens_10_20 7 (.invokestatic 163) 3 10 := ⟨zq_184 zg_10_20_0.2.2.2.2.2.2.2.1 zg_10_20_0.2.2.2.2.2.2.2.2.1 zg_10_20_0.2.2.2.2.2.2.2.2.2.1 rfl, rfl⟩
theorem zd_10_20_10 : zz_D zy_popTokens_10_20 10 (.ineg) 1 11 := ⟨zq_116 zg_10_20_0.2.2.2.2.2.2.2.2.2.2.1, rfl⟩
theorem zd_10_20_11 : zz_D zy_popTokens_10_20 11 (.invokevirtual 166) 3 14 := ⟨zq_182 zg_10_20_0.2.2.2.2.2.2.2.2.2.2.2.1 zg_10_20_0.2.2.2.2.2.2.2.2.2.2.2.2.1 zg_10_20_0.2.2.2.2.2.2.2.2.2.2.2.2.2.1 rfl, rfl⟩
theorem zd_10_20_14 : zz_D zy_popTokens_10_20 14 (.aload_n 0) 1 15 := ⟨zq_42 zg_10_20_0.2.2.2.2.2.2.2.2.2.2.2.2.2.2.1, rfl⟩
theorem zd_10_20_15 : zz_D zy_popTokens_10_20 15 (.iload_n 1) 1 16 := ⟨zq_27 zg_10_20_0.2.2.2.2.2.2.2.2.2.2.2.2.2.2.2.1, rfl⟩
theorem zd_10_20_16 : zz_D zy_popTokens_10_20 16 (.invokestatic 160) 3 19 := ⟨zq_184 zg_10_20_0.2.2.2.2.2.2.2.2.2.2.2.2.2.2.2.2.1 zg_10_20_0.2.2.2.2.2.2.2.2.2.2.2.2.2.2.2.2.2.1 zg_10_20_0.2.2.2.2.2.2.2.2.2.2.2.2.2.2.2.2.2.2.1 rfl, rfl⟩
theorem zd_10_20_19 : zz_D zy_popTokens_10_20 19 (.lload_n 2) 1 20 := ⟨zq_32 zg_10_20_0.2.2.2.2.2.2.2.2.2.2.2.2.2.2.2.2.2.2.2.1, rfl⟩
theorem zd_10_20_20 : zz_D zy_popTokens_10_20 20 (.iconst 2) 1 21 := ⟨zq_5 zg_10_20_0.2.2.2.2.2.2.2.2.2.2.2.2.2.2.2.2.2.2.2.2.1, rfl⟩
theorem zd_10_20_21 : zz_D zy_popTokens_10_20 21 (.invokestatic 163) 3 24 := ⟨zq_184 zg_10_20_0.2.2.2.2.2.2.2.2.2.2.2.2.2.2.2.2.2.2.2.2.2.1 zg_10_20_0.2.2.2.2.2.2.2.2.2.2.2.2.2.2.2.2.2.2.2.2.2.2.1 zg_10_20_0.2.2.2.2.2.2.2.2.2.2.2.2.2.2.2.2.2.2.2.2.2.2.2 rfl, rfl⟩
theorem zg_10_20_24 : zq_at zy_popTokens_10_20.2.1 24 116 ∧ zq_at zy_popTokens_10_20.2.1 25 182 ∧ zq_at zy_popTokens_10_20.2.1 26 0 ∧ zq_at zy_popTokens_10_20.2.1 27 166 ∧ zq_at zy_popTokens_10_20.2.1 28 177 := by decide +kernel
theorem zd_10_20_24 : zz_D zy_popTokens_10_20 24 (.ineg) 1 25 := ⟨zq_116 zg_10_20_24.1, rfl⟩
theorem zd_10_20_25 : zz_D zy_popTokens_10_20 25 (.invokevirtual 166) 3 28 := ⟨zq_182 zg_10_20_24.2.1 zg_10_20_24.2.2.1 zg_10_20_24.2.2.2.1 rfl, rfl⟩
theorem zd_10_20_28 : zz_D zy_popTokens_10_20 28 (.return_) 1 29 := ⟨zq_177 zg_10_20_24.2.2.2.2, rfl⟩
-- TensorForge$Run popTokens (IJ)V
abbrev zr_popTokens_10_20 : Room := { frames := 1, cells := 0, slots := 0, locals := 16 }
def zp_popTokens_10_20 (p0 : Int) (p1 : Int) (S0 : zz_S) : zz_S → Prop := fun S => zz_G S ∧ zz_fr [] [1043] (fun _ _ => False) S0 S
theorem zc_popTokens_10_20 {g : mm_G} {l : Launch} (p0 : Int) (p1 : Int) (S0 : zz_S) (n : Nat) (hn : zz_end ≤ n) (G_S0 : zz_G S0) (hp0 : 0 ≤ p0 ∧ p0 ≤ 2) (hp1 : (-9223372036854775808) ≤ p1 ∧ p1 ≤ 9223372036854775807) : mm_Met g l zy_popTokens_10_20 zr_popTokens_10_20 [.ref 1042, zi p0, zl p1] (zz_M S0 n) n (zz_QV n (zp_popTokens_10_20 p0 p1 S0)) := by
  refine zz_enter (by decide) (Nat.le_of_ble_eq_true rfl) (zz_less (ls1 := [some (.ref 1042), some (zi p0), some (zl p1), none]) ⟨rfl, ⟨rfl, ⟨rfl, trivial⟩⟩⟩ ?_)
  have F_S0 : zz_fr [] [1043] (fun _ _ => False) S0 S0 := zz_fr.refl
  refine zz_aload_n (x := 1042) rfl zd_10_20_0 ?_
  refine zz_iload_n (x := p0) rfl zd_10_20_1 ?_
  refine zz_callSI [zi p0] zd_10_20_2 zk_Run_154 rfl rfl ⟨Nat.le_of_ble_eq_true rfl, Nat.le_of_ble_eq_true rfl⟩ ⟨rfl, rfl⟩ (Nat.zero_le _) (Nat.zero_le _) (zc_poppedBefore_10_13 p0 S0 n hn G_S0 (by omega)) (fun v2 S1 hP => ?_)
  obtain ⟨rfl, o3⟩ := hP
  refine zz_lload_n (x := p1) rfl zd_10_20_5 ?_
  refine zz_iconst zd_10_20_6 ?_
  refine zz_callSI [zl p1, zi 1] zd_10_20_7 zk_Run_163 rfl rfl ⟨Nat.le_of_ble_eq_true rfl, Nat.le_of_ble_eq_true rfl⟩ ⟨rfl, rfl⟩ (Nat.zero_le _) (Nat.zero_le _) (zc_get_12_2x_1 p1 S0 n hn G_S0 (by omega)) (fun v5 S4 hP => ?_)
  obtain ⟨rfl, o6, o7⟩ := hP
  subst o7
  refine zz_ineg zd_10_20_10 ?_
  refine zz_callVV [zi v2, zi (-(zz_fy p1 4 1))] zd_10_20_11 zk_Run_166 zT_1042 (zz_ltn hn rfl) rfl rfl ⟨Nat.le_of_ble_eq_true rfl, Nat.le_of_ble_eq_true rfl⟩ ⟨rfl, rfl⟩ (Nat.zero_le _) (Nat.zero_le _) (zc_addTokens_10_18 v2 (-(zz_fy p1 4 1)) S0 n hn G_S0 (by omega) (by omega)) (fun S8 hP => ?_)
  obtain ⟨G_S8, fS8⟩ := hP
  have F_S8 := zz_fr.trans F_S0 fS8 rfl zz_nv
  refine zz_aload_n (x := 1042) rfl zd_10_20_14 ?_
  refine zz_iload_n (x := p0) rfl zd_10_20_15 ?_
  refine zz_callSI [zi p0] zd_10_20_16 zk_Run_160 rfl rfl ⟨Nat.le_of_ble_eq_true rfl, Nat.le_of_ble_eq_true rfl⟩ ⟨rfl, rfl⟩ (Nat.zero_le _) (Nat.zero_le _) (zc_poppedBehind_10_14 p0 S8 n hn G_S8 (by omega)) (fun v11 S10 hP => ?_)
  obtain ⟨rfl, o12⟩ := hP
  refine zz_lload_n (x := p1) rfl zd_10_20_19 ?_
  refine zz_iconst zd_10_20_20 ?_
  refine zz_callSI [zl p1, zi 2] zd_10_20_21 zk_Run_163 rfl rfl ⟨Nat.le_of_ble_eq_true rfl, Nat.le_of_ble_eq_true rfl⟩ ⟨rfl, rfl⟩ (Nat.zero_le _) (Nat.zero_le _) (zc_get_12_2x_2 p1 S8 n hn G_S8 (by omega)) (fun v14 S13 hP => ?_)
  obtain ⟨rfl, o15, o16⟩ := hP
  subst o16
  refine zz_ineg zd_10_20_24 ?_
  refine zz_callVV [zi v11, zi (-(zz_fy p1 5 1))] zd_10_20_25 zk_Run_166 zT_1042 (zz_ltn hn rfl) rfl rfl ⟨Nat.le_of_ble_eq_true rfl, Nat.le_of_ble_eq_true rfl⟩ ⟨rfl, rfl⟩ (Nat.zero_le _) (Nat.zero_le _) (zc_addTokens_10_18 v11 (-(zz_fy p1 5 1)) S8 n hn G_S8 (by omega) (by omega)) (fun S17 hP => ?_)
  obtain ⟨G_S17, fS17⟩ := hP
  have F_S17 := zz_fr.trans F_S8 fS17 rfl zz_nv
  exact zz_vret zd_10_20_28 rfl (Nat.zero_le _) (Nat.zero_le _) ⟨_, rfl, G_S17, F_S17⟩
theorem zk_Run_143 : mm_Vl "TensorForge$Run" 143 5 2 zy_popTokens_10_20 := ⟨zyw_popTokens_10_20, (R_Run, F_Run, 10), rfl, mm_tb_1 786 (by decide +kernel) rfl, mm_tb_1 788 (by decide +kernel) rfl, mm_tb_s 26 (by decide +kernel) rfl⟩
abbrev zy_perform_6_10 : mm_Y := (⟨"TensorForge$Machine", "perform", "(J)V"⟩, prog_6_method_10_code, 3, none)
theorem zyw_perform_6_10 : mm_Yw zy_perform_6_10 1 := ⟨mm_tb_1 793 (by decide +kernel) rfl, mm_tb_1 4 (by decide +kernel) rfl, ⟨by decide, by decide⟩, by decide +kernel⟩
abbrev zy_decode_6_11 : mm_Y := (⟨"TensorForge$Machine", "decode", "(J)V"⟩, prog_6_method_11_code, 3, none)
theorem zyw_decode_6_11 : mm_Yw zy_decode_6_11 1 := ⟨mm_tb_1 797 (by decide +kernel) rfl, mm_tb_1 4 (by decide +kernel) rfl, ⟨by decide, by decide⟩, by decide +kernel⟩
theorem zf_Machine_110 : mm_Fl "TensorForge$Machine" 110 3 7 .int false := ⟨R_Machine, F_Machine, 14, t_Machine, rfl, i_Machine, by decide, mm_tb_1 194 (by decide +kernel) rfl, rfl, t_Machine_ok, n_Machine, rfl, by decide +kernel⟩
theorem zf_Machine_113 : mm_Fl "TensorForge$Machine" 113 3 8 .int false := ⟨R_Machine, F_Machine, 14, t_Machine, rfl, i_Machine, by decide, mm_tb_1 195 (by decide +kernel) rfl, rfl, t_Machine_ok, n_Machine, rfl, by decide +kernel⟩
theorem zf_Machine_116 : mm_Fl "TensorForge$Machine" 116 3 9 .int false := ⟨R_Machine, F_Machine, 14, t_Machine, rfl, i_Machine, by decide, mm_tb_1 196 (by decide +kernel) rfl, rfl, t_Machine_ok, n_Machine, rfl, by decide +kernel⟩
theorem zf_Machine_119 : mm_Fl "TensorForge$Machine" 119 3 10 .int false := ⟨R_Machine, F_Machine, 14, t_Machine, rfl, i_Machine, by decide, mm_tb_1 197 (by decide +kernel) rfl, rfl, t_Machine_ok, n_Machine, rfl, by decide +kernel⟩
theorem zf_Machine_122 : mm_Fl "TensorForge$Machine" 122 3 11 .int false := ⟨R_Machine, F_Machine, 14, t_Machine, rfl, i_Machine, by decide, mm_tb_1 198 (by decide +kernel) rfl, rfl, t_Machine_ok, n_Machine, rfl, by decide +kernel⟩
theorem zf_Machine_125 : mm_Fl "TensorForge$Machine" 125 3 12 .int false := ⟨R_Machine, F_Machine, 14, t_Machine, rfl, i_Machine, by decide, mm_tb_1 199 (by decide +kernel) rfl, rfl, t_Machine_ok, n_Machine, rfl, by decide +kernel⟩
theorem zf_Machine_128 : mm_Fl "TensorForge$Machine" 128 3 13 .int false := ⟨R_Machine, F_Machine, 14, t_Machine, rfl, i_Machine, by decide, mm_tb_1 200 (by decide +kernel) rfl, rfl, t_Machine_ok, n_Machine, rfl, by decide +kernel⟩
theorem zg_10_10_29 : zq_at zy_begin_10_10.2.1 29 42 ∧ zq_at zy_begin_10_10.2.1 30 180 ∧ zq_at zy_begin_10_10.2.1 31 0 ∧ zq_at zy_begin_10_10.2.1 32 23 ∧ zq_at zy_begin_10_10.2.1 33 28 ∧ zq_at zy_begin_10_10.2.1 34 29 ∧ zq_at zy_begin_10_10.2.1 35 79 ∧ zq_at zy_begin_10_10.2.1 36 42 ∧ zq_at zy_begin_10_10.2.1 37 180 ∧ zq_at zy_begin_10_10.2.1 38 0 ∧ zq_at zy_begin_10_10.2.1 39 26 ∧ zq_at zy_begin_10_10.2.1 40 28 ∧ zq_at zy_begin_10_10.2.1 41 29 ∧ zq_at zy_begin_10_10.2.1 42 21 ∧ zq_at zy_begin_10_10.2.1 43 4 ∧ zq_at zy_begin_10_10.2.1 44 96 ∧ zq_at zy_begin_10_10.2.1 45 79 ∧ zq_at zy_begin_10_10.2.1 46 42 ∧ zq_at zy_begin_10_10.2.1 47 180 ∧ zq_at zy_begin_10_10.2.1 48 0 ∧ zq_at zy_begin_10_10.2.1 49 15 ∧ zq_at zy_begin_10_10.2.1 50 6 ∧ zq_at zy_begin_10_10.2.1 51 27 ∧ zq_at zy_begin_10_10.2.1 52 96 := by decide +kernel
theorem zd_10_10_29 : zz_D zy_begin_10_10 29 (.aload_n 0) 1 30 := ⟨zq_42 zg_10_10_29.1, rfl⟩
theorem zd_10_10_30 : zz_D zy_begin_10_10 30 (.getfield 23) 3 33 := ⟨zq_180 zg_10_10_29.2.1 zg_10_10_29.2.2.1 zg_10_10_29.2.2.2.1 rfl, rfl⟩
theorem zd_10_10_33 : zz_D zy_begin_10_10 33 (.iload_n 2) 1 34 := ⟨zq_28 zg_10_10_29.2.2.2.2.1, rfl⟩
theorem zd_10_10_34 : zz_D zy_begin_10_10 34 (.iload_n 3) 1 35 := ⟨zq_29 zg_10_10_29.2.2.2.2.2.1, rfl⟩
theorem zd_10_10_35 : zz_D zy_begin_10_10 35 (.iastore) 1 36 := ⟨zq_79 zg_10_10_29.2.2.2.2.2.2.1, rfl⟩
theorem zd_10_10_36 : zz_D zy_begin_10_10 36 (.aload_n 0) 1 37 := ⟨zq_42 zg_10_10_29.2.2.2.2.2.2.2.1, rfl⟩
theorem zd_10_10_37 : zz_D zy_begin_10_10 37 (.getfield 26) 3 40 := ⟨zq_180 zg_10_10_29.2.2.2.2.2.2.2.2.1 zg_10_10_29.2.2.2.2.2.2.2.2.2.1 zg_10_10_29.2.2.2.2.2.2.2.2.2.2.1 rfl, rfl⟩
theorem zd_10_10_40 : zz_D zy_begin_10_10 40 (.iload_n 2) 1 41 := ⟨zq_28 zg_10_10_29.2.2.2.2.2.2.2.2.2.2.2.1, rfl⟩
theorem zd_10_10_41 : zz_D zy_begin_10_10 41 (.iload_n 3) 1 42 := ⟨zq_29 zg_10_10_29.2.2.2.2.2.2.2.2.2.2.2.2.1, rfl⟩
theorem zd_10_10_42 : zz_D zy_begin_10_10 42 (.iload 4) 2 44 := ⟨zq_21 zg_10_10_29.2.2.2.2.2.2.2.2.2.2.2.2.2.1 zg_10_10_29.2.2.2.2.2.2.2.2.2.2.2.2.2.2.1, rfl⟩
theorem zd_10_10_44 : zz_D zy_begin_10_10 44 (.iadd) 1 45 := ⟨zq_96 zg_10_10_29.2.2.2.2.2.2.2.2.2.2.2.2.2.2.2.1, rfl⟩
theorem zd_10_10_45 : zz_D zy_begin_10_10 45 (.iastore) 1 46 := ⟨zq_79 zg_10_10_29.2.2.2.2.2.2.2.2.2.2.2.2.2.2.2.2.1, rfl⟩
theorem zd_10_10_46 : zz_D zy_begin_10_10 46 (.aload_n 0) 1 47 := ⟨zq_42 zg_10_10_29.2.2.2.2.2.2.2.2.2.2.2.2.2.2.2.2.2.1, rfl⟩
theorem zd_10_10_47 : zz_D zy_begin_10_10 47 (.getfield 15) 3 50 := ⟨zq_180 zg_10_10_29.2.2.2.2.2.2.2.2.2.2.2.2.2.2.2.2.2.2.1 zg_10_10_29.2.2.2.2.2.2.2.2.2.2.2.2.2.2.2.2.2.2.2.1 zg_10_10_29.2.2.2.2.2.2.2.2.2.2.2.2.2.2.2.2.2.2.2.2.1 rfl, rfl⟩
theorem zd_10_10_50 : zz_D zy_begin_10_10 50 (.iconst 3) 1 51 := ⟨zq_6 zg_10_10_29.2.2.2.2.2.2.2.2.2.2.2.2.2.2.2.2.2.2.2.2.2.1, rfl⟩
theorem zd_10_10_51 : zz_D zy_begin_10_10 51 (.iload_n 1) 1 52 := ⟨zq_27 zg_10_10_29.2.2.2.2.2.2.2.2.2.2.2.2.2.2.2.2.2.2.2.2.2.2.1, rfl⟩
theorem zd_10_10_52 : zz_D zy_begin_10_10 52 (.iadd) 1 53 := ⟨zq_96 zg_10_10_29.2.2.2.2.2.2.2.2.2.2.2.2.2.2.2.2.2.2.2.2.2.2.2, rfl⟩
theorem zg_10_10_53 : zq_at zy_begin_10_10.2.1 53 92 ∧ zq_at zy_begin_10_10.2.1 54 46 ∧ zq_at zy_begin_10_10.2.1 55 21 ∧ zq_at zy_begin_10_10.2.1 56 4 ∧ zq_at zy_begin_10_10.2.1 57 96 ∧ zq_at zy_begin_10_10.2.1 58 79 ∧ zq_at zy_begin_10_10.2.1 59 42 ∧ zq_at zy_begin_10_10.2.1 60 180 ∧ zq_at zy_begin_10_10.2.1 61 0 ∧ zq_at zy_begin_10_10.2.1 62 32 ∧ zq_at zy_begin_10_10.2.1 63 27 ∧ zq_at zy_begin_10_10.2.1 64 28 ∧ zq_at zy_begin_10_10.2.1 65 79 ∧ zq_at zy_begin_10_10.2.1 66 42 ∧ zq_at zy_begin_10_10.2.1 67 180 ∧ zq_at zy_begin_10_10.2.1 68 0 ∧ zq_at zy_begin_10_10.2.1 69 29 ∧ zq_at zy_begin_10_10.2.1 70 27 ∧ zq_at zy_begin_10_10.2.1 71 42 ∧ zq_at zy_begin_10_10.2.1 72 27 ∧ zq_at zy_begin_10_10.2.1 73 28 ∧ zq_at zy_begin_10_10.2.1 74 4 ∧ zq_at zy_begin_10_10.2.1 75 96 := by decide +kernel
theorem zd_10_10_53 : zz_D zy_begin_10_10 53 (.dup2) 1 54 := ⟨zq_92 zg_10_10_53.1, rfl⟩
theorem zd_10_10_54 : zz_D zy_begin_10_10 54 (.iaload) 1 55 := ⟨zq_46 zg_10_10_53.2.1, rfl⟩
theorem zd_10_10_55 : zz_D zy_begin_10_10 55 (.iload 4) 2 57 := ⟨zq_21 zg_10_10_53.2.2.1 zg_10_10_53.2.2.2.1, rfl⟩
theorem zd_10_10_57 : zz_D zy_begin_10_10 57 (.iadd) 1 58 := ⟨zq_96 zg_10_10_53.2.2.2.2.1, rfl⟩
theorem zd_10_10_58 : zz_D zy_begin_10_10 58 (.iastore) 1 59 := ⟨zq_79 zg_10_10_53.2.2.2.2.2.1, rfl⟩
theorem zd_10_10_59 : zz_D zy_begin_10_10 59 (.aload_n 0) 1 60 := ⟨zq_42 zg_10_10_53.2.2.2.2.2.2.1, rfl⟩
theorem zd_10_10_60 : zz_D zy_begin_10_10 60 (.getfield 32) 3 63 := ⟨zq_180 zg_10_10_53.2.2.2.2.2.2.2.1 zg_10_10_53.2.2.2.2.2.2.2.2.1 zg_10_10_53.2.2.2.2.2.2.2.2.2.1 rfl, rfl⟩
theorem zd_10_10_63 : zz_D zy_begin_10_10 63 (.iload_n 1) 1 64 := ⟨zq_27 zg_10_10_53.2.2.2.2.2.2.2.2.2.2.1, rfl⟩
theorem zd_10_10_64 : zz_D zy_begin_10_10 64 (.iload_n 2) 1 65 := ⟨zq_28 zg_10_10_53.2.2.2.2.2.2.2.2.2.2.2.1, rfl⟩
theorem zd_10_10_65 : zz_D zy_begin_10_10 65 (.iastore) 1 66 := ⟨zq_79 zg_10_10_53.2.2.2.2.2.2.2.2.2.2.2.2.1, rfl⟩
theorem zd_10_10_66 : zz_D zy_begin_10_10 66 (.aload_n 0) 1 67 := ⟨zq_42 zg_10_10_53.2.2.2.2.2.2.2.2.2.2.2.2.2.1, rfl⟩
theorem zd_10_10_67 : zz_D zy_begin_10_10 67 (.getfield 29) 3 70 := ⟨zq_180 zg_10_10_53.2.2.2.2.2.2.2.2.2.2.2.2.2.2.1 zg_10_10_53.2.2.2.2.2.2.2.2.2.2.2.2.2.2.2.1 zg_10_10_53.2.2.2.2.2.2.2.2.2.2.2.2.2.2.2.2.1 rfl, rfl⟩
theorem zd_10_10_70 : zz_D zy_begin_10_10 70 (.iload_n 1) 1 71 := ⟨zq_27 zg_10_10_53.2.2.2.2.2.2.2.2.2.2.2.2.2.2.2.2.2.1, rfl⟩
theorem zd_10_10_71 : zz_D zy_begin_10_10 71 (.aload_n 0) 1 72 := ⟨zq_42 zg_10_10_53.2.2.2.2.2.2.2.2.2.2.2.2.2.2.2.2.2.2.1, rfl⟩
theorem zd_10_10_72 : zz_D zy_begin_10_10 72 (.iload_n 1) 1 73 := ⟨zq_27 zg_10_10_53.2.2.2.2.2.2.2.2.2.2.2.2.2.2.2.2.2.2.2.1, rfl⟩
theorem zd_10_10_73 : zz_D zy_begin_10_10 73 (.iload_n 2) 1 74 := ⟨zq_28 zg_10_10_53.2.2.2.2.2.2.2.2.2.2.2.2.2.2.2.2.2.2.2.2.1, rfl⟩
theorem zd_10_10_74 : zz_D zy_begin_10_10 74 (.iconst 1) 1 75 := ⟨zq_4 zg_10_10_53.2.2.2.2.2.2.2.2.2.2.2.2.2.2.2.2.2.2.2.2.2.1, rfl⟩
theorem zd_10_10_75 : zz_D zy_begin_10_10 75 (.iadd) 1 76 := ⟨zq_96 zg_10_10_53.2.2.2.2.2.2.2.2.2.2.2.2.2.2.2.2.2.2.2.2.2.2, rfl⟩
theorem zg_10_10_76 : zq_at zy_begin_10_10.2.1 76 182 ∧ zq_at zy_begin_10_10.2.1 77 0 ∧ zq_at zy_begin_10_10.2.1 78 98 ∧ zq_at zy_begin_10_10.2.1 79 79 ∧ zq_at zy_begin_10_10.2.1 80 42 ∧ zq_at zy_begin_10_10.2.1 81 180 ∧ zq_at zy_begin_10_10.2.1 82 0 ∧ zq_at zy_begin_10_10.2.1 83 37 ∧ zq_at zy_begin_10_10.2.1 84 27 ∧ zq_at zy_begin_10_10.2.1 85 50 ∧ zq_at zy_begin_10_10.2.1 86 58 ∧ zq_at zy_begin_10_10.2.1 87 5 ∧ zq_at zy_begin_10_10.2.1 88 42 ∧ zq_at zy_begin_10_10.2.1 89 180 ∧ zq_at zy_begin_10_10.2.1 90 0 ∧ zq_at zy_begin_10_10.2.1 91 37 ∧ zq_at zy_begin_10_10.2.1 92 27 ∧ zq_at zy_begin_10_10.2.1 93 42 ∧ zq_at zy_begin_10_10.2.1 94 180 ∧ zq_at zy_begin_10_10.2.1 95 0 ∧ zq_at zy_begin_10_10.2.1 96 42 ∧ zq_at zy_begin_10_10.2.1 97 83 ∧ zq_at zy_begin_10_10.2.1 98 42 := by decide +kernel
theorem zd_10_10_76 : zz_D zy_begin_10_10 76 (.invokevirtual 98) 3 79 := ⟨zq_182 zg_10_10_76.1 zg_10_10_76.2.1 zg_10_10_76.2.2.1 rfl, rfl⟩
theorem zd_10_10_79 : zz_D zy_begin_10_10 79 (.iastore) 1 80 := ⟨zq_79 zg_10_10_76.2.2.2.1, rfl⟩
theorem zd_10_10_80 : zz_D zy_begin_10_10 80 (.aload_n 0) 1 81 := ⟨zq_42 zg_10_10_76.2.2.2.2.1, rfl⟩
theorem zd_10_10_81 : zz_D zy_begin_10_10 81 (.getfield 37) 3 84 := ⟨zq_180 zg_10_10_76.2.2.2.2.2.1 zg_10_10_76.2.2.2.2.2.2.1 zg_10_10_76.2.2.2.2.2.2.2.1 rfl, rfl⟩
theorem zd_10_10_84 : zz_D zy_begin_10_10 84 (.iload_n 1) 1 85 := ⟨zq_27 zg_10_10_76.2.2.2.2.2.2.2.2.1, rfl⟩
theorem zd_10_10_85 : zz_D zy_begin_10_10 85 (.aaload) 1 86 := ⟨zq_50 zg_10_10_76.2.2.2.2.2.2.2.2.2.1, rfl⟩
theorem zd_10_10_86 : zz_D zy_begin_10_10 86 (.astore 5) 2 88 := ⟨zq_58 zg_10_10_76.2.2.2.2.2.2.2.2.2.2.1 zg_10_10_76.2.2.2.2.2.2.2.2.2.2.2.1, rfl⟩
theorem zd_10_10_88 : zz_D zy_begin_10_10 88 (.aload_n 0) 1 89 := ⟨zq_42 zg_10_10_76.2.2.2.2.2.2.2.2.2.2.2.2.1, rfl⟩
theorem zd_10_10_89 : zz_D zy_begin_10_10 89 (.getfield 37) 3 92 := ⟨zq_180 zg_10_10_76.2.2.2.2.2.2.2.2.2.2.2.2.2.1 zg_10_10_76.2.2.2.2.2.2.2.2.2.2.2.2.2.2.1 zg_10_10_76.2.2.2.2.2.2.2.2.2.2.2.2.2.2.2.1 rfl, rfl⟩
theorem zd_10_10_92 : zz_D zy_begin_10_10 92 (.iload_n 1) 1 93 := ⟨zq_27 zg_10_10_76.2.2.2.2.2.2.2.2.2.2.2.2.2.2.2.2.1, rfl⟩
theorem zd_10_10_93 : zz_D zy_begin_10_10 93 (.aload_n 0) 1 94 := ⟨zq_42 zg_10_10_76.2.2.2.2.2.2.2.2.2.2.2.2.2.2.2.2.2.1, rfl⟩
theorem zd_10_10_94 : zz_D zy_begin_10_10 94 (.getfield 42) 3 97 := ⟨zq_180 zg_10_10_76.2.2.2.2.2.2.2.2.2.2.2.2.2.2.2.2.2.2.1 zg_10_10_76.2.2.2.2.2.2.2.2.2.2.2.2.2.2.2.2.2.2.2.1 zg_10_10_76.2.2.2.2.2.2.2.2.2.2.2.2.2.2.2.2.2.2.2.2.1 rfl, rfl⟩
theorem zd_10_10_97 : zz_D zy_begin_10_10 97 (.aastore) 1 98 := ⟨zq_83 zg_10_10_76.2.2.2.2.2.2.2.2.2.2.2.2.2.2.2.2.2.2.2.2.2.1, rfl⟩
theorem zd_10_10_98 : zz_D zy_begin_10_10 98 (.aload_n 0) 1 99 := ⟨zq_42 zg_10_10_76.2.2.2.2.2.2.2.2.2.2.2.2.2.2.2.2.2.2.2.2.2.2, rfl⟩
theorem zg_10_10_99 : zq_at zy_begin_10_10.2.1 99 25 ∧ zq_at zy_begin_10_10.2.1 100 5 ∧ zq_at zy_begin_10_10.2.1 101 181 ∧ zq_at zy_begin_10_10.2.1 102 0 ∧ zq_at zy_begin_10_10.2.1 103 42 ∧ zq_at zy_begin_10_10.2.1 104 42 ∧ zq_at zy_begin_10_10.2.1 105 180 ∧ zq_at zy_begin_10_10.2.1 106 0 ∧ zq_at zy_begin_10_10.2.1 107 9 ∧ zq_at zy_begin_10_10.2.1 108 42 ∧ zq_at zy_begin_10_10.2.1 109 180 ∧ zq_at zy_begin_10_10.2.1 110 0 ∧ zq_at zy_begin_10_10.2.1 111 19 ∧ zq_at zy_begin_10_10.2.1 112 28 ∧ zq_at zy_begin_10_10.2.1 113 47 ∧ zq_at zy_begin_10_10.2.1 114 182 ∧ zq_at zy_begin_10_10.2.1 115 0 ∧ zq_at zy_begin_10_10.2.1 116 146 := by decide +kernel
theorem zd_10_10_99 : zz_D zy_begin_10_10 99 (.aload 5) 2 101 := ⟨zq_25 zg_10_10_99.1 zg_10_10_99.2.1, rfl⟩
theorem zd_10_10_101 : zz_D zy_begin_10_10 101 (.putfield 42) 3 104 := ⟨zq_181 zg_10_10_99.2.2.1 zg_10_10_99.2.2.2.1 zg_10_10_99.2.2.2.2.1 rfl, rfl⟩
theorem zd_10_10_104 : zz_D zy_begin_10_10 104 (.aload_n 0) 1 105 := ⟨zq_42 zg_10_10_99.2.2.2.2.2.1, rfl⟩
theorem zd_10_10_105 : zz_D zy_begin_10_10 105 (.getfield 9) 3 108 := ⟨zq_180 zg_10_10_99.2.2.2.2.2.2.1 zg_10_10_99.2.2.2.2.2.2.2.1 zg_10_10_99.2.2.2.2.2.2.2.2.1 rfl, rfl⟩
theorem zd_10_10_108 : zz_D zy_begin_10_10 108 (.aload_n 0) 1 109 := ⟨zq_42 zg_10_10_99.2.2.2.2.2.2.2.2.2.1, rfl⟩
theorem zd_10_10_109 : zz_D zy_begin_10_10 109 (.getfield 19) 3 112 := ⟨zq_180 zg_10_10_99.2.2.2.2.2.2.2.2.2.2.1 zg_10_10_99.2.2.2.2.2.2.2.2.2.2.2.1 zg_10_10_99.2.2.2.2.2.2.2.2.2.2.2.2.1 rfl, rfl⟩
theorem zd_10_10_112 : zz_D zy_begin_10_10 112 (.iload_n 2) 1 113 := ⟨zq_28 zg_10_10_99.2.2.2.2.2.2.2.2.2.2.2.2.2.1, rfl⟩
theorem zd_10_10_113 : zz_D zy_begin_10_10 113 (.laload) 1 114 := ⟨zq_47 zg_10_10_99.2.2.2.2.2.2.2.2.2.2.2.2.2.2.1, rfl⟩
theorem zd_10_10_114 : zz_D zy_begin_10_10 114 (.invokevirtual 146) 3 117 := ⟨zq_182 zg_10_10_99.2.2.2.2.2.2.2.2.2.2.2.2.2.2.2.1 zg_10_10_99.2.2.2.2.2.2.2.2.2.2.2.2.2.2.2.2.1 zg_10_10_99.2.2.2.2.2.2.2.2.2.2.2.2.2.2.2.2.2 rfl, rfl⟩
theorem zg_6_10_0 : zq_at zy_perform_6_10.2.1 0 42 ∧ zq_at zy_perform_6_10.2.1 1 31 ∧ zq_at zy_perform_6_10.2.1 2 182 ∧ zq_at zy_perform_6_10.2.1 3 0 ∧ zq_at zy_perform_6_10.2.1 4 84 := by decide +kernel
theorem zd_6_10_0 : zz_D zy_perform_6_10 0 (.aload_n 0) 1 1 := ⟨zq_42 zg_6_10_0.1, rfl⟩
theorem zd_6_10_1 : zz_D zy_perform_6_10 1 (.lload_n 1) 1 2 := ⟨zq_31 zg_6_10_0.2.1, rfl⟩
theorem zd_6_10_2 : zz_D zy_perform_6_10 2 (.invokevirtual 84) 3 5 := ⟨zq_182 zg_6_10_0.2.2.1 zg_6_10_0.2.2.2.1 zg_6_10_0.2.2.2.2 rfl, rfl⟩
theorem zg_6_11_0 : zq_at zy_decode_6_11.2.1 0 42 ∧ zq_at zy_decode_6_11.2.1 1 31 ∧ zq_at zy_decode_6_11.2.1 2 8 ∧ zq_at zy_decode_6_11.2.1 3 184 ∧ zq_at zy_decode_6_11.2.1 4 0 ∧ zq_at zy_decode_6_11.2.1 5 72 ∧ zq_at zy_decode_6_11.2.1 6 181 ∧ zq_at zy_decode_6_11.2.1 7 0 ∧ zq_at zy_decode_6_11.2.1 8 110 ∧ zq_at zy_decode_6_11.2.1 9 42 ∧ zq_at zy_decode_6_11.2.1 10 31 ∧ zq_at zy_decode_6_11.2.1 11 16 ∧ zq_at zy_decode_6_11.2.1 12 6 ∧ zq_at zy_decode_6_11.2.1 13 184 ∧ zq_at zy_decode_6_11.2.1 14 0 ∧ zq_at zy_decode_6_11.2.1 15 72 ∧ zq_at zy_decode_6_11.2.1 16 181 ∧ zq_at zy_decode_6_11.2.1 17 0 ∧ zq_at zy_decode_6_11.2.1 18 113 ∧ zq_at zy_decode_6_11.2.1 19 42 ∧ zq_at zy_decode_6_11.2.1 20 31 ∧ zq_at zy_decode_6_11.2.1 21 16 ∧ zq_at zy_decode_6_11.2.1 22 7 := by decide +kernel
theorem zd_6_11_0 : zz_D zy_decode_6_11 0 (.aload_n 0) 1 1 := ⟨zq_42 zg_6_11_0.1, rfl⟩
theorem zd_6_11_1 : zz_D zy_decode_6_11 1 (.lload_n 1) 1 2 := ⟨zq_31 zg_6_11_0.2.1, rfl⟩
theorem zd_6_11_2 : zz_D zy_decode_6_11 2 (.iconst 5) 1 3 := ⟨zq_8 zg_6_11_0.2.2.1, rfl⟩
theorem zd_6_11_3 : zz_D zy_decode_6_11 3 (.invokestatic 72) 3 6 := ⟨zq_184 zg_6_11_0.2.2.2.1 zg_6_11_0.2.2.2.2.1 zg_6_11_0.2.2.2.2.2.1 rfl, rfl⟩
theorem zd_6_11_6 : zz_D zy_decode_6_11 6 (.putfield 110) 3 9 := ⟨zq_181 zg_6_11_0.2.2.2.2.2.2.1 zg_6_11_0.2.2.2.2.2.2.2.1 zg_6_11_0.2.2.2.2.2.2.2.2.1 rfl, rfl⟩
theorem zd_6_11_9 : zz_D zy_decode_6_11 9 (.aload_n 0) 1 10 := ⟨zq_42 zg_6_11_0.2.2.2.2.2.2.2.2.2.1, rfl⟩
theorem zd_6_11_10 : zz_D zy_decode_6_11 10 (.lload_n 1) 1 11 := ⟨zq_31 zg_6_11_0.2.2.2.2.2.2.2.2.2.2.1, rfl⟩
theorem zd_6_11_11 : zz_D zy_decode_6_11 11 (.bipush 6) 2 13 := ⟨zq_16 zg_6_11_0.2.2.2.2.2.2.2.2.2.2.2.1 zg_6_11_0.2.2.2.2.2.2.2.2.2.2.2.2.1 (by decide), rfl⟩
theorem zd_6_11_13 : zz_D zy_decode_6_11 13 (.invokestatic 72) 3 16 := ⟨zq_184 zg_6_11_0.2.2.2.2.2.2.2.2.2.2.2.2.2.1 zg_6_11_0.2.2.2.2.2.2.2.2.2.2.2.2.2.2.1 zg_6_11_0.2.2.2.2.2.2.2.2.2.2.2.2.2.2.2.1 rfl, rfl⟩
theorem zd_6_11_16 : zz_D zy_decode_6_11 16 (.putfield 113) 3 19 := ⟨zq_181 zg_6_11_0.2.2.2.2.2.2.2.2.2.2.2.2.2.2.2.2.1 zg_6_11_0.2.2.2.2.2.2.2.2.2.2.2.2.2.2.2.2.2.1 zg_6_11_0.2.2.2.2.2.2.2.2.2.2.2.2.2.2.2.2.2.2.1 rfl, rfl⟩
theorem zd_6_11_19 : zz_D zy_decode_6_11 19 (.aload_n 0) 1 20 := ⟨zq_42 zg_6_11_0.2.2.2.2.2.2.2.2.2.2.2.2.2.2.2.2.2.2.2.1, rfl⟩
theorem zd_6_11_20 : zz_D zy_decode_6_11 20 (.lload_n 1) 1 21 := ⟨zq_31 zg_6_11_0.2.2.2.2.2.2.2.2.2.2.2.2.2.2.2.2.2.2.2.2.1, rfl⟩
theorem zd_6_11_21 : zz_D zy_decode_6_11 21 (.bipush 7) 2 23 := ⟨zq_16 zg_6_11_0.2.2.2.2.2.2.2.2.2.2.2.2.2.2.2.2.2.2.2.2.2.1 zg_6_11_0.2.2.2.2.2.2.2.2.2.2.2.2.2.2.2.2.2.2.2.2.2.2 (by decide), rfl⟩
theorem zg_6_11_23 : zq_at zy_decode_6_11.2.1 23 184 ∧ zq_at zy_decode_6_11.2.1 24 0 ∧ zq_at zy_decode_6_11.2.1 25 72 ∧ zq_at zy_decode_6_11.2.1 26 181 ∧ zq_at zy_decode_6_11.2.1 27 0 ∧ zq_at zy_decode_6_11.2.1 28 116 ∧ zq_at zy_decode_6_11.2.1 29 42 ∧ zq_at zy_decode_6_11.2.1 30 31 ∧ zq_at zy_decode_6_11.2.1 31 16 ∧ zq_at zy_decode_6_11.2.1 32 8 ∧ zq_at zy_decode_6_11.2.1 33 184 ∧ zq_at zy_decode_6_11.2.1 34 0 ∧ zq_at zy_decode_6_11.2.1 35 72 ∧ zq_at zy_decode_6_11.2.1 36 181 ∧ zq_at zy_decode_6_11.2.1 37 0 ∧ zq_at zy_decode_6_11.2.1 38 119 ∧ zq_at zy_decode_6_11.2.1 39 42 ∧ zq_at zy_decode_6_11.2.1 40 31 ∧ zq_at zy_decode_6_11.2.1 41 16 ∧ zq_at zy_decode_6_11.2.1 42 9 ∧ zq_at zy_decode_6_11.2.1 43 184 ∧ zq_at zy_decode_6_11.2.1 44 0 ∧ zq_at zy_decode_6_11.2.1 45 72 := by decide +kernel
theorem zd_6_11_23 : zz_D zy_decode_6_11 23 (.invokestatic 72) 3 26 := ⟨zq_184 zg_6_11_23.1 zg_6_11_23.2.1 zg_6_11_23.2.2.1 rfl, rfl⟩
theorem zd_6_11_26 : zz_D zy_decode_6_11 26 (.putfield 116) 3 29 := ⟨zq_181 zg_6_11_23.2.2.2.1 zg_6_11_23.2.2.2.2.1 zg_6_11_23.2.2.2.2.2.1 rfl, rfl⟩
theorem zd_6_11_29 : zz_D zy_decode_6_11 29 (.aload_n 0) 1 30 := ⟨zq_42 zg_6_11_23.2.2.2.2.2.2.1, rfl⟩
theorem zd_6_11_30 : zz_D zy_decode_6_11 30 (.lload_n 1) 1 31 := ⟨zq_31 zg_6_11_23.2.2.2.2.2.2.2.1, rfl⟩
theorem zd_6_11_31 : zz_D zy_decode_6_11 31 (.bipush 8) 2 33 := ⟨zq_16 zg_6_11_23.2.2.2.2.2.2.2.2.1 zg_6_11_23.2.2.2.2.2.2.2.2.2.1 (by decide), rfl⟩
theorem zd_6_11_33 : zz_D zy_decode_6_11 33 (.invokestatic 72) 3 36 := ⟨zq_184 zg_6_11_23.2.2.2.2.2.2.2.2.2.2.1 zg_6_11_23.2.2.2.2.2.2.2.2.2.2.2.1 zg_6_11_23.2.2.2.2.2.2.2.2.2.2.2.2.1 rfl, rfl⟩
theorem zd_6_11_36 : zz_D zy_decode_6_11 36 (.putfield 119) 3 39 := ⟨zq_181 zg_6_11_23.2.2.2.2.2.2.2.2.2.2.2.2.2.1 zg_6_11_23.2.2.2.2.2.2.2.2.2.2.2.2.2.2.1 zg_6_11_23.2.2.2.2.2.2.2.2.2.2.2.2.2.2.2.1 rfl, rfl⟩
theorem zd_6_11_39 : zz_D zy_decode_6_11 39 (.aload_n 0) 1 40 := ⟨zq_42 zg_6_11_23.2.2.2.2.2.2.2.2.2.2.2.2.2.2.2.2.1, rfl⟩
theorem zd_6_11_40 : zz_D zy_decode_6_11 40 (.lload_n 1) 1 41 := ⟨zq_31 zg_6_11_23.2.2.2.2.2.2.2.2.2.2.2.2.2.2.2.2.2.1, rfl⟩
theorem zd_6_11_41 : zz_D zy_decode_6_11 41 (.bipush 9) 2 43 := ⟨zq_16 zg_6_11_23.2.2.2.2.2.2.2.2.2.2.2.2.2.2.2.2.2.2.1 zg_6_11_23.2.2.2.2.2.2.2.2.2.2.2.2.2.2.2.2.2.2.2.1 (by decide), rfl⟩
theorem zd_6_11_43 : zz_D zy_decode_6_11 43 (.invokestatic 72) 3 46 := ⟨zq_184 zg_6_11_23.2.2.2.2.2.2.2.2.2.2.2.2.2.2.2.2.2.2.2.2.1 zg_6_11_23.2.2.2.2.2.2.2.2.2.2.2.2.2.2.2.2.2.2.2.2.2.1 zg_6_11_23.2.2.2.2.2.2.2.2.2.2.2.2.2.2.2.2.2.2.2.2.2.2 rfl, rfl⟩
theorem zg_6_11_46 : zq_at zy_decode_6_11.2.1 46 181 ∧ zq_at zy_decode_6_11.2.1 47 0 ∧ zq_at zy_decode_6_11.2.1 48 122 ∧ zq_at zy_decode_6_11.2.1 49 42 ∧ zq_at zy_decode_6_11.2.1 50 31 ∧ zq_at zy_decode_6_11.2.1 51 16 ∧ zq_at zy_decode_6_11.2.1 52 10 ∧ zq_at zy_decode_6_11.2.1 53 184 ∧ zq_at zy_decode_6_11.2.1 54 0 ∧ zq_at zy_decode_6_11.2.1 55 72 ∧ zq_at zy_decode_6_11.2.1 56 181 ∧ zq_at zy_decode_6_11.2.1 57 0 ∧ zq_at zy_decode_6_11.2.1 58 125 ∧ zq_at zy_decode_6_11.2.1 59 42 ∧ zq_at zy_decode_6_11.2.1 60 31 ∧ zq_at zy_decode_6_11.2.1 61 16 ∧ zq_at zy_decode_6_11.2.1 62 11 ∧ zq_at zy_decode_6_11.2.1 63 184 ∧ zq_at zy_decode_6_11.2.1 64 0 ∧ zq_at zy_decode_6_11.2.1 65 72 ∧ zq_at zy_decode_6_11.2.1 66 181 ∧ zq_at zy_decode_6_11.2.1 67 0 ∧ zq_at zy_decode_6_11.2.1 68 128 ∧ zq_at zy_decode_6_11.2.1 69 177 := by decide +kernel
theorem zd_6_11_46 : zz_D zy_decode_6_11 46 (.putfield 122) 3 49 := ⟨zq_181 zg_6_11_46.1 zg_6_11_46.2.1 zg_6_11_46.2.2.1 rfl, rfl⟩
theorem zd_6_11_49 : zz_D zy_decode_6_11 49 (.aload_n 0) 1 50 := ⟨zq_42 zg_6_11_46.2.2.2.1, rfl⟩
theorem zd_6_11_50 : zz_D zy_decode_6_11 50 (.lload_n 1) 1 51 := ⟨zq_31 zg_6_11_46.2.2.2.2.1, rfl⟩
theorem zd_6_11_51 : zz_D zy_decode_6_11 51 (.bipush 10) 2 53 := ⟨zq_16 zg_6_11_46.2.2.2.2.2.1 zg_6_11_46.2.2.2.2.2.2.1 (by decide), rfl⟩
theorem zd_6_11_53 : zz_D zy_decode_6_11 53 (.invokestatic 72) 3 56 := ⟨zq_184 zg_6_11_46.2.2.2.2.2.2.2.1 zg_6_11_46.2.2.2.2.2.2.2.2.1 zg_6_11_46.2.2.2.2.2.2.2.2.2.1 rfl, rfl⟩
theorem zd_6_11_56 : zz_D zy_decode_6_11 56 (.putfield 125) 3 59 := ⟨zq_181 zg_6_11_46.2.2.2.2.2.2.2.2.2.2.1 zg_6_11_46.2.2.2.2.2.2.2.2.2.2.2.1 zg_6_11_46.2.2.2.2.2.2.2.2.2.2.2.2.1 rfl, rfl⟩
theorem zd_6_11_59 : zz_D zy_decode_6_11 59 (.aload_n 0) 1 60 := ⟨zq_42 zg_6_11_46.2.2.2.2.2.2.2.2.2.2.2.2.2.1, rfl⟩
theorem zd_6_11_60 : zz_D zy_decode_6_11 60 (.lload_n 1) 1 61 := ⟨zq_31 zg_6_11_46.2.2.2.2.2.2.2.2.2.2.2.2.2.2.1, rfl⟩
theorem zd_6_11_61 : zz_D zy_decode_6_11 61 (.bipush 11) 2 63 := ⟨zq_16 zg_6_11_46.2.2.2.2.2.2.2.2.2.2.2.2.2.2.2.1 zg_6_11_46.2.2.2.2.2.2.2.2.2.2.2.2.2.2.2.2.1 (by decide), rfl⟩
theorem zd_6_11_63 : zz_D zy_decode_6_11 63 (.invokestatic 72) 3 66 := ⟨zq_184 zg_6_11_46.2.2.2.2.2.2.2.2.2.2.2.2.2.2.2.2.2.1 zg_6_11_46.2.2.2.2.2.2.2.2.2.2.2.2.2.2.2.2.2.2.1 zg_6_11_46.2.2.2.2.2.2.2.2.2.2.2.2.2.2.2.2.2.2.2.1 rfl, rfl⟩
theorem zd_6_11_66 : zz_D zy_decode_6_11 66 (.putfield 128) 3 69 := ⟨zq_181 zg_6_11_46.2.2.2.2.2.2.2.2.2.2.2.2.2.2.2.2.2.2.2.2.1 zg_6_11_46.2.2.2.2.2.2.2.2.2.2.2.2.2.2.2.2.2.2.2.2.2.1 zg_6_11_46.2.2.2.2.2.2.2.2.2.2.2.2.2.2.2.2.2.2.2.2.2.2.1 rfl, rfl⟩
theorem zd_6_11_69 : zz_D zy_decode_6_11 69 (.return_) 1 70 := ⟨zq_177 zg_6_11_46.2.2.2.2.2.2.2.2.2.2.2.2.2.2.2.2.2.2.2.2.2.2.2, rfl⟩
-- TensorForge$Machine decode (J)V
abbrev zr_decode_6_11 : Room := { frames := 1, cells := 0, slots := 0, locals := 15 }
def zp_decode_6_11 (p0 : Int) (S0 : zz_S) : zz_S → Prop := fun S => zz_G S ∧ zz_fr [(1031, 7), (1031, 8), (1031, 9), (1031, 10), (1031, 11), (1031, 12), (1031, 13)] [] (fun _ _ => False) S0 S ∧ (S 1031 7 = zz_fy p0 8 4095 ∧ 0 ≤ S 1031 7 ∧ S 1031 7 ≤ 4095) ∧ (S 1031 8 = zz_fy p0 20 63 ∧ 0 ≤ S 1031 8 ∧ S 1031 8 ≤ 63) ∧ (S 1031 9 = zz_fy p0 26 31 ∧ 0 ≤ S 1031 9 ∧ S 1031 9 ≤ 31) ∧ (S 1031 10 = zz_fy p0 31 511 ∧ 0 ≤ S 1031 10 ∧ S 1031 10 ≤ 511) ∧ (S 1031 11 = zz_fy p0 40 511 ∧ 0 ≤ S 1031 11 ∧ S 1031 11 ≤ 511) ∧ (S 1031 12 = zz_fy p0 49 1023 ∧ 0 ≤ S 1031 12 ∧ S 1031 12 ≤ 1023) ∧ (S 1031 13 = zz_fy p0 59 31 ∧ 0 ≤ S 1031 13 ∧ S 1031 13 ≤ 31)
theorem zc_decode_6_11 {g : mm_G} {l : Launch} (p0 : Int) (S0 : zz_S) (n : Nat) (hn : zz_end ≤ n) (G_S0 : zz_G S0) (hp0 : (-9223372036854775808) ≤ p0 ∧ p0 ≤ 9223372036854775807) : mm_Met g l zy_decode_6_11 zr_decode_6_11 [.ref 1031, zl p0] (zz_M S0 n) n (zz_QV n (zp_decode_6_11 p0 S0)) := by
  refine zz_enter (by decide) (Nat.le_of_ble_eq_true rfl) (zz_less (ls1 := [some (.ref 1031), some (zl p0), none]) ⟨rfl, ⟨rfl, trivial⟩⟩ ?_)
  have F_S0 : zz_fr [(1031, 7), (1031, 8), (1031, 9), (1031, 10), (1031, 11), (1031, 12), (1031, 13)] [] (fun _ _ => False) S0 S0 := zz_fr.refl
  refine zz_aload_n (x := 1031) rfl zd_6_11_0 ?_
  refine zz_lload_n (x := p0) rfl zd_6_11_1 ?_
  refine zz_iconst zd_6_11_2 ?_
  refine zz_callSI [zl p0, zi 5] zd_6_11_3 zk_Machine_72 rfl rfl ⟨Nat.le_of_ble_eq_true rfl, Nat.le_of_ble_eq_true rfl⟩ ⟨rfl, rfl⟩ (Nat.zero_le _) (Nat.zero_le _) (zc_get_12_2x_5 p0 S0 n hn G_S0 (by omega)) (fun v2 S1 hP => ?_)
  obtain ⟨rfl, o3, o4⟩ := hP
  subst o4
  refine zz_puti zd_6_11_6 zf_Machine_110 zT_1031 rfl (zz_ltn hn rfl) (fun S5 qS5 => ?_)
  have G_S5 := zz_G.put G_S0 qS5 0 4095 rfl (by omega)
  have F_S5 := zz_fr.puts F_S0 qS5 rfl
  refine zz_aload_n (x := 1031) rfl zd_6_11_9 ?_
  refine zz_lload_n (x := p0) rfl zd_6_11_10 ?_
  refine zz_bipush (by decide) zd_6_11_11 ?_
  refine zz_callSI [zl p0, zi 6] zd_6_11_13 zk_Machine_72 rfl rfl ⟨Nat.le_of_ble_eq_true rfl, Nat.le_of_ble_eq_true rfl⟩ ⟨rfl, rfl⟩ (Nat.zero_le _) (Nat.zero_le _) (zc_get_12_2x_6 p0 S5 n hn G_S5 (by omega)) (fun v7 S6 hP => ?_)
  obtain ⟨rfl, o8, o9⟩ := hP
  subst o9
  refine zz_puti zd_6_11_16 zf_Machine_113 zT_1031 rfl (zz_ltn hn rfl) (fun S10 qS10 => ?_)
  have G_S10 := zz_G.put G_S5 qS10 0 63 rfl (by omega)
  have F_S10 := zz_fr.puts F_S5 qS10 rfl
  refine zz_aload_n (x := 1031) rfl zd_6_11_19 ?_
  refine zz_lload_n (x := p0) rfl zd_6_11_20 ?_
  refine zz_bipush (by decide) zd_6_11_21 ?_
  refine zz_callSI [zl p0, zi 7] zd_6_11_23 zk_Machine_72 rfl rfl ⟨Nat.le_of_ble_eq_true rfl, Nat.le_of_ble_eq_true rfl⟩ ⟨rfl, rfl⟩ (Nat.zero_le _) (Nat.zero_le _) (zc_get_12_2x_7 p0 S10 n hn G_S10 (by omega)) (fun v12 S11 hP => ?_)
  obtain ⟨rfl, o13, o14⟩ := hP
  subst o14
  refine zz_puti zd_6_11_26 zf_Machine_116 zT_1031 rfl (zz_ltn hn rfl) (fun S15 qS15 => ?_)
  have G_S15 := zz_G.put G_S10 qS15 0 31 rfl (by omega)
  have F_S15 := zz_fr.puts F_S10 qS15 rfl
  refine zz_aload_n (x := 1031) rfl zd_6_11_29 ?_
  refine zz_lload_n (x := p0) rfl zd_6_11_30 ?_
  refine zz_bipush (by decide) zd_6_11_31 ?_
  refine zz_callSI [zl p0, zi 8] zd_6_11_33 zk_Machine_72 rfl rfl ⟨Nat.le_of_ble_eq_true rfl, Nat.le_of_ble_eq_true rfl⟩ ⟨rfl, rfl⟩ (Nat.zero_le _) (Nat.zero_le _) (zc_get_12_2x_8 p0 S15 n hn G_S15 (by omega)) (fun v17 S16 hP => ?_)
  obtain ⟨rfl, o18, o19⟩ := hP
  subst o19
  refine zz_puti zd_6_11_36 zf_Machine_119 zT_1031 rfl (zz_ltn hn rfl) (fun S20 qS20 => ?_)
  have G_S20 := zz_G.put G_S15 qS20 0 511 rfl (by omega)
  have F_S20 := zz_fr.puts F_S15 qS20 rfl
  refine zz_aload_n (x := 1031) rfl zd_6_11_39 ?_
  refine zz_lload_n (x := p0) rfl zd_6_11_40 ?_
  refine zz_bipush (by decide) zd_6_11_41 ?_
  refine zz_callSI [zl p0, zi 9] zd_6_11_43 zk_Machine_72 rfl rfl ⟨Nat.le_of_ble_eq_true rfl, Nat.le_of_ble_eq_true rfl⟩ ⟨rfl, rfl⟩ (Nat.zero_le _) (Nat.zero_le _) (zc_get_12_2x_9 p0 S20 n hn G_S20 (by omega)) (fun v22 S21 hP => ?_)
  obtain ⟨rfl, o23, o24⟩ := hP
  subst o24
  refine zz_puti zd_6_11_46 zf_Machine_122 zT_1031 rfl (zz_ltn hn rfl) (fun S25 qS25 => ?_)
  have G_S25 := zz_G.put G_S20 qS25 0 511 rfl (by omega)
  have F_S25 := zz_fr.puts F_S20 qS25 rfl
  refine zz_aload_n (x := 1031) rfl zd_6_11_49 ?_
  refine zz_lload_n (x := p0) rfl zd_6_11_50 ?_
  refine zz_bipush (by decide) zd_6_11_51 ?_
  refine zz_callSI [zl p0, zi 10] zd_6_11_53 zk_Machine_72 rfl rfl ⟨Nat.le_of_ble_eq_true rfl, Nat.le_of_ble_eq_true rfl⟩ ⟨rfl, rfl⟩ (Nat.zero_le _) (Nat.zero_le _) (zc_get_12_2x_10 p0 S25 n hn G_S25 (by omega)) (fun v27 S26 hP => ?_)
  obtain ⟨rfl, o28, o29⟩ := hP
  subst o29
  refine zz_puti zd_6_11_56 zf_Machine_125 zT_1031 rfl (zz_ltn hn rfl) (fun S30 qS30 => ?_)
  have G_S30 := zz_G.put G_S25 qS30 0 1023 rfl (by omega)
  have F_S30 := zz_fr.puts F_S25 qS30 rfl
  refine zz_aload_n (x := 1031) rfl zd_6_11_59 ?_
  refine zz_lload_n (x := p0) rfl zd_6_11_60 ?_
  refine zz_bipush (by decide) zd_6_11_61 ?_
  refine zz_callSI [zl p0, zi 11] zd_6_11_63 zk_Machine_72 rfl rfl ⟨Nat.le_of_ble_eq_true rfl, Nat.le_of_ble_eq_true rfl⟩ ⟨rfl, rfl⟩ (Nat.zero_le _) (Nat.zero_le _) (zc_get_12_2x_11 p0 S30 n hn G_S30 (by omega)) (fun v32 S31 hP => ?_)
  obtain ⟨rfl, o33, o34⟩ := hP
  subst o34
  refine zz_puti zd_6_11_66 zf_Machine_128 zT_1031 rfl (zz_ltn hn rfl) (fun S35 qS35 => ?_)
  have G_S35 := zz_G.put G_S30 qS35 0 31 rfl (by omega)
  have F_S35 := zz_fr.puts F_S30 qS35 rfl
  have e36 : S35 1031 7 = zz_fy p0 8 4095 := (zz_ro qS35 (fun h => absurd h.2 (by decide)) (zz_ro qS30 (fun h => absurd h.2 (by decide)) (zz_ro qS25 (fun h => absurd h.2 (by decide)) (zz_ro qS20 (fun h => absurd h.2 (by decide)) (zz_ro qS15 (fun h => absurd h.2 (by decide)) (zz_ro qS10 (fun h => absurd h.2 (by decide)) (zz_rs qS5)))))))
  have e37 : S35 1031 8 = zz_fy p0 20 63 := (zz_ro qS35 (fun h => absurd h.2 (by decide)) (zz_ro qS30 (fun h => absurd h.2 (by decide)) (zz_ro qS25 (fun h => absurd h.2 (by decide)) (zz_ro qS20 (fun h => absurd h.2 (by decide)) (zz_ro qS15 (fun h => absurd h.2 (by decide)) (zz_rs qS10))))))
  have e38 : S35 1031 9 = zz_fy p0 26 31 := (zz_ro qS35 (fun h => absurd h.2 (by decide)) (zz_ro qS30 (fun h => absurd h.2 (by decide)) (zz_ro qS25 (fun h => absurd h.2 (by decide)) (zz_ro qS20 (fun h => absurd h.2 (by decide)) (zz_rs qS15)))))
  have e39 : S35 1031 10 = zz_fy p0 31 511 := (zz_ro qS35 (fun h => absurd h.2 (by decide)) (zz_ro qS30 (fun h => absurd h.2 (by decide)) (zz_ro qS25 (fun h => absurd h.2 (by decide)) (zz_rs qS20))))
  have e40 : S35 1031 11 = zz_fy p0 40 511 := (zz_ro qS35 (fun h => absurd h.2 (by decide)) (zz_ro qS30 (fun h => absurd h.2 (by decide)) (zz_rs qS25)))
  have e41 : S35 1031 12 = zz_fy p0 49 1023 := (zz_ro qS35 (fun h => absurd h.2 (by decide)) (zz_rs qS30))
  have e42 : S35 1031 13 = zz_fy p0 59 31 := (zz_rs qS35)
  exact zz_vret zd_6_11_69 rfl (Nat.zero_le _) (Nat.zero_le _) ⟨_, rfl, G_S35, F_S35, by omega, by omega, by omega, by omega, by omega, by omega, by omega⟩
theorem zk_Machine_84 : mm_Vl "TensorForge$Machine" 84 3 1 zy_decode_6_11 := ⟨zyw_decode_6_11, (R_Machine, F_Machine, 14), rfl, mm_tb_1 794 (by decide +kernel) rfl, mm_tb_1 796 (by decide +kernel) rfl, mm_tb_s 27 (by decide +kernel) rfl⟩
theorem zd_6_10_10 : zz_W zy_perform_6_10 10 110 1 8 #[46, 57, 68, 75, 82, 89, 96, 103] := ⟨46, by decide +kernel⟩
abbrev zy_loadBytes_6_12 : mm_Y := (⟨"TensorForge$Machine", "loadBytes", "([B)V"⟩, prog_6_method_12_code, 4, none)
theorem zyw_loadBytes_6_12 : mm_Yw zy_loadBytes_6_12 1 := ⟨mm_tb_1 801 (by decide +kernel) rfl, mm_tb_1 4 (by decide +kernel) rfl, ⟨by decide, by decide⟩, by decide +kernel⟩
theorem zg_6_10_5 : zq_at zy_perform_6_10.2.1 5 31 ∧ zq_at zy_perform_6_10.2.1 6 3 ∧ zq_at zy_perform_6_10.2.1 7 184 ∧ zq_at zy_perform_6_10.2.1 8 0 ∧ zq_at zy_perform_6_10.2.1 9 72 ∧ zq_at zy_perform_6_10.2.1 56 42 ∧ zq_at zy_perform_6_10.2.1 57 42 ∧ zq_at zy_perform_6_10.2.1 58 180 ∧ zq_at zy_perform_6_10.2.1 59 0 ∧ zq_at zy_perform_6_10.2.1 60 19 ∧ zq_at zy_perform_6_10.2.1 61 182 ∧ zq_at zy_perform_6_10.2.1 62 0 ∧ zq_at zy_perform_6_10.2.1 63 88 := by decide +kernel
theorem zd_6_10_5 : zz_D zy_perform_6_10 5 (.lload_n 1) 1 6 := ⟨zq_31 zg_6_10_5.1, rfl⟩
theorem zd_6_10_6 : zz_D zy_perform_6_10 6 (.iconst 0) 1 7 := ⟨zq_3 zg_6_10_5.2.1, rfl⟩
theorem zd_6_10_7 : zz_D zy_perform_6_10 7 (.invokestatic 72) 3 10 := ⟨zq_184 zg_6_10_5.2.2.1 zg_6_10_5.2.2.2.1 zg_6_10_5.2.2.2.2.1 rfl, rfl⟩
theorem zd_6_10_56 : zz_D zy_perform_6_10 56 (.aload_n 0) 1 57 := ⟨zq_42 zg_6_10_5.2.2.2.2.2.1, rfl⟩
theorem zd_6_10_57 : zz_D zy_perform_6_10 57 (.aload_n 0) 1 58 := ⟨zq_42 zg_6_10_5.2.2.2.2.2.2.1, rfl⟩
theorem zd_6_10_58 : zz_D zy_perform_6_10 58 (.getfield 19) 3 61 := ⟨zq_180 zg_6_10_5.2.2.2.2.2.2.2.1 zg_6_10_5.2.2.2.2.2.2.2.2.1 zg_6_10_5.2.2.2.2.2.2.2.2.2.1 rfl, rfl⟩
theorem zd_6_10_61 : zz_D zy_perform_6_10 61 (.invokevirtual 88) 3 64 := ⟨zq_182 zg_6_10_5.2.2.2.2.2.2.2.2.2.2.1 zg_6_10_5.2.2.2.2.2.2.2.2.2.2.2.1 zg_6_10_5.2.2.2.2.2.2.2.2.2.2.2.2 rfl, rfl⟩
theorem zg_6_12_0 : zq_at zy_loadBytes_6_12.2.1 0 3 ∧ zq_at zy_loadBytes_6_12.2.1 1 61 ∧ zq_at zy_loadBytes_6_12.2.1 2 28 ∧ zq_at zy_loadBytes_6_12.2.1 3 42 ∧ zq_at zy_loadBytes_6_12.2.1 4 180 ∧ zq_at zy_loadBytes_6_12.2.1 5 0 ∧ zq_at zy_loadBytes_6_12.2.1 6 113 ∧ zq_at zy_loadBytes_6_12.2.1 7 162 ∧ zq_at zy_loadBytes_6_12.2.1 8 0 ∧ zq_at zy_loadBytes_6_12.2.1 9 58 ∧ zq_at zy_loadBytes_6_12.2.1 65 177 ∧ zq_at zy_loadBytes_6_12.2.1 10 3 ∧ zq_at zy_loadBytes_6_12.2.1 11 62 ∧ zq_at zy_loadBytes_6_12.2.1 12 29 ∧ zq_at zy_loadBytes_6_12.2.1 13 42 ∧ zq_at zy_loadBytes_6_12.2.1 14 180 ∧ zq_at zy_loadBytes_6_12.2.1 15 0 ∧ zq_at zy_loadBytes_6_12.2.1 16 116 ∧ zq_at zy_loadBytes_6_12.2.1 17 162 ∧ zq_at zy_loadBytes_6_12.2.1 18 0 ∧ zq_at zy_loadBytes_6_12.2.1 19 42 ∧ zq_at zy_loadBytes_6_12.2.1 59 132 ∧ zq_at zy_loadBytes_6_12.2.1 60 2 ∧ zq_at zy_loadBytes_6_12.2.1 61 1 := by decide +kernel
theorem zd_6_12_0 : zz_D zy_loadBytes_6_12 0 (.iconst 0) 1 1 := ⟨zq_3 zg_6_12_0.1, rfl⟩
theorem zd_6_12_1 : zz_D zy_loadBytes_6_12 1 (.istore_n 2) 1 2 := ⟨zq_61 zg_6_12_0.2.1, rfl⟩
theorem zd_6_12_2 : zz_D zy_loadBytes_6_12 2 (.iload_n 2) 1 3 := ⟨zq_28 zg_6_12_0.2.2.1, rfl⟩
theorem zd_6_12_3 : zz_D zy_loadBytes_6_12 3 (.aload_n 0) 1 4 := ⟨zq_42 zg_6_12_0.2.2.2.1, rfl⟩
theorem zd_6_12_4 : zz_D zy_loadBytes_6_12 4 (.getfield 113) 3 7 := ⟨zq_180 zg_6_12_0.2.2.2.2.1 zg_6_12_0.2.2.2.2.2.1 zg_6_12_0.2.2.2.2.2.2.1 rfl, rfl⟩
theorem zd_6_12_7 : zz_B zy_loadBytes_6_12 7 (Instr.if_icmp .ge) 65 10 := ⟨58, zq_162 zg_6_12_0.2.2.2.2.2.2.2.1 zg_6_12_0.2.2.2.2.2.2.2.2.1 zg_6_12_0.2.2.2.2.2.2.2.2.2.1 (by decide), rfl, rfl⟩
theorem zd_6_12_65 : zz_D zy_loadBytes_6_12 65 (.return_) 1 66 := ⟨zq_177 zg_6_12_0.2.2.2.2.2.2.2.2.2.2.1, rfl⟩
theorem zd_6_12_10 : zz_D zy_loadBytes_6_12 10 (.iconst 0) 1 11 := ⟨zq_3 zg_6_12_0.2.2.2.2.2.2.2.2.2.2.2.1, rfl⟩
theorem zd_6_12_11 : zz_D zy_loadBytes_6_12 11 (.istore_n 3) 1 12 := ⟨zq_62 zg_6_12_0.2.2.2.2.2.2.2.2.2.2.2.2.1, rfl⟩
theorem zd_6_12_12 : zz_D zy_loadBytes_6_12 12 (.iload_n 3) 1 13 := ⟨zq_29 zg_6_12_0.2.2.2.2.2.2.2.2.2.2.2.2.2.1, rfl⟩
theorem zd_6_12_13 : zz_D zy_loadBytes_6_12 13 (.aload_n 0) 1 14 := ⟨zq_42 zg_6_12_0.2.2.2.2.2.2.2.2.2.2.2.2.2.2.1, rfl⟩
theorem zd_6_12_14 : zz_D zy_loadBytes_6_12 14 (.getfield 116) 3 17 := ⟨zq_180 zg_6_12_0.2.2.2.2.2.2.2.2.2.2.2.2.2.2.2.1 zg_6_12_0.2.2.2.2.2.2.2.2.2.2.2.2.2.2.2.2.1 zg_6_12_0.2.2.2.2.2.2.2.2.2.2.2.2.2.2.2.2.2.1 rfl, rfl⟩
theorem zd_6_12_17 : zz_B zy_loadBytes_6_12 17 (Instr.if_icmp .ge) 59 20 := ⟨42, zq_162 zg_6_12_0.2.2.2.2.2.2.2.2.2.2.2.2.2.2.2.2.2.2.1 zg_6_12_0.2.2.2.2.2.2.2.2.2.2.2.2.2.2.2.2.2.2.2.1 zg_6_12_0.2.2.2.2.2.2.2.2.2.2.2.2.2.2.2.2.2.2.2.2.1 (by decide), rfl, rfl⟩
theorem zd_6_12_59 : zz_D zy_loadBytes_6_12 59 (.iinc 2 1) 3 62 := ⟨zq_132 zg_6_12_0.2.2.2.2.2.2.2.2.2.2.2.2.2.2.2.2.2.2.2.2.2.1 zg_6_12_0.2.2.2.2.2.2.2.2.2.2.2.2.2.2.2.2.2.2.2.2.2.2.1 zg_6_12_0.2.2.2.2.2.2.2.2.2.2.2.2.2.2.2.2.2.2.2.2.2.2.2 (by decide), rfl⟩
theorem zg_6_12_62 : zq_at zy_loadBytes_6_12.2.1 62 167 ∧ zq_at zy_loadBytes_6_12.2.1 63 255 ∧ zq_at zy_loadBytes_6_12.2.1 64 196 ∧ zq_at zy_loadBytes_6_12.2.1 20 43 ∧ zq_at zy_loadBytes_6_12.2.1 21 42 ∧ zq_at zy_loadBytes_6_12.2.1 22 180 ∧ zq_at zy_loadBytes_6_12.2.1 23 0 ∧ zq_at zy_loadBytes_6_12.2.1 24 119 ∧ zq_at zy_loadBytes_6_12.2.1 25 28 ∧ zq_at zy_loadBytes_6_12.2.1 26 42 ∧ zq_at zy_loadBytes_6_12.2.1 27 180 ∧ zq_at zy_loadBytes_6_12.2.1 28 0 ∧ zq_at zy_loadBytes_6_12.2.1 29 36 ∧ zq_at zy_loadBytes_6_12.2.1 30 104 ∧ zq_at zy_loadBytes_6_12.2.1 31 96 ∧ zq_at zy_loadBytes_6_12.2.1 32 29 ∧ zq_at zy_loadBytes_6_12.2.1 33 96 ∧ zq_at zy_loadBytes_6_12.2.1 34 42 ∧ zq_at zy_loadBytes_6_12.2.1 35 180 ∧ zq_at zy_loadBytes_6_12.2.1 36 0 ∧ zq_at zy_loadBytes_6_12.2.1 37 13 ∧ zq_at zy_loadBytes_6_12.2.1 38 42 := by decide +kernel
theorem zd_6_12_62 : zz_B zy_loadBytes_6_12 62 Instr.goto 2 65 := ⟨(-60), zq_167 zg_6_12_62.1 zg_6_12_62.2.1 zg_6_12_62.2.2.1 (by decide), rfl, rfl⟩
theorem zd_6_12_20 : zz_D zy_loadBytes_6_12 20 (.aload_n 1) 1 21 := ⟨zq_43 zg_6_12_62.2.2.2.1, rfl⟩
theorem zd_6_12_21 : zz_D zy_loadBytes_6_12 21 (.aload_n 0) 1 22 := ⟨zq_42 zg_6_12_62.2.2.2.2.1, rfl⟩
theorem zd_6_12_22 : zz_D zy_loadBytes_6_12 22 (.getfield 119) 3 25 := ⟨zq_180 zg_6_12_62.2.2.2.2.2.1 zg_6_12_62.2.2.2.2.2.2.1 zg_6_12_62.2.2.2.2.2.2.2.1 rfl, rfl⟩
theorem zd_6_12_25 : zz_D zy_loadBytes_6_12 25 (.iload_n 2) 1 26 := ⟨zq_28 zg_6_12_62.2.2.2.2.2.2.2.2.1, rfl⟩
theorem zd_6_12_26 : zz_D zy_loadBytes_6_12 26 (.aload_n 0) 1 27 := ⟨zq_42 zg_6_12_62.2.2.2.2.2.2.2.2.2.1, rfl⟩
theorem zd_6_12_27 : zz_D zy_loadBytes_6_12 27 (.getfield 36) 3 30 := ⟨zq_180 zg_6_12_62.2.2.2.2.2.2.2.2.2.2.1 zg_6_12_62.2.2.2.2.2.2.2.2.2.2.2.1 zg_6_12_62.2.2.2.2.2.2.2.2.2.2.2.2.1 rfl, rfl⟩
theorem zd_6_12_30 : zz_D zy_loadBytes_6_12 30 (.imul) 1 31 := ⟨zq_104 zg_6_12_62.2.2.2.2.2.2.2.2.2.2.2.2.2.1, rfl⟩
theorem zd_6_12_31 : zz_D zy_loadBytes_6_12 31 (.iadd) 1 32 := ⟨zq_96 zg_6_12_62.2.2.2.2.2.2.2.2.2.2.2.2.2.2.1, rfl⟩
theorem zd_6_12_32 : zz_D zy_loadBytes_6_12 32 (.iload_n 3) 1 33 := ⟨zq_29 zg_6_12_62.2.2.2.2.2.2.2.2.2.2.2.2.2.2.2.1, rfl⟩
theorem zd_6_12_33 : zz_D zy_loadBytes_6_12 33 (.iadd) 1 34 := ⟨zq_96 zg_6_12_62.2.2.2.2.2.2.2.2.2.2.2.2.2.2.2.2.1, rfl⟩
theorem zd_6_12_34 : zz_D zy_loadBytes_6_12 34 (.aload_n 0) 1 35 := ⟨zq_42 zg_6_12_62.2.2.2.2.2.2.2.2.2.2.2.2.2.2.2.2.2.1, rfl⟩
theorem zd_6_12_35 : zz_D zy_loadBytes_6_12 35 (.getfield 13) 3 38 := ⟨zq_180 zg_6_12_62.2.2.2.2.2.2.2.2.2.2.2.2.2.2.2.2.2.2.1 zg_6_12_62.2.2.2.2.2.2.2.2.2.2.2.2.2.2.2.2.2.2.2.1 zg_6_12_62.2.2.2.2.2.2.2.2.2.2.2.2.2.2.2.2.2.2.2.2.1 rfl, rfl⟩
theorem zd_6_12_38 : zz_D zy_loadBytes_6_12 38 (.aload_n 0) 1 39 := ⟨zq_42 zg_6_12_62.2.2.2.2.2.2.2.2.2.2.2.2.2.2.2.2.2.2.2.2.2, rfl⟩
theorem zg_6_12_39 : zq_at zy_loadBytes_6_12.2.1 39 180 ∧ zq_at zy_loadBytes_6_12.2.1 40 0 ∧ zq_at zy_loadBytes_6_12.2.1 41 110 ∧ zq_at zy_loadBytes_6_12.2.1 42 28 ∧ zq_at zy_loadBytes_6_12.2.1 43 42 ∧ zq_at zy_loadBytes_6_12.2.1 44 180 ∧ zq_at zy_loadBytes_6_12.2.1 45 0 ∧ zq_at zy_loadBytes_6_12.2.1 46 125 ∧ zq_at zy_loadBytes_6_12.2.1 47 104 ∧ zq_at zy_loadBytes_6_12.2.1 48 96 ∧ zq_at zy_loadBytes_6_12.2.1 49 29 ∧ zq_at zy_loadBytes_6_12.2.1 50 96 ∧ zq_at zy_loadBytes_6_12.2.1 51 51 ∧ zq_at zy_loadBytes_6_12.2.1 52 84 ∧ zq_at zy_loadBytes_6_12.2.1 53 132 ∧ zq_at zy_loadBytes_6_12.2.1 54 3 ∧ zq_at zy_loadBytes_6_12.2.1 55 1 ∧ zq_at zy_loadBytes_6_12.2.1 56 167 ∧ zq_at zy_loadBytes_6_12.2.1 57 255 ∧ zq_at zy_loadBytes_6_12.2.1 58 212 := by decide +kernel
theorem zd_6_12_39 : zz_D zy_loadBytes_6_12 39 (.getfield 110) 3 42 := ⟨zq_180 zg_6_12_39.1 zg_6_12_39.2.1 zg_6_12_39.2.2.1 rfl, rfl⟩
theorem zd_6_12_42 : zz_D zy_loadBytes_6_12 42 (.iload_n 2) 1 43 := ⟨zq_28 zg_6_12_39.2.2.2.1, rfl⟩
theorem zd_6_12_43 : zz_D zy_loadBytes_6_12 43 (.aload_n 0) 1 44 := ⟨zq_42 zg_6_12_39.2.2.2.2.1, rfl⟩
theorem zd_6_12_44 : zz_D zy_loadBytes_6_12 44 (.getfield 125) 3 47 := ⟨zq_180 zg_6_12_39.2.2.2.2.2.1 zg_6_12_39.2.2.2.2.2.2.1 zg_6_12_39.2.2.2.2.2.2.2.1 rfl, rfl⟩
theorem zd_6_12_47 : zz_D zy_loadBytes_6_12 47 (.imul) 1 48 := ⟨zq_104 zg_6_12_39.2.2.2.2.2.2.2.2.1, rfl⟩
theorem zd_6_12_48 : zz_D zy_loadBytes_6_12 48 (.iadd) 1 49 := ⟨zq_96 zg_6_12_39.2.2.2.2.2.2.2.2.2.1, rfl⟩
theorem zd_6_12_49 : zz_D zy_loadBytes_6_12 49 (.iload_n 3) 1 50 := ⟨zq_29 zg_6_12_39.2.2.2.2.2.2.2.2.2.2.1, rfl⟩
theorem zd_6_12_50 : zz_D zy_loadBytes_6_12 50 (.iadd) 1 51 := ⟨zq_96 zg_6_12_39.2.2.2.2.2.2.2.2.2.2.2.1, rfl⟩
theorem zd_6_12_51 : zz_D zy_loadBytes_6_12 51 (.baload) 1 52 := ⟨zq_51 zg_6_12_39.2.2.2.2.2.2.2.2.2.2.2.2.1, rfl⟩
theorem zd_6_12_52 : zz_D zy_loadBytes_6_12 52 (.bastore) 1 53 := ⟨zq_84 zg_6_12_39.2.2.2.2.2.2.2.2.2.2.2.2.2.1, rfl⟩
theorem zd_6_12_53 : zz_D zy_loadBytes_6_12 53 (.iinc 3 1) 3 56 := ⟨zq_132 zg_6_12_39.2.2.2.2.2.2.2.2.2.2.2.2.2.2.1 zg_6_12_39.2.2.2.2.2.2.2.2.2.2.2.2.2.2.2.1 zg_6_12_39.2.2.2.2.2.2.2.2.2.2.2.2.2.2.2.2.1 (by decide), rfl⟩
theorem zd_6_12_56 : zz_B zy_loadBytes_6_12 56 Instr.goto 12 59 := ⟨(-44), zq_167 zg_6_12_39.2.2.2.2.2.2.2.2.2.2.2.2.2.2.2.2.2.1 zg_6_12_39.2.2.2.2.2.2.2.2.2.2.2.2.2.2.2.2.2.2.1 zg_6_12_39.2.2.2.2.2.2.2.2.2.2.2.2.2.2.2.2.2.2.2 (by decide), rfl, rfl⟩
-- TensorForge$Machine loadBytes ([B)V
abbrev zr_loadBytes_6_12_1033 : Room := { frames := 0, cells := 0, slots := 0, locals := 0 }
def zp_loadBytes_6_12_1033  (S0 : zz_S) : zz_S → Prop := fun S => zz_G S ∧ zz_fr [] [1033] (fun _ _ => False) S0 S
theorem zb_loadBytes_6_12_1033_2 {g : mm_G} {l : Launch}  (S0 : zz_S) (n : Nat) (hn : zz_end ≤ n) (G_S0 : zz_G S0) (hl : zz_lc 1 (S0 1031 7) (S0 1031 8) (S0 1031 9) (S0 1031 10) (S0 1031 11) (S0 1031 12) (S0 1031 13) (S0 1031 6)) (x2 : Int) (S : zz_S) (G_S : zz_G S) (F_S : zz_fr [] [1033] (fun _ _ => False) S0 S) (i2_0 : 0 ≤ x2 ∧ x2 ≤ 63) (R : Nat) (hR : (34359738368 + (S0 1031 8 - x2).toNat) * 1099511627776 + 1099511627775 = R) (k12 : ∀ (x2 : Int) (x3 : Int) (S : zz_S), zz_G S → zz_fr [] [1033] (fun _ _ => False) S0 S → (0 ≤ x2 ∧ x2 ≤ 62) → (0 ≤ x3 ∧ x3 ≤ 31) → (0 ≤ x2 ∧ x2 ≤ 63) → (x2 < S0 1031 8) → (34359738368 + (S0 1031 8 - x2).toNat) * 1099511627776 + (17179869184 + (S0 1031 9 - x3).toNat) < R → zz_E g l zy_loadBytes_6_12 zr_loadBytes_6_12_1033 (zz_QV n (zp_loadBytes_6_12_1033  S0)) S n 12 [some (.ref 1031), some (.ref 1033), some (zi x2), some (zi x3)] [] 0 0) : zz_E g l zy_loadBytes_6_12 zr_loadBytes_6_12_1033 (zz_QV n (zp_loadBytes_6_12_1033  S0)) S n 2 [some (.ref 1031), some (.ref 1033), some (zi x2)] [] 0 0 := by
  refine zz_iload_n (x := x2) rfl zd_6_12_2 ?_
  refine zz_aload_n (x := 1031) rfl zd_6_12_3 ?_
  have g2 := zz_G.r G_S0 1031 8 0 63 rfl rfl
  refine zz_geti (z := S0 1031 8) zd_6_12_4 zf_Machine_113 zT_1031 rfl (zz_ltn hn rfl) (zz_rc F_S rfl rfl (fun h => h) rfl) ?_
  refine zz_icmp_ge (by omega) (by omega) zd_6_12_7 (fun c3 => ?_) (fun c3 => ?_)
  · exact zz_vret zd_6_12_65 rfl (Nat.zero_le _) (Nat.zero_le _) ⟨_, rfl, G_S, F_S⟩
  · refine zz_iconst zd_6_12_10 ?_
    refine zz_istore_n [some (.ref 1031), some (.ref 1033), some (zi x2), some (zi 0)] zd_6_12_11 (by decide) rfl ?_
    have g4 := zz_G.r G_S0 1031 9 0 31 rfl rfl
    refine zz_less (ls1 := [some (.ref 1031), some (.ref 1033), some (zi x2), some (zi 0)]) ⟨rfl, ⟨rfl, ⟨rfl, ⟨rfl, trivial⟩⟩⟩⟩ ?_
    exact k12 x2 0 S G_S F_S (by omega) (by omega) (by omega) (by omega) (by omega)
theorem zb_loadBytes_6_12_1033_12 {g : mm_G} {l : Launch}  (S0 : zz_S) (n : Nat) (hn : zz_end ≤ n) (G_S0 : zz_G S0) (hl : zz_lc 1 (S0 1031 7) (S0 1031 8) (S0 1031 9) (S0 1031 10) (S0 1031 11) (S0 1031 12) (S0 1031 13) (S0 1031 6)) (x2 : Int) (x3 : Int) (S : zz_S) (G_S : zz_G S) (F_S : zz_fr [] [1033] (fun _ _ => False) S0 S) (i12_0 : 0 ≤ x2 ∧ x2 ≤ 62) (i12_1 : 0 ≤ x3 ∧ x3 ≤ 31) (i12_2 : 0 ≤ x2 ∧ x2 ≤ 63) (i12_3 : x2 < S0 1031 8) (R : Nat) (hR : (34359738368 + (S0 1031 8 - x2).toNat) * 1099511627776 + (17179869184 + (S0 1031 9 - x3).toNat) = R) (k2 : ∀ (x2 : Int) (S : zz_S), zz_G S → zz_fr [] [1033] (fun _ _ => False) S0 S → (0 ≤ x2 ∧ x2 ≤ 63) → (34359738368 + (S0 1031 8 - x2).toNat) * 1099511627776 + 1099511627775 < R → zz_E g l zy_loadBytes_6_12 zr_loadBytes_6_12_1033 (zz_QV n (zp_loadBytes_6_12_1033  S0)) S n 2 [some (.ref 1031), some (.ref 1033), some (zi x2)] [] 0 0) (k12 : ∀ (x2 : Int) (x3 : Int) (S : zz_S), zz_G S → zz_fr [] [1033] (fun _ _ => False) S0 S → (0 ≤ x2 ∧ x2 ≤ 62) → (0 ≤ x3 ∧ x3 ≤ 31) → (0 ≤ x2 ∧ x2 ≤ 63) → (x2 < S0 1031 8) → (34359738368 + (S0 1031 8 - x2).toNat) * 1099511627776 + (17179869184 + (S0 1031 9 - x3).toNat) < R → zz_E g l zy_loadBytes_6_12 zr_loadBytes_6_12_1033 (zz_QV n (zp_loadBytes_6_12_1033  S0)) S n 12 [some (.ref 1031), some (.ref 1033), some (zi x2), some (zi x3)] [] 0 0) : zz_E g l zy_loadBytes_6_12 zr_loadBytes_6_12_1033 (zz_QV n (zp_loadBytes_6_12_1033  S0)) S n 12 [some (.ref 1031), some (.ref 1033), some (zi x2), some (zi x3)] [] 0 0 := by
  have l0 := hl
  unfold zz_lc at l0
  have lk := l0.2.2.1 rfl
  have l2 := l0.2.1 (by decide)
  clear l0
  have gS := zz_G.r G_S0 1031 6 2 8 rfl rfl
  have gT := zz_G.r G_S0 1031 12 0 1023 rfl rfl
  have m1 : x2 * S0 1031 6 ≤ (S0 1031 8 - 1) * S0 1031 6 := Int.mul_le_mul_of_nonneg_right (by omega) (by omega)
  have m2 : x2 * S0 1031 12 ≤ (S0 1031 8 - 1) * S0 1031 12 := Int.mul_le_mul_of_nonneg_right (by omega) (by omega)
  refine zz_iload_n (x := x3) rfl zd_6_12_12 ?_
  refine zz_aload_n (x := 1031) rfl zd_6_12_13 ?_
  have g5 := zz_G.r G_S0 1031 9 0 31 rfl rfl
  refine zz_geti (z := S0 1031 9) zd_6_12_14 zf_Machine_116 zT_1031 rfl (zz_ltn hn rfl) (zz_rc F_S rfl rfl (fun h => h) rfl) ?_
  refine zz_icmp_ge (by omega) (by omega) zd_6_12_17 (fun c6 => ?_) (fun c6 => ?_)
  · refine zz_iinc [some (.ref 1031), some (.ref 1033), some (zi (x2 + 1)), some (zi x3)] zd_6_12_59 rfl rfl ?_
    refine zz_goto zd_6_12_62 ?_
    have g7 := zz_G.r G_S0 1031 8 0 63 rfl rfl
    refine zz_less (ls1 := [some (.ref 1031), some (.ref 1033), some (zi (x2 + 1))]) ⟨rfl, ⟨rfl, ⟨rfl, trivial⟩⟩⟩ ?_
    exact k2 (x2 + 1) S G_S F_S (by omega) (by omega)
  · refine zz_aload_n (x := 1033) rfl zd_6_12_20 ?_
    refine zz_aload_n (x := 1031) rfl zd_6_12_21 ?_
    have g8 := zz_G.r G_S0 1031 10 0 511 rfl rfl
    refine zz_geti (z := S0 1031 10) zd_6_12_22 zf_Machine_119 zT_1031 rfl (zz_ltn hn rfl) (zz_rc F_S rfl rfl (fun h => h) rfl) ?_
    refine zz_iload_n (x := x2) rfl zd_6_12_25 ?_
    refine zz_aload_n (x := 1031) rfl zd_6_12_26 ?_
    have g9 := zz_G.r G_S0 1031 6 2 8 rfl rfl
    refine zz_geti (z := S0 1031 6) zd_6_12_27 zf_Machine_36 zT_1031 rfl (zz_ltn hn rfl) (zz_rc F_S rfl rfl (fun h => h) rfl) ?_
    refine zz_imul zd_6_12_30 ?_
    have m10 := zz_mulb (a := x2) (b := S0 1031 6) 62 8 496 (by omega) (by omega) (by decide)
    refine zz_iadd zd_6_12_31 ?_
    refine zz_iload_n (x := x3) rfl zd_6_12_32 ?_
    refine zz_iadd zd_6_12_33 ?_
    refine zz_aload_n (x := 1031) rfl zd_6_12_34 ?_
    refine zz_getr (kd := 0) (z := 1032) zd_6_12_35 zf_Machine_13 zT_1031 rfl (zz_ltn hn rfl) (zz_G.eq G_S 1031 0 1032 rfl rfl) (by decide) 1032 rfl ?_
    refine zz_aload_n (x := 1031) rfl zd_6_12_38 ?_
    have g11 := zz_G.r G_S0 1031 7 0 4095 rfl rfl
    refine zz_geti (z := S0 1031 7) zd_6_12_39 zf_Machine_110 zT_1031 rfl (zz_ltn hn rfl) (zz_rc F_S rfl rfl (fun h => h) rfl) ?_
    refine zz_iload_n (x := x2) rfl zd_6_12_42 ?_
    refine zz_aload_n (x := 1031) rfl zd_6_12_43 ?_
    have g12 := zz_G.r G_S0 1031 12 0 1023 rfl rfl
    refine zz_geti (z := S0 1031 12) zd_6_12_44 zf_Machine_125 zT_1031 rfl (zz_ltn hn rfl) (zz_rc F_S rfl rfl (fun h => h) rfl) ?_
    refine zz_imul zd_6_12_47 ?_
    have m13 := zz_mulb (a := x2) (b := S0 1031 12) 62 1023 63426 (by omega) (by omega) (by decide)
    refine zz_iadd zd_6_12_48 ?_
    refine zz_iload_n (x := x3) rfl zd_6_12_49 ?_
    refine zz_iadd zd_6_12_50 ?_
    have g14 := zz_G.r G_S0 1032 ((((S0 1031 7) + (x2 * (S0 1031 12))) + x3).toNat) (-128) 127 rfl rfl
    refine zz_bald (z := S0 1032 ((((S0 1031 7) + (x2 * (S0 1031 12))) + x3).toNat)) zd_6_12_51 zT_1032 rfl (zz_ltn hn rfl) (by decide) (by omega) (zz_rc F_S (zz_nc1 rfl) rfl (fun h => h) rfl) ?_
    refine zz_bast zd_6_12_52 zT_1033 rfl (zz_ltn hn rfl) (by decide) (by omega) (by omega) (fun S15 qS15 => ?_)
    have G_S15 := zz_G.put G_S qS15 (-128) 127 rfl (by omega)
    have F_S15 := zz_fr.putc F_S qS15 rfl
    refine zz_iinc [some (.ref 1031), some (.ref 1033), some (zi x2), some (zi (x3 + 1))] zd_6_12_53 rfl rfl ?_
    refine zz_goto zd_6_12_56 ?_
    have g16 := zz_G.r G_S0 1031 8 0 63 rfl rfl
    refine zz_less (ls1 := [some (.ref 1031), some (.ref 1033), some (zi x2), some (zi (x3 + 1))]) ⟨rfl, ⟨rfl, ⟨rfl, ⟨rfl, trivial⟩⟩⟩⟩ ?_
    exact k12 x2 (x3 + 1) S15 G_S15 F_S15 (by omega) (by omega) (by omega) (by omega) (by omega)
theorem zi_loadBytes_6_12_1033 {g : mm_G} {l : Launch}  (S0 : zz_S) (n : Nat) (hn : zz_end ≤ n) (G_S0 : zz_G S0) (hl : zz_lc 1 (S0 1031 7) (S0 1031 8) (S0 1031 9) (S0 1031 10) (S0 1031 11) (S0 1031 12) (S0 1031 13) (S0 1031 6)) : ∀ N : Nat, (∀ (x2 : Int) (S : zz_S), zz_G S → zz_fr [] [1033] (fun _ _ => False) S0 S → (0 ≤ x2 ∧ x2 ≤ 63) → (34359738368 + (S0 1031 8 - x2).toNat) * 1099511627776 + 1099511627775 < N → zz_E g l zy_loadBytes_6_12 zr_loadBytes_6_12_1033 (zz_QV n (zp_loadBytes_6_12_1033  S0)) S n 2 [some (.ref 1031), some (.ref 1033), some (zi x2)] [] 0 0) ∧ (∀ (x2 : Int) (x3 : Int) (S : zz_S), zz_G S → zz_fr [] [1033] (fun _ _ => False) S0 S → (0 ≤ x2 ∧ x2 ≤ 62) → (0 ≤ x3 ∧ x3 ≤ 31) → (0 ≤ x2 ∧ x2 ≤ 63) → (x2 < S0 1031 8) → (34359738368 + (S0 1031 8 - x2).toNat) * 1099511627776 + (17179869184 + (S0 1031 9 - x3).toNat) < N → zz_E g l zy_loadBytes_6_12 zr_loadBytes_6_12_1033 (zz_QV n (zp_loadBytes_6_12_1033  S0)) S n 12 [some (.ref 1031), some (.ref 1033), some (zi x2), some (zi x3)] [] 0 0) := by
  intro N
  induction N with
  | zero => exact ⟨fun x2 S _ _ _ h => absurd h (Nat.not_lt_zero _), fun x2 x3 S _ _ _ _ _ _ h => absurd h (Nat.not_lt_zero _)⟩
  | succ N ih =>
    exact ⟨fun x2 S a b j0 hR => zb_loadBytes_6_12_1033_2  S0 n hn G_S0 hl x2 S a b j0 _ rfl (fun x2 x3 S a b j0 j1 j2 j3 h => ih.2 x2 x3 S a b j0 j1 j2 j3 (Nat.lt_of_lt_of_le h (Nat.le_of_lt_succ hR))),
      fun x2 x3 S a b j0 j1 j2 j3 hR => zb_loadBytes_6_12_1033_12  S0 n hn G_S0 hl x2 x3 S a b j0 j1 j2 j3 _ rfl (fun x2 S a b j0 h => ih.1 x2 S a b j0 (Nat.lt_of_lt_of_le h (Nat.le_of_lt_succ hR))) (fun x2 x3 S a b j0 j1 j2 j3 h => ih.2 x2 x3 S a b j0 j1 j2 j3 (Nat.lt_of_lt_of_le h (Nat.le_of_lt_succ hR)))⟩
theorem zc_loadBytes_6_12_1033 {g : mm_G} {l : Launch}  (S0 : zz_S) (n : Nat) (hn : zz_end ≤ n) (G_S0 : zz_G S0) (hl : zz_lc 1 (S0 1031 7) (S0 1031 8) (S0 1031 9) (S0 1031 10) (S0 1031 11) (S0 1031 12) (S0 1031 13) (S0 1031 6)) : mm_Met g l zy_loadBytes_6_12 zr_loadBytes_6_12_1033 [.ref 1031, .ref 1033] (zz_M S0 n) n (zz_QV n (zp_loadBytes_6_12_1033  S0)) := by
  refine zz_enter (by decide) (Nat.le_of_ble_eq_true rfl) (zz_less (ls1 := [some (.ref 1031), some (.ref 1033)]) ⟨rfl, ⟨rfl, trivial⟩⟩ ?_)
  have F_S0 : zz_fr [] [1033] (fun _ _ => False) S0 S0 := zz_fr.refl
  have k2 : ∀ (x2 : Int) (S : zz_S), zz_G S → zz_fr [] [1033] (fun _ _ => False) S0 S → (0 ≤ x2 ∧ x2 ≤ 63) → zz_E g l zy_loadBytes_6_12 zr_loadBytes_6_12_1033 (zz_QV n (zp_loadBytes_6_12_1033  S0)) S n 2 [some (.ref 1031), some (.ref 1033), some (zi x2)] [] 0 0 := fun x2 S a b j0 => (zi_loadBytes_6_12_1033 (g := g) (l := l)  S0 n hn G_S0 hl _).1 x2 S a b j0 (Nat.lt_succ_self _)
  refine zz_iconst zd_6_12_0 ?_
  refine zz_istore_n [some (.ref 1031), some (.ref 1033), some (zi 0)] zd_6_12_1 (by decide) rfl ?_
  have g1 := zz_G.r G_S0 1031 8 0 63 rfl rfl
  refine zz_less (ls1 := [some (.ref 1031), some (.ref 1033), some (zi 0)]) ⟨rfl, ⟨rfl, ⟨rfl, trivial⟩⟩⟩ ?_
  exact k2 0 S0 G_S0 F_S0 (by omega)
theorem zk_Machine_88 : mm_Vl "TensorForge$Machine" 88 3 1 zy_loadBytes_6_12 := ⟨zyw_loadBytes_6_12, (R_Machine, F_Machine, 14), rfl, mm_tb_1 798 (by decide +kernel) rfl, mm_tb_1 800 (by decide +kernel) rfl, mm_tb_s 28 (by decide +kernel) rfl⟩
theorem zg_6_10_64 : zq_at zy_perform_6_10.2.1 64 167 ∧ zq_at zy_perform_6_10.2.1 65 0 ∧ zq_at zy_perform_6_10.2.1 66 56 ∧ zq_at zy_perform_6_10.2.1 120 177 ∧ zq_at zy_perform_6_10.2.1 67 42 ∧ zq_at zy_perform_6_10.2.1 68 42 ∧ zq_at zy_perform_6_10.2.1 69 180 ∧ zq_at zy_perform_6_10.2.1 70 0 ∧ zq_at zy_perform_6_10.2.1 71 22 ∧ zq_at zy_perform_6_10.2.1 72 182 ∧ zq_at zy_perform_6_10.2.1 73 0 ∧ zq_at zy_perform_6_10.2.1 74 88 := by decide +kernel
theorem zd_6_10_64 : zz_B zy_perform_6_10 64 Instr.goto 120 67 := ⟨56, zq_167 zg_6_10_64.1 zg_6_10_64.2.1 zg_6_10_64.2.2.1 (by decide), rfl, rfl⟩
theorem zd_6_10_120 : zz_D zy_perform_6_10 120 (.return_) 1 121 := ⟨zq_177 zg_6_10_64.2.2.2.1, rfl⟩
theorem zd_6_10_67 : zz_D zy_perform_6_10 67 (.aload_n 0) 1 68 := ⟨zq_42 zg_6_10_64.2.2.2.2.1, rfl⟩
theorem zd_6_10_68 : zz_D zy_perform_6_10 68 (.aload_n 0) 1 69 := ⟨zq_42 zg_6_10_64.2.2.2.2.2.1, rfl⟩
theorem zd_6_10_69 : zz_D zy_perform_6_10 69 (.getfield 22) 3 72 := ⟨zq_180 zg_6_10_64.2.2.2.2.2.2.1 zg_6_10_64.2.2.2.2.2.2.2.1 zg_6_10_64.2.2.2.2.2.2.2.2.1 rfl, rfl⟩
theorem zd_6_10_72 : zz_D zy_perform_6_10 72 (.invokevirtual 88) 3 75 := ⟨zq_182 zg_6_10_64.2.2.2.2.2.2.2.2.2.1 zg_6_10_64.2.2.2.2.2.2.2.2.2.2.1 zg_6_10_64.2.2.2.2.2.2.2.2.2.2.2 rfl, rfl⟩
-- TensorForge$Machine loadBytes ([B)V
abbrev zr_loadBytes_6_12_1034 : Room := { frames := 0, cells := 0, slots := 0, locals := 0 }
def zp_loadBytes_6_12_1034  (S0 : zz_S) : zz_S → Prop := fun S => zz_G S ∧ zz_fr [] [1034] (fun _ _ => False) S0 S
theorem zb_loadBytes_6_12_1034_2 {g : mm_G} {l : Launch}  (S0 : zz_S) (n : Nat) (hn : zz_end ≤ n) (G_S0 : zz_G S0) (hl : zz_lc 2 (S0 1031 7) (S0 1031 8) (S0 1031 9) (S0 1031 10) (S0 1031 11) (S0 1031 12) (S0 1031 13) (S0 1031 6)) (x2 : Int) (S : zz_S) (G_S : zz_G S) (F_S : zz_fr [] [1034] (fun _ _ => False) S0 S) (i2_0 : 0 ≤ x2 ∧ x2 ≤ 63) (R : Nat) (hR : (34359738368 + (S0 1031 8 - x2).toNat) * 1099511627776 + 1099511627775 = R) (k12 : ∀ (x2 : Int) (x3 : Int) (S : zz_S), zz_G S → zz_fr [] [1034] (fun _ _ => False) S0 S → (0 ≤ x2 ∧ x2 ≤ 62) → (0 ≤ x3 ∧ x3 ≤ 31) → (0 ≤ x2 ∧ x2 ≤ 63) → (x2 < S0 1031 8) → (34359738368 + (S0 1031 8 - x2).toNat) * 1099511627776 + (17179869184 + (S0 1031 9 - x3).toNat) < R → zz_E g l zy_loadBytes_6_12 zr_loadBytes_6_12_1034 (zz_QV n (zp_loadBytes_6_12_1034  S0)) S n 12 [some (.ref 1031), some (.ref 1034), some (zi x2), some (zi x3)] [] 0 0) : zz_E g l zy_loadBytes_6_12 zr_loadBytes_6_12_1034 (zz_QV n (zp_loadBytes_6_12_1034  S0)) S n 2 [some (.ref 1031), some (.ref 1034), some (zi x2)] [] 0 0 := by
  refine zz_iload_n (x := x2) rfl zd_6_12_2 ?_
  refine zz_aload_n (x := 1031) rfl zd_6_12_3 ?_
  have g2 := zz_G.r G_S0 1031 8 0 63 rfl rfl
  refine zz_geti (z := S0 1031 8) zd_6_12_4 zf_Machine_113 zT_1031 rfl (zz_ltn hn rfl) (zz_rc F_S rfl rfl (fun h => h) rfl) ?_
  refine zz_icmp_ge (by omega) (by omega) zd_6_12_7 (fun c3 => ?_) (fun c3 => ?_)
  · exact zz_vret zd_6_12_65 rfl (Nat.zero_le _) (Nat.zero_le _) ⟨_, rfl, G_S, F_S⟩
  · refine zz_iconst zd_6_12_10 ?_
    refine zz_istore_n [some (.ref 1031), some (.ref 1034), some (zi x2), some (zi 0)] zd_6_12_11 (by decide) rfl ?_
    have g4 := zz_G.r G_S0 1031 9 0 31 rfl rfl
    refine zz_less (ls1 := [some (.ref 1031), some (.ref 1034), some (zi x2), some (zi 0)]) ⟨rfl, ⟨rfl, ⟨rfl, ⟨rfl, trivial⟩⟩⟩⟩ ?_
    exact k12 x2 0 S G_S F_S (by omega) (by omega) (by omega) (by omega) (by omega)
theorem zb_loadBytes_6_12_1034_12 {g : mm_G} {l : Launch}  (S0 : zz_S) (n : Nat) (hn : zz_end ≤ n) (G_S0 : zz_G S0) (hl : zz_lc 2 (S0 1031 7) (S0 1031 8) (S0 1031 9) (S0 1031 10) (S0 1031 11) (S0 1031 12) (S0 1031 13) (S0 1031 6)) (x2 : Int) (x3 : Int) (S : zz_S) (G_S : zz_G S) (F_S : zz_fr [] [1034] (fun _ _ => False) S0 S) (i12_0 : 0 ≤ x2 ∧ x2 ≤ 62) (i12_1 : 0 ≤ x3 ∧ x3 ≤ 31) (i12_2 : 0 ≤ x2 ∧ x2 ≤ 63) (i12_3 : x2 < S0 1031 8) (R : Nat) (hR : (34359738368 + (S0 1031 8 - x2).toNat) * 1099511627776 + (17179869184 + (S0 1031 9 - x3).toNat) = R) (k2 : ∀ (x2 : Int) (S : zz_S), zz_G S → zz_fr [] [1034] (fun _ _ => False) S0 S → (0 ≤ x2 ∧ x2 ≤ 63) → (34359738368 + (S0 1031 8 - x2).toNat) * 1099511627776 + 1099511627775 < R → zz_E g l zy_loadBytes_6_12 zr_loadBytes_6_12_1034 (zz_QV n (zp_loadBytes_6_12_1034  S0)) S n 2 [some (.ref 1031), some (.ref 1034), some (zi x2)] [] 0 0) (k12 : ∀ (x2 : Int) (x3 : Int) (S : zz_S), zz_G S → zz_fr [] [1034] (fun _ _ => False) S0 S → (0 ≤ x2 ∧ x2 ≤ 62) → (0 ≤ x3 ∧ x3 ≤ 31) → (0 ≤ x2 ∧ x2 ≤ 63) → (x2 < S0 1031 8) → (34359738368 + (S0 1031 8 - x2).toNat) * 1099511627776 + (17179869184 + (S0 1031 9 - x3).toNat) < R → zz_E g l zy_loadBytes_6_12 zr_loadBytes_6_12_1034 (zz_QV n (zp_loadBytes_6_12_1034  S0)) S n 12 [some (.ref 1031), some (.ref 1034), some (zi x2), some (zi x3)] [] 0 0) : zz_E g l zy_loadBytes_6_12 zr_loadBytes_6_12_1034 (zz_QV n (zp_loadBytes_6_12_1034  S0)) S n 12 [some (.ref 1031), some (.ref 1034), some (zi x2), some (zi x3)] [] 0 0 := by
  have l0 := hl
  unfold zz_lc at l0
  have lk := l0.2.2.2.1 rfl
  have l2 := l0.2.1 (by decide)
  clear l0
  have gS := zz_G.r G_S0 1031 6 2 8 rfl rfl
  have gT := zz_G.r G_S0 1031 12 0 1023 rfl rfl
  have m1 : x2 * S0 1031 6 ≤ (S0 1031 8 - 1) * S0 1031 6 := Int.mul_le_mul_of_nonneg_right (by omega) (by omega)
  have m2 : x2 * S0 1031 12 ≤ (S0 1031 8 - 1) * S0 1031 12 := Int.mul_le_mul_of_nonneg_right (by omega) (by omega)
  refine zz_iload_n (x := x3) rfl zd_6_12_12 ?_
  refine zz_aload_n (x := 1031) rfl zd_6_12_13 ?_
  have g5 := zz_G.r G_S0 1031 9 0 31 rfl rfl
  refine zz_geti (z := S0 1031 9) zd_6_12_14 zf_Machine_116 zT_1031 rfl (zz_ltn hn rfl) (zz_rc F_S rfl rfl (fun h => h) rfl) ?_
  refine zz_icmp_ge (by omega) (by omega) zd_6_12_17 (fun c6 => ?_) (fun c6 => ?_)
  · refine zz_iinc [some (.ref 1031), some (.ref 1034), some (zi (x2 + 1)), some (zi x3)] zd_6_12_59 rfl rfl ?_
    refine zz_goto zd_6_12_62 ?_
    have g7 := zz_G.r G_S0 1031 8 0 63 rfl rfl
    refine zz_less (ls1 := [some (.ref 1031), some (.ref 1034), some (zi (x2 + 1))]) ⟨rfl, ⟨rfl, ⟨rfl, trivial⟩⟩⟩ ?_
    exact k2 (x2 + 1) S G_S F_S (by omega) (by omega)
  · refine zz_aload_n (x := 1034) rfl zd_6_12_20 ?_
    refine zz_aload_n (x := 1031) rfl zd_6_12_21 ?_
    have g8 := zz_G.r G_S0 1031 10 0 511 rfl rfl
    refine zz_geti (z := S0 1031 10) zd_6_12_22 zf_Machine_119 zT_1031 rfl (zz_ltn hn rfl) (zz_rc F_S rfl rfl (fun h => h) rfl) ?_
    refine zz_iload_n (x := x2) rfl zd_6_12_25 ?_
    refine zz_aload_n (x := 1031) rfl zd_6_12_26 ?_
    have g9 := zz_G.r G_S0 1031 6 2 8 rfl rfl
    refine zz_geti (z := S0 1031 6) zd_6_12_27 zf_Machine_36 zT_1031 rfl (zz_ltn hn rfl) (zz_rc F_S rfl rfl (fun h => h) rfl) ?_
    refine zz_imul zd_6_12_30 ?_
    have m10 := zz_mulb (a := x2) (b := S0 1031 6) 62 8 496 (by omega) (by omega) (by decide)
    refine zz_iadd zd_6_12_31 ?_
    refine zz_iload_n (x := x3) rfl zd_6_12_32 ?_
    refine zz_iadd zd_6_12_33 ?_
    refine zz_aload_n (x := 1031) rfl zd_6_12_34 ?_
    refine zz_getr (kd := 0) (z := 1032) zd_6_12_35 zf_Machine_13 zT_1031 rfl (zz_ltn hn rfl) (zz_G.eq G_S 1031 0 1032 rfl rfl) (by decide) 1032 rfl ?_
    refine zz_aload_n (x := 1031) rfl zd_6_12_38 ?_
    have g11 := zz_G.r G_S0 1031 7 0 4095 rfl rfl
    refine zz_geti (z := S0 1031 7) zd_6_12_39 zf_Machine_110 zT_1031 rfl (zz_ltn hn rfl) (zz_rc F_S rfl rfl (fun h => h) rfl) ?_
    refine zz_iload_n (x := x2) rfl zd_6_12_42 ?_
    refine zz_aload_n (x := 1031) rfl zd_6_12_43 ?_
    have g12 := zz_G.r G_S0 1031 12 0 1023 rfl rfl
    refine zz_geti (z := S0 1031 12) zd_6_12_44 zf_Machine_125 zT_1031 rfl (zz_ltn hn rfl) (zz_rc F_S rfl rfl (fun h => h) rfl) ?_
    refine zz_imul zd_6_12_47 ?_
    have m13 := zz_mulb (a := x2) (b := S0 1031 12) 62 1023 63426 (by omega) (by omega) (by decide)
    refine zz_iadd zd_6_12_48 ?_
    refine zz_iload_n (x := x3) rfl zd_6_12_49 ?_
    refine zz_iadd zd_6_12_50 ?_
    have g14 := zz_G.r G_S0 1032 ((((S0 1031 7) + (x2 * (S0 1031 12))) + x3).toNat) (-128) 127 rfl rfl
    refine zz_bald (z := S0 1032 ((((S0 1031 7) + (x2 * (S0 1031 12))) + x3).toNat)) zd_6_12_51 zT_1032 rfl (zz_ltn hn rfl) (by decide) (by omega) (zz_rc F_S (zz_nc1 rfl) rfl (fun h => h) rfl) ?_
    refine zz_bast zd_6_12_52 zT_1034 rfl (zz_ltn hn rfl) (by decide) (by omega) (by omega) (fun S15 qS15 => ?_)
    have G_S15 := zz_G.put G_S qS15 (-128) 127 rfl (by omega)
    have F_S15 := zz_fr.putc F_S qS15 rfl
    refine zz_iinc [some (.ref 1031), some (.ref 1034), some (zi x2), some (zi (x3 + 1))] zd_6_12_53 rfl rfl ?_
    refine zz_goto zd_6_12_56 ?_
    have g16 := zz_G.r G_S0 1031 8 0 63 rfl rfl
    refine zz_less (ls1 := [some (.ref 1031), some (.ref 1034), some (zi x2), some (zi (x3 + 1))]) ⟨rfl, ⟨rfl, ⟨rfl, ⟨rfl, trivial⟩⟩⟩⟩ ?_
    exact k12 x2 (x3 + 1) S15 G_S15 F_S15 (by omega) (by omega) (by omega) (by omega) (by omega)
theorem zi_loadBytes_6_12_1034 {g : mm_G} {l : Launch}  (S0 : zz_S) (n : Nat) (hn : zz_end ≤ n) (G_S0 : zz_G S0) (hl : zz_lc 2 (S0 1031 7) (S0 1031 8) (S0 1031 9) (S0 1031 10) (S0 1031 11) (S0 1031 12) (S0 1031 13) (S0 1031 6)) : ∀ N : Nat, (∀ (x2 : Int) (S : zz_S), zz_G S → zz_fr [] [1034] (fun _ _ => False) S0 S → (0 ≤ x2 ∧ x2 ≤ 63) → (34359738368 + (S0 1031 8 - x2).toNat) * 1099511627776 + 1099511627775 < N → zz_E g l zy_loadBytes_6_12 zr_loadBytes_6_12_1034 (zz_QV n (zp_loadBytes_6_12_1034  S0)) S n 2 [some (.ref 1031), some (.ref 1034), some (zi x2)] [] 0 0) ∧ (∀ (x2 : Int) (x3 : Int) (S : zz_S), zz_G S → zz_fr [] [1034] (fun _ _ => False) S0 S → (0 ≤ x2 ∧ x2 ≤ 62) → (0 ≤ x3 ∧ x3 ≤ 31) → (0 ≤ x2 ∧ x2 ≤ 63) → (x2 < S0 1031 8) → (34359738368 + (S0 1031 8 - x2).toNat) * 1099511627776 + (17179869184 + (S0 1031 9 - x3).toNat) < N → zz_E g l zy_loadBytes_6_12 zr_loadBytes_6_12_1034 (zz_QV n (zp_loadBytes_6_12_1034  S0)) S n 12 [some (.ref 1031), some (.ref 1034), some (zi x2), some (zi x3)] [] 0 0) := by
  intro N
  induction N with
  | zero => exact ⟨fun x2 S _ _ _ h => absurd h (Nat.not_lt_zero _), fun x2 x3 S _ _ _ _ _ _ h => absurd h (Nat.not_lt_zero _)⟩
  | succ N ih =>
    exact ⟨fun x2 S a b j0 hR => zb_loadBytes_6_12_1034_2  S0 n hn G_S0 hl x2 S a b j0 _ rfl (fun x2 x3 S a b j0 j1 j2 j3 h => ih.2 x2 x3 S a b j0 j1 j2 j3 (Nat.lt_of_lt_of_le h (Nat.le_of_lt_succ hR))),
      fun x2 x3 S a b j0 j1 j2 j3 hR => zb_loadBytes_6_12_1034_12  S0 n hn G_S0 hl x2 x3 S a b j0 j1 j2 j3 _ rfl (fun x2 S a b j0 h => ih.1 x2 S a b j0 (Nat.lt_of_lt_of_le h (Nat.le_of_lt_succ hR))) (fun x2 x3 S a b j0 j1 j2 j3 h => ih.2 x2 x3 S a b j0 j1 j2 j3 (Nat.lt_of_lt_of_le h (Nat.le_of_lt_succ hR)))⟩
theorem zc_loadBytes_6_12_1034 {g : mm_G} {l : Launch}  (S0 : zz_S) (n : Nat) (hn : zz_end ≤ n) (G_S0 : zz_G S0) (hl : zz_lc 2 (S0 1031 7) (S0 1031 8) (S0 1031 9) (S0 1031 10) (S0 1031 11) (S0 1031 12) (S0 1031 13) (S0 1031 6)) : mm_Met g l zy_loadBytes_6_12 zr_loadBytes_6_12_1034 [.ref 1031, .ref 1034] (zz_M S0 n) n (zz_QV n (zp_loadBytes_6_12_1034  S0)) := by
  refine zz_enter (by decide) (Nat.le_of_ble_eq_true rfl) (zz_less (ls1 := [some (.ref 1031), some (.ref 1034)]) ⟨rfl, ⟨rfl, trivial⟩⟩ ?_)
  have F_S0 : zz_fr [] [1034] (fun _ _ => False) S0 S0 := zz_fr.refl
  have k2 : ∀ (x2 : Int) (S : zz_S), zz_G S → zz_fr [] [1034] (fun _ _ => False) S0 S → (0 ≤ x2 ∧ x2 ≤ 63) → zz_E g l zy_loadBytes_6_12 zr_loadBytes_6_12_1034 (zz_QV n (zp_loadBytes_6_12_1034  S0)) S n 2 [some (.ref 1031), some (.ref 1034), some (zi x2)] [] 0 0 := fun x2 S a b j0 => (zi_loadBytes_6_12_1034 (g := g) (l := l)  S0 n hn G_S0 hl _).1 x2 S a b j0 (Nat.lt_succ_self _)
  refine zz_iconst zd_6_12_0 ?_
  refine zz_istore_n [some (.ref 1031), some (.ref 1034), some (zi 0)] zd_6_12_1 (by decide) rfl ?_
  have g1 := zz_G.r G_S0 1031 8 0 63 rfl rfl
  refine zz_less (ls1 := [some (.ref 1031), some (.ref 1034), some (zi 0)]) ⟨rfl, ⟨rfl, ⟨rfl, trivial⟩⟩⟩ ?_
  exact k2 0 S0 G_S0 F_S0 (by omega)
abbrev zy_clearCells_6_13 : mm_Y := (⟨"TensorForge$Machine", "clearCells", "()V"⟩, prog_6_method_13_code, 3, none)
theorem zyw_clearCells_6_13 : mm_Yw zy_clearCells_6_13 0 := ⟨mm_tb_1 805 (by decide +kernel) rfl, mm_tb_1 4 (by decide +kernel) rfl, ⟨by decide, by decide⟩, by decide +kernel⟩
theorem zg_6_10_75 : zq_at zy_perform_6_10.2.1 75 167 ∧ zq_at zy_perform_6_10.2.1 76 0 ∧ zq_at zy_perform_6_10.2.1 77 45 ∧ zq_at zy_perform_6_10.2.1 78 42 ∧ zq_at zy_perform_6_10.2.1 79 182 ∧ zq_at zy_perform_6_10.2.1 80 0 ∧ zq_at zy_perform_6_10.2.1 81 92 := by decide +kernel
theorem zd_6_10_75 : zz_B zy_perform_6_10 75 Instr.goto 120 78 := ⟨45, zq_167 zg_6_10_75.1 zg_6_10_75.2.1 zg_6_10_75.2.2.1 (by decide), rfl, rfl⟩
theorem zd_6_10_78 : zz_D zy_perform_6_10 78 (.aload_n 0) 1 79 := ⟨zq_42 zg_6_10_75.2.2.2.1, rfl⟩
theorem zd_6_10_79 : zz_D zy_perform_6_10 79 (.invokevirtual 92) 3 82 := ⟨zq_182 zg_6_10_75.2.2.2.2.1 zg_6_10_75.2.2.2.2.2.1 zg_6_10_75.2.2.2.2.2.2 rfl, rfl⟩
theorem zg_6_13_0 : zq_at zy_clearCells_6_13.2.1 0 3 ∧ zq_at zy_clearCells_6_13.2.1 1 60 ∧ zq_at zy_clearCells_6_13.2.1 2 27 ∧ zq_at zy_clearCells_6_13.2.1 3 42 ∧ zq_at zy_clearCells_6_13.2.1 4 180 ∧ zq_at zy_clearCells_6_13.2.1 5 0 ∧ zq_at zy_clearCells_6_13.2.1 6 113 ∧ zq_at zy_clearCells_6_13.2.1 7 162 ∧ zq_at zy_clearCells_6_13.2.1 8 0 ∧ zq_at zy_clearCells_6_13.2.1 9 44 ∧ zq_at zy_clearCells_6_13.2.1 51 177 ∧ zq_at zy_clearCells_6_13.2.1 10 3 ∧ zq_at zy_clearCells_6_13.2.1 11 61 ∧ zq_at zy_clearCells_6_13.2.1 12 28 ∧ zq_at zy_clearCells_6_13.2.1 13 42 ∧ zq_at zy_clearCells_6_13.2.1 14 180 ∧ zq_at zy_clearCells_6_13.2.1 15 0 ∧ zq_at zy_clearCells_6_13.2.1 16 116 ∧ zq_at zy_clearCells_6_13.2.1 17 162 ∧ zq_at zy_clearCells_6_13.2.1 18 0 ∧ zq_at zy_clearCells_6_13.2.1 19 28 ∧ zq_at zy_clearCells_6_13.2.1 45 132 ∧ zq_at zy_clearCells_6_13.2.1 46 1 ∧ zq_at zy_clearCells_6_13.2.1 47 1 := by decide +kernel
theorem zd_6_13_0 : zz_D zy_clearCells_6_13 0 (.iconst 0) 1 1 := ⟨zq_3 zg_6_13_0.1, rfl⟩
theorem zd_6_13_1 : zz_D zy_clearCells_6_13 1 (.istore_n 1) 1 2 := ⟨zq_60 zg_6_13_0.2.1, rfl⟩
theorem zd_6_13_2 : zz_D zy_clearCells_6_13 2 (.iload_n 1) 1 3 := ⟨zq_27 zg_6_13_0.2.2.1, rfl⟩
theorem zd_6_13_3 : zz_D zy_clearCells_6_13 3 (.aload_n 0) 1 4 := ⟨zq_42 zg_6_13_0.2.2.2.1, rfl⟩
theorem zd_6_13_4 : zz_D zy_clearCells_6_13 4 (.getfield 113) 3 7 := ⟨zq_180 zg_6_13_0.2.2.2.2.1 zg_6_13_0.2.2.2.2.2.1 zg_6_13_0.2.2.2.2.2.2.1 rfl, rfl⟩
theorem zd_6_13_7 : zz_B zy_clearCells_6_13 7 (Instr.if_icmp .ge) 51 10 := ⟨44, zq_162 zg_6_13_0.2.2.2.2.2.2.2.1 zg_6_13_0.2.2.2.2.2.2.2.2.1 zg_6_13_0.2.2.2.2.2.2.2.2.2.1 (by decide), rfl, rfl⟩
theorem zd_6_13_51 : zz_D zy_clearCells_6_13 51 (.return_) 1 52 := ⟨zq_177 zg_6_13_0.2.2.2.2.2.2.2.2.2.2.1, rfl⟩
theorem zd_6_13_10 : zz_D zy_clearCells_6_13 10 (.iconst 0) 1 11 := ⟨zq_3 zg_6_13_0.2.2.2.2.2.2.2.2.2.2.2.1, rfl⟩
theorem zd_6_13_11 : zz_D zy_clearCells_6_13 11 (.istore_n 2) 1 12 := ⟨zq_61 zg_6_13_0.2.2.2.2.2.2.2.2.2.2.2.2.1, rfl⟩
theorem zd_6_13_12 : zz_D zy_clearCells_6_13 12 (.iload_n 2) 1 13 := ⟨zq_28 zg_6_13_0.2.2.2.2.2.2.2.2.2.2.2.2.2.1, rfl⟩
theorem zd_6_13_13 : zz_D zy_clearCells_6_13 13 (.aload_n 0) 1 14 := ⟨zq_42 zg_6_13_0.2.2.2.2.2.2.2.2.2.2.2.2.2.2.1, rfl⟩
theorem zd_6_13_14 : zz_D zy_clearCells_6_13 14 (.getfield 116) 3 17 := ⟨zq_180 zg_6_13_0.2.2.2.2.2.2.2.2.2.2.2.2.2.2.2.1 zg_6_13_0.2.2.2.2.2.2.2.2.2.2.2.2.2.2.2.2.1 zg_6_13_0.2.2.2.2.2.2.2.2.2.2.2.2.2.2.2.2.2.1 rfl, rfl⟩
theorem zd_6_13_17 : zz_B zy_clearCells_6_13 17 (Instr.if_icmp .ge) 45 20 := ⟨28, zq_162 zg_6_13_0.2.2.2.2.2.2.2.2.2.2.2.2.2.2.2.2.2.2.1 zg_6_13_0.2.2.2.2.2.2.2.2.2.2.2.2.2.2.2.2.2.2.2.1 zg_6_13_0.2.2.2.2.2.2.2.2.2.2.2.2.2.2.2.2.2.2.2.2.1 (by decide), rfl, rfl⟩
theorem zd_6_13_45 : zz_D zy_clearCells_6_13 45 (.iinc 1 1) 3 48 := ⟨zq_132 zg_6_13_0.2.2.2.2.2.2.2.2.2.2.2.2.2.2.2.2.2.2.2.2.2.1 zg_6_13_0.2.2.2.2.2.2.2.2.2.2.2.2.2.2.2.2.2.2.2.2.2.2.1 zg_6_13_0.2.2.2.2.2.2.2.2.2.2.2.2.2.2.2.2.2.2.2.2.2.2.2 (by decide), rfl⟩
theorem zg_6_13_48 : zq_at zy_clearCells_6_13.2.1 48 167 ∧ zq_at zy_clearCells_6_13.2.1 49 255 ∧ zq_at zy_clearCells_6_13.2.1 50 210 ∧ zq_at zy_clearCells_6_13.2.1 20 42 ∧ zq_at zy_clearCells_6_13.2.1 21 180 ∧ zq_at zy_clearCells_6_13.2.1 22 0 ∧ zq_at zy_clearCells_6_13.2.1 23 19 ∧ zq_at zy_clearCells_6_13.2.1 24 42 ∧ zq_at zy_clearCells_6_13.2.1 25 180 ∧ zq_at zy_clearCells_6_13.2.1 26 0 ∧ zq_at zy_clearCells_6_13.2.1 27 119 ∧ zq_at zy_clearCells_6_13.2.1 28 27 ∧ zq_at zy_clearCells_6_13.2.1 29 42 ∧ zq_at zy_clearCells_6_13.2.1 30 180 ∧ zq_at zy_clearCells_6_13.2.1 31 0 ∧ zq_at zy_clearCells_6_13.2.1 32 36 ∧ zq_at zy_clearCells_6_13.2.1 33 104 ∧ zq_at zy_clearCells_6_13.2.1 34 96 ∧ zq_at zy_clearCells_6_13.2.1 35 28 ∧ zq_at zy_clearCells_6_13.2.1 36 96 ∧ zq_at zy_clearCells_6_13.2.1 37 3 ∧ zq_at zy_clearCells_6_13.2.1 38 84 := by decide +kernel
theorem zd_6_13_48 : zz_B zy_clearCells_6_13 48 Instr.goto 2 51 := ⟨(-46), zq_167 zg_6_13_48.1 zg_6_13_48.2.1 zg_6_13_48.2.2.1 (by decide), rfl, rfl⟩
theorem zd_6_13_20 : zz_D zy_clearCells_6_13 20 (.aload_n 0) 1 21 := ⟨zq_42 zg_6_13_48.2.2.2.1, rfl⟩
theorem zd_6_13_21 : zz_D zy_clearCells_6_13 21 (.getfield 19) 3 24 := ⟨zq_180 zg_6_13_48.2.2.2.2.1 zg_6_13_48.2.2.2.2.2.1 zg_6_13_48.2.2.2.2.2.2.1 rfl, rfl⟩
theorem zd_6_13_24 : zz_D zy_clearCells_6_13 24 (.aload_n 0) 1 25 := ⟨zq_42 zg_6_13_48.2.2.2.2.2.2.2.1, rfl⟩
theorem zd_6_13_25 : zz_D zy_clearCells_6_13 25 (.getfield 119) 3 28 := ⟨zq_180 zg_6_13_48.2.2.2.2.2.2.2.2.1 zg_6_13_48.2.2.2.2.2.2.2.2.2.1 zg_6_13_48.2.2.2.2.2.2.2.2.2.2.1 rfl, rfl⟩
theorem zd_6_13_28 : zz_D zy_clearCells_6_13 28 (.iload_n 1) 1 29 := ⟨zq_27 zg_6_13_48.2.2.2.2.2.2.2.2.2.2.2.1, rfl⟩
theorem zd_6_13_29 : zz_D zy_clearCells_6_13 29 (.aload_n 0) 1 30 := ⟨zq_42 zg_6_13_48.2.2.2.2.2.2.2.2.2.2.2.2.1, rfl⟩
theorem zd_6_13_30 : zz_D zy_clearCells_6_13 30 (.getfield 36) 3 33 := ⟨zq_180 zg_6_13_48.2.2.2.2.2.2.2.2.2.2.2.2.2.1 zg_6_13_48.2.2.2.2.2.2.2.2.2.2.2.2.2.2.1 zg_6_13_48.2.2.2.2.2.2.2.2.2.2.2.2.2.2.2.1 rfl, rfl⟩
theorem zd_6_13_33 : zz_D zy_clearCells_6_13 33 (.imul) 1 34 := ⟨zq_104 zg_6_13_48.2.2.2.2.2.2.2.2.2.2.2.2.2.2.2.2.1, rfl⟩
theorem zd_6_13_34 : zz_D zy_clearCells_6_13 34 (.iadd) 1 35 := ⟨zq_96 zg_6_13_48.2.2.2.2.2.2.2.2.2.2.2.2.2.2.2.2.2.1, rfl⟩
theorem zd_6_13_35 : zz_D zy_clearCells_6_13 35 (.iload_n 2) 1 36 := ⟨zq_28 zg_6_13_48.2.2.2.2.2.2.2.2.2.2.2.2.2.2.2.2.2.2.1, rfl⟩
theorem zd_6_13_36 : zz_D zy_clearCells_6_13 36 (.iadd) 1 37 := ⟨zq_96 zg_6_13_48.2.2.2.2.2.2.2.2.2.2.2.2.2.2.2.2.2.2.2.1, rfl⟩
theorem zd_6_13_37 : zz_D zy_clearCells_6_13 37 (.iconst 0) 1 38 := ⟨zq_3 zg_6_13_48.2.2.2.2.2.2.2.2.2.2.2.2.2.2.2.2.2.2.2.2.1, rfl⟩
theorem zd_6_13_38 : zz_D zy_clearCells_6_13 38 (.bastore) 1 39 := ⟨zq_84 zg_6_13_48.2.2.2.2.2.2.2.2.2.2.2.2.2.2.2.2.2.2.2.2.2, rfl⟩
theorem zg_6_13_39 : zq_at zy_clearCells_6_13.2.1 39 132 ∧ zq_at zy_clearCells_6_13.2.1 40 2 ∧ zq_at zy_clearCells_6_13.2.1 41 1 ∧ zq_at zy_clearCells_6_13.2.1 42 167 ∧ zq_at zy_clearCells_6_13.2.1 43 255 ∧ zq_at zy_clearCells_6_13.2.1 44 226 := by decide +kernel
theorem zd_6_13_39 : zz_D zy_clearCells_6_13 39 (.iinc 2 1) 3 42 := ⟨zq_132 zg_6_13_39.1 zg_6_13_39.2.1 zg_6_13_39.2.2.1 (by decide), rfl⟩
theorem zd_6_13_42 : zz_B zy_clearCells_6_13 42 Instr.goto 12 45 := ⟨(-30), zq_167 zg_6_13_39.2.2.2.1 zg_6_13_39.2.2.2.2.1 zg_6_13_39.2.2.2.2.2 (by decide), rfl, rfl⟩
-- TensorForge$Machine clearCells ()V
abbrev zr_clearCells_6_13 : Room := { frames := 0, cells := 0, slots := 0, locals := 0 }
def zp_clearCells_6_13  (S0 : zz_S) : zz_S → Prop := fun S => zz_G S ∧ zz_fr [] [1033] (fun _ _ => False) S0 S
theorem zb_clearCells_6_13_2 {g : mm_G} {l : Launch}  (S0 : zz_S) (n : Nat) (hn : zz_end ≤ n) (G_S0 : zz_G S0) (hl : zz_lc 3 (S0 1031 7) (S0 1031 8) (S0 1031 9) (S0 1031 10) (S0 1031 11) (S0 1031 12) (S0 1031 13) (S0 1031 6)) (x1 : Int) (S : zz_S) (G_S : zz_G S) (F_S : zz_fr [] [1033] (fun _ _ => False) S0 S) (i2_0 : 0 ≤ x1 ∧ x1 ≤ 63) (R : Nat) (hR : (34359738368 + (S0 1031 8 - x1).toNat) * 1099511627776 + 1099511627775 = R) (k12 : ∀ (x1 : Int) (x2 : Int) (S : zz_S), zz_G S → zz_fr [] [1033] (fun _ _ => False) S0 S → (0 ≤ x1 ∧ x1 ≤ 62) → (0 ≤ x2 ∧ x2 ≤ 31) → (0 ≤ x1 ∧ x1 ≤ 63) → (x1 < S0 1031 8) → (34359738368 + (S0 1031 8 - x1).toNat) * 1099511627776 + (17179869184 + (S0 1031 9 - x2).toNat) < R → zz_E g l zy_clearCells_6_13 zr_clearCells_6_13 (zz_QV n (zp_clearCells_6_13  S0)) S n 12 [some (.ref 1031), some (zi x1), some (zi x2)] [] 0 0) : zz_E g l zy_clearCells_6_13 zr_clearCells_6_13 (zz_QV n (zp_clearCells_6_13  S0)) S n 2 [some (.ref 1031), some (zi x1)] [] 0 0 := by
  refine zz_iload_n (x := x1) rfl zd_6_13_2 ?_
  refine zz_aload_n (x := 1031) rfl zd_6_13_3 ?_
  have g2 := zz_G.r G_S0 1031 8 0 63 rfl rfl
  refine zz_geti (z := S0 1031 8) zd_6_13_4 zf_Machine_113 zT_1031 rfl (zz_ltn hn rfl) (zz_rc F_S rfl rfl (fun h => h) rfl) ?_
  refine zz_icmp_ge (by omega) (by omega) zd_6_13_7 (fun c3 => ?_) (fun c3 => ?_)
  · exact zz_vret zd_6_13_51 rfl (Nat.zero_le _) (Nat.zero_le _) ⟨_, rfl, G_S, F_S⟩
  · refine zz_iconst zd_6_13_10 ?_
    refine zz_istore_n [some (.ref 1031), some (zi x1), some (zi 0)] zd_6_13_11 (by decide) rfl ?_
    have g4 := zz_G.r G_S0 1031 9 0 31 rfl rfl
    refine zz_less (ls1 := [some (.ref 1031), some (zi x1), some (zi 0)]) ⟨rfl, ⟨rfl, ⟨rfl, trivial⟩⟩⟩ ?_
    exact k12 x1 0 S G_S F_S (by omega) (by omega) (by omega) (by omega) (by omega)
theorem zb_clearCells_6_13_12 {g : mm_G} {l : Launch}  (S0 : zz_S) (n : Nat) (hn : zz_end ≤ n) (G_S0 : zz_G S0) (hl : zz_lc 3 (S0 1031 7) (S0 1031 8) (S0 1031 9) (S0 1031 10) (S0 1031 11) (S0 1031 12) (S0 1031 13) (S0 1031 6)) (x1 : Int) (x2 : Int) (S : zz_S) (G_S : zz_G S) (F_S : zz_fr [] [1033] (fun _ _ => False) S0 S) (i12_0 : 0 ≤ x1 ∧ x1 ≤ 62) (i12_1 : 0 ≤ x2 ∧ x2 ≤ 31) (i12_2 : 0 ≤ x1 ∧ x1 ≤ 63) (i12_3 : x1 < S0 1031 8) (R : Nat) (hR : (34359738368 + (S0 1031 8 - x1).toNat) * 1099511627776 + (17179869184 + (S0 1031 9 - x2).toNat) = R) (k2 : ∀ (x1 : Int) (S : zz_S), zz_G S → zz_fr [] [1033] (fun _ _ => False) S0 S → (0 ≤ x1 ∧ x1 ≤ 63) → (34359738368 + (S0 1031 8 - x1).toNat) * 1099511627776 + 1099511627775 < R → zz_E g l zy_clearCells_6_13 zr_clearCells_6_13 (zz_QV n (zp_clearCells_6_13  S0)) S n 2 [some (.ref 1031), some (zi x1)] [] 0 0) (k12 : ∀ (x1 : Int) (x2 : Int) (S : zz_S), zz_G S → zz_fr [] [1033] (fun _ _ => False) S0 S → (0 ≤ x1 ∧ x1 ≤ 62) → (0 ≤ x2 ∧ x2 ≤ 31) → (0 ≤ x1 ∧ x1 ≤ 63) → (x1 < S0 1031 8) → (34359738368 + (S0 1031 8 - x1).toNat) * 1099511627776 + (17179869184 + (S0 1031 9 - x2).toNat) < R → zz_E g l zy_clearCells_6_13 zr_clearCells_6_13 (zz_QV n (zp_clearCells_6_13  S0)) S n 12 [some (.ref 1031), some (zi x1), some (zi x2)] [] 0 0) : zz_E g l zy_clearCells_6_13 zr_clearCells_6_13 (zz_QV n (zp_clearCells_6_13  S0)) S n 12 [some (.ref 1031), some (zi x1), some (zi x2)] [] 0 0 := by
  have l0 := hl
  unfold zz_lc at l0
  have lk := l0.2.2.2.2.1 rfl
  have l2 := l0.2.1 (by decide)
  clear l0
  have gS := zz_G.r G_S0 1031 6 2 8 rfl rfl
  have gT := zz_G.r G_S0 1031 12 0 1023 rfl rfl
  have m1 : x1 * S0 1031 6 ≤ (S0 1031 8 - 1) * S0 1031 6 := Int.mul_le_mul_of_nonneg_right (by omega) (by omega)
  have m2 : x1 * S0 1031 12 ≤ (S0 1031 8 - 1) * S0 1031 12 := Int.mul_le_mul_of_nonneg_right (by omega) (by omega)
  refine zz_iload_n (x := x2) rfl zd_6_13_12 ?_
  refine zz_aload_n (x := 1031) rfl zd_6_13_13 ?_
  have g5 := zz_G.r G_S0 1031 9 0 31 rfl rfl
  refine zz_geti (z := S0 1031 9) zd_6_13_14 zf_Machine_116 zT_1031 rfl (zz_ltn hn rfl) (zz_rc F_S rfl rfl (fun h => h) rfl) ?_
  refine zz_icmp_ge (by omega) (by omega) zd_6_13_17 (fun c6 => ?_) (fun c6 => ?_)
  · refine zz_iinc [some (.ref 1031), some (zi (x1 + 1)), some (zi x2)] zd_6_13_45 rfl rfl ?_
    refine zz_goto zd_6_13_48 ?_
    have g7 := zz_G.r G_S0 1031 8 0 63 rfl rfl
    refine zz_less (ls1 := [some (.ref 1031), some (zi (x1 + 1))]) ⟨rfl, ⟨rfl, trivial⟩⟩ ?_
    exact k2 (x1 + 1) S G_S F_S (by omega) (by omega)
  · refine zz_aload_n (x := 1031) rfl zd_6_13_20 ?_
    refine zz_getr (kd := 0) (z := 1033) zd_6_13_21 zf_Machine_19 zT_1031 rfl (zz_ltn hn rfl) (zz_G.eq G_S 1031 1 1033 rfl rfl) (by decide) 1033 rfl ?_
    refine zz_aload_n (x := 1031) rfl zd_6_13_24 ?_
    have g8 := zz_G.r G_S0 1031 10 0 511 rfl rfl
    refine zz_geti (z := S0 1031 10) zd_6_13_25 zf_Machine_119 zT_1031 rfl (zz_ltn hn rfl) (zz_rc F_S rfl rfl (fun h => h) rfl) ?_
    refine zz_iload_n (x := x1) rfl zd_6_13_28 ?_
    refine zz_aload_n (x := 1031) rfl zd_6_13_29 ?_
    have g9 := zz_G.r G_S0 1031 6 2 8 rfl rfl
    refine zz_geti (z := S0 1031 6) zd_6_13_30 zf_Machine_36 zT_1031 rfl (zz_ltn hn rfl) (zz_rc F_S rfl rfl (fun h => h) rfl) ?_
    refine zz_imul zd_6_13_33 ?_
    have m10 := zz_mulb (a := x1) (b := S0 1031 6) 62 8 496 (by omega) (by omega) (by decide)
    refine zz_iadd zd_6_13_34 ?_
    refine zz_iload_n (x := x2) rfl zd_6_13_35 ?_
    refine zz_iadd zd_6_13_36 ?_
    refine zz_iconst zd_6_13_37 ?_
    refine zz_bast zd_6_13_38 zT_1033 rfl (zz_ltn hn rfl) (by decide) (by omega) (by omega) (fun S11 qS11 => ?_)
    have G_S11 := zz_G.put G_S qS11 (-128) 127 rfl (by omega)
    have F_S11 := zz_fr.putc F_S qS11 rfl
    refine zz_iinc [some (.ref 1031), some (zi x1), some (zi (x2 + 1))] zd_6_13_39 rfl rfl ?_
    refine zz_goto zd_6_13_42 ?_
    have g12 := zz_G.r G_S0 1031 8 0 63 rfl rfl
    refine zz_less (ls1 := [some (.ref 1031), some (zi x1), some (zi (x2 + 1))]) ⟨rfl, ⟨rfl, ⟨rfl, trivial⟩⟩⟩ ?_
    exact k12 x1 (x2 + 1) S11 G_S11 F_S11 (by omega) (by omega) (by omega) (by omega) (by omega)
theorem zi_clearCells_6_13 {g : mm_G} {l : Launch}  (S0 : zz_S) (n : Nat) (hn : zz_end ≤ n) (G_S0 : zz_G S0) (hl : zz_lc 3 (S0 1031 7) (S0 1031 8) (S0 1031 9) (S0 1031 10) (S0 1031 11) (S0 1031 12) (S0 1031 13) (S0 1031 6)) : ∀ N : Nat, (∀ (x1 : Int) (S : zz_S), zz_G S → zz_fr [] [1033] (fun _ _ => False) S0 S → (0 ≤ x1 ∧ x1 ≤ 63) → (34359738368 + (S0 1031 8 - x1).toNat) * 1099511627776 + 1099511627775 < N → zz_E g l zy_clearCells_6_13 zr_clearCells_6_13 (zz_QV n (zp_clearCells_6_13  S0)) S n 2 [some (.ref 1031), some (zi x1)] [] 0 0) ∧ (∀ (x1 : Int) (x2 : Int) (S : zz_S), zz_G S → zz_fr [] [1033] (fun _ _ => False) S0 S → (0 ≤ x1 ∧ x1 ≤ 62) → (0 ≤ x2 ∧ x2 ≤ 31) → (0 ≤ x1 ∧ x1 ≤ 63) → (x1 < S0 1031 8) → (34359738368 + (S0 1031 8 - x1).toNat) * 1099511627776 + (17179869184 + (S0 1031 9 - x2).toNat) < N → zz_E g l zy_clearCells_6_13 zr_clearCells_6_13 (zz_QV n (zp_clearCells_6_13  S0)) S n 12 [some (.ref 1031), some (zi x1), some (zi x2)] [] 0 0) := by
  intro N
  induction N with
  | zero => exact ⟨fun x1 S _ _ _ h => absurd h (Nat.not_lt_zero _), fun x1 x2 S _ _ _ _ _ _ h => absurd h (Nat.not_lt_zero _)⟩
  | succ N ih =>
    exact ⟨fun x1 S a b j0 hR => zb_clearCells_6_13_2  S0 n hn G_S0 hl x1 S a b j0 _ rfl (fun x1 x2 S a b j0 j1 j2 j3 h => ih.2 x1 x2 S a b j0 j1 j2 j3 (Nat.lt_of_lt_of_le h (Nat.le_of_lt_succ hR))),
      fun x1 x2 S a b j0 j1 j2 j3 hR => zb_clearCells_6_13_12  S0 n hn G_S0 hl x1 x2 S a b j0 j1 j2 j3 _ rfl (fun x1 S a b j0 h => ih.1 x1 S a b j0 (Nat.lt_of_lt_of_le h (Nat.le_of_lt_succ hR))) (fun x1 x2 S a b j0 j1 j2 j3 h => ih.2 x1 x2 S a b j0 j1 j2 j3 (Nat.lt_of_lt_of_le h (Nat.le_of_lt_succ hR)))⟩
theorem zc_clearCells_6_13 {g : mm_G} {l : Launch}  (S0 : zz_S) (n : Nat) (hn : zz_end ≤ n) (G_S0 : zz_G S0) (hl : zz_lc 3 (S0 1031 7) (S0 1031 8) (S0 1031 9) (S0 1031 10) (S0 1031 11) (S0 1031 12) (S0 1031 13) (S0 1031 6)) : mm_Met g l zy_clearCells_6_13 zr_clearCells_6_13 [.ref 1031] (zz_M S0 n) n (zz_QV n (zp_clearCells_6_13  S0)) := by
  refine zz_enter (by decide) (Nat.le_of_ble_eq_true rfl) (zz_less (ls1 := [some (.ref 1031)]) ⟨rfl, trivial⟩ ?_)
  have F_S0 : zz_fr [] [1033] (fun _ _ => False) S0 S0 := zz_fr.refl
  have k2 : ∀ (x1 : Int) (S : zz_S), zz_G S → zz_fr [] [1033] (fun _ _ => False) S0 S → (0 ≤ x1 ∧ x1 ≤ 63) → zz_E g l zy_clearCells_6_13 zr_clearCells_6_13 (zz_QV n (zp_clearCells_6_13  S0)) S n 2 [some (.ref 1031), some (zi x1)] [] 0 0 := fun x1 S a b j0 => (zi_clearCells_6_13 (g := g) (l := l)  S0 n hn G_S0 hl _).1 x1 S a b j0 (Nat.lt_succ_self _)
  refine zz_iconst zd_6_13_0 ?_
  refine zz_istore_n [some (.ref 1031), some (zi 0)] zd_6_13_1 (by decide) rfl ?_
  have g1 := zz_G.r G_S0 1031 8 0 63 rfl rfl
  refine zz_less (ls1 := [some (.ref 1031), some (zi 0)]) ⟨rfl, ⟨rfl, trivial⟩⟩ ?_
  exact k2 0 S0 G_S0 F_S0 (by omega)
theorem zk_Machine_92 : mm_Vl "TensorForge$Machine" 92 3 0 zy_clearCells_6_13 := ⟨zyw_clearCells_6_13, (R_Machine, F_Machine, 14), rfl, mm_tb_1 802 (by decide +kernel) rfl, mm_tb_1 804 (by decide +kernel) rfl, mm_tb_s 29 (by decide +kernel) rfl⟩
abbrev zy_loadSums_6_14 : mm_Y := (⟨"TensorForge$Machine", "loadSums", "()V"⟩, prog_6_method_14_code, 3, none)
theorem zyw_loadSums_6_14 : mm_Yw zy_loadSums_6_14 0 := ⟨mm_tb_1 809 (by decide +kernel) rfl, mm_tb_1 4 (by decide +kernel) rfl, ⟨by decide, by decide⟩, by decide +kernel⟩
abbrev zy_intAt_6_4 : mm_Y := (⟨"TensorForge$Machine", "intAt", "([BI)I"⟩, prog_6_method_4_code, 2, (some .int))
theorem zyw_intAt_6_4 : mm_Yw zy_intAt_6_4 2 := ⟨mm_tb_1 812 (by decide +kernel) rfl, mm_tb_1 4 (by decide +kernel) rfl, ⟨by decide, by decide⟩, by decide +kernel⟩
theorem zg_6_10_82 : zq_at zy_perform_6_10.2.1 82 167 ∧ zq_at zy_perform_6_10.2.1 83 0 ∧ zq_at zy_perform_6_10.2.1 84 38 ∧ zq_at zy_perform_6_10.2.1 85 42 ∧ zq_at zy_perform_6_10.2.1 86 182 ∧ zq_at zy_perform_6_10.2.1 87 0 ∧ zq_at zy_perform_6_10.2.1 88 95 := by decide +kernel
theorem zd_6_10_82 : zz_B zy_perform_6_10 82 Instr.goto 120 85 := ⟨38, zq_167 zg_6_10_82.1 zg_6_10_82.2.1 zg_6_10_82.2.2.1 (by decide), rfl, rfl⟩
theorem zd_6_10_85 : zz_D zy_perform_6_10 85 (.aload_n 0) 1 86 := ⟨zq_42 zg_6_10_82.2.2.2.1, rfl⟩
theorem zd_6_10_86 : zz_D zy_perform_6_10 86 (.invokevirtual 95) 3 89 := ⟨zq_182 zg_6_10_82.2.2.2.2.1 zg_6_10_82.2.2.2.2.2.1 zg_6_10_82.2.2.2.2.2.2 rfl, rfl⟩
theorem zg_6_14_0 : zq_at zy_loadSums_6_14.2.1 0 3 ∧ zq_at zy_loadSums_6_14.2.1 1 60 ∧ zq_at zy_loadSums_6_14.2.1 2 27 ∧ zq_at zy_loadSums_6_14.2.1 3 42 ∧ zq_at zy_loadSums_6_14.2.1 4 180 ∧ zq_at zy_loadSums_6_14.2.1 5 0 ∧ zq_at zy_loadSums_6_14.2.1 6 113 ∧ zq_at zy_loadSums_6_14.2.1 7 162 ∧ zq_at zy_loadSums_6_14.2.1 8 0 ∧ zq_at zy_loadSums_6_14.2.1 9 65 ∧ zq_at zy_loadSums_6_14.2.1 72 177 ∧ zq_at zy_loadSums_6_14.2.1 10 3 ∧ zq_at zy_loadSums_6_14.2.1 11 61 ∧ zq_at zy_loadSums_6_14.2.1 12 28 ∧ zq_at zy_loadSums_6_14.2.1 13 42 ∧ zq_at zy_loadSums_6_14.2.1 14 180 ∧ zq_at zy_loadSums_6_14.2.1 15 0 ∧ zq_at zy_loadSums_6_14.2.1 16 116 ∧ zq_at zy_loadSums_6_14.2.1 17 162 ∧ zq_at zy_loadSums_6_14.2.1 18 0 ∧ zq_at zy_loadSums_6_14.2.1 19 49 ∧ zq_at zy_loadSums_6_14.2.1 66 132 ∧ zq_at zy_loadSums_6_14.2.1 67 1 ∧ zq_at zy_loadSums_6_14.2.1 68 1 := by decide +kernel
theorem zd_6_14_0 : zz_D zy_loadSums_6_14 0 (.iconst 0) 1 1 := ⟨zq_3 zg_6_14_0.1, rfl⟩
theorem zd_6_14_1 : zz_D zy_loadSums_6_14 1 (.istore_n 1) 1 2 := ⟨zq_60 zg_6_14_0.2.1, rfl⟩
theorem zd_6_14_2 : zz_D zy_loadSums_6_14 2 (.iload_n 1) 1 3 := ⟨zq_27 zg_6_14_0.2.2.1, rfl⟩
theorem zd_6_14_3 : zz_D zy_loadSums_6_14 3 (.aload_n 0) 1 4 := ⟨zq_42 zg_6_14_0.2.2.2.1, rfl⟩
theorem zd_6_14_4 : zz_D zy_loadSums_6_14 4 (.getfield 113) 3 7 := ⟨zq_180 zg_6_14_0.2.2.2.2.1 zg_6_14_0.2.2.2.2.2.1 zg_6_14_0.2.2.2.2.2.2.1 rfl, rfl⟩
theorem zd_6_14_7 : zz_B zy_loadSums_6_14 7 (Instr.if_icmp .ge) 72 10 := ⟨65, zq_162 zg_6_14_0.2.2.2.2.2.2.2.1 zg_6_14_0.2.2.2.2.2.2.2.2.1 zg_6_14_0.2.2.2.2.2.2.2.2.2.1 (by decide), rfl, rfl⟩
theorem zd_6_14_72 : zz_D zy_loadSums_6_14 72 (.return_) 1 73 := ⟨zq_177 zg_6_14_0.2.2.2.2.2.2.2.2.2.2.1, rfl⟩
theorem zd_6_14_10 : zz_D zy_loadSums_6_14 10 (.iconst 0) 1 11 := ⟨zq_3 zg_6_14_0.2.2.2.2.2.2.2.2.2.2.2.1, rfl⟩
theorem zd_6_14_11 : zz_D zy_loadSums_6_14 11 (.istore_n 2) 1 12 := ⟨zq_61 zg_6_14_0.2.2.2.2.2.2.2.2.2.2.2.2.1, rfl⟩
theorem zd_6_14_12 : zz_D zy_loadSums_6_14 12 (.iload_n 2) 1 13 := ⟨zq_28 zg_6_14_0.2.2.2.2.2.2.2.2.2.2.2.2.2.1, rfl⟩
theorem zd_6_14_13 : zz_D zy_loadSums_6_14 13 (.aload_n 0) 1 14 := ⟨zq_42 zg_6_14_0.2.2.2.2.2.2.2.2.2.2.2.2.2.2.1, rfl⟩
theorem zd_6_14_14 : zz_D zy_loadSums_6_14 14 (.getfield 116) 3 17 := ⟨zq_180 zg_6_14_0.2.2.2.2.2.2.2.2.2.2.2.2.2.2.2.1 zg_6_14_0.2.2.2.2.2.2.2.2.2.2.2.2.2.2.2.2.1 zg_6_14_0.2.2.2.2.2.2.2.2.2.2.2.2.2.2.2.2.2.1 rfl, rfl⟩
theorem zd_6_14_17 : zz_B zy_loadSums_6_14 17 (Instr.if_icmp .ge) 66 20 := ⟨49, zq_162 zg_6_14_0.2.2.2.2.2.2.2.2.2.2.2.2.2.2.2.2.2.2.1 zg_6_14_0.2.2.2.2.2.2.2.2.2.2.2.2.2.2.2.2.2.2.2.1 zg_6_14_0.2.2.2.2.2.2.2.2.2.2.2.2.2.2.2.2.2.2.2.2.1 (by decide), rfl, rfl⟩
theorem zd_6_14_66 : zz_D zy_loadSums_6_14 66 (.iinc 1 1) 3 69 := ⟨zq_132 zg_6_14_0.2.2.2.2.2.2.2.2.2.2.2.2.2.2.2.2.2.2.2.2.2.1 zg_6_14_0.2.2.2.2.2.2.2.2.2.2.2.2.2.2.2.2.2.2.2.2.2.2.1 zg_6_14_0.2.2.2.2.2.2.2.2.2.2.2.2.2.2.2.2.2.2.2.2.2.2.2 (by decide), rfl⟩
theorem zg_6_14_69 : zq_at zy_loadSums_6_14.2.1 69 167 ∧ zq_at zy_loadSums_6_14.2.1 70 255 ∧ zq_at zy_loadSums_6_14.2.1 71 189 ∧ zq_at zy_loadSums_6_14.2.1 20 42 ∧ zq_at zy_loadSums_6_14.2.1 21 180 ∧ zq_at zy_loadSums_6_14.2.1 22 0 ∧ zq_at zy_loadSums_6_14.2.1 23 25 ∧ zq_at zy_loadSums_6_14.2.1 24 42 ∧ zq_at zy_loadSums_6_14.2.1 25 180 ∧ zq_at zy_loadSums_6_14.2.1 26 0 ∧ zq_at zy_loadSums_6_14.2.1 27 119 ∧ zq_at zy_loadSums_6_14.2.1 28 27 ∧ zq_at zy_loadSums_6_14.2.1 29 42 ∧ zq_at zy_loadSums_6_14.2.1 30 180 ∧ zq_at zy_loadSums_6_14.2.1 31 0 ∧ zq_at zy_loadSums_6_14.2.1 32 36 ∧ zq_at zy_loadSums_6_14.2.1 33 104 ∧ zq_at zy_loadSums_6_14.2.1 34 96 ∧ zq_at zy_loadSums_6_14.2.1 35 28 ∧ zq_at zy_loadSums_6_14.2.1 36 96 ∧ zq_at zy_loadSums_6_14.2.1 37 42 ∧ zq_at zy_loadSums_6_14.2.1 38 180 ∧ zq_at zy_loadSums_6_14.2.1 39 0 ∧ zq_at zy_loadSums_6_14.2.1 40 13 := by decide +kernel
theorem zd_6_14_69 : zz_B zy_loadSums_6_14 69 Instr.goto 2 72 := ⟨(-67), zq_167 zg_6_14_69.1 zg_6_14_69.2.1 zg_6_14_69.2.2.1 (by decide), rfl, rfl⟩
theorem zd_6_14_20 : zz_D zy_loadSums_6_14 20 (.aload_n 0) 1 21 := ⟨zq_42 zg_6_14_69.2.2.2.1, rfl⟩
theorem zd_6_14_21 : zz_D zy_loadSums_6_14 21 (.getfield 25) 3 24 := ⟨zq_180 zg_6_14_69.2.2.2.2.1 zg_6_14_69.2.2.2.2.2.1 zg_6_14_69.2.2.2.2.2.2.1 rfl, rfl⟩
theorem zd_6_14_24 : zz_D zy_loadSums_6_14 24 (.aload_n 0) 1 25 := ⟨zq_42 zg_6_14_69.2.2.2.2.2.2.2.1, rfl⟩
theorem zd_6_14_25 : zz_D zy_loadSums_6_14 25 (.getfield 119) 3 28 := ⟨zq_180 zg_6_14_69.2.2.2.2.2.2.2.2.1 zg_6_14_69.2.2.2.2.2.2.2.2.2.1 zg_6_14_69.2.2.2.2.2.2.2.2.2.2.1 rfl, rfl⟩
theorem zd_6_14_28 : zz_D zy_loadSums_6_14 28 (.iload_n 1) 1 29 := ⟨zq_27 zg_6_14_69.2.2.2.2.2.2.2.2.2.2.2.1, rfl⟩
theorem zd_6_14_29 : zz_D zy_loadSums_6_14 29 (.aload_n 0) 1 30 := ⟨zq_42 zg_6_14_69.2.2.2.2.2.2.2.2.2.2.2.2.1, rfl⟩
theorem zd_6_14_30 : zz_D zy_loadSums_6_14 30 (.getfield 36) 3 33 := ⟨zq_180 zg_6_14_69.2.2.2.2.2.2.2.2.2.2.2.2.2.1 zg_6_14_69.2.2.2.2.2.2.2.2.2.2.2.2.2.2.1 zg_6_14_69.2.2.2.2.2.2.2.2.2.2.2.2.2.2.2.1 rfl, rfl⟩
theorem zd_6_14_33 : zz_D zy_loadSums_6_14 33 (.imul) 1 34 := ⟨zq_104 zg_6_14_69.2.2.2.2.2.2.2.2.2.2.2.2.2.2.2.2.1, rfl⟩
theorem zd_6_14_34 : zz_D zy_loadSums_6_14 34 (.iadd) 1 35 := ⟨zq_96 zg_6_14_69.2.2.2.2.2.2.2.2.2.2.2.2.2.2.2.2.2.1, rfl⟩
theorem zd_6_14_35 : zz_D zy_loadSums_6_14 35 (.iload_n 2) 1 36 := ⟨zq_28 zg_6_14_69.2.2.2.2.2.2.2.2.2.2.2.2.2.2.2.2.2.2.1, rfl⟩
theorem zd_6_14_36 : zz_D zy_loadSums_6_14 36 (.iadd) 1 37 := ⟨zq_96 zg_6_14_69.2.2.2.2.2.2.2.2.2.2.2.2.2.2.2.2.2.2.2.1, rfl⟩
theorem zd_6_14_37 : zz_D zy_loadSums_6_14 37 (.aload_n 0) 1 38 := ⟨zq_42 zg_6_14_69.2.2.2.2.2.2.2.2.2.2.2.2.2.2.2.2.2.2.2.2.1, rfl⟩
theorem zd_6_14_38 : zz_D zy_loadSums_6_14 38 (.getfield 13) 3 41 := ⟨zq_180 zg_6_14_69.2.2.2.2.2.2.2.2.2.2.2.2.2.2.2.2.2.2.2.2.2.1 zg_6_14_69.2.2.2.2.2.2.2.2.2.2.2.2.2.2.2.2.2.2.2.2.2.2.1 zg_6_14_69.2.2.2.2.2.2.2.2.2.2.2.2.2.2.2.2.2.2.2.2.2.2.2 rfl, rfl⟩
theorem zg_6_14_41 : zq_at zy_loadSums_6_14.2.1 41 42 ∧ zq_at zy_loadSums_6_14.2.1 42 180 ∧ zq_at zy_loadSums_6_14.2.1 43 0 ∧ zq_at zy_loadSums_6_14.2.1 44 110 ∧ zq_at zy_loadSums_6_14.2.1 45 27 ∧ zq_at zy_loadSums_6_14.2.1 46 42 ∧ zq_at zy_loadSums_6_14.2.1 47 180 ∧ zq_at zy_loadSums_6_14.2.1 48 0 ∧ zq_at zy_loadSums_6_14.2.1 49 125 ∧ zq_at zy_loadSums_6_14.2.1 50 104 ∧ zq_at zy_loadSums_6_14.2.1 51 96 ∧ zq_at zy_loadSums_6_14.2.1 52 7 ∧ zq_at zy_loadSums_6_14.2.1 53 28 ∧ zq_at zy_loadSums_6_14.2.1 54 104 ∧ zq_at zy_loadSums_6_14.2.1 55 96 ∧ zq_at zy_loadSums_6_14.2.1 56 184 ∧ zq_at zy_loadSums_6_14.2.1 57 0 ∧ zq_at zy_loadSums_6_14.2.1 58 131 := by decide +kernel
theorem zd_6_14_41 : zz_D zy_loadSums_6_14 41 (.aload_n 0) 1 42 := ⟨zq_42 zg_6_14_41.1, rfl⟩
theorem zd_6_14_42 : zz_D zy_loadSums_6_14 42 (.getfield 110) 3 45 := ⟨zq_180 zg_6_14_41.2.1 zg_6_14_41.2.2.1 zg_6_14_41.2.2.2.1 rfl, rfl⟩
theorem zd_6_14_45 : zz_D zy_loadSums_6_14 45 (.iload_n 1) 1 46 := ⟨zq_27 zg_6_14_41.2.2.2.2.1, rfl⟩
theorem zd_6_14_46 : zz_D zy_loadSums_6_14 46 (.aload_n 0) 1 47 := ⟨zq_42 zg_6_14_41.2.2.2.2.2.1, rfl⟩
theorem zd_6_14_47 : zz_D zy_loadSums_6_14 47 (.getfield 125) 3 50 := ⟨zq_180 zg_6_14_41.2.2.2.2.2.2.1 zg_6_14_41.2.2.2.2.2.2.2.1 zg_6_14_41.2.2.2.2.2.2.2.2.1 rfl, rfl⟩
theorem zd_6_14_50 : zz_D zy_loadSums_6_14 50 (.imul) 1 51 := ⟨zq_104 zg_6_14_41.2.2.2.2.2.2.2.2.2.1, rfl⟩
theorem zd_6_14_51 : zz_D zy_loadSums_6_14 51 (.iadd) 1 52 := ⟨zq_96 zg_6_14_41.2.2.2.2.2.2.2.2.2.2.1, rfl⟩
theorem zd_6_14_52 : zz_D zy_loadSums_6_14 52 (.iconst 4) 1 53 := ⟨zq_7 zg_6_14_41.2.2.2.2.2.2.2.2.2.2.2.1, rfl⟩
theorem zd_6_14_53 : zz_D zy_loadSums_6_14 53 (.iload_n 2) 1 54 := ⟨zq_28 zg_6_14_41.2.2.2.2.2.2.2.2.2.2.2.2.1, rfl⟩
theorem zd_6_14_54 : zz_D zy_loadSums_6_14 54 (.imul) 1 55 := ⟨zq_104 zg_6_14_41.2.2.2.2.2.2.2.2.2.2.2.2.2.1, rfl⟩
theorem zd_6_14_55 : zz_D zy_loadSums_6_14 55 (.iadd) 1 56 := ⟨zq_96 zg_6_14_41.2.2.2.2.2.2.2.2.2.2.2.2.2.2.1, rfl⟩
theorem zd_6_14_56 : zz_D zy_loadSums_6_14 56 (.invokestatic 131) 3 59 := ⟨zq_184 zg_6_14_41.2.2.2.2.2.2.2.2.2.2.2.2.2.2.2.1 zg_6_14_41.2.2.2.2.2.2.2.2.2.2.2.2.2.2.2.2.1 zg_6_14_41.2.2.2.2.2.2.2.2.2.2.2.2.2.2.2.2.2 rfl, rfl⟩
theorem zg_6_4_0 : zq_at zy_intAt_6_4.2.1 0 27 ∧ zq_at zy_intAt_6_4.2.1 1 155 ∧ zq_at zy_intAt_6_4.2.1 2 0 ∧ zq_at zy_intAt_6_4.2.1 3 11 ∧ zq_at zy_intAt_6_4.2.1 12 3 ∧ zq_at zy_intAt_6_4.2.1 13 172 ∧ zq_at zy_intAt_6_4.2.1 4 27 ∧ zq_at zy_intAt_6_4.2.1 5 42 ∧ zq_at zy_intAt_6_4.2.1 6 190 ∧ zq_at zy_intAt_6_4.2.1 7 7 ∧ zq_at zy_intAt_6_4.2.1 8 100 ∧ zq_at zy_intAt_6_4.2.1 9 164 ∧ zq_at zy_intAt_6_4.2.1 10 0 ∧ zq_at zy_intAt_6_4.2.1 11 5 ∧ zq_at zy_intAt_6_4.2.1 14 42 ∧ zq_at zy_intAt_6_4.2.1 15 27 ∧ zq_at zy_intAt_6_4.2.1 16 51 ∧ zq_at zy_intAt_6_4.2.1 17 17 ∧ zq_at zy_intAt_6_4.2.1 18 0 ∧ zq_at zy_intAt_6_4.2.1 19 255 ∧ zq_at zy_intAt_6_4.2.1 20 126 ∧ zq_at zy_intAt_6_4.2.1 21 42 ∧ zq_at zy_intAt_6_4.2.1 22 27 ∧ zq_at zy_intAt_6_4.2.1 23 4 := by decide +kernel
theorem zd_6_4_0 : zz_D zy_intAt_6_4 0 (.iload_n 1) 1 1 := ⟨zq_27 zg_6_4_0.1, rfl⟩
theorem zd_6_4_1 : zz_B zy_intAt_6_4 1 (Instr.ifCond .lt) 12 4 := ⟨11, zq_155 zg_6_4_0.2.1 zg_6_4_0.2.2.1 zg_6_4_0.2.2.2.1 (by decide), rfl, rfl⟩
theorem zd_6_4_12 : zz_D zy_intAt_6_4 12 (.iconst 0) 1 13 := ⟨zq_3 zg_6_4_0.2.2.2.2.1, rfl⟩
theorem zd_6_4_13 : zz_D zy_intAt_6_4 13 (.ireturn) 1 14 := ⟨zq_172 zg_6_4_0.2.2.2.2.2.1, rfl⟩
theorem zd_6_4_4 : zz_D zy_intAt_6_4 4 (.iload_n 1) 1 5 := ⟨zq_27 zg_6_4_0.2.2.2.2.2.2.1, rfl⟩
theorem zd_6_4_5 : zz_D zy_intAt_6_4 5 (.aload_n 0) 1 6 := ⟨zq_42 zg_6_4_0.2.2.2.2.2.2.2.1, rfl⟩
theorem zd_6_4_6 : zz_D zy_intAt_6_4 6 (.arraylength) 1 7 := ⟨zq_190 zg_6_4_0.2.2.2.2.2.2.2.2.1, rfl⟩
theorem zd_6_4_7 : zz_D zy_intAt_6_4 7 (.iconst 4) 1 8 := ⟨zq_7 zg_6_4_0.2.2.2.2.2.2.2.2.2.1, rfl⟩
theorem zd_6_4_8 : zz_D zy_intAt_6_4 8 (.isub) 1 9 := ⟨zq_100 zg_6_4_0.2.2.2.2.2.2.2.2.2.2.1, rfl⟩
theorem zd_6_4_9 : zz_B zy_intAt_6_4 9 (Instr.if_icmp .le) 14 12 := ⟨5, zq_164 zg_6_4_0.2.2.2.2.2.2.2.2.2.2.2.1 zg_6_4_0.2.2.2.2.2.2.2.2.2.2.2.2.1 zg_6_4_0.2.2.2.2.2.2.2.2.2.2.2.2.2.1 (by decide), rfl, rfl⟩
theorem zd_6_4_14 : zz_D zy_intAt_6_4 14 (.aload_n 0) 1 15 := ⟨zq_42 zg_6_4_0.2.2.2.2.2.2.2.2.2.2.2.2.2.2.1, rfl⟩
theorem zd_6_4_15 : zz_D zy_intAt_6_4 15 (.iload_n 1) 1 16 := ⟨zq_27 zg_6_4_0.2.2.2.2.2.2.2.2.2.2.2.2.2.2.2.1, rfl⟩
theorem zd_6_4_16 : zz_D zy_intAt_6_4 16 (.baload) 1 17 := ⟨zq_51 zg_6_4_0.2.2.2.2.2.2.2.2.2.2.2.2.2.2.2.2.1, rfl⟩
theorem zd_6_4_17 : zz_D zy_intAt_6_4 17 (.sipush 255) 3 20 := ⟨zq_17 zg_6_4_0.2.2.2.2.2.2.2.2.2.2.2.2.2.2.2.2.2.1 zg_6_4_0.2.2.2.2.2.2.2.2.2.2.2.2.2.2.2.2.2.2.1 zg_6_4_0.2.2.2.2.2.2.2.2.2.2.2.2.2.2.2.2.2.2.2.1 (by decide), rfl⟩
theorem zd_6_4_20 : zz_D zy_intAt_6_4 20 (.iand) 1 21 := ⟨zq_126 zg_6_4_0.2.2.2.2.2.2.2.2.2.2.2.2.2.2.2.2.2.2.2.2.1, rfl⟩
theorem zd_6_4_21 : zz_D zy_intAt_6_4 21 (.aload_n 0) 1 22 := ⟨zq_42 zg_6_4_0.2.2.2.2.2.2.2.2.2.2.2.2.2.2.2.2.2.2.2.2.2.1, rfl⟩
theorem zd_6_4_22 : zz_D zy_intAt_6_4 22 (.iload_n 1) 1 23 := ⟨zq_27 zg_6_4_0.2.2.2.2.2.2.2.2.2.2.2.2.2.2.2.2.2.2.2.2.2.2.1, rfl⟩
theorem zd_6_4_23 : zz_D zy_intAt_6_4 23 (.iconst 1) 1 24 := ⟨zq_4 zg_6_4_0.2.2.2.2.2.2.2.2.2.2.2.2.2.2.2.2.2.2.2.2.2.2.2, rfl⟩
theorem zg_6_4_24 : zq_at zy_intAt_6_4.2.1 24 96 ∧ zq_at zy_intAt_6_4.2.1 25 51 ∧ zq_at zy_intAt_6_4.2.1 26 17 ∧ zq_at zy_intAt_6_4.2.1 27 0 ∧ zq_at zy_intAt_6_4.2.1 28 255 ∧ zq_at zy_intAt_6_4.2.1 29 126 ∧ zq_at zy_intAt_6_4.2.1 30 16 ∧ zq_at zy_intAt_6_4.2.1 31 8 ∧ zq_at zy_intAt_6_4.2.1 32 120 ∧ zq_at zy_intAt_6_4.2.1 33 128 ∧ zq_at zy_intAt_6_4.2.1 34 42 ∧ zq_at zy_intAt_6_4.2.1 35 27 ∧ zq_at zy_intAt_6_4.2.1 36 5 ∧ zq_at zy_intAt_6_4.2.1 37 96 ∧ zq_at zy_intAt_6_4.2.1 38 51 ∧ zq_at zy_intAt_6_4.2.1 39 17 ∧ zq_at zy_intAt_6_4.2.1 40 0 ∧ zq_at zy_intAt_6_4.2.1 41 255 ∧ zq_at zy_intAt_6_4.2.1 42 126 ∧ zq_at zy_intAt_6_4.2.1 43 16 ∧ zq_at zy_intAt_6_4.2.1 44 16 ∧ zq_at zy_intAt_6_4.2.1 45 120 ∧ zq_at zy_intAt_6_4.2.1 46 128 ∧ zq_at zy_intAt_6_4.2.1 47 42 := by decide +kernel
theorem zd_6_4_24 : zz_D zy_intAt_6_4 24 (.iadd) 1 25 := ⟨zq_96 zg_6_4_24.1, rfl⟩
theorem zd_6_4_25 : zz_D zy_intAt_6_4 25 (.baload) 1 26 := ⟨zq_51 zg_6_4_24.2.1, rfl⟩
theorem zd_6_4_26 : zz_D zy_intAt_6_4 26 (.sipush 255) 3 29 := ⟨zq_17 zg_6_4_24.2.2.1 zg_6_4_24.2.2.2.1 zg_6_4_24.2.2.2.2.1 (by decide), rfl⟩
theorem zd_6_4_29 : zz_D zy_intAt_6_4 29 (.iand) 1 30 := ⟨zq_126 zg_6_4_24.2.2.2.2.2.1, rfl⟩
theorem zd_6_4_30 : zz_D zy_intAt_6_4 30 (.bipush 8) 2 32 := ⟨zq_16 zg_6_4_24.2.2.2.2.2.2.1 zg_6_4_24.2.2.2.2.2.2.2.1 (by decide), rfl⟩
theorem zd_6_4_32 : zz_D zy_intAt_6_4 32 (.ishl) 1 33 := ⟨zq_120 zg_6_4_24.2.2.2.2.2.2.2.2.1, rfl⟩
theorem zd_6_4_33 : zz_D zy_intAt_6_4 33 (.ior) 1 34 := ⟨zq_128 zg_6_4_24.2.2.2.2.2.2.2.2.2.1, rfl⟩
theorem zd_6_4_34 : zz_D zy_intAt_6_4 34 (.aload_n 0) 1 35 := ⟨zq_42 zg_6_4_24.2.2.2.2.2.2.2.2.2.2.1, rfl⟩
theorem zd_6_4_35 : zz_D zy_intAt_6_4 35 (.iload_n 1) 1 36 := ⟨zq_27 zg_6_4_24.2.2.2.2.2.2.2.2.2.2.2.1, rfl⟩
theorem zd_6_4_36 : zz_D zy_intAt_6_4 36 (.iconst 2) 1 37 := ⟨zq_5 zg_6_4_24.2.2.2.2.2.2.2.2.2.2.2.2.1, rfl⟩
theorem zd_6_4_37 : zz_D zy_intAt_6_4 37 (.iadd) 1 38 := ⟨zq_96 zg_6_4_24.2.2.2.2.2.2.2.2.2.2.2.2.2.1, rfl⟩
theorem zd_6_4_38 : zz_D zy_intAt_6_4 38 (.baload) 1 39 := ⟨zq_51 zg_6_4_24.2.2.2.2.2.2.2.2.2.2.2.2.2.2.1, rfl⟩
theorem zd_6_4_39 : zz_D zy_intAt_6_4 39 (.sipush 255) 3 42 := ⟨zq_17 zg_6_4_24.2.2.2.2.2.2.2.2.2.2.2.2.2.2.2.1 zg_6_4_24.2.2.2.2.2.2.2.2.2.2.2.2.2.2.2.2.1 zg_6_4_24.2.2.2.2.2.2.2.2.2.2.2.2.2.2.2.2.2.1 (by decide), rfl⟩
theorem zd_6_4_42 : zz_D zy_intAt_6_4 42 (.iand) 1 43 := ⟨zq_126 zg_6_4_24.2.2.2.2.2.2.2.2.2.2.2.2.2.2.2.2.2.2.1, rfl⟩
theorem zd_6_4_43 : zz_D zy_intAt_6_4 43 (.bipush 16) 2 45 := ⟨zq_16 zg_6_4_24.2.2.2.2.2.2.2.2.2.2.2.2.2.2.2.2.2.2.2.1 zg_6_4_24.2.2.2.2.2.2.2.2.2.2.2.2.2.2.2.2.2.2.2.2.1 (by decide), rfl⟩
theorem zd_6_4_45 : zz_D zy_intAt_6_4 45 (.ishl) 1 46 := ⟨zq_120 zg_6_4_24.2.2.2.2.2.2.2.2.2.2.2.2.2.2.2.2.2.2.2.2.2.1, rfl⟩
theorem zd_6_4_46 : zz_D zy_intAt_6_4 46 (.ior) 1 47 := ⟨zq_128 zg_6_4_24.2.2.2.2.2.2.2.2.2.2.2.2.2.2.2.2.2.2.2.2.2.2.1, rfl⟩
theorem zd_6_4_47 : zz_D zy_intAt_6_4 47 (.aload_n 0) 1 48 := ⟨zq_42 zg_6_4_24.2.2.2.2.2.2.2.2.2.2.2.2.2.2.2.2.2.2.2.2.2.2.2, rfl⟩
theorem zg_6_4_48 : zq_at zy_intAt_6_4.2.1 48 27 ∧ zq_at zy_intAt_6_4.2.1 49 6 ∧ zq_at zy_intAt_6_4.2.1 50 96 ∧ zq_at zy_intAt_6_4.2.1 51 51 ∧ zq_at zy_intAt_6_4.2.1 52 16 ∧ zq_at zy_intAt_6_4.2.1 53 24 ∧ zq_at zy_intAt_6_4.2.1 54 120 ∧ zq_at zy_intAt_6_4.2.1 55 128 ∧ zq_at zy_intAt_6_4.2.1 56 172 := by decide +kernel
theorem zd_6_4_48 : zz_D zy_intAt_6_4 48 (.iload_n 1) 1 49 := ⟨zq_27 zg_6_4_48.1, rfl⟩
theorem zd_6_4_49 : zz_D zy_intAt_6_4 49 (.iconst 3) 1 50 := ⟨zq_6 zg_6_4_48.2.1, rfl⟩
theorem zd_6_4_50 : zz_D zy_intAt_6_4 50 (.iadd) 1 51 := ⟨zq_96 zg_6_4_48.2.2.1, rfl⟩
theorem zd_6_4_51 : zz_D zy_intAt_6_4 51 (.baload) 1 52 := ⟨zq_51 zg_6_4_48.2.2.2.1, rfl⟩
theorem zd_6_4_52 : zz_D zy_intAt_6_4 52 (.bipush 24) 2 54 := ⟨zq_16 zg_6_4_48.2.2.2.2.1 zg_6_4_48.2.2.2.2.2.1 (by decide), rfl⟩
theorem zd_6_4_54 : zz_D zy_intAt_6_4 54 (.ishl) 1 55 := ⟨zq_120 zg_6_4_48.2.2.2.2.2.2.1, rfl⟩
theorem zd_6_4_55 : zz_D zy_intAt_6_4 55 (.ior) 1 56 := ⟨zq_128 zg_6_4_48.2.2.2.2.2.2.2.1, rfl⟩
theorem zd_6_4_56 : zz_D zy_intAt_6_4 56 (.ireturn) 1 57 := ⟨zq_172 zg_6_4_48.2.2.2.2.2.2.2.2, rfl⟩
-- TensorForge$Machine intAt ([BI)I
abbrev zr_intAt_6_4 : Room := { frames := 0, cells := 0, slots := 0, locals := 0 }
def zp_intAt_6_4 (p1 : Int) (S0 : zz_S) : Int → zz_S → Prop := fun r S => S0 = S ∧ ((-2147483648) ≤ r ∧ r ≤ 2147483647)
theorem zc_intAt_6_4 {g : mm_G} {l : Launch} (p1 : Int) (S0 : zz_S) (n : Nat) (hn : zz_end ≤ n) (G_S0 : zz_G S0) (hp1 : (-2147483648) ≤ p1 ∧ p1 ≤ 2147483647) : mm_Met g l zy_intAt_6_4 zr_intAt_6_4 [.ref 1032, zi p1] (zz_M S0 n) n (zz_QI n (zp_intAt_6_4 p1 S0)) := by
  refine zz_enter (by decide) (Nat.le_of_ble_eq_true rfl) (zz_less (ls1 := [some (.ref 1032), some (zi p1)]) ⟨rfl, ⟨rfl, trivial⟩⟩ ?_)
  refine zz_iload_n (x := p1) rfl zd_6_4_0 ?_
  refine zz_if_lt (by omega) zd_6_4_1 (fun c1 => ?_) (fun c1 => ?_)
  · refine zz_iconst zd_6_4_12 ?_
    exact zz_iret zd_6_4_13 rfl (Nat.zero_le _) (Nat.zero_le _) ⟨_, _, rfl, rfl, by omega⟩
  · refine zz_iload_n (x := p1) rfl zd_6_4_4 ?_
    refine zz_aload_n (x := 1032) rfl zd_6_4_5 ?_
    refine zz_alen zd_6_4_6 zT_1032 rfl (zz_ltn hn rfl) ?_
    refine zz_iconst zd_6_4_7 ?_
    refine zz_isub zd_6_4_8 ?_
    refine zz_icmp_le (by omega) (by omega) zd_6_4_9 (fun c2 => ?_) (fun c2 => ?_)
    · refine zz_aload_n (x := 1032) rfl zd_6_4_14 ?_
      refine zz_iload_n (x := p1) rfl zd_6_4_15 ?_
      have g3 := zz_G.r G_S0 1032 p1.toNat (-128) 127 rfl rfl
      refine zz_bald (z := S0 1032 p1.toNat) zd_6_4_16 zT_1032 rfl (zz_ltn hn rfl) (by decide) (by omega) rfl ?_
      refine zz_sipush (by decide) zd_6_4_17 ?_
      refine zz_iand (by omega) (by omega) zd_6_4_20 (fun v4 hv4 av4 bv4 ev4 => ?_)
      refine zz_aload_n (x := 1032) rfl zd_6_4_21 ?_
      refine zz_iload_n (x := p1) rfl zd_6_4_22 ?_
      refine zz_iconst zd_6_4_23 ?_
      refine zz_iadd zd_6_4_24 ?_
      have g5 := zz_G.r G_S0 1032 ((p1 + 1).toNat) (-128) 127 rfl rfl
      refine zz_bald (z := S0 1032 ((p1 + 1).toNat)) zd_6_4_25 zT_1032 rfl (zz_ltn hn rfl) (by decide) (by omega) rfl ?_
      refine zz_sipush (by decide) zd_6_4_26 ?_
      refine zz_iand (by omega) (by omega) zd_6_4_29 (fun v6 hv6 av6 bv6 ev6 => ?_)
      refine zz_bipush (by decide) zd_6_4_30 ?_
      refine zz_ishl zd_6_4_32 (fun v7 hv7 ev7 => ?_)
      refine zz_ior (by omega) (by omega) zd_6_4_33 (fun v8 hv8 av8 ev8 => ?_)
      refine zz_aload_n (x := 1032) rfl zd_6_4_34 ?_
      refine zz_iload_n (x := p1) rfl zd_6_4_35 ?_
      refine zz_iconst zd_6_4_36 ?_
      refine zz_iadd zd_6_4_37 ?_
      have g9 := zz_G.r G_S0 1032 ((p1 + 2).toNat) (-128) 127 rfl rfl
      refine zz_bald (z := S0 1032 ((p1 + 2).toNat)) zd_6_4_38 zT_1032 rfl (zz_ltn hn rfl) (by decide) (by omega) rfl ?_
      refine zz_sipush (by decide) zd_6_4_39 ?_
      refine zz_iand (by omega) (by omega) zd_6_4_42 (fun v10 hv10 av10 bv10 ev10 => ?_)
      refine zz_bipush (by decide) zd_6_4_43 ?_
      refine zz_ishl zd_6_4_45 (fun v11 hv11 ev11 => ?_)
      refine zz_ior (by omega) (by omega) zd_6_4_46 (fun v12 hv12 av12 ev12 => ?_)
      refine zz_aload_n (x := 1032) rfl zd_6_4_47 ?_
      refine zz_iload_n (x := p1) rfl zd_6_4_48 ?_
      refine zz_iconst zd_6_4_49 ?_
      refine zz_iadd zd_6_4_50 ?_
      have g13 := zz_G.r G_S0 1032 ((p1 + 3).toNat) (-128) 127 rfl rfl
      refine zz_bald (z := S0 1032 ((p1 + 3).toNat)) zd_6_4_51 zT_1032 rfl (zz_ltn hn rfl) (by decide) (by omega) rfl ?_
      refine zz_bipush (by decide) zd_6_4_52 ?_
      refine zz_ishl zd_6_4_54 (fun v14 hv14 ev14 => ?_)
      refine zz_ior (by omega) (by omega) zd_6_4_55 (fun v15 hv15 av15 ev15 => ?_)
      exact zz_iret zd_6_4_56 rfl (Nat.zero_le _) (Nat.zero_le _) ⟨_, _, rfl, rfl, by omega⟩
    · refine zz_iconst zd_6_4_12 ?_
      exact zz_iret zd_6_4_13 rfl (Nat.zero_le _) (Nat.zero_le _) ⟨_, _, rfl, rfl, by omega⟩
theorem zk_Machine_131 : mm_Sl "TensorForge$Machine" 131 2 zy_intAt_6_4 := ⟨zyw_intAt_6_4, mm_tb_1 810 (by decide +kernel) rfl, mm_tb_1 811 (by decide +kernel) rfl⟩
theorem zg_6_14_59 : zq_at zy_loadSums_6_14.2.1 59 79 ∧ zq_at zy_loadSums_6_14.2.1 60 132 ∧ zq_at zy_loadSums_6_14.2.1 61 2 ∧ zq_at zy_loadSums_6_14.2.1 62 1 ∧ zq_at zy_loadSums_6_14.2.1 63 167 ∧ zq_at zy_loadSums_6_14.2.1 64 255 ∧ zq_at zy_loadSums_6_14.2.1 65 205 := by decide +kernel
theorem zd_6_14_59 : zz_D zy_loadSums_6_14 59 (.iastore) 1 60 := ⟨zq_79 zg_6_14_59.1, rfl⟩
theorem zd_6_14_60 : zz_D zy_loadSums_6_14 60 (.iinc 2 1) 3 63 := ⟨zq_132 zg_6_14_59.2.1 zg_6_14_59.2.2.1 zg_6_14_59.2.2.2.1 (by decide), rfl⟩
theorem zd_6_14_63 : zz_B zy_loadSums_6_14 63 Instr.goto 12 66 := ⟨(-51), zq_167 zg_6_14_59.2.2.2.2.1 zg_6_14_59.2.2.2.2.2.1 zg_6_14_59.2.2.2.2.2.2 (by decide), rfl, rfl⟩
-- TensorForge$Machine loadSums ()V
abbrev zr_loadSums_6_14 : Room := { frames := 1, cells := 0, slots := 0, locals := 15 }
def zp_loadSums_6_14  (S0 : zz_S) : zz_S → Prop := fun S => zz_G S ∧ zz_fr [] [1035] (fun _ _ => False) S0 S
theorem zb_loadSums_6_14_2 {g : mm_G} {l : Launch}  (S0 : zz_S) (n : Nat) (hn : zz_end ≤ n) (G_S0 : zz_G S0) (hl : zz_lc 4 (S0 1031 7) (S0 1031 8) (S0 1031 9) (S0 1031 10) (S0 1031 11) (S0 1031 12) (S0 1031 13) (S0 1031 6)) (x1 : Int) (S : zz_S) (G_S : zz_G S) (F_S : zz_fr [] [1035] (fun _ _ => False) S0 S) (i2_0 : 0 ≤ x1 ∧ x1 ≤ 63) (R : Nat) (hR : (34359738368 + (S0 1031 8 - x1).toNat) * 1099511627776 + 1099511627775 = R) (k12 : ∀ (x1 : Int) (x2 : Int) (S : zz_S), zz_G S → zz_fr [] [1035] (fun _ _ => False) S0 S → (0 ≤ x1 ∧ x1 ≤ 62) → (0 ≤ x2 ∧ x2 ≤ 31) → (0 ≤ x1 ∧ x1 ≤ 63) → (x1 < S0 1031 8) → (34359738368 + (S0 1031 8 - x1).toNat) * 1099511627776 + (17179869184 + (S0 1031 9 - x2).toNat) < R → zz_E g l zy_loadSums_6_14 zr_loadSums_6_14 (zz_QV n (zp_loadSums_6_14  S0)) S n 12 [some (.ref 1031), some (zi x1), some (zi x2)] [] 0 0) : zz_E g l zy_loadSums_6_14 zr_loadSums_6_14 (zz_QV n (zp_loadSums_6_14  S0)) S n 2 [some (.ref 1031), some (zi x1)] [] 0 0 := by
  refine zz_iload_n (x := x1) rfl zd_6_14_2 ?_
  refine zz_aload_n (x := 1031) rfl zd_6_14_3 ?_
  have g2 := zz_G.r G_S0 1031 8 0 63 rfl rfl
  refine zz_geti (z := S0 1031 8) zd_6_14_4 zf_Machine_113 zT_1031 rfl (zz_ltn hn rfl) (zz_rc F_S rfl rfl (fun h => h) rfl) ?_
  refine zz_icmp_ge (by omega) (by omega) zd_6_14_7 (fun c3 => ?_) (fun c3 => ?_)
  · exact zz_vret zd_6_14_72 rfl (Nat.zero_le _) (Nat.zero_le _) ⟨_, rfl, G_S, F_S⟩
  · refine zz_iconst zd_6_14_10 ?_
    refine zz_istore_n [some (.ref 1031), some (zi x1), some (zi 0)] zd_6_14_11 (by decide) rfl ?_
    have g4 := zz_G.r G_S0 1031 9 0 31 rfl rfl
    refine zz_less (ls1 := [some (.ref 1031), some (zi x1), some (zi 0)]) ⟨rfl, ⟨rfl, ⟨rfl, trivial⟩⟩⟩ ?_
    exact k12 x1 0 S G_S F_S (by omega) (by omega) (by omega) (by omega) (by omega)
theorem zb_loadSums_6_14_12 {g : mm_G} {l : Launch}  (S0 : zz_S) (n : Nat) (hn : zz_end ≤ n) (G_S0 : zz_G S0) (hl : zz_lc 4 (S0 1031 7) (S0 1031 8) (S0 1031 9) (S0 1031 10) (S0 1031 11) (S0 1031 12) (S0 1031 13) (S0 1031 6)) (x1 : Int) (x2 : Int) (S : zz_S) (G_S : zz_G S) (F_S : zz_fr [] [1035] (fun _ _ => False) S0 S) (i12_0 : 0 ≤ x1 ∧ x1 ≤ 62) (i12_1 : 0 ≤ x2 ∧ x2 ≤ 31) (i12_2 : 0 ≤ x1 ∧ x1 ≤ 63) (i12_3 : x1 < S0 1031 8) (R : Nat) (hR : (34359738368 + (S0 1031 8 - x1).toNat) * 1099511627776 + (17179869184 + (S0 1031 9 - x2).toNat) = R) (k2 : ∀ (x1 : Int) (S : zz_S), zz_G S → zz_fr [] [1035] (fun _ _ => False) S0 S → (0 ≤ x1 ∧ x1 ≤ 63) → (34359738368 + (S0 1031 8 - x1).toNat) * 1099511627776 + 1099511627775 < R → zz_E g l zy_loadSums_6_14 zr_loadSums_6_14 (zz_QV n (zp_loadSums_6_14  S0)) S n 2 [some (.ref 1031), some (zi x1)] [] 0 0) (k12 : ∀ (x1 : Int) (x2 : Int) (S : zz_S), zz_G S → zz_fr [] [1035] (fun _ _ => False) S0 S → (0 ≤ x1 ∧ x1 ≤ 62) → (0 ≤ x2 ∧ x2 ≤ 31) → (0 ≤ x1 ∧ x1 ≤ 63) → (x1 < S0 1031 8) → (34359738368 + (S0 1031 8 - x1).toNat) * 1099511627776 + (17179869184 + (S0 1031 9 - x2).toNat) < R → zz_E g l zy_loadSums_6_14 zr_loadSums_6_14 (zz_QV n (zp_loadSums_6_14  S0)) S n 12 [some (.ref 1031), some (zi x1), some (zi x2)] [] 0 0) : zz_E g l zy_loadSums_6_14 zr_loadSums_6_14 (zz_QV n (zp_loadSums_6_14  S0)) S n 12 [some (.ref 1031), some (zi x1), some (zi x2)] [] 0 0 := by
  have l0 := hl
  unfold zz_lc at l0
  have lk := l0.2.2.2.2.2.1 rfl
  have l2 := l0.2.1 (by decide)
  clear l0
  have gS := zz_G.r G_S0 1031 6 2 8 rfl rfl
  have gT := zz_G.r G_S0 1031 12 0 1023 rfl rfl
  have m1 : x1 * S0 1031 6 ≤ (S0 1031 8 - 1) * S0 1031 6 := Int.mul_le_mul_of_nonneg_right (by omega) (by omega)
  have m2 : x1 * S0 1031 12 ≤ (S0 1031 8 - 1) * S0 1031 12 := Int.mul_le_mul_of_nonneg_right (by omega) (by omega)
  refine zz_iload_n (x := x2) rfl zd_6_14_12 ?_
  refine zz_aload_n (x := 1031) rfl zd_6_14_13 ?_
  have g5 := zz_G.r G_S0 1031 9 0 31 rfl rfl
  refine zz_geti (z := S0 1031 9) zd_6_14_14 zf_Machine_116 zT_1031 rfl (zz_ltn hn rfl) (zz_rc F_S rfl rfl (fun h => h) rfl) ?_
  refine zz_icmp_ge (by omega) (by omega) zd_6_14_17 (fun c6 => ?_) (fun c6 => ?_)
  · refine zz_iinc [some (.ref 1031), some (zi (x1 + 1)), some (zi x2)] zd_6_14_66 rfl rfl ?_
    refine zz_goto zd_6_14_69 ?_
    have g7 := zz_G.r G_S0 1031 8 0 63 rfl rfl
    refine zz_less (ls1 := [some (.ref 1031), some (zi (x1 + 1))]) ⟨rfl, ⟨rfl, trivial⟩⟩ ?_
    exact k2 (x1 + 1) S G_S F_S (by omega) (by omega)
  · refine zz_aload_n (x := 1031) rfl zd_6_14_20 ?_
    refine zz_getr (kd := 0) (z := 1035) zd_6_14_21 zf_Machine_25 zT_1031 rfl (zz_ltn hn rfl) (zz_G.eq G_S 1031 3 1035 rfl rfl) (by decide) 1035 rfl ?_
    refine zz_aload_n (x := 1031) rfl zd_6_14_24 ?_
    have g8 := zz_G.r G_S0 1031 10 0 511 rfl rfl
    refine zz_geti (z := S0 1031 10) zd_6_14_25 zf_Machine_119 zT_1031 rfl (zz_ltn hn rfl) (zz_rc F_S rfl rfl (fun h => h) rfl) ?_
    refine zz_iload_n (x := x1) rfl zd_6_14_28 ?_
    refine zz_aload_n (x := 1031) rfl zd_6_14_29 ?_
    have g9 := zz_G.r G_S0 1031 6 2 8 rfl rfl
    refine zz_geti (z := S0 1031 6) zd_6_14_30 zf_Machine_36 zT_1031 rfl (zz_ltn hn rfl) (zz_rc F_S rfl rfl (fun h => h) rfl) ?_
    refine zz_imul zd_6_14_33 ?_
    have m10 := zz_mulb (a := x1) (b := S0 1031 6) 62 8 496 (by omega) (by omega) (by decide)
    refine zz_iadd zd_6_14_34 ?_
    refine zz_iload_n (x := x2) rfl zd_6_14_35 ?_
    refine zz_iadd zd_6_14_36 ?_
    refine zz_aload_n (x := 1031) rfl zd_6_14_37 ?_
    refine zz_getr (kd := 0) (z := 1032) zd_6_14_38 zf_Machine_13 zT_1031 rfl (zz_ltn hn rfl) (zz_G.eq G_S 1031 0 1032 rfl rfl) (by decide) 1032 rfl ?_
    refine zz_aload_n (x := 1031) rfl zd_6_14_41 ?_
    have g11 := zz_G.r G_S0 1031 7 0 4095 rfl rfl
    refine zz_geti (z := S0 1031 7) zd_6_14_42 zf_Machine_110 zT_1031 rfl (zz_ltn hn rfl) (zz_rc F_S rfl rfl (fun h => h) rfl) ?_
    refine zz_iload_n (x := x1) rfl zd_6_14_45 ?_
    refine zz_aload_n (x := 1031) rfl zd_6_14_46 ?_
    have g12 := zz_G.r G_S0 1031 12 0 1023 rfl rfl
    refine zz_geti (z := S0 1031 12) zd_6_14_47 zf_Machine_125 zT_1031 rfl (zz_ltn hn rfl) (zz_rc F_S rfl rfl (fun h => h) rfl) ?_
    refine zz_imul zd_6_14_50 ?_
    have m13 := zz_mulb (a := x1) (b := S0 1031 12) 62 1023 63426 (by omega) (by omega) (by decide)
    refine zz_iadd zd_6_14_51 ?_
    refine zz_iconst zd_6_14_52 ?_
    refine zz_iload_n (x := x2) rfl zd_6_14_53 ?_
    refine zz_imul zd_6_14_54 ?_
    refine zz_iadd zd_6_14_55 ?_
    refine zz_callSI [.ref 1032, zi (((S0 1031 7) + (x1 * (S0 1031 12))) + (4 * x2))] zd_6_14_56 zk_Machine_131 rfl rfl ⟨Nat.le_of_ble_eq_true rfl, Nat.le_of_ble_eq_true rfl⟩ ⟨rfl, rfl⟩ (Nat.zero_le _) (Nat.zero_le _) (zc_intAt_6_4 (((S0 1031 7) + (x1 * (S0 1031 12))) + (4 * x2)) S n hn G_S (by omega)) (fun v15 S14 hP => ?_)
    obtain ⟨rfl, o16⟩ := hP
    refine zz_iast zd_6_14_59 zT_1035 rfl (zz_ltn hn rfl) (by decide) (by omega) (fun S17 qS17 => ?_)
    have G_S17 := zz_G.put G_S qS17 (-2147483648) 2147483647 rfl (by omega)
    have F_S17 := zz_fr.putc F_S qS17 rfl
    refine zz_iinc [some (.ref 1031), some (zi x1), some (zi (x2 + 1))] zd_6_14_60 rfl rfl ?_
    refine zz_goto zd_6_14_63 ?_
    have g18 := zz_G.r G_S0 1031 8 0 63 rfl rfl
    refine zz_less (ls1 := [some (.ref 1031), some (zi x1), some (zi (x2 + 1))]) ⟨rfl, ⟨rfl, ⟨rfl, trivial⟩⟩⟩ ?_
    exact k12 x1 (x2 + 1) S17 G_S17 F_S17 (by omega) (by omega) (by omega) (by omega) (by omega)
theorem zi_loadSums_6_14 {g : mm_G} {l : Launch}  (S0 : zz_S) (n : Nat) (hn : zz_end ≤ n) (G_S0 : zz_G S0) (hl : zz_lc 4 (S0 1031 7) (S0 1031 8) (S0 1031 9) (S0 1031 10) (S0 1031 11) (S0 1031 12) (S0 1031 13) (S0 1031 6)) : ∀ N : Nat, (∀ (x1 : Int) (S : zz_S), zz_G S → zz_fr [] [1035] (fun _ _ => False) S0 S → (0 ≤ x1 ∧ x1 ≤ 63) → (34359738368 + (S0 1031 8 - x1).toNat) * 1099511627776 + 1099511627775 < N → zz_E g l zy_loadSums_6_14 zr_loadSums_6_14 (zz_QV n (zp_loadSums_6_14  S0)) S n 2 [some (.ref 1031), some (zi x1)] [] 0 0) ∧ (∀ (x1 : Int) (x2 : Int) (S : zz_S), zz_G S → zz_fr [] [1035] (fun _ _ => False) S0 S → (0 ≤ x1 ∧ x1 ≤ 62) → (0 ≤ x2 ∧ x2 ≤ 31) → (0 ≤ x1 ∧ x1 ≤ 63) → (x1 < S0 1031 8) → (34359738368 + (S0 1031 8 - x1).toNat) * 1099511627776 + (17179869184 + (S0 1031 9 - x2).toNat) < N → zz_E g l zy_loadSums_6_14 zr_loadSums_6_14 (zz_QV n (zp_loadSums_6_14  S0)) S n 12 [some (.ref 1031), some (zi x1), some (zi x2)] [] 0 0) := by
  intro N
  induction N with
  | zero => exact ⟨fun x1 S _ _ _ h => absurd h (Nat.not_lt_zero _), fun x1 x2 S _ _ _ _ _ _ h => absurd h (Nat.not_lt_zero _)⟩
  | succ N ih =>
    exact ⟨fun x1 S a b j0 hR => zb_loadSums_6_14_2  S0 n hn G_S0 hl x1 S a b j0 _ rfl (fun x1 x2 S a b j0 j1 j2 j3 h => ih.2 x1 x2 S a b j0 j1 j2 j3 (Nat.lt_of_lt_of_le h (Nat.le_of_lt_succ hR))),
      fun x1 x2 S a b j0 j1 j2 j3 hR => zb_loadSums_6_14_12  S0 n hn G_S0 hl x1 x2 S a b j0 j1 j2 j3 _ rfl (fun x1 S a b j0 h => ih.1 x1 S a b j0 (Nat.lt_of_lt_of_le h (Nat.le_of_lt_succ hR))) (fun x1 x2 S a b j0 j1 j2 j3 h => ih.2 x1 x2 S a b j0 j1 j2 j3 (Nat.lt_of_lt_of_le h (Nat.le_of_lt_succ hR)))⟩
theorem zc_loadSums_6_14 {g : mm_G} {l : Launch}  (S0 : zz_S) (n : Nat) (hn : zz_end ≤ n) (G_S0 : zz_G S0) (hl : zz_lc 4 (S0 1031 7) (S0 1031 8) (S0 1031 9) (S0 1031 10) (S0 1031 11) (S0 1031 12) (S0 1031 13) (S0 1031 6)) : mm_Met g l zy_loadSums_6_14 zr_loadSums_6_14 [.ref 1031] (zz_M S0 n) n (zz_QV n (zp_loadSums_6_14  S0)) := by
  refine zz_enter (by decide) (Nat.le_of_ble_eq_true rfl) (zz_less (ls1 := [some (.ref 1031)]) ⟨rfl, trivial⟩ ?_)
  have F_S0 : zz_fr [] [1035] (fun _ _ => False) S0 S0 := zz_fr.refl
  have k2 : ∀ (x1 : Int) (S : zz_S), zz_G S → zz_fr [] [1035] (fun _ _ => False) S0 S → (0 ≤ x1 ∧ x1 ≤ 63) → zz_E g l zy_loadSums_6_14 zr_loadSums_6_14 (zz_QV n (zp_loadSums_6_14  S0)) S n 2 [some (.ref 1031), some (zi x1)] [] 0 0 := fun x1 S a b j0 => (zi_loadSums_6_14 (g := g) (l := l)  S0 n hn G_S0 hl _).1 x1 S a b j0 (Nat.lt_succ_self _)
  refine zz_iconst zd_6_14_0 ?_
  refine zz_istore_n [some (.ref 1031), some (zi 0)] zd_6_14_1 (by decide) rfl ?_
  have g1 := zz_G.r G_S0 1031 8 0 63 rfl rfl
  refine zz_less (ls1 := [some (.ref 1031), some (zi 0)]) ⟨rfl, ⟨rfl, trivial⟩⟩ ?_
  exact k2 0 S0 G_S0 F_S0 (by omega)
theorem zk_Machine_95 : mm_Vl "TensorForge$Machine" 95 3 0 zy_loadSums_6_14 := ⟨zyw_loadSums_6_14, (R_Machine, F_Machine, 14), rfl, mm_tb_1 806 (by decide +kernel) rfl, mm_tb_1 808 (by decide +kernel) rfl, mm_tb_s 30 (by decide +kernel) rfl⟩
abbrev zy_multiply_6_15 : mm_Y := (⟨"TensorForge$Machine", "multiply", "()V"⟩, prog_6_method_15_code, 7, none)
theorem zyw_multiply_6_15 : mm_Yw zy_multiply_6_15 0 := ⟨mm_tb_1 816 (by decide +kernel) rfl, mm_tb_1 4 (by decide +kernel) rfl, ⟨by decide, by decide⟩, by decide +kernel⟩
theorem zg_6_10_89 : zq_at zy_perform_6_10.2.1 89 167 ∧ zq_at zy_perform_6_10.2.1 90 0 ∧ zq_at zy_perform_6_10.2.1 91 31 ∧ zq_at zy_perform_6_10.2.1 92 42 ∧ zq_at zy_perform_6_10.2.1 93 182 ∧ zq_at zy_perform_6_10.2.1 94 0 ∧ zq_at zy_perform_6_10.2.1 95 98 := by decide +kernel
theorem zd_6_10_89 : zz_B zy_perform_6_10 89 Instr.goto 120 92 := ⟨31, zq_167 zg_6_10_89.1 zg_6_10_89.2.1 zg_6_10_89.2.2.1 (by decide), rfl, rfl⟩
theorem zd_6_10_92 : zz_D zy_perform_6_10 92 (.aload_n 0) 1 93 := ⟨zq_42 zg_6_10_89.2.2.2.1, rfl⟩
theorem zd_6_10_93 : zz_D zy_perform_6_10 93 (.invokevirtual 98) 3 96 := ⟨zq_182 zg_6_10_89.2.2.2.2.1 zg_6_10_89.2.2.2.2.2.1 zg_6_10_89.2.2.2.2.2.2 rfl, rfl⟩
theorem zg_6_15_0 : zq_at zy_multiply_6_15.2.1 0 42 ∧ zq_at zy_multiply_6_15.2.1 1 180 ∧ zq_at zy_multiply_6_15.2.1 2 0 ∧ zq_at zy_multiply_6_15.2.1 3 128 ∧ zq_at zy_multiply_6_15.2.1 4 5 ∧ zq_at zy_multiply_6_15.2.1 5 108 ∧ zq_at zy_multiply_6_15.2.1 6 60 ∧ zq_at zy_multiply_6_15.2.1 7 3 ∧ zq_at zy_multiply_6_15.2.1 8 61 ∧ zq_at zy_multiply_6_15.2.1 9 28 ∧ zq_at zy_multiply_6_15.2.1 10 42 ∧ zq_at zy_multiply_6_15.2.1 11 180 ∧ zq_at zy_multiply_6_15.2.1 12 0 ∧ zq_at zy_multiply_6_15.2.1 13 113 ∧ zq_at zy_multiply_6_15.2.1 14 162 ∧ zq_at zy_multiply_6_15.2.1 15 0 ∧ zq_at zy_multiply_6_15.2.1 16 131 ∧ zq_at zy_multiply_6_15.2.1 145 177 ∧ zq_at zy_multiply_6_15.2.1 17 3 ∧ zq_at zy_multiply_6_15.2.1 18 62 ∧ zq_at zy_multiply_6_15.2.1 19 29 ∧ zq_at zy_multiply_6_15.2.1 20 42 := by decide +kernel
theorem zd_6_15_0 : zz_D zy_multiply_6_15 0 (.aload_n 0) 1 1 := ⟨zq_42 zg_6_15_0.1, rfl⟩
theorem zd_6_15_1 : zz_D zy_multiply_6_15 1 (.getfield 128) 3 4 := ⟨zq_180 zg_6_15_0.2.1 zg_6_15_0.2.2.1 zg_6_15_0.2.2.2.1 rfl, rfl⟩
theorem zd_6_15_4 : zz_D zy_multiply_6_15 4 (.iconst 2) 1 5 := ⟨zq_5 zg_6_15_0.2.2.2.2.1, rfl⟩
theorem zd_6_15_5 : zz_D zy_multiply_6_15 5 (.idiv) 1 6 := ⟨zq_108 zg_6_15_0.2.2.2.2.2.1, rfl⟩
theorem zd_6_15_6 : zz_D zy_multiply_6_15 6 (.istore_n 1) 1 7 := ⟨zq_60 zg_6_15_0.2.2.2.2.2.2.1, rfl⟩
theorem zd_6_15_7 : zz_D zy_multiply_6_15 7 (.iconst 0) 1 8 := ⟨zq_3 zg_6_15_0.2.2.2.2.2.2.2.1, rfl⟩
theorem zd_6_15_8 : zz_D zy_multiply_6_15 8 (.istore_n 2) 1 9 := ⟨zq_61 zg_6_15_0.2.2.2.2.2.2.2.2.1, rfl⟩
theorem zd_6_15_9 : zz_D zy_multiply_6_15 9 (.iload_n 2) 1 10 := ⟨zq_28 zg_6_15_0.2.2.2.2.2.2.2.2.2.1, rfl⟩
theorem zd_6_15_10 : zz_D zy_multiply_6_15 10 (.aload_n 0) 1 11 := ⟨zq_42 zg_6_15_0.2.2.2.2.2.2.2.2.2.2.1, rfl⟩
theorem zd_6_15_11 : zz_D zy_multiply_6_15 11 (.getfield 113) 3 14 := ⟨zq_180 zg_6_15_0.2.2.2.2.2.2.2.2.2.2.2.1 zg_6_15_0.2.2.2.2.2.2.2.2.2.2.2.2.1 zg_6_15_0.2.2.2.2.2.2.2.2.2.2.2.2.2.1 rfl, rfl⟩
theorem zd_6_15_14 : zz_B zy_multiply_6_15 14 (Instr.if_icmp .ge) 145 17 := ⟨131, zq_162 zg_6_15_0.2.2.2.2.2.2.2.2.2.2.2.2.2.2.1 zg_6_15_0.2.2.2.2.2.2.2.2.2.2.2.2.2.2.2.1 zg_6_15_0.2.2.2.2.2.2.2.2.2.2.2.2.2.2.2.2.1 (by decide), rfl, rfl⟩
theorem zd_6_15_145 : zz_D zy_multiply_6_15 145 (.return_) 1 146 := ⟨zq_177 zg_6_15_0.2.2.2.2.2.2.2.2.2.2.2.2.2.2.2.2.2.1, rfl⟩
theorem zd_6_15_17 : zz_D zy_multiply_6_15 17 (.iconst 0) 1 18 := ⟨zq_3 zg_6_15_0.2.2.2.2.2.2.2.2.2.2.2.2.2.2.2.2.2.2.1, rfl⟩
theorem zd_6_15_18 : zz_D zy_multiply_6_15 18 (.istore_n 3) 1 19 := ⟨zq_62 zg_6_15_0.2.2.2.2.2.2.2.2.2.2.2.2.2.2.2.2.2.2.2.1, rfl⟩
theorem zd_6_15_19 : zz_D zy_multiply_6_15 19 (.iload_n 3) 1 20 := ⟨zq_29 zg_6_15_0.2.2.2.2.2.2.2.2.2.2.2.2.2.2.2.2.2.2.2.2.1, rfl⟩
theorem zd_6_15_20 : zz_D zy_multiply_6_15 20 (.aload_n 0) 1 21 := ⟨zq_42 zg_6_15_0.2.2.2.2.2.2.2.2.2.2.2.2.2.2.2.2.2.2.2.2.2, rfl⟩
theorem zg_6_15_21 : zq_at zy_multiply_6_15.2.1 21 180 ∧ zq_at zy_multiply_6_15.2.1 22 0 ∧ zq_at zy_multiply_6_15.2.1 23 116 ∧ zq_at zy_multiply_6_15.2.1 24 162 ∧ zq_at zy_multiply_6_15.2.1 25 0 ∧ zq_at zy_multiply_6_15.2.1 26 115 ∧ zq_at zy_multiply_6_15.2.1 139 132 ∧ zq_at zy_multiply_6_15.2.1 140 2 ∧ zq_at zy_multiply_6_15.2.1 141 1 ∧ zq_at zy_multiply_6_15.2.1 142 167 ∧ zq_at zy_multiply_6_15.2.1 143 255 ∧ zq_at zy_multiply_6_15.2.1 144 123 ∧ zq_at zy_multiply_6_15.2.1 27 42 ∧ zq_at zy_multiply_6_15.2.1 28 180 ∧ zq_at zy_multiply_6_15.2.1 29 0 ∧ zq_at zy_multiply_6_15.2.1 30 122 ∧ zq_at zy_multiply_6_15.2.1 31 28 ∧ zq_at zy_multiply_6_15.2.1 32 42 ∧ zq_at zy_multiply_6_15.2.1 33 180 ∧ zq_at zy_multiply_6_15.2.1 34 0 ∧ zq_at zy_multiply_6_15.2.1 35 36 ∧ zq_at zy_multiply_6_15.2.1 36 104 ∧ zq_at zy_multiply_6_15.2.1 37 96 ∧ zq_at zy_multiply_6_15.2.1 38 29 := by decide +kernel
theorem zd_6_15_21 : zz_D zy_multiply_6_15 21 (.getfield 116) 3 24 := ⟨zq_180 zg_6_15_21.1 zg_6_15_21.2.1 zg_6_15_21.2.2.1 rfl, rfl⟩
theorem zd_6_15_24 : zz_B zy_multiply_6_15 24 (Instr.if_icmp .ge) 139 27 := ⟨115, zq_162 zg_6_15_21.2.2.2.1 zg_6_15_21.2.2.2.2.1 zg_6_15_21.2.2.2.2.2.1 (by decide), rfl, rfl⟩
theorem zd_6_15_139 : zz_D zy_multiply_6_15 139 (.iinc 2 1) 3 142 := ⟨zq_132 zg_6_15_21.2.2.2.2.2.2.1 zg_6_15_21.2.2.2.2.2.2.2.1 zg_6_15_21.2.2.2.2.2.2.2.2.1 (by decide), rfl⟩
theorem zd_6_15_142 : zz_B zy_multiply_6_15 142 Instr.goto 9 145 := ⟨(-133), zq_167 zg_6_15_21.2.2.2.2.2.2.2.2.2.1 zg_6_15_21.2.2.2.2.2.2.2.2.2.2.1 zg_6_15_21.2.2.2.2.2.2.2.2.2.2.2.1 (by decide), rfl, rfl⟩
theorem zd_6_15_27 : zz_D zy_multiply_6_15 27 (.aload_n 0) 1 28 := ⟨zq_42 zg_6_15_21.2.2.2.2.2.2.2.2.2.2.2.2.1, rfl⟩
theorem zd_6_15_28 : zz_D zy_multiply_6_15 28 (.getfield 122) 3 31 := ⟨zq_180 zg_6_15_21.2.2.2.2.2.2.2.2.2.2.2.2.2.1 zg_6_15_21.2.2.2.2.2.2.2.2.2.2.2.2.2.2.1 zg_6_15_21.2.2.2.2.2.2.2.2.2.2.2.2.2.2.2.1 rfl, rfl⟩
theorem zd_6_15_31 : zz_D zy_multiply_6_15 31 (.iload_n 2) 1 32 := ⟨zq_28 zg_6_15_21.2.2.2.2.2.2.2.2.2.2.2.2.2.2.2.2.1, rfl⟩
theorem zd_6_15_32 : zz_D zy_multiply_6_15 32 (.aload_n 0) 1 33 := ⟨zq_42 zg_6_15_21.2.2.2.2.2.2.2.2.2.2.2.2.2.2.2.2.2.1, rfl⟩
theorem zd_6_15_33 : zz_D zy_multiply_6_15 33 (.getfield 36) 3 36 := ⟨zq_180 zg_6_15_21.2.2.2.2.2.2.2.2.2.2.2.2.2.2.2.2.2.2.1 zg_6_15_21.2.2.2.2.2.2.2.2.2.2.2.2.2.2.2.2.2.2.2.1 zg_6_15_21.2.2.2.2.2.2.2.2.2.2.2.2.2.2.2.2.2.2.2.2.1 rfl, rfl⟩
theorem zd_6_15_36 : zz_D zy_multiply_6_15 36 (.imul) 1 37 := ⟨zq_104 zg_6_15_21.2.2.2.2.2.2.2.2.2.2.2.2.2.2.2.2.2.2.2.2.2.1, rfl⟩
theorem zd_6_15_37 : zz_D zy_multiply_6_15 37 (.iadd) 1 38 := ⟨zq_96 zg_6_15_21.2.2.2.2.2.2.2.2.2.2.2.2.2.2.2.2.2.2.2.2.2.2.1, rfl⟩
theorem zd_6_15_38 : zz_D zy_multiply_6_15 38 (.iload_n 3) 1 39 := ⟨zq_29 zg_6_15_21.2.2.2.2.2.2.2.2.2.2.2.2.2.2.2.2.2.2.2.2.2.2.2, rfl⟩
theorem zg_6_15_39 : zq_at zy_multiply_6_15.2.1 39 96 ∧ zq_at zy_multiply_6_15.2.1 40 54 ∧ zq_at zy_multiply_6_15.2.1 41 4 ∧ zq_at zy_multiply_6_15.2.1 42 42 ∧ zq_at zy_multiply_6_15.2.1 43 180 ∧ zq_at zy_multiply_6_15.2.1 44 0 ∧ zq_at zy_multiply_6_15.2.1 45 128 ∧ zq_at zy_multiply_6_15.2.1 46 4 ∧ zq_at zy_multiply_6_15.2.1 47 126 ∧ zq_at zy_multiply_6_15.2.1 48 4 ∧ zq_at zy_multiply_6_15.2.1 49 160 ∧ zq_at zy_multiply_6_15.2.1 50 0 ∧ zq_at zy_multiply_6_15.2.1 51 13 ∧ zq_at zy_multiply_6_15.2.1 62 3 ∧ zq_at zy_multiply_6_15.2.1 63 54 ∧ zq_at zy_multiply_6_15.2.1 64 5 ∧ zq_at zy_multiply_6_15.2.1 65 3 ∧ zq_at zy_multiply_6_15.2.1 66 54 ∧ zq_at zy_multiply_6_15.2.1 67 6 ∧ zq_at zy_multiply_6_15.2.1 52 42 ∧ zq_at zy_multiply_6_15.2.1 53 180 ∧ zq_at zy_multiply_6_15.2.1 54 0 ∧ zq_at zy_multiply_6_15.2.1 55 25 := by decide +kernel
theorem zd_6_15_39 : zz_D zy_multiply_6_15 39 (.iadd) 1 40 := ⟨zq_96 zg_6_15_39.1, rfl⟩
theorem zd_6_15_40 : zz_D zy_multiply_6_15 40 (.istore 4) 2 42 := ⟨zq_54 zg_6_15_39.2.1 zg_6_15_39.2.2.1, rfl⟩
theorem zd_6_15_42 : zz_D zy_multiply_6_15 42 (.aload_n 0) 1 43 := ⟨zq_42 zg_6_15_39.2.2.2.1, rfl⟩
theorem zd_6_15_43 : zz_D zy_multiply_6_15 43 (.getfield 128) 3 46 := ⟨zq_180 zg_6_15_39.2.2.2.2.1 zg_6_15_39.2.2.2.2.2.1 zg_6_15_39.2.2.2.2.2.2.1 rfl, rfl⟩
theorem zd_6_15_46 : zz_D zy_multiply_6_15 46 (.iconst 1) 1 47 := ⟨zq_4 zg_6_15_39.2.2.2.2.2.2.2.1, rfl⟩
theorem zd_6_15_47 : zz_D zy_multiply_6_15 47 (.iand) 1 48 := ⟨zq_126 zg_6_15_39.2.2.2.2.2.2.2.2.1, rfl⟩
theorem zd_6_15_48 : zz_D zy_multiply_6_15 48 (.iconst 1) 1 49 := ⟨zq_4 zg_6_15_39.2.2.2.2.2.2.2.2.2.1, rfl⟩
theorem zd_6_15_49 : zz_B zy_multiply_6_15 49 (Instr.if_icmp .ne) 62 52 := ⟨13, zq_160 zg_6_15_39.2.2.2.2.2.2.2.2.2.2.1 zg_6_15_39.2.2.2.2.2.2.2.2.2.2.2.1 zg_6_15_39.2.2.2.2.2.2.2.2.2.2.2.2.1 (by decide), rfl, rfl⟩
theorem zd_6_15_62 : zz_D zy_multiply_6_15 62 (.iconst 0) 1 63 := ⟨zq_3 zg_6_15_39.2.2.2.2.2.2.2.2.2.2.2.2.2.1, rfl⟩
theorem zd_6_15_63 : zz_D zy_multiply_6_15 63 (.istore 5) 2 65 := ⟨zq_54 zg_6_15_39.2.2.2.2.2.2.2.2.2.2.2.2.2.2.1 zg_6_15_39.2.2.2.2.2.2.2.2.2.2.2.2.2.2.2.1, rfl⟩
theorem zd_6_15_65 : zz_D zy_multiply_6_15 65 (.iconst 0) 1 66 := ⟨zq_3 zg_6_15_39.2.2.2.2.2.2.2.2.2.2.2.2.2.2.2.2.1, rfl⟩
theorem zd_6_15_66 : zz_D zy_multiply_6_15 66 (.istore 6) 2 68 := ⟨zq_54 zg_6_15_39.2.2.2.2.2.2.2.2.2.2.2.2.2.2.2.2.2.1 zg_6_15_39.2.2.2.2.2.2.2.2.2.2.2.2.2.2.2.2.2.2.1, rfl⟩
theorem zd_6_15_52 : zz_D zy_multiply_6_15 52 (.aload_n 0) 1 53 := ⟨zq_42 zg_6_15_39.2.2.2.2.2.2.2.2.2.2.2.2.2.2.2.2.2.2.2.1, rfl⟩
theorem zd_6_15_53 : zz_D zy_multiply_6_15 53 (.getfield 25) 3 56 := ⟨zq_180 zg_6_15_39.2.2.2.2.2.2.2.2.2.2.2.2.2.2.2.2.2.2.2.2.1 zg_6_15_39.2.2.2.2.2.2.2.2.2.2.2.2.2.2.2.2.2.2.2.2.2.1 zg_6_15_39.2.2.2.2.2.2.2.2.2.2.2.2.2.2.2.2.2.2.2.2.2.2 rfl, rfl⟩
theorem zg_6_15_56 : zq_at zy_multiply_6_15.2.1 56 21 ∧ zq_at zy_multiply_6_15.2.1 57 4 ∧ zq_at zy_multiply_6_15.2.1 58 46 ∧ zq_at zy_multiply_6_15.2.1 59 167 ∧ zq_at zy_multiply_6_15.2.1 60 0 ∧ zq_at zy_multiply_6_15.2.1 61 4 ∧ zq_at zy_multiply_6_15.2.1 68 21 ∧ zq_at zy_multiply_6_15.2.1 69 6 ∧ zq_at zy_multiply_6_15.2.1 70 27 ∧ zq_at zy_multiply_6_15.2.1 71 162 ∧ zq_at zy_multiply_6_15.2.1 72 0 ∧ zq_at zy_multiply_6_15.2.1 73 53 ∧ zq_at zy_multiply_6_15.2.1 124 42 ∧ zq_at zy_multiply_6_15.2.1 125 180 ∧ zq_at zy_multiply_6_15.2.1 126 0 ∧ zq_at zy_multiply_6_15.2.1 127 25 ∧ zq_at zy_multiply_6_15.2.1 128 21 ∧ zq_at zy_multiply_6_15.2.1 129 4 ∧ zq_at zy_multiply_6_15.2.1 130 21 ∧ zq_at zy_multiply_6_15.2.1 131 5 ∧ zq_at zy_multiply_6_15.2.1 132 79 ∧ zq_at zy_multiply_6_15.2.1 133 132 ∧ zq_at zy_multiply_6_15.2.1 134 3 ∧ zq_at zy_multiply_6_15.2.1 135 1 := by decide +kernel
theorem zd_6_15_56 : zz_D zy_multiply_6_15 56 (.iload 4) 2 58 := ⟨zq_21 zg_6_15_56.1 zg_6_15_56.2.1, rfl⟩
theorem zd_6_15_58 : zz_D zy_multiply_6_15 58 (.iaload) 1 59 := ⟨zq_46 zg_6_15_56.2.2.1, rfl⟩
theorem zd_6_15_59 : zz_B zy_multiply_6_15 59 Instr.goto 63 62 := ⟨4, zq_167 zg_6_15_56.2.2.2.1 zg_6_15_56.2.2.2.2.1 zg_6_15_56.2.2.2.2.2.1 (by decide), rfl, rfl⟩
theorem zd_6_15_68 : zz_D zy_multiply_6_15 68 (.iload 6) 2 70 := ⟨zq_21 zg_6_15_56.2.2.2.2.2.2.1 zg_6_15_56.2.2.2.2.2.2.2.1, rfl⟩
theorem zd_6_15_70 : zz_D zy_multiply_6_15 70 (.iload_n 1) 1 71 := ⟨zq_27 zg_6_15_56.2.2.2.2.2.2.2.2.1, rfl⟩
theorem zd_6_15_71 : zz_B zy_multiply_6_15 71 (Instr.if_icmp .ge) 124 74 := ⟨53, zq_162 zg_6_15_56.2.2.2.2.2.2.2.2.2.1 zg_6_15_56.2.2.2.2.2.2.2.2.2.2.1 zg_6_15_56.2.2.2.2.2.2.2.2.2.2.2.1 (by decide), rfl, rfl⟩
theorem zd_6_15_124 : zz_D zy_multiply_6_15 124 (.aload_n 0) 1 125 := ⟨zq_42 zg_6_15_56.2.2.2.2.2.2.2.2.2.2.2.2.1, rfl⟩
theorem zd_6_15_125 : zz_D zy_multiply_6_15 125 (.getfield 25) 3 128 := ⟨zq_180 zg_6_15_56.2.2.2.2.2.2.2.2.2.2.2.2.2.1 zg_6_15_56.2.2.2.2.2.2.2.2.2.2.2.2.2.2.1 zg_6_15_56.2.2.2.2.2.2.2.2.2.2.2.2.2.2.2.1 rfl, rfl⟩
theorem zd_6_15_128 : zz_D zy_multiply_6_15 128 (.iload 4) 2 130 := ⟨zq_21 zg_6_15_56.2.2.2.2.2.2.2.2.2.2.2.2.2.2.2.2.1 zg_6_15_56.2.2.2.2.2.2.2.2.2.2.2.2.2.2.2.2.2.1, rfl⟩
theorem zd_6_15_130 : zz_D zy_multiply_6_15 130 (.iload 5) 2 132 := ⟨zq_21 zg_6_15_56.2.2.2.2.2.2.2.2.2.2.2.2.2.2.2.2.2.2.1 zg_6_15_56.2.2.2.2.2.2.2.2.2.2.2.2.2.2.2.2.2.2.2.1, rfl⟩
theorem zd_6_15_132 : zz_D zy_multiply_6_15 132 (.iastore) 1 133 := ⟨zq_79 zg_6_15_56.2.2.2.2.2.2.2.2.2.2.2.2.2.2.2.2.2.2.2.2.1, rfl⟩
theorem zd_6_15_133 : zz_D zy_multiply_6_15 133 (.iinc 3 1) 3 136 := ⟨zq_132 zg_6_15_56.2.2.2.2.2.2.2.2.2.2.2.2.2.2.2.2.2.2.2.2.2.1 zg_6_15_56.2.2.2.2.2.2.2.2.2.2.2.2.2.2.2.2.2.2.2.2.2.2.1 zg_6_15_56.2.2.2.2.2.2.2.2.2.2.2.2.2.2.2.2.2.2.2.2.2.2.2 (by decide), rfl⟩
theorem zg_6_15_136 : zq_at zy_multiply_6_15.2.1 136 167 ∧ zq_at zy_multiply_6_15.2.1 137 255 ∧ zq_at zy_multiply_6_15.2.1 138 139 ∧ zq_at zy_multiply_6_15.2.1 74 21 ∧ zq_at zy_multiply_6_15.2.1 75 5 ∧ zq_at zy_multiply_6_15.2.1 76 42 ∧ zq_at zy_multiply_6_15.2.1 77 180 ∧ zq_at zy_multiply_6_15.2.1 78 0 ∧ zq_at zy_multiply_6_15.2.1 79 19 ∧ zq_at zy_multiply_6_15.2.1 80 42 ∧ zq_at zy_multiply_6_15.2.1 81 180 ∧ zq_at zy_multiply_6_15.2.1 82 0 ∧ zq_at zy_multiply_6_15.2.1 83 119 ∧ zq_at zy_multiply_6_15.2.1 84 28 ∧ zq_at zy_multiply_6_15.2.1 85 42 ∧ zq_at zy_multiply_6_15.2.1 86 180 ∧ zq_at zy_multiply_6_15.2.1 87 0 ∧ zq_at zy_multiply_6_15.2.1 88 36 ∧ zq_at zy_multiply_6_15.2.1 89 104 ∧ zq_at zy_multiply_6_15.2.1 90 96 ∧ zq_at zy_multiply_6_15.2.1 91 21 ∧ zq_at zy_multiply_6_15.2.1 92 6 ∧ zq_at zy_multiply_6_15.2.1 93 96 ∧ zq_at zy_multiply_6_15.2.1 94 51 := by decide +kernel
theorem zd_6_15_136 : zz_B zy_multiply_6_15 136 Instr.goto 19 139 := ⟨(-117), zq_167 zg_6_15_136.1 zg_6_15_136.2.1 zg_6_15_136.2.2.1 (by decide), rfl, rfl⟩
theorem zd_6_15_74 : zz_D zy_multiply_6_15 74 (.iload 5) 2 76 := ⟨zq_21 zg_6_15_136.2.2.2.1 zg_6_15_136.2.2.2.2.1, rfl⟩
theorem zd_6_15_76 : zz_D zy_multiply_6_15 76 (.aload_n 0) 1 77 := ⟨zq_42 zg_6_15_136.2.2.2.2.2.1, rfl⟩
theorem zd_6_15_77 : zz_D zy_multiply_6_15 77 (.getfield 19) 3 80 := ⟨zq_180 zg_6_15_136.2.2.2.2.2.2.1 zg_6_15_136.2.2.2.2.2.2.2.1 zg_6_15_136.2.2.2.2.2.2.2.2.1 rfl, rfl⟩
theorem zd_6_15_80 : zz_D zy_multiply_6_15 80 (.aload_n 0) 1 81 := ⟨zq_42 zg_6_15_136.2.2.2.2.2.2.2.2.2.1, rfl⟩
theorem zd_6_15_81 : zz_D zy_multiply_6_15 81 (.getfield 119) 3 84 := ⟨zq_180 zg_6_15_136.2.2.2.2.2.2.2.2.2.2.1 zg_6_15_136.2.2.2.2.2.2.2.2.2.2.2.1 zg_6_15_136.2.2.2.2.2.2.2.2.2.2.2.2.1 rfl, rfl⟩
theorem zd_6_15_84 : zz_D zy_multiply_6_15 84 (.iload_n 2) 1 85 := ⟨zq_28 zg_6_15_136.2.2.2.2.2.2.2.2.2.2.2.2.2.1, rfl⟩
theorem zd_6_15_85 : zz_D zy_multiply_6_15 85 (.aload_n 0) 1 86 := ⟨zq_42 zg_6_15_136.2.2.2.2.2.2.2.2.2.2.2.2.2.2.1, rfl⟩
theorem zd_6_15_86 : zz_D zy_multiply_6_15 86 (.getfield 36) 3 89 := ⟨zq_180 zg_6_15_136.2.2.2.2.2.2.2.2.2.2.2.2.2.2.2.1 zg_6_15_136.2.2.2.2.2.2.2.2.2.2.2.2.2.2.2.2.1 zg_6_15_136.2.2.2.2.2.2.2.2.2.2.2.2.2.2.2.2.2.1 rfl, rfl⟩
theorem zd_6_15_89 : zz_D zy_multiply_6_15 89 (.imul) 1 90 := ⟨zq_104 zg_6_15_136.2.2.2.2.2.2.2.2.2.2.2.2.2.2.2.2.2.2.1, rfl⟩
theorem zd_6_15_90 : zz_D zy_multiply_6_15 90 (.iadd) 1 91 := ⟨zq_96 zg_6_15_136.2.2.2.2.2.2.2.2.2.2.2.2.2.2.2.2.2.2.2.1, rfl⟩
theorem zd_6_15_91 : zz_D zy_multiply_6_15 91 (.iload 6) 2 93 := ⟨zq_21 zg_6_15_136.2.2.2.2.2.2.2.2.2.2.2.2.2.2.2.2.2.2.2.2.1 zg_6_15_136.2.2.2.2.2.2.2.2.2.2.2.2.2.2.2.2.2.2.2.2.2.1, rfl⟩
theorem zd_6_15_93 : zz_D zy_multiply_6_15 93 (.iadd) 1 94 := ⟨zq_96 zg_6_15_136.2.2.2.2.2.2.2.2.2.2.2.2.2.2.2.2.2.2.2.2.2.2.1, rfl⟩
theorem zd_6_15_94 : zz_D zy_multiply_6_15 94 (.baload) 1 95 := ⟨zq_51 zg_6_15_136.2.2.2.2.2.2.2.2.2.2.2.2.2.2.2.2.2.2.2.2.2.2.2, rfl⟩
theorem zg_6_15_95 : zq_at zy_multiply_6_15.2.1 95 42 ∧ zq_at zy_multiply_6_15.2.1 96 180 ∧ zq_at zy_multiply_6_15.2.1 97 0 ∧ zq_at zy_multiply_6_15.2.1 98 22 ∧ zq_at zy_multiply_6_15.2.1 99 42 ∧ zq_at zy_multiply_6_15.2.1 100 180 ∧ zq_at zy_multiply_6_15.2.1 101 0 ∧ zq_at zy_multiply_6_15.2.1 102 125 ∧ zq_at zy_multiply_6_15.2.1 103 21 ∧ zq_at zy_multiply_6_15.2.1 104 6 ∧ zq_at zy_multiply_6_15.2.1 105 42 ∧ zq_at zy_multiply_6_15.2.1 106 180 ∧ zq_at zy_multiply_6_15.2.1 107 0 ∧ zq_at zy_multiply_6_15.2.1 108 36 ∧ zq_at zy_multiply_6_15.2.1 109 104 ∧ zq_at zy_multiply_6_15.2.1 110 96 ∧ zq_at zy_multiply_6_15.2.1 111 29 ∧ zq_at zy_multiply_6_15.2.1 112 96 ∧ zq_at zy_multiply_6_15.2.1 113 51 ∧ zq_at zy_multiply_6_15.2.1 114 104 ∧ zq_at zy_multiply_6_15.2.1 115 96 ∧ zq_at zy_multiply_6_15.2.1 116 54 ∧ zq_at zy_multiply_6_15.2.1 117 5 := by decide +kernel
theorem zd_6_15_95 : zz_D zy_multiply_6_15 95 (.aload_n 0) 1 96 := ⟨zq_42 zg_6_15_95.1, rfl⟩
theorem zd_6_15_96 : zz_D zy_multiply_6_15 96 (.getfield 22) 3 99 := ⟨zq_180 zg_6_15_95.2.1 zg_6_15_95.2.2.1 zg_6_15_95.2.2.2.1 rfl, rfl⟩
theorem zd_6_15_99 : zz_D zy_multiply_6_15 99 (.aload_n 0) 1 100 := ⟨zq_42 zg_6_15_95.2.2.2.2.1, rfl⟩
theorem zd_6_15_100 : zz_D zy_multiply_6_15 100 (.getfield 125) 3 103 := ⟨zq_180 zg_6_15_95.2.2.2.2.2.1 zg_6_15_95.2.2.2.2.2.2.1 zg_6_15_95.2.2.2.2.2.2.2.1 rfl, rfl⟩
theorem zd_6_15_103 : zz_D zy_multiply_6_15 103 (.iload 6) 2 105 := ⟨zq_21 zg_6_15_95.2.2.2.2.2.2.2.2.1 zg_6_15_95.2.2.2.2.2.2.2.2.2.1, rfl⟩
theorem zd_6_15_105 : zz_D zy_multiply_6_15 105 (.aload_n 0) 1 106 := ⟨zq_42 zg_6_15_95.2.2.2.2.2.2.2.2.2.2.1, rfl⟩
theorem zd_6_15_106 : zz_D zy_multiply_6_15 106 (.getfield 36) 3 109 := ⟨zq_180 zg_6_15_95.2.2.2.2.2.2.2.2.2.2.2.1 zg_6_15_95.2.2.2.2.2.2.2.2.2.2.2.2.1 zg_6_15_95.2.2.2.2.2.2.2.2.2.2.2.2.2.1 rfl, rfl⟩
theorem zd_6_15_109 : zz_D zy_multiply_6_15 109 (.imul) 1 110 := ⟨zq_104 zg_6_15_95.2.2.2.2.2.2.2.2.2.2.2.2.2.2.1, rfl⟩
theorem zd_6_15_110 : zz_D zy_multiply_6_15 110 (.iadd) 1 111 := ⟨zq_96 zg_6_15_95.2.2.2.2.2.2.2.2.2.2.2.2.2.2.2.1, rfl⟩
theorem zd_6_15_111 : zz_D zy_multiply_6_15 111 (.iload_n 3) 1 112 := ⟨zq_29 zg_6_15_95.2.2.2.2.2.2.2.2.2.2.2.2.2.2.2.2.1, rfl⟩
theorem zd_6_15_112 : zz_D zy_multiply_6_15 112 (.iadd) 1 113 := ⟨zq_96 zg_6_15_95.2.2.2.2.2.2.2.2.2.2.2.2.2.2.2.2.2.1, rfl⟩
theorem zd_6_15_113 : zz_D zy_multiply_6_15 113 (.baload) 1 114 := ⟨zq_51 zg_6_15_95.2.2.2.2.2.2.2.2.2.2.2.2.2.2.2.2.2.2.1, rfl⟩
theorem zd_6_15_114 : zz_D zy_multiply_6_15 114 (.imul) 1 115 := ⟨zq_104 zg_6_15_95.2.2.2.2.2.2.2.2.2.2.2.2.2.2.2.2.2.2.2.1, rfl⟩
theorem zd_6_15_115 : zz_D zy_multiply_6_15 115 (.iadd) 1 116 := ⟨zq_96 zg_6_15_95.2.2.2.2.2.2.2.2.2.2.2.2.2.2.2.2.2.2.2.2.1, rfl⟩
theorem zd_6_15_116 : zz_D zy_multiply_6_15 116 (.istore 5) 2 118 := ⟨zq_54 zg_6_15_95.2.2.2.2.2.2.2.2.2.2.2.2.2.2.2.2.2.2.2.2.2.1 zg_6_15_95.2.2.2.2.2.2.2.2.2.2.2.2.2.2.2.2.2.2.2.2.2.2, rfl⟩
theorem zg_6_15_118 : zq_at zy_multiply_6_15.2.1 118 132 ∧ zq_at zy_multiply_6_15.2.1 119 6 ∧ zq_at zy_multiply_6_15.2.1 120 1 ∧ zq_at zy_multiply_6_15.2.1 121 167 ∧ zq_at zy_multiply_6_15.2.1 122 255 ∧ zq_at zy_multiply_6_15.2.1 123 203 := by decide +kernel
theorem zd_6_15_118 : zz_D zy_multiply_6_15 118 (.iinc 6 1) 3 121 := ⟨zq_132 zg_6_15_118.1 zg_6_15_118.2.1 zg_6_15_118.2.2.1 (by decide), rfl⟩
theorem zd_6_15_121 : zz_B zy_multiply_6_15 121 Instr.goto 68 124 := ⟨(-53), zq_167 zg_6_15_118.2.2.2.1 zg_6_15_118.2.2.2.2.1 zg_6_15_118.2.2.2.2.2 (by decide), rfl, rfl⟩
-- TensorForge$Machine multiply ()V
abbrev zr_multiply_6_15 : Room := { frames := 0, cells := 0, slots := 0, locals := 0 }
def zp_multiply_6_15  (S0 : zz_S) : zz_S → Prop := fun S => zz_G S ∧ zz_fr [] [1035] (fun _ _ => False) S0 S
theorem zb_multiply_6_15_9 {g : mm_G} {l : Launch}  (S0 : zz_S) (n : Nat) (hn : zz_end ≤ n) (G_S0 : zz_G S0) (hl : zz_lc 5 (S0 1031 7) (S0 1031 8) (S0 1031 9) (S0 1031 10) (S0 1031 11) (S0 1031 12) (S0 1031 13) (S0 1031 6)) (x2 : Int) (S : zz_S) (G_S : zz_G S) (F_S : zz_fr [] [1035] (fun _ _ => False) S0 S) (i9_0 : 0 ≤ x2 ∧ x2 ≤ 63) (R : Nat) (hR : (51539607552 + (S0 1031 8 - x2).toNat) * 1208925819614629174706176 + 1208925819614629174706175 = R) (k19 : ∀ (x2 : Int) (x3 : Int) (S : zz_S), zz_G S → zz_fr [] [1035] (fun _ _ => False) S0 S → (0 ≤ x2 ∧ x2 ≤ 62) → (0 ≤ x3 ∧ x3 ≤ 31) → (0 ≤ x2 ∧ x2 ≤ 63) → (x2 < S0 1031 8) → (51539607552 + (S0 1031 8 - x2).toNat) * 1208925819614629174706176 + (34359738368 + (S0 1031 9 - x3).toNat) * 1099511627776 + 1099511627775 < R → zz_E g l zy_multiply_6_15 zr_multiply_6_15 (zz_QV n (zp_multiply_6_15  S0)) S n 19 [some (.ref 1031), some (zi ((S0 1031 13) / 2)), some (zi x2), some (zi x3)] [] 0 0) : zz_E g l zy_multiply_6_15 zr_multiply_6_15 (zz_QV n (zp_multiply_6_15  S0)) S n 9 [some (.ref 1031), some (zi ((S0 1031 13) / 2)), some (zi x2)] [] 0 0 := by
  refine zz_iload_n (x := x2) rfl zd_6_15_9 ?_
  refine zz_aload_n (x := 1031) rfl zd_6_15_10 ?_
  have g4 := zz_G.r G_S0 1031 8 0 63 rfl rfl
  refine zz_geti (z := S0 1031 8) zd_6_15_11 zf_Machine_113 zT_1031 rfl (zz_ltn hn rfl) (zz_rc F_S rfl rfl (fun h => h) rfl) ?_
  refine zz_icmp_ge (by omega) (by omega) zd_6_15_14 (fun c5 => ?_) (fun c5 => ?_)
  · exact zz_vret zd_6_15_145 rfl (Nat.zero_le _) (Nat.zero_le _) ⟨_, rfl, G_S, F_S⟩
  · refine zz_iconst zd_6_15_17 ?_
    refine zz_istore_n [some (.ref 1031), some (zi ((S0 1031 13) / 2)), some (zi x2), some (zi 0)] zd_6_15_18 (by decide) rfl ?_
    have g6 := zz_G.r G_S0 1031 9 0 31 rfl rfl
    refine zz_less (ls1 := [some (.ref 1031), some (zi ((S0 1031 13) / 2)), some (zi x2), some (zi 0)]) ⟨rfl, ⟨rfl, ⟨rfl, ⟨rfl, trivial⟩⟩⟩⟩ ?_
    exact k19 x2 0 S G_S F_S (by omega) (by omega) (by omega) (by omega) (by omega)
theorem zb_multiply_6_15_19 {g : mm_G} {l : Launch}  (S0 : zz_S) (n : Nat) (hn : zz_end ≤ n) (G_S0 : zz_G S0) (hl : zz_lc 5 (S0 1031 7) (S0 1031 8) (S0 1031 9) (S0 1031 10) (S0 1031 11) (S0 1031 12) (S0 1031 13) (S0 1031 6)) (x2 : Int) (x3 : Int) (S : zz_S) (G_S : zz_G S) (F_S : zz_fr [] [1035] (fun _ _ => False) S0 S) (i19_0 : 0 ≤ x2 ∧ x2 ≤ 62) (i19_1 : 0 ≤ x3 ∧ x3 ≤ 31) (i19_2 : 0 ≤ x2 ∧ x2 ≤ 63) (i19_3 : x2 < S0 1031 8) (R : Nat) (hR : (51539607552 + (S0 1031 8 - x2).toNat) * 1208925819614629174706176 + (34359738368 + (S0 1031 9 - x3).toNat) * 1099511627776 + 1099511627775 = R) (k9 : ∀ (x2 : Int) (S : zz_S), zz_G S → zz_fr [] [1035] (fun _ _ => False) S0 S → (0 ≤ x2 ∧ x2 ≤ 63) → (51539607552 + (S0 1031 8 - x2).toNat) * 1208925819614629174706176 + 1208925819614629174706175 < R → zz_E g l zy_multiply_6_15 zr_multiply_6_15 (zz_QV n (zp_multiply_6_15  S0)) S n 9 [some (.ref 1031), some (zi ((S0 1031 13) / 2)), some (zi x2)] [] 0 0) (k68 : ∀ (x2 : Int) (x3 : Int) (x4 : Int) (x5 : Int) (x6 : Int) (S : zz_S), zz_G S → zz_fr [] [1035] (fun _ _ => False) S0 S → (0 ≤ x2 ∧ x2 ≤ 62) → (0 ≤ x3 ∧ x3 ≤ 30) → (0 ≤ x4 ∧ x4 ≤ 255) → ((-2147483648) ≤ x5 ∧ x5 ≤ 2147483647) → (0 ≤ x6 ∧ x6 ≤ 15) → (0 ≤ x2 ∧ x2 ≤ 63) → (0 ≤ x3 ∧ x3 ≤ 31) → (x2 < S0 1031 8) → (x2 < S0 1031 8) → (x3 < S0 1031 9) → (51539607552 + (S0 1031 8 - x2).toNat) * 1208925819614629174706176 + (34359738368 + (S0 1031 9 - x3).toNat) * 1099511627776 + (17179869184 + (((S0 1031 13) / 2) - x6).toNat) < R → zz_E g l zy_multiply_6_15 zr_multiply_6_15 (zz_QV n (zp_multiply_6_15  S0)) S n 68 [some (.ref 1031), some (zi ((S0 1031 13) / 2)), some (zi x2), some (zi x3), some (zi x4), some (zi x5), some (zi x6)] [] 0 0) : zz_E g l zy_multiply_6_15 zr_multiply_6_15 (zz_QV n (zp_multiply_6_15  S0)) S n 19 [some (.ref 1031), some (zi ((S0 1031 13) / 2)), some (zi x2), some (zi x3)] [] 0 0 := by
  have l0 := hl
  unfold zz_lc at l0
  have lk := l0.2.2.2.2.2.2.1 rfl
  have l2 := l0.2.1 (by decide)
  clear l0
  have gS := zz_G.r G_S0 1031 6 2 8 rfl rfl
  have gT := zz_G.r G_S0 1031 12 0 1023 rfl rfl
  have m1 : x2 * S0 1031 6 ≤ (S0 1031 8 - 1) * S0 1031 6 := Int.mul_le_mul_of_nonneg_right (by omega) (by omega)
  have m2 : x2 * S0 1031 12 ≤ (S0 1031 8 - 1) * S0 1031 12 := Int.mul_le_mul_of_nonneg_right (by omega) (by omega)
  refine zz_iload_n (x := x3) rfl zd_6_15_19 ?_
  refine zz_aload_n (x := 1031) rfl zd_6_15_20 ?_
  have g7 := zz_G.r G_S0 1031 9 0 31 rfl rfl
  refine zz_geti (z := S0 1031 9) zd_6_15_21 zf_Machine_116 zT_1031 rfl (zz_ltn hn rfl) (zz_rc F_S rfl rfl (fun h => h) rfl) ?_
  refine zz_icmp_ge (by omega) (by omega) zd_6_15_24 (fun c8 => ?_) (fun c8 => ?_)
  · refine zz_iinc [some (.ref 1031), some (zi ((S0 1031 13) / 2)), some (zi (x2 + 1)), some (zi x3)] zd_6_15_139 rfl rfl ?_
    refine zz_goto zd_6_15_142 ?_
    have g9 := zz_G.r G_S0 1031 8 0 63 rfl rfl
    refine zz_less (ls1 := [some (.ref 1031), some (zi ((S0 1031 13) / 2)), some (zi (x2 + 1))]) ⟨rfl, ⟨rfl, ⟨rfl, trivial⟩⟩⟩ ?_
    exact k9 (x2 + 1) S G_S F_S (by omega) (by omega)
  · refine zz_aload_n (x := 1031) rfl zd_6_15_27 ?_
    have g10 := zz_G.r G_S0 1031 11 0 511 rfl rfl
    refine zz_geti (z := S0 1031 11) zd_6_15_28 zf_Machine_122 zT_1031 rfl (zz_ltn hn rfl) (zz_rc F_S rfl rfl (fun h => h) rfl) ?_
    refine zz_iload_n (x := x2) rfl zd_6_15_31 ?_
    refine zz_aload_n (x := 1031) rfl zd_6_15_32 ?_
    have g11 := zz_G.r G_S0 1031 6 2 8 rfl rfl
    refine zz_geti (z := S0 1031 6) zd_6_15_33 zf_Machine_36 zT_1031 rfl (zz_ltn hn rfl) (zz_rc F_S rfl rfl (fun h => h) rfl) ?_
    refine zz_imul zd_6_15_36 ?_
    have m12 := zz_mulb (a := x2) (b := S0 1031 6) 62 8 496 (by omega) (by omega) (by decide)
    refine zz_iadd zd_6_15_37 ?_
    refine zz_iload_n (x := x3) rfl zd_6_15_38 ?_
    refine zz_iadd zd_6_15_39 ?_
    refine zz_istore [some (.ref 1031), some (zi ((S0 1031 13) / 2)), some (zi x2), some (zi x3), some (zi (((S0 1031 11) + (x2 * (S0 1031 6))) + x3))] zd_6_15_40 (by decide) rfl ?_
    refine zz_aload_n (x := 1031) rfl zd_6_15_42 ?_
    have g13 := zz_G.r G_S0 1031 13 0 31 rfl rfl
    refine zz_geti (z := S0 1031 13) zd_6_15_43 zf_Machine_128 zT_1031 rfl (zz_ltn hn rfl) (zz_rc F_S rfl rfl (fun h => h) rfl) ?_
    refine zz_iconst zd_6_15_46 ?_
    refine zz_iand (by omega) (by omega) zd_6_15_47 (fun v14 hv14 av14 bv14 ev14 => ?_)
    refine zz_iconst zd_6_15_48 ?_
    refine zz_icmp_ne (by omega) (by omega) zd_6_15_49 (fun c15 => ?_) (fun c15 => ?_)
    · refine zz_iconst zd_6_15_62 ?_
      refine zz_istore [some (.ref 1031), some (zi ((S0 1031 13) / 2)), some (zi x2), some (zi x3), some (zi (((S0 1031 11) + (x2 * (S0 1031 6))) + x3)), some (zi 0)] zd_6_15_63 (by decide) rfl ?_
      refine zz_iconst zd_6_15_65 ?_
      refine zz_istore [some (.ref 1031), some (zi ((S0 1031 13) / 2)), some (zi x2), some (zi x3), some (zi (((S0 1031 11) + (x2 * (S0 1031 6))) + x3)), some (zi 0), some (zi 0)] zd_6_15_66 (by decide) rfl ?_
      have g16 := zz_G.r G_S0 1031 8 0 63 rfl rfl
      refine zz_less (ls1 := [some (.ref 1031), some (zi ((S0 1031 13) / 2)), some (zi x2), some (zi x3), some (zi (((S0 1031 11) + (x2 * (S0 1031 6))) + x3)), some (zi 0), some (zi 0)]) ⟨rfl, ⟨rfl, ⟨rfl, ⟨rfl, ⟨rfl, ⟨rfl, ⟨rfl, trivial⟩⟩⟩⟩⟩⟩⟩ ?_
      exact k68 x2 x3 (((S0 1031 11) + (x2 * (S0 1031 6))) + x3) 0 0 S G_S F_S (by omega) (by omega) (by omega) (by omega) (by omega) (by omega) (by omega) (by omega) (by omega) (by omega) (by omega)
    · refine zz_aload_n (x := 1031) rfl zd_6_15_52 ?_
      refine zz_getr (kd := 0) (z := 1035) zd_6_15_53 zf_Machine_25 zT_1031 rfl (zz_ltn hn rfl) (zz_G.eq G_S 1031 3 1035 rfl rfl) (by decide) 1035 rfl ?_
      refine zz_iload (x := ((S0 1031 11) + (x2 * (S0 1031 6))) + x3) rfl zd_6_15_56 ?_
      have g17 := zz_G.r G_S 1035 ((((S0 1031 11) + (x2 * (S0 1031 6))) + x3).toNat) (-2147483648) 2147483647 rfl rfl
      refine zz_iald (z := S 1035 ((((S0 1031 11) + (x2 * (S0 1031 6))) + x3).toNat)) zd_6_15_58 zT_1035 rfl (zz_ltn hn rfl) (by decide) (by omega) rfl ?_
      refine zz_goto zd_6_15_59 ?_
      refine zz_istore [some (.ref 1031), some (zi ((S0 1031 13) / 2)), some (zi x2), some (zi x3), some (zi (((S0 1031 11) + (x2 * (S0 1031 6))) + x3)), some (zi (S 1035 ((((S0 1031 11) + (x2 * (S0 1031 6))) + x3).toNat)))] zd_6_15_63 (by decide) rfl ?_
      refine zz_iconst zd_6_15_65 ?_
      refine zz_istore [some (.ref 1031), some (zi ((S0 1031 13) / 2)), some (zi x2), some (zi x3), some (zi (((S0 1031 11) + (x2 * (S0 1031 6))) + x3)), some (zi (S 1035 ((((S0 1031 11) + (x2 * (S0 1031 6))) + x3).toNat))), some (zi 0)] zd_6_15_66 (by decide) rfl ?_
      have g18 := zz_G.r G_S0 1031 8 0 63 rfl rfl
      refine zz_less (ls1 := [some (.ref 1031), some (zi ((S0 1031 13) / 2)), some (zi x2), some (zi x3), some (zi (((S0 1031 11) + (x2 * (S0 1031 6))) + x3)), some (zi (S 1035 ((((S0 1031 11) + (x2 * (S0 1031 6))) + x3).toNat))), some (zi 0)]) ⟨rfl, ⟨rfl, ⟨rfl, ⟨rfl, ⟨rfl, ⟨rfl, ⟨rfl, trivial⟩⟩⟩⟩⟩⟩⟩ ?_
      exact k68 x2 x3 (((S0 1031 11) + (x2 * (S0 1031 6))) + x3) (S 1035 ((((S0 1031 11) + (x2 * (S0 1031 6))) + x3).toNat)) 0 S G_S F_S (by omega) (by omega) (by omega) (by omega) (by omega) (by omega) (by omega) (by omega) (by omega) (by omega) (by omega)
theorem zb_multiply_6_15_68 {g : mm_G} {l : Launch}  (S0 : zz_S) (n : Nat) (hn : zz_end ≤ n) (G_S0 : zz_G S0) (hl : zz_lc 5 (S0 1031 7) (S0 1031 8) (S0 1031 9) (S0 1031 10) (S0 1031 11) (S0 1031 12) (S0 1031 13) (S0 1031 6)) (x2 : Int) (x3 : Int) (x4 : Int) (x5 : Int) (x6 : Int) (S : zz_S) (G_S : zz_G S) (F_S : zz_fr [] [1035] (fun _ _ => False) S0 S) (i68_0 : 0 ≤ x2 ∧ x2 ≤ 62) (i68_1 : 0 ≤ x3 ∧ x3 ≤ 30) (i68_2 : 0 ≤ x4 ∧ x4 ≤ 255) (i68_3 : (-2147483648) ≤ x5 ∧ x5 ≤ 2147483647) (i68_4 : 0 ≤ x6 ∧ x6 ≤ 15) (i68_5 : 0 ≤ x2 ∧ x2 ≤ 63) (i68_6 : 0 ≤ x3 ∧ x3 ≤ 31) (i68_7 : x2 < S0 1031 8) (i68_8 : x2 < S0 1031 8) (i68_9 : x3 < S0 1031 9) (R : Nat) (hR : (51539607552 + (S0 1031 8 - x2).toNat) * 1208925819614629174706176 + (34359738368 + (S0 1031 9 - x3).toNat) * 1099511627776 + (17179869184 + (((S0 1031 13) / 2) - x6).toNat) = R) (k19 : ∀ (x2 : Int) (x3 : Int) (S : zz_S), zz_G S → zz_fr [] [1035] (fun _ _ => False) S0 S → (0 ≤ x2 ∧ x2 ≤ 62) → (0 ≤ x3 ∧ x3 ≤ 31) → (0 ≤ x2 ∧ x2 ≤ 63) → (x2 < S0 1031 8) → (51539607552 + (S0 1031 8 - x2).toNat) * 1208925819614629174706176 + (34359738368 + (S0 1031 9 - x3).toNat) * 1099511627776 + 1099511627775 < R → zz_E g l zy_multiply_6_15 zr_multiply_6_15 (zz_QV n (zp_multiply_6_15  S0)) S n 19 [some (.ref 1031), some (zi ((S0 1031 13) / 2)), some (zi x2), some (zi x3)] [] 0 0) (k68 : ∀ (x2 : Int) (x3 : Int) (x4 : Int) (x5 : Int) (x6 : Int) (S : zz_S), zz_G S → zz_fr [] [1035] (fun _ _ => False) S0 S → (0 ≤ x2 ∧ x2 ≤ 62) → (0 ≤ x3 ∧ x3 ≤ 30) → (0 ≤ x4 ∧ x4 ≤ 255) → ((-2147483648) ≤ x5 ∧ x5 ≤ 2147483647) → (0 ≤ x6 ∧ x6 ≤ 15) → (0 ≤ x2 ∧ x2 ≤ 63) → (0 ≤ x3 ∧ x3 ≤ 31) → (x2 < S0 1031 8) → (x2 < S0 1031 8) → (x3 < S0 1031 9) → (51539607552 + (S0 1031 8 - x2).toNat) * 1208925819614629174706176 + (34359738368 + (S0 1031 9 - x3).toNat) * 1099511627776 + (17179869184 + (((S0 1031 13) / 2) - x6).toNat) < R → zz_E g l zy_multiply_6_15 zr_multiply_6_15 (zz_QV n (zp_multiply_6_15  S0)) S n 68 [some (.ref 1031), some (zi ((S0 1031 13) / 2)), some (zi x2), some (zi x3), some (zi x4), some (zi x5), some (zi x6)] [] 0 0) : zz_E g l zy_multiply_6_15 zr_multiply_6_15 (zz_QV n (zp_multiply_6_15  S0)) S n 68 [some (.ref 1031), some (zi ((S0 1031 13) / 2)), some (zi x2), some (zi x3), some (zi x4), some (zi x5), some (zi x6)] [] 0 0 := by
  have l0 := hl
  unfold zz_lc at l0
  have lk := l0.2.2.2.2.2.2.1 rfl
  have l2 := l0.2.1 (by decide)
  clear l0
  have gS := zz_G.r G_S0 1031 6 2 8 rfl rfl
  have gT := zz_G.r G_S0 1031 12 0 1023 rfl rfl
  have m1 : x2 * S0 1031 6 ≤ (S0 1031 8 - 1) * S0 1031 6 := Int.mul_le_mul_of_nonneg_right (by omega) (by omega)
  have m2 : x2 * S0 1031 12 ≤ (S0 1031 8 - 1) * S0 1031 12 := Int.mul_le_mul_of_nonneg_right (by omega) (by omega)
  refine zz_iload (x := x6) rfl zd_6_15_68 ?_
  refine zz_iload_n (x := (S0 1031 13) / 2) rfl zd_6_15_70 ?_
  refine zz_icmp_ge (by omega) (by omega) zd_6_15_71 (fun c19 => ?_) (fun c19 => ?_)
  · refine zz_aload_n (x := 1031) rfl zd_6_15_124 ?_
    refine zz_getr (kd := 0) (z := 1035) zd_6_15_125 zf_Machine_25 zT_1031 rfl (zz_ltn hn rfl) (zz_G.eq G_S 1031 3 1035 rfl rfl) (by decide) 1035 rfl ?_
    refine zz_iload (x := x4) rfl zd_6_15_128 ?_
    refine zz_iload (x := x5) rfl zd_6_15_130 ?_
    refine zz_iast zd_6_15_132 zT_1035 rfl (zz_ltn hn rfl) (by decide) (by omega) (fun S20 qS20 => ?_)
    have G_S20 := zz_G.put G_S qS20 (-2147483648) 2147483647 rfl (by omega)
    have F_S20 := zz_fr.putc F_S qS20 rfl
    refine zz_iinc [some (.ref 1031), some (zi ((S0 1031 13) / 2)), some (zi x2), some (zi (x3 + 1)), some (zi x4), some (zi x5), some (zi x6)] zd_6_15_133 rfl rfl ?_
    refine zz_goto zd_6_15_136 ?_
    have g21 := zz_G.r G_S0 1031 8 0 63 rfl rfl
    have g22 := zz_G.r G_S0 1031 9 0 31 rfl rfl
    refine zz_less (ls1 := [some (.ref 1031), some (zi ((S0 1031 13) / 2)), some (zi x2), some (zi (x3 + 1))]) ⟨rfl, ⟨rfl, ⟨rfl, ⟨rfl, trivial⟩⟩⟩⟩ ?_
    exact k19 x2 (x3 + 1) S20 G_S20 F_S20 (by omega) (by omega) (by omega) (by omega) (by omega)
  · have m3 : x6 * S0 1031 6 ≤ (S0 1031 13 / 2 - 1) * S0 1031 6 := Int.mul_le_mul_of_nonneg_right (by omega) (by omega)
    refine zz_iload (x := x5) rfl zd_6_15_74 ?_
    refine zz_aload_n (x := 1031) rfl zd_6_15_76 ?_
    refine zz_getr (kd := 0) (z := 1033) zd_6_15_77 zf_Machine_19 zT_1031 rfl (zz_ltn hn rfl) (zz_G.eq G_S 1031 1 1033 rfl rfl) (by decide) 1033 rfl ?_
    refine zz_aload_n (x := 1031) rfl zd_6_15_80 ?_
    have g23 := zz_G.r G_S0 1031 10 0 511 rfl rfl
    refine zz_geti (z := S0 1031 10) zd_6_15_81 zf_Machine_119 zT_1031 rfl (zz_ltn hn rfl) (zz_rc F_S rfl rfl (fun h => h) rfl) ?_
    refine zz_iload_n (x := x2) rfl zd_6_15_84 ?_
    refine zz_aload_n (x := 1031) rfl zd_6_15_85 ?_
    have g24 := zz_G.r G_S0 1031 6 2 8 rfl rfl
    refine zz_geti (z := S0 1031 6) zd_6_15_86 zf_Machine_36 zT_1031 rfl (zz_ltn hn rfl) (zz_rc F_S rfl rfl (fun h => h) rfl) ?_
    refine zz_imul zd_6_15_89 ?_
    have m25 := zz_mulb (a := x2) (b := S0 1031 6) 62 8 496 (by omega) (by omega) (by decide)
    refine zz_iadd zd_6_15_90 ?_
    refine zz_iload (x := x6) rfl zd_6_15_91 ?_
    refine zz_iadd zd_6_15_93 ?_
    have g26 := zz_G.r G_S0 1033 ((((S0 1031 10) + (x2 * (S0 1031 6))) + x6).toNat) (-128) 127 rfl rfl
    refine zz_bald (z := S0 1033 ((((S0 1031 10) + (x2 * (S0 1031 6))) + x6).toNat)) zd_6_15_94 zT_1033 rfl (zz_ltn hn rfl) (by decide) (by omega) (zz_rc F_S (zz_nc1 rfl) rfl (fun h => h) rfl) ?_
    refine zz_aload_n (x := 1031) rfl zd_6_15_95 ?_
    refine zz_getr (kd := 0) (z := 1034) zd_6_15_96 zf_Machine_22 zT_1031 rfl (zz_ltn hn rfl) (zz_G.eq G_S 1031 2 1034 rfl rfl) (by decide) 1034 rfl ?_
    refine zz_aload_n (x := 1031) rfl zd_6_15_99 ?_
    have g27 := zz_G.r G_S0 1031 12 0 1023 rfl rfl
    refine zz_geti (z := S0 1031 12) zd_6_15_100 zf_Machine_125 zT_1031 rfl (zz_ltn hn rfl) (zz_rc F_S rfl rfl (fun h => h) rfl) ?_
    refine zz_iload (x := x6) rfl zd_6_15_103 ?_
    refine zz_aload_n (x := 1031) rfl zd_6_15_105 ?_
    refine zz_geti (z := S0 1031 6) zd_6_15_106 zf_Machine_36 zT_1031 rfl (zz_ltn hn rfl) (zz_rc F_S rfl rfl (fun h => h) rfl) ?_
    refine zz_imul zd_6_15_109 ?_
    have m28 := zz_mulb (a := x6) (b := S0 1031 6) 15 8 120 (by omega) (by omega) (by decide)
    refine zz_iadd zd_6_15_110 ?_
    refine zz_iload_n (x := x3) rfl zd_6_15_111 ?_
    refine zz_iadd zd_6_15_112 ?_
    have g29 := zz_G.r G_S0 1034 ((((S0 1031 12) + (x6 * (S0 1031 6))) + x3).toNat) (-128) 127 rfl rfl
    refine zz_bald (z := S0 1034 ((((S0 1031 12) + (x6 * (S0 1031 6))) + x3).toNat)) zd_6_15_113 zT_1034 rfl (zz_ltn hn rfl) (by decide) (by omega) (zz_rc F_S (zz_nc1 rfl) rfl (fun h => h) rfl) ?_
    refine zz_imul zd_6_15_114 ?_
    refine zz_nme (fun v30 ev30 => ?_)
    refine zz_iadd zd_6_15_115 ?_
    refine zz_nrm (fun v31 hv31 ev31 => ?_)
    refine zz_istore [some (.ref 1031), some (zi ((S0 1031 13) / 2)), some (zi x2), some (zi x3), some (zi x4), some (zi v31), some (zi x6)] zd_6_15_116 (by decide) rfl ?_
    refine zz_iinc [some (.ref 1031), some (zi ((S0 1031 13) / 2)), some (zi x2), some (zi x3), some (zi x4), some (zi v31), some (zi (x6 + 1))] zd_6_15_118 rfl rfl ?_
    refine zz_goto zd_6_15_121 ?_
    have g32 := zz_G.r G_S0 1031 13 0 31 rfl rfl
    have g33 := zz_G.r G_S0 1031 8 0 63 rfl rfl
    have g34 := zz_G.r G_S0 1031 9 0 31 rfl rfl
    refine zz_less (ls1 := [some (.ref 1031), some (zi ((S0 1031 13) / 2)), some (zi x2), some (zi x3), some (zi x4), some (zi v31), some (zi (x6 + 1))]) ⟨rfl, ⟨rfl, ⟨rfl, ⟨rfl, ⟨rfl, ⟨rfl, ⟨rfl, trivial⟩⟩⟩⟩⟩⟩⟩ ?_
    exact k68 x2 x3 x4 v31 (x6 + 1) S G_S F_S (by omega) (by omega) (by omega) (by omega) (by omega) (by omega) (by omega) (by omega) (by omega) (by omega) (by omega)
theorem zi_multiply_6_15 {g : mm_G} {l : Launch}  (S0 : zz_S) (n : Nat) (hn : zz_end ≤ n) (G_S0 : zz_G S0) (hl : zz_lc 5 (S0 1031 7) (S0 1031 8) (S0 1031 9) (S0 1031 10) (S0 1031 11) (S0 1031 12) (S0 1031 13) (S0 1031 6)) : ∀ N : Nat, (∀ (x2 : Int) (S : zz_S), zz_G S → zz_fr [] [1035] (fun _ _ => False) S0 S → (0 ≤ x2 ∧ x2 ≤ 63) → (51539607552 + (S0 1031 8 - x2).toNat) * 1208925819614629174706176 + 1208925819614629174706175 < N → zz_E g l zy_multiply_6_15 zr_multiply_6_15 (zz_QV n (zp_multiply_6_15  S0)) S n 9 [some (.ref 1031), some (zi ((S0 1031 13) / 2)), some (zi x2)] [] 0 0) ∧ (∀ (x2 : Int) (x3 : Int) (S : zz_S), zz_G S → zz_fr [] [1035] (fun _ _ => False) S0 S → (0 ≤ x2 ∧ x2 ≤ 62) → (0 ≤ x3 ∧ x3 ≤ 31) → (0 ≤ x2 ∧ x2 ≤ 63) → (x2 < S0 1031 8) → (51539607552 + (S0 1031 8 - x2).toNat) * 1208925819614629174706176 + (34359738368 + (S0 1031 9 - x3).toNat) * 1099511627776 + 1099511627775 < N → zz_E g l zy_multiply_6_15 zr_multiply_6_15 (zz_QV n (zp_multiply_6_15  S0)) S n 19 [some (.ref 1031), some (zi ((S0 1031 13) / 2)), some (zi x2), some (zi x3)] [] 0 0) ∧ (∀ (x2 : Int) (x3 : Int) (x4 : Int) (x5 : Int) (x6 : Int) (S : zz_S), zz_G S → zz_fr [] [1035] (fun _ _ => False) S0 S → (0 ≤ x2 ∧ x2 ≤ 62) → (0 ≤ x3 ∧ x3 ≤ 30) → (0 ≤ x4 ∧ x4 ≤ 255) → ((-2147483648) ≤ x5 ∧ x5 ≤ 2147483647) → (0 ≤ x6 ∧ x6 ≤ 15) → (0 ≤ x2 ∧ x2 ≤ 63) → (0 ≤ x3 ∧ x3 ≤ 31) → (x2 < S0 1031 8) → (x2 < S0 1031 8) → (x3 < S0 1031 9) → (51539607552 + (S0 1031 8 - x2).toNat) * 1208925819614629174706176 + (34359738368 + (S0 1031 9 - x3).toNat) * 1099511627776 + (17179869184 + (((S0 1031 13) / 2) - x6).toNat) < N → zz_E g l zy_multiply_6_15 zr_multiply_6_15 (zz_QV n (zp_multiply_6_15  S0)) S n 68 [some (.ref 1031), some (zi ((S0 1031 13) / 2)), some (zi x2), some (zi x3), some (zi x4), some (zi x5), some (zi x6)] [] 0 0) := by
  intro N
  induction N with
  | zero => exact ⟨fun x2 S _ _ _ h => absurd h (Nat.not_lt_zero _), fun x2 x3 S _ _ _ _ _ _ h => absurd h (Nat.not_lt_zero _), fun x2 x3 x4 x5 x6 S _ _ _ _ _ _ _ _ _ _ _ _ h => absurd h (Nat.not_lt_zero _)⟩
  | succ N ih =>
    exact ⟨fun x2 S a b j0 hR => zb_multiply_6_15_9  S0 n hn G_S0 hl x2 S a b j0 _ rfl (fun x2 x3 S a b j0 j1 j2 j3 h => ih.2.1 x2 x3 S a b j0 j1 j2 j3 (Nat.lt_of_lt_of_le h (Nat.le_of_lt_succ hR))),
      fun x2 x3 S a b j0 j1 j2 j3 hR => zb_multiply_6_15_19  S0 n hn G_S0 hl x2 x3 S a b j0 j1 j2 j3 _ rfl (fun x2 S a b j0 h => ih.1 x2 S a b j0 (Nat.lt_of_lt_of_le h (Nat.le_of_lt_succ hR))) (fun x2 x3 x4 x5 x6 S a b j0 j1 j2 j3 j4 j5 j6 j7 j8 j9 h => ih.2.2 x2 x3 x4 x5 x6 S a b j0 j1 j2 j3 j4 j5 j6 j7 j8 j9 (Nat.lt_of_lt_of_le h (Nat.le_of_lt_succ hR))),
      fun x2 x3 x4 x5 x6 S a b j0 j1 j2 j3 j4 j5 j6 j7 j8 j9 hR => zb_multiply_6_15_68  S0 n hn G_S0 hl x2 x3 x4 x5 x6 S a b j0 j1 j2 j3 j4 j5 j6 j7 j8 j9 _ rfl (fun x2 x3 S a b j0 j1 j2 j3 h => ih.2.1 x2 x3 S a b j0 j1 j2 j3 (Nat.lt_of_lt_of_le h (Nat.le_of_lt_succ hR))) (fun x2 x3 x4 x5 x6 S a b j0 j1 j2 j3 j4 j5 j6 j7 j8 j9 h => ih.2.2 x2 x3 x4 x5 x6 S a b j0 j1 j2 j3 j4 j5 j6 j7 j8 j9 (Nat.lt_of_lt_of_le h (Nat.le_of_lt_succ hR)))⟩
theorem zc_multiply_6_15 {g : mm_G} {l : Launch}  (S0 : zz_S) (n : Nat) (hn : zz_end ≤ n) (G_S0 : zz_G S0) (hl : zz_lc 5 (S0 1031 7) (S0 1031 8) (S0 1031 9) (S0 1031 10) (S0 1031 11) (S0 1031 12) (S0 1031 13) (S0 1031 6)) : mm_Met g l zy_multiply_6_15 zr_multiply_6_15 [.ref 1031] (zz_M S0 n) n (zz_QV n (zp_multiply_6_15  S0)) := by
  refine zz_enter (by decide) (Nat.le_of_ble_eq_true rfl) (zz_less (ls1 := [some (.ref 1031)]) ⟨rfl, trivial⟩ ?_)
  have F_S0 : zz_fr [] [1035] (fun _ _ => False) S0 S0 := zz_fr.refl
  have k9 : ∀ (x2 : Int) (S : zz_S), zz_G S → zz_fr [] [1035] (fun _ _ => False) S0 S → (0 ≤ x2 ∧ x2 ≤ 63) → zz_E g l zy_multiply_6_15 zr_multiply_6_15 (zz_QV n (zp_multiply_6_15  S0)) S n 9 [some (.ref 1031), some (zi ((S0 1031 13) / 2)), some (zi x2)] [] 0 0 := fun x2 S a b j0 => (zi_multiply_6_15 (g := g) (l := l)  S0 n hn G_S0 hl _).1 x2 S a b j0 (Nat.lt_succ_self _)
  refine zz_aload_n (x := 1031) rfl zd_6_15_0 ?_
  have g1 := zz_G.r G_S0 1031 13 0 31 rfl rfl
  refine zz_geti (z := S0 1031 13) zd_6_15_1 zf_Machine_128 zT_1031 rfl (zz_ltn hn rfl) rfl ?_
  refine zz_iconst zd_6_15_4 ?_
  refine zz_idiv (by omega) (by omega) zd_6_15_5 (fun v2 hv2 av2 bv2 cv2 => ?_)
  obtain rfl : v2 = (S0 1031 13) / 2 := by omega
  refine zz_istore_n [some (.ref 1031), some (zi ((S0 1031 13) / 2))] zd_6_15_6 (by decide) rfl ?_
  refine zz_iconst zd_6_15_7 ?_
  refine zz_istore_n [some (.ref 1031), some (zi ((S0 1031 13) / 2)), some (zi 0)] zd_6_15_8 (by decide) rfl ?_
  have g3 := zz_G.r G_S0 1031 8 0 63 rfl rfl
  refine zz_less (ls1 := [some (.ref 1031), some (zi ((S0 1031 13) / 2)), some (zi 0)]) ⟨rfl, ⟨rfl, ⟨rfl, trivial⟩⟩⟩ ?_
  exact k9 0 S0 G_S0 F_S0 (by omega)
theorem zk_Machine_98 : mm_Vl "TensorForge$Machine" 98 3 0 zy_multiply_6_15 := ⟨zyw_multiply_6_15, (R_Machine, F_Machine, 14), rfl, mm_tb_1 813 (by decide +kernel) rfl, mm_tb_1 815 (by decide +kernel) rfl, mm_tb_s 31 (by decide +kernel) rfl⟩
abbrev zy_combine_6_16 : mm_Y := (⟨"TensorForge$Machine", "combine", "()V"⟩, prog_6_method_16_code, 5, none)
theorem zyw_combine_6_16 : mm_Yw zy_combine_6_16 0 := ⟨mm_tb_1 820 (by decide +kernel) rfl, mm_tb_1 4 (by decide +kernel) rfl, ⟨by decide, by decide⟩, by decide +kernel⟩
theorem zm_Machine_135 : Cond.methodLink "TensorForge$Machine" 135 Lib.Math.max.name ∈ mm_tb ∧ Cond.static Lib.Math.max.name ∈ mm_tb ∧ Cond.initialized "java/lang/Math" ∈ mm_tb ∧ Cond.code Lib.Math.max.name Lib.Math.max.code 2 (some .int) ∈ mm_tb := ⟨mm_tb_1 821 (by decide +kernel) rfl, mm_tb_1 709 (by decide +kernel) rfl, mm_tb_1 25 (by decide +kernel) rfl, mm_tb_1 710 (by decide +kernel) rfl⟩
theorem zg_6_10_96 : zq_at zy_perform_6_10.2.1 96 167 ∧ zq_at zy_perform_6_10.2.1 97 0 ∧ zq_at zy_perform_6_10.2.1 98 24 ∧ zq_at zy_perform_6_10.2.1 99 42 ∧ zq_at zy_perform_6_10.2.1 100 182 ∧ zq_at zy_perform_6_10.2.1 101 0 ∧ zq_at zy_perform_6_10.2.1 102 101 := by decide +kernel
theorem zd_6_10_96 : zz_B zy_perform_6_10 96 Instr.goto 120 99 := ⟨24, zq_167 zg_6_10_96.1 zg_6_10_96.2.1 zg_6_10_96.2.2.1 (by decide), rfl, rfl⟩
theorem zd_6_10_99 : zz_D zy_perform_6_10 99 (.aload_n 0) 1 100 := ⟨zq_42 zg_6_10_96.2.2.2.1, rfl⟩
theorem zd_6_10_100 : zz_D zy_perform_6_10 100 (.invokevirtual 101) 3 103 := ⟨zq_182 zg_6_10_96.2.2.2.2.1 zg_6_10_96.2.2.2.2.2.1 zg_6_10_96.2.2.2.2.2.2 rfl, rfl⟩
theorem zg_6_16_0 : zq_at zy_combine_6_16.2.1 0 3 ∧ zq_at zy_combine_6_16.2.1 1 60 ∧ zq_at zy_combine_6_16.2.1 2 27 ∧ zq_at zy_combine_6_16.2.1 3 42 ∧ zq_at zy_combine_6_16.2.1 4 180 ∧ zq_at zy_combine_6_16.2.1 5 0 ∧ zq_at zy_combine_6_16.2.1 6 113 ∧ zq_at zy_combine_6_16.2.1 7 162 ∧ zq_at zy_combine_6_16.2.1 8 0 ∧ zq_at zy_combine_6_16.2.1 9 111 ∧ zq_at zy_combine_6_16.2.1 118 177 ∧ zq_at zy_combine_6_16.2.1 10 3 ∧ zq_at zy_combine_6_16.2.1 11 61 ∧ zq_at zy_combine_6_16.2.1 12 28 ∧ zq_at zy_combine_6_16.2.1 13 42 ∧ zq_at zy_combine_6_16.2.1 14 180 ∧ zq_at zy_combine_6_16.2.1 15 0 ∧ zq_at zy_combine_6_16.2.1 16 116 ∧ zq_at zy_combine_6_16.2.1 17 162 ∧ zq_at zy_combine_6_16.2.1 18 0 ∧ zq_at zy_combine_6_16.2.1 19 95 ∧ zq_at zy_combine_6_16.2.1 112 132 ∧ zq_at zy_combine_6_16.2.1 113 1 ∧ zq_at zy_combine_6_16.2.1 114 1 := by decide +kernel
theorem zd_6_16_0 : zz_D zy_combine_6_16 0 (.iconst 0) 1 1 := ⟨zq_3 zg_6_16_0.1, rfl⟩
theorem zd_6_16_1 : zz_D zy_combine_6_16 1 (.istore_n 1) 1 2 := ⟨zq_60 zg_6_16_0.2.1, rfl⟩
theorem zd_6_16_2 : zz_D zy_combine_6_16 2 (.iload_n 1) 1 3 := ⟨zq_27 zg_6_16_0.2.2.1, rfl⟩
theorem zd_6_16_3 : zz_D zy_combine_6_16 3 (.aload_n 0) 1 4 := ⟨zq_42 zg_6_16_0.2.2.2.1, rfl⟩
theorem zd_6_16_4 : zz_D zy_combine_6_16 4 (.getfield 113) 3 7 := ⟨zq_180 zg_6_16_0.2.2.2.2.1 zg_6_16_0.2.2.2.2.2.1 zg_6_16_0.2.2.2.2.2.2.1 rfl, rfl⟩
theorem zd_6_16_7 : zz_B zy_combine_6_16 7 (Instr.if_icmp .ge) 118 10 := ⟨111, zq_162 zg_6_16_0.2.2.2.2.2.2.2.1 zg_6_16_0.2.2.2.2.2.2.2.2.1 zg_6_16_0.2.2.2.2.2.2.2.2.2.1 (by decide), rfl, rfl⟩
theorem zd_6_16_118 : zz_D zy_combine_6_16 118 (.return_) 1 119 := ⟨zq_177 zg_6_16_0.2.2.2.2.2.2.2.2.2.2.1, rfl⟩
theorem zd_6_16_10 : zz_D zy_combine_6_16 10 (.iconst 0) 1 11 := ⟨zq_3 zg_6_16_0.2.2.2.2.2.2.2.2.2.2.2.1, rfl⟩
theorem zd_6_16_11 : zz_D zy_combine_6_16 11 (.istore_n 2) 1 12 := ⟨zq_61 zg_6_16_0.2.2.2.2.2.2.2.2.2.2.2.2.1, rfl⟩
theorem zd_6_16_12 : zz_D zy_combine_6_16 12 (.iload_n 2) 1 13 := ⟨zq_28 zg_6_16_0.2.2.2.2.2.2.2.2.2.2.2.2.2.1, rfl⟩
theorem zd_6_16_13 : zz_D zy_combine_6_16 13 (.aload_n 0) 1 14 := ⟨zq_42 zg_6_16_0.2.2.2.2.2.2.2.2.2.2.2.2.2.2.1, rfl⟩
theorem zd_6_16_14 : zz_D zy_combine_6_16 14 (.getfield 116) 3 17 := ⟨zq_180 zg_6_16_0.2.2.2.2.2.2.2.2.2.2.2.2.2.2.2.1 zg_6_16_0.2.2.2.2.2.2.2.2.2.2.2.2.2.2.2.2.1 zg_6_16_0.2.2.2.2.2.2.2.2.2.2.2.2.2.2.2.2.2.1 rfl, rfl⟩
theorem zd_6_16_17 : zz_B zy_combine_6_16 17 (Instr.if_icmp .ge) 112 20 := ⟨95, zq_162 zg_6_16_0.2.2.2.2.2.2.2.2.2.2.2.2.2.2.2.2.2.2.1 zg_6_16_0.2.2.2.2.2.2.2.2.2.2.2.2.2.2.2.2.2.2.2.1 zg_6_16_0.2.2.2.2.2.2.2.2.2.2.2.2.2.2.2.2.2.2.2.2.1 (by decide), rfl, rfl⟩
theorem zd_6_16_112 : zz_D zy_combine_6_16 112 (.iinc 1 1) 3 115 := ⟨zq_132 zg_6_16_0.2.2.2.2.2.2.2.2.2.2.2.2.2.2.2.2.2.2.2.2.2.1 zg_6_16_0.2.2.2.2.2.2.2.2.2.2.2.2.2.2.2.2.2.2.2.2.2.2.1 zg_6_16_0.2.2.2.2.2.2.2.2.2.2.2.2.2.2.2.2.2.2.2.2.2.2.2 (by decide), rfl⟩
theorem zg_6_16_115 : zq_at zy_combine_6_16.2.1 115 167 ∧ zq_at zy_combine_6_16.2.1 116 255 ∧ zq_at zy_combine_6_16.2.1 117 143 ∧ zq_at zy_combine_6_16.2.1 20 42 ∧ zq_at zy_combine_6_16.2.1 21 180 ∧ zq_at zy_combine_6_16.2.1 22 0 ∧ zq_at zy_combine_6_16.2.1 23 122 ∧ zq_at zy_combine_6_16.2.1 24 27 ∧ zq_at zy_combine_6_16.2.1 25 42 ∧ zq_at zy_combine_6_16.2.1 26 180 ∧ zq_at zy_combine_6_16.2.1 27 0 ∧ zq_at zy_combine_6_16.2.1 28 36 ∧ zq_at zy_combine_6_16.2.1 29 104 ∧ zq_at zy_combine_6_16.2.1 30 96 ∧ zq_at zy_combine_6_16.2.1 31 28 ∧ zq_at zy_combine_6_16.2.1 32 96 ∧ zq_at zy_combine_6_16.2.1 33 62 ∧ zq_at zy_combine_6_16.2.1 34 42 ∧ zq_at zy_combine_6_16.2.1 35 180 ∧ zq_at zy_combine_6_16.2.1 36 0 ∧ zq_at zy_combine_6_16.2.1 37 19 ∧ zq_at zy_combine_6_16.2.1 38 42 := by decide +kernel
theorem zd_6_16_115 : zz_B zy_combine_6_16 115 Instr.goto 2 118 := ⟨(-113), zq_167 zg_6_16_115.1 zg_6_16_115.2.1 zg_6_16_115.2.2.1 (by decide), rfl, rfl⟩
theorem zd_6_16_20 : zz_D zy_combine_6_16 20 (.aload_n 0) 1 21 := ⟨zq_42 zg_6_16_115.2.2.2.1, rfl⟩
theorem zd_6_16_21 : zz_D zy_combine_6_16 21 (.getfield 122) 3 24 := ⟨zq_180 zg_6_16_115.2.2.2.2.1 zg_6_16_115.2.2.2.2.2.1 zg_6_16_115.2.2.2.2.2.2.1 rfl, rfl⟩
theorem zd_6_16_24 : zz_D zy_combine_6_16 24 (.iload_n 1) 1 25 := ⟨zq_27 zg_6_16_115.2.2.2.2.2.2.2.1, rfl⟩
theorem zd_6_16_25 : zz_D zy_combine_6_16 25 (.aload_n 0) 1 26 := ⟨zq_42 zg_6_16_115.2.2.2.2.2.2.2.2.1, rfl⟩
theorem zd_6_16_26 : zz_D zy_combine_6_16 26 (.getfield 36) 3 29 := ⟨zq_180 zg_6_16_115.2.2.2.2.2.2.2.2.2.1 zg_6_16_115.2.2.2.2.2.2.2.2.2.2.1 zg_6_16_115.2.2.2.2.2.2.2.2.2.2.2.1 rfl, rfl⟩
theorem zd_6_16_29 : zz_D zy_combine_6_16 29 (.imul) 1 30 := ⟨zq_104 zg_6_16_115.2.2.2.2.2.2.2.2.2.2.2.2.1, rfl⟩
theorem zd_6_16_30 : zz_D zy_combine_6_16 30 (.iadd) 1 31 := ⟨zq_96 zg_6_16_115.2.2.2.2.2.2.2.2.2.2.2.2.2.1, rfl⟩
theorem zd_6_16_31 : zz_D zy_combine_6_16 31 (.iload_n 2) 1 32 := ⟨zq_28 zg_6_16_115.2.2.2.2.2.2.2.2.2.2.2.2.2.2.1, rfl⟩
theorem zd_6_16_32 : zz_D zy_combine_6_16 32 (.iadd) 1 33 := ⟨zq_96 zg_6_16_115.2.2.2.2.2.2.2.2.2.2.2.2.2.2.2.1, rfl⟩
theorem zd_6_16_33 : zz_D zy_combine_6_16 33 (.istore_n 3) 1 34 := ⟨zq_62 zg_6_16_115.2.2.2.2.2.2.2.2.2.2.2.2.2.2.2.2.1, rfl⟩
theorem zd_6_16_34 : zz_D zy_combine_6_16 34 (.aload_n 0) 1 35 := ⟨zq_42 zg_6_16_115.2.2.2.2.2.2.2.2.2.2.2.2.2.2.2.2.2.1, rfl⟩
theorem zd_6_16_35 : zz_D zy_combine_6_16 35 (.getfield 19) 3 38 := ⟨zq_180 zg_6_16_115.2.2.2.2.2.2.2.2.2.2.2.2.2.2.2.2.2.2.1 zg_6_16_115.2.2.2.2.2.2.2.2.2.2.2.2.2.2.2.2.2.2.2.1 zg_6_16_115.2.2.2.2.2.2.2.2.2.2.2.2.2.2.2.2.2.2.2.2.1 rfl, rfl⟩
theorem zd_6_16_38 : zz_D zy_combine_6_16 38 (.aload_n 0) 1 39 := ⟨zq_42 zg_6_16_115.2.2.2.2.2.2.2.2.2.2.2.2.2.2.2.2.2.2.2.2.2, rfl⟩
theorem zg_6_16_39 : zq_at zy_combine_6_16.2.1 39 180 ∧ zq_at zy_combine_6_16.2.1 40 0 ∧ zq_at zy_combine_6_16.2.1 41 119 ∧ zq_at zy_combine_6_16.2.1 42 27 ∧ zq_at zy_combine_6_16.2.1 43 42 ∧ zq_at zy_combine_6_16.2.1 44 180 ∧ zq_at zy_combine_6_16.2.1 45 0 ∧ zq_at zy_combine_6_16.2.1 46 36 ∧ zq_at zy_combine_6_16.2.1 47 104 ∧ zq_at zy_combine_6_16.2.1 48 96 ∧ zq_at zy_combine_6_16.2.1 49 28 ∧ zq_at zy_combine_6_16.2.1 50 96 ∧ zq_at zy_combine_6_16.2.1 51 51 ∧ zq_at zy_combine_6_16.2.1 52 54 ∧ zq_at zy_combine_6_16.2.1 53 4 ∧ zq_at zy_combine_6_16.2.1 54 42 ∧ zq_at zy_combine_6_16.2.1 55 180 ∧ zq_at zy_combine_6_16.2.1 56 0 ∧ zq_at zy_combine_6_16.2.1 57 128 ∧ zq_at zy_combine_6_16.2.1 58 4 ∧ zq_at zy_combine_6_16.2.1 59 160 ∧ zq_at zy_combine_6_16.2.1 60 0 ∧ zq_at zy_combine_6_16.2.1 61 17 ∧ zq_at zy_combine_6_16.2.1 76 42 := by decide +kernel
theorem zd_6_16_39 : zz_D zy_combine_6_16 39 (.getfield 119) 3 42 := ⟨zq_180 zg_6_16_39.1 zg_6_16_39.2.1 zg_6_16_39.2.2.1 rfl, rfl⟩
theorem zd_6_16_42 : zz_D zy_combine_6_16 42 (.iload_n 1) 1 43 := ⟨zq_27 zg_6_16_39.2.2.2.1, rfl⟩
theorem zd_6_16_43 : zz_D zy_combine_6_16 43 (.aload_n 0) 1 44 := ⟨zq_42 zg_6_16_39.2.2.2.2.1, rfl⟩
theorem zd_6_16_44 : zz_D zy_combine_6_16 44 (.getfield 36) 3 47 := ⟨zq_180 zg_6_16_39.2.2.2.2.2.1 zg_6_16_39.2.2.2.2.2.2.1 zg_6_16_39.2.2.2.2.2.2.2.1 rfl, rfl⟩
theorem zd_6_16_47 : zz_D zy_combine_6_16 47 (.imul) 1 48 := ⟨zq_104 zg_6_16_39.2.2.2.2.2.2.2.2.1, rfl⟩
theorem zd_6_16_48 : zz_D zy_combine_6_16 48 (.iadd) 1 49 := ⟨zq_96 zg_6_16_39.2.2.2.2.2.2.2.2.2.1, rfl⟩
theorem zd_6_16_49 : zz_D zy_combine_6_16 49 (.iload_n 2) 1 50 := ⟨zq_28 zg_6_16_39.2.2.2.2.2.2.2.2.2.2.1, rfl⟩
theorem zd_6_16_50 : zz_D zy_combine_6_16 50 (.iadd) 1 51 := ⟨zq_96 zg_6_16_39.2.2.2.2.2.2.2.2.2.2.2.1, rfl⟩
theorem zd_6_16_51 : zz_D zy_combine_6_16 51 (.baload) 1 52 := ⟨zq_51 zg_6_16_39.2.2.2.2.2.2.2.2.2.2.2.2.1, rfl⟩
theorem zd_6_16_52 : zz_D zy_combine_6_16 52 (.istore 4) 2 54 := ⟨zq_54 zg_6_16_39.2.2.2.2.2.2.2.2.2.2.2.2.2.1 zg_6_16_39.2.2.2.2.2.2.2.2.2.2.2.2.2.2.1, rfl⟩
theorem zd_6_16_54 : zz_D zy_combine_6_16 54 (.aload_n 0) 1 55 := ⟨zq_42 zg_6_16_39.2.2.2.2.2.2.2.2.2.2.2.2.2.2.2.1, rfl⟩
theorem zd_6_16_55 : zz_D zy_combine_6_16 55 (.getfield 128) 3 58 := ⟨zq_180 zg_6_16_39.2.2.2.2.2.2.2.2.2.2.2.2.2.2.2.2.1 zg_6_16_39.2.2.2.2.2.2.2.2.2.2.2.2.2.2.2.2.2.1 zg_6_16_39.2.2.2.2.2.2.2.2.2.2.2.2.2.2.2.2.2.2.1 rfl, rfl⟩
theorem zd_6_16_58 : zz_D zy_combine_6_16 58 (.iconst 1) 1 59 := ⟨zq_4 zg_6_16_39.2.2.2.2.2.2.2.2.2.2.2.2.2.2.2.2.2.2.2.1, rfl⟩
theorem zd_6_16_59 : zz_B zy_combine_6_16 59 (Instr.if_icmp .ne) 76 62 := ⟨17, zq_160 zg_6_16_39.2.2.2.2.2.2.2.2.2.2.2.2.2.2.2.2.2.2.2.2.1 zg_6_16_39.2.2.2.2.2.2.2.2.2.2.2.2.2.2.2.2.2.2.2.2.2.1 zg_6_16_39.2.2.2.2.2.2.2.2.2.2.2.2.2.2.2.2.2.2.2.2.2.2.1 (by decide), rfl, rfl⟩
theorem zd_6_16_76 : zz_D zy_combine_6_16 76 (.aload_n 0) 1 77 := ⟨zq_42 zg_6_16_39.2.2.2.2.2.2.2.2.2.2.2.2.2.2.2.2.2.2.2.2.2.2.2, rfl⟩
theorem zg_6_16_77 : zq_at zy_combine_6_16.2.1 77 180 ∧ zq_at zy_combine_6_16.2.1 78 0 ∧ zq_at zy_combine_6_16.2.1 79 25 ∧ zq_at zy_combine_6_16.2.1 80 29 ∧ zq_at zy_combine_6_16.2.1 81 42 ∧ zq_at zy_combine_6_16.2.1 82 180 ∧ zq_at zy_combine_6_16.2.1 83 0 ∧ zq_at zy_combine_6_16.2.1 84 128 ∧ zq_at zy_combine_6_16.2.1 85 5 ∧ zq_at zy_combine_6_16.2.1 86 160 ∧ zq_at zy_combine_6_16.2.1 87 0 ∧ zq_at zy_combine_6_16.2.1 88 17 ∧ zq_at zy_combine_6_16.2.1 103 21 ∧ zq_at zy_combine_6_16.2.1 104 4 ∧ zq_at zy_combine_6_16.2.1 105 79 ∧ zq_at zy_combine_6_16.2.1 106 132 ∧ zq_at zy_combine_6_16.2.1 107 2 ∧ zq_at zy_combine_6_16.2.1 108 1 ∧ zq_at zy_combine_6_16.2.1 109 167 ∧ zq_at zy_combine_6_16.2.1 110 255 ∧ zq_at zy_combine_6_16.2.1 111 159 ∧ zq_at zy_combine_6_16.2.1 89 42 := by decide +kernel
theorem zd_6_16_77 : zz_D zy_combine_6_16 77 (.getfield 25) 3 80 := ⟨zq_180 zg_6_16_77.1 zg_6_16_77.2.1 zg_6_16_77.2.2.1 rfl, rfl⟩
theorem zd_6_16_80 : zz_D zy_combine_6_16 80 (.iload_n 3) 1 81 := ⟨zq_29 zg_6_16_77.2.2.2.1, rfl⟩
theorem zd_6_16_81 : zz_D zy_combine_6_16 81 (.aload_n 0) 1 82 := ⟨zq_42 zg_6_16_77.2.2.2.2.1, rfl⟩
theorem zd_6_16_82 : zz_D zy_combine_6_16 82 (.getfield 128) 3 85 := ⟨zq_180 zg_6_16_77.2.2.2.2.2.1 zg_6_16_77.2.2.2.2.2.2.1 zg_6_16_77.2.2.2.2.2.2.2.1 rfl, rfl⟩
theorem zd_6_16_85 : zz_D zy_combine_6_16 85 (.iconst 2) 1 86 := ⟨zq_5 zg_6_16_77.2.2.2.2.2.2.2.2.1, rfl⟩
theorem zd_6_16_86 : zz_B zy_combine_6_16 86 (Instr.if_icmp .ne) 103 89 := ⟨17, zq_160 zg_6_16_77.2.2.2.2.2.2.2.2.2.1 zg_6_16_77.2.2.2.2.2.2.2.2.2.2.1 zg_6_16_77.2.2.2.2.2.2.2.2.2.2.2.1 (by decide), rfl, rfl⟩
theorem zd_6_16_103 : zz_D zy_combine_6_16 103 (.iload 4) 2 105 := ⟨zq_21 zg_6_16_77.2.2.2.2.2.2.2.2.2.2.2.2.1 zg_6_16_77.2.2.2.2.2.2.2.2.2.2.2.2.2.1, rfl⟩
theorem zd_6_16_105 : zz_D zy_combine_6_16 105 (.iastore) 1 106 := ⟨zq_79 zg_6_16_77.2.2.2.2.2.2.2.2.2.2.2.2.2.2.1, rfl⟩
theorem zd_6_16_106 : zz_D zy_combine_6_16 106 (.iinc 2 1) 3 109 := ⟨zq_132 zg_6_16_77.2.2.2.2.2.2.2.2.2.2.2.2.2.2.2.1 zg_6_16_77.2.2.2.2.2.2.2.2.2.2.2.2.2.2.2.2.1 zg_6_16_77.2.2.2.2.2.2.2.2.2.2.2.2.2.2.2.2.2.1 (by decide), rfl⟩
theorem zd_6_16_109 : zz_B zy_combine_6_16 109 Instr.goto 12 112 := ⟨(-97), zq_167 zg_6_16_77.2.2.2.2.2.2.2.2.2.2.2.2.2.2.2.2.2.2.1 zg_6_16_77.2.2.2.2.2.2.2.2.2.2.2.2.2.2.2.2.2.2.2.1 zg_6_16_77.2.2.2.2.2.2.2.2.2.2.2.2.2.2.2.2.2.2.2.2.1 (by decide), rfl, rfl⟩
theorem zd_6_16_89 : zz_D zy_combine_6_16 89 (.aload_n 0) 1 90 := ⟨zq_42 zg_6_16_77.2.2.2.2.2.2.2.2.2.2.2.2.2.2.2.2.2.2.2.2.2, rfl⟩
theorem zg_6_16_90 : zq_at zy_combine_6_16.2.1 90 180 ∧ zq_at zy_combine_6_16.2.1 91 0 ∧ zq_at zy_combine_6_16.2.1 92 25 ∧ zq_at zy_combine_6_16.2.1 93 29 ∧ zq_at zy_combine_6_16.2.1 94 46 ∧ zq_at zy_combine_6_16.2.1 95 21 ∧ zq_at zy_combine_6_16.2.1 96 4 ∧ zq_at zy_combine_6_16.2.1 97 184 ∧ zq_at zy_combine_6_16.2.1 98 0 ∧ zq_at zy_combine_6_16.2.1 99 135 ∧ zq_at zy_combine_6_16.2.1 100 167 ∧ zq_at zy_combine_6_16.2.1 101 0 ∧ zq_at zy_combine_6_16.2.1 102 5 ∧ zq_at zy_combine_6_16.2.1 62 42 ∧ zq_at zy_combine_6_16.2.1 63 180 ∧ zq_at zy_combine_6_16.2.1 64 0 ∧ zq_at zy_combine_6_16.2.1 65 25 ∧ zq_at zy_combine_6_16.2.1 66 29 ∧ zq_at zy_combine_6_16.2.1 67 92 ∧ zq_at zy_combine_6_16.2.1 68 46 ∧ zq_at zy_combine_6_16.2.1 69 21 ∧ zq_at zy_combine_6_16.2.1 70 4 ∧ zq_at zy_combine_6_16.2.1 71 96 ∧ zq_at zy_combine_6_16.2.1 72 79 := by decide +kernel
theorem zd_6_16_90 : zz_D zy_combine_6_16 90 (.getfield 25) 3 93 := ⟨zq_180 zg_6_16_90.1 zg_6_16_90.2.1 zg_6_16_90.2.2.1 rfl, rfl⟩
theorem zd_6_16_93 : zz_D zy_combine_6_16 93 (.iload_n 3) 1 94 := ⟨zq_29 zg_6_16_90.2.2.2.1, rfl⟩
theorem zd_6_16_94 : zz_D zy_combine_6_16 94 (.iaload) 1 95 := ⟨zq_46 zg_6_16_90.2.2.2.2.1, rfl⟩
theorem zd_6_16_95 : zz_D zy_combine_6_16 95 (.iload 4) 2 97 := ⟨zq_21 zg_6_16_90.2.2.2.2.2.1 zg_6_16_90.2.2.2.2.2.2.1, rfl⟩
theorem zd_6_16_97 : zz_D zy_combine_6_16 97 (.invokestatic 135) 3 100 := ⟨zq_184 zg_6_16_90.2.2.2.2.2.2.2.1 zg_6_16_90.2.2.2.2.2.2.2.2.1 zg_6_16_90.2.2.2.2.2.2.2.2.2.1 rfl, rfl⟩
theorem zd_6_16_100 : zz_B zy_combine_6_16 100 Instr.goto 105 103 := ⟨5, zq_167 zg_6_16_90.2.2.2.2.2.2.2.2.2.2.1 zg_6_16_90.2.2.2.2.2.2.2.2.2.2.2.1 zg_6_16_90.2.2.2.2.2.2.2.2.2.2.2.2.1 (by decide), rfl, rfl⟩
theorem zd_6_16_62 : zz_D zy_combine_6_16 62 (.aload_n 0) 1 63 := ⟨zq_42 zg_6_16_90.2.2.2.2.2.2.2.2.2.2.2.2.2.1, rfl⟩
theorem zd_6_16_63 : zz_D zy_combine_6_16 63 (.getfield 25) 3 66 := ⟨zq_180 zg_6_16_90.2.2.2.2.2.2.2.2.2.2.2.2.2.2.1 zg_6_16_90.2.2.2.2.2.2.2.2.2.2.2.2.2.2.2.1 zg_6_16_90.2.2.2.2.2.2.2.2.2.2.2.2.2.2.2.2.1 rfl, rfl⟩
theorem zd_6_16_66 : zz_D zy_combine_6_16 66 (.iload_n 3) 1 67 := ⟨zq_29 zg_6_16_90.2.2.2.2.2.2.2.2.2.2.2.2.2.2.2.2.2.1, rfl⟩
theorem zd_6_16_67 : zz_D zy_combine_6_16 67 (.dup2) 1 68 := ⟨zq_92 zg_6_16_90.2.2.2.2.2.2.2.2.2.2.2.2.2.2.2.2.2.2.1, rfl⟩
theorem zd_6_16_68 : zz_D zy_combine_6_16 68 (.iaload) 1 69 := ⟨zq_46 zg_6_16_90.2.2.2.2.2.2.2.2.2.2.2.2.2.2.2.2.2.2.2.1, rfl⟩
theorem zd_6_16_69 : zz_D zy_combine_6_16 69 (.iload 4) 2 71 := ⟨zq_21 zg_6_16_90.2.2.2.2.2.2.2.2.2.2.2.2.2.2.2.2.2.2.2.2.1 zg_6_16_90.2.2.2.2.2.2.2.2.2.2.2.2.2.2.2.2.2.2.2.2.2.1, rfl⟩
theorem zd_6_16_71 : zz_D zy_combine_6_16 71 (.iadd) 1 72 := ⟨zq_96 zg_6_16_90.2.2.2.2.2.2.2.2.2.2.2.2.2.2.2.2.2.2.2.2.2.2.1, rfl⟩
theorem zd_6_16_72 : zz_D zy_combine_6_16 72 (.iastore) 1 73 := ⟨zq_79 zg_6_16_90.2.2.2.2.2.2.2.2.2.2.2.2.2.2.2.2.2.2.2.2.2.2.2, rfl⟩
theorem zg_6_16_73 : zq_at zy_combine_6_16.2.1 73 167 ∧ zq_at zy_combine_6_16.2.1 74 0 ∧ zq_at zy_combine_6_16.2.1 75 33 := by decide +kernel
theorem zd_6_16_73 : zz_B zy_combine_6_16 73 Instr.goto 106 76 := ⟨33, zq_167 zg_6_16_73.1 zg_6_16_73.2.1 zg_6_16_73.2.2 (by decide), rfl, rfl⟩

-- TensorForgeModel group (IIIIIZ)V
abbrev zr_group_14_83 : Room := { frames := 5, cells := 0, slots := 0, locals := 87 }
def zp_group_14_83 (p0 : Int) (p1 : Int) (p2 : Int) (p3 : Int) (p4 : Int) (p5 : Int) (S0 : zz_S) : zz_S → Prop := fun S => zz_G S ∧ zz_fr [(1079, 10), (1079, 57), (1079, 60)] [1086, 1087] (fun _ _ => False) S0 S ∧ (S0 1079 10 ≤ S 1079 10 ∧ S 1079 10 ≤ S0 1079 10 + 5)
theorem zc_group_14_83 {g : mm_G} {l : Launch} (p0 : Int) (p1 : Int) (p2 : Int) (p3 : Int) (p4 : Int) (p5 : Int) (S0 : zz_S) (n : Nat) (hn : zz_end ≤ n) (G_S0 : zz_G S0) (hp0 : 0 ≤ p0 ∧ p0 ≤ 9) (hp1 : (-2147483648) ≤ p1 ∧ p1 ≤ 2147483647) (hp2 : (-2147483648) ≤ p2 ∧ p2 ≤ 2147483647) (hp3 : (-2147483648) ≤ p3 ∧ p3 ≤ 2147483647) (hp4 : (-2147483648) ≤ p4 ∧ p4 ≤ 2147483647) (hp5 : 0 ≤ p5 ∧ p5 ≤ 1) (hq : S0 1079 10 ≤ 900000) : mm_Met g l zy_group_14_83 zr_group_14_83 [.ref 1079, zi p0, zi p1, zi p2, zi p3, zi p4, zi p5] (zz_M S0 n) n (zz_QV n (zp_group_14_83 p0 p1 p2 p3 p4 p5 S0)) := by
  refine zz_enter (by decide) (Nat.le_of_ble_eq_true rfl) (zz_less (ls1 := [some (.ref 1079), some (zi p0), some (zi p1), some (zi p2), some (zi p3), some (zi p4), some (zi p5)]) ⟨rfl, ⟨rfl, ⟨rfl, ⟨rfl, ⟨rfl, ⟨rfl, ⟨rfl, trivial⟩⟩⟩⟩⟩⟩⟩ ?_)
  have F_S0 : zz_fr [(1079, 10), (1079, 57), (1079, 60)] [1086, 1087] (fun _ _ => False) S0 S0 := zz_fr.refl
  refine zz_aload_n (x := 1079) rfl zd_14_83_0 ?_
  refine zz_iconst zd_14_83_1 ?_
  refine zz_puti zd_14_83_2 zf_Md_456 zT_1079 rfl (zz_ltn hn rfl) (fun S1 qS1 => ?_)
  have G_S1 := zz_G.put G_S0 qS1 (-2147483648) 2147483647 rfl (by omega)
  have F_S1 := zz_fr.puts F_S0 qS1 rfl
  refine zz_aload_n (x := 1079) rfl zd_14_83_5 ?_
  refine zz_iconst zd_14_83_6 ?_
  refine zz_puti zd_14_83_7 zf_Md_453 zT_1079 rfl (zz_ltn hn rfl) (fun S2 qS2 => ?_)
  have G_S2 := zz_G.put G_S1 qS2 (-2147483648) 2147483647 rfl (by omega)
  have F_S2 := zz_fr.puts F_S1 qS2 rfl
  refine zz_aload_n (x := 1079) rfl zd_14_83_10 ?_
  refine zz_iload_n (x := p0) rfl zd_14_83_11 ?_
  refine zz_iload_n (x := p1) rfl zd_14_83_12 ?_
  refine zz_iload_n (x := p2) rfl zd_14_83_13 ?_
  refine zz_iload (x := p3) rfl zd_14_83_14 ?_
  refine zz_iload (x := p4) rfl zd_14_83_16 ?_
  refine zz_iload (x := p5) rfl zd_14_83_18 ?_
  refine zz_iconst zd_14_83_20 ?_
  have g3 := zz_G.r G_S0 1079 10 0 1000000 rfl rfl
  have e4 : S2 1079 10 = S0 1079 10 := (zz_ro qS2 (fun h => absurd h.2 (by decide)) (zz_ro qS1 (fun h => absurd h.2 (by decide)) rfl))
  refine zz_callVV [zi p0, zi p1, zi p2, zi p3, zi p4, zi p5, zi 1] zd_14_83_21 zk_Md_462 zT_1079 (zz_ltn hn rfl) rfl rfl ⟨Nat.le_of_ble_eq_true rfl, Nat.le_of_ble_eq_true rfl⟩ ⟨rfl, rfl⟩ (Nat.zero_le _) (Nat.zero_le _) (zc_groupLoads_14_84 p0 p1 p2 p3 p4 p5 1 S2 n hn G_S2 (by omega) (by omega) (by omega) (by omega) (by omega) (by omega) (by omega) (by omega)) (fun S5 hP => ?_)
  obtain ⟨G_S5, fS5, o7, o8⟩ := hP
  have F_S5 := zz_fr.trans F_S2 fS5 rfl zz_nv
  refine zz_aload_n (x := 1079) rfl zd_14_83_24 ?_
  refine zz_aload_n (x := 1079) rfl zd_14_83_25 ?_
  have g9 := zz_G.r G_S5 1079 57 (-2147483648) 2147483647 rfl rfl
  refine zz_geti (z := S5 1079 57) zd_14_83_26 zf_Md_453 zT_1079 rfl (zz_ltn hn rfl) rfl ?_
  refine zz_puti zd_14_83_29 zf_Md_456 zT_1079 rfl (zz_ltn hn rfl) (fun S10 qS10 => ?_)
  have G_S10 := zz_G.put G_S5 qS10 (-2147483648) 2147483647 rfl (by omega)
  have F_S10 := zz_fr.puts F_S5 qS10 rfl
  refine zz_aload_n (x := 1079) rfl zd_14_83_32 ?_
  refine zz_iconst zd_14_83_33 ?_
  refine zz_puti zd_14_83_34 zf_Md_453 zT_1079 rfl (zz_ltn hn rfl) (fun S11 qS11 => ?_)
  have G_S11 := zz_G.put G_S10 qS11 (-2147483648) 2147483647 rfl (by omega)
  have F_S11 := zz_fr.puts F_S10 qS11 rfl
  refine zz_aload_n (x := 1079) rfl zd_14_83_37 ?_
  refine zz_iload_n (x := p0) rfl zd_14_83_38 ?_
  refine zz_iload_n (x := p1) rfl zd_14_83_39 ?_
  refine zz_iload_n (x := p2) rfl zd_14_83_40 ?_
  refine zz_iload (x := p3) rfl zd_14_83_41 ?_
  refine zz_iload (x := p4) rfl zd_14_83_43 ?_
  refine zz_iload (x := p5) rfl zd_14_83_45 ?_
  refine zz_iconst zd_14_83_47 ?_
  have g12 := zz_G.r G_S5 1079 10 0 1000000 rfl rfl
  have e13 : S11 1079 10 = S5 1079 10 := (zz_ro qS11 (fun h => absurd h.2 (by decide)) (zz_ro qS10 (fun h => absurd h.2 (by decide)) rfl))
  refine zz_callVV [zi p0, zi p1, zi p2, zi p3, zi p4, zi p5, zi 0] zd_14_83_48 zk_Md_462 zT_1079 (zz_ltn hn rfl) rfl rfl ⟨Nat.le_of_ble_eq_true rfl, Nat.le_of_ble_eq_true rfl⟩ ⟨rfl, rfl⟩ (Nat.zero_le _) (Nat.zero_le _) (zc_groupLoads_14_84 p0 p1 p2 p3 p4 p5 0 S11 n hn G_S11 (by omega) (by omega) (by omega) (by omega) (by omega) (by omega) (by omega) (by omega)) (fun S14 hP => ?_)
  obtain ⟨G_S14, fS14, o16, o17⟩ := hP
  have F_S14 := zz_fr.trans F_S11 fS14 rfl zz_nv
  have g18 := zz_G.r G_S14 1079 10 0 1000000 rfl rfl
  exact zz_vret zd_14_83_51 rfl (Nat.zero_le _) (Nat.zero_le _) ⟨_, rfl, G_S14, F_S14, by omega⟩
abbrev zy_least_14_85 : mm_Y := (⟨"TensorForgeModel", "least", "(II)I"⟩, prog_14_method_85_code, 2, (some .int))
theorem zyw_least_14_85 : mm_Yw zy_least_14_85 2 := ⟨mm_tb_1 2143 (by decide +kernel) rfl, mm_tb_1 12 (by decide +kernel) rfl, ⟨by decide, by decide⟩, by decide +kernel⟩
theorem zd_14_85_0 : zz_D zy_least_14_85 0 (.iload_n 0) 1 1 := ⟨by decide +kernel, rfl⟩
theorem zd_14_85_1 : zz_D zy_least_14_85 1 (.iload_n 1) 1 2 := ⟨by decide +kernel, rfl⟩
theorem zd_14_85_2 : zz_B zy_least_14_85 2 (Instr.if_icmp .ge) 9 5 := ⟨7, by decide +kernel, rfl, rfl⟩
theorem zd_14_85_9 : zz_D zy_least_14_85 9 (.iload_n 1) 1 10 := ⟨by decide +kernel, rfl⟩
theorem zd_14_85_10 : zz_D zy_least_14_85 10 (.ireturn) 1 11 := ⟨by decide +kernel, rfl⟩
theorem zd_14_85_5 : zz_D zy_least_14_85 5 (.iload_n 0) 1 6 := ⟨by decide +kernel, rfl⟩
theorem zd_14_85_6 : zz_B zy_least_14_85 6 Instr.goto 10 9 := ⟨4, by decide +kernel, rfl, rfl⟩
-- TensorForgeModel least (II)I
abbrev zr_least_14_85 : Room := { frames := 0, cells := 0, slots := 0, locals := 0 }
def zp_least_14_85 (p0 : Int) (p1 : Int) (S0 : zz_S) : Int → zz_S → Prop := fun r S => S0 = S ∧ ((-2147483648) ≤ r ∧ r ≤ 2147483647) ∧ (r ≤ p0 ∧ r ≤ p1 ∧ (r = p0 ∨ r = p1))
theorem zc_least_14_85 {g : mm_G} {l : Launch} (p0 : Int) (p1 : Int) (S0 : zz_S) (n : Nat) (hn : zz_end ≤ n) (G_S0 : zz_G S0) (hp0 : (-2147483648) ≤ p0 ∧ p0 ≤ 2147483647) (hp1 : (-2147483648) ≤ p1 ∧ p1 ≤ 2147483647) : mm_Met g l zy_least_14_85 zr_least_14_85 [zi p0, zi p1] (zz_M S0 n) n (zz_QI n (zp_least_14_85 p0 p1 S0)) := by
  refine zz_enter (by decide) (Nat.le_of_ble_eq_true rfl) (zz_less (ls1 := [some (zi p0), some (zi p1)]) ⟨rfl, ⟨rfl, trivial⟩⟩ ?_)
  refine zz_iload_n (x := p0) rfl zd_14_85_0 ?_
  refine zz_iload_n (x := p1) rfl zd_14_85_1 ?_
  refine zz_icmp_ge (by omega) (by omega) zd_14_85_2 (fun c1 => ?_) (fun c1 => ?_)
  · refine zz_iload_n (x := p1) rfl zd_14_85_9 ?_
    exact zz_iret zd_14_85_10 rfl (Nat.zero_le _) (Nat.zero_le _) ⟨_, _, rfl, rfl, by omega, by omega⟩
  · refine zz_iload_n (x := p0) rfl zd_14_85_5 ?_
    refine zz_goto zd_14_85_6 ?_
    exact zz_iret zd_14_85_10 rfl (Nat.zero_le _) (Nat.zero_le _) ⟨_, _, rfl, rfl, by omega, by omega⟩
abbrev zy_works_14_86 : mm_Y := (⟨"TensorForgeModel", "works", "(IIZZ)V"⟩, prog_14_method_86_code, 5, none)
theorem zyw_works_14_86 : mm_Yw zy_works_14_86 4 := ⟨mm_tb_1 2183 (by decide +kernel) rfl, mm_tb_1 12 (by decide +kernel) rfl, ⟨by decide, by decide⟩, by decide +kernel⟩
theorem zd_14_86_0 : zz_D zy_works_14_86 0 (.aload_n 0) 1 1 := ⟨by decide +kernel, rfl⟩
theorem zd_14_86_1 : zz_D zy_works_14_86 1 (.getfield 100) 3 4 := ⟨by decide +kernel, rfl⟩
theorem zd_14_86_4 : zz_D zy_works_14_86 4 (.iload_n 1) 1 5 := ⟨by decide +kernel, rfl⟩
theorem zd_14_86_5 : zz_D zy_works_14_86 5 (.iaload) 1 6 := ⟨by decide +kernel, rfl⟩
theorem zd_14_86_6 : zz_B zy_works_14_86 6 (Instr.ifCond .ne) 47 9 := ⟨41, by decide +kernel, rfl, rfl⟩
theorem zd_14_86_47 : zz_D zy_works_14_86 47 (.aload_n 0) 1 48 := ⟨by decide +kernel, rfl⟩
theorem zd_14_86_48 : zz_D zy_works_14_86 48 (.bipush 6) 2 50 := ⟨by decide +kernel, rfl⟩
theorem zd_14_86_50 : zz_D zy_works_14_86 50 (.iconst 0) 1 51 := ⟨by decide +kernel, rfl⟩
theorem zd_14_86_51 : zz_D zy_works_14_86 51 (.aload_n 0) 1 52 := ⟨by decide +kernel, rfl⟩
theorem zd_14_86_52 : zz_D zy_works_14_86 52 (.getfield 469) 3 55 := ⟨by decide +kernel, rfl⟩
theorem zd_14_86_55 : zz_D zy_works_14_86 55 (.aload_n 0) 1 56 := ⟨by decide +kernel, rfl⟩
theorem zd_14_86_56 : zz_D zy_works_14_86 56 (.getfield 472) 3 59 := ⟨by decide +kernel, rfl⟩
theorem zd_14_86_59 : zz_D zy_works_14_86 59 (.invokevirtual 475) 3 62 := ⟨by decide +kernel, rfl⟩
theorem zd_14_86_62 : zz_D zy_works_14_86 62 (.aload_n 0) 1 63 := ⟨by decide +kernel, rfl⟩
theorem zd_14_86_63 : zz_D zy_works_14_86 63 (.aload_n 0) 1 64 := ⟨by decide +kernel, rfl⟩
theorem zd_14_86_64 : zz_D zy_works_14_86 64 (.invokevirtual 489) 3 67 := ⟨by decide +kernel, rfl⟩
theorem zd_14_86_67 : zz_D zy_works_14_86 67 (.aload_n 0) 1 68 := ⟨by decide +kernel, rfl⟩
theorem zd_14_86_68 : zz_D zy_works_14_86 68 (.invokevirtual 479) 3 71 := ⟨by decide +kernel, rfl⟩
theorem zd_14_86_71 : zz_D zy_works_14_86 71 (.iconst 0) 1 72 := ⟨by decide +kernel, rfl⟩
theorem zd_14_86_72 : zz_D zy_works_14_86 72 (.iload_n 3) 1 73 := ⟨by decide +kernel, rfl⟩
theorem zd_14_86_73 : zz_B zy_works_14_86 73 (Instr.ifCond .eq) 80 76 := ⟨7, by decide +kernel, rfl, rfl⟩
theorem zd_14_86_80 : zz_D zy_works_14_86 80 (.aload_n 0) 1 81 := ⟨by decide +kernel, rfl⟩
theorem zd_14_86_81 : zz_D zy_works_14_86 81 (.getfield 100) 3 84 := ⟨by decide +kernel, rfl⟩
theorem zd_14_86_84 : zz_D zy_works_14_86 84 (.iload_n 1) 1 85 := ⟨by decide +kernel, rfl⟩
theorem zd_14_86_85 : zz_D zy_works_14_86 85 (.iaload) 1 86 := ⟨by decide +kernel, rfl⟩
theorem zd_14_86_86 : zz_D zy_works_14_86 86 (.iconst 1) 1 87 := ⟨by decide +kernel, rfl⟩
theorem zd_14_86_87 : zz_B zy_works_14_86 87 (Instr.if_icmp .ne) 94 90 := ⟨7, by decide +kernel, rfl, rfl⟩
theorem zd_14_86_94 : zz_D zy_works_14_86 94 (.iconst 1) 1 95 := ⟨by decide +kernel, rfl⟩
theorem zd_14_86_95 : zz_D zy_works_14_86 95 (.invokevirtual 482) 3 98 := ⟨by decide +kernel, rfl⟩
theorem zd_14_86_98 : zz_D zy_works_14_86 98 (.aload_n 0) 1 99 := ⟨by decide +kernel, rfl⟩
theorem zd_14_86_99 : zz_D zy_works_14_86 99 (.iconst 1) 1 100 := ⟨by decide +kernel, rfl⟩
theorem zd_14_86_100 : zz_D zy_works_14_86 100 (.iload 4) 2 102 := ⟨by decide +kernel, rfl⟩
theorem zd_14_86_102 : zz_B zy_works_14_86 102 (Instr.ifCond .eq) 109 105 := ⟨7, by decide +kernel, rfl, rfl⟩
theorem zd_14_86_109 : zz_D zy_works_14_86 109 (.iconst 4) 1 110 := ⟨by decide +kernel, rfl⟩
theorem zd_14_86_110 : zz_D zy_works_14_86 110 (.ior) 1 111 := ⟨by decide +kernel, rfl⟩
theorem zd_14_86_111 : zz_D zy_works_14_86 111 (.invokevirtual 459) 3 114 := ⟨by decide +kernel, rfl⟩
theorem zd_14_86_114 : zz_D zy_works_14_86 114 (.aload_n 0) 1 115 := ⟨by decide +kernel, rfl⟩
theorem zd_14_86_115 : zz_D zy_works_14_86 115 (.dup) 1 116 := ⟨by decide +kernel, rfl⟩
theorem zd_14_86_116 : zz_D zy_works_14_86 116 (.getfield 447) 3 119 := ⟨by decide +kernel, rfl⟩
theorem zd_14_86_119 : zz_D zy_works_14_86 119 (.iconst 1) 1 120 := ⟨by decide +kernel, rfl⟩
theorem zd_14_86_120 : zz_D zy_works_14_86 120 (.iadd) 1 121 := ⟨by decide +kernel, rfl⟩
theorem zd_14_86_121 : zz_D zy_works_14_86 121 (.putfield 447) 3 124 := ⟨by decide +kernel, rfl⟩
theorem zd_14_86_124 : zz_D zy_works_14_86 124 (.return_) 1 125 := ⟨by decide +kernel, rfl⟩
theorem zd_14_86_105 : zz_D zy_works_14_86 105 (.iconst 0) 1 106 := ⟨by decide +kernel, rfl⟩
theorem zd_14_86_106 : zz_B zy_works_14_86 106 Instr.goto 110 109 := ⟨4, by decide +kernel, rfl, rfl⟩
theorem zd_14_86_90 : zz_D zy_works_14_86 90 (.iconst 2) 1 91 := ⟨by decide +kernel, rfl⟩
theorem zd_14_86_91 : zz_B zy_works_14_86 91 Instr.goto 95 94 := ⟨4, by decide +kernel, rfl, rfl⟩
theorem zd_14_86_76 : zz_D zy_works_14_86 76 (.iconst 0) 1 77 := ⟨by decide +kernel, rfl⟩
theorem zd_14_86_77 : zz_B zy_works_14_86 77 Instr.goto 95 80 := ⟨18, by decide +kernel, rfl, rfl⟩
theorem zd_14_86_9 : zz_D zy_works_14_86 9 (.aload_n 0) 1 10 := ⟨by decide +kernel, rfl⟩
theorem zd_14_86_10 : zz_D zy_works_14_86 10 (.iconst 5) 1 11 := ⟨by decide +kernel, rfl⟩
theorem zd_14_86_11 : zz_D zy_works_14_86 11 (.iconst 0) 1 12 := ⟨by decide +kernel, rfl⟩
theorem zd_14_86_12 : zz_D zy_works_14_86 12 (.aload_n 0) 1 13 := ⟨by decide +kernel, rfl⟩
theorem zd_14_86_13 : zz_D zy_works_14_86 13 (.getfield 469) 3 16 := ⟨by decide +kernel, rfl⟩
theorem zd_14_86_16 : zz_D zy_works_14_86 16 (.aload_n 0) 1 17 := ⟨by decide +kernel, rfl⟩
theorem zd_14_86_17 : zz_D zy_works_14_86 17 (.getfield 472) 3 20 := ⟨by decide +kernel, rfl⟩
theorem zd_14_86_20 : zz_D zy_works_14_86 20 (.invokevirtual 475) 3 23 := ⟨by decide +kernel, rfl⟩
theorem zd_14_86_23 : zz_D zy_works_14_86 23 (.aload_n 0) 1 24 := ⟨by decide +kernel, rfl⟩
theorem zd_14_86_24 : zz_D zy_works_14_86 24 (.aload_n 0) 1 25 := ⟨by decide +kernel, rfl⟩
theorem zd_14_86_25 : zz_D zy_works_14_86 25 (.invokevirtual 489) 3 28 := ⟨by decide +kernel, rfl⟩
theorem zd_14_86_28 : zz_D zy_works_14_86 28 (.aload_n 0) 1 29 := ⟨by decide +kernel, rfl⟩
theorem zd_14_86_29 : zz_D zy_works_14_86 29 (.invokevirtual 479) 3 32 := ⟨by decide +kernel, rfl⟩
theorem zd_14_86_32 : zz_D zy_works_14_86 32 (.aload_n 0) 1 33 := ⟨by decide +kernel, rfl⟩
theorem zd_14_86_33 : zz_D zy_works_14_86 33 (.invokevirtual 489) 3 36 := ⟨by decide +kernel, rfl⟩
theorem zd_14_86_36 : zz_D zy_works_14_86 36 (.iconst 2) 1 37 := ⟨by decide +kernel, rfl⟩
theorem zd_14_86_37 : zz_D zy_works_14_86 37 (.iload_n 2) 1 38 := ⟨by decide +kernel, rfl⟩
theorem zd_14_86_38 : zz_D zy_works_14_86 38 (.imul) 1 39 := ⟨by decide +kernel, rfl⟩
theorem zd_14_86_39 : zz_D zy_works_14_86 39 (.iconst 1) 1 40 := ⟨by decide +kernel, rfl⟩
theorem zd_14_86_40 : zz_D zy_works_14_86 40 (.iadd) 1 41 := ⟨by decide +kernel, rfl⟩
theorem zd_14_86_41 : zz_D zy_works_14_86 41 (.invokevirtual 482) 3 44 := ⟨by decide +kernel, rfl⟩
theorem zd_14_86_44 : zz_B zy_works_14_86 44 Instr.goto 98 47 := ⟨54, by decide +kernel, rfl, rfl⟩
-- TensorForgeModel works (IIZZ)V
abbrev zr_works_14_86 : Room := { frames := 3, cells := 0, slots := 0, locals := 45 }
def zp_works_14_86 (p0 : Int) (p1 : Int) (p2 : Int) (p3 : Int) (S0 : zz_S) : zz_S → Prop := fun S => zz_G S ∧ zz_fr [(1079, 10), (1079, 51)] [1086, 1087] (fun _ _ => False) S0 S ∧ (S 1079 10 = S0 1079 10 + 1)
theorem zc_works_14_86 {g : mm_G} {l : Launch} (p0 : Int) (p1 : Int) (p2 : Int) (p3 : Int) (S0 : zz_S) (n : Nat) (hn : zz_end ≤ n) (G_S0 : zz_G S0) (hp0 : 0 ≤ p0 ∧ p0 ≤ 9) (hp1 : (-2147483648) ≤ p1 ∧ p1 ≤ 2147483647) (hp2 : 0 ≤ p2 ∧ p2 ≤ 1) (hp3 : 0 ≤ p3 ∧ p3 ≤ 1) (hq : S0 1079 10 ≤ 900000) : mm_Met g l zy_works_14_86 zr_works_14_86 [.ref 1079, zi p0, zi p1, zi p2, zi p3] (zz_M S0 n) n (zz_QV n (zp_works_14_86 p0 p1 p2 p3 S0)) := by
  refine zz_enter (by decide) (Nat.le_of_ble_eq_true rfl) (zz_less (ls1 := [some (.ref 1079), some (zi p0), some (zi p1), some (zi p2), some (zi p3)]) ⟨rfl, ⟨rfl, ⟨rfl, ⟨rfl, ⟨rfl, trivial⟩⟩⟩⟩⟩ ?_)
  have F_S0 : zz_fr [(1079, 10), (1079, 51)] [1086, 1087] (fun _ _ => False) S0 S0 := zz_fr.refl
  refine zz_aload_n (x := 1079) rfl zd_14_86_0 ?_
  refine zz_getr (kd := 0) (z := 1106) zd_14_86_1 zf_Md_100 zT_1079 rfl (zz_ltn hn rfl) (zz_G.eq G_S0 1079 41 1106 rfl rfl) (by decide) 1106 rfl ?_
  refine zz_iload_n (x := p0) rfl zd_14_86_4 ?_
  have g1 := zz_G.r G_S0 1106 p0.toNat 0 2 rfl rfl
  refine zz_iald (z := S0 1106 p0.toNat) zd_14_86_5 zT_1106 rfl (zz_ltn hn rfl) (by decide) (by omega) rfl ?_
  refine zz_if_ne (by omega) zd_14_86_6 (fun c2 => ?_) (fun c2 => ?_)
  · refine zz_aload_n (x := 1079) rfl zd_14_86_47 ?_
    refine zz_bipush (by decide) zd_14_86_48 ?_
    refine zz_iconst zd_14_86_50 ?_
    refine zz_aload_n (x := 1079) rfl zd_14_86_51 ?_
    have g3 := zz_G.r G_S0 1079 52 (-2147483648) 2147483647 rfl rfl
    refine zz_geti (z := S0 1079 52) zd_14_86_52 zf_Md_469 zT_1079 rfl (zz_ltn hn rfl) rfl ?_
    refine zz_aload_n (x := 1079) rfl zd_14_86_55 ?_
    have g4 := zz_G.r G_S0 1079 53 (-2147483648) 2147483647 rfl rfl
    refine zz_geti (z := S0 1079 53) zd_14_86_56 zf_Md_472 zT_1079 rfl (zz_ltn hn rfl) rfl ?_
    refine zz_callVV [zi 6, zi 0, zi (S0 1079 52), zi (S0 1079 53)] zd_14_86_59 zk_Md_475 zT_1079 (zz_ltn hn rfl) rfl rfl ⟨Nat.le_of_ble_eq_true rfl, Nat.le_of_ble_eq_true rfl⟩ ⟨rfl, rfl⟩ (Nat.zero_le _) (Nat.zero_le _) (zc_set_14_78 6 0 (S0 1079 52) (S0 1079 53) S0 n hn G_S0 (by omega) (by omega) (by omega) (by omega)) (fun S5 hP => ?_)
    obtain ⟨G_S5, fS5⟩ := hP
    have F_S5 := zz_fr.trans F_S0 fS5 rfl zz_nv
    refine zz_aload_n (x := 1079) rfl zd_14_86_62 ?_
    refine zz_aload_n (x := 1079) rfl zd_14_86_63 ?_
    refine zz_callVI [] zd_14_86_64 zk_Md_489 zT_1079 (zz_ltn hn rfl) rfl rfl ⟨Nat.le_of_ble_eq_true rfl, Nat.le_of_ble_eq_true rfl⟩ ⟨rfl, rfl⟩ (Nat.zero_le _) (Nat.zero_le _) (zc_half_14_80  S5 n hn G_S5 ) (fun v8 S7 hP => ?_)
    obtain ⟨rfl, o9⟩ := hP
    refine zz_aload_n (x := 1079) rfl zd_14_86_67 ?_
    refine zz_callVI [] zd_14_86_68 zk_Md_479 zT_1079 (zz_ltn hn rfl) rfl rfl ⟨Nat.le_of_ble_eq_true rfl, Nat.le_of_ble_eq_true rfl⟩ ⟨rfl, rfl⟩ (Nat.zero_le _) (Nat.zero_le _) (zc_quarter_14_81  S5 n hn G_S5 ) (fun v11 S10 hP => ?_)
    obtain ⟨rfl, o12⟩ := hP
    refine zz_iconst zd_14_86_71 ?_
    refine zz_iload_n (x := p2) rfl zd_14_86_72 ?_
    refine zz_if_eq (by omega) zd_14_86_73 (fun c13 => ?_) (fun c13 => ?_)
    · refine zz_aload_n (x := 1079) rfl zd_14_86_80 ?_
      refine zz_getr (kd := 0) (z := 1106) zd_14_86_81 zf_Md_100 zT_1079 rfl (zz_ltn hn rfl) (zz_G.eq G_S5 1079 41 1106 rfl rfl) (by decide) 1106 rfl ?_
      refine zz_iload_n (x := p0) rfl zd_14_86_84 ?_
      refine zz_iald (z := S0 1106 p0.toNat) zd_14_86_85 zT_1106 rfl (zz_ltn hn rfl) (by decide) (by omega) (zz_rc fS5 (zz_nc1 rfl) rfl (fun h => h) rfl) ?_
      refine zz_iconst zd_14_86_86 ?_
      refine zz_icmp_ne (by omega) (by omega) zd_14_86_87 (fun c14 => ?_) (fun c14 => ?_)
      · refine zz_iconst zd_14_86_94 ?_
        refine zz_callVV [zi v8, zi v11, zi 0, zi 1] zd_14_86_95 zk_Md_482 zT_1079 (zz_ltn hn rfl) rfl rfl ⟨Nat.le_of_ble_eq_true rfl, Nat.le_of_ble_eq_true rfl⟩ ⟨rfl, rfl⟩ (Nat.zero_le _) (Nat.zero_le _) (zc_with_14_79 v8 v11 0 1 S5 n hn G_S5 (by omega) (by omega) (by omega) (by omega)) (fun S15 hP => ?_)
        obtain ⟨G_S15, fS15⟩ := hP
        have F_S15 := zz_fr.trans F_S5 fS15 rfl zz_nv
        refine zz_aload_n (x := 1079) rfl zd_14_86_98 ?_
        refine zz_iconst zd_14_86_99 ?_
        refine zz_iload (x := p3) rfl zd_14_86_100 ?_
        refine zz_if_eq (by omega) zd_14_86_102 (fun c17 => ?_) (fun c17 => ?_)
        · refine zz_iconst zd_14_86_109 ?_
          refine zz_ior (by omega) (by omega) zd_14_86_110 (fun v18 hv18 av18 ev18 => ?_)
          have g19 := zz_G.r G_S0 1079 10 0 1000000 rfl rfl
          have e20 : S15 1079 10 = S0 1079 10 := (zz_rc fS15 rfl rfl (fun h => h) (zz_rc fS5 rfl rfl (fun h => h) rfl))
          refine zz_callVV [zi v18] zd_14_86_111 zk_Md_459 zT_1079 (zz_ltn hn rfl) rfl rfl ⟨Nat.le_of_ble_eq_true rfl, Nat.le_of_ble_eq_true rfl⟩ ⟨rfl, rfl⟩ (Nat.zero_le _) (Nat.zero_le _) (zc_emit_14_77 v18 S15 n hn G_S15 (by omega) (by omega)) (fun S21 hP => ?_)
          obtain ⟨G_S21, fS21, o23⟩ := hP
          have F_S21 := zz_fr.trans F_S15 fS21 rfl zz_nv
          refine zz_aload_n (x := 1079) rfl zd_14_86_114 ?_
          refine zz_dup rfl zd_14_86_115 ?_
          have g24 := zz_G.r G_S0 1079 51 (-2147483648) 2147483647 rfl rfl
          refine zz_geti (z := S0 1079 51) zd_14_86_116 zf_Md_447 zT_1079 rfl (zz_ltn hn rfl) (zz_rc fS21 rfl rfl (fun h => h) (zz_rc fS15 rfl rfl (fun h => h) (zz_rc fS5 rfl rfl (fun h => h) rfl))) ?_
          refine zz_iconst zd_14_86_119 ?_
          refine zz_iadd zd_14_86_120 ?_
          refine zz_nrm (fun v25 hv25 ev25 => ?_)
          refine zz_puti zd_14_86_121 zf_Md_447 zT_1079 rfl (zz_ltn hn rfl) (fun S26 qS26 => ?_)
          have G_S26 := zz_G.put G_S21 qS26 (-2147483648) 2147483647 rfl (by omega)
          have F_S26 := zz_fr.puts F_S21 qS26 rfl
          have g27 := zz_G.r G_S21 1079 10 0 1000000 rfl rfl
          have e28 : S26 1079 10 = S21 1079 10 := (zz_ro qS26 (fun h => absurd h.2 (by decide)) rfl)
          exact zz_vret zd_14_86_124 rfl (Nat.zero_le _) (Nat.zero_le _) ⟨_, rfl, G_S26, F_S26, by omega⟩
        · refine zz_iconst zd_14_86_105 ?_
          refine zz_goto zd_14_86_106 ?_
          refine zz_ior (by omega) (by omega) zd_14_86_110 (fun v29 hv29 av29 ev29 => ?_)
          have g30 := zz_G.r G_S0 1079 10 0 1000000 rfl rfl
          have e31 : S15 1079 10 = S0 1079 10 := (zz_rc fS15 rfl rfl (fun h => h) (zz_rc fS5 rfl rfl (fun h => h) rfl))
          refine zz_callVV [zi v29] zd_14_86_111 zk_Md_459 zT_1079 (zz_ltn hn rfl) rfl rfl ⟨Nat.le_of_ble_eq_true rfl, Nat.le_of_ble_eq_true rfl⟩ ⟨rfl, rfl⟩ (Nat.zero_le _) (Nat.zero_le _) (zc_emit_14_77 v29 S15 n hn G_S15 (by omega) (by omega)) (fun S32 hP => ?_)
          obtain ⟨G_S32, fS32, o34⟩ := hP
          have F_S32 := zz_fr.trans F_S15 fS32 rfl zz_nv
          refine zz_aload_n (x := 1079) rfl zd_14_86_114 ?_
          refine zz_dup rfl zd_14_86_115 ?_
          have g35 := zz_G.r G_S0 1079 51 (-2147483648) 2147483647 rfl rfl
          refine zz_geti (z := S0 1079 51) zd_14_86_116 zf_Md_447 zT_1079 rfl (zz_ltn hn rfl) (zz_rc fS32 rfl rfl (fun h => h) (zz_rc fS15 rfl rfl (fun h => h) (zz_rc fS5 rfl rfl (fun h => h) rfl))) ?_
          refine zz_iconst zd_14_86_119 ?_
          refine zz_iadd zd_14_86_120 ?_
          refine zz_nrm (fun v36 hv36 ev36 => ?_)
          refine zz_puti zd_14_86_121 zf_Md_447 zT_1079 rfl (zz_ltn hn rfl) (fun S37 qS37 => ?_)
          have G_S37 := zz_G.put G_S32 qS37 (-2147483648) 2147483647 rfl (by omega)
          have F_S37 := zz_fr.puts F_S32 qS37 rfl
          have g38 := zz_G.r G_S32 1079 10 0 1000000 rfl rfl
          have e39 : S37 1079 10 = S32 1079 10 := (zz_ro qS37 (fun h => absurd h.2 (by decide)) rfl)
          exact zz_vret zd_14_86_124 rfl (Nat.zero_le _) (Nat.zero_le _) ⟨_, rfl, G_S37, F_S37, by omega⟩
      · refine zz_iconst zd_14_86_90 ?_
        refine zz_goto zd_14_86_91 ?_
        refine zz_callVV [zi v8, zi v11, zi 0, zi 2] zd_14_86_95 zk_Md_482 zT_1079 (zz_ltn hn rfl) rfl rfl ⟨Nat.le_of_ble_eq_true rfl, Nat.le_of_ble_eq_true rfl⟩ ⟨rfl, rfl⟩ (Nat.zero_le _) (Nat.zero_le _) (zc_with_14_79 v8 v11 0 2 S5 n hn G_S5 (by omega) (by omega) (by omega) (by omega)) (fun S40 hP => ?_)
        obtain ⟨G_S40, fS40⟩ := hP
        have F_S40 := zz_fr.trans F_S5 fS40 rfl zz_nv
        refine zz_aload_n (x := 1079) rfl zd_14_86_98 ?_
        refine zz_iconst zd_14_86_99 ?_
        refine zz_iload (x := p3) rfl zd_14_86_100 ?_
        refine zz_if_eq (by omega) zd_14_86_102 (fun c42 => ?_) (fun c42 => ?_)
        · refine zz_iconst zd_14_86_109 ?_
          refine zz_ior (by omega) (by omega) zd_14_86_110 (fun v43 hv43 av43 ev43 => ?_)
          have g44 := zz_G.r G_S0 1079 10 0 1000000 rfl rfl
          have e45 : S40 1079 10 = S0 1079 10 := (zz_rc fS40 rfl rfl (fun h => h) (zz_rc fS5 rfl rfl (fun h => h) rfl))
          refine zz_callVV [zi v43] zd_14_86_111 zk_Md_459 zT_1079 (zz_ltn hn rfl) rfl rfl ⟨Nat.le_of_ble_eq_true rfl, Nat.le_of_ble_eq_true rfl⟩ ⟨rfl, rfl⟩ (Nat.zero_le _) (Nat.zero_le _) (zc_emit_14_77 v43 S40 n hn G_S40 (by omega) (by omega)) (fun S46 hP => ?_)
          obtain ⟨G_S46, fS46, o48⟩ := hP
          have F_S46 := zz_fr.trans F_S40 fS46 rfl zz_nv
          refine zz_aload_n (x := 1079) rfl zd_14_86_114 ?_
          refine zz_dup rfl zd_14_86_115 ?_
          have g49 := zz_G.r G_S0 1079 51 (-2147483648) 2147483647 rfl rfl
          refine zz_geti (z := S0 1079 51) zd_14_86_116 zf_Md_447 zT_1079 rfl (zz_ltn hn rfl) (zz_rc fS46 rfl rfl (fun h => h) (zz_rc fS40 rfl rfl (fun h => h) (zz_rc fS5 rfl rfl (fun h => h) rfl))) ?_
          refine zz_iconst zd_14_86_119 ?_
          refine zz_iadd zd_14_86_120 ?_
          refine zz_nrm (fun v50 hv50 ev50 => ?_)
          refine zz_puti zd_14_86_121 zf_Md_447 zT_1079 rfl (zz_ltn hn rfl) (fun S51 qS51 => ?_)
          have G_S51 := zz_G.put G_S46 qS51 (-2147483648) 2147483647 rfl (by omega)
          have F_S51 := zz_fr.puts F_S46 qS51 rfl
          have g52 := zz_G.r G_S46 1079 10 0 1000000 rfl rfl
          have e53 : S51 1079 10 = S46 1079 10 := (zz_ro qS51 (fun h => absurd h.2 (by decide)) rfl)
          exact zz_vret zd_14_86_124 rfl (Nat.zero_le _) (Nat.zero_le _) ⟨_, rfl, G_S51, F_S51, by omega⟩
        · refine zz_iconst zd_14_86_105 ?_
          refine zz_goto zd_14_86_106 ?_
          refine zz_ior (by omega) (by omega) zd_14_86_110 (fun v54 hv54 av54 ev54 => ?_)
          have g55 := zz_G.r G_S0 1079 10 0 1000000 rfl rfl
          have e56 : S40 1079 10 = S0 1079 10 := (zz_rc fS40 rfl rfl (fun h => h) (zz_rc fS5 rfl rfl (fun h => h) rfl))
          refine zz_callVV [zi v54] zd_14_86_111 zk_Md_459 zT_1079 (zz_ltn hn rfl) rfl rfl ⟨Nat.le_of_ble_eq_true rfl, Nat.le_of_ble_eq_true rfl⟩ ⟨rfl, rfl⟩ (Nat.zero_le _) (Nat.zero_le _) (zc_emit_14_77 v54 S40 n hn G_S40 (by omega) (by omega)) (fun S57 hP => ?_)
          obtain ⟨G_S57, fS57, o59⟩ := hP
          have F_S57 := zz_fr.trans F_S40 fS57 rfl zz_nv
          refine zz_aload_n (x := 1079) rfl zd_14_86_114 ?_
          refine zz_dup rfl zd_14_86_115 ?_
          have g60 := zz_G.r G_S0 1079 51 (-2147483648) 2147483647 rfl rfl
          refine zz_geti (z := S0 1079 51) zd_14_86_116 zf_Md_447 zT_1079 rfl (zz_ltn hn rfl) (zz_rc fS57 rfl rfl (fun h => h) (zz_rc fS40 rfl rfl (fun h => h) (zz_rc fS5 rfl rfl (fun h => h) rfl))) ?_
          refine zz_iconst zd_14_86_119 ?_
          refine zz_iadd zd_14_86_120 ?_
          refine zz_nrm (fun v61 hv61 ev61 => ?_)
          refine zz_puti zd_14_86_121 zf_Md_447 zT_1079 rfl (zz_ltn hn rfl) (fun S62 qS62 => ?_)
          have G_S62 := zz_G.put G_S57 qS62 (-2147483648) 2147483647 rfl (by omega)
          have F_S62 := zz_fr.puts F_S57 qS62 rfl
          have g63 := zz_G.r G_S57 1079 10 0 1000000 rfl rfl
          have e64 : S62 1079 10 = S57 1079 10 := (zz_ro qS62 (fun h => absurd h.2 (by decide)) rfl)
          exact zz_vret zd_14_86_124 rfl (Nat.zero_le _) (Nat.zero_le _) ⟨_, rfl, G_S62, F_S62, by omega⟩
    · refine zz_iconst zd_14_86_76 ?_
      refine zz_goto zd_14_86_77 ?_
      refine zz_callVV [zi v8, zi v11, zi 0, zi 0] zd_14_86_95 zk_Md_482 zT_1079 (zz_ltn hn rfl) rfl rfl ⟨Nat.le_of_ble_eq_true rfl, Nat.le_of_ble_eq_true rfl⟩ ⟨rfl, rfl⟩ (Nat.zero_le _) (Nat.zero_le _) (zc_with_14_79 v8 v11 0 0 S5 n hn G_S5 (by omega) (by omega) (by omega) (by omega)) (fun S65 hP => ?_)
      obtain ⟨G_S65, fS65⟩ := hP
      have F_S65 := zz_fr.trans F_S5 fS65 rfl zz_nv
      refine zz_aload_n (x := 1079) rfl zd_14_86_98 ?_
      refine zz_iconst zd_14_86_99 ?_
      refine zz_iload (x := p3) rfl zd_14_86_100 ?_
      refine zz_if_eq (by omega) zd_14_86_102 (fun c67 => ?_) (fun c67 => ?_)
      · refine zz_iconst zd_14_86_109 ?_
        refine zz_ior (by omega) (by omega) zd_14_86_110 (fun v68 hv68 av68 ev68 => ?_)
        have g69 := zz_G.r G_S0 1079 10 0 1000000 rfl rfl
        have e70 : S65 1079 10 = S0 1079 10 := (zz_rc fS65 rfl rfl (fun h => h) (zz_rc fS5 rfl rfl (fun h => h) rfl))
        refine zz_callVV [zi v68] zd_14_86_111 zk_Md_459 zT_1079 (zz_ltn hn rfl) rfl rfl ⟨Nat.le_of_ble_eq_true rfl, Nat.le_of_ble_eq_true rfl⟩ ⟨rfl, rfl⟩ (Nat.zero_le _) (Nat.zero_le _) (zc_emit_14_77 v68 S65 n hn G_S65 (by omega) (by omega)) (fun S71 hP => ?_)
        obtain ⟨G_S71, fS71, o73⟩ := hP
        have F_S71 := zz_fr.trans F_S65 fS71 rfl zz_nv
        refine zz_aload_n (x := 1079) rfl zd_14_86_114 ?_
        refine zz_dup rfl zd_14_86_115 ?_
        have g74 := zz_G.r G_S0 1079 51 (-2147483648) 2147483647 rfl rfl
        refine zz_geti (z := S0 1079 51) zd_14_86_116 zf_Md_447 zT_1079 rfl (zz_ltn hn rfl) (zz_rc fS71 rfl rfl (fun h => h) (zz_rc fS65 rfl rfl (fun h => h) (zz_rc fS5 rfl rfl (fun h => h) rfl))) ?_
        refine zz_iconst zd_14_86_119 ?_
        refine zz_iadd zd_14_86_120 ?_
        refine zz_nrm (fun v75 hv75 ev75 => ?_)
        refine zz_puti zd_14_86_121 zf_Md_447 zT_1079 rfl (zz_ltn hn rfl) (fun S76 qS76 => ?_)
        have G_S76 := zz_G.put G_S71 qS76 (-2147483648) 2147483647 rfl (by omega)
        have F_S76 := zz_fr.puts F_S71 qS76 rfl
        have g77 := zz_G.r G_S71 1079 10 0 1000000 rfl rfl
        have e78 : S76 1079 10 = S71 1079 10 := (zz_ro qS76 (fun h => absurd h.2 (by decide)) rfl)
        exact zz_vret zd_14_86_124 rfl (Nat.zero_le _) (Nat.zero_le _) ⟨_, rfl, G_S76, F_S76, by omega⟩
      · refine zz_iconst zd_14_86_105 ?_
        refine zz_goto zd_14_86_106 ?_
        refine zz_ior (by omega) (by omega) zd_14_86_110 (fun v79 hv79 av79 ev79 => ?_)
        have g80 := zz_G.r G_S0 1079 10 0 1000000 rfl rfl
        have e81 : S65 1079 10 = S0 1079 10 := (zz_rc fS65 rfl rfl (fun h => h) (zz_rc fS5 rfl rfl (fun h => h) rfl))
        refine zz_callVV [zi v79] zd_14_86_111 zk_Md_459 zT_1079 (zz_ltn hn rfl) rfl rfl ⟨Nat.le_of_ble_eq_true rfl, Nat.le_of_ble_eq_true rfl⟩ ⟨rfl, rfl⟩ (Nat.zero_le _) (Nat.zero_le _) (zc_emit_14_77 v79 S65 n hn G_S65 (by omega) (by omega)) (fun S82 hP => ?_)
        obtain ⟨G_S82, fS82, o84⟩ := hP
        have F_S82 := zz_fr.trans F_S65 fS82 rfl zz_nv
        refine zz_aload_n (x := 1079) rfl zd_14_86_114 ?_
        refine zz_dup rfl zd_14_86_115 ?_
        have g85 := zz_G.r G_S0 1079 51 (-2147483648) 2147483647 rfl rfl
        refine zz_geti (z := S0 1079 51) zd_14_86_116 zf_Md_447 zT_1079 rfl (zz_ltn hn rfl) (zz_rc fS82 rfl rfl (fun h => h) (zz_rc fS65 rfl rfl (fun h => h) (zz_rc fS5 rfl rfl (fun h => h) rfl))) ?_
        refine zz_iconst zd_14_86_119 ?_
        refine zz_iadd zd_14_86_120 ?_
        refine zz_nrm (fun v86 hv86 ev86 => ?_)
        refine zz_puti zd_14_86_121 zf_Md_447 zT_1079 rfl (zz_ltn hn rfl) (fun S87 qS87 => ?_)
        have G_S87 := zz_G.put G_S82 qS87 (-2147483648) 2147483647 rfl (by omega)
        have F_S87 := zz_fr.puts F_S82 qS87 rfl
        have g88 := zz_G.r G_S82 1079 10 0 1000000 rfl rfl
        have e89 : S87 1079 10 = S82 1079 10 := (zz_ro qS87 (fun h => absurd h.2 (by decide)) rfl)
        exact zz_vret zd_14_86_124 rfl (Nat.zero_le _) (Nat.zero_le _) ⟨_, rfl, G_S87, F_S87, by omega⟩
  · refine zz_aload_n (x := 1079) rfl zd_14_86_9 ?_
    refine zz_iconst zd_14_86_10 ?_
    refine zz_iconst zd_14_86_11 ?_
    refine zz_aload_n (x := 1079) rfl zd_14_86_12 ?_
    have g90 := zz_G.r G_S0 1079 52 (-2147483648) 2147483647 rfl rfl
    refine zz_geti (z := S0 1079 52) zd_14_86_13 zf_Md_469 zT_1079 rfl (zz_ltn hn rfl) rfl ?_
    refine zz_aload_n (x := 1079) rfl zd_14_86_16 ?_
    have g91 := zz_G.r G_S0 1079 53 (-2147483648) 2147483647 rfl rfl
    refine zz_geti (z := S0 1079 53) zd_14_86_17 zf_Md_472 zT_1079 rfl (zz_ltn hn rfl) rfl ?_
    refine zz_callVV [zi 5, zi 0, zi (S0 1079 52), zi (S0 1079 53)] zd_14_86_20 zk_Md_475 zT_1079 (zz_ltn hn rfl) rfl rfl ⟨Nat.le_of_ble_eq_true rfl, Nat.le_of_ble_eq_true rfl⟩ ⟨rfl, rfl⟩ (Nat.zero_le _) (Nat.zero_le _) (zc_set_14_78 5 0 (S0 1079 52) (S0 1079 53) S0 n hn G_S0 (by omega) (by omega) (by omega) (by omega)) (fun S92 hP => ?_)
    obtain ⟨G_S92, fS92⟩ := hP
    have F_S92 := zz_fr.trans F_S0 fS92 rfl zz_nv
    refine zz_aload_n (x := 1079) rfl zd_14_86_23 ?_
    refine zz_aload_n (x := 1079) rfl zd_14_86_24 ?_
    refine zz_callVI [] zd_14_86_25 zk_Md_489 zT_1079 (zz_ltn hn rfl) rfl rfl ⟨Nat.le_of_ble_eq_true rfl, Nat.le_of_ble_eq_true rfl⟩ ⟨rfl, rfl⟩ (Nat.zero_le _) (Nat.zero_le _) (zc_half_14_80  S92 n hn G_S92 ) (fun v95 S94 hP => ?_)
    obtain ⟨rfl, o96⟩ := hP
    refine zz_aload_n (x := 1079) rfl zd_14_86_28 ?_
    refine zz_callVI [] zd_14_86_29 zk_Md_479 zT_1079 (zz_ltn hn rfl) rfl rfl ⟨Nat.le_of_ble_eq_true rfl, Nat.le_of_ble_eq_true rfl⟩ ⟨rfl, rfl⟩ (Nat.zero_le _) (Nat.zero_le _) (zc_quarter_14_81  S92 n hn G_S92 ) (fun v98 S97 hP => ?_)
    obtain ⟨rfl, o99⟩ := hP
    refine zz_aload_n (x := 1079) rfl zd_14_86_32 ?_
    refine zz_callVI [] zd_14_86_33 zk_Md_489 zT_1079 (zz_ltn hn rfl) rfl rfl ⟨Nat.le_of_ble_eq_true rfl, Nat.le_of_ble_eq_true rfl⟩ ⟨rfl, rfl⟩ (Nat.zero_le _) (Nat.zero_le _) (zc_half_14_80  S92 n hn G_S92 ) (fun v101 S100 hP => ?_)
    obtain ⟨rfl, o102⟩ := hP
    refine zz_iconst zd_14_86_36 ?_
    refine zz_iload_n (x := p1) rfl zd_14_86_37 ?_
    refine zz_imul zd_14_86_38 ?_
    refine zz_nrm (fun v103 hv103 ev103 => ?_)
    refine zz_iconst zd_14_86_39 ?_
    refine zz_iadd zd_14_86_40 ?_
    refine zz_nrm (fun v104 hv104 ev104 => ?_)
    refine zz_callVV [zi v95, zi v98, zi v101, zi v104] zd_14_86_41 zk_Md_482 zT_1079 (zz_ltn hn rfl) rfl rfl ⟨Nat.le_of_ble_eq_true rfl, Nat.le_of_ble_eq_true rfl⟩ ⟨rfl, rfl⟩ (Nat.zero_le _) (Nat.zero_le _) (zc_with_14_79 v95 v98 v101 v104 S92 n hn G_S92 (by omega) (by omega) (by omega) (by omega)) (fun S105 hP => ?_)
    obtain ⟨G_S105, fS105⟩ := hP
    have F_S105 := zz_fr.trans F_S92 fS105 rfl zz_nv
    refine zz_goto zd_14_86_44 ?_
    refine zz_aload_n (x := 1079) rfl zd_14_86_98 ?_
    refine zz_iconst zd_14_86_99 ?_
    refine zz_iload (x := p3) rfl zd_14_86_100 ?_
    refine zz_if_eq (by omega) zd_14_86_102 (fun c107 => ?_) (fun c107 => ?_)
    · refine zz_iconst zd_14_86_109 ?_
      refine zz_ior (by omega) (by omega) zd_14_86_110 (fun v108 hv108 av108 ev108 => ?_)
      have g109 := zz_G.r G_S0 1079 10 0 1000000 rfl rfl
      have e110 : S105 1079 10 = S0 1079 10 := (zz_rc fS105 rfl rfl (fun h => h) (zz_rc fS92 rfl rfl (fun h => h) rfl))
      refine zz_callVV [zi v108] zd_14_86_111 zk_Md_459 zT_1079 (zz_ltn hn rfl) rfl rfl ⟨Nat.le_of_ble_eq_true rfl, Nat.le_of_ble_eq_true rfl⟩ ⟨rfl, rfl⟩ (Nat.zero_le _) (Nat.zero_le _) (zc_emit_14_77 v108 S105 n hn G_S105 (by omega) (by omega)) (fun S111 hP => ?_)
      obtain ⟨G_S111, fS111, o113⟩ := hP
      have F_S111 := zz_fr.trans F_S105 fS111 rfl zz_nv
      refine zz_aload_n (x := 1079) rfl zd_14_86_114 ?_
      refine zz_dup rfl zd_14_86_115 ?_
      have g114 := zz_G.r G_S0 1079 51 (-2147483648) 2147483647 rfl rfl
      refine zz_geti (z := S0 1079 51) zd_14_86_116 zf_Md_447 zT_1079 rfl (zz_ltn hn rfl) (zz_rc fS111 rfl rfl (fun h => h) (zz_rc fS105 rfl rfl (fun h => h) (zz_rc fS92 rfl rfl (fun h => h) rfl))) ?_
      refine zz_iconst zd_14_86_119 ?_
      refine zz_iadd zd_14_86_120 ?_
      refine zz_nrm (fun v115 hv115 ev115 => ?_)
      refine zz_puti zd_14_86_121 zf_Md_447 zT_1079 rfl (zz_ltn hn rfl) (fun S116 qS116 => ?_)
      have G_S116 := zz_G.put G_S111 qS116 (-2147483648) 2147483647 rfl (by omega)
      have F_S116 := zz_fr.puts F_S111 qS116 rfl
      have g117 := zz_G.r G_S111 1079 10 0 1000000 rfl rfl
      have e118 : S116 1079 10 = S111 1079 10 := (zz_ro qS116 (fun h => absurd h.2 (by decide)) rfl)
      exact zz_vret zd_14_86_124 rfl (Nat.zero_le _) (Nat.zero_le _) ⟨_, rfl, G_S116, F_S116, by omega⟩
    · refine zz_iconst zd_14_86_105 ?_
      refine zz_goto zd_14_86_106 ?_
      refine zz_ior (by omega) (by omega) zd_14_86_110 (fun v119 hv119 av119 ev119 => ?_)
      have g120 := zz_G.r G_S0 1079 10 0 1000000 rfl rfl
      have e121 : S105 1079 10 = S0 1079 10 := (zz_rc fS105 rfl rfl (fun h => h) (zz_rc fS92 rfl rfl (fun h => h) rfl))
      refine zz_callVV [zi v119] zd_14_86_111 zk_Md_459 zT_1079 (zz_ltn hn rfl) rfl rfl ⟨Nat.le_of_ble_eq_true rfl, Nat.le_of_ble_eq_true rfl⟩ ⟨rfl, rfl⟩ (Nat.zero_le _) (Nat.zero_le _) (zc_emit_14_77 v119 S105 n hn G_S105 (by omega) (by omega)) (fun S122 hP => ?_)
      obtain ⟨G_S122, fS122, o124⟩ := hP
      have F_S122 := zz_fr.trans F_S105 fS122 rfl zz_nv
      refine zz_aload_n (x := 1079) rfl zd_14_86_114 ?_
      refine zz_dup rfl zd_14_86_115 ?_
      have g125 := zz_G.r G_S0 1079 51 (-2147483648) 2147483647 rfl rfl
      refine zz_geti (z := S0 1079 51) zd_14_86_116 zf_Md_447 zT_1079 rfl (zz_ltn hn rfl) (zz_rc fS122 rfl rfl (fun h => h) (zz_rc fS105 rfl rfl (fun h => h) (zz_rc fS92 rfl rfl (fun h => h) rfl))) ?_
      refine zz_iconst zd_14_86_119 ?_
      refine zz_iadd zd_14_86_120 ?_
      refine zz_nrm (fun v126 hv126 ev126 => ?_)
      refine zz_puti zd_14_86_121 zf_Md_447 zT_1079 rfl (zz_ltn hn rfl) (fun S127 qS127 => ?_)
      have G_S127 := zz_G.put G_S122 qS127 (-2147483648) 2147483647 rfl (by omega)
      have F_S127 := zz_fr.puts F_S122 qS127 rfl
      have g128 := zz_G.r G_S122 1079 10 0 1000000 rfl rfl
      have e129 : S127 1079 10 = S122 1079 10 := (zz_ro qS127 (fun h => absurd h.2 (by decide)) rfl)
      exact zz_vret zd_14_86_124 rfl (Nat.zero_le _) (Nat.zero_le _) ⟨_, rfl, G_S127, F_S127, by omega⟩
theorem zz_pos2 {a b k : Int} (h0 : 0 ≤ k) (h : k < a * b) (ha : 0 ≤ a) (hb : 0 ≤ b) : 1 ≤ a ∧ 1 ≤ b := by
  refine ⟨?_, ?_⟩
  · rcases Int.lt_or_le 0 a with q | q
    · omega
    · have : a = 0 := by omega
      rw [this, Int.zero_mul] at h
      omega
  · rcases Int.lt_or_le 0 b with q | q
    · omega
    · have : b = 0 := by omega
      rw [this, Int.mul_zero] at h
      omega
abbrev zy_tile_14_87 : mm_Y := (⟨"TensorForgeModel", "tile", "(I)V"⟩, prog_14_method_87_code, 9, none)
theorem zyw_tile_14_87 : mm_Yw zy_tile_14_87 1 := ⟨mm_tb_1 2147 (by decide +kernel) rfl, mm_tb_1 12 (by decide +kernel) rfl, ⟨by decide, by decide⟩, by decide +kernel⟩
theorem zd_14_87_0 : zz_D zy_tile_14_87 0 (.aload_n 0) 1 1 := ⟨by decide +kernel, rfl⟩
theorem zd_14_87_1 : zz_D zy_tile_14_87 1 (.getfield 103) 3 4 := ⟨by decide +kernel, rfl⟩
theorem zd_14_87_4 : zz_D zy_tile_14_87 4 (.iload_n 1) 1 5 := ⟨by decide +kernel, rfl⟩
theorem zd_14_87_5 : zz_D zy_tile_14_87 5 (.iaload) 1 6 := ⟨by decide +kernel, rfl⟩
theorem zd_14_87_6 : zz_D zy_tile_14_87 6 (.istore_n 2) 1 7 := ⟨by decide +kernel, rfl⟩
theorem zd_14_87_7 : zz_D zy_tile_14_87 7 (.aload_n 0) 1 8 := ⟨by decide +kernel, rfl⟩
theorem zd_14_87_8 : zz_D zy_tile_14_87 8 (.getfield 100) 3 11 := ⟨by decide +kernel, rfl⟩
theorem zd_14_87_11 : zz_D zy_tile_14_87 11 (.iload_n 1) 1 12 := ⟨by decide +kernel, rfl⟩
theorem zd_14_87_12 : zz_D zy_tile_14_87 12 (.iaload) 1 13 := ⟨by decide +kernel, rfl⟩
theorem zd_14_87_13 : zz_D zy_tile_14_87 13 (.iconst 2) 1 14 := ⟨by decide +kernel, rfl⟩
theorem zd_14_87_14 : zz_B zy_tile_14_87 14 (Instr.if_icmp .ne) 85 17 := ⟨71, by decide +kernel, rfl, rfl⟩
theorem zd_14_87_85 : zz_D zy_tile_14_87 85 (.aload_n 0) 1 86 := ⟨by decide +kernel, rfl⟩
theorem zd_14_87_86 : zz_D zy_tile_14_87 86 (.getfield 100) 3 89 := ⟨by decide +kernel, rfl⟩
theorem zd_14_87_89 : zz_D zy_tile_14_87 89 (.iload_n 1) 1 90 := ⟨by decide +kernel, rfl⟩
theorem zd_14_87_90 : zz_D zy_tile_14_87 90 (.iaload) 1 91 := ⟨by decide +kernel, rfl⟩
theorem zd_14_87_91 : zz_D zy_tile_14_87 91 (.iconst 1) 1 92 := ⟨by decide +kernel, rfl⟩
theorem zd_14_87_92 : zz_B zy_tile_14_87 92 (Instr.if_icmp .ne) 99 95 := ⟨7, by decide +kernel, rfl, rfl⟩
theorem zd_14_87_99 : zz_D zy_tile_14_87 99 (.iconst 0) 1 100 := ⟨by decide +kernel, rfl⟩
theorem zd_14_87_100 : zz_D zy_tile_14_87 100 (.istore_n 3) 1 101 := ⟨by decide +kernel, rfl⟩
theorem zd_14_87_101 : zz_D zy_tile_14_87 101 (.aload_n 0) 1 102 := ⟨by decide +kernel, rfl⟩
theorem zd_14_87_102 : zz_D zy_tile_14_87 102 (.getfield 109) 3 105 := ⟨by decide +kernel, rfl⟩
theorem zd_14_87_105 : zz_D zy_tile_14_87 105 (.iload_n 1) 1 106 := ⟨by decide +kernel, rfl⟩
theorem zd_14_87_106 : zz_D zy_tile_14_87 106 (.iaload) 1 107 := ⟨by decide +kernel, rfl⟩
theorem zd_14_87_107 : zz_D zy_tile_14_87 107 (.aload_n 0) 1 108 := ⟨by decide +kernel, rfl⟩
theorem zd_14_87_108 : zz_D zy_tile_14_87 108 (.getfield 112) 3 111 := ⟨by decide +kernel, rfl⟩
theorem zd_14_87_111 : zz_D zy_tile_14_87 111 (.iload_n 1) 1 112 := ⟨by decide +kernel, rfl⟩
theorem zd_14_87_112 : zz_D zy_tile_14_87 112 (.iaload) 1 113 := ⟨by decide +kernel, rfl⟩
theorem zd_14_87_113 : zz_D zy_tile_14_87 113 (.imul) 1 114 := ⟨by decide +kernel, rfl⟩
theorem zd_14_87_114 : zz_D zy_tile_14_87 114 (.istore 4) 2 116 := ⟨by decide +kernel, rfl⟩
theorem zd_14_87_116 : zz_D zy_tile_14_87 116 (.iload_n 3) 1 117 := ⟨by decide +kernel, rfl⟩
theorem zd_14_87_117 : zz_B zy_tile_14_87 117 (Instr.ifCond .eq) 124 120 := ⟨7, by decide +kernel, rfl, rfl⟩
theorem zd_14_87_124 : zz_D zy_tile_14_87 124 (.aload_n 0) 1 125 := ⟨by decide +kernel, rfl⟩
theorem zd_14_87_125 : zz_D zy_tile_14_87 125 (.getfield 94) 3 128 := ⟨by decide +kernel, rfl⟩
theorem zd_14_87_128 : zz_D zy_tile_14_87 128 (.iload_n 2) 1 129 := ⟨by decide +kernel, rfl⟩
theorem zd_14_87_129 : zz_D zy_tile_14_87 129 (.iaload) 1 130 := ⟨by decide +kernel, rfl⟩
theorem zd_14_87_130 : zz_D zy_tile_14_87 130 (.aload_n 0) 1 131 := ⟨by decide +kernel, rfl⟩
theorem zd_14_87_131 : zz_D zy_tile_14_87 131 (.getfield 7) 3 134 := ⟨by decide +kernel, rfl⟩
theorem zd_14_87_134 : zz_D zy_tile_14_87 134 (.iadd) 1 135 := ⟨by decide +kernel, rfl⟩
theorem zd_14_87_135 : zz_D zy_tile_14_87 135 (.iconst 1) 1 136 := ⟨by decide +kernel, rfl⟩
theorem zd_14_87_136 : zz_D zy_tile_14_87 136 (.isub) 1 137 := ⟨by decide +kernel, rfl⟩
theorem zd_14_87_137 : zz_D zy_tile_14_87 137 (.aload_n 0) 1 138 := ⟨by decide +kernel, rfl⟩
theorem zd_14_87_138 : zz_D zy_tile_14_87 138 (.getfield 7) 3 141 := ⟨by decide +kernel, rfl⟩
theorem zd_14_87_141 : zz_D zy_tile_14_87 141 (.idiv) 1 142 := ⟨by decide +kernel, rfl⟩
theorem zd_14_87_142 : zz_D zy_tile_14_87 142 (.istore 5) 2 144 := ⟨by decide +kernel, rfl⟩
theorem zd_14_87_144 : zz_D zy_tile_14_87 144 (.iconst 0) 1 145 := ⟨by decide +kernel, rfl⟩
theorem zd_14_87_145 : zz_D zy_tile_14_87 145 (.istore 6) 2 147 := ⟨by decide +kernel, rfl⟩
theorem zd_14_87_95 : zz_D zy_tile_14_87 95 (.iconst 1) 1 96 := ⟨by decide +kernel, rfl⟩
theorem zd_14_87_96 : zz_B zy_tile_14_87 96 Instr.goto 100 99 := ⟨4, by decide +kernel, rfl, rfl⟩
theorem zd_14_87_120 : zz_D zy_tile_14_87 120 (.iconst 1) 1 121 := ⟨by decide +kernel, rfl⟩
theorem zd_14_87_121 : zz_B zy_tile_14_87 121 Instr.goto 142 124 := ⟨21, by decide +kernel, rfl, rfl⟩
theorem zd_14_87_17 : zz_D zy_tile_14_87 17 (.iconst 0) 1 18 := ⟨by decide +kernel, rfl⟩
theorem zd_14_87_18 : zz_D zy_tile_14_87 18 (.istore_n 3) 1 19 := ⟨by decide +kernel, rfl⟩
theorem zd_14_87_147 : zz_D zy_tile_14_87 147 (.iload 6) 2 149 := ⟨by decide +kernel, rfl⟩
theorem zd_14_87_149 : zz_D zy_tile_14_87 149 (.iload 4) 2 151 := ⟨by decide +kernel, rfl⟩
theorem zd_14_87_151 : zz_D zy_tile_14_87 151 (.iload 5) 2 153 := ⟨by decide +kernel, rfl⟩
theorem zd_14_87_153 : zz_D zy_tile_14_87 153 (.imul) 1 154 := ⟨by decide +kernel, rfl⟩
theorem zd_14_87_154 : zz_B zy_tile_14_87 154 (Instr.if_icmp .ge) 292 157 := ⟨138, by decide +kernel, rfl, rfl⟩
theorem zd_14_87_292 : zz_D zy_tile_14_87 292 (.aload_n 0) 1 293 := ⟨by decide +kernel, rfl⟩
theorem zd_14_87_293 : zz_D zy_tile_14_87 293 (.bipush 7) 2 295 := ⟨by decide +kernel, rfl⟩
theorem zd_14_87_295 : zz_D zy_tile_14_87 295 (.iconst 0) 1 296 := ⟨by decide +kernel, rfl⟩
theorem zd_14_87_296 : zz_D zy_tile_14_87 296 (.aload_n 0) 1 297 := ⟨by decide +kernel, rfl⟩
theorem zd_14_87_297 : zz_D zy_tile_14_87 297 (.getfield 469) 3 300 := ⟨by decide +kernel, rfl⟩
theorem zd_14_87_300 : zz_D zy_tile_14_87 300 (.aload_n 0) 1 301 := ⟨by decide +kernel, rfl⟩
theorem zd_14_87_301 : zz_D zy_tile_14_87 301 (.getfield 472) 3 304 := ⟨by decide +kernel, rfl⟩
theorem zd_14_87_304 : zz_D zy_tile_14_87 304 (.invokevirtual 475) 3 307 := ⟨by decide +kernel, rfl⟩
theorem zd_14_87_307 : zz_D zy_tile_14_87 307 (.aload_n 0) 1 308 := ⟨by decide +kernel, rfl⟩
theorem zd_14_87_308 : zz_D zy_tile_14_87 308 (.aload_n 0) 1 309 := ⟨by decide +kernel, rfl⟩
theorem zd_14_87_309 : zz_D zy_tile_14_87 309 (.invokevirtual 479) 3 312 := ⟨by decide +kernel, rfl⟩
theorem zd_14_87_312 : zz_D zy_tile_14_87 312 (.aload_n 0) 1 313 := ⟨by decide +kernel, rfl⟩
theorem zd_14_87_313 : zz_D zy_tile_14_87 313 (.invokevirtual 479) 3 316 := ⟨by decide +kernel, rfl⟩
theorem zd_14_87_316 : zz_D zy_tile_14_87 316 (.iconst 0) 1 317 := ⟨by decide +kernel, rfl⟩
theorem zd_14_87_317 : zz_D zy_tile_14_87 317 (.aload_n 0) 1 318 := ⟨by decide +kernel, rfl⟩
theorem zd_14_87_318 : zz_D zy_tile_14_87 318 (.getfield 121) 3 321 := ⟨by decide +kernel, rfl⟩
theorem zd_14_87_321 : zz_D zy_tile_14_87 321 (.iload_n 1) 1 322 := ⟨by decide +kernel, rfl⟩
theorem zd_14_87_322 : zz_D zy_tile_14_87 322 (.iaload) 1 323 := ⟨by decide +kernel, rfl⟩
theorem zd_14_87_323 : zz_D zy_tile_14_87 323 (.invokevirtual 482) 3 326 := ⟨by decide +kernel, rfl⟩
theorem zd_14_87_326 : zz_D zy_tile_14_87 326 (.aload_n 0) 1 327 := ⟨by decide +kernel, rfl⟩
theorem zd_14_87_327 : zz_D zy_tile_14_87 327 (.bipush 12) 2 329 := ⟨by decide +kernel, rfl⟩
theorem zd_14_87_329 : zz_D zy_tile_14_87 329 (.aload_n 0) 1 330 := ⟨by decide +kernel, rfl⟩
theorem zd_14_87_330 : zz_D zy_tile_14_87 330 (.getfield 450) 3 333 := ⟨by decide +kernel, rfl⟩
theorem zd_14_87_333 : zz_D zy_tile_14_87 333 (.iconst 1) 1 334 := ⟨by decide +kernel, rfl⟩
theorem zd_14_87_334 : zz_B zy_tile_14_87 334 (Instr.if_icmp .le) 341 337 := ⟨7, by decide +kernel, rfl, rfl⟩
theorem zd_14_87_341 : zz_D zy_tile_14_87 341 (.iconst 0) 1 342 := ⟨by decide +kernel, rfl⟩
theorem zd_14_87_342 : zz_D zy_tile_14_87 342 (.ior) 1 343 := ⟨by decide +kernel, rfl⟩
theorem zd_14_87_343 : zz_D zy_tile_14_87 343 (.invokevirtual 459) 3 346 := ⟨by decide +kernel, rfl⟩
theorem zd_14_87_346 : zz_D zy_tile_14_87 346 (.iload_n 1) 1 347 := ⟨by decide +kernel, rfl⟩
theorem zd_14_87_347 : zz_D zy_tile_14_87 347 (.iconst 1) 1 348 := ⟨by decide +kernel, rfl⟩
theorem zd_14_87_348 : zz_D zy_tile_14_87 348 (.iadd) 1 349 := ⟨by decide +kernel, rfl⟩
theorem zd_14_87_349 : zz_D zy_tile_14_87 349 (.istore_n 3) 1 350 := ⟨by decide +kernel, rfl⟩
theorem zd_14_87_350 : zz_D zy_tile_14_87 350 (.aload_n 0) 1 351 := ⟨by decide +kernel, rfl⟩
theorem zd_14_87_351 : zz_D zy_tile_14_87 351 (.getfield 100) 3 354 := ⟨by decide +kernel, rfl⟩
theorem zd_14_87_354 : zz_D zy_tile_14_87 354 (.iload_n 1) 1 355 := ⟨by decide +kernel, rfl⟩
theorem zd_14_87_355 : zz_D zy_tile_14_87 355 (.iaload) 1 356 := ⟨by decide +kernel, rfl⟩
theorem zd_14_87_356 : zz_D zy_tile_14_87 356 (.iconst 2) 1 357 := ⟨by decide +kernel, rfl⟩
theorem zd_14_87_357 : zz_B zy_tile_14_87 357 (Instr.if_icmp .ne) 367 360 := ⟨10, by decide +kernel, rfl, rfl⟩
theorem zd_14_87_367 : zz_D zy_tile_14_87 367 (.aload_n 0) 1 368 := ⟨by decide +kernel, rfl⟩
theorem zd_14_87_368 : zz_D zy_tile_14_87 368 (.getfield 495) 3 371 := ⟨by decide +kernel, rfl⟩
theorem zd_14_87_371 : zz_D zy_tile_14_87 371 (.aload_n 0) 1 372 := ⟨by decide +kernel, rfl⟩
theorem zd_14_87_372 : zz_D zy_tile_14_87 372 (.getfield 91) 3 375 := ⟨by decide +kernel, rfl⟩
theorem zd_14_87_375 : zz_D zy_tile_14_87 375 (.iload_n 3) 1 376 := ⟨by decide +kernel, rfl⟩
theorem zd_14_87_376 : zz_D zy_tile_14_87 376 (.iaload) 1 377 := ⟨by decide +kernel, rfl⟩
theorem zd_14_87_377 : zz_D zy_tile_14_87 377 (.imul) 1 378 := ⟨by decide +kernel, rfl⟩
theorem zd_14_87_378 : zz_D zy_tile_14_87 378 (.aload_n 0) 1 379 := ⟨by decide +kernel, rfl⟩
theorem zd_14_87_379 : zz_D zy_tile_14_87 379 (.getfield 492) 3 382 := ⟨by decide +kernel, rfl⟩
theorem zd_14_87_382 : zz_D zy_tile_14_87 382 (.iadd) 1 383 := ⟨by decide +kernel, rfl⟩
theorem zd_14_87_383 : zz_D zy_tile_14_87 383 (.istore 4) 2 385 := ⟨by decide +kernel, rfl⟩
theorem zd_14_87_385 : zz_D zy_tile_14_87 385 (.aload_n 0) 1 386 := ⟨by decide +kernel, rfl⟩
theorem zd_14_87_386 : zz_D zy_tile_14_87 386 (.bipush 8) 2 388 := ⟨by decide +kernel, rfl⟩
theorem zd_14_87_388 : zz_D zy_tile_14_87 388 (.aload_n 0) 1 389 := ⟨by decide +kernel, rfl⟩
theorem zd_14_87_389 : zz_D zy_tile_14_87 389 (.getfield 97) 3 392 := ⟨by decide +kernel, rfl⟩
theorem zd_14_87_392 : zz_D zy_tile_14_87 392 (.iload_n 3) 1 393 := ⟨by decide +kernel, rfl⟩
theorem zd_14_87_393 : zz_D zy_tile_14_87 393 (.iaload) 1 394 := ⟨by decide +kernel, rfl⟩
theorem zd_14_87_394 : zz_D zy_tile_14_87 394 (.iload 4) 2 396 := ⟨by decide +kernel, rfl⟩
theorem zd_14_87_396 : zz_D zy_tile_14_87 396 (.aload_n 0) 1 397 := ⟨by decide +kernel, rfl⟩
theorem zd_14_87_397 : zz_D zy_tile_14_87 397 (.getfield 94) 3 400 := ⟨by decide +kernel, rfl⟩
theorem zd_14_87_400 : zz_D zy_tile_14_87 400 (.iload_n 3) 1 401 := ⟨by decide +kernel, rfl⟩
theorem zd_14_87_401 : zz_D zy_tile_14_87 401 (.iaload) 1 402 := ⟨by decide +kernel, rfl⟩
theorem zd_14_87_402 : zz_D zy_tile_14_87 402 (.imul) 1 403 := ⟨by decide +kernel, rfl⟩
theorem zd_14_87_403 : zz_D zy_tile_14_87 403 (.iadd) 1 404 := ⟨by decide +kernel, rfl⟩
theorem zd_14_87_404 : zz_D zy_tile_14_87 404 (.aload_n 0) 1 405 := ⟨by decide +kernel, rfl⟩
theorem zd_14_87_405 : zz_D zy_tile_14_87 405 (.getfield 466) 3 408 := ⟨by decide +kernel, rfl⟩
theorem zd_14_87_408 : zz_D zy_tile_14_87 408 (.iadd) 1 409 := ⟨by decide +kernel, rfl⟩
theorem zd_14_87_409 : zz_D zy_tile_14_87 409 (.aload_n 0) 1 410 := ⟨by decide +kernel, rfl⟩
theorem zd_14_87_410 : zz_D zy_tile_14_87 410 (.getfield 469) 3 413 := ⟨by decide +kernel, rfl⟩
theorem zd_14_87_413 : zz_D zy_tile_14_87 413 (.aload_n 0) 1 414 := ⟨by decide +kernel, rfl⟩
theorem zd_14_87_414 : zz_D zy_tile_14_87 414 (.getfield 472) 3 417 := ⟨by decide +kernel, rfl⟩
theorem zd_14_87_417 : zz_D zy_tile_14_87 417 (.invokevirtual 475) 3 420 := ⟨by decide +kernel, rfl⟩
theorem zd_14_87_420 : zz_D zy_tile_14_87 420 (.aload_n 0) 1 421 := ⟨by decide +kernel, rfl⟩
theorem zd_14_87_421 : zz_D zy_tile_14_87 421 (.aload_n 0) 1 422 := ⟨by decide +kernel, rfl⟩
theorem zd_14_87_422 : zz_D zy_tile_14_87 422 (.invokevirtual 479) 3 425 := ⟨by decide +kernel, rfl⟩
theorem zd_14_87_425 : zz_D zy_tile_14_87 425 (.iconst 0) 1 426 := ⟨by decide +kernel, rfl⟩
theorem zd_14_87_426 : zz_D zy_tile_14_87 426 (.aload_n 0) 1 427 := ⟨by decide +kernel, rfl⟩
theorem zd_14_87_427 : zz_D zy_tile_14_87 427 (.getfield 94) 3 430 := ⟨by decide +kernel, rfl⟩
theorem zd_14_87_430 : zz_D zy_tile_14_87 430 (.iload_n 3) 1 431 := ⟨by decide +kernel, rfl⟩
theorem zd_14_87_431 : zz_D zy_tile_14_87 431 (.iaload) 1 432 := ⟨by decide +kernel, rfl⟩
theorem zd_14_87_432 : zz_D zy_tile_14_87 432 (.iconst 0) 1 433 := ⟨by decide +kernel, rfl⟩
theorem zd_14_87_433 : zz_D zy_tile_14_87 433 (.invokevirtual 482) 3 436 := ⟨by decide +kernel, rfl⟩
theorem zd_14_87_436 : zz_D zy_tile_14_87 436 (.aload_n 0) 1 437 := ⟨by decide +kernel, rfl⟩
theorem zd_14_87_437 : zz_D zy_tile_14_87 437 (.iconst 5) 1 438 := ⟨by decide +kernel, rfl⟩
theorem zd_14_87_438 : zz_D zy_tile_14_87 438 (.invokevirtual 459) 3 441 := ⟨by decide +kernel, rfl⟩
theorem zd_14_87_441 : zz_D zy_tile_14_87 441 (.aload_n 0) 1 442 := ⟨by decide +kernel, rfl⟩
theorem zd_14_87_442 : zz_D zy_tile_14_87 442 (.dup) 1 443 := ⟨by decide +kernel, rfl⟩
theorem zd_14_87_443 : zz_D zy_tile_14_87 443 (.getfield 450) 3 446 := ⟨by decide +kernel, rfl⟩
theorem zd_14_87_446 : zz_D zy_tile_14_87 446 (.iconst 1) 1 447 := ⟨by decide +kernel, rfl⟩
theorem zd_14_87_447 : zz_D zy_tile_14_87 447 (.iadd) 1 448 := ⟨by decide +kernel, rfl⟩
theorem zd_14_87_448 : zz_D zy_tile_14_87 448 (.putfield 450) 3 451 := ⟨by decide +kernel, rfl⟩
theorem zd_14_87_451 : zz_D zy_tile_14_87 451 (.return_) 1 452 := ⟨by decide +kernel, rfl⟩
theorem zd_14_87_360 : zz_D zy_tile_14_87 360 (.aload_n 0) 1 361 := ⟨by decide +kernel, rfl⟩
theorem zd_14_87_361 : zz_D zy_tile_14_87 361 (.getfield 492) 3 364 := ⟨by decide +kernel, rfl⟩
theorem zd_14_87_364 : zz_B zy_tile_14_87 364 Instr.goto 383 367 := ⟨19, by decide +kernel, rfl, rfl⟩
theorem zd_14_87_337 : zz_D zy_tile_14_87 337 (.iconst 2) 1 338 := ⟨by decide +kernel, rfl⟩
theorem zd_14_87_338 : zz_B zy_tile_14_87 338 Instr.goto 342 341 := ⟨4, by decide +kernel, rfl, rfl⟩
theorem zd_14_87_157 : zz_D zy_tile_14_87 157 (.iload_n 3) 1 158 := ⟨by decide +kernel, rfl⟩
theorem zd_14_87_158 : zz_B zy_tile_14_87 158 (Instr.ifCond .eq) 168 161 := ⟨10, by decide +kernel, rfl, rfl⟩
theorem zd_14_87_168 : zz_D zy_tile_14_87 168 (.iload 6) 2 170 := ⟨by decide +kernel, rfl⟩
theorem zd_14_87_170 : zz_D zy_tile_14_87 170 (.iload 5) 2 172 := ⟨by decide +kernel, rfl⟩
theorem zd_14_87_172 : zz_D zy_tile_14_87 172 (.irem) 1 173 := ⟨by decide +kernel, rfl⟩
theorem zd_14_87_173 : zz_D zy_tile_14_87 173 (.aload_n 0) 1 174 := ⟨by decide +kernel, rfl⟩
theorem zd_14_87_174 : zz_D zy_tile_14_87 174 (.getfield 7) 3 177 := ⟨by decide +kernel, rfl⟩
theorem zd_14_87_177 : zz_D zy_tile_14_87 177 (.imul) 1 178 := ⟨by decide +kernel, rfl⟩
theorem zd_14_87_178 : zz_D zy_tile_14_87 178 (.istore 7) 2 180 := ⟨by decide +kernel, rfl⟩
theorem zd_14_87_180 : zz_D zy_tile_14_87 180 (.iload_n 3) 1 181 := ⟨by decide +kernel, rfl⟩
theorem zd_14_87_181 : zz_B zy_tile_14_87 181 (Instr.ifCond .eq) 191 184 := ⟨10, by decide +kernel, rfl, rfl⟩
theorem zd_14_87_191 : zz_D zy_tile_14_87 191 (.aload_n 0) 1 192 := ⟨by decide +kernel, rfl⟩
theorem zd_14_87_192 : zz_D zy_tile_14_87 192 (.getfield 7) 3 195 := ⟨by decide +kernel, rfl⟩
theorem zd_14_87_195 : zz_D zy_tile_14_87 195 (.aload_n 0) 1 196 := ⟨by decide +kernel, rfl⟩
theorem zd_14_87_196 : zz_D zy_tile_14_87 196 (.getfield 94) 3 199 := ⟨by decide +kernel, rfl⟩
theorem zd_14_87_199 : zz_D zy_tile_14_87 199 (.iload_n 2) 1 200 := ⟨by decide +kernel, rfl⟩
theorem zd_14_87_200 : zz_D zy_tile_14_87 200 (.iaload) 1 201 := ⟨by decide +kernel, rfl⟩
theorem zd_14_87_201 : zz_D zy_tile_14_87 201 (.iload 7) 2 203 := ⟨by decide +kernel, rfl⟩
theorem zd_14_87_203 : zz_D zy_tile_14_87 203 (.isub) 1 204 := ⟨by decide +kernel, rfl⟩
theorem zd_14_87_204 : zz_D zy_tile_14_87 204 (.invokestatic 506) 3 207 := ⟨by decide +kernel, rfl⟩
theorem zk_Md_506 : mm_Sl "TensorForgeModel" 506 2 zy_least_14_85 := ⟨zyw_least_14_85, mm_tb_1 2141 (by decide +kernel) rfl, mm_tb_1 2142 (by decide +kernel) rfl⟩
theorem zd_14_87_207 : zz_D zy_tile_14_87 207 (.istore 8) 2 209 := ⟨by decide +kernel, rfl⟩
theorem zd_14_87_209 : zz_D zy_tile_14_87 209 (.aload_n 0) 1 210 := ⟨by decide +kernel, rfl⟩
theorem zd_14_87_210 : zz_D zy_tile_14_87 210 (.iload_n 1) 1 211 := ⟨by decide +kernel, rfl⟩
theorem zd_14_87_211 : zz_D zy_tile_14_87 211 (.iload 6) 2 213 := ⟨by decide +kernel, rfl⟩
theorem zd_14_87_213 : zz_D zy_tile_14_87 213 (.iload 5) 2 215 := ⟨by decide +kernel, rfl⟩
theorem zd_14_87_215 : zz_D zy_tile_14_87 215 (.idiv) 1 216 := ⟨by decide +kernel, rfl⟩
theorem zd_14_87_216 : zz_D zy_tile_14_87 216 (.aload_n 0) 1 217 := ⟨by decide +kernel, rfl⟩
theorem zd_14_87_217 : zz_D zy_tile_14_87 217 (.getfield 112) 3 220 := ⟨by decide +kernel, rfl⟩
theorem zd_14_87_220 : zz_D zy_tile_14_87 220 (.iload_n 1) 1 221 := ⟨by decide +kernel, rfl⟩
theorem zd_14_87_221 : zz_D zy_tile_14_87 221 (.iaload) 1 222 := ⟨by decide +kernel, rfl⟩
theorem zd_14_87_222 : zz_D zy_tile_14_87 222 (.idiv) 1 223 := ⟨by decide +kernel, rfl⟩
theorem zd_14_87_223 : zz_D zy_tile_14_87 223 (.iload 6) 2 225 := ⟨by decide +kernel, rfl⟩
theorem zd_14_87_225 : zz_D zy_tile_14_87 225 (.iload 5) 2 227 := ⟨by decide +kernel, rfl⟩
theorem zd_14_87_227 : zz_D zy_tile_14_87 227 (.idiv) 1 228 := ⟨by decide +kernel, rfl⟩
theorem zd_14_87_228 : zz_D zy_tile_14_87 228 (.aload_n 0) 1 229 := ⟨by decide +kernel, rfl⟩
theorem zd_14_87_229 : zz_D zy_tile_14_87 229 (.getfield 112) 3 232 := ⟨by decide +kernel, rfl⟩
theorem zd_14_87_232 : zz_D zy_tile_14_87 232 (.iload_n 1) 1 233 := ⟨by decide +kernel, rfl⟩
theorem zd_14_87_233 : zz_D zy_tile_14_87 233 (.iaload) 1 234 := ⟨by decide +kernel, rfl⟩
theorem zd_14_87_234 : zz_D zy_tile_14_87 234 (.irem) 1 235 := ⟨by decide +kernel, rfl⟩
theorem zd_14_87_235 : zz_D zy_tile_14_87 235 (.iload 7) 2 237 := ⟨by decide +kernel, rfl⟩
theorem zd_14_87_237 : zz_D zy_tile_14_87 237 (.iload 8) 2 239 := ⟨by decide +kernel, rfl⟩
theorem zd_14_87_239 : zz_D zy_tile_14_87 239 (.iload 6) 2 241 := ⟨by decide +kernel, rfl⟩
theorem zd_14_87_241 : zz_B zy_tile_14_87 241 (Instr.ifCond .ne) 248 244 := ⟨7, by decide +kernel, rfl, rfl⟩
theorem zd_14_87_244 : zz_D zy_tile_14_87 244 (.iconst 1) 1 245 := ⟨by decide +kernel, rfl⟩
theorem zd_14_87_245 : zz_B zy_tile_14_87 245 Instr.goto 249 248 := ⟨4, by decide +kernel, rfl, rfl⟩
theorem zd_14_87_249 : zz_D zy_tile_14_87 249 (.invokevirtual 498) 3 252 := ⟨by decide +kernel, rfl⟩
theorem zk_Md_498 : mm_Vl "TensorForgeModel" 498 11 6 zy_group_14_83 := ⟨zyw_group_14_83, (R_Md, F_Md, 69), rfl, mm_tb_1 2148 (by decide +kernel) rfl, mm_tb_1 2150 (by decide +kernel) rfl, mm_tb_s 129 (by decide +kernel) rfl⟩
theorem zd_14_87_252 : zz_D zy_tile_14_87 252 (.aload_n 0) 1 253 := ⟨by decide +kernel, rfl⟩
theorem zd_14_87_253 : zz_D zy_tile_14_87 253 (.iload_n 1) 1 254 := ⟨by decide +kernel, rfl⟩
theorem zd_14_87_254 : zz_D zy_tile_14_87 254 (.iload 8) 2 256 := ⟨by decide +kernel, rfl⟩
theorem zd_14_87_256 : zz_D zy_tile_14_87 256 (.iload 6) 2 258 := ⟨by decide +kernel, rfl⟩
theorem zd_14_87_258 : zz_B zy_tile_14_87 258 (Instr.ifCond .ne) 265 261 := ⟨7, by decide +kernel, rfl, rfl⟩
theorem zd_14_87_261 : zz_D zy_tile_14_87 261 (.iconst 1) 1 262 := ⟨by decide +kernel, rfl⟩
theorem zd_14_87_262 : zz_B zy_tile_14_87 262 Instr.goto 266 265 := ⟨4, by decide +kernel, rfl, rfl⟩
theorem zd_14_87_266 : zz_D zy_tile_14_87 266 (.iload 6) 2 268 := ⟨by decide +kernel, rfl⟩
theorem zd_14_87_268 : zz_D zy_tile_14_87 268 (.iload 4) 2 270 := ⟨by decide +kernel, rfl⟩
theorem zd_14_87_270 : zz_D zy_tile_14_87 270 (.iload 5) 2 272 := ⟨by decide +kernel, rfl⟩
theorem zd_14_87_272 : zz_D zy_tile_14_87 272 (.imul) 1 273 := ⟨by decide +kernel, rfl⟩
theorem zd_14_87_273 : zz_D zy_tile_14_87 273 (.iconst 1) 1 274 := ⟨by decide +kernel, rfl⟩
theorem zd_14_87_274 : zz_D zy_tile_14_87 274 (.isub) 1 275 := ⟨by decide +kernel, rfl⟩
theorem zd_14_87_275 : zz_B zy_tile_14_87 275 (Instr.if_icmp .ne) 282 278 := ⟨7, by decide +kernel, rfl, rfl⟩
theorem zd_14_87_282 : zz_D zy_tile_14_87 282 (.iconst 0) 1 283 := ⟨by decide +kernel, rfl⟩
theorem zd_14_87_283 : zz_D zy_tile_14_87 283 (.invokevirtual 502) 3 286 := ⟨by decide +kernel, rfl⟩
theorem zk_Md_502 : mm_Vl "TensorForgeModel" 502 11 4 zy_works_14_86 := ⟨zyw_works_14_86, (R_Md, F_Md, 69), rfl, mm_tb_1 2180 (by decide +kernel) rfl, mm_tb_1 2182 (by decide +kernel) rfl, mm_tb_s 137 (by decide +kernel) rfl⟩
theorem zd_14_87_286 : zz_D zy_tile_14_87 286 (.iinc 6 1) 3 289 := ⟨by decide +kernel, rfl⟩
theorem zd_14_87_289 : zz_B zy_tile_14_87 289 Instr.goto 147 292 := ⟨(-142), by decide +kernel, rfl, rfl⟩
theorem zd_14_87_278 : zz_D zy_tile_14_87 278 (.iconst 1) 1 279 := ⟨by decide +kernel, rfl⟩
theorem zd_14_87_279 : zz_B zy_tile_14_87 279 Instr.goto 283 282 := ⟨4, by decide +kernel, rfl, rfl⟩
theorem zd_14_87_19 : zz_D zy_tile_14_87 19 (.iload_n 3) 1 20 := ⟨by decide +kernel, rfl⟩
theorem zd_14_87_20 : zz_D zy_tile_14_87 20 (.iconst 2) 1 21 := ⟨by decide +kernel, rfl⟩
theorem zd_14_87_21 : zz_B zy_tile_14_87 21 (Instr.if_icmp .ge) 82 24 := ⟨61, by decide +kernel, rfl, rfl⟩
theorem zd_14_87_24 : zz_D zy_tile_14_87 24 (.aload_n 0) 1 25 := ⟨by decide +kernel, rfl⟩
theorem zd_14_87_25 : zz_D zy_tile_14_87 25 (.iload_n 1) 1 26 := ⟨by decide +kernel, rfl⟩
theorem zd_14_87_26 : zz_D zy_tile_14_87 26 (.iload_n 3) 1 27 := ⟨by decide +kernel, rfl⟩
theorem zd_14_87_27 : zz_D zy_tile_14_87 27 (.iconst 0) 1 28 := ⟨by decide +kernel, rfl⟩
theorem zd_14_87_28 : zz_D zy_tile_14_87 28 (.aload_n 0) 1 29 := ⟨by decide +kernel, rfl⟩
theorem zd_14_87_29 : zz_D zy_tile_14_87 29 (.getfield 466) 3 32 := ⟨by decide +kernel, rfl⟩
theorem zd_14_87_32 : zz_D zy_tile_14_87 32 (.aload_n 0) 1 33 := ⟨by decide +kernel, rfl⟩
theorem zd_14_87_33 : zz_D zy_tile_14_87 33 (.getfield 472) 3 36 := ⟨by decide +kernel, rfl⟩
theorem zd_14_87_36 : zz_D zy_tile_14_87 36 (.iload_n 3) 1 37 := ⟨by decide +kernel, rfl⟩
theorem zd_14_87_37 : zz_B zy_tile_14_87 37 (Instr.ifCond .ne) 44 40 := ⟨7, by decide +kernel, rfl, rfl⟩
theorem zd_14_87_40 : zz_D zy_tile_14_87 40 (.iconst 1) 1 41 := ⟨by decide +kernel, rfl⟩
theorem zd_14_87_41 : zz_B zy_tile_14_87 41 Instr.goto 45 44 := ⟨4, by decide +kernel, rfl, rfl⟩
theorem zd_14_87_45 : zz_D zy_tile_14_87 45 (.invokevirtual 498) 3 48 := ⟨by decide +kernel, rfl⟩
theorem zd_14_87_48 : zz_D zy_tile_14_87 48 (.aload_n 0) 1 49 := ⟨by decide +kernel, rfl⟩
theorem zd_14_87_49 : zz_D zy_tile_14_87 49 (.iload_n 1) 1 50 := ⟨by decide +kernel, rfl⟩
theorem zd_14_87_50 : zz_D zy_tile_14_87 50 (.aload_n 0) 1 51 := ⟨by decide +kernel, rfl⟩
theorem zd_14_87_51 : zz_D zy_tile_14_87 51 (.getfield 472) 3 54 := ⟨by decide +kernel, rfl⟩
theorem zd_14_87_54 : zz_D zy_tile_14_87 54 (.iload_n 3) 1 55 := ⟨by decide +kernel, rfl⟩
theorem zd_14_87_55 : zz_B zy_tile_14_87 55 (Instr.ifCond .ne) 62 58 := ⟨7, by decide +kernel, rfl, rfl⟩
theorem zd_14_87_58 : zz_D zy_tile_14_87 58 (.iconst 1) 1 59 := ⟨by decide +kernel, rfl⟩
theorem zd_14_87_59 : zz_B zy_tile_14_87 59 Instr.goto 63 62 := ⟨4, by decide +kernel, rfl, rfl⟩
theorem zd_14_87_63 : zz_D zy_tile_14_87 63 (.iload_n 3) 1 64 := ⟨by decide +kernel, rfl⟩
theorem zd_14_87_64 : zz_D zy_tile_14_87 64 (.iconst 1) 1 65 := ⟨by decide +kernel, rfl⟩
theorem zd_14_87_65 : zz_B zy_tile_14_87 65 (Instr.if_icmp .ne) 72 68 := ⟨7, by decide +kernel, rfl, rfl⟩
theorem zd_14_87_72 : zz_D zy_tile_14_87 72 (.iconst 0) 1 73 := ⟨by decide +kernel, rfl⟩
theorem zd_14_87_73 : zz_D zy_tile_14_87 73 (.invokevirtual 502) 3 76 := ⟨by decide +kernel, rfl⟩
theorem zd_14_87_76 : zz_D zy_tile_14_87 76 (.iinc 3 1) 3 79 := ⟨by decide +kernel, rfl⟩
theorem zd_14_87_79 : zz_B zy_tile_14_87 79 Instr.goto 19 82 := ⟨(-60), by decide +kernel, rfl, rfl⟩
theorem zd_14_87_248 : zz_D zy_tile_14_87 248 (.iconst 0) 1 249 := ⟨by decide +kernel, rfl⟩
theorem zd_14_87_265 : zz_D zy_tile_14_87 265 (.iconst 0) 1 266 := ⟨by decide +kernel, rfl⟩
theorem zd_14_87_44 : zz_D zy_tile_14_87 44 (.iconst 0) 1 45 := ⟨by decide +kernel, rfl⟩
theorem zd_14_87_62 : zz_D zy_tile_14_87 62 (.iconst 0) 1 63 := ⟨by decide +kernel, rfl⟩
theorem zd_14_87_68 : zz_D zy_tile_14_87 68 (.iconst 1) 1 69 := ⟨by decide +kernel, rfl⟩
theorem zd_14_87_69 : zz_B zy_tile_14_87 69 Instr.goto 73 72 := ⟨4, by decide +kernel, rfl, rfl⟩
theorem zd_14_87_161 : zz_D zy_tile_14_87 161 (.aload_n 0) 1 162 := ⟨by decide +kernel, rfl⟩
theorem zd_14_87_162 : zz_D zy_tile_14_87 162 (.getfield 466) 3 165 := ⟨by decide +kernel, rfl⟩
theorem zd_14_87_165 : zz_B zy_tile_14_87 165 Instr.goto 178 168 := ⟨13, by decide +kernel, rfl, rfl⟩
theorem zd_14_87_184 : zz_D zy_tile_14_87 184 (.aload_n 0) 1 185 := ⟨by decide +kernel, rfl⟩
theorem zd_14_87_185 : zz_D zy_tile_14_87 185 (.getfield 472) 3 188 := ⟨by decide +kernel, rfl⟩
theorem zd_14_87_188 : zz_B zy_tile_14_87 188 Instr.goto 207 191 := ⟨19, by decide +kernel, rfl, rfl⟩
theorem zd_14_87_82 : zz_B zy_tile_14_87 82 Instr.goto 292 85 := ⟨210, by decide +kernel, rfl, rfl⟩
-- TensorForgeModel tile (I)V
abbrev zr_tile_14_87 : Room := { frames := 6, cells := 0, slots := 0, locals := 105 }
def zp_tile_14_87 (p0 : Int) (S0 : zz_S) : zz_S → Prop := fun S => zz_G S ∧ zz_fr [(1079, 10), (1079, 50), (1079, 51), (1079, 57), (1079, 60)] [1086, 1087] (fun _ _ => False) S0 S ∧ (S0 1079 10 ≤ S 1079 10 ∧ S 1079 10 ≤ S0 1079 10 + 2000)
theorem zb_tile_14_87_19 {g : mm_G} {l : Launch} (p0 : Int) (S0 : zz_S) (n : Nat) (hn : zz_end ≤ n) (G_S0 : zz_G S0) (hp0 : 0 ≤ p0 ∧ p0 ≤ 9) (hq : S0 1079 10 ≤ 600) (x3 : Int) (S : zz_S) (G_S : zz_G S) (F_S : zz_fr [(1079, 10), (1079, 50), (1079, 51), (1079, 57), (1079, 60)] [1086, 1087] (fun _ _ => False) S0 S) (i19_0 : 0 ≤ x3 ∧ x3 ≤ 2) (i19_1 : S0 1106 p0.toNat = 2) (i19_2 : S0 1079 10 ≤ S 1079 10 ∧ S 1079 10 ≤ S0 1079 10 + 6 * x3) (R : Nat) (hR : (34359738368 + (2 - x3).toNat) = R) (k19 : ∀ (x3 : Int) (S : zz_S), zz_G S → zz_fr [(1079, 10), (1079, 50), (1079, 51), (1079, 57), (1079, 60)] [1086, 1087] (fun _ _ => False) S0 S → (0 ≤ x3 ∧ x3 ≤ 2) → (S0 1106 p0.toNat = 2) → (S0 1079 10 ≤ S 1079 10 ∧ S 1079 10 ≤ S0 1079 10 + 6 * x3) → (34359738368 + (2 - x3).toNat) < R → zz_E g l zy_tile_14_87 zr_tile_14_87 (zz_QV n (zp_tile_14_87 p0 S0)) S n 19 [some (.ref 1079), some (zi p0), none, some (zi x3)] [] 0 0) : zz_E g l zy_tile_14_87 zr_tile_14_87 (zz_QV n (zp_tile_14_87 p0 S0)) S n 19 [some (.ref 1079), some (zi p0), none, some (zi x3)] [] 0 0 := by
  refine zz_iload_n (x := x3) rfl zd_14_87_19 ?_
  refine zz_iconst zd_14_87_20 ?_
  refine zz_icmp_ge (by omega) (by omega) zd_14_87_21 (fun c256 => ?_) (fun c256 => ?_)
  · refine zz_goto zd_14_87_82 ?_
    refine zz_aload_n (x := 1079) rfl zd_14_87_292 ?_
    refine zz_bipush (by decide) zd_14_87_293 ?_
    refine zz_iconst zd_14_87_295 ?_
    refine zz_aload_n (x := 1079) rfl zd_14_87_296 ?_
    have g257 := zz_G.r G_S0 1079 52 (-2147483648) 2147483647 rfl rfl
    refine zz_geti (z := S0 1079 52) zd_14_87_297 zf_Md_469 zT_1079 rfl (zz_ltn hn rfl) (zz_rc F_S rfl rfl (fun h => h) rfl) ?_
    refine zz_aload_n (x := 1079) rfl zd_14_87_300 ?_
    have g258 := zz_G.r G_S0 1079 53 (-2147483648) 2147483647 rfl rfl
    refine zz_geti (z := S0 1079 53) zd_14_87_301 zf_Md_472 zT_1079 rfl (zz_ltn hn rfl) (zz_rc F_S rfl rfl (fun h => h) rfl) ?_
    refine zz_callVV [zi 7, zi 0, zi (S0 1079 52), zi (S0 1079 53)] zd_14_87_304 zk_Md_475 zT_1079 (zz_ltn hn rfl) rfl rfl ⟨Nat.le_of_ble_eq_true rfl, Nat.le_of_ble_eq_true rfl⟩ ⟨rfl, rfl⟩ (Nat.zero_le _) (Nat.zero_le _) (zc_set_14_78 7 0 (S0 1079 52) (S0 1079 53) S n hn G_S (by omega) (by omega) (by omega) (by omega)) (fun S259 hP => ?_)
    obtain ⟨G_S259, fS259⟩ := hP
    have F_S259 := zz_fr.trans F_S fS259 rfl zz_nv
    refine zz_aload_n (x := 1079) rfl zd_14_87_307 ?_
    refine zz_aload_n (x := 1079) rfl zd_14_87_308 ?_
    refine zz_callVI [] zd_14_87_309 zk_Md_479 zT_1079 (zz_ltn hn rfl) rfl rfl ⟨Nat.le_of_ble_eq_true rfl, Nat.le_of_ble_eq_true rfl⟩ ⟨rfl, rfl⟩ (Nat.zero_le _) (Nat.zero_le _) (zc_quarter_14_81  S259 n hn G_S259 ) (fun v262 S261 hP => ?_)
    obtain ⟨rfl, o263⟩ := hP
    refine zz_aload_n (x := 1079) rfl zd_14_87_312 ?_
    refine zz_callVI [] zd_14_87_313 zk_Md_479 zT_1079 (zz_ltn hn rfl) rfl rfl ⟨Nat.le_of_ble_eq_true rfl, Nat.le_of_ble_eq_true rfl⟩ ⟨rfl, rfl⟩ (Nat.zero_le _) (Nat.zero_le _) (zc_quarter_14_81  S259 n hn G_S259 ) (fun v265 S264 hP => ?_)
    obtain ⟨rfl, o266⟩ := hP
    refine zz_iconst zd_14_87_316 ?_
    refine zz_aload_n (x := 1079) rfl zd_14_87_317 ?_
    refine zz_getr (kd := 0) (z := 1113) zd_14_87_318 zf_Md_121 zT_1079 rfl (zz_ltn hn rfl) (zz_G.eq G_S259 1079 48 1113 rfl rfl) (by decide) 1113 rfl ?_
    refine zz_iload_n (x := p0) rfl zd_14_87_321 ?_
    have g267 := zz_G.r G_S0 1113 p0.toNat 0 31 rfl rfl
    refine zz_iald (z := S0 1113 p0.toNat) zd_14_87_322 zT_1113 rfl (zz_ltn hn rfl) (by decide) (by omega) (zz_rc fS259 (zz_nc1 rfl) rfl (fun h => h) (zz_rc F_S (zz_nc1 rfl) rfl (fun h => h) rfl)) ?_
    refine zz_callVV [zi v262, zi v265, zi 0, zi (S0 1113 p0.toNat)] zd_14_87_323 zk_Md_482 zT_1079 (zz_ltn hn rfl) rfl rfl ⟨Nat.le_of_ble_eq_true rfl, Nat.le_of_ble_eq_true rfl⟩ ⟨rfl, rfl⟩ (Nat.zero_le _) (Nat.zero_le _) (zc_with_14_79 v262 v265 0 (S0 1113 p0.toNat) S259 n hn G_S259 (by omega) (by omega) (by omega) (by omega)) (fun S268 hP => ?_)
    obtain ⟨G_S268, fS268⟩ := hP
    have F_S268 := zz_fr.trans F_S259 fS268 rfl zz_nv
    refine zz_aload_n (x := 1079) rfl zd_14_87_326 ?_
    refine zz_bipush (by decide) zd_14_87_327 ?_
    refine zz_aload_n (x := 1079) rfl zd_14_87_329 ?_
    have g270 := zz_G.r G_S 1079 50 (-2147483648) 2147483647 rfl rfl
    refine zz_geti (z := S 1079 50) zd_14_87_330 zf_Md_450 zT_1079 rfl (zz_ltn hn rfl) (zz_rc fS268 rfl rfl (fun h => h) (zz_rc fS259 rfl rfl (fun h => h) rfl)) ?_
    refine zz_iconst zd_14_87_333 ?_
    refine zz_icmp_le (by omega) (by omega) zd_14_87_334 (fun c271 => ?_) (fun c271 => ?_)
    · refine zz_iconst zd_14_87_341 ?_
      refine zz_ior (by omega) (by omega) zd_14_87_342 (fun v272 hv272 av272 ev272 => ?_)
      have g273 := zz_G.r G_S 1079 10 0 1000000 rfl rfl
      have e274 : S268 1079 10 = S 1079 10 := (zz_rc fS268 rfl rfl (fun h => h) (zz_rc fS259 rfl rfl (fun h => h) rfl))
      refine zz_callVV [zi v272] zd_14_87_343 zk_Md_459 zT_1079 (zz_ltn hn rfl) rfl rfl ⟨Nat.le_of_ble_eq_true rfl, Nat.le_of_ble_eq_true rfl⟩ ⟨rfl, rfl⟩ (Nat.zero_le _) (Nat.zero_le _) (zc_emit_14_77 v272 S268 n hn G_S268 (by omega) (by omega)) (fun S275 hP => ?_)
      obtain ⟨G_S275, fS275, o277⟩ := hP
      have F_S275 := zz_fr.trans F_S268 fS275 rfl zz_nv
      refine zz_iload_n (x := p0) rfl zd_14_87_346 ?_
      refine zz_iconst zd_14_87_347 ?_
      refine zz_iadd zd_14_87_348 ?_
      refine zz_istore_n [some (.ref 1079), some (zi p0), none, some (zi (p0 + 1))] zd_14_87_349 (by decide) rfl ?_
      refine zz_aload_n (x := 1079) rfl zd_14_87_350 ?_
      refine zz_getr (kd := 0) (z := 1106) zd_14_87_351 zf_Md_100 zT_1079 rfl (zz_ltn hn rfl) (zz_G.eq G_S275 1079 41 1106 rfl rfl) (by decide) 1106 rfl ?_
      refine zz_iload_n (x := p0) rfl zd_14_87_354 ?_
      have g278 := zz_G.r G_S0 1106 p0.toNat 0 2 rfl rfl
      refine zz_iald (z := S0 1106 p0.toNat) zd_14_87_355 zT_1106 rfl (zz_ltn hn rfl) (by decide) (by omega) (zz_rc fS275 (zz_nc1 rfl) rfl (fun h => h) (zz_rc fS268 (zz_nc1 rfl) rfl (fun h => h) (zz_rc fS259 (zz_nc1 rfl) rfl (fun h => h) (zz_rc F_S (zz_nc1 rfl) rfl (fun h => h) rfl)))) ?_
      refine zz_iconst zd_14_87_356 ?_
      refine zz_icmp_ne (by omega) (by omega) zd_14_87_357 (fun c279 => ?_) (fun c279 => ?_)
      · refine zz_aload_n (x := 1079) rfl zd_14_87_367 ?_
        have g280 := zz_G.r G_S0 1079 55 (-2147483648) 2147483647 rfl rfl
        refine zz_geti (z := S0 1079 55) zd_14_87_368 zf_Md_495 zT_1079 rfl (zz_ltn hn rfl) (zz_rc fS275 rfl rfl (fun h => h) (zz_rc fS268 rfl rfl (fun h => h) (zz_rc fS259 rfl rfl (fun h => h) (zz_rc F_S rfl rfl (fun h => h) rfl)))) ?_
        refine zz_aload_n (x := 1079) rfl zd_14_87_371 ?_
        refine zz_getr (kd := 0) (z := 1103) zd_14_87_372 zf_Md_91 zT_1079 rfl (zz_ltn hn rfl) (zz_G.eq G_S275 1079 38 1103 rfl rfl) (by decide) 1103 rfl ?_
        refine zz_iload_n (x := p0 + 1) rfl zd_14_87_375 ?_
        have g281 := zz_G.r G_S0 1103 ((p0 + 1).toNat) 0 63 rfl rfl
        refine zz_iald (z := S0 1103 ((p0 + 1).toNat)) zd_14_87_376 zT_1103 rfl (zz_ltn hn rfl) (by decide) (by omega) (zz_rc fS275 (zz_nc1 rfl) rfl (fun h => h) (zz_rc fS268 (zz_nc1 rfl) rfl (fun h => h) (zz_rc fS259 (zz_nc1 rfl) rfl (fun h => h) (zz_rc F_S (zz_nc1 rfl) rfl (fun h => h) rfl)))) ?_
        refine zz_imul zd_14_87_377 ?_
        refine zz_nrm (fun v282 hv282 ev282 => ?_)
        refine zz_aload_n (x := 1079) rfl zd_14_87_378 ?_
        have g283 := zz_G.r G_S0 1079 54 (-2147483648) 2147483647 rfl rfl
        refine zz_geti (z := S0 1079 54) zd_14_87_379 zf_Md_492 zT_1079 rfl (zz_ltn hn rfl) (zz_rc fS275 rfl rfl (fun h => h) (zz_rc fS268 rfl rfl (fun h => h) (zz_rc fS259 rfl rfl (fun h => h) (zz_rc F_S rfl rfl (fun h => h) rfl)))) ?_
        refine zz_iadd zd_14_87_382 ?_
        refine zz_nrm (fun v284 hv284 ev284 => ?_)
        refine zz_istore [some (.ref 1079), some (zi p0), none, some (zi (p0 + 1)), some (zi v284)] zd_14_87_383 (by decide) rfl ?_
        refine zz_aload_n (x := 1079) rfl zd_14_87_385 ?_
        refine zz_bipush (by decide) zd_14_87_386 ?_
        refine zz_aload_n (x := 1079) rfl zd_14_87_388 ?_
        refine zz_getr (kd := 0) (z := 1105) zd_14_87_389 zf_Md_97 zT_1079 rfl (zz_ltn hn rfl) (zz_G.eq G_S275 1079 40 1105 rfl rfl) (by decide) 1105 rfl ?_
        refine zz_iload_n (x := p0 + 1) rfl zd_14_87_392 ?_
        have g285 := zz_G.r G_S0 1105 ((p0 + 1).toNat) (0) (if (p0 + 1).toNat = 0 then 0 else 10000000) rfl rfl
        refine zz_iald (z := S0 1105 ((p0 + 1).toNat)) zd_14_87_393 zT_1105 rfl (zz_ltn hn rfl) (by decide) (by omega) (zz_rc fS275 (zz_nc1 rfl) rfl (fun h => h) (zz_rc fS268 (zz_nc1 rfl) rfl (fun h => h) (zz_rc fS259 (zz_nc1 rfl) rfl (fun h => h) (zz_rc F_S (zz_nc1 rfl) rfl (fun h => h) rfl)))) ?_
        refine zz_iload (x := v284) rfl zd_14_87_394 ?_
        refine zz_aload_n (x := 1079) rfl zd_14_87_396 ?_
        refine zz_getr (kd := 0) (z := 1104) zd_14_87_397 zf_Md_94 zT_1079 rfl (zz_ltn hn rfl) (zz_G.eq G_S275 1079 39 1104 rfl rfl) (by decide) 1104 rfl ?_
        refine zz_iload_n (x := p0 + 1) rfl zd_14_87_400 ?_
        have g286 := zz_G.r G_S0 1104 ((p0 + 1).toNat) 0 63 rfl rfl
        refine zz_iald (z := S0 1104 ((p0 + 1).toNat)) zd_14_87_401 zT_1104 rfl (zz_ltn hn rfl) (by decide) (by omega) (zz_rc fS275 (zz_nc1 rfl) rfl (fun h => h) (zz_rc fS268 (zz_nc1 rfl) rfl (fun h => h) (zz_rc fS259 (zz_nc1 rfl) rfl (fun h => h) (zz_rc F_S (zz_nc1 rfl) rfl (fun h => h) rfl)))) ?_
        refine zz_imul zd_14_87_402 ?_
        refine zz_nrm (fun v287 hv287 ev287 => ?_)
        refine zz_iadd zd_14_87_403 ?_
        refine zz_nrm (fun v288 hv288 ev288 => ?_)
        refine zz_aload_n (x := 1079) rfl zd_14_87_404 ?_
        have g289 := zz_G.r G_S0 1079 56 (-2147483648) 2147483647 rfl rfl
        refine zz_geti (z := S0 1079 56) zd_14_87_405 zf_Md_466 zT_1079 rfl (zz_ltn hn rfl) (zz_rc fS275 rfl rfl (fun h => h) (zz_rc fS268 rfl rfl (fun h => h) (zz_rc fS259 rfl rfl (fun h => h) (zz_rc F_S rfl rfl (fun h => h) rfl)))) ?_
        refine zz_iadd zd_14_87_408 ?_
        refine zz_nrm (fun v290 hv290 ev290 => ?_)
        refine zz_aload_n (x := 1079) rfl zd_14_87_409 ?_
        refine zz_geti (z := S0 1079 52) zd_14_87_410 zf_Md_469 zT_1079 rfl (zz_ltn hn rfl) (zz_rc fS275 rfl rfl (fun h => h) (zz_rc fS268 rfl rfl (fun h => h) (zz_rc fS259 rfl rfl (fun h => h) (zz_rc F_S rfl rfl (fun h => h) rfl)))) ?_
        refine zz_aload_n (x := 1079) rfl zd_14_87_413 ?_
        refine zz_geti (z := S0 1079 53) zd_14_87_414 zf_Md_472 zT_1079 rfl (zz_ltn hn rfl) (zz_rc fS275 rfl rfl (fun h => h) (zz_rc fS268 rfl rfl (fun h => h) (zz_rc fS259 rfl rfl (fun h => h) (zz_rc F_S rfl rfl (fun h => h) rfl)))) ?_
        refine zz_callVV [zi 8, zi v290, zi (S0 1079 52), zi (S0 1079 53)] zd_14_87_417 zk_Md_475 zT_1079 (zz_ltn hn rfl) rfl rfl ⟨Nat.le_of_ble_eq_true rfl, Nat.le_of_ble_eq_true rfl⟩ ⟨rfl, rfl⟩ (Nat.zero_le _) (Nat.zero_le _) (zc_set_14_78 8 v290 (S0 1079 52) (S0 1079 53) S275 n hn G_S275 (by omega) (by omega) (by omega) (by omega)) (fun S291 hP => ?_)
        obtain ⟨G_S291, fS291⟩ := hP
        have F_S291 := zz_fr.trans F_S275 fS291 rfl zz_nv
        refine zz_aload_n (x := 1079) rfl zd_14_87_420 ?_
        refine zz_aload_n (x := 1079) rfl zd_14_87_421 ?_
        refine zz_callVI [] zd_14_87_422 zk_Md_479 zT_1079 (zz_ltn hn rfl) rfl rfl ⟨Nat.le_of_ble_eq_true rfl, Nat.le_of_ble_eq_true rfl⟩ ⟨rfl, rfl⟩ (Nat.zero_le _) (Nat.zero_le _) (zc_quarter_14_81  S291 n hn G_S291 ) (fun v294 S293 hP => ?_)
        obtain ⟨rfl, o295⟩ := hP
        refine zz_iconst zd_14_87_425 ?_
        refine zz_aload_n (x := 1079) rfl zd_14_87_426 ?_
        refine zz_getr (kd := 0) (z := 1104) zd_14_87_427 zf_Md_94 zT_1079 rfl (zz_ltn hn rfl) (zz_G.eq G_S291 1079 39 1104 rfl rfl) (by decide) 1104 rfl ?_
        refine zz_iload_n (x := p0 + 1) rfl zd_14_87_430 ?_
        refine zz_iald (z := S0 1104 ((p0 + 1).toNat)) zd_14_87_431 zT_1104 rfl (zz_ltn hn rfl) (by decide) (by omega) (zz_rc fS291 (zz_nc1 rfl) rfl (fun h => h) (zz_rc fS275 (zz_nc1 rfl) rfl (fun h => h) (zz_rc fS268 (zz_nc1 rfl) rfl (fun h => h) (zz_rc fS259 (zz_nc1 rfl) rfl (fun h => h) (zz_rc F_S (zz_nc1 rfl) rfl (fun h => h) rfl))))) ?_
        refine zz_iconst zd_14_87_432 ?_
        refine zz_callVV [zi v294, zi 0, zi (S0 1104 ((p0 + 1).toNat)), zi 0] zd_14_87_433 zk_Md_482 zT_1079 (zz_ltn hn rfl) rfl rfl ⟨Nat.le_of_ble_eq_true rfl, Nat.le_of_ble_eq_true rfl⟩ ⟨rfl, rfl⟩ (Nat.zero_le _) (Nat.zero_le _) (zc_with_14_79 v294 0 (S0 1104 ((p0 + 1).toNat)) 0 S291 n hn G_S291 (by omega) (by omega) (by omega) (by omega)) (fun S296 hP => ?_)
        obtain ⟨G_S296, fS296⟩ := hP
        have F_S296 := zz_fr.trans F_S291 fS296 rfl zz_nv
        refine zz_aload_n (x := 1079) rfl zd_14_87_436 ?_
        refine zz_iconst zd_14_87_437 ?_
        have g298 := zz_G.r G_S275 1079 10 0 1000000 rfl rfl
        have e299 : S296 1079 10 = S275 1079 10 := (zz_rc fS296 rfl rfl (fun h => h) (zz_rc fS291 rfl rfl (fun h => h) rfl))
        refine zz_callVV [zi 5] zd_14_87_438 zk_Md_459 zT_1079 (zz_ltn hn rfl) rfl rfl ⟨Nat.le_of_ble_eq_true rfl, Nat.le_of_ble_eq_true rfl⟩ ⟨rfl, rfl⟩ (Nat.zero_le _) (Nat.zero_le _) (zc_emit_14_77 5 S296 n hn G_S296 (by omega) (by omega)) (fun S300 hP => ?_)
        obtain ⟨G_S300, fS300, o302⟩ := hP
        have F_S300 := zz_fr.trans F_S296 fS300 rfl zz_nv
        refine zz_aload_n (x := 1079) rfl zd_14_87_441 ?_
        refine zz_dup rfl zd_14_87_442 ?_
        refine zz_geti (z := S 1079 50) zd_14_87_443 zf_Md_450 zT_1079 rfl (zz_ltn hn rfl) (zz_rc fS300 rfl rfl (fun h => h) (zz_rc fS296 rfl rfl (fun h => h) (zz_rc fS291 rfl rfl (fun h => h) (zz_rc fS275 rfl rfl (fun h => h) (zz_rc fS268 rfl rfl (fun h => h) (zz_rc fS259 rfl rfl (fun h => h) rfl)))))) ?_
        refine zz_iconst zd_14_87_446 ?_
        refine zz_iadd zd_14_87_447 ?_
        refine zz_puti zd_14_87_448 zf_Md_450 zT_1079 rfl (zz_ltn hn rfl) (fun S303 qS303 => ?_)
        have G_S303 := zz_G.put G_S300 qS303 (-2147483648) 2147483647 rfl (by omega)
        have F_S303 := zz_fr.puts F_S300 qS303 rfl
        have g304 := zz_G.r G_S300 1079 10 0 1000000 rfl rfl
        have e305 : S303 1079 10 = S300 1079 10 := (zz_ro qS303 (fun h => absurd h.2 (by decide)) rfl)
        exact zz_vret zd_14_87_451 rfl (Nat.zero_le _) (Nat.zero_le _) ⟨_, rfl, G_S303, F_S303, by omega⟩
      · refine zz_aload_n (x := 1079) rfl zd_14_87_360 ?_
        have g306 := zz_G.r G_S0 1079 54 (-2147483648) 2147483647 rfl rfl
        refine zz_geti (z := S0 1079 54) zd_14_87_361 zf_Md_492 zT_1079 rfl (zz_ltn hn rfl) (zz_rc fS275 rfl rfl (fun h => h) (zz_rc fS268 rfl rfl (fun h => h) (zz_rc fS259 rfl rfl (fun h => h) (zz_rc F_S rfl rfl (fun h => h) rfl)))) ?_
        refine zz_goto zd_14_87_364 ?_
        refine zz_istore [some (.ref 1079), some (zi p0), none, some (zi (p0 + 1)), some (zi (S0 1079 54))] zd_14_87_383 (by decide) rfl ?_
        refine zz_aload_n (x := 1079) rfl zd_14_87_385 ?_
        refine zz_bipush (by decide) zd_14_87_386 ?_
        refine zz_aload_n (x := 1079) rfl zd_14_87_388 ?_
        refine zz_getr (kd := 0) (z := 1105) zd_14_87_389 zf_Md_97 zT_1079 rfl (zz_ltn hn rfl) (zz_G.eq G_S275 1079 40 1105 rfl rfl) (by decide) 1105 rfl ?_
        refine zz_iload_n (x := p0 + 1) rfl zd_14_87_392 ?_
        have g307 := zz_G.r G_S0 1105 ((p0 + 1).toNat) (0) (if (p0 + 1).toNat = 0 then 0 else 10000000) rfl rfl
        refine zz_iald (z := S0 1105 ((p0 + 1).toNat)) zd_14_87_393 zT_1105 rfl (zz_ltn hn rfl) (by decide) (by omega) (zz_rc fS275 (zz_nc1 rfl) rfl (fun h => h) (zz_rc fS268 (zz_nc1 rfl) rfl (fun h => h) (zz_rc fS259 (zz_nc1 rfl) rfl (fun h => h) (zz_rc F_S (zz_nc1 rfl) rfl (fun h => h) rfl)))) ?_
        refine zz_iload (x := S0 1079 54) rfl zd_14_87_394 ?_
        refine zz_aload_n (x := 1079) rfl zd_14_87_396 ?_
        refine zz_getr (kd := 0) (z := 1104) zd_14_87_397 zf_Md_94 zT_1079 rfl (zz_ltn hn rfl) (zz_G.eq G_S275 1079 39 1104 rfl rfl) (by decide) 1104 rfl ?_
        refine zz_iload_n (x := p0 + 1) rfl zd_14_87_400 ?_
        have g308 := zz_G.r G_S0 1104 ((p0 + 1).toNat) 0 63 rfl rfl
        refine zz_iald (z := S0 1104 ((p0 + 1).toNat)) zd_14_87_401 zT_1104 rfl (zz_ltn hn rfl) (by decide) (by omega) (zz_rc fS275 (zz_nc1 rfl) rfl (fun h => h) (zz_rc fS268 (zz_nc1 rfl) rfl (fun h => h) (zz_rc fS259 (zz_nc1 rfl) rfl (fun h => h) (zz_rc F_S (zz_nc1 rfl) rfl (fun h => h) rfl)))) ?_
        refine zz_imul zd_14_87_402 ?_
        refine zz_nrm (fun v309 hv309 ev309 => ?_)
        refine zz_iadd zd_14_87_403 ?_
        refine zz_nrm (fun v310 hv310 ev310 => ?_)
        refine zz_aload_n (x := 1079) rfl zd_14_87_404 ?_
        have g311 := zz_G.r G_S0 1079 56 (-2147483648) 2147483647 rfl rfl
        refine zz_geti (z := S0 1079 56) zd_14_87_405 zf_Md_466 zT_1079 rfl (zz_ltn hn rfl) (zz_rc fS275 rfl rfl (fun h => h) (zz_rc fS268 rfl rfl (fun h => h) (zz_rc fS259 rfl rfl (fun h => h) (zz_rc F_S rfl rfl (fun h => h) rfl)))) ?_
        refine zz_iadd zd_14_87_408 ?_
        refine zz_nrm (fun v312 hv312 ev312 => ?_)
        refine zz_aload_n (x := 1079) rfl zd_14_87_409 ?_
        refine zz_geti (z := S0 1079 52) zd_14_87_410 zf_Md_469 zT_1079 rfl (zz_ltn hn rfl) (zz_rc fS275 rfl rfl (fun h => h) (zz_rc fS268 rfl rfl (fun h => h) (zz_rc fS259 rfl rfl (fun h => h) (zz_rc F_S rfl rfl (fun h => h) rfl)))) ?_
        refine zz_aload_n (x := 1079) rfl zd_14_87_413 ?_
        refine zz_geti (z := S0 1079 53) zd_14_87_414 zf_Md_472 zT_1079 rfl (zz_ltn hn rfl) (zz_rc fS275 rfl rfl (fun h => h) (zz_rc fS268 rfl rfl (fun h => h) (zz_rc fS259 rfl rfl (fun h => h) (zz_rc F_S rfl rfl (fun h => h) rfl)))) ?_
        refine zz_callVV [zi 8, zi v312, zi (S0 1079 52), zi (S0 1079 53)] zd_14_87_417 zk_Md_475 zT_1079 (zz_ltn hn rfl) rfl rfl ⟨Nat.le_of_ble_eq_true rfl, Nat.le_of_ble_eq_true rfl⟩ ⟨rfl, rfl⟩ (Nat.zero_le _) (Nat.zero_le _) (zc_set_14_78 8 v312 (S0 1079 52) (S0 1079 53) S275 n hn G_S275 (by omega) (by omega) (by omega) (by omega)) (fun S313 hP => ?_)
        obtain ⟨G_S313, fS313⟩ := hP
        have F_S313 := zz_fr.trans F_S275 fS313 rfl zz_nv
        refine zz_aload_n (x := 1079) rfl zd_14_87_420 ?_
        refine zz_aload_n (x := 1079) rfl zd_14_87_421 ?_
        refine zz_callVI [] zd_14_87_422 zk_Md_479 zT_1079 (zz_ltn hn rfl) rfl rfl ⟨Nat.le_of_ble_eq_true rfl, Nat.le_of_ble_eq_true rfl⟩ ⟨rfl, rfl⟩ (Nat.zero_le _) (Nat.zero_le _) (zc_quarter_14_81  S313 n hn G_S313 ) (fun v316 S315 hP => ?_)
        obtain ⟨rfl, o317⟩ := hP
        refine zz_iconst zd_14_87_425 ?_
        refine zz_aload_n (x := 1079) rfl zd_14_87_426 ?_
        refine zz_getr (kd := 0) (z := 1104) zd_14_87_427 zf_Md_94 zT_1079 rfl (zz_ltn hn rfl) (zz_G.eq G_S313 1079 39 1104 rfl rfl) (by decide) 1104 rfl ?_
        refine zz_iload_n (x := p0 + 1) rfl zd_14_87_430 ?_
        refine zz_iald (z := S0 1104 ((p0 + 1).toNat)) zd_14_87_431 zT_1104 rfl (zz_ltn hn rfl) (by decide) (by omega) (zz_rc fS313 (zz_nc1 rfl) rfl (fun h => h) (zz_rc fS275 (zz_nc1 rfl) rfl (fun h => h) (zz_rc fS268 (zz_nc1 rfl) rfl (fun h => h) (zz_rc fS259 (zz_nc1 rfl) rfl (fun h => h) (zz_rc F_S (zz_nc1 rfl) rfl (fun h => h) rfl))))) ?_
        refine zz_iconst zd_14_87_432 ?_
        refine zz_callVV [zi v316, zi 0, zi (S0 1104 ((p0 + 1).toNat)), zi 0] zd_14_87_433 zk_Md_482 zT_1079 (zz_ltn hn rfl) rfl rfl ⟨Nat.le_of_ble_eq_true rfl, Nat.le_of_ble_eq_true rfl⟩ ⟨rfl, rfl⟩ (Nat.zero_le _) (Nat.zero_le _) (zc_with_14_79 v316 0 (S0 1104 ((p0 + 1).toNat)) 0 S313 n hn G_S313 (by omega) (by omega) (by omega) (by omega)) (fun S318 hP => ?_)
        obtain ⟨G_S318, fS318⟩ := hP
        have F_S318 := zz_fr.trans F_S313 fS318 rfl zz_nv
        refine zz_aload_n (x := 1079) rfl zd_14_87_436 ?_
        refine zz_iconst zd_14_87_437 ?_
        have g320 := zz_G.r G_S275 1079 10 0 1000000 rfl rfl
        have e321 : S318 1079 10 = S275 1079 10 := (zz_rc fS318 rfl rfl (fun h => h) (zz_rc fS313 rfl rfl (fun h => h) rfl))
        refine zz_callVV [zi 5] zd_14_87_438 zk_Md_459 zT_1079 (zz_ltn hn rfl) rfl rfl ⟨Nat.le_of_ble_eq_true rfl, Nat.le_of_ble_eq_true rfl⟩ ⟨rfl, rfl⟩ (Nat.zero_le _) (Nat.zero_le _) (zc_emit_14_77 5 S318 n hn G_S318 (by omega) (by omega)) (fun S322 hP => ?_)
        obtain ⟨G_S322, fS322, o324⟩ := hP
        have F_S322 := zz_fr.trans F_S318 fS322 rfl zz_nv
        refine zz_aload_n (x := 1079) rfl zd_14_87_441 ?_
        refine zz_dup rfl zd_14_87_442 ?_
        refine zz_geti (z := S 1079 50) zd_14_87_443 zf_Md_450 zT_1079 rfl (zz_ltn hn rfl) (zz_rc fS322 rfl rfl (fun h => h) (zz_rc fS318 rfl rfl (fun h => h) (zz_rc fS313 rfl rfl (fun h => h) (zz_rc fS275 rfl rfl (fun h => h) (zz_rc fS268 rfl rfl (fun h => h) (zz_rc fS259 rfl rfl (fun h => h) rfl)))))) ?_
        refine zz_iconst zd_14_87_446 ?_
        refine zz_iadd zd_14_87_447 ?_
        refine zz_puti zd_14_87_448 zf_Md_450 zT_1079 rfl (zz_ltn hn rfl) (fun S325 qS325 => ?_)
        have G_S325 := zz_G.put G_S322 qS325 (-2147483648) 2147483647 rfl (by omega)
        have F_S325 := zz_fr.puts F_S322 qS325 rfl
        have g326 := zz_G.r G_S322 1079 10 0 1000000 rfl rfl
        have e327 : S325 1079 10 = S322 1079 10 := (zz_ro qS325 (fun h => absurd h.2 (by decide)) rfl)
        exact zz_vret zd_14_87_451 rfl (Nat.zero_le _) (Nat.zero_le _) ⟨_, rfl, G_S325, F_S325, by omega⟩
    · refine zz_iconst zd_14_87_337 ?_
      refine zz_goto zd_14_87_338 ?_
      refine zz_ior (by omega) (by omega) zd_14_87_342 (fun v328 hv328 av328 ev328 => ?_)
      have g329 := zz_G.r G_S 1079 10 0 1000000 rfl rfl
      have e330 : S268 1079 10 = S 1079 10 := (zz_rc fS268 rfl rfl (fun h => h) (zz_rc fS259 rfl rfl (fun h => h) rfl))
      refine zz_callVV [zi v328] zd_14_87_343 zk_Md_459 zT_1079 (zz_ltn hn rfl) rfl rfl ⟨Nat.le_of_ble_eq_true rfl, Nat.le_of_ble_eq_true rfl⟩ ⟨rfl, rfl⟩ (Nat.zero_le _) (Nat.zero_le _) (zc_emit_14_77 v328 S268 n hn G_S268 (by omega) (by omega)) (fun S331 hP => ?_)
      obtain ⟨G_S331, fS331, o333⟩ := hP
      have F_S331 := zz_fr.trans F_S268 fS331 rfl zz_nv
      refine zz_iload_n (x := p0) rfl zd_14_87_346 ?_
      refine zz_iconst zd_14_87_347 ?_
      refine zz_iadd zd_14_87_348 ?_
      refine zz_istore_n [some (.ref 1079), some (zi p0), none, some (zi (p0 + 1))] zd_14_87_349 (by decide) rfl ?_
      refine zz_aload_n (x := 1079) rfl zd_14_87_350 ?_
      refine zz_getr (kd := 0) (z := 1106) zd_14_87_351 zf_Md_100 zT_1079 rfl (zz_ltn hn rfl) (zz_G.eq G_S331 1079 41 1106 rfl rfl) (by decide) 1106 rfl ?_
      refine zz_iload_n (x := p0) rfl zd_14_87_354 ?_
      have g334 := zz_G.r G_S0 1106 p0.toNat 0 2 rfl rfl
      refine zz_iald (z := S0 1106 p0.toNat) zd_14_87_355 zT_1106 rfl (zz_ltn hn rfl) (by decide) (by omega) (zz_rc fS331 (zz_nc1 rfl) rfl (fun h => h) (zz_rc fS268 (zz_nc1 rfl) rfl (fun h => h) (zz_rc fS259 (zz_nc1 rfl) rfl (fun h => h) (zz_rc F_S (zz_nc1 rfl) rfl (fun h => h) rfl)))) ?_
      refine zz_iconst zd_14_87_356 ?_
      refine zz_icmp_ne (by omega) (by omega) zd_14_87_357 (fun c335 => ?_) (fun c335 => ?_)
      · refine zz_aload_n (x := 1079) rfl zd_14_87_367 ?_
        have g336 := zz_G.r G_S0 1079 55 (-2147483648) 2147483647 rfl rfl
        refine zz_geti (z := S0 1079 55) zd_14_87_368 zf_Md_495 zT_1079 rfl (zz_ltn hn rfl) (zz_rc fS331 rfl rfl (fun h => h) (zz_rc fS268 rfl rfl (fun h => h) (zz_rc fS259 rfl rfl (fun h => h) (zz_rc F_S rfl rfl (fun h => h) rfl)))) ?_
        refine zz_aload_n (x := 1079) rfl zd_14_87_371 ?_
        refine zz_getr (kd := 0) (z := 1103) zd_14_87_372 zf_Md_91 zT_1079 rfl (zz_ltn hn rfl) (zz_G.eq G_S331 1079 38 1103 rfl rfl) (by decide) 1103 rfl ?_
        refine zz_iload_n (x := p0 + 1) rfl zd_14_87_375 ?_
        have g337 := zz_G.r G_S0 1103 ((p0 + 1).toNat) 0 63 rfl rfl
        refine zz_iald (z := S0 1103 ((p0 + 1).toNat)) zd_14_87_376 zT_1103 rfl (zz_ltn hn rfl) (by decide) (by omega) (zz_rc fS331 (zz_nc1 rfl) rfl (fun h => h) (zz_rc fS268 (zz_nc1 rfl) rfl (fun h => h) (zz_rc fS259 (zz_nc1 rfl) rfl (fun h => h) (zz_rc F_S (zz_nc1 rfl) rfl (fun h => h) rfl)))) ?_
        refine zz_imul zd_14_87_377 ?_
        refine zz_nrm (fun v338 hv338 ev338 => ?_)
        refine zz_aload_n (x := 1079) rfl zd_14_87_378 ?_
        have g339 := zz_G.r G_S0 1079 54 (-2147483648) 2147483647 rfl rfl
        refine zz_geti (z := S0 1079 54) zd_14_87_379 zf_Md_492 zT_1079 rfl (zz_ltn hn rfl) (zz_rc fS331 rfl rfl (fun h => h) (zz_rc fS268 rfl rfl (fun h => h) (zz_rc fS259 rfl rfl (fun h => h) (zz_rc F_S rfl rfl (fun h => h) rfl)))) ?_
        refine zz_iadd zd_14_87_382 ?_
        refine zz_nrm (fun v340 hv340 ev340 => ?_)
        refine zz_istore [some (.ref 1079), some (zi p0), none, some (zi (p0 + 1)), some (zi v340)] zd_14_87_383 (by decide) rfl ?_
        refine zz_aload_n (x := 1079) rfl zd_14_87_385 ?_
        refine zz_bipush (by decide) zd_14_87_386 ?_
        refine zz_aload_n (x := 1079) rfl zd_14_87_388 ?_
        refine zz_getr (kd := 0) (z := 1105) zd_14_87_389 zf_Md_97 zT_1079 rfl (zz_ltn hn rfl) (zz_G.eq G_S331 1079 40 1105 rfl rfl) (by decide) 1105 rfl ?_
        refine zz_iload_n (x := p0 + 1) rfl zd_14_87_392 ?_
        have g341 := zz_G.r G_S0 1105 ((p0 + 1).toNat) (0) (if (p0 + 1).toNat = 0 then 0 else 10000000) rfl rfl
        refine zz_iald (z := S0 1105 ((p0 + 1).toNat)) zd_14_87_393 zT_1105 rfl (zz_ltn hn rfl) (by decide) (by omega) (zz_rc fS331 (zz_nc1 rfl) rfl (fun h => h) (zz_rc fS268 (zz_nc1 rfl) rfl (fun h => h) (zz_rc fS259 (zz_nc1 rfl) rfl (fun h => h) (zz_rc F_S (zz_nc1 rfl) rfl (fun h => h) rfl)))) ?_
        refine zz_iload (x := v340) rfl zd_14_87_394 ?_
        refine zz_aload_n (x := 1079) rfl zd_14_87_396 ?_
        refine zz_getr (kd := 0) (z := 1104) zd_14_87_397 zf_Md_94 zT_1079 rfl (zz_ltn hn rfl) (zz_G.eq G_S331 1079 39 1104 rfl rfl) (by decide) 1104 rfl ?_
        refine zz_iload_n (x := p0 + 1) rfl zd_14_87_400 ?_
        have g342 := zz_G.r G_S0 1104 ((p0 + 1).toNat) 0 63 rfl rfl
        refine zz_iald (z := S0 1104 ((p0 + 1).toNat)) zd_14_87_401 zT_1104 rfl (zz_ltn hn rfl) (by decide) (by omega) (zz_rc fS331 (zz_nc1 rfl) rfl (fun h => h) (zz_rc fS268 (zz_nc1 rfl) rfl (fun h => h) (zz_rc fS259 (zz_nc1 rfl) rfl (fun h => h) (zz_rc F_S (zz_nc1 rfl) rfl (fun h => h) rfl)))) ?_
        refine zz_imul zd_14_87_402 ?_
        refine zz_nrm (fun v343 hv343 ev343 => ?_)
        refine zz_iadd zd_14_87_403 ?_
        refine zz_nrm (fun v344 hv344 ev344 => ?_)
        refine zz_aload_n (x := 1079) rfl zd_14_87_404 ?_
        have g345 := zz_G.r G_S0 1079 56 (-2147483648) 2147483647 rfl rfl
        refine zz_geti (z := S0 1079 56) zd_14_87_405 zf_Md_466 zT_1079 rfl (zz_ltn hn rfl) (zz_rc fS331 rfl rfl (fun h => h) (zz_rc fS268 rfl rfl (fun h => h) (zz_rc fS259 rfl rfl (fun h => h) (zz_rc F_S rfl rfl (fun h => h) rfl)))) ?_
        refine zz_iadd zd_14_87_408 ?_
        refine zz_nrm (fun v346 hv346 ev346 => ?_)
        refine zz_aload_n (x := 1079) rfl zd_14_87_409 ?_
        refine zz_geti (z := S0 1079 52) zd_14_87_410 zf_Md_469 zT_1079 rfl (zz_ltn hn rfl) (zz_rc fS331 rfl rfl (fun h => h) (zz_rc fS268 rfl rfl (fun h => h) (zz_rc fS259 rfl rfl (fun h => h) (zz_rc F_S rfl rfl (fun h => h) rfl)))) ?_
        refine zz_aload_n (x := 1079) rfl zd_14_87_413 ?_
        refine zz_geti (z := S0 1079 53) zd_14_87_414 zf_Md_472 zT_1079 rfl (zz_ltn hn rfl) (zz_rc fS331 rfl rfl (fun h => h) (zz_rc fS268 rfl rfl (fun h => h) (zz_rc fS259 rfl rfl (fun h => h) (zz_rc F_S rfl rfl (fun h => h) rfl)))) ?_
        refine zz_callVV [zi 8, zi v346, zi (S0 1079 52), zi (S0 1079 53)] zd_14_87_417 zk_Md_475 zT_1079 (zz_ltn hn rfl) rfl rfl ⟨Nat.le_of_ble_eq_true rfl, Nat.le_of_ble_eq_true rfl⟩ ⟨rfl, rfl⟩ (Nat.zero_le _) (Nat.zero_le _) (zc_set_14_78 8 v346 (S0 1079 52) (S0 1079 53) S331 n hn G_S331 (by omega) (by omega) (by omega) (by omega)) (fun S347 hP => ?_)
        obtain ⟨G_S347, fS347⟩ := hP
        have F_S347 := zz_fr.trans F_S331 fS347 rfl zz_nv
        refine zz_aload_n (x := 1079) rfl zd_14_87_420 ?_
        refine zz_aload_n (x := 1079) rfl zd_14_87_421 ?_
        refine zz_callVI [] zd_14_87_422 zk_Md_479 zT_1079 (zz_ltn hn rfl) rfl rfl ⟨Nat.le_of_ble_eq_true rfl, Nat.le_of_ble_eq_true rfl⟩ ⟨rfl, rfl⟩ (Nat.zero_le _) (Nat.zero_le _) (zc_quarter_14_81  S347 n hn G_S347 ) (fun v350 S349 hP => ?_)
        obtain ⟨rfl, o351⟩ := hP
        refine zz_iconst zd_14_87_425 ?_
        refine zz_aload_n (x := 1079) rfl zd_14_87_426 ?_
        refine zz_getr (kd := 0) (z := 1104) zd_14_87_427 zf_Md_94 zT_1079 rfl (zz_ltn hn rfl) (zz_G.eq G_S347 1079 39 1104 rfl rfl) (by decide) 1104 rfl ?_
        refine zz_iload_n (x := p0 + 1) rfl zd_14_87_430 ?_
        refine zz_iald (z := S0 1104 ((p0 + 1).toNat)) zd_14_87_431 zT_1104 rfl (zz_ltn hn rfl) (by decide) (by omega) (zz_rc fS347 (zz_nc1 rfl) rfl (fun h => h) (zz_rc fS331 (zz_nc1 rfl) rfl (fun h => h) (zz_rc fS268 (zz_nc1 rfl) rfl (fun h => h) (zz_rc fS259 (zz_nc1 rfl) rfl (fun h => h) (zz_rc F_S (zz_nc1 rfl) rfl (fun h => h) rfl))))) ?_
        refine zz_iconst zd_14_87_432 ?_
        refine zz_callVV [zi v350, zi 0, zi (S0 1104 ((p0 + 1).toNat)), zi 0] zd_14_87_433 zk_Md_482 zT_1079 (zz_ltn hn rfl) rfl rfl ⟨Nat.le_of_ble_eq_true rfl, Nat.le_of_ble_eq_true rfl⟩ ⟨rfl, rfl⟩ (Nat.zero_le _) (Nat.zero_le _) (zc_with_14_79 v350 0 (S0 1104 ((p0 + 1).toNat)) 0 S347 n hn G_S347 (by omega) (by omega) (by omega) (by omega)) (fun S352 hP => ?_)
        obtain ⟨G_S352, fS352⟩ := hP
        have F_S352 := zz_fr.trans F_S347 fS352 rfl zz_nv
        refine zz_aload_n (x := 1079) rfl zd_14_87_436 ?_
        refine zz_iconst zd_14_87_437 ?_
        have g354 := zz_G.r G_S331 1079 10 0 1000000 rfl rfl
        have e355 : S352 1079 10 = S331 1079 10 := (zz_rc fS352 rfl rfl (fun h => h) (zz_rc fS347 rfl rfl (fun h => h) rfl))
        refine zz_callVV [zi 5] zd_14_87_438 zk_Md_459 zT_1079 (zz_ltn hn rfl) rfl rfl ⟨Nat.le_of_ble_eq_true rfl, Nat.le_of_ble_eq_true rfl⟩ ⟨rfl, rfl⟩ (Nat.zero_le _) (Nat.zero_le _) (zc_emit_14_77 5 S352 n hn G_S352 (by omega) (by omega)) (fun S356 hP => ?_)
        obtain ⟨G_S356, fS356, o358⟩ := hP
        have F_S356 := zz_fr.trans F_S352 fS356 rfl zz_nv
        refine zz_aload_n (x := 1079) rfl zd_14_87_441 ?_
        refine zz_dup rfl zd_14_87_442 ?_
        refine zz_geti (z := S 1079 50) zd_14_87_443 zf_Md_450 zT_1079 rfl (zz_ltn hn rfl) (zz_rc fS356 rfl rfl (fun h => h) (zz_rc fS352 rfl rfl (fun h => h) (zz_rc fS347 rfl rfl (fun h => h) (zz_rc fS331 rfl rfl (fun h => h) (zz_rc fS268 rfl rfl (fun h => h) (zz_rc fS259 rfl rfl (fun h => h) rfl)))))) ?_
        refine zz_iconst zd_14_87_446 ?_
        refine zz_iadd zd_14_87_447 ?_
        refine zz_nrm (fun v359 hv359 ev359 => ?_)
        refine zz_puti zd_14_87_448 zf_Md_450 zT_1079 rfl (zz_ltn hn rfl) (fun S360 qS360 => ?_)
        have G_S360 := zz_G.put G_S356 qS360 (-2147483648) 2147483647 rfl (by omega)
        have F_S360 := zz_fr.puts F_S356 qS360 rfl
        have g361 := zz_G.r G_S356 1079 10 0 1000000 rfl rfl
        have e362 : S360 1079 10 = S356 1079 10 := (zz_ro qS360 (fun h => absurd h.2 (by decide)) rfl)
        exact zz_vret zd_14_87_451 rfl (Nat.zero_le _) (Nat.zero_le _) ⟨_, rfl, G_S360, F_S360, by omega⟩
      · refine zz_aload_n (x := 1079) rfl zd_14_87_360 ?_
        have g363 := zz_G.r G_S0 1079 54 (-2147483648) 2147483647 rfl rfl
        refine zz_geti (z := S0 1079 54) zd_14_87_361 zf_Md_492 zT_1079 rfl (zz_ltn hn rfl) (zz_rc fS331 rfl rfl (fun h => h) (zz_rc fS268 rfl rfl (fun h => h) (zz_rc fS259 rfl rfl (fun h => h) (zz_rc F_S rfl rfl (fun h => h) rfl)))) ?_
        refine zz_goto zd_14_87_364 ?_
        refine zz_istore [some (.ref 1079), some (zi p0), none, some (zi (p0 + 1)), some (zi (S0 1079 54))] zd_14_87_383 (by decide) rfl ?_
        refine zz_aload_n (x := 1079) rfl zd_14_87_385 ?_
        refine zz_bipush (by decide) zd_14_87_386 ?_
        refine zz_aload_n (x := 1079) rfl zd_14_87_388 ?_
        refine zz_getr (kd := 0) (z := 1105) zd_14_87_389 zf_Md_97 zT_1079 rfl (zz_ltn hn rfl) (zz_G.eq G_S331 1079 40 1105 rfl rfl) (by decide) 1105 rfl ?_
        refine zz_iload_n (x := p0 + 1) rfl zd_14_87_392 ?_
        have g364 := zz_G.r G_S0 1105 ((p0 + 1).toNat) (0) (if (p0 + 1).toNat = 0 then 0 else 10000000) rfl rfl
        refine zz_iald (z := S0 1105 ((p0 + 1).toNat)) zd_14_87_393 zT_1105 rfl (zz_ltn hn rfl) (by decide) (by omega) (zz_rc fS331 (zz_nc1 rfl) rfl (fun h => h) (zz_rc fS268 (zz_nc1 rfl) rfl (fun h => h) (zz_rc fS259 (zz_nc1 rfl) rfl (fun h => h) (zz_rc F_S (zz_nc1 rfl) rfl (fun h => h) rfl)))) ?_
        refine zz_iload (x := S0 1079 54) rfl zd_14_87_394 ?_
        refine zz_aload_n (x := 1079) rfl zd_14_87_396 ?_
        refine zz_getr (kd := 0) (z := 1104) zd_14_87_397 zf_Md_94 zT_1079 rfl (zz_ltn hn rfl) (zz_G.eq G_S331 1079 39 1104 rfl rfl) (by decide) 1104 rfl ?_
        refine zz_iload_n (x := p0 + 1) rfl zd_14_87_400 ?_
        have g365 := zz_G.r G_S0 1104 ((p0 + 1).toNat) 0 63 rfl rfl
        refine zz_iald (z := S0 1104 ((p0 + 1).toNat)) zd_14_87_401 zT_1104 rfl (zz_ltn hn rfl) (by decide) (by omega) (zz_rc fS331 (zz_nc1 rfl) rfl (fun h => h) (zz_rc fS268 (zz_nc1 rfl) rfl (fun h => h) (zz_rc fS259 (zz_nc1 rfl) rfl (fun h => h) (zz_rc F_S (zz_nc1 rfl) rfl (fun h => h) rfl)))) ?_
        refine zz_imul zd_14_87_402 ?_
        refine zz_nrm (fun v366 hv366 ev366 => ?_)
        refine zz_iadd zd_14_87_403 ?_
        refine zz_nrm (fun v367 hv367 ev367 => ?_)
        refine zz_aload_n (x := 1079) rfl zd_14_87_404 ?_
        have g368 := zz_G.r G_S0 1079 56 (-2147483648) 2147483647 rfl rfl
        refine zz_geti (z := S0 1079 56) zd_14_87_405 zf_Md_466 zT_1079 rfl (zz_ltn hn rfl) (zz_rc fS331 rfl rfl (fun h => h) (zz_rc fS268 rfl rfl (fun h => h) (zz_rc fS259 rfl rfl (fun h => h) (zz_rc F_S rfl rfl (fun h => h) rfl)))) ?_
        refine zz_iadd zd_14_87_408 ?_
        refine zz_nrm (fun v369 hv369 ev369 => ?_)
        refine zz_aload_n (x := 1079) rfl zd_14_87_409 ?_
        refine zz_geti (z := S0 1079 52) zd_14_87_410 zf_Md_469 zT_1079 rfl (zz_ltn hn rfl) (zz_rc fS331 rfl rfl (fun h => h) (zz_rc fS268 rfl rfl (fun h => h) (zz_rc fS259 rfl rfl (fun h => h) (zz_rc F_S rfl rfl (fun h => h) rfl)))) ?_
        refine zz_aload_n (x := 1079) rfl zd_14_87_413 ?_
        refine zz_geti (z := S0 1079 53) zd_14_87_414 zf_Md_472 zT_1079 rfl (zz_ltn hn rfl) (zz_rc fS331 rfl rfl (fun h => h) (zz_rc fS268 rfl rfl (fun h => h) (zz_rc fS259 rfl rfl (fun h => h) (zz_rc F_S rfl rfl (fun h => h) rfl)))) ?_
        refine zz_callVV [zi 8, zi v369, zi (S0 1079 52), zi (S0 1079 53)] zd_14_87_417 zk_Md_475 zT_1079 (zz_ltn hn rfl) rfl rfl ⟨Nat.le_of_ble_eq_true rfl, Nat.le_of_ble_eq_true rfl⟩ ⟨rfl, rfl⟩ (Nat.zero_le _) (Nat.zero_le _) (zc_set_14_78 8 v369 (S0 1079 52) (S0 1079 53) S331 n hn G_S331 (by omega) (by omega) (by omega) (by omega)) (fun S370 hP => ?_)
        obtain ⟨G_S370, fS370⟩ := hP
        have F_S370 := zz_fr.trans F_S331 fS370 rfl zz_nv
        refine zz_aload_n (x := 1079) rfl zd_14_87_420 ?_
        refine zz_aload_n (x := 1079) rfl zd_14_87_421 ?_
        refine zz_callVI [] zd_14_87_422 zk_Md_479 zT_1079 (zz_ltn hn rfl) rfl rfl ⟨Nat.le_of_ble_eq_true rfl, Nat.le_of_ble_eq_true rfl⟩ ⟨rfl, rfl⟩ (Nat.zero_le _) (Nat.zero_le _) (zc_quarter_14_81  S370 n hn G_S370 ) (fun v373 S372 hP => ?_)
        obtain ⟨rfl, o374⟩ := hP
        refine zz_iconst zd_14_87_425 ?_
        refine zz_aload_n (x := 1079) rfl zd_14_87_426 ?_
        refine zz_getr (kd := 0) (z := 1104) zd_14_87_427 zf_Md_94 zT_1079 rfl (zz_ltn hn rfl) (zz_G.eq G_S370 1079 39 1104 rfl rfl) (by decide) 1104 rfl ?_
        refine zz_iload_n (x := p0 + 1) rfl zd_14_87_430 ?_
        refine zz_iald (z := S0 1104 ((p0 + 1).toNat)) zd_14_87_431 zT_1104 rfl (zz_ltn hn rfl) (by decide) (by omega) (zz_rc fS370 (zz_nc1 rfl) rfl (fun h => h) (zz_rc fS331 (zz_nc1 rfl) rfl (fun h => h) (zz_rc fS268 (zz_nc1 rfl) rfl (fun h => h) (zz_rc fS259 (zz_nc1 rfl) rfl (fun h => h) (zz_rc F_S (zz_nc1 rfl) rfl (fun h => h) rfl))))) ?_
        refine zz_iconst zd_14_87_432 ?_
        refine zz_callVV [zi v373, zi 0, zi (S0 1104 ((p0 + 1).toNat)), zi 0] zd_14_87_433 zk_Md_482 zT_1079 (zz_ltn hn rfl) rfl rfl ⟨Nat.le_of_ble_eq_true rfl, Nat.le_of_ble_eq_true rfl⟩ ⟨rfl, rfl⟩ (Nat.zero_le _) (Nat.zero_le _) (zc_with_14_79 v373 0 (S0 1104 ((p0 + 1).toNat)) 0 S370 n hn G_S370 (by omega) (by omega) (by omega) (by omega)) (fun S375 hP => ?_)
        obtain ⟨G_S375, fS375⟩ := hP
        have F_S375 := zz_fr.trans F_S370 fS375 rfl zz_nv
        refine zz_aload_n (x := 1079) rfl zd_14_87_436 ?_
        refine zz_iconst zd_14_87_437 ?_
        have g377 := zz_G.r G_S331 1079 10 0 1000000 rfl rfl
        have e378 : S375 1079 10 = S331 1079 10 := (zz_rc fS375 rfl rfl (fun h => h) (zz_rc fS370 rfl rfl (fun h => h) rfl))
        refine zz_callVV [zi 5] zd_14_87_438 zk_Md_459 zT_1079 (zz_ltn hn rfl) rfl rfl ⟨Nat.le_of_ble_eq_true rfl, Nat.le_of_ble_eq_true rfl⟩ ⟨rfl, rfl⟩ (Nat.zero_le _) (Nat.zero_le _) (zc_emit_14_77 5 S375 n hn G_S375 (by omega) (by omega)) (fun S379 hP => ?_)
        obtain ⟨G_S379, fS379, o381⟩ := hP
        have F_S379 := zz_fr.trans F_S375 fS379 rfl zz_nv
        refine zz_aload_n (x := 1079) rfl zd_14_87_441 ?_
        refine zz_dup rfl zd_14_87_442 ?_
        refine zz_geti (z := S 1079 50) zd_14_87_443 zf_Md_450 zT_1079 rfl (zz_ltn hn rfl) (zz_rc fS379 rfl rfl (fun h => h) (zz_rc fS375 rfl rfl (fun h => h) (zz_rc fS370 rfl rfl (fun h => h) (zz_rc fS331 rfl rfl (fun h => h) (zz_rc fS268 rfl rfl (fun h => h) (zz_rc fS259 rfl rfl (fun h => h) rfl)))))) ?_
        refine zz_iconst zd_14_87_446 ?_
        refine zz_iadd zd_14_87_447 ?_
        refine zz_nrm (fun v382 hv382 ev382 => ?_)
        refine zz_puti zd_14_87_448 zf_Md_450 zT_1079 rfl (zz_ltn hn rfl) (fun S383 qS383 => ?_)
        have G_S383 := zz_G.put G_S379 qS383 (-2147483648) 2147483647 rfl (by omega)
        have F_S383 := zz_fr.puts F_S379 qS383 rfl
        have g384 := zz_G.r G_S379 1079 10 0 1000000 rfl rfl
        have e385 : S383 1079 10 = S379 1079 10 := (zz_ro qS383 (fun h => absurd h.2 (by decide)) rfl)
        exact zz_vret zd_14_87_451 rfl (Nat.zero_le _) (Nat.zero_le _) ⟨_, rfl, G_S383, F_S383, by omega⟩
  · refine zz_aload_n (x := 1079) rfl zd_14_87_24 ?_
    refine zz_iload_n (x := p0) rfl zd_14_87_25 ?_
    refine zz_iload_n (x := x3) rfl zd_14_87_26 ?_
    refine zz_iconst zd_14_87_27 ?_
    refine zz_aload_n (x := 1079) rfl zd_14_87_28 ?_
    have g386 := zz_G.r G_S0 1079 56 (-2147483648) 2147483647 rfl rfl
    refine zz_geti (z := S0 1079 56) zd_14_87_29 zf_Md_466 zT_1079 rfl (zz_ltn hn rfl) (zz_rc F_S rfl rfl (fun h => h) rfl) ?_
    refine zz_aload_n (x := 1079) rfl zd_14_87_32 ?_
    have g387 := zz_G.r G_S0 1079 53 (-2147483648) 2147483647 rfl rfl
    refine zz_geti (z := S0 1079 53) zd_14_87_33 zf_Md_472 zT_1079 rfl (zz_ltn hn rfl) (zz_rc F_S rfl rfl (fun h => h) rfl) ?_
    refine zz_iload_n (x := x3) rfl zd_14_87_36 ?_
    refine zz_if_ne (by omega) zd_14_87_37 (fun c388 => ?_) (fun c388 => ?_)
    · refine zz_iconst zd_14_87_44 ?_
      have g389 := zz_G.r G_S 1079 10 0 1000000 rfl rfl
      refine zz_callVV [zi p0, zi x3, zi 0, zi (S0 1079 56), zi (S0 1079 53), zi 0] zd_14_87_45 zk_Md_498 zT_1079 (zz_ltn hn rfl) rfl rfl ⟨Nat.le_of_ble_eq_true rfl, Nat.le_of_ble_eq_true rfl⟩ ⟨rfl, rfl⟩ (Nat.zero_le _) (Nat.zero_le _) (zc_group_14_83 p0 x3 0 (S0 1079 56) (S0 1079 53) 0 S n hn G_S (by omega) (by omega) (by omega) (by omega) (by omega) (by omega) (by omega)) (fun S390 hP => ?_)
      obtain ⟨G_S390, fS390, o392⟩ := hP
      have F_S390 := zz_fr.trans F_S fS390 rfl zz_nv
      refine zz_aload_n (x := 1079) rfl zd_14_87_48 ?_
      refine zz_iload_n (x := p0) rfl zd_14_87_49 ?_
      refine zz_aload_n (x := 1079) rfl zd_14_87_50 ?_
      refine zz_geti (z := S0 1079 53) zd_14_87_51 zf_Md_472 zT_1079 rfl (zz_ltn hn rfl) (zz_rc fS390 rfl rfl (fun h => h) (zz_rc F_S rfl rfl (fun h => h) rfl)) ?_
      refine zz_iload_n (x := x3) rfl zd_14_87_54 ?_
      refine zz_if_ne (by omega) zd_14_87_55 (fun c393 => ?_) (fun c393 => ?_)
      · refine zz_iconst zd_14_87_62 ?_
        refine zz_iload_n (x := x3) rfl zd_14_87_63 ?_
        refine zz_iconst zd_14_87_64 ?_
        refine zz_icmp_ne (by omega) (by omega) zd_14_87_65 (fun c394 => ?_) (fun c394 => ?_)
        · exfalso; omega
        · refine zz_iconst zd_14_87_68 ?_
          refine zz_goto zd_14_87_69 ?_
          have g395 := zz_G.r G_S390 1079 10 0 1000000 rfl rfl
          refine zz_callVV [zi p0, zi (S0 1079 53), zi 0, zi 1] zd_14_87_73 zk_Md_502 zT_1079 (zz_ltn hn rfl) rfl rfl ⟨Nat.le_of_ble_eq_true rfl, Nat.le_of_ble_eq_true rfl⟩ ⟨rfl, rfl⟩ (Nat.zero_le _) (Nat.zero_le _) (zc_works_14_86 p0 (S0 1079 53) 0 1 S390 n hn G_S390 (by omega) (by omega) (by omega) (by omega) (by omega)) (fun S396 hP => ?_)
          obtain ⟨G_S396, fS396, o398⟩ := hP
          have F_S396 := zz_fr.trans F_S390 fS396 rfl zz_nv
          refine zz_iinc [some (.ref 1079), some (zi p0), none, some (zi (x3 + 1))] zd_14_87_76 rfl rfl ?_
          refine zz_goto zd_14_87_79 ?_
          have g399 := zz_G.r G_S396 1079 10 0 1000000 rfl rfl
          refine zz_less (ls1 := [some (.ref 1079), some (zi p0), none, some (zi (x3 + 1))]) ⟨rfl, ⟨rfl, ⟨rfl, trivial⟩⟩⟩ ?_
          exact k19 (x3 + 1) S396 G_S396 F_S396 (by omega) (by omega) (by omega) (by omega)
      · exfalso; omega
    · refine zz_iconst zd_14_87_40 ?_
      refine zz_goto zd_14_87_41 ?_
      have g400 := zz_G.r G_S 1079 10 0 1000000 rfl rfl
      refine zz_callVV [zi p0, zi x3, zi 0, zi (S0 1079 56), zi (S0 1079 53), zi 1] zd_14_87_45 zk_Md_498 zT_1079 (zz_ltn hn rfl) rfl rfl ⟨Nat.le_of_ble_eq_true rfl, Nat.le_of_ble_eq_true rfl⟩ ⟨rfl, rfl⟩ (Nat.zero_le _) (Nat.zero_le _) (zc_group_14_83 p0 x3 0 (S0 1079 56) (S0 1079 53) 1 S n hn G_S (by omega) (by omega) (by omega) (by omega) (by omega) (by omega) (by omega)) (fun S401 hP => ?_)
      obtain ⟨G_S401, fS401, o403⟩ := hP
      have F_S401 := zz_fr.trans F_S fS401 rfl zz_nv
      refine zz_aload_n (x := 1079) rfl zd_14_87_48 ?_
      refine zz_iload_n (x := p0) rfl zd_14_87_49 ?_
      refine zz_aload_n (x := 1079) rfl zd_14_87_50 ?_
      refine zz_geti (z := S0 1079 53) zd_14_87_51 zf_Md_472 zT_1079 rfl (zz_ltn hn rfl) (zz_rc fS401 rfl rfl (fun h => h) (zz_rc F_S rfl rfl (fun h => h) rfl)) ?_
      refine zz_iload_n (x := x3) rfl zd_14_87_54 ?_
      refine zz_if_ne (by omega) zd_14_87_55 (fun c404 => ?_) (fun c404 => ?_)
      · exfalso; omega
      · refine zz_iconst zd_14_87_58 ?_
        refine zz_goto zd_14_87_59 ?_
        refine zz_iload_n (x := x3) rfl zd_14_87_63 ?_
        refine zz_iconst zd_14_87_64 ?_
        refine zz_icmp_ne (by omega) (by omega) zd_14_87_65 (fun c405 => ?_) (fun c405 => ?_)
        · refine zz_iconst zd_14_87_72 ?_
          have g406 := zz_G.r G_S401 1079 10 0 1000000 rfl rfl
          refine zz_callVV [zi p0, zi (S0 1079 53), zi 1, zi 0] zd_14_87_73 zk_Md_502 zT_1079 (zz_ltn hn rfl) rfl rfl ⟨Nat.le_of_ble_eq_true rfl, Nat.le_of_ble_eq_true rfl⟩ ⟨rfl, rfl⟩ (Nat.zero_le _) (Nat.zero_le _) (zc_works_14_86 p0 (S0 1079 53) 1 0 S401 n hn G_S401 (by omega) (by omega) (by omega) (by omega) (by omega)) (fun S407 hP => ?_)
          obtain ⟨G_S407, fS407, o409⟩ := hP
          have F_S407 := zz_fr.trans F_S401 fS407 rfl zz_nv
          refine zz_iinc [some (.ref 1079), some (zi p0), none, some (zi (x3 + 1))] zd_14_87_76 rfl rfl ?_
          refine zz_goto zd_14_87_79 ?_
          have g410 := zz_G.r G_S407 1079 10 0 1000000 rfl rfl
          refine zz_less (ls1 := [some (.ref 1079), some (zi p0), none, some (zi (x3 + 1))]) ⟨rfl, ⟨rfl, ⟨rfl, trivial⟩⟩⟩ ?_
          exact k19 (x3 + 1) S407 G_S407 F_S407 (by omega) (by omega) (by omega) (by omega)
        · exfalso; omega
theorem zb_tile_14_87_147 {g : mm_G} {l : Launch} (p0 : Int) (S0 : zz_S) (n : Nat) (hn : zz_end ≤ n) (G_S0 : zz_G S0) (hp0 : 0 ≤ p0 ∧ p0 ≤ 9) (hq : S0 1079 10 ≤ 600) (x3 : Int) (x5 : Int) (x6 : Int) (S : zz_S) (G_S : zz_G S) (F_S : zz_fr [(1079, 10), (1079, 50), (1079, 51), (1079, 57), (1079, 60)] [1086, 1087] (fun _ _ => False) S0 S) (i147_0 : 0 ≤ x3 ∧ x3 ≤ 1) (i147_1 : 0 ≤ x5 ∧ x5 ≤ 35) (i147_2 : 0 ≤ x6 ∧ x6 ≤ 2147483647) (i147_3 : S0 1106 p0.toNat ≠ 2) (i147_4 : S0 1079 10 ≤ S 1079 10 ∧ S 1079 10 ≤ S0 1079 10 + 6 * x6) (i147_5 : x4 = (S0 1109 p0.toNat) * (S0 1110 p0.toNat)) (R : Nat) (hR : (17179869184 + (400 - x6).toNat) = R) (k147 : ∀ (x3 : Int) (x5 : Int) (x6 : Int) (S : zz_S), zz_G S → zz_fr [(1079, 10), (1079, 50), (1079, 51), (1079, 57), (1079, 60)] [1086, 1087] (fun _ _ => False) S0 S → (0 ≤ x3 ∧ x3 ≤ 1) → (0 ≤ x5 ∧ x5 ≤ 35) → (0 ≤ x6 ∧ x6 ≤ 2147483647) → (S0 1106 p0.toNat ≠ 2) → (S0 1079 10 ≤ S 1079 10 ∧ S 1079 10 ≤ S0 1079 10 + 6 * x6) → (x4 = (S0 1109 p0.toNat) * (S0 1110 p0.toNat)) → (17179869184 + (400 - x6).toNat) < R → zz_E g l zy_tile_14_87 zr_tile_14_87 (zz_QV n (zp_tile_14_87 p0 S0)) S n 147 [some (.ref 1079), some (zi p0), some (zi (S0 1107 p0.toNat)), some (zi x3), some (zi ((S0 1109 p0.toNat) * (S0 1110 p0.toNat))), some (zi x5), some (zi x6)] [] 0 0) : zz_E g l zy_tile_14_87 zr_tile_14_87 (zz_QV n (zp_tile_14_87 p0 S0)) S n 147 [some (.ref 1079), some (zi p0), some (zi (S0 1107 p0.toNat)), some (zi x3), some (zi ((S0 1109 p0.toNat) * (S0 1110 p0.toNat))), some (zi x5), some (zi x6)] [] 0 0 := by
  refine zz_iload (x := x6) rfl zd_14_87_147 ?_
  refine zz_iload (x := (S0 1109 p0.toNat) * (S0 1110 p0.toNat)) rfl zd_14_87_149 ?_
  refine zz_iload (x := x5) rfl zd_14_87_151 ?_
  refine zz_imul zd_14_87_153 ?_
  refine zz_nrm (fun v21 hv21 ev21 => ?_)
  refine zz_icmp_ge (by omega) (by omega) zd_14_87_154 (fun c22 => ?_) (fun c22 => ?_)
  · refine zz_aload_n (x := 1079) rfl zd_14_87_292 ?_
    refine zz_bipush (by decide) zd_14_87_293 ?_
    refine zz_iconst zd_14_87_295 ?_
    refine zz_aload_n (x := 1079) rfl zd_14_87_296 ?_
    have g23 := zz_G.r G_S0 1079 52 (-2147483648) 2147483647 rfl rfl
    refine zz_geti (z := S0 1079 52) zd_14_87_297 zf_Md_469 zT_1079 rfl (zz_ltn hn rfl) (zz_rc F_S rfl rfl (fun h => h) rfl) ?_
    refine zz_aload_n (x := 1079) rfl zd_14_87_300 ?_
    have g24 := zz_G.r G_S0 1079 53 (-2147483648) 2147483647 rfl rfl
    refine zz_geti (z := S0 1079 53) zd_14_87_301 zf_Md_472 zT_1079 rfl (zz_ltn hn rfl) (zz_rc F_S rfl rfl (fun h => h) rfl) ?_
    refine zz_callVV [zi 7, zi 0, zi (S0 1079 52), zi (S0 1079 53)] zd_14_87_304 zk_Md_475 zT_1079 (zz_ltn hn rfl) rfl rfl ⟨Nat.le_of_ble_eq_true rfl, Nat.le_of_ble_eq_true rfl⟩ ⟨rfl, rfl⟩ (Nat.zero_le _) (Nat.zero_le _) (zc_set_14_78 7 0 (S0 1079 52) (S0 1079 53) S n hn G_S (by omega) (by omega) (by omega) (by omega)) (fun S25 hP => ?_)
    obtain ⟨G_S25, fS25⟩ := hP
    have F_S25 := zz_fr.trans F_S fS25 rfl zz_nv
    refine zz_aload_n (x := 1079) rfl zd_14_87_307 ?_
    refine zz_aload_n (x := 1079) rfl zd_14_87_308 ?_
    refine zz_callVI [] zd_14_87_309 zk_Md_479 zT_1079 (zz_ltn hn rfl) rfl rfl ⟨Nat.le_of_ble_eq_true rfl, Nat.le_of_ble_eq_true rfl⟩ ⟨rfl, rfl⟩ (Nat.zero_le _) (Nat.zero_le _) (zc_quarter_14_81  S25 n hn G_S25 ) (fun v28 S27 hP => ?_)
    obtain ⟨rfl, o29⟩ := hP
    refine zz_aload_n (x := 1079) rfl zd_14_87_312 ?_
    refine zz_callVI [] zd_14_87_313 zk_Md_479 zT_1079 (zz_ltn hn rfl) rfl rfl ⟨Nat.le_of_ble_eq_true rfl, Nat.le_of_ble_eq_true rfl⟩ ⟨rfl, rfl⟩ (Nat.zero_le _) (Nat.zero_le _) (zc_quarter_14_81  S25 n hn G_S25 ) (fun v31 S30 hP => ?_)
    obtain ⟨rfl, o32⟩ := hP
    refine zz_iconst zd_14_87_316 ?_
    refine zz_aload_n (x := 1079) rfl zd_14_87_317 ?_
    refine zz_getr (kd := 0) (z := 1113) zd_14_87_318 zf_Md_121 zT_1079 rfl (zz_ltn hn rfl) (zz_G.eq G_S25 1079 48 1113 rfl rfl) (by decide) 1113 rfl ?_
    refine zz_iload_n (x := p0) rfl zd_14_87_321 ?_
    have g33 := zz_G.r G_S0 1113 p0.toNat 0 31 rfl rfl
    refine zz_iald (z := S0 1113 p0.toNat) zd_14_87_322 zT_1113 rfl (zz_ltn hn rfl) (by decide) (by omega) (zz_rc fS25 (zz_nc1 rfl) rfl (fun h => h) (zz_rc F_S (zz_nc1 rfl) rfl (fun h => h) rfl)) ?_
    refine zz_callVV [zi v28, zi v31, zi 0, zi (S0 1113 p0.toNat)] zd_14_87_323 zk_Md_482 zT_1079 (zz_ltn hn rfl) rfl rfl ⟨Nat.le_of_ble_eq_true rfl, Nat.le_of_ble_eq_true rfl⟩ ⟨rfl, rfl⟩ (Nat.zero_le _) (Nat.zero_le _) (zc_with_14_79 v28 v31 0 (S0 1113 p0.toNat) S25 n hn G_S25 (by omega) (by omega) (by omega) (by omega)) (fun S34 hP => ?_)
    obtain ⟨G_S34, fS34⟩ := hP
    have F_S34 := zz_fr.trans F_S25 fS34 rfl zz_nv
    refine zz_aload_n (x := 1079) rfl zd_14_87_326 ?_
    refine zz_bipush (by decide) zd_14_87_327 ?_
    refine zz_aload_n (x := 1079) rfl zd_14_87_329 ?_
    have g36 := zz_G.r G_S 1079 50 (-2147483648) 2147483647 rfl rfl
    refine zz_geti (z := S 1079 50) zd_14_87_330 zf_Md_450 zT_1079 rfl (zz_ltn hn rfl) (zz_rc fS34 rfl rfl (fun h => h) (zz_rc fS25 rfl rfl (fun h => h) rfl)) ?_
    refine zz_iconst zd_14_87_333 ?_
    refine zz_icmp_le (by omega) (by omega) zd_14_87_334 (fun c37 => ?_) (fun c37 => ?_)
    · refine zz_iconst zd_14_87_341 ?_
      refine zz_ior (by omega) (by omega) zd_14_87_342 (fun v38 hv38 av38 ev38 => ?_)
      have g39 := zz_G.r G_S 1079 10 0 1000000 rfl rfl
      have e40 : S34 1079 10 = S 1079 10 := (zz_rc fS34 rfl rfl (fun h => h) (zz_rc fS25 rfl rfl (fun h => h) rfl))
      refine zz_callVV [zi v38] zd_14_87_343 zk_Md_459 zT_1079 (zz_ltn hn rfl) rfl rfl ⟨Nat.le_of_ble_eq_true rfl, Nat.le_of_ble_eq_true rfl⟩ ⟨rfl, rfl⟩ (Nat.zero_le _) (Nat.zero_le _) (zc_emit_14_77 v38 S34 n hn G_S34 (by omega) (by omega)) (fun S41 hP => ?_)
      obtain ⟨G_S41, fS41, o43⟩ := hP
      have F_S41 := zz_fr.trans F_S34 fS41 rfl zz_nv
      refine zz_iload_n (x := p0) rfl zd_14_87_346 ?_
      refine zz_iconst zd_14_87_347 ?_
      refine zz_iadd zd_14_87_348 ?_
      refine zz_istore_n [some (.ref 1079), some (zi p0), some (zi (S0 1107 p0.toNat)), some (zi (p0 + 1)), some (zi ((S0 1109 p0.toNat) * (S0 1110 p0.toNat))), some (zi x5), some (zi x6)] zd_14_87_349 (by decide) rfl ?_
      refine zz_aload_n (x := 1079) rfl zd_14_87_350 ?_
      refine zz_getr (kd := 0) (z := 1106) zd_14_87_351 zf_Md_100 zT_1079 rfl (zz_ltn hn rfl) (zz_G.eq G_S41 1079 41 1106 rfl rfl) (by decide) 1106 rfl ?_
      refine zz_iload_n (x := p0) rfl zd_14_87_354 ?_
      have g44 := zz_G.r G_S0 1106 p0.toNat 0 2 rfl rfl
      refine zz_iald (z := S0 1106 p0.toNat) zd_14_87_355 zT_1106 rfl (zz_ltn hn rfl) (by decide) (by omega) (zz_rc fS41 (zz_nc1 rfl) rfl (fun h => h) (zz_rc fS34 (zz_nc1 rfl) rfl (fun h => h) (zz_rc fS25 (zz_nc1 rfl) rfl (fun h => h) (zz_rc F_S (zz_nc1 rfl) rfl (fun h => h) rfl)))) ?_
      refine zz_iconst zd_14_87_356 ?_
      refine zz_icmp_ne (by omega) (by omega) zd_14_87_357 (fun c45 => ?_) (fun c45 => ?_)
      · refine zz_aload_n (x := 1079) rfl zd_14_87_367 ?_
        have g46 := zz_G.r G_S0 1079 55 (-2147483648) 2147483647 rfl rfl
        refine zz_geti (z := S0 1079 55) zd_14_87_368 zf_Md_495 zT_1079 rfl (zz_ltn hn rfl) (zz_rc fS41 rfl rfl (fun h => h) (zz_rc fS34 rfl rfl (fun h => h) (zz_rc fS25 rfl rfl (fun h => h) (zz_rc F_S rfl rfl (fun h => h) rfl)))) ?_
        refine zz_aload_n (x := 1079) rfl zd_14_87_371 ?_
        refine zz_getr (kd := 0) (z := 1103) zd_14_87_372 zf_Md_91 zT_1079 rfl (zz_ltn hn rfl) (zz_G.eq G_S41 1079 38 1103 rfl rfl) (by decide) 1103 rfl ?_
        refine zz_iload_n (x := p0 + 1) rfl zd_14_87_375 ?_
        have g47 := zz_G.r G_S0 1103 ((p0 + 1).toNat) 0 63 rfl rfl
        refine zz_iald (z := S0 1103 ((p0 + 1).toNat)) zd_14_87_376 zT_1103 rfl (zz_ltn hn rfl) (by decide) (by omega) (zz_rc fS41 (zz_nc1 rfl) rfl (fun h => h) (zz_rc fS34 (zz_nc1 rfl) rfl (fun h => h) (zz_rc fS25 (zz_nc1 rfl) rfl (fun h => h) (zz_rc F_S (zz_nc1 rfl) rfl (fun h => h) rfl)))) ?_
        refine zz_imul zd_14_87_377 ?_
        refine zz_nrm (fun v48 hv48 ev48 => ?_)
        refine zz_aload_n (x := 1079) rfl zd_14_87_378 ?_
        have g49 := zz_G.r G_S0 1079 54 (-2147483648) 2147483647 rfl rfl
        refine zz_geti (z := S0 1079 54) zd_14_87_379 zf_Md_492 zT_1079 rfl (zz_ltn hn rfl) (zz_rc fS41 rfl rfl (fun h => h) (zz_rc fS34 rfl rfl (fun h => h) (zz_rc fS25 rfl rfl (fun h => h) (zz_rc F_S rfl rfl (fun h => h) rfl)))) ?_
        refine zz_iadd zd_14_87_382 ?_
        refine zz_nrm (fun v50 hv50 ev50 => ?_)
        refine zz_istore [some (.ref 1079), some (zi p0), some (zi (S0 1107 p0.toNat)), some (zi (p0 + 1)), some (zi v50), some (zi x5), some (zi x6)] zd_14_87_383 (by decide) rfl ?_
        refine zz_aload_n (x := 1079) rfl zd_14_87_385 ?_
        refine zz_bipush (by decide) zd_14_87_386 ?_
        refine zz_aload_n (x := 1079) rfl zd_14_87_388 ?_
        refine zz_getr (kd := 0) (z := 1105) zd_14_87_389 zf_Md_97 zT_1079 rfl (zz_ltn hn rfl) (zz_G.eq G_S41 1079 40 1105 rfl rfl) (by decide) 1105 rfl ?_
        refine zz_iload_n (x := p0 + 1) rfl zd_14_87_392 ?_
        have g51 := zz_G.r G_S0 1105 ((p0 + 1).toNat) (0) (if (p0 + 1).toNat = 0 then 0 else 10000000) rfl rfl
        refine zz_iald (z := S0 1105 ((p0 + 1).toNat)) zd_14_87_393 zT_1105 rfl (zz_ltn hn rfl) (by decide) (by omega) (zz_rc fS41 (zz_nc1 rfl) rfl (fun h => h) (zz_rc fS34 (zz_nc1 rfl) rfl (fun h => h) (zz_rc fS25 (zz_nc1 rfl) rfl (fun h => h) (zz_rc F_S (zz_nc1 rfl) rfl (fun h => h) rfl)))) ?_
        refine zz_iload (x := v50) rfl zd_14_87_394 ?_
        refine zz_aload_n (x := 1079) rfl zd_14_87_396 ?_
        refine zz_getr (kd := 0) (z := 1104) zd_14_87_397 zf_Md_94 zT_1079 rfl (zz_ltn hn rfl) (zz_G.eq G_S41 1079 39 1104 rfl rfl) (by decide) 1104 rfl ?_
        refine zz_iload_n (x := p0 + 1) rfl zd_14_87_400 ?_
        have g52 := zz_G.r G_S0 1104 ((p0 + 1).toNat) 0 63 rfl rfl
        refine zz_iald (z := S0 1104 ((p0 + 1).toNat)) zd_14_87_401 zT_1104 rfl (zz_ltn hn rfl) (by decide) (by omega) (zz_rc fS41 (zz_nc1 rfl) rfl (fun h => h) (zz_rc fS34 (zz_nc1 rfl) rfl (fun h => h) (zz_rc fS25 (zz_nc1 rfl) rfl (fun h => h) (zz_rc F_S (zz_nc1 rfl) rfl (fun h => h) rfl)))) ?_
        refine zz_imul zd_14_87_402 ?_
        refine zz_nrm (fun v53 hv53 ev53 => ?_)
        refine zz_iadd zd_14_87_403 ?_
        refine zz_nrm (fun v54 hv54 ev54 => ?_)
        refine zz_aload_n (x := 1079) rfl zd_14_87_404 ?_
        have g55 := zz_G.r G_S0 1079 56 (-2147483648) 2147483647 rfl rfl
        refine zz_geti (z := S0 1079 56) zd_14_87_405 zf_Md_466 zT_1079 rfl (zz_ltn hn rfl) (zz_rc fS41 rfl rfl (fun h => h) (zz_rc fS34 rfl rfl (fun h => h) (zz_rc fS25 rfl rfl (fun h => h) (zz_rc F_S rfl rfl (fun h => h) rfl)))) ?_
        refine zz_iadd zd_14_87_408 ?_
        refine zz_nrm (fun v56 hv56 ev56 => ?_)
        refine zz_aload_n (x := 1079) rfl zd_14_87_409 ?_
        refine zz_geti (z := S0 1079 52) zd_14_87_410 zf_Md_469 zT_1079 rfl (zz_ltn hn rfl) (zz_rc fS41 rfl rfl (fun h => h) (zz_rc fS34 rfl rfl (fun h => h) (zz_rc fS25 rfl rfl (fun h => h) (zz_rc F_S rfl rfl (fun h => h) rfl)))) ?_
        refine zz_aload_n (x := 1079) rfl zd_14_87_413 ?_
        refine zz_geti (z := S0 1079 53) zd_14_87_414 zf_Md_472 zT_1079 rfl (zz_ltn hn rfl) (zz_rc fS41 rfl rfl (fun h => h) (zz_rc fS34 rfl rfl (fun h => h) (zz_rc fS25 rfl rfl (fun h => h) (zz_rc F_S rfl rfl (fun h => h) rfl)))) ?_
        refine zz_callVV [zi 8, zi v56, zi (S0 1079 52), zi (S0 1079 53)] zd_14_87_417 zk_Md_475 zT_1079 (zz_ltn hn rfl) rfl rfl ⟨Nat.le_of_ble_eq_true rfl, Nat.le_of_ble_eq_true rfl⟩ ⟨rfl, rfl⟩ (Nat.zero_le _) (Nat.zero_le _) (zc_set_14_78 8 v56 (S0 1079 52) (S0 1079 53) S41 n hn G_S41 (by omega) (by omega) (by omega) (by omega)) (fun S57 hP => ?_)
        obtain ⟨G_S57, fS57⟩ := hP
        have F_S57 := zz_fr.trans F_S41 fS57 rfl zz_nv
        refine zz_aload_n (x := 1079) rfl zd_14_87_420 ?_
        refine zz_aload_n (x := 1079) rfl zd_14_87_421 ?_
        refine zz_callVI [] zd_14_87_422 zk_Md_479 zT_1079 (zz_ltn hn rfl) rfl rfl ⟨Nat.le_of_ble_eq_true rfl, Nat.le_of_ble_eq_true rfl⟩ ⟨rfl, rfl⟩ (Nat.zero_le _) (Nat.zero_le _) (zc_quarter_14_81  S57 n hn G_S57 ) (fun v60 S59 hP => ?_)
        obtain ⟨rfl, o61⟩ := hP
        refine zz_iconst zd_14_87_425 ?_
        refine zz_aload_n (x := 1079) rfl zd_14_87_426 ?_
        refine zz_getr (kd := 0) (z := 1104) zd_14_87_427 zf_Md_94 zT_1079 rfl (zz_ltn hn rfl) (zz_G.eq G_S57 1079 39 1104 rfl rfl) (by decide) 1104 rfl ?_
        refine zz_iload_n (x := p0 + 1) rfl zd_14_87_430 ?_
        refine zz_iald (z := S0 1104 ((p0 + 1).toNat)) zd_14_87_431 zT_1104 rfl (zz_ltn hn rfl) (by decide) (by omega) (zz_rc fS57 (zz_nc1 rfl) rfl (fun h => h) (zz_rc fS41 (zz_nc1 rfl) rfl (fun h => h) (zz_rc fS34 (zz_nc1 rfl) rfl (fun h => h) (zz_rc fS25 (zz_nc1 rfl) rfl (fun h => h) (zz_rc F_S (zz_nc1 rfl) rfl (fun h => h) rfl))))) ?_
        refine zz_iconst zd_14_87_432 ?_
        refine zz_callVV [zi v60, zi 0, zi (S0 1104 ((p0 + 1).toNat)), zi 0] zd_14_87_433 zk_Md_482 zT_1079 (zz_ltn hn rfl) rfl rfl ⟨Nat.le_of_ble_eq_true rfl, Nat.le_of_ble_eq_true rfl⟩ ⟨rfl, rfl⟩ (Nat.zero_le _) (Nat.zero_le _) (zc_with_14_79 v60 0 (S0 1104 ((p0 + 1).toNat)) 0 S57 n hn G_S57 (by omega) (by omega) (by omega) (by omega)) (fun S62 hP => ?_)
        obtain ⟨G_S62, fS62⟩ := hP
        have F_S62 := zz_fr.trans F_S57 fS62 rfl zz_nv
        refine zz_aload_n (x := 1079) rfl zd_14_87_436 ?_
        refine zz_iconst zd_14_87_437 ?_
        have g64 := zz_G.r G_S41 1079 10 0 1000000 rfl rfl
        have e65 : S62 1079 10 = S41 1079 10 := (zz_rc fS62 rfl rfl (fun h => h) (zz_rc fS57 rfl rfl (fun h => h) rfl))
        refine zz_callVV [zi 5] zd_14_87_438 zk_Md_459 zT_1079 (zz_ltn hn rfl) rfl rfl ⟨Nat.le_of_ble_eq_true rfl, Nat.le_of_ble_eq_true rfl⟩ ⟨rfl, rfl⟩ (Nat.zero_le _) (Nat.zero_le _) (zc_emit_14_77 5 S62 n hn G_S62 (by omega) (by omega)) (fun S66 hP => ?_)
        obtain ⟨G_S66, fS66, o68⟩ := hP
        have F_S66 := zz_fr.trans F_S62 fS66 rfl zz_nv
        refine zz_aload_n (x := 1079) rfl zd_14_87_441 ?_
        refine zz_dup rfl zd_14_87_442 ?_
        refine zz_geti (z := S 1079 50) zd_14_87_443 zf_Md_450 zT_1079 rfl (zz_ltn hn rfl) (zz_rc fS66 rfl rfl (fun h => h) (zz_rc fS62 rfl rfl (fun h => h) (zz_rc fS57 rfl rfl (fun h => h) (zz_rc fS41 rfl rfl (fun h => h) (zz_rc fS34 rfl rfl (fun h => h) (zz_rc fS25 rfl rfl (fun h => h) rfl)))))) ?_
        refine zz_iconst zd_14_87_446 ?_
        refine zz_iadd zd_14_87_447 ?_
        refine zz_puti zd_14_87_448 zf_Md_450 zT_1079 rfl (zz_ltn hn rfl) (fun S69 qS69 => ?_)
        have G_S69 := zz_G.put G_S66 qS69 (-2147483648) 2147483647 rfl (by omega)
        have F_S69 := zz_fr.puts F_S66 qS69 rfl
        have g70 := zz_G.r G_S66 1079 10 0 1000000 rfl rfl
        have e71 : S69 1079 10 = S66 1079 10 := (zz_ro qS69 (fun h => absurd h.2 (by decide)) rfl)
        exact zz_vret zd_14_87_451 rfl (Nat.zero_le _) (Nat.zero_le _) ⟨_, rfl, G_S69, F_S69, by omega⟩
      · refine zz_aload_n (x := 1079) rfl zd_14_87_360 ?_
        have g72 := zz_G.r G_S0 1079 54 (-2147483648) 2147483647 rfl rfl
        refine zz_geti (z := S0 1079 54) zd_14_87_361 zf_Md_492 zT_1079 rfl (zz_ltn hn rfl) (zz_rc fS41 rfl rfl (fun h => h) (zz_rc fS34 rfl rfl (fun h => h) (zz_rc fS25 rfl rfl (fun h => h) (zz_rc F_S rfl rfl (fun h => h) rfl)))) ?_
        refine zz_goto zd_14_87_364 ?_
        refine zz_istore [some (.ref 1079), some (zi p0), some (zi (S0 1107 p0.toNat)), some (zi (p0 + 1)), some (zi (S0 1079 54)), some (zi x5), some (zi x6)] zd_14_87_383 (by decide) rfl ?_
        refine zz_aload_n (x := 1079) rfl zd_14_87_385 ?_
        refine zz_bipush (by decide) zd_14_87_386 ?_
        refine zz_aload_n (x := 1079) rfl zd_14_87_388 ?_
        refine zz_getr (kd := 0) (z := 1105) zd_14_87_389 zf_Md_97 zT_1079 rfl (zz_ltn hn rfl) (zz_G.eq G_S41 1079 40 1105 rfl rfl) (by decide) 1105 rfl ?_
        refine zz_iload_n (x := p0 + 1) rfl zd_14_87_392 ?_
        have g73 := zz_G.r G_S0 1105 ((p0 + 1).toNat) (0) (if (p0 + 1).toNat = 0 then 0 else 10000000) rfl rfl
        refine zz_iald (z := S0 1105 ((p0 + 1).toNat)) zd_14_87_393 zT_1105 rfl (zz_ltn hn rfl) (by decide) (by omega) (zz_rc fS41 (zz_nc1 rfl) rfl (fun h => h) (zz_rc fS34 (zz_nc1 rfl) rfl (fun h => h) (zz_rc fS25 (zz_nc1 rfl) rfl (fun h => h) (zz_rc F_S (zz_nc1 rfl) rfl (fun h => h) rfl)))) ?_
        refine zz_iload (x := S0 1079 54) rfl zd_14_87_394 ?_
        refine zz_aload_n (x := 1079) rfl zd_14_87_396 ?_
        refine zz_getr (kd := 0) (z := 1104) zd_14_87_397 zf_Md_94 zT_1079 rfl (zz_ltn hn rfl) (zz_G.eq G_S41 1079 39 1104 rfl rfl) (by decide) 1104 rfl ?_
        refine zz_iload_n (x := p0 + 1) rfl zd_14_87_400 ?_
        have g74 := zz_G.r G_S0 1104 ((p0 + 1).toNat) 0 63 rfl rfl
        refine zz_iald (z := S0 1104 ((p0 + 1).toNat)) zd_14_87_401 zT_1104 rfl (zz_ltn hn rfl) (by decide) (by omega) (zz_rc fS41 (zz_nc1 rfl) rfl (fun h => h) (zz_rc fS34 (zz_nc1 rfl) rfl (fun h => h) (zz_rc fS25 (zz_nc1 rfl) rfl (fun h => h) (zz_rc F_S (zz_nc1 rfl) rfl (fun h => h) rfl)))) ?_
        refine zz_imul zd_14_87_402 ?_
        refine zz_nrm (fun v75 hv75 ev75 => ?_)
        refine zz_iadd zd_14_87_403 ?_
        refine zz_nrm (fun v76 hv76 ev76 => ?_)
        refine zz_aload_n (x := 1079) rfl zd_14_87_404 ?_
        have g77 := zz_G.r G_S0 1079 56 (-2147483648) 2147483647 rfl rfl
        refine zz_geti (z := S0 1079 56) zd_14_87_405 zf_Md_466 zT_1079 rfl (zz_ltn hn rfl) (zz_rc fS41 rfl rfl (fun h => h) (zz_rc fS34 rfl rfl (fun h => h) (zz_rc fS25 rfl rfl (fun h => h) (zz_rc F_S rfl rfl (fun h => h) rfl)))) ?_
        refine zz_iadd zd_14_87_408 ?_
        refine zz_nrm (fun v78 hv78 ev78 => ?_)
        refine zz_aload_n (x := 1079) rfl zd_14_87_409 ?_
        refine zz_geti (z := S0 1079 52) zd_14_87_410 zf_Md_469 zT_1079 rfl (zz_ltn hn rfl) (zz_rc fS41 rfl rfl (fun h => h) (zz_rc fS34 rfl rfl (fun h => h) (zz_rc fS25 rfl rfl (fun h => h) (zz_rc F_S rfl rfl (fun h => h) rfl)))) ?_
        refine zz_aload_n (x := 1079) rfl zd_14_87_413 ?_
        refine zz_geti (z := S0 1079 53) zd_14_87_414 zf_Md_472 zT_1079 rfl (zz_ltn hn rfl) (zz_rc fS41 rfl rfl (fun h => h) (zz_rc fS34 rfl rfl (fun h => h) (zz_rc fS25 rfl rfl (fun h => h) (zz_rc F_S rfl rfl (fun h => h) rfl)))) ?_
        refine zz_callVV [zi 8, zi v78, zi (S0 1079 52), zi (S0 1079 53)] zd_14_87_417 zk_Md_475 zT_1079 (zz_ltn hn rfl) rfl rfl ⟨Nat.le_of_ble_eq_true rfl, Nat.le_of_ble_eq_true rfl⟩ ⟨rfl, rfl⟩ (Nat.zero_le _) (Nat.zero_le _) (zc_set_14_78 8 v78 (S0 1079 52) (S0 1079 53) S41 n hn G_S41 (by omega) (by omega) (by omega) (by omega)) (fun S79 hP => ?_)
        obtain ⟨G_S79, fS79⟩ := hP
        have F_S79 := zz_fr.trans F_S41 fS79 rfl zz_nv
        refine zz_aload_n (x := 1079) rfl zd_14_87_420 ?_
        refine zz_aload_n (x := 1079) rfl zd_14_87_421 ?_
        refine zz_callVI [] zd_14_87_422 zk_Md_479 zT_1079 (zz_ltn hn rfl) rfl rfl ⟨Nat.le_of_ble_eq_true rfl, Nat.le_of_ble_eq_true rfl⟩ ⟨rfl, rfl⟩ (Nat.zero_le _) (Nat.zero_le _) (zc_quarter_14_81  S79 n hn G_S79 ) (fun v82 S81 hP => ?_)
        obtain ⟨rfl, o83⟩ := hP
        refine zz_iconst zd_14_87_425 ?_
        refine zz_aload_n (x := 1079) rfl zd_14_87_426 ?_
        refine zz_getr (kd := 0) (z := 1104) zd_14_87_427 zf_Md_94 zT_1079 rfl (zz_ltn hn rfl) (zz_G.eq G_S79 1079 39 1104 rfl rfl) (by decide) 1104 rfl ?_
        refine zz_iload_n (x := p0 + 1) rfl zd_14_87_430 ?_
        refine zz_iald (z := S0 1104 ((p0 + 1).toNat)) zd_14_87_431 zT_1104 rfl (zz_ltn hn rfl) (by decide) (by omega) (zz_rc fS79 (zz_nc1 rfl) rfl (fun h => h) (zz_rc fS41 (zz_nc1 rfl) rfl (fun h => h) (zz_rc fS34 (zz_nc1 rfl) rfl (fun h => h) (zz_rc fS25 (zz_nc1 rfl) rfl (fun h => h) (zz_rc F_S (zz_nc1 rfl) rfl (fun h => h) rfl))))) ?_
        refine zz_iconst zd_14_87_432 ?_
        refine zz_callVV [zi v82, zi 0, zi (S0 1104 ((p0 + 1).toNat)), zi 0] zd_14_87_433 zk_Md_482 zT_1079 (zz_ltn hn rfl) rfl rfl ⟨Nat.le_of_ble_eq_true rfl, Nat.le_of_ble_eq_true rfl⟩ ⟨rfl, rfl⟩ (Nat.zero_le _) (Nat.zero_le _) (zc_with_14_79 v82 0 (S0 1104 ((p0 + 1).toNat)) 0 S79 n hn G_S79 (by omega) (by omega) (by omega) (by omega)) (fun S84 hP => ?_)
        obtain ⟨G_S84, fS84⟩ := hP
        have F_S84 := zz_fr.trans F_S79 fS84 rfl zz_nv
        refine zz_aload_n (x := 1079) rfl zd_14_87_436 ?_
        refine zz_iconst zd_14_87_437 ?_
        have g86 := zz_G.r G_S41 1079 10 0 1000000 rfl rfl
        have e87 : S84 1079 10 = S41 1079 10 := (zz_rc fS84 rfl rfl (fun h => h) (zz_rc fS79 rfl rfl (fun h => h) rfl))
        refine zz_callVV [zi 5] zd_14_87_438 zk_Md_459 zT_1079 (zz_ltn hn rfl) rfl rfl ⟨Nat.le_of_ble_eq_true rfl, Nat.le_of_ble_eq_true rfl⟩ ⟨rfl, rfl⟩ (Nat.zero_le _) (Nat.zero_le _) (zc_emit_14_77 5 S84 n hn G_S84 (by omega) (by omega)) (fun S88 hP => ?_)
        obtain ⟨G_S88, fS88, o90⟩ := hP
        have F_S88 := zz_fr.trans F_S84 fS88 rfl zz_nv
        refine zz_aload_n (x := 1079) rfl zd_14_87_441 ?_
        refine zz_dup rfl zd_14_87_442 ?_
        refine zz_geti (z := S 1079 50) zd_14_87_443 zf_Md_450 zT_1079 rfl (zz_ltn hn rfl) (zz_rc fS88 rfl rfl (fun h => h) (zz_rc fS84 rfl rfl (fun h => h) (zz_rc fS79 rfl rfl (fun h => h) (zz_rc fS41 rfl rfl (fun h => h) (zz_rc fS34 rfl rfl (fun h => h) (zz_rc fS25 rfl rfl (fun h => h) rfl)))))) ?_
        refine zz_iconst zd_14_87_446 ?_
        refine zz_iadd zd_14_87_447 ?_
        refine zz_puti zd_14_87_448 zf_Md_450 zT_1079 rfl (zz_ltn hn rfl) (fun S91 qS91 => ?_)
        have G_S91 := zz_G.put G_S88 qS91 (-2147483648) 2147483647 rfl (by omega)
        have F_S91 := zz_fr.puts F_S88 qS91 rfl
        have g92 := zz_G.r G_S88 1079 10 0 1000000 rfl rfl
        have e93 : S91 1079 10 = S88 1079 10 := (zz_ro qS91 (fun h => absurd h.2 (by decide)) rfl)
        exact zz_vret zd_14_87_451 rfl (Nat.zero_le _) (Nat.zero_le _) ⟨_, rfl, G_S91, F_S91, by omega⟩
    · refine zz_iconst zd_14_87_337 ?_
      refine zz_goto zd_14_87_338 ?_
      refine zz_ior (by omega) (by omega) zd_14_87_342 (fun v94 hv94 av94 ev94 => ?_)
      have g95 := zz_G.r G_S 1079 10 0 1000000 rfl rfl
      have e96 : S34 1079 10 = S 1079 10 := (zz_rc fS34 rfl rfl (fun h => h) (zz_rc fS25 rfl rfl (fun h => h) rfl))
      refine zz_callVV [zi v94] zd_14_87_343 zk_Md_459 zT_1079 (zz_ltn hn rfl) rfl rfl ⟨Nat.le_of_ble_eq_true rfl, Nat.le_of_ble_eq_true rfl⟩ ⟨rfl, rfl⟩ (Nat.zero_le _) (Nat.zero_le _) (zc_emit_14_77 v94 S34 n hn G_S34 (by omega) (by omega)) (fun S97 hP => ?_)
      obtain ⟨G_S97, fS97, o99⟩ := hP
      have F_S97 := zz_fr.trans F_S34 fS97 rfl zz_nv
      refine zz_iload_n (x := p0) rfl zd_14_87_346 ?_
      refine zz_iconst zd_14_87_347 ?_
      refine zz_iadd zd_14_87_348 ?_
      refine zz_istore_n [some (.ref 1079), some (zi p0), some (zi (S0 1107 p0.toNat)), some (zi (p0 + 1)), some (zi ((S0 1109 p0.toNat) * (S0 1110 p0.toNat))), some (zi x5), some (zi x6)] zd_14_87_349 (by decide) rfl ?_
      refine zz_aload_n (x := 1079) rfl zd_14_87_350 ?_
      refine zz_getr (kd := 0) (z := 1106) zd_14_87_351 zf_Md_100 zT_1079 rfl (zz_ltn hn rfl) (zz_G.eq G_S97 1079 41 1106 rfl rfl) (by decide) 1106 rfl ?_
      refine zz_iload_n (x := p0) rfl zd_14_87_354 ?_
      have g100 := zz_G.r G_S0 1106 p0.toNat 0 2 rfl rfl
      refine zz_iald (z := S0 1106 p0.toNat) zd_14_87_355 zT_1106 rfl (zz_ltn hn rfl) (by decide) (by omega) (zz_rc fS97 (zz_nc1 rfl) rfl (fun h => h) (zz_rc fS34 (zz_nc1 rfl) rfl (fun h => h) (zz_rc fS25 (zz_nc1 rfl) rfl (fun h => h) (zz_rc F_S (zz_nc1 rfl) rfl (fun h => h) rfl)))) ?_
      refine zz_iconst zd_14_87_356 ?_
      refine zz_icmp_ne (by omega) (by omega) zd_14_87_357 (fun c101 => ?_) (fun c101 => ?_)
      · refine zz_aload_n (x := 1079) rfl zd_14_87_367 ?_
        have g102 := zz_G.r G_S0 1079 55 (-2147483648) 2147483647 rfl rfl
        refine zz_geti (z := S0 1079 55) zd_14_87_368 zf_Md_495 zT_1079 rfl (zz_ltn hn rfl) (zz_rc fS97 rfl rfl (fun h => h) (zz_rc fS34 rfl rfl (fun h => h) (zz_rc fS25 rfl rfl (fun h => h) (zz_rc F_S rfl rfl (fun h => h) rfl)))) ?_
        refine zz_aload_n (x := 1079) rfl zd_14_87_371 ?_
        refine zz_getr (kd := 0) (z := 1103) zd_14_87_372 zf_Md_91 zT_1079 rfl (zz_ltn hn rfl) (zz_G.eq G_S97 1079 38 1103 rfl rfl) (by decide) 1103 rfl ?_
        refine zz_iload_n (x := p0 + 1) rfl zd_14_87_375 ?_
        have g103 := zz_G.r G_S0 1103 ((p0 + 1).toNat) 0 63 rfl rfl
        refine zz_iald (z := S0 1103 ((p0 + 1).toNat)) zd_14_87_376 zT_1103 rfl (zz_ltn hn rfl) (by decide) (by omega) (zz_rc fS97 (zz_nc1 rfl) rfl (fun h => h) (zz_rc fS34 (zz_nc1 rfl) rfl (fun h => h) (zz_rc fS25 (zz_nc1 rfl) rfl (fun h => h) (zz_rc F_S (zz_nc1 rfl) rfl (fun h => h) rfl)))) ?_
        refine zz_imul zd_14_87_377 ?_
        refine zz_nrm (fun v104 hv104 ev104 => ?_)
        refine zz_aload_n (x := 1079) rfl zd_14_87_378 ?_
        have g105 := zz_G.r G_S0 1079 54 (-2147483648) 2147483647 rfl rfl
        refine zz_geti (z := S0 1079 54) zd_14_87_379 zf_Md_492 zT_1079 rfl (zz_ltn hn rfl) (zz_rc fS97 rfl rfl (fun h => h) (zz_rc fS34 rfl rfl (fun h => h) (zz_rc fS25 rfl rfl (fun h => h) (zz_rc F_S rfl rfl (fun h => h) rfl)))) ?_
        refine zz_iadd zd_14_87_382 ?_
        refine zz_nrm (fun v106 hv106 ev106 => ?_)
        refine zz_istore [some (.ref 1079), some (zi p0), some (zi (S0 1107 p0.toNat)), some (zi (p0 + 1)), some (zi v106), some (zi x5), some (zi x6)] zd_14_87_383 (by decide) rfl ?_
        refine zz_aload_n (x := 1079) rfl zd_14_87_385 ?_
        refine zz_bipush (by decide) zd_14_87_386 ?_
        refine zz_aload_n (x := 1079) rfl zd_14_87_388 ?_
        refine zz_getr (kd := 0) (z := 1105) zd_14_87_389 zf_Md_97 zT_1079 rfl (zz_ltn hn rfl) (zz_G.eq G_S97 1079 40 1105 rfl rfl) (by decide) 1105 rfl ?_
        refine zz_iload_n (x := p0 + 1) rfl zd_14_87_392 ?_
        have g107 := zz_G.r G_S0 1105 ((p0 + 1).toNat) (0) (if (p0 + 1).toNat = 0 then 0 else 10000000) rfl rfl
        refine zz_iald (z := S0 1105 ((p0 + 1).toNat)) zd_14_87_393 zT_1105 rfl (zz_ltn hn rfl) (by decide) (by omega) (zz_rc fS97 (zz_nc1 rfl) rfl (fun h => h) (zz_rc fS34 (zz_nc1 rfl) rfl (fun h => h) (zz_rc fS25 (zz_nc1 rfl) rfl (fun h => h) (zz_rc F_S (zz_nc1 rfl) rfl (fun h => h) rfl)))) ?_
        refine zz_iload (x := v106) rfl zd_14_87_394 ?_
        refine zz_aload_n (x := 1079) rfl zd_14_87_396 ?_
        refine zz_getr (kd := 0) (z := 1104) zd_14_87_397 zf_Md_94 zT_1079 rfl (zz_ltn hn rfl) (zz_G.eq G_S97 1079 39 1104 rfl rfl) (by decide) 1104 rfl ?_
        refine zz_iload_n (x := p0 + 1) rfl zd_14_87_400 ?_
        have g108 := zz_G.r G_S0 1104 ((p0 + 1).toNat) 0 63 rfl rfl
        refine zz_iald (z := S0 1104 ((p0 + 1).toNat)) zd_14_87_401 zT_1104 rfl (zz_ltn hn rfl) (by decide) (by omega) (zz_rc fS97 (zz_nc1 rfl) rfl (fun h => h) (zz_rc fS34 (zz_nc1 rfl) rfl (fun h => h) (zz_rc fS25 (zz_nc1 rfl) rfl (fun h => h) (zz_rc F_S (zz_nc1 rfl) rfl (fun h => h) rfl)))) ?_
        refine zz_imul zd_14_87_402 ?_
        refine zz_nrm (fun v109 hv109 ev109 => ?_)
        refine zz_iadd zd_14_87_403 ?_
        refine zz_nrm (fun v110 hv110 ev110 => ?_)
        refine zz_aload_n (x := 1079) rfl zd_14_87_404 ?_
        have g111 := zz_G.r G_S0 1079 56 (-2147483648) 2147483647 rfl rfl
        refine zz_geti (z := S0 1079 56) zd_14_87_405 zf_Md_466 zT_1079 rfl (zz_ltn hn rfl) (zz_rc fS97 rfl rfl (fun h => h) (zz_rc fS34 rfl rfl (fun h => h) (zz_rc fS25 rfl rfl (fun h => h) (zz_rc F_S rfl rfl (fun h => h) rfl)))) ?_
        refine zz_iadd zd_14_87_408 ?_
        refine zz_nrm (fun v112 hv112 ev112 => ?_)
        refine zz_aload_n (x := 1079) rfl zd_14_87_409 ?_
        refine zz_geti (z := S0 1079 52) zd_14_87_410 zf_Md_469 zT_1079 rfl (zz_ltn hn rfl) (zz_rc fS97 rfl rfl (fun h => h) (zz_rc fS34 rfl rfl (fun h => h) (zz_rc fS25 rfl rfl (fun h => h) (zz_rc F_S rfl rfl (fun h => h) rfl)))) ?_
        refine zz_aload_n (x := 1079) rfl zd_14_87_413 ?_
        refine zz_geti (z := S0 1079 53) zd_14_87_414 zf_Md_472 zT_1079 rfl (zz_ltn hn rfl) (zz_rc fS97 rfl rfl (fun h => h) (zz_rc fS34 rfl rfl (fun h => h) (zz_rc fS25 rfl rfl (fun h => h) (zz_rc F_S rfl rfl (fun h => h) rfl)))) ?_
        refine zz_callVV [zi 8, zi v112, zi (S0 1079 52), zi (S0 1079 53)] zd_14_87_417 zk_Md_475 zT_1079 (zz_ltn hn rfl) rfl rfl ⟨Nat.le_of_ble_eq_true rfl, Nat.le_of_ble_eq_true rfl⟩ ⟨rfl, rfl⟩ (Nat.zero_le _) (Nat.zero_le _) (zc_set_14_78 8 v112 (S0 1079 52) (S0 1079 53) S97 n hn G_S97 (by omega) (by omega) (by omega) (by omega)) (fun S113 hP => ?_)
        obtain ⟨G_S113, fS113⟩ := hP
        have F_S113 := zz_fr.trans F_S97 fS113 rfl zz_nv
        refine zz_aload_n (x := 1079) rfl zd_14_87_420 ?_
        refine zz_aload_n (x := 1079) rfl zd_14_87_421 ?_
        refine zz_callVI [] zd_14_87_422 zk_Md_479 zT_1079 (zz_ltn hn rfl) rfl rfl ⟨Nat.le_of_ble_eq_true rfl, Nat.le_of_ble_eq_true rfl⟩ ⟨rfl, rfl⟩ (Nat.zero_le _) (Nat.zero_le _) (zc_quarter_14_81  S113 n hn G_S113 ) (fun v116 S115 hP => ?_)
        obtain ⟨rfl, o117⟩ := hP
        refine zz_iconst zd_14_87_425 ?_
        refine zz_aload_n (x := 1079) rfl zd_14_87_426 ?_
        refine zz_getr (kd := 0) (z := 1104) zd_14_87_427 zf_Md_94 zT_1079 rfl (zz_ltn hn rfl) (zz_G.eq G_S113 1079 39 1104 rfl rfl) (by decide) 1104 rfl ?_
        refine zz_iload_n (x := p0 + 1) rfl zd_14_87_430 ?_
        refine zz_iald (z := S0 1104 ((p0 + 1).toNat)) zd_14_87_431 zT_1104 rfl (zz_ltn hn rfl) (by decide) (by omega) (zz_rc fS113 (zz_nc1 rfl) rfl (fun h => h) (zz_rc fS97 (zz_nc1 rfl) rfl (fun h => h) (zz_rc fS34 (zz_nc1 rfl) rfl (fun h => h) (zz_rc fS25 (zz_nc1 rfl) rfl (fun h => h) (zz_rc F_S (zz_nc1 rfl) rfl (fun h => h) rfl))))) ?_
        refine zz_iconst zd_14_87_432 ?_
        refine zz_callVV [zi v116, zi 0, zi (S0 1104 ((p0 + 1).toNat)), zi 0] zd_14_87_433 zk_Md_482 zT_1079 (zz_ltn hn rfl) rfl rfl ⟨Nat.le_of_ble_eq_true rfl, Nat.le_of_ble_eq_true rfl⟩ ⟨rfl, rfl⟩ (Nat.zero_le _) (Nat.zero_le _) (zc_with_14_79 v116 0 (S0 1104 ((p0 + 1).toNat)) 0 S113 n hn G_S113 (by omega) (by omega) (by omega) (by omega)) (fun S118 hP => ?_)
        obtain ⟨G_S118, fS118⟩ := hP
        have F_S118 := zz_fr.trans F_S113 fS118 rfl zz_nv
        refine zz_aload_n (x := 1079) rfl zd_14_87_436 ?_
        refine zz_iconst zd_14_87_437 ?_
        have g120 := zz_G.r G_S97 1079 10 0 1000000 rfl rfl
        have e121 : S118 1079 10 = S97 1079 10 := (zz_rc fS118 rfl rfl (fun h => h) (zz_rc fS113 rfl rfl (fun h => h) rfl))
        refine zz_callVV [zi 5] zd_14_87_438 zk_Md_459 zT_1079 (zz_ltn hn rfl) rfl rfl ⟨Nat.le_of_ble_eq_true rfl, Nat.le_of_ble_eq_true rfl⟩ ⟨rfl, rfl⟩ (Nat.zero_le _) (Nat.zero_le _) (zc_emit_14_77 5 S118 n hn G_S118 (by omega) (by omega)) (fun S122 hP => ?_)
        obtain ⟨G_S122, fS122, o124⟩ := hP
        have F_S122 := zz_fr.trans F_S118 fS122 rfl zz_nv
        refine zz_aload_n (x := 1079) rfl zd_14_87_441 ?_
        refine zz_dup rfl zd_14_87_442 ?_
        refine zz_geti (z := S 1079 50) zd_14_87_443 zf_Md_450 zT_1079 rfl (zz_ltn hn rfl) (zz_rc fS122 rfl rfl (fun h => h) (zz_rc fS118 rfl rfl (fun h => h) (zz_rc fS113 rfl rfl (fun h => h) (zz_rc fS97 rfl rfl (fun h => h) (zz_rc fS34 rfl rfl (fun h => h) (zz_rc fS25 rfl rfl (fun h => h) rfl)))))) ?_
        refine zz_iconst zd_14_87_446 ?_
        refine zz_iadd zd_14_87_447 ?_
        refine zz_nrm (fun v125 hv125 ev125 => ?_)
        refine zz_puti zd_14_87_448 zf_Md_450 zT_1079 rfl (zz_ltn hn rfl) (fun S126 qS126 => ?_)
        have G_S126 := zz_G.put G_S122 qS126 (-2147483648) 2147483647 rfl (by omega)
        have F_S126 := zz_fr.puts F_S122 qS126 rfl
        have g127 := zz_G.r G_S122 1079 10 0 1000000 rfl rfl
        have e128 : S126 1079 10 = S122 1079 10 := (zz_ro qS126 (fun h => absurd h.2 (by decide)) rfl)
        exact zz_vret zd_14_87_451 rfl (Nat.zero_le _) (Nat.zero_le _) ⟨_, rfl, G_S126, F_S126, by omega⟩
      · refine zz_aload_n (x := 1079) rfl zd_14_87_360 ?_
        have g129 := zz_G.r G_S0 1079 54 (-2147483648) 2147483647 rfl rfl
        refine zz_geti (z := S0 1079 54) zd_14_87_361 zf_Md_492 zT_1079 rfl (zz_ltn hn rfl) (zz_rc fS97 rfl rfl (fun h => h) (zz_rc fS34 rfl rfl (fun h => h) (zz_rc fS25 rfl rfl (fun h => h) (zz_rc F_S rfl rfl (fun h => h) rfl)))) ?_
        refine zz_goto zd_14_87_364 ?_
        refine zz_istore [some (.ref 1079), some (zi p0), some (zi (S0 1107 p0.toNat)), some (zi (p0 + 1)), some (zi (S0 1079 54)), some (zi x5), some (zi x6)] zd_14_87_383 (by decide) rfl ?_
        refine zz_aload_n (x := 1079) rfl zd_14_87_385 ?_
        refine zz_bipush (by decide) zd_14_87_386 ?_
        refine zz_aload_n (x := 1079) rfl zd_14_87_388 ?_
        refine zz_getr (kd := 0) (z := 1105) zd_14_87_389 zf_Md_97 zT_1079 rfl (zz_ltn hn rfl) (zz_G.eq G_S97 1079 40 1105 rfl rfl) (by decide) 1105 rfl ?_
        refine zz_iload_n (x := p0 + 1) rfl zd_14_87_392 ?_
        have g130 := zz_G.r G_S0 1105 ((p0 + 1).toNat) (0) (if (p0 + 1).toNat = 0 then 0 else 10000000) rfl rfl
        refine zz_iald (z := S0 1105 ((p0 + 1).toNat)) zd_14_87_393 zT_1105 rfl (zz_ltn hn rfl) (by decide) (by omega) (zz_rc fS97 (zz_nc1 rfl) rfl (fun h => h) (zz_rc fS34 (zz_nc1 rfl) rfl (fun h => h) (zz_rc fS25 (zz_nc1 rfl) rfl (fun h => h) (zz_rc F_S (zz_nc1 rfl) rfl (fun h => h) rfl)))) ?_
        refine zz_iload (x := S0 1079 54) rfl zd_14_87_394 ?_
        refine zz_aload_n (x := 1079) rfl zd_14_87_396 ?_
        refine zz_getr (kd := 0) (z := 1104) zd_14_87_397 zf_Md_94 zT_1079 rfl (zz_ltn hn rfl) (zz_G.eq G_S97 1079 39 1104 rfl rfl) (by decide) 1104 rfl ?_
        refine zz_iload_n (x := p0 + 1) rfl zd_14_87_400 ?_
        have g131 := zz_G.r G_S0 1104 ((p0 + 1).toNat) 0 63 rfl rfl
        refine zz_iald (z := S0 1104 ((p0 + 1).toNat)) zd_14_87_401 zT_1104 rfl (zz_ltn hn rfl) (by decide) (by omega) (zz_rc fS97 (zz_nc1 rfl) rfl (fun h => h) (zz_rc fS34 (zz_nc1 rfl) rfl (fun h => h) (zz_rc fS25 (zz_nc1 rfl) rfl (fun h => h) (zz_rc F_S (zz_nc1 rfl) rfl (fun h => h) rfl)))) ?_
        refine zz_imul zd_14_87_402 ?_
        refine zz_nrm (fun v132 hv132 ev132 => ?_)
        refine zz_iadd zd_14_87_403 ?_
        refine zz_nrm (fun v133 hv133 ev133 => ?_)
        refine zz_aload_n (x := 1079) rfl zd_14_87_404 ?_
        have g134 := zz_G.r G_S0 1079 56 (-2147483648) 2147483647 rfl rfl
        refine zz_geti (z := S0 1079 56) zd_14_87_405 zf_Md_466 zT_1079 rfl (zz_ltn hn rfl) (zz_rc fS97 rfl rfl (fun h => h) (zz_rc fS34 rfl rfl (fun h => h) (zz_rc fS25 rfl rfl (fun h => h) (zz_rc F_S rfl rfl (fun h => h) rfl)))) ?_
        refine zz_iadd zd_14_87_408 ?_
        refine zz_nrm (fun v135 hv135 ev135 => ?_)
        refine zz_aload_n (x := 1079) rfl zd_14_87_409 ?_
        refine zz_geti (z := S0 1079 52) zd_14_87_410 zf_Md_469 zT_1079 rfl (zz_ltn hn rfl) (zz_rc fS97 rfl rfl (fun h => h) (zz_rc fS34 rfl rfl (fun h => h) (zz_rc fS25 rfl rfl (fun h => h) (zz_rc F_S rfl rfl (fun h => h) rfl)))) ?_
        refine zz_aload_n (x := 1079) rfl zd_14_87_413 ?_
        refine zz_geti (z := S0 1079 53) zd_14_87_414 zf_Md_472 zT_1079 rfl (zz_ltn hn rfl) (zz_rc fS97 rfl rfl (fun h => h) (zz_rc fS34 rfl rfl (fun h => h) (zz_rc fS25 rfl rfl (fun h => h) (zz_rc F_S rfl rfl (fun h => h) rfl)))) ?_
        refine zz_callVV [zi 8, zi v135, zi (S0 1079 52), zi (S0 1079 53)] zd_14_87_417 zk_Md_475 zT_1079 (zz_ltn hn rfl) rfl rfl ⟨Nat.le_of_ble_eq_true rfl, Nat.le_of_ble_eq_true rfl⟩ ⟨rfl, rfl⟩ (Nat.zero_le _) (Nat.zero_le _) (zc_set_14_78 8 v135 (S0 1079 52) (S0 1079 53) S97 n hn G_S97 (by omega) (by omega) (by omega) (by omega)) (fun S136 hP => ?_)
        obtain ⟨G_S136, fS136⟩ := hP
        have F_S136 := zz_fr.trans F_S97 fS136 rfl zz_nv
        refine zz_aload_n (x := 1079) rfl zd_14_87_420 ?_
        refine zz_aload_n (x := 1079) rfl zd_14_87_421 ?_
        refine zz_callVI [] zd_14_87_422 zk_Md_479 zT_1079 (zz_ltn hn rfl) rfl rfl ⟨Nat.le_of_ble_eq_true rfl, Nat.le_of_ble_eq_true rfl⟩ ⟨rfl, rfl⟩ (Nat.zero_le _) (Nat.zero_le _) (zc_quarter_14_81  S136 n hn G_S136 ) (fun v139 S138 hP => ?_)
        obtain ⟨rfl, o140⟩ := hP
        refine zz_iconst zd_14_87_425 ?_
        refine zz_aload_n (x := 1079) rfl zd_14_87_426 ?_
        refine zz_getr (kd := 0) (z := 1104) zd_14_87_427 zf_Md_94 zT_1079 rfl (zz_ltn hn rfl) (zz_G.eq G_S136 1079 39 1104 rfl rfl) (by decide) 1104 rfl ?_
        refine zz_iload_n (x := p0 + 1) rfl zd_14_87_430 ?_
        refine zz_iald (z := S0 1104 ((p0 + 1).toNat)) zd_14_87_431 zT_1104 rfl (zz_ltn hn rfl) (by decide) (by omega) (zz_rc fS136 (zz_nc1 rfl) rfl (fun h => h) (zz_rc fS97 (zz_nc1 rfl) rfl (fun h => h) (zz_rc fS34 (zz_nc1 rfl) rfl (fun h => h) (zz_rc fS25 (zz_nc1 rfl) rfl (fun h => h) (zz_rc F_S (zz_nc1 rfl) rfl (fun h => h) rfl))))) ?_
        refine zz_iconst zd_14_87_432 ?_
        refine zz_callVV [zi v139, zi 0, zi (S0 1104 ((p0 + 1).toNat)), zi 0] zd_14_87_433 zk_Md_482 zT_1079 (zz_ltn hn rfl) rfl rfl ⟨Nat.le_of_ble_eq_true rfl, Nat.le_of_ble_eq_true rfl⟩ ⟨rfl, rfl⟩ (Nat.zero_le _) (Nat.zero_le _) (zc_with_14_79 v139 0 (S0 1104 ((p0 + 1).toNat)) 0 S136 n hn G_S136 (by omega) (by omega) (by omega) (by omega)) (fun S141 hP => ?_)
        obtain ⟨G_S141, fS141⟩ := hP
        have F_S141 := zz_fr.trans F_S136 fS141 rfl zz_nv
        refine zz_aload_n (x := 1079) rfl zd_14_87_436 ?_
        refine zz_iconst zd_14_87_437 ?_
        have g143 := zz_G.r G_S97 1079 10 0 1000000 rfl rfl
        have e144 : S141 1079 10 = S97 1079 10 := (zz_rc fS141 rfl rfl (fun h => h) (zz_rc fS136 rfl rfl (fun h => h) rfl))
        refine zz_callVV [zi 5] zd_14_87_438 zk_Md_459 zT_1079 (zz_ltn hn rfl) rfl rfl ⟨Nat.le_of_ble_eq_true rfl, Nat.le_of_ble_eq_true rfl⟩ ⟨rfl, rfl⟩ (Nat.zero_le _) (Nat.zero_le _) (zc_emit_14_77 5 S141 n hn G_S141 (by omega) (by omega)) (fun S145 hP => ?_)
        obtain ⟨G_S145, fS145, o147⟩ := hP
        have F_S145 := zz_fr.trans F_S141 fS145 rfl zz_nv
        refine zz_aload_n (x := 1079) rfl zd_14_87_441 ?_
        refine zz_dup rfl zd_14_87_442 ?_
        refine zz_geti (z := S 1079 50) zd_14_87_443 zf_Md_450 zT_1079 rfl (zz_ltn hn rfl) (zz_rc fS145 rfl rfl (fun h => h) (zz_rc fS141 rfl rfl (fun h => h) (zz_rc fS136 rfl rfl (fun h => h) (zz_rc fS97 rfl rfl (fun h => h) (zz_rc fS34 rfl rfl (fun h => h) (zz_rc fS25 rfl rfl (fun h => h) rfl)))))) ?_
        refine zz_iconst zd_14_87_446 ?_
        refine zz_iadd zd_14_87_447 ?_
        refine zz_nrm (fun v148 hv148 ev148 => ?_)
        refine zz_puti zd_14_87_448 zf_Md_450 zT_1079 rfl (zz_ltn hn rfl) (fun S149 qS149 => ?_)
        have G_S149 := zz_G.put G_S145 qS149 (-2147483648) 2147483647 rfl (by omega)
        have F_S149 := zz_fr.puts F_S145 qS149 rfl
        have g150 := zz_G.r G_S145 1079 10 0 1000000 rfl rfl
        have e151 : S149 1079 10 = S145 1079 10 := (zz_ro qS149 (fun h => absurd h.2 (by decide)) rfl)
        exact zz_vret zd_14_87_451 rfl (Nat.zero_le _) (Nat.zero_le _) ⟨_, rfl, G_S149, F_S149, by omega⟩
  · have hpp := zz_pos2 (a := x4) (b := x5) (k := x6) (by omega) (by omega) (by omega) (by omega)
    have hkr := zz_G.r G_S0 1109 p0.toNat 0 3 rfl rfl
    have hkc := zz_G.r G_S0 1110 p0.toNat 0 3 rfl rfl
    have hpk := zz_pos2 (a := S0 1109 p0.toNat) (b := S0 1110 p0.toNat) (k := 0) (by omega) (by omega) (by omega) (by omega)
    refine zz_iload_n (x := x3) rfl zd_14_87_157 ?_
    refine zz_if_eq (by omega) zd_14_87_158 (fun c152 => ?_) (fun c152 => ?_)
    · refine zz_iload (x := x6) rfl zd_14_87_168 ?_
      refine zz_iload (x := x5) rfl zd_14_87_170 ?_
      refine zz_irem (by omega) (by omega) zd_14_87_172 (fun v153 hv153 av153 bv153 cv153 => ?_)
      refine zz_aload_n (x := 1079) rfl zd_14_87_173 ?_
      have g154 := zz_G.r G_S0 1079 1 2 8 rfl rfl
      refine zz_geti (z := S0 1079 1) zd_14_87_174 zf_Md_7 zT_1079 rfl (zz_ltn hn rfl) (zz_rc F_S rfl rfl (fun h => h) rfl) ?_
      refine zz_imul zd_14_87_177 ?_
      have m155 := zz_mulb (a := v153) (b := S0 1079 1) 34 8 272 (by omega) (by omega) (by decide)
      refine zz_istore [some (.ref 1079), some (zi p0), some (zi (S0 1107 p0.toNat)), some (zi x3), some (zi ((S0 1109 p0.toNat) * (S0 1110 p0.toNat))), some (zi x5), some (zi x6), some (zi (v153 * (S0 1079 1)))] zd_14_87_178 (by decide) rfl ?_
      refine zz_iload_n (x := x3) rfl zd_14_87_180 ?_
      refine zz_if_eq (by omega) zd_14_87_181 (fun c156 => ?_) (fun c156 => ?_)
      · refine zz_aload_n (x := 1079) rfl zd_14_87_191 ?_
        refine zz_geti (z := S0 1079 1) zd_14_87_192 zf_Md_7 zT_1079 rfl (zz_ltn hn rfl) (zz_rc F_S rfl rfl (fun h => h) rfl) ?_
        refine zz_aload_n (x := 1079) rfl zd_14_87_195 ?_
        refine zz_getr (kd := 0) (z := 1104) zd_14_87_196 zf_Md_94 zT_1079 rfl (zz_ltn hn rfl) (zz_G.eq G_S 1079 39 1104 rfl rfl) (by decide) 1104 rfl ?_
        refine zz_iload_n (x := S0 1107 p0.toNat) rfl zd_14_87_199 ?_
        have g157 := zz_G.r G_S0 1104 ((S0 1107 p0.toNat).toNat) 0 63 rfl rfl
        refine zz_iald (z := S0 1104 ((S0 1107 p0.toNat).toNat)) zd_14_87_200 zT_1104 rfl (zz_ltn hn rfl) (by decide) (by omega) (zz_rc F_S (zz_nc1 rfl) rfl (fun h => h) rfl) ?_
        refine zz_iload (x := v153 * (S0 1079 1)) rfl zd_14_87_201 ?_
        refine zz_isub zd_14_87_203 ?_
        refine zz_nme (fun v158 ev158 => ?_)
        refine zz_callSI [zi (S0 1079 1), zi v158] zd_14_87_204 zk_Md_506 rfl rfl ⟨Nat.le_of_ble_eq_true rfl, Nat.le_of_ble_eq_true rfl⟩ ⟨rfl, rfl⟩ (Nat.zero_le _) (Nat.zero_le _) (zc_least_14_85 (S0 1079 1) v158 S n hn G_S (by omega) (by omega)) (fun v160 S159 hP => ?_)
        obtain ⟨rfl, o161, o162⟩ := hP
        refine zz_istore [some (.ref 1079), some (zi p0), some (zi (S0 1107 p0.toNat)), some (zi x3), some (zi ((S0 1109 p0.toNat) * (S0 1110 p0.toNat))), some (zi x5), some (zi x6), some (zi (v153 * (S0 1079 1))), some (zi v160)] zd_14_87_207 (by decide) rfl ?_
        refine zz_aload_n (x := 1079) rfl zd_14_87_209 ?_
        refine zz_iload_n (x := p0) rfl zd_14_87_210 ?_
        refine zz_iload (x := x6) rfl zd_14_87_211 ?_
        refine zz_iload (x := x5) rfl zd_14_87_213 ?_
        refine zz_idiv (by omega) (by omega) zd_14_87_215 (fun v163 hv163 av163 bv163 cv163 => ?_)
        have m164 := zz_divb (by omega) (by omega) av163
        refine zz_aload_n (x := 1079) rfl zd_14_87_216 ?_
        refine zz_getr (kd := 0) (z := 1110) zd_14_87_217 zf_Md_112 zT_1079 rfl (zz_ltn hn rfl) (zz_G.eq G_S 1079 45 1110 rfl rfl) (by decide) 1110 rfl ?_
        refine zz_iload_n (x := p0) rfl zd_14_87_220 ?_
        have g165 := zz_G.r G_S0 1110 p0.toNat 0 3 rfl rfl
        refine zz_iald (z := S0 1110 p0.toNat) zd_14_87_221 zT_1110 rfl (zz_ltn hn rfl) (by decide) (by omega) (zz_rc F_S (zz_nc1 rfl) rfl (fun h => h) rfl) ?_
        refine zz_idiv (by omega) (by omega) zd_14_87_222 (fun v166 hv166 av166 bv166 cv166 => ?_)
        have m167 := zz_divb (by omega) (by omega) av166
        refine zz_iload (x := x6) rfl zd_14_87_223 ?_
        refine zz_iload (x := x5) rfl zd_14_87_225 ?_
        refine zz_idiv (by omega) (by omega) zd_14_87_227 (fun v168 hv168 av168 bv168 cv168 => ?_)
        have m169 := zz_divb (by omega) (by omega) av168
        refine zz_aload_n (x := 1079) rfl zd_14_87_228 ?_
        refine zz_getr (kd := 0) (z := 1110) zd_14_87_229 zf_Md_112 zT_1079 rfl (zz_ltn hn rfl) (zz_G.eq G_S 1079 45 1110 rfl rfl) (by decide) 1110 rfl ?_
        refine zz_iload_n (x := p0) rfl zd_14_87_232 ?_
        refine zz_iald (z := S0 1110 p0.toNat) zd_14_87_233 zT_1110 rfl (zz_ltn hn rfl) (by decide) (by omega) (zz_rc F_S (zz_nc1 rfl) rfl (fun h => h) rfl) ?_
        refine zz_irem (by omega) (by omega) zd_14_87_234 (fun v170 hv170 av170 bv170 cv170 => ?_)
        refine zz_iload (x := v153 * (S0 1079 1)) rfl zd_14_87_235 ?_
        refine zz_iload (x := v160) rfl zd_14_87_237 ?_
        refine zz_iload (x := x6) rfl zd_14_87_239 ?_
        refine zz_if_ne (by omega) zd_14_87_241 (fun c171 => ?_) (fun c171 => ?_)
        · refine zz_iconst zd_14_87_248 ?_
          have g172 := zz_G.r G_S 1079 10 0 1000000 rfl rfl
          refine zz_callVV [zi p0, zi v166, zi v170, zi (v153 * (S0 1079 1)), zi v160, zi 0] zd_14_87_249 zk_Md_498 zT_1079 (zz_ltn hn rfl) rfl rfl ⟨Nat.le_of_ble_eq_true rfl, Nat.le_of_ble_eq_true rfl⟩ ⟨rfl, rfl⟩ (Nat.zero_le _) (Nat.zero_le _) (zc_group_14_83 p0 v166 v170 (v153 * (S0 1079 1)) v160 0 S n hn G_S (by omega) (by omega) (by omega) (by omega) (by omega) (by omega) (by omega)) (fun S173 hP => ?_)
          obtain ⟨G_S173, fS173, o175⟩ := hP
          have F_S173 := zz_fr.trans F_S fS173 rfl zz_nv
          refine zz_aload_n (x := 1079) rfl zd_14_87_252 ?_
          refine zz_iload_n (x := p0) rfl zd_14_87_253 ?_
          refine zz_iload (x := v160) rfl zd_14_87_254 ?_
          refine zz_iload (x := x6) rfl zd_14_87_256 ?_
          refine zz_if_ne (by omega) zd_14_87_258 (fun c176 => ?_) (fun c176 => ?_)
          · refine zz_iconst zd_14_87_265 ?_
            refine zz_iload (x := x6) rfl zd_14_87_266 ?_
            refine zz_iload (x := (S0 1109 p0.toNat) * (S0 1110 p0.toNat)) rfl zd_14_87_268 ?_
            refine zz_iload (x := x5) rfl zd_14_87_270 ?_
            refine zz_imul zd_14_87_272 ?_
            refine zz_nrm (fun v177 hv177 ev177 => ?_)
            refine zz_iconst zd_14_87_273 ?_
            refine zz_isub zd_14_87_274 ?_
            refine zz_nrm (fun v178 hv178 ev178 => ?_)
            refine zz_icmp_ne (by omega) (by omega) zd_14_87_275 (fun c179 => ?_) (fun c179 => ?_)
            · refine zz_iconst zd_14_87_282 ?_
              have g180 := zz_G.r G_S173 1079 10 0 1000000 rfl rfl
              refine zz_callVV [zi p0, zi v160, zi 0, zi 0] zd_14_87_283 zk_Md_502 zT_1079 (zz_ltn hn rfl) rfl rfl ⟨Nat.le_of_ble_eq_true rfl, Nat.le_of_ble_eq_true rfl⟩ ⟨rfl, rfl⟩ (Nat.zero_le _) (Nat.zero_le _) (zc_works_14_86 p0 v160 0 0 S173 n hn G_S173 (by omega) (by omega) (by omega) (by omega) (by omega)) (fun S181 hP => ?_)
              obtain ⟨G_S181, fS181, o183⟩ := hP
              have F_S181 := zz_fr.trans F_S173 fS181 rfl zz_nv
              refine zz_iinc [some (.ref 1079), some (zi p0), some (zi (S0 1107 p0.toNat)), some (zi x3), some (zi ((S0 1109 p0.toNat) * (S0 1110 p0.toNat))), some (zi x5), some (zi (x6 + 1)), some (zi (v153 * (S0 1079 1))), some (zi v160)] zd_14_87_286 rfl rfl ?_
              refine zz_goto zd_14_87_289 ?_
              have g184 := zz_G.r G_S181 1079 10 0 1000000 rfl rfl
              refine zz_less (ls1 := [some (.ref 1079), some (zi p0), some (zi (S0 1107 p0.toNat)), some (zi x3), some (zi ((S0 1109 p0.toNat) * (S0 1110 p0.toNat))), some (zi x5), some (zi (x6 + 1))]) ⟨rfl, ⟨rfl, ⟨rfl, ⟨rfl, ⟨rfl, ⟨rfl, ⟨rfl, trivial⟩⟩⟩⟩⟩⟩⟩ ?_
              exact k147 x3 x5 (x6 + 1) S181 G_S181 F_S181 (by omega) (by omega) (by omega) (by omega) (by omega) (by omega) (by omega)
            · refine zz_iconst zd_14_87_278 ?_
              refine zz_goto zd_14_87_279 ?_
              have g185 := zz_G.r G_S173 1079 10 0 1000000 rfl rfl
              refine zz_callVV [zi p0, zi v160, zi 0, zi 1] zd_14_87_283 zk_Md_502 zT_1079 (zz_ltn hn rfl) rfl rfl ⟨Nat.le_of_ble_eq_true rfl, Nat.le_of_ble_eq_true rfl⟩ ⟨rfl, rfl⟩ (Nat.zero_le _) (Nat.zero_le _) (zc_works_14_86 p0 v160 0 1 S173 n hn G_S173 (by omega) (by omega) (by omega) (by omega) (by omega)) (fun S186 hP => ?_)
              obtain ⟨G_S186, fS186, o188⟩ := hP
              have F_S186 := zz_fr.trans F_S173 fS186 rfl zz_nv
              refine zz_iinc [some (.ref 1079), some (zi p0), some (zi (S0 1107 p0.toNat)), some (zi x3), some (zi ((S0 1109 p0.toNat) * (S0 1110 p0.toNat))), some (zi x5), some (zi (x6 + 1)), some (zi (v153 * (S0 1079 1))), some (zi v160)] zd_14_87_286 rfl rfl ?_
              refine zz_goto zd_14_87_289 ?_
              have g189 := zz_G.r G_S186 1079 10 0 1000000 rfl rfl
              refine zz_less (ls1 := [some (.ref 1079), some (zi p0), some (zi (S0 1107 p0.toNat)), some (zi x3), some (zi ((S0 1109 p0.toNat) * (S0 1110 p0.toNat))), some (zi x5), some (zi (x6 + 1))]) ⟨rfl, ⟨rfl, ⟨rfl, ⟨rfl, ⟨rfl, ⟨rfl, ⟨rfl, trivial⟩⟩⟩⟩⟩⟩⟩ ?_
              exact k147 x3 x5 (x6 + 1) S186 G_S186 F_S186 (by omega) (by omega) (by omega) (by omega) (by omega) (by omega) (by omega)
          · exfalso; omega
        · refine zz_iconst zd_14_87_244 ?_
          refine zz_goto zd_14_87_245 ?_
          have g190 := zz_G.r G_S 1079 10 0 1000000 rfl rfl
          refine zz_callVV [zi p0, zi v166, zi v170, zi (v153 * (S0 1079 1)), zi v160, zi 1] zd_14_87_249 zk_Md_498 zT_1079 (zz_ltn hn rfl) rfl rfl ⟨Nat.le_of_ble_eq_true rfl, Nat.le_of_ble_eq_true rfl⟩ ⟨rfl, rfl⟩ (Nat.zero_le _) (Nat.zero_le _) (zc_group_14_83 p0 v166 v170 (v153 * (S0 1079 1)) v160 1 S n hn G_S (by omega) (by omega) (by omega) (by omega) (by omega) (by omega) (by omega)) (fun S191 hP => ?_)
          obtain ⟨G_S191, fS191, o193⟩ := hP
          have F_S191 := zz_fr.trans F_S fS191 rfl zz_nv
          refine zz_aload_n (x := 1079) rfl zd_14_87_252 ?_
          refine zz_iload_n (x := p0) rfl zd_14_87_253 ?_
          refine zz_iload (x := v160) rfl zd_14_87_254 ?_
          refine zz_iload (x := x6) rfl zd_14_87_256 ?_
          refine zz_if_ne (by omega) zd_14_87_258 (fun c194 => ?_) (fun c194 => ?_)
          · exfalso; omega
          · refine zz_iconst zd_14_87_261 ?_
            refine zz_goto zd_14_87_262 ?_
            refine zz_iload (x := x6) rfl zd_14_87_266 ?_
            refine zz_iload (x := (S0 1109 p0.toNat) * (S0 1110 p0.toNat)) rfl zd_14_87_268 ?_
            refine zz_iload (x := x5) rfl zd_14_87_270 ?_
            refine zz_imul zd_14_87_272 ?_
            refine zz_nrm (fun v195 hv195 ev195 => ?_)
            refine zz_iconst zd_14_87_273 ?_
            refine zz_isub zd_14_87_274 ?_
            refine zz_nrm (fun v196 hv196 ev196 => ?_)
            refine zz_icmp_ne (by omega) (by omega) zd_14_87_275 (fun c197 => ?_) (fun c197 => ?_)
            · refine zz_iconst zd_14_87_282 ?_
              have g198 := zz_G.r G_S191 1079 10 0 1000000 rfl rfl
              refine zz_callVV [zi p0, zi v160, zi 1, zi 0] zd_14_87_283 zk_Md_502 zT_1079 (zz_ltn hn rfl) rfl rfl ⟨Nat.le_of_ble_eq_true rfl, Nat.le_of_ble_eq_true rfl⟩ ⟨rfl, rfl⟩ (Nat.zero_le _) (Nat.zero_le _) (zc_works_14_86 p0 v160 1 0 S191 n hn G_S191 (by omega) (by omega) (by omega) (by omega) (by omega)) (fun S199 hP => ?_)
              obtain ⟨G_S199, fS199, o201⟩ := hP
              have F_S199 := zz_fr.trans F_S191 fS199 rfl zz_nv
              refine zz_iinc [some (.ref 1079), some (zi p0), some (zi (S0 1107 p0.toNat)), some (zi x3), some (zi ((S0 1109 p0.toNat) * (S0 1110 p0.toNat))), some (zi x5), some (zi (x6 + 1)), some (zi (v153 * (S0 1079 1))), some (zi v160)] zd_14_87_286 rfl rfl ?_
              refine zz_goto zd_14_87_289 ?_
              have g202 := zz_G.r G_S199 1079 10 0 1000000 rfl rfl
              refine zz_less (ls1 := [some (.ref 1079), some (zi p0), some (zi (S0 1107 p0.toNat)), some (zi x3), some (zi ((S0 1109 p0.toNat) * (S0 1110 p0.toNat))), some (zi x5), some (zi (x6 + 1))]) ⟨rfl, ⟨rfl, ⟨rfl, ⟨rfl, ⟨rfl, ⟨rfl, ⟨rfl, trivial⟩⟩⟩⟩⟩⟩⟩ ?_
              exact k147 x3 x5 (x6 + 1) S199 G_S199 F_S199 (by omega) (by omega) (by omega) (by omega) (by omega) (by omega) (by omega)
            · refine zz_iconst zd_14_87_278 ?_
              refine zz_goto zd_14_87_279 ?_
              have g203 := zz_G.r G_S191 1079 10 0 1000000 rfl rfl
              refine zz_callVV [zi p0, zi v160, zi 1, zi 1] zd_14_87_283 zk_Md_502 zT_1079 (zz_ltn hn rfl) rfl rfl ⟨Nat.le_of_ble_eq_true rfl, Nat.le_of_ble_eq_true rfl⟩ ⟨rfl, rfl⟩ (Nat.zero_le _) (Nat.zero_le _) (zc_works_14_86 p0 v160 1 1 S191 n hn G_S191 (by omega) (by omega) (by omega) (by omega) (by omega)) (fun S204 hP => ?_)
              obtain ⟨G_S204, fS204, o206⟩ := hP
              have F_S204 := zz_fr.trans F_S191 fS204 rfl zz_nv
              refine zz_iinc [some (.ref 1079), some (zi p0), some (zi (S0 1107 p0.toNat)), some (zi x3), some (zi ((S0 1109 p0.toNat) * (S0 1110 p0.toNat))), some (zi x5), some (zi (x6 + 1)), some (zi (v153 * (S0 1079 1))), some (zi v160)] zd_14_87_286 rfl rfl ?_
              refine zz_goto zd_14_87_289 ?_
              have g207 := zz_G.r G_S204 1079 10 0 1000000 rfl rfl
              refine zz_less (ls1 := [some (.ref 1079), some (zi p0), some (zi (S0 1107 p0.toNat)), some (zi x3), some (zi ((S0 1109 p0.toNat) * (S0 1110 p0.toNat))), some (zi x5), some (zi (x6 + 1))]) ⟨rfl, ⟨rfl, ⟨rfl, ⟨rfl, ⟨rfl, ⟨rfl, ⟨rfl, trivial⟩⟩⟩⟩⟩⟩⟩ ?_
              exact k147 x3 x5 (x6 + 1) S204 G_S204 F_S204 (by omega) (by omega) (by omega) (by omega) (by omega) (by omega) (by omega)
      · exfalso; omega
    · refine zz_aload_n (x := 1079) rfl zd_14_87_161 ?_
      have g208 := zz_G.r G_S0 1079 56 (-2147483648) 2147483647 rfl rfl
      refine zz_geti (z := S0 1079 56) zd_14_87_162 zf_Md_466 zT_1079 rfl (zz_ltn hn rfl) (zz_rc F_S rfl rfl (fun h => h) rfl) ?_
      refine zz_goto zd_14_87_165 ?_
      refine zz_istore [some (.ref 1079), some (zi p0), some (zi (S0 1107 p0.toNat)), some (zi x3), some (zi ((S0 1109 p0.toNat) * (S0 1110 p0.toNat))), some (zi x5), some (zi x6), some (zi (S0 1079 56))] zd_14_87_178 (by decide) rfl ?_
      refine zz_iload_n (x := x3) rfl zd_14_87_180 ?_
      refine zz_if_eq (by omega) zd_14_87_181 (fun c209 => ?_) (fun c209 => ?_)
      · exfalso; omega
      · refine zz_aload_n (x := 1079) rfl zd_14_87_184 ?_
        have g210 := zz_G.r G_S0 1079 53 (-2147483648) 2147483647 rfl rfl
        refine zz_geti (z := S0 1079 53) zd_14_87_185 zf_Md_472 zT_1079 rfl (zz_ltn hn rfl) (zz_rc F_S rfl rfl (fun h => h) rfl) ?_
        refine zz_goto zd_14_87_188 ?_
        refine zz_istore [some (.ref 1079), some (zi p0), some (zi (S0 1107 p0.toNat)), some (zi x3), some (zi ((S0 1109 p0.toNat) * (S0 1110 p0.toNat))), some (zi x5), some (zi x6), some (zi (S0 1079 56)), some (zi (S0 1079 53))] zd_14_87_207 (by decide) rfl ?_
        refine zz_aload_n (x := 1079) rfl zd_14_87_209 ?_
        refine zz_iload_n (x := p0) rfl zd_14_87_210 ?_
        refine zz_iload (x := x6) rfl zd_14_87_211 ?_
        refine zz_iload (x := x5) rfl zd_14_87_213 ?_
        refine zz_idiv (by omega) (by omega) zd_14_87_215 (fun v211 hv211 av211 bv211 cv211 => ?_)
        have m212 := zz_divb (by omega) (by omega) av211
        refine zz_aload_n (x := 1079) rfl zd_14_87_216 ?_
        refine zz_getr (kd := 0) (z := 1110) zd_14_87_217 zf_Md_112 zT_1079 rfl (zz_ltn hn rfl) (zz_G.eq G_S 1079 45 1110 rfl rfl) (by decide) 1110 rfl ?_
        refine zz_iload_n (x := p0) rfl zd_14_87_220 ?_
        have g213 := zz_G.r G_S0 1110 p0.toNat 0 3 rfl rfl
        refine zz_iald (z := S0 1110 p0.toNat) zd_14_87_221 zT_1110 rfl (zz_ltn hn rfl) (by decide) (by omega) (zz_rc F_S (zz_nc1 rfl) rfl (fun h => h) rfl) ?_
        refine zz_idiv (by omega) (by omega) zd_14_87_222 (fun v214 hv214 av214 bv214 cv214 => ?_)
        have m215 := zz_divb (by omega) (by omega) av214
        refine zz_iload (x := x6) rfl zd_14_87_223 ?_
        refine zz_iload (x := x5) rfl zd_14_87_225 ?_
        refine zz_idiv (by omega) (by omega) zd_14_87_227 (fun v216 hv216 av216 bv216 cv216 => ?_)
        have m217 := zz_divb (by omega) (by omega) av216
        refine zz_aload_n (x := 1079) rfl zd_14_87_228 ?_
        refine zz_getr (kd := 0) (z := 1110) zd_14_87_229 zf_Md_112 zT_1079 rfl (zz_ltn hn rfl) (zz_G.eq G_S 1079 45 1110 rfl rfl) (by decide) 1110 rfl ?_
        refine zz_iload_n (x := p0) rfl zd_14_87_232 ?_
        refine zz_iald (z := S0 1110 p0.toNat) zd_14_87_233 zT_1110 rfl (zz_ltn hn rfl) (by decide) (by omega) (zz_rc F_S (zz_nc1 rfl) rfl (fun h => h) rfl) ?_
        refine zz_irem (by omega) (by omega) zd_14_87_234 (fun v218 hv218 av218 bv218 cv218 => ?_)
        refine zz_iload (x := S0 1079 56) rfl zd_14_87_235 ?_
        refine zz_iload (x := S0 1079 53) rfl zd_14_87_237 ?_
        refine zz_iload (x := x6) rfl zd_14_87_239 ?_
        refine zz_if_ne (by omega) zd_14_87_241 (fun c219 => ?_) (fun c219 => ?_)
        · refine zz_iconst zd_14_87_248 ?_
          have g220 := zz_G.r G_S 1079 10 0 1000000 rfl rfl
          refine zz_callVV [zi p0, zi v214, zi v218, zi (S0 1079 56), zi (S0 1079 53), zi 0] zd_14_87_249 zk_Md_498 zT_1079 (zz_ltn hn rfl) rfl rfl ⟨Nat.le_of_ble_eq_true rfl, Nat.le_of_ble_eq_true rfl⟩ ⟨rfl, rfl⟩ (Nat.zero_le _) (Nat.zero_le _) (zc_group_14_83 p0 v214 v218 (S0 1079 56) (S0 1079 53) 0 S n hn G_S (by omega) (by omega) (by omega) (by omega) (by omega) (by omega) (by omega)) (fun S221 hP => ?_)
          obtain ⟨G_S221, fS221, o223⟩ := hP
          have F_S221 := zz_fr.trans F_S fS221 rfl zz_nv
          refine zz_aload_n (x := 1079) rfl zd_14_87_252 ?_
          refine zz_iload_n (x := p0) rfl zd_14_87_253 ?_
          refine zz_iload (x := S0 1079 53) rfl zd_14_87_254 ?_
          refine zz_iload (x := x6) rfl zd_14_87_256 ?_
          refine zz_if_ne (by omega) zd_14_87_258 (fun c224 => ?_) (fun c224 => ?_)
          · refine zz_iconst zd_14_87_265 ?_
            refine zz_iload (x := x6) rfl zd_14_87_266 ?_
            refine zz_iload (x := (S0 1109 p0.toNat) * (S0 1110 p0.toNat)) rfl zd_14_87_268 ?_
            refine zz_iload (x := x5) rfl zd_14_87_270 ?_
            refine zz_imul zd_14_87_272 ?_
            refine zz_nrm (fun v225 hv225 ev225 => ?_)
            refine zz_iconst zd_14_87_273 ?_
            refine zz_isub zd_14_87_274 ?_
            refine zz_nrm (fun v226 hv226 ev226 => ?_)
            refine zz_icmp_ne (by omega) (by omega) zd_14_87_275 (fun c227 => ?_) (fun c227 => ?_)
            · refine zz_iconst zd_14_87_282 ?_
              have g228 := zz_G.r G_S221 1079 10 0 1000000 rfl rfl
              refine zz_callVV [zi p0, zi (S0 1079 53), zi 0, zi 0] zd_14_87_283 zk_Md_502 zT_1079 (zz_ltn hn rfl) rfl rfl ⟨Nat.le_of_ble_eq_true rfl, Nat.le_of_ble_eq_true rfl⟩ ⟨rfl, rfl⟩ (Nat.zero_le _) (Nat.zero_le _) (zc_works_14_86 p0 (S0 1079 53) 0 0 S221 n hn G_S221 (by omega) (by omega) (by omega) (by omega) (by omega)) (fun S229 hP => ?_)
              obtain ⟨G_S229, fS229, o231⟩ := hP
              have F_S229 := zz_fr.trans F_S221 fS229 rfl zz_nv
              refine zz_iinc [some (.ref 1079), some (zi p0), some (zi (S0 1107 p0.toNat)), some (zi x3), some (zi ((S0 1109 p0.toNat) * (S0 1110 p0.toNat))), some (zi x5), some (zi (x6 + 1)), some (zi (S0 1079 56)), some (zi (S0 1079 53))] zd_14_87_286 rfl rfl ?_
              refine zz_goto zd_14_87_289 ?_
              have g232 := zz_G.r G_S229 1079 10 0 1000000 rfl rfl
              refine zz_less (ls1 := [some (.ref 1079), some (zi p0), some (zi (S0 1107 p0.toNat)), some (zi x3), some (zi ((S0 1109 p0.toNat) * (S0 1110 p0.toNat))), some (zi x5), some (zi (x6 + 1))]) ⟨rfl, ⟨rfl, ⟨rfl, ⟨rfl, ⟨rfl, ⟨rfl, ⟨rfl, trivial⟩⟩⟩⟩⟩⟩⟩ ?_
              exact k147 x3 x5 (x6 + 1) S229 G_S229 F_S229 (by omega) (by omega) (by omega) (by omega) (by omega) (by omega) (by omega)
            · refine zz_iconst zd_14_87_278 ?_
              refine zz_goto zd_14_87_279 ?_
              have g233 := zz_G.r G_S221 1079 10 0 1000000 rfl rfl
              refine zz_callVV [zi p0, zi (S0 1079 53), zi 0, zi 1] zd_14_87_283 zk_Md_502 zT_1079 (zz_ltn hn rfl) rfl rfl ⟨Nat.le_of_ble_eq_true rfl, Nat.le_of_ble_eq_true rfl⟩ ⟨rfl, rfl⟩ (Nat.zero_le _) (Nat.zero_le _) (zc_works_14_86 p0 (S0 1079 53) 0 1 S221 n hn G_S221 (by omega) (by omega) (by omega) (by omega) (by omega)) (fun S234 hP => ?_)
              obtain ⟨G_S234, fS234, o236⟩ := hP
              have F_S234 := zz_fr.trans F_S221 fS234 rfl zz_nv
              refine zz_iinc [some (.ref 1079), some (zi p0), some (zi (S0 1107 p0.toNat)), some (zi x3), some (zi ((S0 1109 p0.toNat) * (S0 1110 p0.toNat))), some (zi x5), some (zi (x6 + 1)), some (zi (S0 1079 56)), some (zi (S0 1079 53))] zd_14_87_286 rfl rfl ?_
              refine zz_goto zd_14_87_289 ?_
              have g237 := zz_G.r G_S234 1079 10 0 1000000 rfl rfl
              refine zz_less (ls1 := [some (.ref 1079), some (zi p0), some (zi (S0 1107 p0.toNat)), some (zi x3), some (zi ((S0 1109 p0.toNat) * (S0 1110 p0.toNat))), some (zi x5), some (zi (x6 + 1))]) ⟨rfl, ⟨rfl, ⟨rfl, ⟨rfl, ⟨rfl, ⟨rfl, ⟨rfl, trivial⟩⟩⟩⟩⟩⟩⟩ ?_
              exact k147 x3 x5 (x6 + 1) S234 G_S234 F_S234 (by omega) (by omega) (by omega) (by omega) (by omega) (by omega) (by omega)
          · exfalso; omega
        · refine zz_iconst zd_14_87_244 ?_
          refine zz_goto zd_14_87_245 ?_
          have g238 := zz_G.r G_S 1079 10 0 1000000 rfl rfl
          refine zz_callVV [zi p0, zi v214, zi v218, zi (S0 1079 56), zi (S0 1079 53), zi 1] zd_14_87_249 zk_Md_498 zT_1079 (zz_ltn hn rfl) rfl rfl ⟨Nat.le_of_ble_eq_true rfl, Nat.le_of_ble_eq_true rfl⟩ ⟨rfl, rfl⟩ (Nat.zero_le _) (Nat.zero_le _) (zc_group_14_83 p0 v214 v218 (S0 1079 56) (S0 1079 53) 1 S n hn G_S (by omega) (by omega) (by omega) (by omega) (by omega) (by omega) (by omega)) (fun S239 hP => ?_)
          obtain ⟨G_S239, fS239, o241⟩ := hP
          have F_S239 := zz_fr.trans F_S fS239 rfl zz_nv
          refine zz_aload_n (x := 1079) rfl zd_14_87_252 ?_
          refine zz_iload_n (x := p0) rfl zd_14_87_253 ?_
          refine zz_iload (x := S0 1079 53) rfl zd_14_87_254 ?_
          refine zz_iload (x := x6) rfl zd_14_87_256 ?_
          refine zz_if_ne (by omega) zd_14_87_258 (fun c242 => ?_) (fun c242 => ?_)
          · exfalso; omega
          · refine zz_iconst zd_14_87_261 ?_
            refine zz_goto zd_14_87_262 ?_
            refine zz_iload (x := x6) rfl zd_14_87_266 ?_
            refine zz_iload (x := (S0 1109 p0.toNat) * (S0 1110 p0.toNat)) rfl zd_14_87_268 ?_
            refine zz_iload (x := x5) rfl zd_14_87_270 ?_
            refine zz_imul zd_14_87_272 ?_
            refine zz_nrm (fun v243 hv243 ev243 => ?_)
            refine zz_iconst zd_14_87_273 ?_
            refine zz_isub zd_14_87_274 ?_
            refine zz_nrm (fun v244 hv244 ev244 => ?_)
            refine zz_icmp_ne (by omega) (by omega) zd_14_87_275 (fun c245 => ?_) (fun c245 => ?_)
            · refine zz_iconst zd_14_87_282 ?_
              have g246 := zz_G.r G_S239 1079 10 0 1000000 rfl rfl
              refine zz_callVV [zi p0, zi (S0 1079 53), zi 1, zi 0] zd_14_87_283 zk_Md_502 zT_1079 (zz_ltn hn rfl) rfl rfl ⟨Nat.le_of_ble_eq_true rfl, Nat.le_of_ble_eq_true rfl⟩ ⟨rfl, rfl⟩ (Nat.zero_le _) (Nat.zero_le _) (zc_works_14_86 p0 (S0 1079 53) 1 0 S239 n hn G_S239 (by omega) (by omega) (by omega) (by omega) (by omega)) (fun S247 hP => ?_)
              obtain ⟨G_S247, fS247, o249⟩ := hP
              have F_S247 := zz_fr.trans F_S239 fS247 rfl zz_nv
              refine zz_iinc [some (.ref 1079), some (zi p0), some (zi (S0 1107 p0.toNat)), some (zi x3), some (zi ((S0 1109 p0.toNat) * (S0 1110 p0.toNat))), some (zi x5), some (zi (x6 + 1)), some (zi (S0 1079 56)), some (zi (S0 1079 53))] zd_14_87_286 rfl rfl ?_
              refine zz_goto zd_14_87_289 ?_
              have g250 := zz_G.r G_S247 1079 10 0 1000000 rfl rfl
              refine zz_less (ls1 := [some (.ref 1079), some (zi p0), some (zi (S0 1107 p0.toNat)), some (zi x3), some (zi ((S0 1109 p0.toNat) * (S0 1110 p0.toNat))), some (zi x5), some (zi (x6 + 1))]) ⟨rfl, ⟨rfl, ⟨rfl, ⟨rfl, ⟨rfl, ⟨rfl, ⟨rfl, trivial⟩⟩⟩⟩⟩⟩⟩ ?_
              exact k147 x3 x5 (x6 + 1) S247 G_S247 F_S247 (by omega) (by omega) (by omega) (by omega) (by omega) (by omega) (by omega)
            · refine zz_iconst zd_14_87_278 ?_
              refine zz_goto zd_14_87_279 ?_
              have g251 := zz_G.r G_S239 1079 10 0 1000000 rfl rfl
              refine zz_callVV [zi p0, zi (S0 1079 53), zi 1, zi 1] zd_14_87_283 zk_Md_502 zT_1079 (zz_ltn hn rfl) rfl rfl ⟨Nat.le_of_ble_eq_true rfl, Nat.le_of_ble_eq_true rfl⟩ ⟨rfl, rfl⟩ (Nat.zero_le _) (Nat.zero_le _) (zc_works_14_86 p0 (S0 1079 53) 1 1 S239 n hn G_S239 (by omega) (by omega) (by omega) (by omega) (by omega)) (fun S252 hP => ?_)
              obtain ⟨G_S252, fS252, o254⟩ := hP
              have F_S252 := zz_fr.trans F_S239 fS252 rfl zz_nv
              refine zz_iinc [some (.ref 1079), some (zi p0), some (zi (S0 1107 p0.toNat)), some (zi x3), some (zi ((S0 1109 p0.toNat) * (S0 1110 p0.toNat))), some (zi x5), some (zi (x6 + 1)), some (zi (S0 1079 56)), some (zi (S0 1079 53))] zd_14_87_286 rfl rfl ?_
              refine zz_goto zd_14_87_289 ?_
              have g255 := zz_G.r G_S252 1079 10 0 1000000 rfl rfl
              refine zz_less (ls1 := [some (.ref 1079), some (zi p0), some (zi (S0 1107 p0.toNat)), some (zi x3), some (zi ((S0 1109 p0.toNat) * (S0 1110 p0.toNat))), some (zi x5), some (zi (x6 + 1))]) ⟨rfl, ⟨rfl, ⟨rfl, ⟨rfl, ⟨rfl, ⟨rfl, ⟨rfl, trivial⟩⟩⟩⟩⟩⟩⟩ ?_
              exact k147 x3 x5 (x6 + 1) S252 G_S252 F_S252 (by omega) (by omega) (by omega) (by omega) (by omega) (by omega) (by omega)
theorem zi_tile_14_87 {g : mm_G} {l : Launch} (p0 : Int) (S0 : zz_S) (n : Nat) (hn : zz_end ≤ n) (G_S0 : zz_G S0) (hp0 : 0 ≤ p0 ∧ p0 ≤ 9) (hq : S0 1079 10 ≤ 600) : ∀ N : Nat, (∀ (x3 : Int) (S : zz_S), zz_G S → zz_fr [(1079, 10), (1079, 50), (1079, 51), (1079, 57), (1079, 60)] [1086, 1087] (fun _ _ => False) S0 S → (0 ≤ x3 ∧ x3 ≤ 2) → (S0 1106 p0.toNat = 2) → (S0 1079 10 ≤ S 1079 10 ∧ S 1079 10 ≤ S0 1079 10 + 6 * x3) → (34359738368 + (2 - x3).toNat) < N → zz_E g l zy_tile_14_87 zr_tile_14_87 (zz_QV n (zp_tile_14_87 p0 S0)) S n 19 [some (.ref 1079), some (zi p0), none, some (zi x3)] [] 0 0) ∧ (∀ (x3 : Int) (x5 : Int) (x6 : Int) (S : zz_S), zz_G S → zz_fr [(1079, 10), (1079, 50), (1079, 51), (1079, 57), (1079, 60)] [1086, 1087] (fun _ _ => False) S0 S → (0 ≤ x3 ∧ x3 ≤ 1) → (0 ≤ x5 ∧ x5 ≤ 35) → (0 ≤ x6 ∧ x6 ≤ 2147483647) → (S0 1106 p0.toNat ≠ 2) → (S0 1079 10 ≤ S 1079 10 ∧ S 1079 10 ≤ S0 1079 10 + 6 * x6) → (x4 = (S0 1109 p0.toNat) * (S0 1110 p0.toNat)) → (17179869184 + (400 - x6).toNat) < N → zz_E g l zy_tile_14_87 zr_tile_14_87 (zz_QV n (zp_tile_14_87 p0 S0)) S n 147 [some (.ref 1079), some (zi p0), some (zi (S0 1107 p0.toNat)), some (zi x3), some (zi ((S0 1109 p0.toNat) * (S0 1110 p0.toNat))), some (zi x5), some (zi x6)] [] 0 0) := by
  intro N
  induction N with
  | zero => exact ⟨fun x3 S _ _ _ _ _ h => absurd h (Nat.not_lt_zero _), fun x3 x5 x6 S _ _ _ _ _ _ _ _ h => absurd h (Nat.not_lt_zero _)⟩
  | succ N ih =>
    exact ⟨fun x3 S a b j0 j1 j2 hR => zb_tile_14_87_19 p0 S0 n hn G_S0 hp0 hq x3 S a b j0 j1 j2 _ rfl (fun x3 S a b j0 j1 j2 h => ih.1 x3 S a b j0 j1 j2 (Nat.lt_of_lt_of_le h (Nat.le_of_lt_succ hR))),
      fun x3 x5 x6 S a b j0 j1 j2 j3 j4 j5 hR => zb_tile_14_87_147 p0 S0 n hn G_S0 hp0 hq x3 x5 x6 S a b j0 j1 j2 j3 j4 j5 _ rfl (fun x3 x5 x6 S a b j0 j1 j2 j3 j4 j5 h => ih.2 x3 x5 x6 S a b j0 j1 j2 j3 j4 j5 (Nat.lt_of_lt_of_le h (Nat.le_of_lt_succ hR)))⟩
theorem zc_tile_14_87 {g : mm_G} {l : Launch} (p0 : Int) (S0 : zz_S) (n : Nat) (hn : zz_end ≤ n) (G_S0 : zz_G S0) (hp0 : 0 ≤ p0 ∧ p0 ≤ 9) (hq : S0 1079 10 ≤ 600) : mm_Met g l zy_tile_14_87 zr_tile_14_87 [.ref 1079, zi p0] (zz_M S0 n) n (zz_QV n (zp_tile_14_87 p0 S0)) := by
  refine zz_enter (by decide) (Nat.le_of_ble_eq_true rfl) (zz_less (ls1 := [some (.ref 1079), some (zi p0)]) ⟨rfl, ⟨rfl, trivial⟩⟩ ?_)
  have F_S0 : zz_fr [(1079, 10), (1079, 50), (1079, 51), (1079, 57), (1079, 60)] [1086, 1087] (fun _ _ => False) S0 S0 := zz_fr.refl
  have k19 : ∀ (x3 : Int) (S : zz_S), zz_G S → zz_fr [(1079, 10), (1079, 50), (1079, 51), (1079, 57), (1079, 60)] [1086, 1087] (fun _ _ => False) S0 S → (0 ≤ x3 ∧ x3 ≤ 2) → (S0 1106 p0.toNat = 2) → (S0 1079 10 ≤ S 1079 10 ∧ S 1079 10 ≤ S0 1079 10 + 6 * x3) → zz_E g l zy_tile_14_87 zr_tile_14_87 (zz_QV n (zp_tile_14_87 p0 S0)) S n 19 [some (.ref 1079), some (zi p0), none, some (zi x3)] [] 0 0 := fun x3 S a b j0 j1 j2 => (zi_tile_14_87 (g := g) (l := l) p0 S0 n hn G_S0 hp0 hq _).1 x3 S a b j0 j1 j2 (Nat.lt_succ_self _)
  have k147 : ∀ (x3 : Int) (x5 : Int) (x6 : Int) (S : zz_S), zz_G S → zz_fr [(1079, 10), (1079, 50), (1079, 51), (1079, 57), (1079, 60)] [1086, 1087] (fun _ _ => False) S0 S → (0 ≤ x3 ∧ x3 ≤ 1) → (0 ≤ x5 ∧ x5 ≤ 35) → (0 ≤ x6 ∧ x6 ≤ 2147483647) → (S0 1106 p0.toNat ≠ 2) → (S0 1079 10 ≤ S 1079 10 ∧ S 1079 10 ≤ S0 1079 10 + 6 * x6) → (x4 = (S0 1109 p0.toNat) * (S0 1110 p0.toNat)) → zz_E g l zy_tile_14_87 zr_tile_14_87 (zz_QV n (zp_tile_14_87 p0 S0)) S n 147 [some (.ref 1079), some (zi p0), some (zi (S0 1107 p0.toNat)), some (zi x3), some (zi ((S0 1109 p0.toNat) * (S0 1110 p0.toNat))), some (zi x5), some (zi x6)] [] 0 0 := fun x3 x5 x6 S a b j0 j1 j2 j3 j4 j5 => (zi_tile_14_87 (g := g) (l := l) p0 S0 n hn G_S0 hp0 hq _).2 x3 x5 x6 S a b j0 j1 j2 j3 j4 j5 (Nat.lt_succ_self _)
  refine zz_aload_n (x := 1079) rfl zd_14_87_0 ?_
  refine zz_getr (kd := 0) (z := 1107) zd_14_87_1 zf_Md_103 zT_1079 rfl (zz_ltn hn rfl) (zz_G.eq G_S0 1079 42 1107 rfl rfl) (by decide) 1107 rfl ?_
  refine zz_iload_n (x := p0) rfl zd_14_87_4 ?_
  have g1 := zz_G.r G_S0 1107 p0.toNat 0 10 rfl rfl
  refine zz_iald (z := S0 1107 p0.toNat) zd_14_87_5 zT_1107 rfl (zz_ltn hn rfl) (by decide) (by omega) rfl ?_
  refine zz_istore_n [some (.ref 1079), some (zi p0), some (zi (S0 1107 p0.toNat))] zd_14_87_6 (by decide) rfl ?_
  refine zz_aload_n (x := 1079) rfl zd_14_87_7 ?_
  refine zz_getr (kd := 0) (z := 1106) zd_14_87_8 zf_Md_100 zT_1079 rfl (zz_ltn hn rfl) (zz_G.eq G_S0 1079 41 1106 rfl rfl) (by decide) 1106 rfl ?_
  refine zz_iload_n (x := p0) rfl zd_14_87_11 ?_
  have g2 := zz_G.r G_S0 1106 p0.toNat 0 2 rfl rfl
  refine zz_iald (z := S0 1106 p0.toNat) zd_14_87_12 zT_1106 rfl (zz_ltn hn rfl) (by decide) (by omega) rfl ?_
  refine zz_iconst zd_14_87_13 ?_
  refine zz_icmp_ne (by omega) (by omega) zd_14_87_14 (fun c3 => ?_) (fun c3 => ?_)
  · refine zz_aload_n (x := 1079) rfl zd_14_87_85 ?_
    refine zz_getr (kd := 0) (z := 1106) zd_14_87_86 zf_Md_100 zT_1079 rfl (zz_ltn hn rfl) (zz_G.eq G_S0 1079 41 1106 rfl rfl) (by decide) 1106 rfl ?_
    refine zz_iload_n (x := p0) rfl zd_14_87_89 ?_
    refine zz_iald (z := S0 1106 p0.toNat) zd_14_87_90 zT_1106 rfl (zz_ltn hn rfl) (by decide) (by omega) rfl ?_
    refine zz_iconst zd_14_87_91 ?_
    refine zz_icmp_ne (by omega) (by omega) zd_14_87_92 (fun c4 => ?_) (fun c4 => ?_)
    · refine zz_iconst zd_14_87_99 ?_
      refine zz_istore_n [some (.ref 1079), some (zi p0), some (zi (S0 1107 p0.toNat)), some (zi 0)] zd_14_87_100 (by decide) rfl ?_
      refine zz_aload_n (x := 1079) rfl zd_14_87_101 ?_
      refine zz_getr (kd := 0) (z := 1109) zd_14_87_102 zf_Md_109 zT_1079 rfl (zz_ltn hn rfl) (zz_G.eq G_S0 1079 44 1109 rfl rfl) (by decide) 1109 rfl ?_
      refine zz_iload_n (x := p0) rfl zd_14_87_105 ?_
      have g5 := zz_G.r G_S0 1109 p0.toNat 0 3 rfl rfl
      refine zz_iald (z := S0 1109 p0.toNat) zd_14_87_106 zT_1109 rfl (zz_ltn hn rfl) (by decide) (by omega) rfl ?_
      refine zz_aload_n (x := 1079) rfl zd_14_87_107 ?_
      refine zz_getr (kd := 0) (z := 1110) zd_14_87_108 zf_Md_112 zT_1079 rfl (zz_ltn hn rfl) (zz_G.eq G_S0 1079 45 1110 rfl rfl) (by decide) 1110 rfl ?_
      refine zz_iload_n (x := p0) rfl zd_14_87_111 ?_
      have g6 := zz_G.r G_S0 1110 p0.toNat 0 3 rfl rfl
      refine zz_iald (z := S0 1110 p0.toNat) zd_14_87_112 zT_1110 rfl (zz_ltn hn rfl) (by decide) (by omega) rfl ?_
      refine zz_imul zd_14_87_113 ?_
      have m7 := zz_mulb (a := S0 1109 p0.toNat) (b := S0 1110 p0.toNat) 3 3 9 (by omega) (by omega) (by decide)
      refine zz_istore [some (.ref 1079), some (zi p0), some (zi (S0 1107 p0.toNat)), some (zi 0), some (zi ((S0 1109 p0.toNat) * (S0 1110 p0.toNat)))] zd_14_87_114 (by decide) rfl ?_
      refine zz_iload_n (x := 0) rfl zd_14_87_116 ?_
      refine zz_if_eq (by omega) zd_14_87_117 (fun c8 => ?_) (fun c8 => ?_)
      · refine zz_aload_n (x := 1079) rfl zd_14_87_124 ?_
        refine zz_getr (kd := 0) (z := 1104) zd_14_87_125 zf_Md_94 zT_1079 rfl (zz_ltn hn rfl) (zz_G.eq G_S0 1079 39 1104 rfl rfl) (by decide) 1104 rfl ?_
        refine zz_iload_n (x := S0 1107 p0.toNat) rfl zd_14_87_128 ?_
        have g9 := zz_G.r G_S0 1104 ((S0 1107 p0.toNat).toNat) 0 63 rfl rfl
        refine zz_iald (z := S0 1104 ((S0 1107 p0.toNat).toNat)) zd_14_87_129 zT_1104 rfl (zz_ltn hn rfl) (by decide) (by omega) rfl ?_
        refine zz_aload_n (x := 1079) rfl zd_14_87_130 ?_
        have g10 := zz_G.r G_S0 1079 1 2 8 rfl rfl
        refine zz_geti (z := S0 1079 1) zd_14_87_131 zf_Md_7 zT_1079 rfl (zz_ltn hn rfl) rfl ?_
        refine zz_iadd zd_14_87_134 ?_
        refine zz_nme (fun v11 ev11 => ?_)
        refine zz_iconst zd_14_87_135 ?_
        refine zz_isub zd_14_87_136 ?_
        refine zz_aload_n (x := 1079) rfl zd_14_87_137 ?_
        refine zz_geti (z := S0 1079 1) zd_14_87_138 zf_Md_7 zT_1079 rfl (zz_ltn hn rfl) rfl ?_
        refine zz_idiv (by omega) (by omega) zd_14_87_141 (fun v12 hv12 av12 bv12 cv12 => ?_)
        have m13 := zz_divb (by omega) (by omega) av12
        refine zz_istore [some (.ref 1079), some (zi p0), some (zi (S0 1107 p0.toNat)), some (zi 0), some (zi ((S0 1109 p0.toNat) * (S0 1110 p0.toNat))), some (zi v12)] zd_14_87_142 (by decide) rfl ?_
        refine zz_iconst zd_14_87_144 ?_
        refine zz_istore [some (.ref 1079), some (zi p0), some (zi (S0 1107 p0.toNat)), some (zi 0), some (zi ((S0 1109 p0.toNat) * (S0 1110 p0.toNat))), some (zi v12), some (zi 0)] zd_14_87_145 (by decide) rfl ?_
        have g14 := zz_G.r G_S0 1079 10 0 1000000 rfl rfl
        refine zz_less (ls1 := [some (.ref 1079), some (zi p0), some (zi (S0 1107 p0.toNat)), some (zi 0), some (zi ((S0 1109 p0.toNat) * (S0 1110 p0.toNat))), some (zi v12), some (zi 0)]) ⟨rfl, ⟨rfl, ⟨rfl, ⟨rfl, ⟨rfl, ⟨rfl, ⟨rfl, trivial⟩⟩⟩⟩⟩⟩⟩ ?_
        exact k147 0 v12 0 S0 G_S0 F_S0 (by omega) (by omega) (by omega) (by omega) (by omega) (by omega)
      · exfalso; omega
    · refine zz_iconst zd_14_87_95 ?_
      refine zz_goto zd_14_87_96 ?_
      refine zz_istore_n [some (.ref 1079), some (zi p0), some (zi (S0 1107 p0.toNat)), some (zi 1)] zd_14_87_100 (by decide) rfl ?_
      refine zz_aload_n (x := 1079) rfl zd_14_87_101 ?_
      refine zz_getr (kd := 0) (z := 1109) zd_14_87_102 zf_Md_109 zT_1079 rfl (zz_ltn hn rfl) (zz_G.eq G_S0 1079 44 1109 rfl rfl) (by decide) 1109 rfl ?_
      refine zz_iload_n (x := p0) rfl zd_14_87_105 ?_
      have g15 := zz_G.r G_S0 1109 p0.toNat 0 3 rfl rfl
      refine zz_iald (z := S0 1109 p0.toNat) zd_14_87_106 zT_1109 rfl (zz_ltn hn rfl) (by decide) (by omega) rfl ?_
      refine zz_aload_n (x := 1079) rfl zd_14_87_107 ?_
      refine zz_getr (kd := 0) (z := 1110) zd_14_87_108 zf_Md_112 zT_1079 rfl (zz_ltn hn rfl) (zz_G.eq G_S0 1079 45 1110 rfl rfl) (by decide) 1110 rfl ?_
      refine zz_iload_n (x := p0) rfl zd_14_87_111 ?_
      have g16 := zz_G.r G_S0 1110 p0.toNat 0 3 rfl rfl
      refine zz_iald (z := S0 1110 p0.toNat) zd_14_87_112 zT_1110 rfl (zz_ltn hn rfl) (by decide) (by omega) rfl ?_
      refine zz_imul zd_14_87_113 ?_
      have m17 := zz_mulb (a := S0 1109 p0.toNat) (b := S0 1110 p0.toNat) 3 3 9 (by omega) (by omega) (by decide)
      refine zz_istore [some (.ref 1079), some (zi p0), some (zi (S0 1107 p0.toNat)), some (zi 1), some (zi ((S0 1109 p0.toNat) * (S0 1110 p0.toNat)))] zd_14_87_114 (by decide) rfl ?_
      refine zz_iload_n (x := 1) rfl zd_14_87_116 ?_
      refine zz_if_eq (by omega) zd_14_87_117 (fun c18 => ?_) (fun c18 => ?_)
      · exfalso; omega
      · refine zz_iconst zd_14_87_120 ?_
        refine zz_goto zd_14_87_121 ?_
        refine zz_istore [some (.ref 1079), some (zi p0), some (zi (S0 1107 p0.toNat)), some (zi 1), some (zi ((S0 1109 p0.toNat) * (S0 1110 p0.toNat))), some (zi 1)] zd_14_87_142 (by decide) rfl ?_
        refine zz_iconst zd_14_87_144 ?_
        refine zz_istore [some (.ref 1079), some (zi p0), some (zi (S0 1107 p0.toNat)), some (zi 1), some (zi ((S0 1109 p0.toNat) * (S0 1110 p0.toNat))), some (zi 1), some (zi 0)] zd_14_87_145 (by decide) rfl ?_
        have g19 := zz_G.r G_S0 1079 10 0 1000000 rfl rfl
        refine zz_less (ls1 := [some (.ref 1079), some (zi p0), some (zi (S0 1107 p0.toNat)), some (zi 1), some (zi ((S0 1109 p0.toNat) * (S0 1110 p0.toNat))), some (zi 1), some (zi 0)]) ⟨rfl, ⟨rfl, ⟨rfl, ⟨rfl, ⟨rfl, ⟨rfl, ⟨rfl, trivial⟩⟩⟩⟩⟩⟩⟩ ?_
        exact k147 1 1 0 S0 G_S0 F_S0 (by omega) (by omega) (by omega) (by omega) (by omega) (by omega)
  · refine zz_iconst zd_14_87_17 ?_
    refine zz_istore_n [some (.ref 1079), some (zi p0), some (zi (S0 1107 p0.toNat)), some (zi 0)] zd_14_87_18 (by decide) rfl ?_
    have g20 := zz_G.r G_S0 1079 10 0 1000000 rfl rfl
    refine zz_less (ls1 := [some (.ref 1079), some (zi p0), none, some (zi 0)]) ⟨rfl, ⟨rfl, ⟨rfl, trivial⟩⟩⟩ ?_
    exact k19 0 S0 G_S0 F_S0 (by omega) (by omega) (by omega)
abbrev zy_layer_14_88 : mm_Y := (⟨"TensorForgeModel", "layer", "(I)V"⟩, prog_14_method_88_code, 8, none)
theorem zyw_layer_14_88 : mm_Yw zy_layer_14_88 1 := ⟨mm_tb_1 2140 (by decide +kernel) rfl, mm_tb_1 12 (by decide +kernel) rfl, ⟨by decide, by decide⟩, by decide +kernel⟩
theorem zd_14_88_0 : zz_D zy_layer_14_88 0 (.iload_n 1) 1 1 := ⟨by decide +kernel, rfl⟩
theorem zd_14_88_1 : zz_D zy_layer_14_88 1 (.iconst 1) 1 2 := ⟨by decide +kernel, rfl⟩
theorem zd_14_88_2 : zz_D zy_layer_14_88 2 (.iadd) 1 3 := ⟨by decide +kernel, rfl⟩
theorem zd_14_88_3 : zz_D zy_layer_14_88 3 (.istore_n 2) 1 4 := ⟨by decide +kernel, rfl⟩
theorem zd_14_88_4 : zz_D zy_layer_14_88 4 (.aload_n 0) 1 5 := ⟨by decide +kernel, rfl⟩
theorem zd_14_88_5 : zz_D zy_layer_14_88 5 (.getfield 100) 3 8 := ⟨by decide +kernel, rfl⟩
theorem zd_14_88_8 : zz_D zy_layer_14_88 8 (.iload_n 1) 1 9 := ⟨by decide +kernel, rfl⟩
theorem zd_14_88_9 : zz_D zy_layer_14_88 9 (.iaload) 1 10 := ⟨by decide +kernel, rfl⟩
theorem zd_14_88_10 : zz_D zy_layer_14_88 10 (.iconst 2) 1 11 := ⟨by decide +kernel, rfl⟩
theorem zd_14_88_11 : zz_B zy_layer_14_88 11 (Instr.if_icmp .ne) 18 14 := ⟨7, by decide +kernel, rfl, rfl⟩
theorem zd_14_88_18 : zz_D zy_layer_14_88 18 (.aload_n 0) 1 19 := ⟨by decide +kernel, rfl⟩
theorem zd_14_88_19 : zz_D zy_layer_14_88 19 (.getfield 88) 3 22 := ⟨by decide +kernel, rfl⟩
theorem zd_14_88_22 : zz_D zy_layer_14_88 22 (.iload_n 2) 1 23 := ⟨by decide +kernel, rfl⟩
theorem zd_14_88_23 : zz_D zy_layer_14_88 23 (.iaload) 1 24 := ⟨by decide +kernel, rfl⟩
theorem zd_14_88_24 : zz_D zy_layer_14_88 24 (.istore_n 3) 1 25 := ⟨by decide +kernel, rfl⟩
theorem zd_14_88_25 : zz_D zy_layer_14_88 25 (.aload_n 0) 1 26 := ⟨by decide +kernel, rfl⟩
theorem zd_14_88_26 : zz_D zy_layer_14_88 26 (.getfield 100) 3 29 := ⟨by decide +kernel, rfl⟩
theorem zd_14_88_29 : zz_D zy_layer_14_88 29 (.iload_n 1) 1 30 := ⟨by decide +kernel, rfl⟩
theorem zd_14_88_30 : zz_D zy_layer_14_88 30 (.iaload) 1 31 := ⟨by decide +kernel, rfl⟩
theorem zd_14_88_31 : zz_D zy_layer_14_88 31 (.iconst 2) 1 32 := ⟨by decide +kernel, rfl⟩
theorem zd_14_88_32 : zz_B zy_layer_14_88 32 (Instr.if_icmp .ne) 51 35 := ⟨19, by decide +kernel, rfl, rfl⟩
theorem zd_14_88_51 : zz_D zy_layer_14_88 51 (.aload_n 0) 1 52 := ⟨by decide +kernel, rfl⟩
theorem zd_14_88_52 : zz_D zy_layer_14_88 52 (.getfield 91) 3 55 := ⟨by decide +kernel, rfl⟩
theorem zd_14_88_55 : zz_D zy_layer_14_88 55 (.iload_n 2) 1 56 := ⟨by decide +kernel, rfl⟩
theorem zd_14_88_56 : zz_D zy_layer_14_88 56 (.iaload) 1 57 := ⟨by decide +kernel, rfl⟩
theorem zd_14_88_57 : zz_D zy_layer_14_88 57 (.istore 4) 2 59 := ⟨by decide +kernel, rfl⟩
theorem zd_14_88_59 : zz_D zy_layer_14_88 59 (.bipush 63) 2 61 := ⟨by decide +kernel, rfl⟩
theorem zd_14_88_61 : zz_D zy_layer_14_88 61 (.sipush 128) 3 64 := ⟨by decide +kernel, rfl⟩
theorem zd_14_88_64 : zz_D zy_layer_14_88 64 (.aload_n 0) 1 65 := ⟨by decide +kernel, rfl⟩
theorem zd_14_88_65 : zz_D zy_layer_14_88 65 (.getfield 7) 3 68 := ⟨by decide +kernel, rfl⟩
theorem zd_14_88_68 : zz_D zy_layer_14_88 68 (.idiv) 1 69 := ⟨by decide +kernel, rfl⟩
theorem zd_14_88_69 : zz_D zy_layer_14_88 69 (.invokestatic 506) 3 72 := ⟨by decide +kernel, rfl⟩
theorem zd_14_88_72 : zz_D zy_layer_14_88 72 (.istore 5) 2 74 := ⟨by decide +kernel, rfl⟩
theorem zd_14_88_74 : zz_D zy_layer_14_88 74 (.aload_n 0) 1 75 := ⟨by decide +kernel, rfl⟩
theorem zd_14_88_75 : zz_D zy_layer_14_88 75 (.iconst 0) 1 76 := ⟨by decide +kernel, rfl⟩
theorem zd_14_88_76 : zz_D zy_layer_14_88 76 (.putfield 450) 3 79 := ⟨by decide +kernel, rfl⟩
theorem zd_14_88_79 : zz_D zy_layer_14_88 79 (.aload_n 0) 1 80 := ⟨by decide +kernel, rfl⟩
theorem zd_14_88_80 : zz_D zy_layer_14_88 80 (.iconst 0) 1 81 := ⟨by decide +kernel, rfl⟩
theorem zd_14_88_81 : zz_D zy_layer_14_88 81 (.putfield 447) 3 84 := ⟨by decide +kernel, rfl⟩
theorem zd_14_88_84 : zz_D zy_layer_14_88 84 (.aload_n 0) 1 85 := ⟨by decide +kernel, rfl⟩
theorem zd_14_88_85 : zz_D zy_layer_14_88 85 (.iconst 0) 1 86 := ⟨by decide +kernel, rfl⟩
theorem zd_14_88_86 : zz_D zy_layer_14_88 86 (.putfield 466) 3 89 := ⟨by decide +kernel, rfl⟩
theorem zd_14_88_14 : zz_D zy_layer_14_88 14 (.iconst 1) 1 15 := ⟨by decide +kernel, rfl⟩
theorem zd_14_88_15 : zz_B zy_layer_14_88 15 Instr.goto 24 18 := ⟨9, by decide +kernel, rfl, rfl⟩
theorem zd_14_88_35 : zz_D zy_layer_14_88 35 (.aload_n 0) 1 36 := ⟨by decide +kernel, rfl⟩
theorem zd_14_88_36 : zz_D zy_layer_14_88 36 (.getfield 88) 3 39 := ⟨by decide +kernel, rfl⟩
theorem zd_14_88_39 : zz_D zy_layer_14_88 39 (.iload_n 2) 1 40 := ⟨by decide +kernel, rfl⟩
theorem zd_14_88_40 : zz_D zy_layer_14_88 40 (.iaload) 1 41 := ⟨by decide +kernel, rfl⟩
theorem zd_14_88_41 : zz_D zy_layer_14_88 41 (.aload_n 0) 1 42 := ⟨by decide +kernel, rfl⟩
theorem zd_14_88_42 : zz_D zy_layer_14_88 42 (.getfield 91) 3 45 := ⟨by decide +kernel, rfl⟩
theorem zd_14_88_45 : zz_D zy_layer_14_88 45 (.iload_n 2) 1 46 := ⟨by decide +kernel, rfl⟩
theorem zd_14_88_46 : zz_D zy_layer_14_88 46 (.iaload) 1 47 := ⟨by decide +kernel, rfl⟩
theorem zd_14_88_47 : zz_D zy_layer_14_88 47 (.imul) 1 48 := ⟨by decide +kernel, rfl⟩
theorem zd_14_88_48 : zz_B zy_layer_14_88 48 Instr.goto 57 51 := ⟨9, by decide +kernel, rfl, rfl⟩
theorem zd_14_88_89 : zz_D zy_layer_14_88 89 (.aload_n 0) 1 90 := ⟨by decide +kernel, rfl⟩
theorem zd_14_88_90 : zz_D zy_layer_14_88 90 (.getfield 466) 3 93 := ⟨by decide +kernel, rfl⟩
theorem zd_14_88_93 : zz_D zy_layer_14_88 93 (.aload_n 0) 1 94 := ⟨by decide +kernel, rfl⟩
theorem zd_14_88_94 : zz_D zy_layer_14_88 94 (.getfield 94) 3 97 := ⟨by decide +kernel, rfl⟩
theorem zd_14_88_97 : zz_D zy_layer_14_88 97 (.iload_n 2) 1 98 := ⟨by decide +kernel, rfl⟩
theorem zd_14_88_98 : zz_D zy_layer_14_88 98 (.iaload) 1 99 := ⟨by decide +kernel, rfl⟩
theorem zd_14_88_99 : zz_B zy_layer_14_88 99 (Instr.if_icmp .ge) 225 102 := ⟨126, by decide +kernel, rfl, rfl⟩
theorem zd_14_88_225 : zz_D zy_layer_14_88 225 (.iconst 2) 1 226 := ⟨by decide +kernel, rfl⟩
theorem zd_14_88_226 : zz_D zy_layer_14_88 226 (.aload_n 0) 1 227 := ⟨by decide +kernel, rfl⟩
theorem zd_14_88_227 : zz_D zy_layer_14_88 227 (.getfield 450) 3 230 := ⟨by decide +kernel, rfl⟩
theorem zd_14_88_230 : zz_D zy_layer_14_88 230 (.invokestatic 506) 3 233 := ⟨by decide +kernel, rfl⟩
theorem zd_14_88_233 : zz_D zy_layer_14_88 233 (.istore 6) 2 235 := ⟨by decide +kernel, rfl⟩
theorem zd_14_88_235 : zz_D zy_layer_14_88 235 (.iconst 0) 1 236 := ⟨by decide +kernel, rfl⟩
theorem zd_14_88_236 : zz_D zy_layer_14_88 236 (.istore 7) 2 238 := ⟨by decide +kernel, rfl⟩
theorem zd_14_88_102 : zz_D zy_layer_14_88 102 (.aload_n 0) 1 103 := ⟨by decide +kernel, rfl⟩
theorem zd_14_88_103 : zz_D zy_layer_14_88 103 (.aload_n 0) 1 104 := ⟨by decide +kernel, rfl⟩
theorem zd_14_88_104 : zz_D zy_layer_14_88 104 (.getfield 7) 3 107 := ⟨by decide +kernel, rfl⟩
theorem zd_14_88_107 : zz_D zy_layer_14_88 107 (.aload_n 0) 1 108 := ⟨by decide +kernel, rfl⟩
theorem zd_14_88_108 : zz_D zy_layer_14_88 108 (.getfield 94) 3 111 := ⟨by decide +kernel, rfl⟩
theorem zd_14_88_111 : zz_D zy_layer_14_88 111 (.iload_n 2) 1 112 := ⟨by decide +kernel, rfl⟩
theorem zd_14_88_112 : zz_D zy_layer_14_88 112 (.iaload) 1 113 := ⟨by decide +kernel, rfl⟩
theorem zd_14_88_113 : zz_D zy_layer_14_88 113 (.aload_n 0) 1 114 := ⟨by decide +kernel, rfl⟩
theorem zd_14_88_114 : zz_D zy_layer_14_88 114 (.getfield 466) 3 117 := ⟨by decide +kernel, rfl⟩
theorem zd_14_88_117 : zz_D zy_layer_14_88 117 (.isub) 1 118 := ⟨by decide +kernel, rfl⟩
theorem zd_14_88_118 : zz_D zy_layer_14_88 118 (.invokestatic 506) 3 121 := ⟨by decide +kernel, rfl⟩
theorem zd_14_88_121 : zz_D zy_layer_14_88 121 (.putfield 472) 3 124 := ⟨by decide +kernel, rfl⟩
theorem zd_14_88_124 : zz_D zy_layer_14_88 124 (.aload_n 0) 1 125 := ⟨by decide +kernel, rfl⟩
theorem zd_14_88_125 : zz_D zy_layer_14_88 125 (.iconst 0) 1 126 := ⟨by decide +kernel, rfl⟩
theorem zd_14_88_126 : zz_D zy_layer_14_88 126 (.putfield 495) 3 129 := ⟨by decide +kernel, rfl⟩
theorem zd_14_88_238 : zz_D zy_layer_14_88 238 (.iload 7) 2 240 := ⟨by decide +kernel, rfl⟩
theorem zd_14_88_240 : zz_D zy_layer_14_88 240 (.iload 6) 2 242 := ⟨by decide +kernel, rfl⟩
theorem zd_14_88_242 : zz_B zy_layer_14_88 242 (Instr.if_icmp .ge) 288 245 := ⟨46, by decide +kernel, rfl, rfl⟩
theorem zd_14_88_288 : zz_D zy_layer_14_88 288 (.iconst 0) 1 289 := ⟨by decide +kernel, rfl⟩
theorem zd_14_88_289 : zz_D zy_layer_14_88 289 (.istore 7) 2 291 := ⟨by decide +kernel, rfl⟩
theorem zd_14_88_245 : zz_D zy_layer_14_88 245 (.aload_n 0) 1 246 := ⟨by decide +kernel, rfl⟩
theorem zd_14_88_246 : zz_D zy_layer_14_88 246 (.bipush 9) 2 248 := ⟨by decide +kernel, rfl⟩
theorem zd_14_88_248 : zz_D zy_layer_14_88 248 (.iconst 0) 1 249 := ⟨by decide +kernel, rfl⟩
theorem zd_14_88_249 : zz_D zy_layer_14_88 249 (.iconst 0) 1 250 := ⟨by decide +kernel, rfl⟩
theorem zd_14_88_250 : zz_D zy_layer_14_88 250 (.iconst 0) 1 251 := ⟨by decide +kernel, rfl⟩
theorem zd_14_88_251 : zz_D zy_layer_14_88 251 (.invokevirtual 475) 3 254 := ⟨by decide +kernel, rfl⟩
theorem zd_14_88_254 : zz_D zy_layer_14_88 254 (.aload_n 0) 1 255 := ⟨by decide +kernel, rfl⟩
theorem zd_14_88_255 : zz_D zy_layer_14_88 255 (.iconst 0) 1 256 := ⟨by decide +kernel, rfl⟩
theorem zd_14_88_256 : zz_D zy_layer_14_88 256 (.iconst 0) 1 257 := ⟨by decide +kernel, rfl⟩
theorem zd_14_88_257 : zz_D zy_layer_14_88 257 (.iconst 0) 1 258 := ⟨by decide +kernel, rfl⟩
theorem zd_14_88_258 : zz_D zy_layer_14_88 258 (.iconst 1) 1 259 := ⟨by decide +kernel, rfl⟩
theorem zd_14_88_259 : zz_D zy_layer_14_88 259 (.invokevirtual 482) 3 262 := ⟨by decide +kernel, rfl⟩
theorem zd_14_88_262 : zz_D zy_layer_14_88 262 (.aload_n 0) 1 263 := ⟨by decide +kernel, rfl⟩
theorem zd_14_88_263 : zz_D zy_layer_14_88 263 (.iconst 2) 1 264 := ⟨by decide +kernel, rfl⟩
theorem zd_14_88_264 : zz_D zy_layer_14_88 264 (.iload 7) 2 266 := ⟨by decide +kernel, rfl⟩
theorem zd_14_88_266 : zz_D zy_layer_14_88 266 (.iload 6) 2 268 := ⟨by decide +kernel, rfl⟩
theorem zd_14_88_268 : zz_D zy_layer_14_88 268 (.iconst 1) 1 269 := ⟨by decide +kernel, rfl⟩
theorem zd_14_88_269 : zz_D zy_layer_14_88 269 (.isub) 1 270 := ⟨by decide +kernel, rfl⟩
theorem zd_14_88_270 : zz_B zy_layer_14_88 270 (Instr.if_icmp .ne) 277 273 := ⟨7, by decide +kernel, rfl, rfl⟩
theorem zd_14_88_277 : zz_D zy_layer_14_88 277 (.iconst 0) 1 278 := ⟨by decide +kernel, rfl⟩
theorem zd_14_88_278 : zz_D zy_layer_14_88 278 (.ior) 1 279 := ⟨by decide +kernel, rfl⟩
theorem zd_14_88_279 : zz_D zy_layer_14_88 279 (.invokevirtual 459) 3 282 := ⟨by decide +kernel, rfl⟩
theorem zd_14_88_282 : zz_D zy_layer_14_88 282 (.iinc 7 1) 3 285 := ⟨by decide +kernel, rfl⟩
theorem zd_14_88_285 : zz_B zy_layer_14_88 285 Instr.goto 238 288 := ⟨(-47), by decide +kernel, rfl, rfl⟩
theorem zd_14_88_273 : zz_D zy_layer_14_88 273 (.iconst 4) 1 274 := ⟨by decide +kernel, rfl⟩
theorem zd_14_88_274 : zz_B zy_layer_14_88 274 Instr.goto 278 277 := ⟨4, by decide +kernel, rfl, rfl⟩
theorem zd_14_88_129 : zz_D zy_layer_14_88 129 (.aload_n 0) 1 130 := ⟨by decide +kernel, rfl⟩
theorem zd_14_88_130 : zz_D zy_layer_14_88 130 (.getfield 495) 3 133 := ⟨by decide +kernel, rfl⟩
theorem zd_14_88_133 : zz_D zy_layer_14_88 133 (.iload_n 3) 1 134 := ⟨by decide +kernel, rfl⟩
theorem zd_14_88_134 : zz_B zy_layer_14_88 134 (Instr.if_icmp .ge) 209 137 := ⟨75, by decide +kernel, rfl, rfl⟩
theorem zd_14_88_209 : zz_D zy_layer_14_88 209 (.aload_n 0) 1 210 := ⟨by decide +kernel, rfl⟩
theorem zd_14_88_210 : zz_D zy_layer_14_88 210 (.aload_n 0) 1 211 := ⟨by decide +kernel, rfl⟩
theorem zd_14_88_211 : zz_D zy_layer_14_88 211 (.getfield 466) 3 214 := ⟨by decide +kernel, rfl⟩
theorem zd_14_88_214 : zz_D zy_layer_14_88 214 (.aload_n 0) 1 215 := ⟨by decide +kernel, rfl⟩
theorem zd_14_88_215 : zz_D zy_layer_14_88 215 (.getfield 7) 3 218 := ⟨by decide +kernel, rfl⟩
theorem zd_14_88_218 : zz_D zy_layer_14_88 218 (.iadd) 1 219 := ⟨by decide +kernel, rfl⟩
theorem zd_14_88_219 : zz_D zy_layer_14_88 219 (.putfield 466) 3 222 := ⟨by decide +kernel, rfl⟩
theorem zd_14_88_222 : zz_B zy_layer_14_88 222 Instr.goto 89 225 := ⟨(-133), by decide +kernel, rfl, rfl⟩
theorem zd_14_88_137 : zz_D zy_layer_14_88 137 (.aload_n 0) 1 138 := ⟨by decide +kernel, rfl⟩
theorem zd_14_88_138 : zz_D zy_layer_14_88 138 (.iconst 0) 1 139 := ⟨by decide +kernel, rfl⟩
theorem zd_14_88_139 : zz_D zy_layer_14_88 139 (.putfield 492) 3 142 := ⟨by decide +kernel, rfl⟩
theorem zd_14_88_291 : zz_D zy_layer_14_88 291 (.iload 7) 2 293 := ⟨by decide +kernel, rfl⟩
theorem zd_14_88_293 : zz_D zy_layer_14_88 293 (.iconst 2) 1 294 := ⟨by decide +kernel, rfl⟩
theorem zd_14_88_294 : zz_D zy_layer_14_88 294 (.aload_n 0) 1 295 := ⟨by decide +kernel, rfl⟩
theorem zd_14_88_295 : zz_D zy_layer_14_88 295 (.getfield 447) 3 298 := ⟨by decide +kernel, rfl⟩
theorem zd_14_88_298 : zz_D zy_layer_14_88 298 (.invokestatic 506) 3 301 := ⟨by decide +kernel, rfl⟩
theorem zd_14_88_301 : zz_B zy_layer_14_88 301 (Instr.if_icmp .gt) 324 304 := ⟨23, by decide +kernel, rfl, rfl⟩
theorem zd_14_88_324 : zz_D zy_layer_14_88 324 (.return_) 1 325 := ⟨by decide +kernel, rfl⟩
theorem zd_14_88_304 : zz_D zy_layer_14_88 304 (.aload_n 0) 1 305 := ⟨by decide +kernel, rfl⟩
theorem zd_14_88_305 : zz_D zy_layer_14_88 305 (.bipush 9) 2 307 := ⟨by decide +kernel, rfl⟩
theorem zd_14_88_307 : zz_D zy_layer_14_88 307 (.iconst 0) 1 308 := ⟨by decide +kernel, rfl⟩
theorem zd_14_88_308 : zz_D zy_layer_14_88 308 (.iconst 0) 1 309 := ⟨by decide +kernel, rfl⟩
theorem zd_14_88_309 : zz_D zy_layer_14_88 309 (.iconst 0) 1 310 := ⟨by decide +kernel, rfl⟩
theorem zd_14_88_310 : zz_D zy_layer_14_88 310 (.invokevirtual 475) 3 313 := ⟨by decide +kernel, rfl⟩
theorem zd_14_88_313 : zz_D zy_layer_14_88 313 (.aload_n 0) 1 314 := ⟨by decide +kernel, rfl⟩
theorem zd_14_88_314 : zz_D zy_layer_14_88 314 (.iconst 2) 1 315 := ⟨by decide +kernel, rfl⟩
theorem zd_14_88_315 : zz_D zy_layer_14_88 315 (.invokevirtual 459) 3 318 := ⟨by decide +kernel, rfl⟩
theorem zd_14_88_318 : zz_D zy_layer_14_88 318 (.iinc 7 1) 3 321 := ⟨by decide +kernel, rfl⟩
theorem zd_14_88_321 : zz_B zy_layer_14_88 321 Instr.goto 291 324 := ⟨(-30), by decide +kernel, rfl, rfl⟩
theorem zd_14_88_142 : zz_D zy_layer_14_88 142 (.aload_n 0) 1 143 := ⟨by decide +kernel, rfl⟩
theorem zd_14_88_143 : zz_D zy_layer_14_88 143 (.getfield 492) 3 146 := ⟨by decide +kernel, rfl⟩
theorem zd_14_88_146 : zz_D zy_layer_14_88 146 (.iload 4) 2 148 := ⟨by decide +kernel, rfl⟩
theorem zd_14_88_148 : zz_B zy_layer_14_88 148 (Instr.if_icmp .ge) 196 151 := ⟨48, by decide +kernel, rfl, rfl⟩
theorem zd_14_88_196 : zz_D zy_layer_14_88 196 (.aload_n 0) 1 197 := ⟨by decide +kernel, rfl⟩
theorem zd_14_88_197 : zz_D zy_layer_14_88 197 (.dup) 1 198 := ⟨by decide +kernel, rfl⟩
theorem zd_14_88_198 : zz_D zy_layer_14_88 198 (.getfield 495) 3 201 := ⟨by decide +kernel, rfl⟩
theorem zd_14_88_201 : zz_D zy_layer_14_88 201 (.iconst 1) 1 202 := ⟨by decide +kernel, rfl⟩
theorem zd_14_88_202 : zz_D zy_layer_14_88 202 (.iadd) 1 203 := ⟨by decide +kernel, rfl⟩
theorem zd_14_88_203 : zz_D zy_layer_14_88 203 (.putfield 495) 3 206 := ⟨by decide +kernel, rfl⟩
theorem zd_14_88_206 : zz_B zy_layer_14_88 206 Instr.goto 129 209 := ⟨(-77), by decide +kernel, rfl, rfl⟩
theorem zd_14_88_151 : zz_D zy_layer_14_88 151 (.aload_n 0) 1 152 := ⟨by decide +kernel, rfl⟩
theorem zd_14_88_152 : zz_D zy_layer_14_88 152 (.iload 5) 2 154 := ⟨by decide +kernel, rfl⟩
theorem zd_14_88_154 : zz_D zy_layer_14_88 154 (.iload 4) 2 156 := ⟨by decide +kernel, rfl⟩
theorem zd_14_88_156 : zz_D zy_layer_14_88 156 (.aload_n 0) 1 157 := ⟨by decide +kernel, rfl⟩
theorem zd_14_88_157 : zz_D zy_layer_14_88 157 (.getfield 492) 3 160 := ⟨by decide +kernel, rfl⟩
theorem zd_14_88_160 : zz_D zy_layer_14_88 160 (.isub) 1 161 := ⟨by decide +kernel, rfl⟩
theorem zd_14_88_161 : zz_D zy_layer_14_88 161 (.invokestatic 506) 3 164 := ⟨by decide +kernel, rfl⟩
theorem zd_14_88_164 : zz_D zy_layer_14_88 164 (.putfield 469) 3 167 := ⟨by decide +kernel, rfl⟩
theorem zd_14_88_167 : zz_D zy_layer_14_88 167 (.aload_n 0) 1 168 := ⟨by decide +kernel, rfl⟩
theorem zd_14_88_168 : zz_D zy_layer_14_88 168 (.getfield 372) 3 171 := ⟨by decide +kernel, rfl⟩
theorem zd_14_88_171 : zz_D zy_layer_14_88 171 (.sipush 600) 3 174 := ⟨by decide +kernel, rfl⟩
theorem zd_14_88_174 : zz_B zy_layer_14_88 174 (Instr.if_icmp .gt) 182 177 := ⟨8, by decide +kernel, rfl, rfl⟩
theorem zd_14_88_182 : zz_D zy_layer_14_88 182 (.aload_n 0) 1 183 := ⟨by decide +kernel, rfl⟩
theorem zd_14_88_183 : zz_D zy_layer_14_88 183 (.aload_n 0) 1 184 := ⟨by decide +kernel, rfl⟩
theorem zd_14_88_184 : zz_D zy_layer_14_88 184 (.getfield 492) 3 187 := ⟨by decide +kernel, rfl⟩
theorem zd_14_88_187 : zz_D zy_layer_14_88 187 (.iload 5) 2 189 := ⟨by decide +kernel, rfl⟩
theorem zd_14_88_189 : zz_D zy_layer_14_88 189 (.iadd) 1 190 := ⟨by decide +kernel, rfl⟩
theorem zd_14_88_190 : zz_D zy_layer_14_88 190 (.putfield 492) 3 193 := ⟨by decide +kernel, rfl⟩
theorem zd_14_88_193 : zz_B zy_layer_14_88 193 Instr.goto 142 196 := ⟨(-51), by decide +kernel, rfl, rfl⟩
theorem zd_14_88_177 : zz_D zy_layer_14_88 177 (.aload_n 0) 1 178 := ⟨by decide +kernel, rfl⟩
theorem zd_14_88_178 : zz_D zy_layer_14_88 178 (.iload_n 1) 1 179 := ⟨by decide +kernel, rfl⟩
theorem zd_14_88_179 : zz_D zy_layer_14_88 179 (.invokevirtual 509) 3 182 := ⟨by decide +kernel, rfl⟩
theorem zk_Md_509 : mm_Vl "TensorForgeModel" 509 11 1 zy_tile_14_87 := ⟨zyw_tile_14_87, (R_Md, F_Md, 69), rfl, mm_tb_1 2144 (by decide +kernel) rfl, mm_tb_1 2146 (by decide +kernel) rfl, mm_tb_s 128 (by decide +kernel) rfl⟩

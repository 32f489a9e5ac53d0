-- TensorForgeModel group (IIIIIZ)V
abbrev zr_group_14_83 : Room := { frames := 5, cells := 0, slots := 0, locals := 87 }
def zp_group_14_83 (p0 : Int) (p1 : Int) (p2 : Int) (p3 : Int) (p4 : Int) (p5 : Int) (S0 : zz_S) : zz_S → Prop := fun S => zz_G S ∧ zz_fr [(1079, 10), (1079, 57), (1079, 60)] [1086, 1087] (fun _ _ => False) S0 S ∧ (S0 1079 10 ≤ S 1079 10 ∧ S 1079 10 ≤ S0 1079 10 + 5)
theorem zc_group_14_83 {g : mm_G} {l : Launch} (p0 : Int) (p1 : Int) (p2 : Int) (p3 : Int) (p4 : Int) (p5 : Int) (S0 : zz_S) (n : Nat) (hn : zz_end ≤ n) (G_S0 : zz_G S0) (hp0 : 0 ≤ p0 ∧ p0 ≤ 9) (hp1 : (-2147483648) ≤ p1 ∧ p1 ≤ 2147483647) (hp2 : (-2147483648) ≤ p2 ∧ p2 ≤ 2147483647) (hp3 : (-2147483648) ≤ p3 ∧ p3 ≤ 2147483647) (hp4 : (-2147483648) ≤ p4 ∧ p4 ≤ 2147483647) (hp5 : 0 ≤ p5 ∧ p5 ≤ 1) (hq : S0 1079 10 ≤ 900000) : mm_Met g l zy_group_14_83 zr_group_14_83 [.ref 1079, zi p0, zi p1, zi p2, zi p3, zi p4, zi p5] (zz_M S0 n) n (zz_QV n (zp_group_14_83 p0 p1 p2 p3 p4 p5 S0)) := by
  refine zz_enter (by decide) (Nat.le_of_ble_eq_true rfl) (zz_less (ls1 := [some (.ref 1079), some (zi p0), some (zi p1), some (zi p2), some (zi p3), some (zi p4), some (zi p5)]) ⟨rfl, ⟨rfl, ⟨rfl, ⟨rfl, ⟨rfl, ⟨rfl, ⟨rfl, trivial⟩⟩⟩⟩⟩⟩⟩ ?_)
  have F_S0 : zz_fr [(1079, 10), (1079, 57), (1079, 60)] [1086, 1087] (fun _ _ => False) S0 S0 := zz_fr.refl
  refine zz_aload_n (x := 1079) rfl zd_14_83_0 ?_
  refine zz_iconst zd_14_83_1 ?_
  refine zz_puti zd_14_83_2 zf_Md_456 zT_1079 rfl (zz_ltn hn rfl) (fun S1 qS1 => ?_)
  have G_S1 := zz_G.put G_S0 qS1 (-2147483648) 2147483647 rfl (by omega)
  have F_S1 := zz_fr.puts F_S0 qS1 rfl
  refine zz_aload_n (x := 1079) rfl zd_14_83_5 ?_
  refine zz_iconst zd_14_83_6 ?_
  refine zz_puti zd_14_83_7 zf_Md_453 zT_1079 rfl (zz_ltn hn rfl) (fun S2 qS2 => ?_)
  have G_S2 := zz_G.put G_S1 qS2 (-2147483648) 2147483647 rfl (by omega)
  have F_S2 := zz_fr.puts F_S1 qS2 rfl
  refine zz_aload_n (x := 1079) rfl zd_14_83_10 ?_
  refine zz_iload_n (x := p0) rfl zd_14_83_11 ?_
  refine zz_iload_n (x := p1) rfl zd_14_83_12 ?_
  refine zz_iload_n (x := p2) rfl zd_14_83_13 ?_
  refine zz_iload (x := p3) rfl zd_14_83_14 ?_
  refine zz_iload (x := p4) rfl zd_14_83_16 ?_
  refine zz_iload (x := p5) rfl zd_14_83_18 ?_
  refine zz_iconst zd_14_83_20 ?_
  have g3 := zz_G.r G_S0 1079 10 0 1000000 rfl rfl
  have e4 : S2 1079 10 = S0 1079 10 := (zz_ro qS2 (fun h => absurd h.2 (by decide)) (zz_ro qS1 (fun h => absurd h.2 (by decide)) rfl))
  refine zz_callVV [zi p0, zi p1, zi p2, zi p3, zi p4, zi p5, zi 1] zd_14_83_21 zk_Md_462 zT_1079 (zz_ltn hn rfl) rfl rfl ⟨Nat.le_of_ble_eq_true rfl, Nat.le_of_ble_eq_true rfl⟩ ⟨rfl, rfl⟩ (Nat.zero_le _) (Nat.zero_le _) (zc_groupLoads_14_84 p0 p1 p2 p3 p4 p5 1 S2 n hn G_S2 (by omega) (by omega) (by omega) (by omega) (by omega) (by omega) (by omega) (by omega)) (fun S5 hP => ?_)
  obtain ⟨G_S5, fS5, o7, o8⟩ := hP
  have F_S5 := zz_fr.trans F_S2 fS5 rfl zz_nv
  refine zz_aload_n (x := 1079) rfl zd_14_83_24 ?_
  refine zz_aload_n (x := 1079) rfl zd_14_83_25 ?_
  have g9 := zz_G.r G_S5 1079 57 (-2147483648) 2147483647 rfl rfl
  refine zz_geti (z := S5 1079 57) zd_14_83_26 zf_Md_453 zT_1079 rfl (zz_ltn hn rfl) rfl ?_
  refine zz_puti zd_14_83_29 zf_Md_456 zT_1079 rfl (zz_ltn hn rfl) (fun S10 qS10 => ?_)
  have G_S10 := zz_G.put G_S5 qS10 (-2147483648) 2147483647 rfl (by omega)
  have F_S10 := zz_fr.puts F_S5 qS10 rfl
  refine zz_aload_n (x := 1079) rfl zd_14_83_32 ?_
  refine zz_iconst zd_14_83_33 ?_
  refine zz_puti zd_14_83_34 zf_Md_453 zT_1079 rfl (zz_ltn hn rfl) (fun S11 qS11 => ?_)
  have G_S11 := zz_G.put G_S10 qS11 (-2147483648) 2147483647 rfl (by omega)
  have F_S11 := zz_fr.puts F_S10 qS11 rfl
  refine zz_aload_n (x := 1079) rfl zd_14_83_37 ?_
  refine zz_iload_n (x := p0) rfl zd_14_83_38 ?_
  refine zz_iload_n (x := p1) rfl zd_14_83_39 ?_
  refine zz_iload_n (x := p2) rfl zd_14_83_40 ?_
  refine zz_iload (x := p3) rfl zd_14_83_41 ?_
  refine zz_iload (x := p4) rfl zd_14_83_43 ?_
  refine zz_iload (x := p5) rfl zd_14_83_45 ?_
  refine zz_iconst zd_14_83_47 ?_
  have g12 := zz_G.r G_S5 1079 10 0 1000000 rfl rfl
  have e13 : S11 1079 10 = S5 1079 10 := (zz_ro qS11 (fun h => absurd h.2 (by decide)) (zz_ro qS10 (fun h => absurd h.2 (by decide)) rfl))
  refine zz_callVV [zi p0, zi p1, zi p2, zi p3, zi p4, zi p5, zi 0] zd_14_83_48 zk_Md_462 zT_1079 (zz_ltn hn rfl) rfl rfl ⟨Nat.le_of_ble_eq_true rfl, Nat.le_of_ble_eq_true rfl⟩ ⟨rfl, rfl⟩ (Nat.zero_le _) (Nat.zero_le _) (zc_groupLoads_14_84 p0 p1 p2 p3 p4 p5 0 S11 n hn G_S11 (by omega) (by omega) (by omega) (by omega) (by omega) (by omega) (by omega) (by omega)) (fun S14 hP => ?_)
  obtain ⟨G_S14, fS14, o16, o17⟩ := hP
  have F_S14 := zz_fr.trans F_S11 fS14 rfl zz_nv
  have g18 := zz_G.r G_S14 1079 10 0 1000000 rfl rfl
  exact zz_vret zd_14_83_51 rfl (Nat.zero_le _) (Nat.zero_le _) ⟨_, rfl, G_S14, F_S14, by omega⟩
abbrev zy_least_14_85 : mm_Y := (⟨"TensorForgeModel", "least", "(II)I"⟩, prog_14_method_85_code, 2, (some .int))
theorem zyw_least_14_85 : mm_Yw zy_least_14_85 2 := ⟨mm_tb_1 2143 (by decide +kernel) rfl, mm_tb_1 12 (by decide +kernel) rfl, ⟨by decide, by decide⟩, by decide +kernel⟩
theorem zg_14_85_0 : zq_at zy_least_14_85.2.1 0 26 ∧ zq_at zy_least_14_85.2.1 1 27 ∧ zq_at zy_least_14_85.2.1 2 162 ∧ zq_at zy_least_14_85.2.1 3 0 ∧ zq_at zy_least_14_85.2.1 4 7 ∧ zq_at zy_least_14_85.2.1 9 27 ∧ zq_at zy_least_14_85.2.1 10 172 ∧ zq_at zy_least_14_85.2.1 5 26 ∧ zq_at zy_least_14_85.2.1 6 167 ∧ zq_at zy_least_14_85.2.1 7 0 ∧ zq_at zy_least_14_85.2.1 8 4 := by decide +kernel
theorem zd_14_85_0 : zz_D zy_least_14_85 0 (.iload_n 0) 1 1 := ⟨zq_26 zg_14_85_0.1, rfl⟩
theorem zd_14_85_1 : zz_D zy_least_14_85 1 (.iload_n 1) 1 2 := ⟨zq_27 zg_14_85_0.2.1, rfl⟩
theorem zd_14_85_2 : zz_B zy_least_14_85 2 (Instr.if_icmp .ge) 9 5 := ⟨7, zq_162 zg_14_85_0.2.2.1 zg_14_85_0.2.2.2.1 zg_14_85_0.2.2.2.2.1 (by decide), rfl, rfl⟩
theorem zd_14_85_9 : zz_D zy_least_14_85 9 (.iload_n 1) 1 10 := ⟨zq_27 zg_14_85_0.2.2.2.2.2.1, rfl⟩
theorem zd_14_85_10 : zz_D zy_least_14_85 10 (.ireturn) 1 11 := ⟨zq_172 zg_14_85_0.2.2.2.2.2.2.1, rfl⟩
theorem zd_14_85_5 : zz_D zy_least_14_85 5 (.iload_n 0) 1 6 := ⟨zq_26 zg_14_85_0.2.2.2.2.2.2.2.1, rfl⟩
theorem zd_14_85_6 : zz_B zy_least_14_85 6 Instr.goto 10 9 := ⟨4, zq_167 zg_14_85_0.2.2.2.2.2.2.2.2.1 zg_14_85_0.2.2.2.2.2.2.2.2.2.1 zg_14_85_0.2.2.2.2.2.2.2.2.2.2 (by decide), rfl, rfl⟩
-- TensorForgeModel least (II)I
abbrev zr_least_14_85 : Room := { frames := 0, cells := 0, slots := 0, locals := 0 }
def zp_least_14_85 (p0 : Int) (p1 : Int) (S0 : zz_S) : Int → zz_S → Prop := fun r S => S0 = S ∧ ((-2147483648) ≤ r ∧ r ≤ 2147483647) ∧ (r ≤ p0 ∧ r ≤ p1 ∧ (r = p0 ∨ r = p1))
theorem zc_least_14_85 {g : mm_G} {l : Launch} (p0 : Int) (p1 : Int) (S0 : zz_S) (n : Nat) (hn : zz_end ≤ n) (G_S0 : zz_G S0) (hp0 : (-2147483648) ≤ p0 ∧ p0 ≤ 2147483647) (hp1 : (-2147483648) ≤ p1 ∧ p1 ≤ 2147483647) : mm_Met g l zy_least_14_85 zr_least_14_85 [zi p0, zi p1] (zz_M S0 n) n (zz_QI n (zp_least_14_85 p0 p1 S0)) := by
  refine zz_enter (by decide) (Nat.le_of_ble_eq_true rfl) (zz_less (ls1 := [some (zi p0), some (zi p1)]) ⟨rfl, ⟨rfl, trivial⟩⟩ ?_)
  refine zz_iload_n (x := p0) rfl zd_14_85_0 ?_
  refine zz_iload_n (x := p1) rfl zd_14_85_1 ?_
  refine zz_icmp_ge (by omega) (by omega) zd_14_85_2 (fun c1 => ?_) (fun c1 => ?_)
  · refine zz_iload_n (x := p1) rfl zd_14_85_9 ?_
    exact zz_iret zd_14_85_10 rfl (Nat.zero_le _) (Nat.zero_le _) ⟨_, _, rfl, rfl, by omega, by omega⟩
  · refine zz_iload_n (x := p0) rfl zd_14_85_5 ?_
    refine zz_goto zd_14_85_6 ?_
    exact zz_iret zd_14_85_10 rfl (Nat.zero_le _) (Nat.zero_le _) ⟨_, _, rfl, rfl, by omega, by omega⟩
abbrev zy_works_14_86 : mm_Y := (⟨"TensorForgeModel", "works", "(IIZZ)V"⟩, prog_14_method_86_code, 5, none)
theorem zyw_works_14_86 : mm_Yw zy_works_14_86 4 := ⟨mm_tb_1 2183 (by decide +kernel) rfl, mm_tb_1 12 (by decide +kernel) rfl, ⟨by decide, by decide⟩, by decide +kernel⟩
theorem zg_14_86_0 : zq_at zy_works_14_86.2.1 0 42 ∧ zq_at zy_works_14_86.2.1 1 180 ∧ zq_at zy_works_14_86.2.1 2 0 ∧ zq_at zy_works_14_86.2.1 3 100 ∧ zq_at zy_works_14_86.2.1 4 27 ∧ zq_at zy_works_14_86.2.1 5 46 ∧ zq_at zy_works_14_86.2.1 6 154 ∧ zq_at zy_works_14_86.2.1 7 0 ∧ zq_at zy_works_14_86.2.1 8 41 ∧ zq_at zy_works_14_86.2.1 47 42 ∧ zq_at zy_works_14_86.2.1 48 16 ∧ zq_at zy_works_14_86.2.1 49 6 ∧ zq_at zy_works_14_86.2.1 50 3 ∧ zq_at zy_works_14_86.2.1 51 42 ∧ zq_at zy_works_14_86.2.1 52 180 ∧ zq_at zy_works_14_86.2.1 53 1 ∧ zq_at zy_works_14_86.2.1 54 213 ∧ zq_at zy_works_14_86.2.1 55 42 ∧ zq_at zy_works_14_86.2.1 56 180 ∧ zq_at zy_works_14_86.2.1 57 1 ∧ zq_at zy_works_14_86.2.1 58 216 ∧ zq_at zy_works_14_86.2.1 59 182 ∧ zq_at zy_works_14_86.2.1 60 1 ∧ zq_at zy_works_14_86.2.1 61 219 := by decide +kernel
theorem zd_14_86_0 : zz_D zy_works_14_86 0 (.aload_n 0) 1 1 := ⟨zq_42 zg_14_86_0.1, rfl⟩
theorem zd_14_86_1 : zz_D zy_works_14_86 1 (.getfield 100) 3 4 := ⟨zq_180 zg_14_86_0.2.1 zg_14_86_0.2.2.1 zg_14_86_0.2.2.2.1 rfl, rfl⟩
theorem zd_14_86_4 : zz_D zy_works_14_86 4 (.iload_n 1) 1 5 := ⟨zq_27 zg_14_86_0.2.2.2.2.1, rfl⟩
theorem zd_14_86_5 : zz_D zy_works_14_86 5 (.iaload) 1 6 := ⟨zq_46 zg_14_86_0.2.2.2.2.2.1, rfl⟩
theorem zd_14_86_6 : zz_B zy_works_14_86 6 (Instr.ifCond .ne) 47 9 := ⟨41, zq_154 zg_14_86_0.2.2.2.2.2.2.1 zg_14_86_0.2.2.2.2.2.2.2.1 zg_14_86_0.2.2.2.2.2.2.2.2.1 (by decide), rfl, rfl⟩
theorem zd_14_86_47 : zz_D zy_works_14_86 47 (.aload_n 0) 1 48 := ⟨zq_42 zg_14_86_0.2.2.2.2.2.2.2.2.2.1, rfl⟩
theorem zd_14_86_48 : zz_D zy_works_14_86 48 (.bipush 6) 2 50 := ⟨zq_16 zg_14_86_0.2.2.2.2.2.2.2.2.2.2.1 zg_14_86_0.2.2.2.2.2.2.2.2.2.2.2.1 (by decide), rfl⟩
theorem zd_14_86_50 : zz_D zy_works_14_86 50 (.iconst 0) 1 51 := ⟨zq_3 zg_14_86_0.2.2.2.2.2.2.2.2.2.2.2.2.1, rfl⟩
theorem zd_14_86_51 : zz_D zy_works_14_86 51 (.aload_n 0) 1 52 := ⟨zq_42 zg_14_86_0.2.2.2.2.2.2.2.2.2.2.2.2.2.1, rfl⟩
theorem zd_14_86_52 : zz_D zy_works_14_86 52 (.getfield 469) 3 55 := ⟨zq_180 zg_14_86_0.2.2.2.2.2.2.2.2.2.2.2.2.2.2.1 zg_14_86_0.2.2.2.2.2.2.2.2.2.2.2.2.2.2.2.1 zg_14_86_0.2.2.2.2.2.2.2.2.2.2.2.2.2.2.2.2.1 rfl, rfl⟩
theorem zd_14_86_55 : zz_D zy_works_14_86 55 (.aload_n 0) 1 56 := ⟨zq_42 zg_14_86_0.2.2.2.2.2.2.2.2.2.2.2.2.2.2.2.2.2.1, rfl⟩
theorem zd_14_86_56 : zz_D zy_works_14_86 56 (.getfield 472) 3 59 := ⟨zq_180 zg_14_86_0.2.2.2.2.2.2.2.2.2.2.2.2.2.2.2.2.2.2.1 zg_14_86_0.2.2.2.2.2.2.2.2.2.2.2.2.2.2.2.2.2.2.2.1 zg_14_86_0.2.2.2.2.2.2.2.2.2.2.2.2.2.2.2.2.2.2.2.2.1 rfl, rfl⟩
theorem zd_14_86_59 : zz_D zy_works_14_86 59 (.invokevirtual 475) 3 62 := ⟨zq_182 zg_14_86_0.2.2.2.2.2.2.2.2.2.2.2.2.2.2.2.2.2.2.2.2.2.1 zg_14_86_0.2.2.2.2.2.2.2.2.2.2.2.2.2.2.2.2.2.2.2.2.2.2.1 zg_14_86_0.2.2.2.2.2.2.2.2.2.2.2.2.2.2.2.2.2.2.2.2.2.2.2 rfl, rfl⟩
theorem zg_14_86_62 : zq_at zy_works_14_86.2.1 62 42 ∧ zq_at zy_works_14_86.2.1 63 42 ∧ zq_at zy_works_14_86.2.1 64 182 ∧ zq_at zy_works_14_86.2.1 65 1 ∧ zq_at zy_works_14_86.2.1 66 233 ∧ zq_at zy_works_14_86.2.1 67 42 ∧ zq_at zy_works_14_86.2.1 68 182 ∧ zq_at zy_works_14_86.2.1 69 1 ∧ zq_at zy_works_14_86.2.1 70 223 ∧ zq_at zy_works_14_86.2.1 71 3 ∧ zq_at zy_works_14_86.2.1 72 29 ∧ zq_at zy_works_14_86.2.1 73 153 ∧ zq_at zy_works_14_86.2.1 74 0 ∧ zq_at zy_works_14_86.2.1 75 7 ∧ zq_at zy_works_14_86.2.1 80 42 ∧ zq_at zy_works_14_86.2.1 81 180 ∧ zq_at zy_works_14_86.2.1 82 0 ∧ zq_at zy_works_14_86.2.1 83 100 ∧ zq_at zy_works_14_86.2.1 84 27 ∧ zq_at zy_works_14_86.2.1 85 46 ∧ zq_at zy_works_14_86.2.1 86 4 ∧ zq_at zy_works_14_86.2.1 87 160 ∧ zq_at zy_works_14_86.2.1 88 0 ∧ zq_at zy_works_14_86.2.1 89 7 := by decide +kernel
theorem zd_14_86_62 : zz_D zy_works_14_86 62 (.aload_n 0) 1 63 := ⟨zq_42 zg_14_86_62.1, rfl⟩
theorem zd_14_86_63 : zz_D zy_works_14_86 63 (.aload_n 0) 1 64 := ⟨zq_42 zg_14_86_62.2.1, rfl⟩
theorem zd_14_86_64 : zz_D zy_works_14_86 64 (.invokevirtual 489) 3 67 := ⟨zq_182 zg_14_86_62.2.2.1 zg_14_86_62.2.2.2.1 zg_14_86_62.2.2.2.2.1 rfl, rfl⟩
theorem zd_14_86_67 : zz_D zy_works_14_86 67 (.aload_n 0) 1 68 := ⟨zq_42 zg_14_86_62.2.2.2.2.2.1, rfl⟩
theorem zd_14_86_68 : zz_D zy_works_14_86 68 (.invokevirtual 479) 3 71 := ⟨zq_182 zg_14_86_62.2.2.2.2.2.2.1 zg_14_86_62.2.2.2.2.2.2.2.1 zg_14_86_62.2.2.2.2.2.2.2.2.1 rfl, rfl⟩
theorem zd_14_86_71 : zz_D zy_works_14_86 71 (.iconst 0) 1 72 := ⟨zq_3 zg_14_86_62.2.2.2.2.2.2.2.2.2.1, rfl⟩
theorem zd_14_86_72 : zz_D zy_works_14_86 72 (.iload_n 3) 1 73 := ⟨zq_29 zg_14_86_62.2.2.2.2.2.2.2.2.2.2.1, rfl⟩
theorem zd_14_86_73 : zz_B zy_works_14_86 73 (Instr.ifCond .eq) 80 76 := ⟨7, zq_153 zg_14_86_62.2.2.2.2.2.2.2.2.2.2.2.1 zg_14_86_62.2.2.2.2.2.2.2.2.2.2.2.2.1 zg_14_86_62.2.2.2.2.2.2.2.2.2.2.2.2.2.1 (by decide), rfl, rfl⟩
theorem zd_14_86_80 : zz_D zy_works_14_86 80 (.aload_n 0) 1 81 := ⟨zq_42 zg_14_86_62.2.2.2.2.2.2.2.2.2.2.2.2.2.2.1, rfl⟩
theorem zd_14_86_81 : zz_D zy_works_14_86 81 (.getfield 100) 3 84 := ⟨zq_180 zg_14_86_62.2.2.2.2.2.2.2.2.2.2.2.2.2.2.2.1 zg_14_86_62.2.2.2.2.2.2.2.2.2.2.2.2.2.2.2.2.1 zg_14_86_62.2.2.2.2.2.2.2.2.2.2.2.2.2.2.2.2.2.1 rfl, rfl⟩
theorem zd_14_86_84 : zz_D zy_works_14_86 84 (.iload_n 1) 1 85 := ⟨zq_27 zg_14_86_62.2.2.2.2.2.2.2.2.2.2.2.2.2.2.2.2.2.2.1, rfl⟩
theorem zd_14_86_85 : zz_D zy_works_14_86 85 (.iaload) 1 86 := ⟨zq_46 zg_14_86_62.2.2.2.2.2.2.2.2.2.2.2.2.2.2.2.2.2.2.2.1, rfl⟩
theorem zd_14_86_86 : zz_D zy_works_14_86 86 (.iconst 1) 1 87 := ⟨zq_4 zg_14_86_62.2.2.2.2.2.2.2.2.2.2.2.2.2.2.2.2.2.2.2.2.1, rfl⟩
theorem zd_14_86_87 : zz_B zy_works_14_86 87 (Instr.if_icmp .ne) 94 90 := ⟨7, zq_160 zg_14_86_62.2.2.2.2.2.2.2.2.2.2.2.2.2.2.2.2.2.2.2.2.2.1 zg_14_86_62.2.2.2.2.2.2.2.2.2.2.2.2.2.2.2.2.2.2.2.2.2.2.1 zg_14_86_62.2.2.2.2.2.2.2.2.2.2.2.2.2.2.2.2.2.2.2.2.2.2.2 (by decide), rfl, rfl⟩
theorem zg_14_86_94 : zq_at zy_works_14_86.2.1 94 4 ∧ zq_at zy_works_14_86.2.1 95 182 ∧ zq_at zy_works_14_86.2.1 96 1 ∧ zq_at zy_works_14_86.2.1 97 226 ∧ zq_at zy_works_14_86.2.1 98 42 ∧ zq_at zy_works_14_86.2.1 99 4 ∧ zq_at zy_works_14_86.2.1 100 21 ∧ zq_at zy_works_14_86.2.1 101 4 ∧ zq_at zy_works_14_86.2.1 102 153 ∧ zq_at zy_works_14_86.2.1 103 0 ∧ zq_at zy_works_14_86.2.1 104 7 ∧ zq_at zy_works_14_86.2.1 109 7 ∧ zq_at zy_works_14_86.2.1 110 128 ∧ zq_at zy_works_14_86.2.1 111 182 ∧ zq_at zy_works_14_86.2.1 112 1 ∧ zq_at zy_works_14_86.2.1 113 203 ∧ zq_at zy_works_14_86.2.1 114 42 ∧ zq_at zy_works_14_86.2.1 115 89 ∧ zq_at zy_works_14_86.2.1 116 180 ∧ zq_at zy_works_14_86.2.1 117 1 ∧ zq_at zy_works_14_86.2.1 118 191 ∧ zq_at zy_works_14_86.2.1 119 4 ∧ zq_at zy_works_14_86.2.1 120 96 := by decide +kernel
theorem zd_14_86_94 : zz_D zy_works_14_86 94 (.iconst 1) 1 95 := ⟨zq_4 zg_14_86_94.1, rfl⟩
theorem zd_14_86_95 : zz_D zy_works_14_86 95 (.invokevirtual 482) 3 98 := ⟨zq_182 zg_14_86_94.2.1 zg_14_86_94.2.2.1 zg_14_86_94.2.2.2.1 rfl, rfl⟩
theorem zd_14_86_98 : zz_D zy_works_14_86 98 (.aload_n 0) 1 99 := ⟨zq_42 zg_14_86_94.2.2.2.2.1, rfl⟩
theorem zd_14_86_99 : zz_D zy_works_14_86 99 (.iconst 1) 1 100 := ⟨zq_4 zg_14_86_94.2.2.2.2.2.1, rfl⟩
theorem zd_14_86_100 : zz_D zy_works_14_86 100 (.iload 4) 2 102 := ⟨zq_21 zg_14_86_94.2.2.2.2.2.2.1 zg_14_86_94.2.2.2.2.2.2.2.1, rfl⟩
theorem zd_14_86_102 : zz_B zy_works_14_86 102 (Instr.ifCond .eq) 109 105 := ⟨7, zq_153 zg_14_86_94.2.2.2.2.2.2.2.2.1 zg_14_86_94.2.2.2.2.2.2.2.2.2.1 zg_14_86_94.2.2.2.2.2.2.2.2.2.2.1 (by decide), rfl, rfl⟩
theorem zd_14_86_109 : zz_D zy_works_14_86 109 (.iconst 4) 1 110 := ⟨zq_7 zg_14_86_94.2.2.2.2.2.2.2.2.2.2.2.1, rfl⟩
theorem zd_14_86_110 : zz_D zy_works_14_86 110 (.ior) 1 111 := ⟨zq_128 zg_14_86_94.2.2.2.2.2.2.2.2.2.2.2.2.1, rfl⟩
theorem zd_14_86_111 : zz_D zy_works_14_86 111 (.invokevirtual 459) 3 114 := ⟨zq_182 zg_14_86_94.2.2.2.2.2.2.2.2.2.2.2.2.2.1 zg_14_86_94.2.2.2.2.2.2.2.2.2.2.2.2.2.2.1 zg_14_86_94.2.2.2.2.2.2.2.2.2.2.2.2.2.2.2.1 rfl, rfl⟩
theorem zd_14_86_114 : zz_D zy_works_14_86 114 (.aload_n 0) 1 115 := ⟨zq_42 zg_14_86_94.2.2.2.2.2.2.2.2.2.2.2.2.2.2.2.2.1, rfl⟩
theorem zd_14_86_115 : zz_D zy_works_14_86 115 (.dup) 1 116 := ⟨zq_89 zg_14_86_94.2.2.2.2.2.2.2.2.2.2.2.2.2.2.2.2.2.1, rfl⟩
theorem zd_14_86_116 : zz_D zy_works_14_86 116 (.getfield 447) 3 119 := ⟨zq_180 zg_14_86_94.2.2.2.2.2.2.2.2.2.2.2.2.2.2.2.2.2.2.1 zg_14_86_94.2.2.2.2.2.2.2.2.2.2.2.2.2.2.2.2.2.2.2.1 zg_14_86_94.2.2.2.2.2.2.2.2.2.2.2.2.2.2.2.2.2.2.2.2.1 rfl, rfl⟩
theorem zd_14_86_119 : zz_D zy_works_14_86 119 (.iconst 1) 1 120 := ⟨zq_4 zg_14_86_94.2.2.2.2.2.2.2.2.2.2.2.2.2.2.2.2.2.2.2.2.2.1, rfl⟩
theorem zd_14_86_120 : zz_D zy_works_14_86 120 (.iadd) 1 121 := ⟨zq_96 zg_14_86_94.2.2.2.2.2.2.2.2.2.2.2.2.2.2.2.2.2.2.2.2.2.2, rfl⟩
theorem zg_14_86_121 : zq_at zy_works_14_86.2.1 121 181 ∧ zq_at zy_works_14_86.2.1 122 1 ∧ zq_at zy_works_14_86.2.1 123 191 ∧ zq_at zy_works_14_86.2.1 124 177 ∧ zq_at zy_works_14_86.2.1 105 3 ∧ zq_at zy_works_14_86.2.1 106 167 ∧ zq_at zy_works_14_86.2.1 107 0 ∧ zq_at zy_works_14_86.2.1 108 4 ∧ zq_at zy_works_14_86.2.1 90 5 ∧ zq_at zy_works_14_86.2.1 91 167 ∧ zq_at zy_works_14_86.2.1 92 0 ∧ zq_at zy_works_14_86.2.1 93 4 ∧ zq_at zy_works_14_86.2.1 76 3 ∧ zq_at zy_works_14_86.2.1 77 167 ∧ zq_at zy_works_14_86.2.1 78 0 ∧ zq_at zy_works_14_86.2.1 79 18 ∧ zq_at zy_works_14_86.2.1 9 42 ∧ zq_at zy_works_14_86.2.1 10 8 ∧ zq_at zy_works_14_86.2.1 11 3 ∧ zq_at zy_works_14_86.2.1 12 42 ∧ zq_at zy_works_14_86.2.1 13 180 ∧ zq_at zy_works_14_86.2.1 14 1 ∧ zq_at zy_works_14_86.2.1 15 213 ∧ zq_at zy_works_14_86.2.1 16 42 := by decide +kernel
theorem zd_14_86_121 : zz_D zy_works_14_86 121 (.putfield 447) 3 124 := ⟨zq_181 zg_14_86_121.1 zg_14_86_121.2.1 zg_14_86_121.2.2.1 rfl, rfl⟩
theorem zd_14_86_124 : zz_D zy_works_14_86 124 (.return_) 1 125 := ⟨zq_177 zg_14_86_121.2.2.2.1, rfl⟩
theorem zd_14_86_105 : zz_D zy_works_14_86 105 (.iconst 0) 1 106 := ⟨zq_3 zg_14_86_121.2.2.2.2.1, rfl⟩
theorem zd_14_86_106 : zz_B zy_works_14_86 106 Instr.goto 110 109 := ⟨4, zq_167 zg_14_86_121.2.2.2.2.2.1 zg_14_86_121.2.2.2.2.2.2.1 zg_14_86_121.2.2.2.2.2.2.2.1 (by decide), rfl, rfl⟩
theorem zd_14_86_90 : zz_D zy_works_14_86 90 (.iconst 2) 1 91 := ⟨zq_5 zg_14_86_121.2.2.2.2.2.2.2.2.1, rfl⟩
theorem zd_14_86_91 : zz_B zy_works_14_86 91 Instr.goto 95 94 := ⟨4, zq_167 zg_14_86_121.2.2.2.2.2.2.2.2.2.1 zg_14_86_121.2.2.2.2.2.2.2.2.2.2.1 zg_14_86_121.2.2.2.2.2.2.2.2.2.2.2.1 (by decide), rfl, rfl⟩
theorem zd_14_86_76 : zz_D zy_works_14_86 76 (.iconst 0) 1 77 := ⟨zq_3 zg_14_86_121.2.2.2.2.2.2.2.2.2.2.2.2.1, rfl⟩
theorem zd_14_86_77 : zz_B zy_works_14_86 77 Instr.goto 95 80 := ⟨18, zq_167 zg_14_86_121.2.2.2.2.2.2.2.2.2.2.2.2.2.1 zg_14_86_121.2.2.2.2.2.2.2.2.2.2.2.2.2.2.1 zg_14_86_121.2.2.2.2.2.2.2.2.2.2.2.2.2.2.2.1 (by decide), rfl, rfl⟩
theorem zd_14_86_9 : zz_D zy_works_14_86 9 (.aload_n 0) 1 10 := ⟨zq_42 zg_14_86_121.2.2.2.2.2.2.2.2.2.2.2.2.2.2.2.2.1, rfl⟩
theorem zd_14_86_10 : zz_D zy_works_14_86 10 (.iconst 5) 1 11 := ⟨zq_8 zg_14_86_121.2.2.2.2.2.2.2.2.2.2.2.2.2.2.2.2.2.1, rfl⟩
theorem zd_14_86_11 : zz_D zy_works_14_86 11 (.iconst 0) 1 12 := ⟨zq_3 zg_14_86_121.2.2.2.2.2.2.2.2.2.2.2.2.2.2.2.2.2.2.1, rfl⟩
theorem zd_14_86_12 : zz_D zy_works_14_86 12 (.aload_n 0) 1 13 := ⟨zq_42 zg_14_86_121.2.2.2.2.2.2.2.2.2.2.2.2.2.2.2.2.2.2.2.1, rfl⟩
theorem zd_14_86_13 : zz_D zy_works_14_86 13 (.getfield 469) 3 16 := ⟨zq_180 zg_14_86_121.2.2.2.2.2.2.2.2.2.2.2.2.2.2.2.2.2.2.2.2.1 zg_14_86_121.2.2.2.2.2.2.2.2.2.2.2.2.2.2.2.2.2.2.2.2.2.1 zg_14_86_121.2.2.2.2.2.2.2.2.2.2.2.2.2.2.2.2.2.2.2.2.2.2.1 rfl, rfl⟩
theorem zd_14_86_16 : zz_D zy_works_14_86 16 (.aload_n 0) 1 17 := ⟨zq_42 zg_14_86_121.2.2.2.2.2.2.2.2.2.2.2.2.2.2.2.2.2.2.2.2.2.2.2, rfl⟩
theorem zg_14_86_17 : zq_at zy_works_14_86.2.1 17 180 ∧ zq_at zy_works_14_86.2.1 18 1 ∧ zq_at zy_works_14_86.2.1 19 216 ∧ zq_at zy_works_14_86.2.1 20 182 ∧ zq_at zy_works_14_86.2.1 21 1 ∧ zq_at zy_works_14_86.2.1 22 219 ∧ zq_at zy_works_14_86.2.1 23 42 ∧ zq_at zy_works_14_86.2.1 24 42 ∧ zq_at zy_works_14_86.2.1 25 182 ∧ zq_at zy_works_14_86.2.1 26 1 ∧ zq_at zy_works_14_86.2.1 27 233 ∧ zq_at zy_works_14_86.2.1 28 42 ∧ zq_at zy_works_14_86.2.1 29 182 ∧ zq_at zy_works_14_86.2.1 30 1 ∧ zq_at zy_works_14_86.2.1 31 223 ∧ zq_at zy_works_14_86.2.1 32 42 ∧ zq_at zy_works_14_86.2.1 33 182 ∧ zq_at zy_works_14_86.2.1 34 1 ∧ zq_at zy_works_14_86.2.1 35 233 ∧ zq_at zy_works_14_86.2.1 36 5 ∧ zq_at zy_works_14_86.2.1 37 28 ∧ zq_at zy_works_14_86.2.1 38 104 ∧ zq_at zy_works_14_86.2.1 39 4 ∧ zq_at zy_works_14_86.2.1 40 96 := by decide +kernel
theorem zd_14_86_17 : zz_D zy_works_14_86 17 (.getfield 472) 3 20 := ⟨zq_180 zg_14_86_17.1 zg_14_86_17.2.1 zg_14_86_17.2.2.1 rfl, rfl⟩
theorem zd_14_86_20 : zz_D zy_works_14_86 20 (.invokevirtual 475) 3 23 := ⟨zq_182 zg_14_86_17.2.2.2.1 zg_14_86_17.2.2.2.2.1 zg_14_86_17.2.2.2.2.2.1 rfl, rfl⟩
theorem zd_14_86_23 : zz_D zy_works_14_86 23 (.aload_n 0) 1 24 := ⟨zq_42 zg_14_86_17.2.2.2.2.2.2.1, rfl⟩
theorem zd_14_86_24 : zz_D zy_works_14_86 24 (.aload_n 0) 1 25 := ⟨zq_42 zg_14_86_17.2.2.2.2.2.2.2.1, rfl⟩
theorem zd_14_86_25 : zz_D zy_works_14_86 25 (.invokevirtual 489) 3 28 := ⟨zq_182 zg_14_86_17.2.2.2.2.2.2.2.2.1 zg_14_86_17.2.2.2.2.2.2.2.2.2.1 zg_14_86_17.2.2.2.2.2.2.2.2.2.2.1 rfl, rfl⟩
theorem zd_14_86_28 : zz_D zy_works_14_86 28 (.aload_n 0) 1 29 := ⟨zq_42 zg_14_86_17.2.2.2.2.2.2.2.2.2.2.2.1, rfl⟩
theorem zd_14_86_29 : zz_D zy_works_14_86 29 (.invokevirtual 479) 3 32 := ⟨zq_182 zg_14_86_17.2.2.2.2.2.2.2.2.2.2.2.2.1 zg_14_86_17.2.2.2.2.2.2.2.2.2.2.2.2.2.1 zg_14_86_17.2.2.2.2.2.2.2.2.2.2.2.2.2.2.1 rfl, rfl⟩
theorem zd_14_86_32 : zz_D zy_works_14_86 32 (.aload_n 0) 1 33 := ⟨zq_42 zg_14_86_17.2.2.2.2.2.2.2.2.2.2.2.2.2.2.2.1, rfl⟩
theorem zd_14_86_33 : zz_D zy_works_14_86 33 (.invokevirtual 489) 3 36 := ⟨zq_182 zg_14_86_17.2.2.2.2.2.2.2.2.2.2.2.2.2.2.2.2.1 zg_14_86_17.2.2.2.2.2.2.2.2.2.2.2.2.2.2.2.2.2.1 zg_14_86_17.2.2.2.2.2.2.2.2.2.2.2.2.2.2.2.2.2.2.1 rfl, rfl⟩
theorem zd_14_86_36 : zz_D zy_works_14_86 36 (.iconst 2) 1 37 := ⟨zq_5 zg_14_86_17.2.2.2.2.2.2.2.2.2.2.2.2.2.2.2.2.2.2.2.1, rfl⟩
theorem zd_14_86_37 : zz_D zy_works_14_86 37 (.iload_n 2) 1 38 := ⟨zq_28 zg_14_86_17.2.2.2.2.2.2.2.2.2.2.2.2.2.2.2.2.2.2.2.2.1, rfl⟩
theorem zd_14_86_38 : zz_D zy_works_14_86 38 (.imul) 1 39 := ⟨zq_104 zg_14_86_17.2.2.2.2.2.2.2.2.2.2.2.2.2.2.2.2.2.2.2.2.2.1, rfl⟩
theorem zd_14_86_39 : zz_D zy_works_14_86 39 (.iconst 1) 1 40 := ⟨zq_4 zg_14_86_17.2.2.2.2.2.2.2.2.2.2.2.2.2.2.2.2.2.2.2.2.2.2.1, rfl⟩
theorem zd_14_86_40 : zz_D zy_works_14_86 40 (.iadd) 1 41 := ⟨zq_96 zg_14_86_17.2.2.2.2.2.2.2.2.2.2.2.2.2.2.2.2.2.2.2.2.2.2.2, rfl⟩
theorem zg_14_86_41 : zq_at zy_works_14_86.2.1 41 182 ∧ zq_at zy_works_14_86.2.1 42 1 ∧ zq_at zy_works_14_86.2.1 43 226 ∧ zq_at zy_works_14_86.2.1 44 167 ∧ zq_at zy_works_14_86.2.1 45 0 ∧ zq_at zy_works_14_86.2.1 46 54 := by decide +kernel
theorem zd_14_86_41 : zz_D zy_works_14_86 41 (.invokevirtual 482) 3 44 := ⟨zq_182 zg_14_86_41.1 zg_14_86_41.2.1 zg_14_86_41.2.2.1 rfl, rfl⟩
theorem zd_14_86_44 : zz_B zy_works_14_86 44 Instr.goto 98 47 := ⟨54, zq_167 zg_14_86_41.2.2.2.1 zg_14_86_41.2.2.2.2.1 zg_14_86_41.2.2.2.2.2 (by decide), rfl, rfl⟩
-- TensorForgeModel works (IIZZ)V
abbrev zr_works_14_86 : Room := { frames := 3, cells := 0, slots := 0, locals := 45 }
def zp_works_14_86 (p0 : Int) (p1 : Int) (p2 : Int) (p3 : Int) (S0 : zz_S) : zz_S → Prop := fun S => zz_G S ∧ zz_fr [(1079, 10), (1079, 51)] [1086, 1087] (fun _ _ => False) S0 S ∧ (S 1079 10 = S0 1079 10 + 1)
theorem zc_works_14_86 {g : mm_G} {l : Launch} (p0 : Int) (p1 : Int) (p2 : Int) (p3 : Int) (S0 : zz_S) (n : Nat) (hn : zz_end ≤ n) (G_S0 : zz_G S0) (hp0 : 0 ≤ p0 ∧ p0 ≤ 9) (hp1 : (-2147483648) ≤ p1 ∧ p1 ≤ 2147483647) (hp2 : 0 ≤ p2 ∧ p2 ≤ 1) (hp3 : 0 ≤ p3 ∧ p3 ≤ 1) (hq : S0 1079 10 ≤ 900000) : mm_Met g l zy_works_14_86 zr_works_14_86 [.ref 1079, zi p0, zi p1, zi p2, zi p3] (zz_M S0 n) n (zz_QV n (zp_works_14_86 p0 p1 p2 p3 S0)) := by
  refine zz_enter (by decide) (Nat.le_of_ble_eq_true rfl) (zz_less (ls1 := [some (.ref 1079), some (zi p0), some (zi p1), some (zi p2), some (zi p3)]) ⟨rfl, ⟨rfl, ⟨rfl, ⟨rfl, ⟨rfl, trivial⟩⟩⟩⟩⟩ ?_)
  have F_S0 : zz_fr [(1079, 10), (1079, 51)] [1086, 1087] (fun _ _ => False) S0 S0 := zz_fr.refl
  refine zz_aload_n (x := 1079) rfl zd_14_86_0 ?_
  refine zz_getr (kd := 0) (z := 1106) zd_14_86_1 zf_Md_100 zT_1079 rfl (zz_ltn hn rfl) (zz_G.eq G_S0 1079 41 1106 rfl rfl) (by decide) 1106 rfl ?_
  refine zz_iload_n (x := p0) rfl zd_14_86_4 ?_
  have g1 := zz_G.r G_S0 1106 p0.toNat 0 2 rfl rfl
  refine zz_iald (z := S0 1106 p0.toNat) zd_14_86_5 zT_1106 rfl (zz_ltn hn rfl) (by decide) (by omega) rfl ?_
  refine zz_if_ne (by omega) zd_14_86_6 (fun c2 => ?_) (fun c2 => ?_)
  · refine zz_aload_n (x := 1079) rfl zd_14_86_47 ?_
    refine zz_bipush (by decide) zd_14_86_48 ?_
    refine zz_iconst zd_14_86_50 ?_
    refine zz_aload_n (x := 1079) rfl zd_14_86_51 ?_
    have g3 := zz_G.r G_S0 1079 52 (-2147483648) 2147483647 rfl rfl
    refine zz_geti (z := S0 1079 52) zd_14_86_52 zf_Md_469 zT_1079 rfl (zz_ltn hn rfl) rfl ?_
    refine zz_aload_n (x := 1079) rfl zd_14_86_55 ?_
    have g4 := zz_G.r G_S0 1079 53 (-2147483648) 2147483647 rfl rfl
    refine zz_geti (z := S0 1079 53) zd_14_86_56 zf_Md_472 zT_1079 rfl (zz_ltn hn rfl) rfl ?_
    refine zz_callVV [zi 6, zi 0, zi (S0 1079 52), zi (S0 1079 53)] zd_14_86_59 zk_Md_475 zT_1079 (zz_ltn hn rfl) rfl rfl ⟨Nat.le_of_ble_eq_true rfl, Nat.le_of_ble_eq_true rfl⟩ ⟨rfl, rfl⟩ (Nat.zero_le _) (Nat.zero_le _) (zc_set_14_78 6 0 (S0 1079 52) (S0 1079 53) S0 n hn G_S0 (by omega) (by omega) (by omega) (by omega)) (fun S5 hP => ?_)
    obtain ⟨G_S5, fS5⟩ := hP
    have F_S5 := zz_fr.trans F_S0 fS5 rfl zz_nv
    refine zz_aload_n (x := 1079) rfl zd_14_86_62 ?_
    refine zz_aload_n (x := 1079) rfl zd_14_86_63 ?_
    refine zz_callVI [] zd_14_86_64 zk_Md_489 zT_1079 (zz_ltn hn rfl) rfl rfl ⟨Nat.le_of_ble_eq_true rfl, Nat.le_of_ble_eq_true rfl⟩ ⟨rfl, rfl⟩ (Nat.zero_le _) (Nat.zero_le _) (zc_half_14_80  S5 n hn G_S5 ) (fun v8 S7 hP => ?_)
    obtain ⟨rfl, o9⟩ := hP
    refine zz_aload_n (x := 1079) rfl zd_14_86_67 ?_
    refine zz_callVI [] zd_14_86_68 zk_Md_479 zT_1079 (zz_ltn hn rfl) rfl rfl ⟨Nat.le_of_ble_eq_true rfl, Nat.le_of_ble_eq_true rfl⟩ ⟨rfl, rfl⟩ (Nat.zero_le _) (Nat.zero_le _) (zc_quarter_14_81  S5 n hn G_S5 ) (fun v11 S10 hP => ?_)
    obtain ⟨rfl, o12⟩ := hP
    refine zz_iconst zd_14_86_71 ?_
    refine zz_iload_n (x := p2) rfl zd_14_86_72 ?_
    refine zz_if_eq (by omega) zd_14_86_73 (fun c13 => ?_) (fun c13 => ?_)
    · refine zz_aload_n (x := 1079) rfl zd_14_86_80 ?_
      refine zz_getr (kd := 0) (z := 1106) zd_14_86_81 zf_Md_100 zT_1079 rfl (zz_ltn hn rfl) (zz_G.eq G_S5 1079 41 1106 rfl rfl) (by decide) 1106 rfl ?_
      refine zz_iload_n (x := p0) rfl zd_14_86_84 ?_
      refine zz_iald (z := S0 1106 p0.toNat) zd_14_86_85 zT_1106 rfl (zz_ltn hn rfl) (by decide) (by omega) (zz_rc fS5 (zz_nc1 rfl) rfl (fun h => h) rfl) ?_
      refine zz_iconst zd_14_86_86 ?_
      refine zz_icmp_ne (by omega) (by omega) zd_14_86_87 (fun c14 => ?_) (fun c14 => ?_)
      · refine zz_iconst zd_14_86_94 ?_
        refine zz_callVV [zi v8, zi v11, zi 0, zi 1] zd_14_86_95 zk_Md_482 zT_1079 (zz_ltn hn rfl) rfl rfl ⟨Nat.le_of_ble_eq_true rfl, Nat.le_of_ble_eq_true rfl⟩ ⟨rfl, rfl⟩ (Nat.zero_le _) (Nat.zero_le _) (zc_with_14_79 v8 v11 0 1 S5 n hn G_S5 (by omega) (by omega) (by omega) (by omega)) (fun S15 hP => ?_)
        obtain ⟨G_S15, fS15⟩ := hP
        have F_S15 := zz_fr.trans F_S5 fS15 rfl zz_nv
        refine zz_aload_n (x := 1079) rfl zd_14_86_98 ?_
        refine zz_iconst zd_14_86_99 ?_
        refine zz_iload (x := p3) rfl zd_14_86_100 ?_
        refine zz_if_eq (by omega) zd_14_86_102 (fun c17 => ?_) (fun c17 => ?_)
        · refine zz_iconst zd_14_86_109 ?_
          refine zz_ior (by omega) (by omega) zd_14_86_110 (fun v18 hv18 av18 ev18 => ?_)
          have g19 := zz_G.r G_S0 1079 10 0 1000000 rfl rfl
          have e20 : S15 1079 10 = S0 1079 10 := (zz_rc fS15 rfl rfl (fun h => h) (zz_rc fS5 rfl rfl (fun h => h) rfl))
          refine zz_callVV [zi v18] zd_14_86_111 zk_Md_459 zT_1079 (zz_ltn hn rfl) rfl rfl ⟨Nat.le_of_ble_eq_true rfl, Nat.le_of_ble_eq_true rfl⟩ ⟨rfl, rfl⟩ (Nat.zero_le _) (Nat.zero_le _) (zc_emit_14_77 v18 S15 n hn G_S15 (by omega) (by omega)) (fun S21 hP => ?_)
          obtain ⟨G_S21, fS21, o23⟩ := hP
          have F_S21 := zz_fr.trans F_S15 fS21 rfl zz_nv
          refine zz_aload_n (x := 1079) rfl zd_14_86_114 ?_
          refine zz_dup rfl zd_14_86_115 ?_
          have g24 := zz_G.r G_S0 1079 51 (-2147483648) 2147483647 rfl rfl
          refine zz_geti (z := S0 1079 51) zd_14_86_116 zf_Md_447 zT_1079 rfl (zz_ltn hn rfl) (zz_rc fS21 rfl rfl (fun h => h) (zz_rc fS15 rfl rfl (fun h => h) (zz_rc fS5 rfl rfl (fun h => h) rfl))) ?_
          refine zz_iconst zd_14_86_119 ?_
          refine zz_iadd zd_14_86_120 ?_
          refine zz_nrm (fun v25 hv25 ev25 => ?_)
          clear ev25
          refine zz_puti zd_14_86_121 zf_Md_447 zT_1079 rfl (zz_ltn hn rfl) (fun S26 qS26 => ?_)
          have G_S26 := zz_G.put G_S21 qS26 (-2147483648) 2147483647 rfl (by omega)
          have F_S26 := zz_fr.puts F_S21 qS26 rfl
          have g27 := zz_G.r G_S21 1079 10 0 1000000 rfl rfl
          have e28 : S26 1079 10 = S21 1079 10 := (zz_ro qS26 (fun h => absurd h.2 (by decide)) rfl)
          exact zz_vret zd_14_86_124 rfl (Nat.zero_le _) (Nat.zero_le _) ⟨_, rfl, G_S26, F_S26, by omega⟩
        · refine zz_iconst zd_14_86_105 ?_
          refine zz_goto zd_14_86_106 ?_
          refine zz_ior (by omega) (by omega) zd_14_86_110 (fun v29 hv29 av29 ev29 => ?_)
          have g30 := zz_G.r G_S0 1079 10 0 1000000 rfl rfl
          have e31 : S15 1079 10 = S0 1079 10 := (zz_rc fS15 rfl rfl (fun h => h) (zz_rc fS5 rfl rfl (fun h => h) rfl))
          refine zz_callVV [zi v29] zd_14_86_111 zk_Md_459 zT_1079 (zz_ltn hn rfl) rfl rfl ⟨Nat.le_of_ble_eq_true rfl, Nat.le_of_ble_eq_true rfl⟩ ⟨rfl, rfl⟩ (Nat.zero_le _) (Nat.zero_le _) (zc_emit_14_77 v29 S15 n hn G_S15 (by omega) (by omega)) (fun S32 hP => ?_)
          obtain ⟨G_S32, fS32, o34⟩ := hP
          have F_S32 := zz_fr.trans F_S15 fS32 rfl zz_nv
          refine zz_aload_n (x := 1079) rfl zd_14_86_114 ?_
          refine zz_dup rfl zd_14_86_115 ?_
          have g35 := zz_G.r G_S0 1079 51 (-2147483648) 2147483647 rfl rfl
          refine zz_geti (z := S0 1079 51) zd_14_86_116 zf_Md_447 zT_1079 rfl (zz_ltn hn rfl) (zz_rc fS32 rfl rfl (fun h => h) (zz_rc fS15 rfl rfl (fun h => h) (zz_rc fS5 rfl rfl (fun h => h) rfl))) ?_
          refine zz_iconst zd_14_86_119 ?_
          refine zz_iadd zd_14_86_120 ?_
          refine zz_nrm (fun v36 hv36 ev36 => ?_)
          clear ev36
          refine zz_puti zd_14_86_121 zf_Md_447 zT_1079 rfl (zz_ltn hn rfl) (fun S37 qS37 => ?_)
          have G_S37 := zz_G.put G_S32 qS37 (-2147483648) 2147483647 rfl (by omega)
          have F_S37 := zz_fr.puts F_S32 qS37 rfl
          have g38 := zz_G.r G_S32 1079 10 0 1000000 rfl rfl
          have e39 : S37 1079 10 = S32 1079 10 := (zz_ro qS37 (fun h => absurd h.2 (by decide)) rfl)
          exact zz_vret zd_14_86_124 rfl (Nat.zero_le _) (Nat.zero_le _) ⟨_, rfl, G_S37, F_S37, by omega⟩
      · refine zz_iconst zd_14_86_90 ?_
        refine zz_goto zd_14_86_91 ?_
        refine zz_callVV [zi v8, zi v11, zi 0, zi 2] zd_14_86_95 zk_Md_482 zT_1079 (zz_ltn hn rfl) rfl rfl ⟨Nat.le_of_ble_eq_true rfl, Nat.le_of_ble_eq_true rfl⟩ ⟨rfl, rfl⟩ (Nat.zero_le _) (Nat.zero_le _) (zc_with_14_79 v8 v11 0 2 S5 n hn G_S5 (by omega) (by omega) (by omega) (by omega)) (fun S40 hP => ?_)
        obtain ⟨G_S40, fS40⟩ := hP
        have F_S40 := zz_fr.trans F_S5 fS40 rfl zz_nv
        refine zz_aload_n (x := 1079) rfl zd_14_86_98 ?_
        refine zz_iconst zd_14_86_99 ?_
        refine zz_iload (x := p3) rfl zd_14_86_100 ?_
        refine zz_if_eq (by omega) zd_14_86_102 (fun c42 => ?_) (fun c42 => ?_)
        · refine zz_iconst zd_14_86_109 ?_
          refine zz_ior (by omega) (by omega) zd_14_86_110 (fun v43 hv43 av43 ev43 => ?_)
          have g44 := zz_G.r G_S0 1079 10 0 1000000 rfl rfl
          have e45 : S40 1079 10 = S0 1079 10 := (zz_rc fS40 rfl rfl (fun h => h) (zz_rc fS5 rfl rfl (fun h => h) rfl))
          refine zz_callVV [zi v43] zd_14_86_111 zk_Md_459 zT_1079 (zz_ltn hn rfl) rfl rfl ⟨Nat.le_of_ble_eq_true rfl, Nat.le_of_ble_eq_true rfl⟩ ⟨rfl, rfl⟩ (Nat.zero_le _) (Nat.zero_le _) (zc_emit_14_77 v43 S40 n hn G_S40 (by omega) (by omega)) (fun S46 hP => ?_)
          obtain ⟨G_S46, fS46, o48⟩ := hP
          have F_S46 := zz_fr.trans F_S40 fS46 rfl zz_nv
          refine zz_aload_n (x := 1079) rfl zd_14_86_114 ?_
          refine zz_dup rfl zd_14_86_115 ?_
          have g49 := zz_G.r G_S0 1079 51 (-2147483648) 2147483647 rfl rfl
          refine zz_geti (z := S0 1079 51) zd_14_86_116 zf_Md_447 zT_1079 rfl (zz_ltn hn rfl) (zz_rc fS46 rfl rfl (fun h => h) (zz_rc fS40 rfl rfl (fun h => h) (zz_rc fS5 rfl rfl (fun h => h) rfl))) ?_
          refine zz_iconst zd_14_86_119 ?_
          refine zz_iadd zd_14_86_120 ?_
          refine zz_nrm (fun v50 hv50 ev50 => ?_)
          clear ev50
          refine zz_puti zd_14_86_121 zf_Md_447 zT_1079 rfl (zz_ltn hn rfl) (fun S51 qS51 => ?_)
          have G_S51 := zz_G.put G_S46 qS51 (-2147483648) 2147483647 rfl (by omega)
          have F_S51 := zz_fr.puts F_S46 qS51 rfl
          have g52 := zz_G.r G_S46 1079 10 0 1000000 rfl rfl
          have e53 : S51 1079 10 = S46 1079 10 := (zz_ro qS51 (fun h => absurd h.2 (by decide)) rfl)
          exact zz_vret zd_14_86_124 rfl (Nat.zero_le _) (Nat.zero_le _) ⟨_, rfl, G_S51, F_S51, by omega⟩
        · refine zz_iconst zd_14_86_105 ?_
          refine zz_goto zd_14_86_106 ?_
          refine zz_ior (by omega) (by omega) zd_14_86_110 (fun v54 hv54 av54 ev54 => ?_)
          have g55 := zz_G.r G_S0 1079 10 0 1000000 rfl rfl
          have e56 : S40 1079 10 = S0 1079 10 := (zz_rc fS40 rfl rfl (fun h => h) (zz_rc fS5 rfl rfl (fun h => h) rfl))
          refine zz_callVV [zi v54] zd_14_86_111 zk_Md_459 zT_1079 (zz_ltn hn rfl) rfl rfl ⟨Nat.le_of_ble_eq_true rfl, Nat.le_of_ble_eq_true rfl⟩ ⟨rfl, rfl⟩ (Nat.zero_le _) (Nat.zero_le _) (zc_emit_14_77 v54 S40 n hn G_S40 (by omega) (by omega)) (fun S57 hP => ?_)
          obtain ⟨G_S57, fS57, o59⟩ := hP
          have F_S57 := zz_fr.trans F_S40 fS57 rfl zz_nv
          refine zz_aload_n (x := 1079) rfl zd_14_86_114 ?_
          refine zz_dup rfl zd_14_86_115 ?_
          have g60 := zz_G.r G_S0 1079 51 (-2147483648) 2147483647 rfl rfl
          refine zz_geti (z := S0 1079 51) zd_14_86_116 zf_Md_447 zT_1079 rfl (zz_ltn hn rfl) (zz_rc fS57 rfl rfl (fun h => h) (zz_rc fS40 rfl rfl (fun h => h) (zz_rc fS5 rfl rfl (fun h => h) rfl))) ?_
          refine zz_iconst zd_14_86_119 ?_
          refine zz_iadd zd_14_86_120 ?_
          refine zz_nrm (fun v61 hv61 ev61 => ?_)
          clear ev61
          refine zz_puti zd_14_86_121 zf_Md_447 zT_1079 rfl (zz_ltn hn rfl) (fun S62 qS62 => ?_)
          have G_S62 := zz_G.put G_S57 qS62 (-2147483648) 2147483647 rfl (by omega)
          have F_S62 := zz_fr.puts F_S57 qS62 rfl
          have g63 := zz_G.r G_S57 1079 10 0 1000000 rfl rfl
          have e64 : S62 1079 10 = S57 1079 10 := (zz_ro qS62 (fun h => absurd h.2 (by decide)) rfl)
          exact zz_vret zd_14_86_124 rfl (Nat.zero_le _) (Nat.zero_le _) ⟨_, rfl, G_S62, F_S62, by omega⟩
    · refine zz_iconst zd_14_86_76 ?_
      refine zz_goto zd_14_86_77 ?_
      refine zz_callVV [zi v8, zi v11, zi 0, zi 0] zd_14_86_95 zk_Md_482 zT_1079 (zz_ltn hn rfl) rfl rfl ⟨Nat.le_of_ble_eq_true rfl, Nat.le_of_ble_eq_true rfl⟩ ⟨rfl, rfl⟩ (Nat.zero_le _) (Nat.zero_le _) (zc_with_14_79 v8 v11 0 0 S5 n hn G_S5 (by omega) (by omega) (by omega) (by omega)) (fun S65 hP => ?_)
      obtain ⟨G_S65, fS65⟩ := hP
      have F_S65 := zz_fr.trans F_S5 fS65 rfl zz_nv
      refine zz_aload_n (x := 1079) rfl zd_14_86_98 ?_
      refine zz_iconst zd_14_86_99 ?_
      refine zz_iload (x := p3) rfl zd_14_86_100 ?_
      refine zz_if_eq (by omega) zd_14_86_102 (fun c67 => ?_) (fun c67 => ?_)
      · refine zz_iconst zd_14_86_109 ?_
        refine zz_ior (by omega) (by omega) zd_14_86_110 (fun v68 hv68 av68 ev68 => ?_)
        have g69 := zz_G.r G_S0 1079 10 0 1000000 rfl rfl
        have e70 : S65 1079 10 = S0 1079 10 := (zz_rc fS65 rfl rfl (fun h => h) (zz_rc fS5 rfl rfl (fun h => h) rfl))
        refine zz_callVV [zi v68] zd_14_86_111 zk_Md_459 zT_1079 (zz_ltn hn rfl) rfl rfl ⟨Nat.le_of_ble_eq_true rfl, Nat.le_of_ble_eq_true rfl⟩ ⟨rfl, rfl⟩ (Nat.zero_le _) (Nat.zero_le _) (zc_emit_14_77 v68 S65 n hn G_S65 (by omega) (by omega)) (fun S71 hP => ?_)
        obtain ⟨G_S71, fS71, o73⟩ := hP
        have F_S71 := zz_fr.trans F_S65 fS71 rfl zz_nv
        refine zz_aload_n (x := 1079) rfl zd_14_86_114 ?_
        refine zz_dup rfl zd_14_86_115 ?_
        have g74 := zz_G.r G_S0 1079 51 (-2147483648) 2147483647 rfl rfl
        refine zz_geti (z := S0 1079 51) zd_14_86_116 zf_Md_447 zT_1079 rfl (zz_ltn hn rfl) (zz_rc fS71 rfl rfl (fun h => h) (zz_rc fS65 rfl rfl (fun h => h) (zz_rc fS5 rfl rfl (fun h => h) rfl))) ?_
        refine zz_iconst zd_14_86_119 ?_
        refine zz_iadd zd_14_86_120 ?_
        refine zz_nrm (fun v75 hv75 ev75 => ?_)
        clear ev75
        refine zz_puti zd_14_86_121 zf_Md_447 zT_1079 rfl (zz_ltn hn rfl) (fun S76 qS76 => ?_)
        have G_S76 := zz_G.put G_S71 qS76 (-2147483648) 2147483647 rfl (by omega)
        have F_S76 := zz_fr.puts F_S71 qS76 rfl
        have g77 := zz_G.r G_S71 1079 10 0 1000000 rfl rfl
        have e78 : S76 1079 10 = S71 1079 10 := (zz_ro qS76 (fun h => absurd h.2 (by decide)) rfl)
        exact zz_vret zd_14_86_124 rfl (Nat.zero_le _) (Nat.zero_le _) ⟨_, rfl, G_S76, F_S76, by omega⟩
      · refine zz_iconst zd_14_86_105 ?_
        refine zz_goto zd_14_86_106 ?_
        refine zz_ior (by omega) (by omega) zd_14_86_110 (fun v79 hv79 av79 ev79 => ?_)
        have g80 := zz_G.r G_S0 1079 10 0 1000000 rfl rfl
        have e81 : S65 1079 10 = S0 1079 10 := (zz_rc fS65 rfl rfl (fun h => h) (zz_rc fS5 rfl rfl (fun h => h) rfl))
        refine zz_callVV [zi v79] zd_14_86_111 zk_Md_459 zT_1079 (zz_ltn hn rfl) rfl rfl ⟨Nat.le_of_ble_eq_true rfl, Nat.le_of_ble_eq_true rfl⟩ ⟨rfl, rfl⟩ (Nat.zero_le _) (Nat.zero_le _) (zc_emit_14_77 v79 S65 n hn G_S65 (by omega) (by omega)) (fun S82 hP => ?_)
        obtain ⟨G_S82, fS82, o84⟩ := hP
        have F_S82 := zz_fr.trans F_S65 fS82 rfl zz_nv
        refine zz_aload_n (x := 1079) rfl zd_14_86_114 ?_
        refine zz_dup rfl zd_14_86_115 ?_
        have g85 := zz_G.r G_S0 1079 51 (-2147483648) 2147483647 rfl rfl
        refine zz_geti (z := S0 1079 51) zd_14_86_116 zf_Md_447 zT_1079 rfl (zz_ltn hn rfl) (zz_rc fS82 rfl rfl (fun h => h) (zz_rc fS65 rfl rfl (fun h => h) (zz_rc fS5 rfl rfl (fun h => h) rfl))) ?_
        refine zz_iconst zd_14_86_119 ?_
        refine zz_iadd zd_14_86_120 ?_
        refine zz_nrm (fun v86 hv86 ev86 => ?_)
        clear ev86
        refine zz_puti zd_14_86_121 zf_Md_447 zT_1079 rfl (zz_ltn hn rfl) (fun S87 qS87 => ?_)
        have G_S87 := zz_G.put G_S82 qS87 (-2147483648) 2147483647 rfl (by omega)
        have F_S87 := zz_fr.puts F_S82 qS87 rfl
        have g88 := zz_G.r G_S82 1079 10 0 1000000 rfl rfl
        have e89 : S87 1079 10 = S82 1079 10 := (zz_ro qS87 (fun h => absurd h.2 (by decide)) rfl)
        exact zz_vret zd_14_86_124 rfl (Nat.zero_le _) (Nat.zero_le _) ⟨_, rfl, G_S87, F_S87, by omega⟩
  · refine zz_aload_n (x := 1079) rfl zd_14_86_9 ?_
    refine zz_iconst zd_14_86_10 ?_
    refine zz_iconst zd_14_86_11 ?_
    refine zz_aload_n (x := 1079) rfl zd_14_86_12 ?_
    have g90 := zz_G.r G_S0 1079 52 (-2147483648) 2147483647 rfl rfl
    refine zz_geti (z := S0 1079 52) zd_14_86_13 zf_Md_469 zT_1079 rfl (zz_ltn hn rfl) rfl ?_
    refine zz_aload_n (x := 1079) rfl zd_14_86_16 ?_
    have g91 := zz_G.r G_S0 1079 53 (-2147483648) 2147483647 rfl rfl
    refine zz_geti (z := S0 1079 53) zd_14_86_17 zf_Md_472 zT_1079 rfl (zz_ltn hn rfl) rfl ?_
    refine zz_callVV [zi 5, zi 0, zi (S0 1079 52), zi (S0 1079 53)] zd_14_86_20 zk_Md_475 zT_1079 (zz_ltn hn rfl) rfl rfl ⟨Nat.le_of_ble_eq_true rfl, Nat.le_of_ble_eq_true rfl⟩ ⟨rfl, rfl⟩ (Nat.zero_le _) (Nat.zero_le _) (zc_set_14_78 5 0 (S0 1079 52) (S0 1079 53) S0 n hn G_S0 (by omega) (by omega) (by omega) (by omega)) (fun S92 hP => ?_)
    obtain ⟨G_S92, fS92⟩ := hP
    have F_S92 := zz_fr.trans F_S0 fS92 rfl zz_nv
    refine zz_aload_n (x := 1079) rfl zd_14_86_23 ?_
    refine zz_aload_n (x := 1079) rfl zd_14_86_24 ?_
    refine zz_callVI [] zd_14_86_25 zk_Md_489 zT_1079 (zz_ltn hn rfl) rfl rfl ⟨Nat.le_of_ble_eq_true rfl, Nat.le_of_ble_eq_true rfl⟩ ⟨rfl, rfl⟩ (Nat.zero_le _) (Nat.zero_le _) (zc_half_14_80  S92 n hn G_S92 ) (fun v95 S94 hP => ?_)
    obtain ⟨rfl, o96⟩ := hP
    refine zz_aload_n (x := 1079) rfl zd_14_86_28 ?_
    refine zz_callVI [] zd_14_86_29 zk_Md_479 zT_1079 (zz_ltn hn rfl) rfl rfl ⟨Nat.le_of_ble_eq_true rfl, Nat.le_of_ble_eq_true rfl⟩ ⟨rfl, rfl⟩ (Nat.zero_le _) (Nat.zero_le _) (zc_quarter_14_81  S92 n hn G_S92 ) (fun v98 S97 hP => ?_)
    obtain ⟨rfl, o99⟩ := hP
    refine zz_aload_n (x := 1079) rfl zd_14_86_32 ?_
    refine zz_callVI [] zd_14_86_33 zk_Md_489 zT_1079 (zz_ltn hn rfl) rfl rfl ⟨Nat.le_of_ble_eq_true rfl, Nat.le_of_ble_eq_true rfl⟩ ⟨rfl, rfl⟩ (Nat.zero_le _) (Nat.zero_le _) (zc_half_14_80  S92 n hn G_S92 ) (fun v101 S100 hP => ?_)
    obtain ⟨rfl, o102⟩ := hP
    refine zz_iconst zd_14_86_36 ?_
    refine zz_iload_n (x := p1) rfl zd_14_86_37 ?_
    refine zz_imul zd_14_86_38 ?_
    refine zz_nrm (fun v103 hv103 ev103 => ?_)
    clear ev103
    refine zz_iconst zd_14_86_39 ?_
    refine zz_iadd zd_14_86_40 ?_
    refine zz_nrm (fun v104 hv104 ev104 => ?_)
    clear ev104
    refine zz_callVV [zi v95, zi v98, zi v101, zi v104] zd_14_86_41 zk_Md_482 zT_1079 (zz_ltn hn rfl) rfl rfl ⟨Nat.le_of_ble_eq_true rfl, Nat.le_of_ble_eq_true rfl⟩ ⟨rfl, rfl⟩ (Nat.zero_le _) (Nat.zero_le _) (zc_with_14_79 v95 v98 v101 v104 S92 n hn G_S92 (by omega) (by omega) (by omega) (by omega)) (fun S105 hP => ?_)
    obtain ⟨G_S105, fS105⟩ := hP
    have F_S105 := zz_fr.trans F_S92 fS105 rfl zz_nv
    refine zz_goto zd_14_86_44 ?_
    refine zz_aload_n (x := 1079) rfl zd_14_86_98 ?_
    refine zz_iconst zd_14_86_99 ?_
    refine zz_iload (x := p3) rfl zd_14_86_100 ?_
    refine zz_if_eq (by omega) zd_14_86_102 (fun c107 => ?_) (fun c107 => ?_)
    · refine zz_iconst zd_14_86_109 ?_
      refine zz_ior (by omega) (by omega) zd_14_86_110 (fun v108 hv108 av108 ev108 => ?_)
      have g109 := zz_G.r G_S0 1079 10 0 1000000 rfl rfl
      have e110 : S105 1079 10 = S0 1079 10 := (zz_rc fS105 rfl rfl (fun h => h) (zz_rc fS92 rfl rfl (fun h => h) rfl))
      refine zz_callVV [zi v108] zd_14_86_111 zk_Md_459 zT_1079 (zz_ltn hn rfl) rfl rfl ⟨Nat.le_of_ble_eq_true rfl, Nat.le_of_ble_eq_true rfl⟩ ⟨rfl, rfl⟩ (Nat.zero_le _) (Nat.zero_le _) (zc_emit_14_77 v108 S105 n hn G_S105 (by omega) (by omega)) (fun S111 hP => ?_)
      obtain ⟨G_S111, fS111, o113⟩ := hP
      have F_S111 := zz_fr.trans F_S105 fS111 rfl zz_nv
      refine zz_aload_n (x := 1079) rfl zd_14_86_114 ?_
      refine zz_dup rfl zd_14_86_115 ?_
      have g114 := zz_G.r G_S0 1079 51 (-2147483648) 2147483647 rfl rfl
      refine zz_geti (z := S0 1079 51) zd_14_86_116 zf_Md_447 zT_1079 rfl (zz_ltn hn rfl) (zz_rc fS111 rfl rfl (fun h => h) (zz_rc fS105 rfl rfl (fun h => h) (zz_rc fS92 rfl rfl (fun h => h) rfl))) ?_
      refine zz_iconst zd_14_86_119 ?_
      refine zz_iadd zd_14_86_120 ?_
      refine zz_nrm (fun v115 hv115 ev115 => ?_)
      clear ev115
      refine zz_puti zd_14_86_121 zf_Md_447 zT_1079 rfl (zz_ltn hn rfl) (fun S116 qS116 => ?_)
      have G_S116 := zz_G.put G_S111 qS116 (-2147483648) 2147483647 rfl (by omega)
      have F_S116 := zz_fr.puts F_S111 qS116 rfl
      have g117 := zz_G.r G_S111 1079 10 0 1000000 rfl rfl
      have e118 : S116 1079 10 = S111 1079 10 := (zz_ro qS116 (fun h => absurd h.2 (by decide)) rfl)
      exact zz_vret zd_14_86_124 rfl (Nat.zero_le _) (Nat.zero_le _) ⟨_, rfl, G_S116, F_S116, by omega⟩
    · refine zz_iconst zd_14_86_105 ?_
      refine zz_goto zd_14_86_106 ?_
      refine zz_ior (by omega) (by omega) zd_14_86_110 (fun v119 hv119 av119 ev119 => ?_)
      have g120 := zz_G.r G_S0 1079 10 0 1000000 rfl rfl
      have e121 : S105 1079 10 = S0 1079 10 := (zz_rc fS105 rfl rfl (fun h => h) (zz_rc fS92 rfl rfl (fun h => h) rfl))
      refine zz_callVV [zi v119] zd_14_86_111 zk_Md_459 zT_1079 (zz_ltn hn rfl) rfl rfl ⟨Nat.le_of_ble_eq_true rfl, Nat.le_of_ble_eq_true rfl⟩ ⟨rfl, rfl⟩ (Nat.zero_le _) (Nat.zero_le _) (zc_emit_14_77 v119 S105 n hn G_S105 (by omega) (by omega)) (fun S122 hP => ?_)
      obtain ⟨G_S122, fS122, o124⟩ := hP
      have F_S122 := zz_fr.trans F_S105 fS122 rfl zz_nv
      refine zz_aload_n (x := 1079) rfl zd_14_86_114 ?_
      refine zz_dup rfl zd_14_86_115 ?_
      have g125 := zz_G.r G_S0 1079 51 (-2147483648) 2147483647 rfl rfl
      refine zz_geti (z := S0 1079 51) zd_14_86_116 zf_Md_447 zT_1079 rfl (zz_ltn hn rfl) (zz_rc fS122 rfl rfl (fun h => h) (zz_rc fS105 rfl rfl (fun h => h) (zz_rc fS92 rfl rfl (fun h => h) rfl))) ?_
      refine zz_iconst zd_14_86_119 ?_
      refine zz_iadd zd_14_86_120 ?_
      refine zz_nrm (fun v126 hv126 ev126 => ?_)
      clear ev126
      refine zz_puti zd_14_86_121 zf_Md_447 zT_1079 rfl (zz_ltn hn rfl) (fun S127 qS127 => ?_)
      have G_S127 := zz_G.put G_S122 qS127 (-2147483648) 2147483647 rfl (by omega)
      have F_S127 := zz_fr.puts F_S122 qS127 rfl
      have g128 := zz_G.r G_S122 1079 10 0 1000000 rfl rfl
      have e129 : S127 1079 10 = S122 1079 10 := (zz_ro qS127 (fun h => absurd h.2 (by decide)) rfl)
      exact zz_vret zd_14_86_124 rfl (Nat.zero_le _) (Nat.zero_le _) ⟨_, rfl, G_S127, F_S127, by omega⟩
theorem zz_pos2 {a b k : Int} (h0 : 0 ≤ k) (h : k < a * b) (ha : 0 ≤ a) (hb : 0 ≤ b) : 1 ≤ a ∧ 1 ≤ b := by
  refine ⟨?_, ?_⟩
  · rcases Int.lt_or_le 0 a with q | q
    · omega
    · have : a = 0 := by omega
      rw [this, Int.zero_mul] at h
      omega
  · rcases Int.lt_or_le 0 b with q | q
    · omega
    · have : b = 0 := by omega
      rw [this, Int.mul_zero] at h
      omega
abbrev zy_tile_14_87 : mm_Y := (⟨"TensorForgeModel", "tile", "(I)V"⟩, prog_14_method_87_code, 9, none)
theorem zyw_tile_14_87 : mm_Yw zy_tile_14_87 1 := ⟨mm_tb_1 2147 (by decide +kernel) rfl, mm_tb_1 12 (by decide +kernel) rfl, ⟨by decide, by decide⟩, by decide +kernel⟩
theorem zk_Md_506 : mm_Sl "TensorForgeModel" 506 2 zy_least_14_85 := ⟨zyw_least_14_85, mm_tb_1 2141 (by decide +kernel) rfl, mm_tb_1 2142 (by decide +kernel) rfl⟩
theorem zk_Md_498 : mm_Vl "TensorForgeModel" 498 11 6 zy_group_14_83 := ⟨zyw_group_14_83, (R_Md, F_Md, 69), rfl, mm_tb_1 2148 (by decide +kernel) rfl, mm_tb_1 2150 (by decide +kernel) rfl, mm_tb_s 129 (by decide +kernel) rfl⟩
theorem zk_Md_502 : mm_Vl "TensorForgeModel" 502 11 4 zy_works_14_86 := ⟨zyw_works_14_86, (R_Md, F_Md, 69), rfl, mm_tb_1 2180 (by decide +kernel) rfl, mm_tb_1 2182 (by decide +kernel) rfl, mm_tb_s 137 (by decide +kernel) rfl⟩
theorem zg_14_87_0 : zq_at zy_tile_14_87.2.1 0 42 ∧ zq_at zy_tile_14_87.2.1 1 180 ∧ zq_at zy_tile_14_87.2.1 2 0 ∧ zq_at zy_tile_14_87.2.1 3 103 ∧ zq_at zy_tile_14_87.2.1 4 27 ∧ zq_at zy_tile_14_87.2.1 5 46 ∧ zq_at zy_tile_14_87.2.1 6 61 ∧ zq_at zy_tile_14_87.2.1 7 42 ∧ zq_at zy_tile_14_87.2.1 8 180 ∧ zq_at zy_tile_14_87.2.1 9 0 ∧ zq_at zy_tile_14_87.2.1 10 100 ∧ zq_at zy_tile_14_87.2.1 11 27 ∧ zq_at zy_tile_14_87.2.1 12 46 ∧ zq_at zy_tile_14_87.2.1 13 5 ∧ zq_at zy_tile_14_87.2.1 14 160 ∧ zq_at zy_tile_14_87.2.1 15 0 ∧ zq_at zy_tile_14_87.2.1 16 71 ∧ zq_at zy_tile_14_87.2.1 85 42 ∧ zq_at zy_tile_14_87.2.1 86 180 ∧ zq_at zy_tile_14_87.2.1 87 0 ∧ zq_at zy_tile_14_87.2.1 88 100 ∧ zq_at zy_tile_14_87.2.1 89 27 ∧ zq_at zy_tile_14_87.2.1 90 46 ∧ zq_at zy_tile_14_87.2.1 91 4 := by decide +kernel
theorem zd_14_87_0 : zz_D zy_tile_14_87 0 (.aload_n 0) 1 1 := ⟨zq_42 zg_14_87_0.1, rfl⟩
theorem zd_14_87_1 : zz_D zy_tile_14_87 1 (.getfield 103) 3 4 := ⟨zq_180 zg_14_87_0.2.1 zg_14_87_0.2.2.1 zg_14_87_0.2.2.2.1 rfl, rfl⟩
theorem zd_14_87_4 : zz_D zy_tile_14_87 4 (.iload_n 1) 1 5 := ⟨zq_27 zg_14_87_0.2.2.2.2.1, rfl⟩
theorem zd_14_87_5 : zz_D zy_tile_14_87 5 (.iaload) 1 6 := ⟨zq_46 zg_14_87_0.2.2.2.2.2.1, rfl⟩
theorem zd_14_87_6 : zz_D zy_tile_14_87 6 (.istore_n 2) 1 7 := ⟨zq_61 zg_14_87_0.2.2.2.2.2.2.1, rfl⟩
theorem zd_14_87_7 : zz_D zy_tile_14_87 7 (.aload_n 0) 1 8 := ⟨zq_42 zg_14_87_0.2.2.2.2.2.2.2.1, rfl⟩
theorem zd_14_87_8 : zz_D zy_tile_14_87 8 (.getfield 100) 3 11 := ⟨zq_180 zg_14_87_0.2.2.2.2.2.2.2.2.1 zg_14_87_0.2.2.2.2.2.2.2.2.2.1 zg_14_87_0.2.2.2.2.2.2.2.2.2.2.1 rfl, rfl⟩
theorem zd_14_87_11 : zz_D zy_tile_14_87 11 (.iload_n 1) 1 12 := ⟨zq_27 zg_14_87_0.2.2.2.2.2.2.2.2.2.2.2.1, rfl⟩
theorem zd_14_87_12 : zz_D zy_tile_14_87 12 (.iaload) 1 13 := ⟨zq_46 zg_14_87_0.2.2.2.2.2.2.2.2.2.2.2.2.1, rfl⟩
theorem zd_14_87_13 : zz_D zy_tile_14_87 13 (.iconst 2) 1 14 := ⟨zq_5 zg_14_87_0.2.2.2.2.2.2.2.2.2.2.2.2.2.1, rfl⟩
theorem zd_14_87_14 : zz_B zy_tile_14_87 14 (Instr.if_icmp .ne) 85 17 := ⟨71, zq_160 zg_14_87_0.2.2.2.2.2.2.2.2.2.2.2.2.2.2.1 zg_14_87_0.2.2.2.2.2.2.2.2.2.2.2.2.2.2.2.1 zg_14_87_0.2.2.2.2.2.2.2.2.2.2.2.2.2.2.2.2.1 (by decide), rfl, rfl⟩
theorem zd_14_87_85 : zz_D zy_tile_14_87 85 (.aload_n 0) 1 86 := ⟨zq_42 zg_14_87_0.2.2.2.2.2.2.2.2.2.2.2.2.2.2.2.2.2.1, rfl⟩
theorem zd_14_87_86 : zz_D zy_tile_14_87 86 (.getfield 100) 3 89 := ⟨zq_180 zg_14_87_0.2.2.2.2.2.2.2.2.2.2.2.2.2.2.2.2.2.2.1 zg_14_87_0.2.2.2.2.2.2.2.2.2.2.2.2.2.2.2.2.2.2.2.1 zg_14_87_0.2.2.2.2.2.2.2.2.2.2.2.2.2.2.2.2.2.2.2.2.1 rfl, rfl⟩
theorem zd_14_87_89 : zz_D zy_tile_14_87 89 (.iload_n 1) 1 90 := ⟨zq_27 zg_14_87_0.2.2.2.2.2.2.2.2.2.2.2.2.2.2.2.2.2.2.2.2.2.1, rfl⟩
theorem zd_14_87_90 : zz_D zy_tile_14_87 90 (.iaload) 1 91 := ⟨zq_46 zg_14_87_0.2.2.2.2.2.2.2.2.2.2.2.2.2.2.2.2.2.2.2.2.2.2.1, rfl⟩
theorem zd_14_87_91 : zz_D zy_tile_14_87 91 (.iconst 1) 1 92 := ⟨zq_4 zg_14_87_0.2.2.2.2.2.2.2.2.2.2.2.2.2.2.2.2.2.2.2.2.2.2.2, rfl⟩
theorem zg_14_87_92 : zq_at zy_tile_14_87.2.1 92 160 ∧ zq_at zy_tile_14_87.2.1 93 0 ∧ zq_at zy_tile_14_87.2.1 94 7 ∧ zq_at zy_tile_14_87.2.1 99 3 ∧ zq_at zy_tile_14_87.2.1 100 62 ∧ zq_at zy_tile_14_87.2.1 101 42 ∧ zq_at zy_tile_14_87.2.1 102 180 ∧ zq_at zy_tile_14_87.2.1 103 0 ∧ zq_at zy_tile_14_87.2.1 104 109 ∧ zq_at zy_tile_14_87.2.1 105 27 ∧ zq_at zy_tile_14_87.2.1 106 46 ∧ zq_at zy_tile_14_87.2.1 107 42 ∧ zq_at zy_tile_14_87.2.1 108 180 ∧ zq_at zy_tile_14_87.2.1 109 0 ∧ zq_at zy_tile_14_87.2.1 110 112 ∧ zq_at zy_tile_14_87.2.1 111 27 ∧ zq_at zy_tile_14_87.2.1 112 46 ∧ zq_at zy_tile_14_87.2.1 113 104 ∧ zq_at zy_tile_14_87.2.1 114 54 ∧ zq_at zy_tile_14_87.2.1 115 4 ∧ zq_at zy_tile_14_87.2.1 116 29 ∧ zq_at zy_tile_14_87.2.1 117 153 ∧ zq_at zy_tile_14_87.2.1 118 0 ∧ zq_at zy_tile_14_87.2.1 119 7 := by decide +kernel
theorem zd_14_87_92 : zz_B zy_tile_14_87 92 (Instr.if_icmp .ne) 99 95 := ⟨7, zq_160 zg_14_87_92.1 zg_14_87_92.2.1 zg_14_87_92.2.2.1 (by decide), rfl, rfl⟩
theorem zd_14_87_99 : zz_D zy_tile_14_87 99 (.iconst 0) 1 100 := ⟨zq_3 zg_14_87_92.2.2.2.1, rfl⟩
theorem zd_14_87_100 : zz_D zy_tile_14_87 100 (.istore_n 3) 1 101 := ⟨zq_62 zg_14_87_92.2.2.2.2.1, rfl⟩
theorem zd_14_87_101 : zz_D zy_tile_14_87 101 (.aload_n 0) 1 102 := ⟨zq_42 zg_14_87_92.2.2.2.2.2.1, rfl⟩
theorem zd_14_87_102 : zz_D zy_tile_14_87 102 (.getfield 109) 3 105 := ⟨zq_180 zg_14_87_92.2.2.2.2.2.2.1 zg_14_87_92.2.2.2.2.2.2.2.1 zg_14_87_92.2.2.2.2.2.2.2.2.1 rfl, rfl⟩
theorem zd_14_87_105 : zz_D zy_tile_14_87 105 (.iload_n 1) 1 106 := ⟨zq_27 zg_14_87_92.2.2.2.2.2.2.2.2.2.1, rfl⟩
theorem zd_14_87_106 : zz_D zy_tile_14_87 106 (.iaload) 1 107 := ⟨zq_46 zg_14_87_92.2.2.2.2.2.2.2.2.2.2.1, rfl⟩
theorem zd_14_87_107 : zz_D zy_tile_14_87 107 (.aload_n 0) 1 108 := ⟨zq_42 zg_14_87_92.2.2.2.2.2.2.2.2.2.2.2.1, rfl⟩
theorem zd_14_87_108 : zz_D zy_tile_14_87 108 (.getfield 112) 3 111 := ⟨zq_180 zg_14_87_92.2.2.2.2.2.2.2.2.2.2.2.2.1 zg_14_87_92.2.2.2.2.2.2.2.2.2.2.2.2.2.1 zg_14_87_92.2.2.2.2.2.2.2.2.2.2.2.2.2.2.1 rfl, rfl⟩
theorem zd_14_87_111 : zz_D zy_tile_14_87 111 (.iload_n 1) 1 112 := ⟨zq_27 zg_14_87_92.2.2.2.2.2.2.2.2.2.2.2.2.2.2.2.1, rfl⟩
theorem zd_14_87_112 : zz_D zy_tile_14_87 112 (.iaload) 1 113 := ⟨zq_46 zg_14_87_92.2.2.2.2.2.2.2.2.2.2.2.2.2.2.2.2.1, rfl⟩
theorem zd_14_87_113 : zz_D zy_tile_14_87 113 (.imul) 1 114 := ⟨zq_104 zg_14_87_92.2.2.2.2.2.2.2.2.2.2.2.2.2.2.2.2.2.1, rfl⟩
theorem zd_14_87_114 : zz_D zy_tile_14_87 114 (.istore 4) 2 116 := ⟨zq_54 zg_14_87_92.2.2.2.2.2.2.2.2.2.2.2.2.2.2.2.2.2.2.1 zg_14_87_92.2.2.2.2.2.2.2.2.2.2.2.2.2.2.2.2.2.2.2.1, rfl⟩
theorem zd_14_87_116 : zz_D zy_tile_14_87 116 (.iload_n 3) 1 117 := ⟨zq_29 zg_14_87_92.2.2.2.2.2.2.2.2.2.2.2.2.2.2.2.2.2.2.2.2.1, rfl⟩
theorem zd_14_87_117 : zz_B zy_tile_14_87 117 (Instr.ifCond .eq) 124 120 := ⟨7, zq_153 zg_14_87_92.2.2.2.2.2.2.2.2.2.2.2.2.2.2.2.2.2.2.2.2.2.1 zg_14_87_92.2.2.2.2.2.2.2.2.2.2.2.2.2.2.2.2.2.2.2.2.2.2.1 zg_14_87_92.2.2.2.2.2.2.2.2.2.2.2.2.2.2.2.2.2.2.2.2.2.2.2 (by decide), rfl, rfl⟩
theorem zg_14_87_124 : zq_at zy_tile_14_87.2.1 124 42 ∧ zq_at zy_tile_14_87.2.1 125 180 ∧ zq_at zy_tile_14_87.2.1 126 0 ∧ zq_at zy_tile_14_87.2.1 127 94 ∧ zq_at zy_tile_14_87.2.1 128 28 ∧ zq_at zy_tile_14_87.2.1 129 46 ∧ zq_at zy_tile_14_87.2.1 130 42 ∧ zq_at zy_tile_14_87.2.1 131 180 ∧ zq_at zy_tile_14_87.2.1 132 0 ∧ zq_at zy_tile_14_87.2.1 133 7 ∧ zq_at zy_tile_14_87.2.1 134 96 ∧ zq_at zy_tile_14_87.2.1 135 4 ∧ zq_at zy_tile_14_87.2.1 136 100 ∧ zq_at zy_tile_14_87.2.1 137 42 ∧ zq_at zy_tile_14_87.2.1 138 180 ∧ zq_at zy_tile_14_87.2.1 139 0 ∧ zq_at zy_tile_14_87.2.1 140 7 ∧ zq_at zy_tile_14_87.2.1 141 108 ∧ zq_at zy_tile_14_87.2.1 142 54 ∧ zq_at zy_tile_14_87.2.1 143 5 ∧ zq_at zy_tile_14_87.2.1 144 3 ∧ zq_at zy_tile_14_87.2.1 145 54 ∧ zq_at zy_tile_14_87.2.1 146 6 ∧ zq_at zy_tile_14_87.2.1 95 4 := by decide +kernel
theorem zd_14_87_124 : zz_D zy_tile_14_87 124 (.aload_n 0) 1 125 := ⟨zq_42 zg_14_87_124.1, rfl⟩
theorem zd_14_87_125 : zz_D zy_tile_14_87 125 (.getfield 94) 3 128 := ⟨zq_180 zg_14_87_124.2.1 zg_14_87_124.2.2.1 zg_14_87_124.2.2.2.1 rfl, rfl⟩
theorem zd_14_87_128 : zz_D zy_tile_14_87 128 (.iload_n 2) 1 129 := ⟨zq_28 zg_14_87_124.2.2.2.2.1, rfl⟩
theorem zd_14_87_129 : zz_D zy_tile_14_87 129 (.iaload) 1 130 := ⟨zq_46 zg_14_87_124.2.2.2.2.2.1, rfl⟩
theorem zd_14_87_130 : zz_D zy_tile_14_87 130 (.aload_n 0) 1 131 := ⟨zq_42 zg_14_87_124.2.2.2.2.2.2.1, rfl⟩
theorem zd_14_87_131 : zz_D zy_tile_14_87 131 (.getfield 7) 3 134 := ⟨zq_180 zg_14_87_124.2.2.2.2.2.2.2.1 zg_14_87_124.2.2.2.2.2.2.2.2.1 zg_14_87_124.2.2.2.2.2.2.2.2.2.1 rfl, rfl⟩
theorem zd_14_87_134 : zz_D zy_tile_14_87 134 (.iadd) 1 135 := ⟨zq_96 zg_14_87_124.2.2.2.2.2.2.2.2.2.2.1, rfl⟩
theorem zd_14_87_135 : zz_D zy_tile_14_87 135 (.iconst 1) 1 136 := ⟨zq_4 zg_14_87_124.2.2.2.2.2.2.2.2.2.2.2.1, rfl⟩
theorem zd_14_87_136 : zz_D zy_tile_14_87 136 (.isub) 1 137 := ⟨zq_100 zg_14_87_124.2.2.2.2.2.2.2.2.2.2.2.2.1, rfl⟩
theorem zd_14_87_137 : zz_D zy_tile_14_87 137 (.aload_n 0) 1 138 := ⟨zq_42 zg_14_87_124.2.2.2.2.2.2.2.2.2.2.2.2.2.1, rfl⟩
theorem zd_14_87_138 : zz_D zy_tile_14_87 138 (.getfield 7) 3 141 := ⟨zq_180 zg_14_87_124.2.2.2.2.2.2.2.2.2.2.2.2.2.2.1 zg_14_87_124.2.2.2.2.2.2.2.2.2.2.2.2.2.2.2.1 zg_14_87_124.2.2.2.2.2.2.2.2.2.2.2.2.2.2.2.2.1 rfl, rfl⟩
theorem zd_14_87_141 : zz_D zy_tile_14_87 141 (.idiv) 1 142 := ⟨zq_108 zg_14_87_124.2.2.2.2.2.2.2.2.2.2.2.2.2.2.2.2.2.1, rfl⟩
theorem zd_14_87_142 : zz_D zy_tile_14_87 142 (.istore 5) 2 144 := ⟨zq_54 zg_14_87_124.2.2.2.2.2.2.2.2.2.2.2.2.2.2.2.2.2.2.1 zg_14_87_124.2.2.2.2.2.2.2.2.2.2.2.2.2.2.2.2.2.2.2.1, rfl⟩
theorem zd_14_87_144 : zz_D zy_tile_14_87 144 (.iconst 0) 1 145 := ⟨zq_3 zg_14_87_124.2.2.2.2.2.2.2.2.2.2.2.2.2.2.2.2.2.2.2.2.1, rfl⟩
theorem zd_14_87_145 : zz_D zy_tile_14_87 145 (.istore 6) 2 147 := ⟨zq_54 zg_14_87_124.2.2.2.2.2.2.2.2.2.2.2.2.2.2.2.2.2.2.2.2.2.1 zg_14_87_124.2.2.2.2.2.2.2.2.2.2.2.2.2.2.2.2.2.2.2.2.2.2.1, rfl⟩
theorem zd_14_87_95 : zz_D zy_tile_14_87 95 (.iconst 1) 1 96 := ⟨zq_4 zg_14_87_124.2.2.2.2.2.2.2.2.2.2.2.2.2.2.2.2.2.2.2.2.2.2.2, rfl⟩
theorem zg_14_87_96 : zq_at zy_tile_14_87.2.1 96 167 ∧ zq_at zy_tile_14_87.2.1 97 0 ∧ zq_at zy_tile_14_87.2.1 98 4 ∧ zq_at zy_tile_14_87.2.1 120 4 ∧ zq_at zy_tile_14_87.2.1 121 167 ∧ zq_at zy_tile_14_87.2.1 122 0 ∧ zq_at zy_tile_14_87.2.1 123 21 ∧ zq_at zy_tile_14_87.2.1 17 3 ∧ zq_at zy_tile_14_87.2.1 18 62 ∧ zq_at zy_tile_14_87.2.1 147 21 ∧ zq_at zy_tile_14_87.2.1 148 6 ∧ zq_at zy_tile_14_87.2.1 149 21 ∧ zq_at zy_tile_14_87.2.1 150 4 ∧ zq_at zy_tile_14_87.2.1 151 21 ∧ zq_at zy_tile_14_87.2.1 152 5 ∧ zq_at zy_tile_14_87.2.1 153 104 ∧ zq_at zy_tile_14_87.2.1 154 162 ∧ zq_at zy_tile_14_87.2.1 155 0 ∧ zq_at zy_tile_14_87.2.1 156 138 ∧ zq_at zy_tile_14_87.2.1 157 29 ∧ zq_at zy_tile_14_87.2.1 158 153 ∧ zq_at zy_tile_14_87.2.1 159 0 ∧ zq_at zy_tile_14_87.2.1 160 10 := by decide +kernel
theorem zd_14_87_96 : zz_B zy_tile_14_87 96 Instr.goto 100 99 := ⟨4, zq_167 zg_14_87_96.1 zg_14_87_96.2.1 zg_14_87_96.2.2.1 (by decide), rfl, rfl⟩
theorem zd_14_87_120 : zz_D zy_tile_14_87 120 (.iconst 1) 1 121 := ⟨zq_4 zg_14_87_96.2.2.2.1, rfl⟩
theorem zd_14_87_121 : zz_B zy_tile_14_87 121 Instr.goto 142 124 := ⟨21, zq_167 zg_14_87_96.2.2.2.2.1 zg_14_87_96.2.2.2.2.2.1 zg_14_87_96.2.2.2.2.2.2.1 (by decide), rfl, rfl⟩
theorem zd_14_87_17 : zz_D zy_tile_14_87 17 (.iconst 0) 1 18 := ⟨zq_3 zg_14_87_96.2.2.2.2.2.2.2.1, rfl⟩
theorem zd_14_87_18 : zz_D zy_tile_14_87 18 (.istore_n 3) 1 19 := ⟨zq_62 zg_14_87_96.2.2.2.2.2.2.2.2.1, rfl⟩
theorem zd_14_87_147 : zz_D zy_tile_14_87 147 (.iload 6) 2 149 := ⟨zq_21 zg_14_87_96.2.2.2.2.2.2.2.2.2.1 zg_14_87_96.2.2.2.2.2.2.2.2.2.2.1, rfl⟩
theorem zd_14_87_149 : zz_D zy_tile_14_87 149 (.iload 4) 2 151 := ⟨zq_21 zg_14_87_96.2.2.2.2.2.2.2.2.2.2.2.1 zg_14_87_96.2.2.2.2.2.2.2.2.2.2.2.2.1, rfl⟩
theorem zd_14_87_151 : zz_D zy_tile_14_87 151 (.iload 5) 2 153 := ⟨zq_21 zg_14_87_96.2.2.2.2.2.2.2.2.2.2.2.2.2.1 zg_14_87_96.2.2.2.2.2.2.2.2.2.2.2.2.2.2.1, rfl⟩
theorem zd_14_87_153 : zz_D zy_tile_14_87 153 (.imul) 1 154 := ⟨zq_104 zg_14_87_96.2.2.2.2.2.2.2.2.2.2.2.2.2.2.2.1, rfl⟩
theorem zd_14_87_154 : zz_B zy_tile_14_87 154 (Instr.if_icmp .ge) 292 157 := ⟨138, zq_162 zg_14_87_96.2.2.2.2.2.2.2.2.2.2.2.2.2.2.2.2.1 zg_14_87_96.2.2.2.2.2.2.2.2.2.2.2.2.2.2.2.2.2.1 zg_14_87_96.2.2.2.2.2.2.2.2.2.2.2.2.2.2.2.2.2.2.1 (by decide), rfl, rfl⟩
theorem zd_14_87_157 : zz_D zy_tile_14_87 157 (.iload_n 3) 1 158 := ⟨zq_29 zg_14_87_96.2.2.2.2.2.2.2.2.2.2.2.2.2.2.2.2.2.2.2.1, rfl⟩
theorem zd_14_87_158 : zz_B zy_tile_14_87 158 (Instr.ifCond .eq) 168 161 := ⟨10, zq_153 zg_14_87_96.2.2.2.2.2.2.2.2.2.2.2.2.2.2.2.2.2.2.2.2.1 zg_14_87_96.2.2.2.2.2.2.2.2.2.2.2.2.2.2.2.2.2.2.2.2.2.1 zg_14_87_96.2.2.2.2.2.2.2.2.2.2.2.2.2.2.2.2.2.2.2.2.2.2 (by decide), rfl, rfl⟩
theorem zg_14_87_168 : zq_at zy_tile_14_87.2.1 168 21 ∧ zq_at zy_tile_14_87.2.1 169 6 ∧ zq_at zy_tile_14_87.2.1 170 21 ∧ zq_at zy_tile_14_87.2.1 171 5 ∧ zq_at zy_tile_14_87.2.1 172 112 ∧ zq_at zy_tile_14_87.2.1 173 42 ∧ zq_at zy_tile_14_87.2.1 174 180 ∧ zq_at zy_tile_14_87.2.1 175 0 ∧ zq_at zy_tile_14_87.2.1 176 7 ∧ zq_at zy_tile_14_87.2.1 177 104 ∧ zq_at zy_tile_14_87.2.1 178 54 ∧ zq_at zy_tile_14_87.2.1 179 7 ∧ zq_at zy_tile_14_87.2.1 180 29 ∧ zq_at zy_tile_14_87.2.1 181 153 ∧ zq_at zy_tile_14_87.2.1 182 0 ∧ zq_at zy_tile_14_87.2.1 183 10 ∧ zq_at zy_tile_14_87.2.1 191 42 ∧ zq_at zy_tile_14_87.2.1 192 180 ∧ zq_at zy_tile_14_87.2.1 193 0 ∧ zq_at zy_tile_14_87.2.1 194 7 ∧ zq_at zy_tile_14_87.2.1 195 42 ∧ zq_at zy_tile_14_87.2.1 196 180 ∧ zq_at zy_tile_14_87.2.1 197 0 ∧ zq_at zy_tile_14_87.2.1 198 94 := by decide +kernel
theorem zd_14_87_168 : zz_D zy_tile_14_87 168 (.iload 6) 2 170 := ⟨zq_21 zg_14_87_168.1 zg_14_87_168.2.1, rfl⟩
theorem zd_14_87_170 : zz_D zy_tile_14_87 170 (.iload 5) 2 172 := ⟨zq_21 zg_14_87_168.2.2.1 zg_14_87_168.2.2.2.1, rfl⟩
theorem zd_14_87_172 : zz_D zy_tile_14_87 172 (.irem) 1 173 := ⟨zq_112 zg_14_87_168.2.2.2.2.1, rfl⟩
theorem zd_14_87_173 : zz_D zy_tile_14_87 173 (.aload_n 0) 1 174 := ⟨zq_42 zg_14_87_168.2.2.2.2.2.1, rfl⟩
theorem zd_14_87_174 : zz_D zy_tile_14_87 174 (.getfield 7) 3 177 := ⟨zq_180 zg_14_87_168.2.2.2.2.2.2.1 zg_14_87_168.2.2.2.2.2.2.2.1 zg_14_87_168.2.2.2.2.2.2.2.2.1 rfl, rfl⟩
theorem zd_14_87_177 : zz_D zy_tile_14_87 177 (.imul) 1 178 := ⟨zq_104 zg_14_87_168.2.2.2.2.2.2.2.2.2.1, rfl⟩
theorem zd_14_87_178 : zz_D zy_tile_14_87 178 (.istore 7) 2 180 := ⟨zq_54 zg_14_87_168.2.2.2.2.2.2.2.2.2.2.1 zg_14_87_168.2.2.2.2.2.2.2.2.2.2.2.1, rfl⟩
theorem zd_14_87_180 : zz_D zy_tile_14_87 180 (.iload_n 3) 1 181 := ⟨zq_29 zg_14_87_168.2.2.2.2.2.2.2.2.2.2.2.2.1, rfl⟩
theorem zd_14_87_181 : zz_B zy_tile_14_87 181 (Instr.ifCond .eq) 191 184 := ⟨10, zq_153 zg_14_87_168.2.2.2.2.2.2.2.2.2.2.2.2.2.1 zg_14_87_168.2.2.2.2.2.2.2.2.2.2.2.2.2.2.1 zg_14_87_168.2.2.2.2.2.2.2.2.2.2.2.2.2.2.2.1 (by decide), rfl, rfl⟩
theorem zd_14_87_191 : zz_D zy_tile_14_87 191 (.aload_n 0) 1 192 := ⟨zq_42 zg_14_87_168.2.2.2.2.2.2.2.2.2.2.2.2.2.2.2.2.1, rfl⟩
theorem zd_14_87_192 : zz_D zy_tile_14_87 192 (.getfield 7) 3 195 := ⟨zq_180 zg_14_87_168.2.2.2.2.2.2.2.2.2.2.2.2.2.2.2.2.2.1 zg_14_87_168.2.2.2.2.2.2.2.2.2.2.2.2.2.2.2.2.2.2.1 zg_14_87_168.2.2.2.2.2.2.2.2.2.2.2.2.2.2.2.2.2.2.2.1 rfl, rfl⟩
theorem zd_14_87_195 : zz_D zy_tile_14_87 195 (.aload_n 0) 1 196 := ⟨zq_42 zg_14_87_168.2.2.2.2.2.2.2.2.2.2.2.2.2.2.2.2.2.2.2.2.1, rfl⟩
theorem zd_14_87_196 : zz_D zy_tile_14_87 196 (.getfield 94) 3 199 := ⟨zq_180 zg_14_87_168.2.2.2.2.2.2.2.2.2.2.2.2.2.2.2.2.2.2.2.2.2.1 zg_14_87_168.2.2.2.2.2.2.2.2.2.2.2.2.2.2.2.2.2.2.2.2.2.2.1 zg_14_87_168.2.2.2.2.2.2.2.2.2.2.2.2.2.2.2.2.2.2.2.2.2.2.2 rfl, rfl⟩
theorem zg_14_87_199 : zq_at zy_tile_14_87.2.1 199 28 ∧ zq_at zy_tile_14_87.2.1 200 46 ∧ zq_at zy_tile_14_87.2.1 201 21 ∧ zq_at zy_tile_14_87.2.1 202 7 ∧ zq_at zy_tile_14_87.2.1 203 100 ∧ zq_at zy_tile_14_87.2.1 204 184 ∧ zq_at zy_tile_14_87.2.1 205 1 ∧ zq_at zy_tile_14_87.2.1 206 250 ∧ zq_at zy_tile_14_87.2.1 207 54 ∧ zq_at zy_tile_14_87.2.1 208 8 ∧ zq_at zy_tile_14_87.2.1 19 29 ∧ zq_at zy_tile_14_87.2.1 20 5 ∧ zq_at zy_tile_14_87.2.1 21 162 ∧ zq_at zy_tile_14_87.2.1 22 0 ∧ zq_at zy_tile_14_87.2.1 23 61 ∧ zq_at zy_tile_14_87.2.1 24 42 ∧ zq_at zy_tile_14_87.2.1 25 27 ∧ zq_at zy_tile_14_87.2.1 26 29 ∧ zq_at zy_tile_14_87.2.1 27 3 ∧ zq_at zy_tile_14_87.2.1 28 42 ∧ zq_at zy_tile_14_87.2.1 29 180 ∧ zq_at zy_tile_14_87.2.1 30 1 ∧ zq_at zy_tile_14_87.2.1 31 210 ∧ zq_at zy_tile_14_87.2.1 32 42 := by decide +kernel
theorem zd_14_87_199 : zz_D zy_tile_14_87 199 (.iload_n 2) 1 200 := ⟨zq_28 zg_14_87_199.1, rfl⟩
theorem zd_14_87_200 : zz_D zy_tile_14_87 200 (.iaload) 1 201 := ⟨zq_46 zg_14_87_199.2.1, rfl⟩
theorem zd_14_87_201 : zz_D zy_tile_14_87 201 (.iload 7) 2 203 := ⟨zq_21 zg_14_87_199.2.2.1 zg_14_87_199.2.2.2.1, rfl⟩
theorem zd_14_87_203 : zz_D zy_tile_14_87 203 (.isub) 1 204 := ⟨zq_100 zg_14_87_199.2.2.2.2.1, rfl⟩
theorem zd_14_87_204 : zz_D zy_tile_14_87 204 (.invokestatic 506) 3 207 := ⟨zq_184 zg_14_87_199.2.2.2.2.2.1 zg_14_87_199.2.2.2.2.2.2.1 zg_14_87_199.2.2.2.2.2.2.2.1 rfl, rfl⟩
theorem zd_14_87_207 : zz_D zy_tile_14_87 207 (.istore 8) 2 209 := ⟨zq_54 zg_14_87_199.2.2.2.2.2.2.2.2.1 zg_14_87_199.2.2.2.2.2.2.2.2.2.1, rfl⟩
theorem zd_14_87_19 : zz_D zy_tile_14_87 19 (.iload_n 3) 1 20 := ⟨zq_29 zg_14_87_199.2.2.2.2.2.2.2.2.2.2.1, rfl⟩
theorem zd_14_87_20 : zz_D zy_tile_14_87 20 (.iconst 2) 1 21 := ⟨zq_5 zg_14_87_199.2.2.2.2.2.2.2.2.2.2.2.1, rfl⟩
theorem zd_14_87_21 : zz_B zy_tile_14_87 21 (Instr.if_icmp .ge) 82 24 := ⟨61, zq_162 zg_14_87_199.2.2.2.2.2.2.2.2.2.2.2.2.1 zg_14_87_199.2.2.2.2.2.2.2.2.2.2.2.2.2.1 zg_14_87_199.2.2.2.2.2.2.2.2.2.2.2.2.2.2.1 (by decide), rfl, rfl⟩
theorem zd_14_87_24 : zz_D zy_tile_14_87 24 (.aload_n 0) 1 25 := ⟨zq_42 zg_14_87_199.2.2.2.2.2.2.2.2.2.2.2.2.2.2.2.1, rfl⟩
theorem zd_14_87_25 : zz_D zy_tile_14_87 25 (.iload_n 1) 1 26 := ⟨zq_27 zg_14_87_199.2.2.2.2.2.2.2.2.2.2.2.2.2.2.2.2.1, rfl⟩
theorem zd_14_87_26 : zz_D zy_tile_14_87 26 (.iload_n 3) 1 27 := ⟨zq_29 zg_14_87_199.2.2.2.2.2.2.2.2.2.2.2.2.2.2.2.2.2.1, rfl⟩
theorem zd_14_87_27 : zz_D zy_tile_14_87 27 (.iconst 0) 1 28 := ⟨zq_3 zg_14_87_199.2.2.2.2.2.2.2.2.2.2.2.2.2.2.2.2.2.2.1, rfl⟩
theorem zd_14_87_28 : zz_D zy_tile_14_87 28 (.aload_n 0) 1 29 := ⟨zq_42 zg_14_87_199.2.2.2.2.2.2.2.2.2.2.2.2.2.2.2.2.2.2.2.1, rfl⟩
theorem zd_14_87_29 : zz_D zy_tile_14_87 29 (.getfield 466) 3 32 := ⟨zq_180 zg_14_87_199.2.2.2.2.2.2.2.2.2.2.2.2.2.2.2.2.2.2.2.2.1 zg_14_87_199.2.2.2.2.2.2.2.2.2.2.2.2.2.2.2.2.2.2.2.2.2.1 zg_14_87_199.2.2.2.2.2.2.2.2.2.2.2.2.2.2.2.2.2.2.2.2.2.2.1 rfl, rfl⟩
theorem zd_14_87_32 : zz_D zy_tile_14_87 32 (.aload_n 0) 1 33 := ⟨zq_42 zg_14_87_199.2.2.2.2.2.2.2.2.2.2.2.2.2.2.2.2.2.2.2.2.2.2.2, rfl⟩
theorem zg_14_87_33 : zq_at zy_tile_14_87.2.1 33 180 ∧ zq_at zy_tile_14_87.2.1 34 1 ∧ zq_at zy_tile_14_87.2.1 35 216 ∧ zq_at zy_tile_14_87.2.1 36 29 ∧ zq_at zy_tile_14_87.2.1 37 154 ∧ zq_at zy_tile_14_87.2.1 38 0 ∧ zq_at zy_tile_14_87.2.1 39 7 ∧ zq_at zy_tile_14_87.2.1 40 4 ∧ zq_at zy_tile_14_87.2.1 41 167 ∧ zq_at zy_tile_14_87.2.1 42 0 ∧ zq_at zy_tile_14_87.2.1 43 4 ∧ zq_at zy_tile_14_87.2.1 45 182 ∧ zq_at zy_tile_14_87.2.1 46 1 ∧ zq_at zy_tile_14_87.2.1 47 242 ∧ zq_at zy_tile_14_87.2.1 48 42 ∧ zq_at zy_tile_14_87.2.1 49 27 ∧ zq_at zy_tile_14_87.2.1 50 42 ∧ zq_at zy_tile_14_87.2.1 51 180 ∧ zq_at zy_tile_14_87.2.1 52 1 ∧ zq_at zy_tile_14_87.2.1 53 216 ∧ zq_at zy_tile_14_87.2.1 54 29 ∧ zq_at zy_tile_14_87.2.1 55 154 ∧ zq_at zy_tile_14_87.2.1 56 0 ∧ zq_at zy_tile_14_87.2.1 57 7 := by decide +kernel
theorem zd_14_87_33 : zz_D zy_tile_14_87 33 (.getfield 472) 3 36 := ⟨zq_180 zg_14_87_33.1 zg_14_87_33.2.1 zg_14_87_33.2.2.1 rfl, rfl⟩
theorem zd_14_87_36 : zz_D zy_tile_14_87 36 (.iload_n 3) 1 37 := ⟨zq_29 zg_14_87_33.2.2.2.1, rfl⟩
theorem zd_14_87_37 : zz_B zy_tile_14_87 37 (Instr.ifCond .ne) 44 40 := ⟨7, zq_154 zg_14_87_33.2.2.2.2.1 zg_14_87_33.2.2.2.2.2.1 zg_14_87_33.2.2.2.2.2.2.1 (by decide), rfl, rfl⟩
theorem zd_14_87_40 : zz_D zy_tile_14_87 40 (.iconst 1) 1 41 := ⟨zq_4 zg_14_87_33.2.2.2.2.2.2.2.1, rfl⟩
theorem zd_14_87_41 : zz_B zy_tile_14_87 41 Instr.goto 45 44 := ⟨4, zq_167 zg_14_87_33.2.2.2.2.2.2.2.2.1 zg_14_87_33.2.2.2.2.2.2.2.2.2.1 zg_14_87_33.2.2.2.2.2.2.2.2.2.2.1 (by decide), rfl, rfl⟩
theorem zd_14_87_45 : zz_D zy_tile_14_87 45 (.invokevirtual 498) 3 48 := ⟨zq_182 zg_14_87_33.2.2.2.2.2.2.2.2.2.2.2.1 zg_14_87_33.2.2.2.2.2.2.2.2.2.2.2.2.1 zg_14_87_33.2.2.2.2.2.2.2.2.2.2.2.2.2.1 rfl, rfl⟩
theorem zd_14_87_48 : zz_D zy_tile_14_87 48 (.aload_n 0) 1 49 := ⟨zq_42 zg_14_87_33.2.2.2.2.2.2.2.2.2.2.2.2.2.2.1, rfl⟩
theorem zd_14_87_49 : zz_D zy_tile_14_87 49 (.iload_n 1) 1 50 := ⟨zq_27 zg_14_87_33.2.2.2.2.2.2.2.2.2.2.2.2.2.2.2.1, rfl⟩
theorem zd_14_87_50 : zz_D zy_tile_14_87 50 (.aload_n 0) 1 51 := ⟨zq_42 zg_14_87_33.2.2.2.2.2.2.2.2.2.2.2.2.2.2.2.2.1, rfl⟩
theorem zd_14_87_51 : zz_D zy_tile_14_87 51 (.getfield 472) 3 54 := ⟨zq_180 zg_14_87_33.2.2.2.2.2.2.2.2.2.2.2.2.2.2.2.2.2.1 zg_14_87_33.2.2.2.2.2.2.2.2.2.2.2.2.2.2.2.2.2.2.1 zg_14_87_33.2.2.2.2.2.2.2.2.2.2.2.2.2.2.2.2.2.2.2.1 rfl, rfl⟩
theorem zd_14_87_54 : zz_D zy_tile_14_87 54 (.iload_n 3) 1 55 := ⟨zq_29 zg_14_87_33.2.2.2.2.2.2.2.2.2.2.2.2.2.2.2.2.2.2.2.2.1, rfl⟩
theorem zd_14_87_55 : zz_B zy_tile_14_87 55 (Instr.ifCond .ne) 62 58 := ⟨7, zq_154 zg_14_87_33.2.2.2.2.2.2.2.2.2.2.2.2.2.2.2.2.2.2.2.2.2.1 zg_14_87_33.2.2.2.2.2.2.2.2.2.2.2.2.2.2.2.2.2.2.2.2.2.2.1 zg_14_87_33.2.2.2.2.2.2.2.2.2.2.2.2.2.2.2.2.2.2.2.2.2.2.2 (by decide), rfl, rfl⟩
theorem zg_14_87_58 : zq_at zy_tile_14_87.2.1 58 4 ∧ zq_at zy_tile_14_87.2.1 59 167 ∧ zq_at zy_tile_14_87.2.1 60 0 ∧ zq_at zy_tile_14_87.2.1 61 4 ∧ zq_at zy_tile_14_87.2.1 63 29 ∧ zq_at zy_tile_14_87.2.1 64 4 ∧ zq_at zy_tile_14_87.2.1 65 160 ∧ zq_at zy_tile_14_87.2.1 66 0 ∧ zq_at zy_tile_14_87.2.1 67 7 ∧ zq_at zy_tile_14_87.2.1 72 3 ∧ zq_at zy_tile_14_87.2.1 73 182 ∧ zq_at zy_tile_14_87.2.1 74 1 ∧ zq_at zy_tile_14_87.2.1 75 246 ∧ zq_at zy_tile_14_87.2.1 76 132 ∧ zq_at zy_tile_14_87.2.1 77 3 ∧ zq_at zy_tile_14_87.2.1 78 1 ∧ zq_at zy_tile_14_87.2.1 79 167 ∧ zq_at zy_tile_14_87.2.1 80 255 ∧ zq_at zy_tile_14_87.2.1 81 196 ∧ zq_at zy_tile_14_87.2.1 292 42 ∧ zq_at zy_tile_14_87.2.1 293 16 ∧ zq_at zy_tile_14_87.2.1 294 7 ∧ zq_at zy_tile_14_87.2.1 295 3 ∧ zq_at zy_tile_14_87.2.1 296 42 := by decide +kernel
theorem zd_14_87_58 : zz_D zy_tile_14_87 58 (.iconst 1) 1 59 := ⟨zq_4 zg_14_87_58.1, rfl⟩
theorem zd_14_87_59 : zz_B zy_tile_14_87 59 Instr.goto 63 62 := ⟨4, zq_167 zg_14_87_58.2.1 zg_14_87_58.2.2.1 zg_14_87_58.2.2.2.1 (by decide), rfl, rfl⟩
theorem zd_14_87_63 : zz_D zy_tile_14_87 63 (.iload_n 3) 1 64 := ⟨zq_29 zg_14_87_58.2.2.2.2.1, rfl⟩
theorem zd_14_87_64 : zz_D zy_tile_14_87 64 (.iconst 1) 1 65 := ⟨zq_4 zg_14_87_58.2.2.2.2.2.1, rfl⟩
theorem zd_14_87_65 : zz_B zy_tile_14_87 65 (Instr.if_icmp .ne) 72 68 := ⟨7, zq_160 zg_14_87_58.2.2.2.2.2.2.1 zg_14_87_58.2.2.2.2.2.2.2.1 zg_14_87_58.2.2.2.2.2.2.2.2.1 (by decide), rfl, rfl⟩
theorem zd_14_87_72 : zz_D zy_tile_14_87 72 (.iconst 0) 1 73 := ⟨zq_3 zg_14_87_58.2.2.2.2.2.2.2.2.2.1, rfl⟩
theorem zd_14_87_73 : zz_D zy_tile_14_87 73 (.invokevirtual 502) 3 76 := ⟨zq_182 zg_14_87_58.2.2.2.2.2.2.2.2.2.2.1 zg_14_87_58.2.2.2.2.2.2.2.2.2.2.2.1 zg_14_87_58.2.2.2.2.2.2.2.2.2.2.2.2.1 rfl, rfl⟩
theorem zd_14_87_76 : zz_D zy_tile_14_87 76 (.iinc 3 1) 3 79 := ⟨zq_132 zg_14_87_58.2.2.2.2.2.2.2.2.2.2.2.2.2.1 zg_14_87_58.2.2.2.2.2.2.2.2.2.2.2.2.2.2.1 zg_14_87_58.2.2.2.2.2.2.2.2.2.2.2.2.2.2.2.1 (by decide), rfl⟩
theorem zd_14_87_79 : zz_B zy_tile_14_87 79 Instr.goto 19 82 := ⟨(-60), zq_167 zg_14_87_58.2.2.2.2.2.2.2.2.2.2.2.2.2.2.2.2.1 zg_14_87_58.2.2.2.2.2.2.2.2.2.2.2.2.2.2.2.2.2.1 zg_14_87_58.2.2.2.2.2.2.2.2.2.2.2.2.2.2.2.2.2.2.1 (by decide), rfl, rfl⟩
theorem zd_14_87_292 : zz_D zy_tile_14_87 292 (.aload_n 0) 1 293 := ⟨zq_42 zg_14_87_58.2.2.2.2.2.2.2.2.2.2.2.2.2.2.2.2.2.2.2.1, rfl⟩
theorem zd_14_87_293 : zz_D zy_tile_14_87 293 (.bipush 7) 2 295 := ⟨zq_16 zg_14_87_58.2.2.2.2.2.2.2.2.2.2.2.2.2.2.2.2.2.2.2.2.1 zg_14_87_58.2.2.2.2.2.2.2.2.2.2.2.2.2.2.2.2.2.2.2.2.2.1 (by decide), rfl⟩
theorem zd_14_87_295 : zz_D zy_tile_14_87 295 (.iconst 0) 1 296 := ⟨zq_3 zg_14_87_58.2.2.2.2.2.2.2.2.2.2.2.2.2.2.2.2.2.2.2.2.2.2.1, rfl⟩
theorem zd_14_87_296 : zz_D zy_tile_14_87 296 (.aload_n 0) 1 297 := ⟨zq_42 zg_14_87_58.2.2.2.2.2.2.2.2.2.2.2.2.2.2.2.2.2.2.2.2.2.2.2, rfl⟩
theorem zg_14_87_297 : zq_at zy_tile_14_87.2.1 297 180 ∧ zq_at zy_tile_14_87.2.1 298 1 ∧ zq_at zy_tile_14_87.2.1 299 213 ∧ zq_at zy_tile_14_87.2.1 300 42 ∧ zq_at zy_tile_14_87.2.1 301 180 ∧ zq_at zy_tile_14_87.2.1 302 1 ∧ zq_at zy_tile_14_87.2.1 303 216 ∧ zq_at zy_tile_14_87.2.1 304 182 ∧ zq_at zy_tile_14_87.2.1 305 1 ∧ zq_at zy_tile_14_87.2.1 306 219 ∧ zq_at zy_tile_14_87.2.1 307 42 ∧ zq_at zy_tile_14_87.2.1 308 42 ∧ zq_at zy_tile_14_87.2.1 309 182 ∧ zq_at zy_tile_14_87.2.1 310 1 ∧ zq_at zy_tile_14_87.2.1 311 223 ∧ zq_at zy_tile_14_87.2.1 312 42 ∧ zq_at zy_tile_14_87.2.1 313 182 ∧ zq_at zy_tile_14_87.2.1 314 1 ∧ zq_at zy_tile_14_87.2.1 315 223 ∧ zq_at zy_tile_14_87.2.1 316 3 ∧ zq_at zy_tile_14_87.2.1 317 42 ∧ zq_at zy_tile_14_87.2.1 318 180 ∧ zq_at zy_tile_14_87.2.1 319 0 ∧ zq_at zy_tile_14_87.2.1 320 121 := by decide +kernel
theorem zd_14_87_297 : zz_D zy_tile_14_87 297 (.getfield 469) 3 300 := ⟨zq_180 zg_14_87_297.1 zg_14_87_297.2.1 zg_14_87_297.2.2.1 rfl, rfl⟩
theorem zd_14_87_300 : zz_D zy_tile_14_87 300 (.aload_n 0) 1 301 := ⟨zq_42 zg_14_87_297.2.2.2.1, rfl⟩
theorem zd_14_87_301 : zz_D zy_tile_14_87 301 (.getfield 472) 3 304 := ⟨zq_180 zg_14_87_297.2.2.2.2.1 zg_14_87_297.2.2.2.2.2.1 zg_14_87_297.2.2.2.2.2.2.1 rfl, rfl⟩
theorem zd_14_87_304 : zz_D zy_tile_14_87 304 (.invokevirtual 475) 3 307 := ⟨zq_182 zg_14_87_297.2.2.2.2.2.2.2.1 zg_14_87_297.2.2.2.2.2.2.2.2.1 zg_14_87_297.2.2.2.2.2.2.2.2.2.1 rfl, rfl⟩
theorem zd_14_87_307 : zz_D zy_tile_14_87 307 (.aload_n 0) 1 308 := ⟨zq_42 zg_14_87_297.2.2.2.2.2.2.2.2.2.2.1, rfl⟩
theorem zd_14_87_308 : zz_D zy_tile_14_87 308 (.aload_n 0) 1 309 := ⟨zq_42 zg_14_87_297.2.2.2.2.2.2.2.2.2.2.2.1, rfl⟩
theorem zd_14_87_309 : zz_D zy_tile_14_87 309 (.invokevirtual 479) 3 312 := ⟨zq_182 zg_14_87_297.2.2.2.2.2.2.2.2.2.2.2.2.1 zg_14_87_297.2.2.2.2.2.2.2.2.2.2.2.2.2.1 zg_14_87_297.2.2.2.2.2.2.2.2.2.2.2.2.2.2.1 rfl, rfl⟩
theorem zd_14_87_312 : zz_D zy_tile_14_87 312 (.aload_n 0) 1 313 := ⟨zq_42 zg_14_87_297.2.2.2.2.2.2.2.2.2.2.2.2.2.2.2.1, rfl⟩
theorem zd_14_87_313 : zz_D zy_tile_14_87 313 (.invokevirtual 479) 3 316 := ⟨zq_182 zg_14_87_297.2.2.2.2.2.2.2.2.2.2.2.2.2.2.2.2.1 zg_14_87_297.2.2.2.2.2.2.2.2.2.2.2.2.2.2.2.2.2.1 zg_14_87_297.2.2.2.2.2.2.2.2.2.2.2.2.2.2.2.2.2.2.1 rfl, rfl⟩
theorem zd_14_87_316 : zz_D zy_tile_14_87 316 (.iconst 0) 1 317 := ⟨zq_3 zg_14_87_297.2.2.2.2.2.2.2.2.2.2.2.2.2.2.2.2.2.2.2.1, rfl⟩
theorem zd_14_87_317 : zz_D zy_tile_14_87 317 (.aload_n 0) 1 318 := ⟨zq_42 zg_14_87_297.2.2.2.2.2.2.2.2.2.2.2.2.2.2.2.2.2.2.2.2.1, rfl⟩
theorem zd_14_87_318 : zz_D zy_tile_14_87 318 (.getfield 121) 3 321 := ⟨zq_180 zg_14_87_297.2.2.2.2.2.2.2.2.2.2.2.2.2.2.2.2.2.2.2.2.2.1 zg_14_87_297.2.2.2.2.2.2.2.2.2.2.2.2.2.2.2.2.2.2.2.2.2.2.1 zg_14_87_297.2.2.2.2.2.2.2.2.2.2.2.2.2.2.2.2.2.2.2.2.2.2.2 rfl, rfl⟩
theorem zg_14_87_321 : zq_at zy_tile_14_87.2.1 321 27 ∧ zq_at zy_tile_14_87.2.1 322 46 ∧ zq_at zy_tile_14_87.2.1 323 182 ∧ zq_at zy_tile_14_87.2.1 324 1 ∧ zq_at zy_tile_14_87.2.1 325 226 ∧ zq_at zy_tile_14_87.2.1 326 42 ∧ zq_at zy_tile_14_87.2.1 327 16 ∧ zq_at zy_tile_14_87.2.1 328 12 ∧ zq_at zy_tile_14_87.2.1 329 42 ∧ zq_at zy_tile_14_87.2.1 330 180 ∧ zq_at zy_tile_14_87.2.1 331 1 ∧ zq_at zy_tile_14_87.2.1 332 194 ∧ zq_at zy_tile_14_87.2.1 333 4 ∧ zq_at zy_tile_14_87.2.1 334 164 ∧ zq_at zy_tile_14_87.2.1 335 0 ∧ zq_at zy_tile_14_87.2.1 336 7 ∧ zq_at zy_tile_14_87.2.1 341 3 ∧ zq_at zy_tile_14_87.2.1 342 128 ∧ zq_at zy_tile_14_87.2.1 343 182 ∧ zq_at zy_tile_14_87.2.1 344 1 ∧ zq_at zy_tile_14_87.2.1 345 203 ∧ zq_at zy_tile_14_87.2.1 346 27 ∧ zq_at zy_tile_14_87.2.1 347 4 ∧ zq_at zy_tile_14_87.2.1 348 96 := by decide +kernel
theorem zd_14_87_321 : zz_D zy_tile_14_87 321 (.iload_n 1) 1 322 := ⟨zq_27 zg_14_87_321.1, rfl⟩
theorem zd_14_87_322 : zz_D zy_tile_14_87 322 (.iaload) 1 323 := ⟨zq_46 zg_14_87_321.2.1, rfl⟩
theorem zd_14_87_323 : zz_D zy_tile_14_87 323 (.invokevirtual 482) 3 326 := ⟨zq_182 zg_14_87_321.2.2.1 zg_14_87_321.2.2.2.1 zg_14_87_321.2.2.2.2.1 rfl, rfl⟩
theorem zd_14_87_326 : zz_D zy_tile_14_87 326 (.aload_n 0) 1 327 := ⟨zq_42 zg_14_87_321.2.2.2.2.2.1, rfl⟩
theorem zd_14_87_327 : zz_D zy_tile_14_87 327 (.bipush 12) 2 329 := ⟨zq_16 zg_14_87_321.2.2.2.2.2.2.1 zg_14_87_321.2.2.2.2.2.2.2.1 (by decide), rfl⟩
theorem zd_14_87_329 : zz_D zy_tile_14_87 329 (.aload_n 0) 1 330 := ⟨zq_42 zg_14_87_321.2.2.2.2.2.2.2.2.1, rfl⟩
theorem zd_14_87_330 : zz_D zy_tile_14_87 330 (.getfield 450) 3 333 := ⟨zq_180 zg_14_87_321.2.2.2.2.2.2.2.2.2.1 zg_14_87_321.2.2.2.2.2.2.2.2.2.2.1 zg_14_87_321.2.2.2.2.2.2.2.2.2.2.2.1 rfl, rfl⟩
theorem zd_14_87_333 : zz_D zy_tile_14_87 333 (.iconst 1) 1 334 := ⟨zq_4 zg_14_87_321.2.2.2.2.2.2.2.2.2.2.2.2.1, rfl⟩
theorem zd_14_87_334 : zz_B zy_tile_14_87 334 (Instr.if_icmp .le) 341 337 := ⟨7, zq_164 zg_14_87_321.2.2.2.2.2.2.2.2.2.2.2.2.2.1 zg_14_87_321.2.2.2.2.2.2.2.2.2.2.2.2.2.2.1 zg_14_87_321.2.2.2.2.2.2.2.2.2.2.2.2.2.2.2.1 (by decide), rfl, rfl⟩
theorem zd_14_87_341 : zz_D zy_tile_14_87 341 (.iconst 0) 1 342 := ⟨zq_3 zg_14_87_321.2.2.2.2.2.2.2.2.2.2.2.2.2.2.2.2.1, rfl⟩
theorem zd_14_87_342 : zz_D zy_tile_14_87 342 (.ior) 1 343 := ⟨zq_128 zg_14_87_321.2.2.2.2.2.2.2.2.2.2.2.2.2.2.2.2.2.1, rfl⟩
theorem zd_14_87_343 : zz_D zy_tile_14_87 343 (.invokevirtual 459) 3 346 := ⟨zq_182 zg_14_87_321.2.2.2.2.2.2.2.2.2.2.2.2.2.2.2.2.2.2.1 zg_14_87_321.2.2.2.2.2.2.2.2.2.2.2.2.2.2.2.2.2.2.2.1 zg_14_87_321.2.2.2.2.2.2.2.2.2.2.2.2.2.2.2.2.2.2.2.2.1 rfl, rfl⟩
theorem zd_14_87_346 : zz_D zy_tile_14_87 346 (.iload_n 1) 1 347 := ⟨zq_27 zg_14_87_321.2.2.2.2.2.2.2.2.2.2.2.2.2.2.2.2.2.2.2.2.2.1, rfl⟩
theorem zd_14_87_347 : zz_D zy_tile_14_87 347 (.iconst 1) 1 348 := ⟨zq_4 zg_14_87_321.2.2.2.2.2.2.2.2.2.2.2.2.2.2.2.2.2.2.2.2.2.2.1, rfl⟩
theorem zd_14_87_348 : zz_D zy_tile_14_87 348 (.iadd) 1 349 := ⟨zq_96 zg_14_87_321.2.2.2.2.2.2.2.2.2.2.2.2.2.2.2.2.2.2.2.2.2.2.2, rfl⟩
theorem zg_14_87_349 : zq_at zy_tile_14_87.2.1 349 62 ∧ zq_at zy_tile_14_87.2.1 350 42 ∧ zq_at zy_tile_14_87.2.1 351 180 ∧ zq_at zy_tile_14_87.2.1 352 0 ∧ zq_at zy_tile_14_87.2.1 353 100 ∧ zq_at zy_tile_14_87.2.1 354 27 ∧ zq_at zy_tile_14_87.2.1 355 46 ∧ zq_at zy_tile_14_87.2.1 356 5 ∧ zq_at zy_tile_14_87.2.1 357 160 ∧ zq_at zy_tile_14_87.2.1 358 0 ∧ zq_at zy_tile_14_87.2.1 359 10 ∧ zq_at zy_tile_14_87.2.1 367 42 ∧ zq_at zy_tile_14_87.2.1 368 180 ∧ zq_at zy_tile_14_87.2.1 369 1 ∧ zq_at zy_tile_14_87.2.1 370 239 ∧ zq_at zy_tile_14_87.2.1 371 42 ∧ zq_at zy_tile_14_87.2.1 372 180 ∧ zq_at zy_tile_14_87.2.1 373 0 ∧ zq_at zy_tile_14_87.2.1 374 91 ∧ zq_at zy_tile_14_87.2.1 375 29 ∧ zq_at zy_tile_14_87.2.1 376 46 ∧ zq_at zy_tile_14_87.2.1 377 104 ∧ zq_at zy_tile_14_87.2.1 378 42 := by decide +kernel
theorem zd_14_87_349 : zz_D zy_tile_14_87 349 (.istore_n 3) 1 350 := ⟨zq_62 zg_14_87_349.1, rfl⟩
theorem zd_14_87_350 : zz_D zy_tile_14_87 350 (.aload_n 0) 1 351 := ⟨zq_42 zg_14_87_349.2.1, rfl⟩
theorem zd_14_87_351 : zz_D zy_tile_14_87 351 (.getfield 100) 3 354 := ⟨zq_180 zg_14_87_349.2.2.1 zg_14_87_349.2.2.2.1 zg_14_87_349.2.2.2.2.1 rfl, rfl⟩
theorem zd_14_87_354 : zz_D zy_tile_14_87 354 (.iload_n 1) 1 355 := ⟨zq_27 zg_14_87_349.2.2.2.2.2.1, rfl⟩
theorem zd_14_87_355 : zz_D zy_tile_14_87 355 (.iaload) 1 356 := ⟨zq_46 zg_14_87_349.2.2.2.2.2.2.1, rfl⟩
theorem zd_14_87_356 : zz_D zy_tile_14_87 356 (.iconst 2) 1 357 := ⟨zq_5 zg_14_87_349.2.2.2.2.2.2.2.1, rfl⟩
theorem zd_14_87_357 : zz_B zy_tile_14_87 357 (Instr.if_icmp .ne) 367 360 := ⟨10, zq_160 zg_14_87_349.2.2.2.2.2.2.2.2.1 zg_14_87_349.2.2.2.2.2.2.2.2.2.1 zg_14_87_349.2.2.2.2.2.2.2.2.2.2.1 (by decide), rfl, rfl⟩
theorem zd_14_87_367 : zz_D zy_tile_14_87 367 (.aload_n 0) 1 368 := ⟨zq_42 zg_14_87_349.2.2.2.2.2.2.2.2.2.2.2.1, rfl⟩
theorem zd_14_87_368 : zz_D zy_tile_14_87 368 (.getfield 495) 3 371 := ⟨zq_180 zg_14_87_349.2.2.2.2.2.2.2.2.2.2.2.2.1 zg_14_87_349.2.2.2.2.2.2.2.2.2.2.2.2.2.1 zg_14_87_349.2.2.2.2.2.2.2.2.2.2.2.2.2.2.1 rfl, rfl⟩
theorem zd_14_87_371 : zz_D zy_tile_14_87 371 (.aload_n 0) 1 372 := ⟨zq_42 zg_14_87_349.2.2.2.2.2.2.2.2.2.2.2.2.2.2.2.1, rfl⟩
theorem zd_14_87_372 : zz_D zy_tile_14_87 372 (.getfield 91) 3 375 := ⟨zq_180 zg_14_87_349.2.2.2.2.2.2.2.2.2.2.2.2.2.2.2.2.1 zg_14_87_349.2.2.2.2.2.2.2.2.2.2.2.2.2.2.2.2.2.1 zg_14_87_349.2.2.2.2.2.2.2.2.2.2.2.2.2.2.2.2.2.2.1 rfl, rfl⟩
theorem zd_14_87_375 : zz_D zy_tile_14_87 375 (.iload_n 3) 1 376 := ⟨zq_29 zg_14_87_349.2.2.2.2.2.2.2.2.2.2.2.2.2.2.2.2.2.2.2.1, rfl⟩
theorem zd_14_87_376 : zz_D zy_tile_14_87 376 (.iaload) 1 377 := ⟨zq_46 zg_14_87_349.2.2.2.2.2.2.2.2.2.2.2.2.2.2.2.2.2.2.2.2.1, rfl⟩
theorem zd_14_87_377 : zz_D zy_tile_14_87 377 (.imul) 1 378 := ⟨zq_104 zg_14_87_349.2.2.2.2.2.2.2.2.2.2.2.2.2.2.2.2.2.2.2.2.2.1, rfl⟩
theorem zd_14_87_378 : zz_D zy_tile_14_87 378 (.aload_n 0) 1 379 := ⟨zq_42 zg_14_87_349.2.2.2.2.2.2.2.2.2.2.2.2.2.2.2.2.2.2.2.2.2.2, rfl⟩
theorem zg_14_87_379 : zq_at zy_tile_14_87.2.1 379 180 ∧ zq_at zy_tile_14_87.2.1 380 1 ∧ zq_at zy_tile_14_87.2.1 381 236 ∧ zq_at zy_tile_14_87.2.1 382 96 ∧ zq_at zy_tile_14_87.2.1 383 54 ∧ zq_at zy_tile_14_87.2.1 384 4 ∧ zq_at zy_tile_14_87.2.1 360 42 ∧ zq_at zy_tile_14_87.2.1 361 180 ∧ zq_at zy_tile_14_87.2.1 362 1 ∧ zq_at zy_tile_14_87.2.1 363 236 ∧ zq_at zy_tile_14_87.2.1 364 167 ∧ zq_at zy_tile_14_87.2.1 365 0 ∧ zq_at zy_tile_14_87.2.1 366 19 ∧ zq_at zy_tile_14_87.2.1 337 5 ∧ zq_at zy_tile_14_87.2.1 338 167 ∧ zq_at zy_tile_14_87.2.1 339 0 ∧ zq_at zy_tile_14_87.2.1 340 4 ∧ zq_at zy_tile_14_87.2.1 209 42 ∧ zq_at zy_tile_14_87.2.1 210 27 ∧ zq_at zy_tile_14_87.2.1 211 21 ∧ zq_at zy_tile_14_87.2.1 212 6 ∧ zq_at zy_tile_14_87.2.1 213 21 ∧ zq_at zy_tile_14_87.2.1 214 5 ∧ zq_at zy_tile_14_87.2.1 215 108 := by decide +kernel
theorem zd_14_87_379 : zz_D zy_tile_14_87 379 (.getfield 492) 3 382 := ⟨zq_180 zg_14_87_379.1 zg_14_87_379.2.1 zg_14_87_379.2.2.1 rfl, rfl⟩
theorem zd_14_87_382 : zz_D zy_tile_14_87 382 (.iadd) 1 383 := ⟨zq_96 zg_14_87_379.2.2.2.1, rfl⟩
theorem zd_14_87_383 : zz_D zy_tile_14_87 383 (.istore 4) 2 385 := ⟨zq_54 zg_14_87_379.2.2.2.2.1 zg_14_87_379.2.2.2.2.2.1, rfl⟩
theorem zd_14_87_360 : zz_D zy_tile_14_87 360 (.aload_n 0) 1 361 := ⟨zq_42 zg_14_87_379.2.2.2.2.2.2.1, rfl⟩
theorem zd_14_87_361 : zz_D zy_tile_14_87 361 (.getfield 492) 3 364 := ⟨zq_180 zg_14_87_379.2.2.2.2.2.2.2.1 zg_14_87_379.2.2.2.2.2.2.2.2.1 zg_14_87_379.2.2.2.2.2.2.2.2.2.1 rfl, rfl⟩
theorem zd_14_87_364 : zz_B zy_tile_14_87 364 Instr.goto 383 367 := ⟨19, zq_167 zg_14_87_379.2.2.2.2.2.2.2.2.2.2.1 zg_14_87_379.2.2.2.2.2.2.2.2.2.2.2.1 zg_14_87_379.2.2.2.2.2.2.2.2.2.2.2.2.1 (by decide), rfl, rfl⟩
theorem zd_14_87_337 : zz_D zy_tile_14_87 337 (.iconst 2) 1 338 := ⟨zq_5 zg_14_87_379.2.2.2.2.2.2.2.2.2.2.2.2.2.1, rfl⟩
theorem zd_14_87_338 : zz_B zy_tile_14_87 338 Instr.goto 342 341 := ⟨4, zq_167 zg_14_87_379.2.2.2.2.2.2.2.2.2.2.2.2.2.2.1 zg_14_87_379.2.2.2.2.2.2.2.2.2.2.2.2.2.2.2.1 zg_14_87_379.2.2.2.2.2.2.2.2.2.2.2.2.2.2.2.2.1 (by decide), rfl, rfl⟩
theorem zd_14_87_209 : zz_D zy_tile_14_87 209 (.aload_n 0) 1 210 := ⟨zq_42 zg_14_87_379.2.2.2.2.2.2.2.2.2.2.2.2.2.2.2.2.2.1, rfl⟩
theorem zd_14_87_210 : zz_D zy_tile_14_87 210 (.iload_n 1) 1 211 := ⟨zq_27 zg_14_87_379.2.2.2.2.2.2.2.2.2.2.2.2.2.2.2.2.2.2.1, rfl⟩
theorem zd_14_87_211 : zz_D zy_tile_14_87 211 (.iload 6) 2 213 := ⟨zq_21 zg_14_87_379.2.2.2.2.2.2.2.2.2.2.2.2.2.2.2.2.2.2.2.1 zg_14_87_379.2.2.2.2.2.2.2.2.2.2.2.2.2.2.2.2.2.2.2.2.1, rfl⟩
theorem zd_14_87_213 : zz_D zy_tile_14_87 213 (.iload 5) 2 215 := ⟨zq_21 zg_14_87_379.2.2.2.2.2.2.2.2.2.2.2.2.2.2.2.2.2.2.2.2.2.1 zg_14_87_379.2.2.2.2.2.2.2.2.2.2.2.2.2.2.2.2.2.2.2.2.2.2.1, rfl⟩
theorem zd_14_87_215 : zz_D zy_tile_14_87 215 (.idiv) 1 216 := ⟨zq_108 zg_14_87_379.2.2.2.2.2.2.2.2.2.2.2.2.2.2.2.2.2.2.2.2.2.2.2, rfl⟩
theorem zg_14_87_216 : zq_at zy_tile_14_87.2.1 216 42 ∧ zq_at zy_tile_14_87.2.1 217 180 ∧ zq_at zy_tile_14_87.2.1 218 0 ∧ zq_at zy_tile_14_87.2.1 219 112 ∧ zq_at zy_tile_14_87.2.1 220 27 ∧ zq_at zy_tile_14_87.2.1 221 46 ∧ zq_at zy_tile_14_87.2.1 222 108 ∧ zq_at zy_tile_14_87.2.1 223 21 ∧ zq_at zy_tile_14_87.2.1 224 6 ∧ zq_at zy_tile_14_87.2.1 225 21 ∧ zq_at zy_tile_14_87.2.1 226 5 ∧ zq_at zy_tile_14_87.2.1 227 108 ∧ zq_at zy_tile_14_87.2.1 228 42 ∧ zq_at zy_tile_14_87.2.1 229 180 ∧ zq_at zy_tile_14_87.2.1 230 0 ∧ zq_at zy_tile_14_87.2.1 231 112 ∧ zq_at zy_tile_14_87.2.1 232 27 ∧ zq_at zy_tile_14_87.2.1 233 46 ∧ zq_at zy_tile_14_87.2.1 234 112 ∧ zq_at zy_tile_14_87.2.1 235 21 ∧ zq_at zy_tile_14_87.2.1 236 7 ∧ zq_at zy_tile_14_87.2.1 237 21 ∧ zq_at zy_tile_14_87.2.1 238 8 := by decide +kernel
theorem zd_14_87_216 : zz_D zy_tile_14_87 216 (.aload_n 0) 1 217 := ⟨zq_42 zg_14_87_216.1, rfl⟩
theorem zd_14_87_217 : zz_D zy_tile_14_87 217 (.getfield 112) 3 220 := ⟨zq_180 zg_14_87_216.2.1 zg_14_87_216.2.2.1 zg_14_87_216.2.2.2.1 rfl, rfl⟩
theorem zd_14_87_220 : zz_D zy_tile_14_87 220 (.iload_n 1) 1 221 := ⟨zq_27 zg_14_87_216.2.2.2.2.1, rfl⟩
theorem zd_14_87_221 : zz_D zy_tile_14_87 221 (.iaload) 1 222 := ⟨zq_46 zg_14_87_216.2.2.2.2.2.1, rfl⟩
theorem zd_14_87_222 : zz_D zy_tile_14_87 222 (.idiv) 1 223 := ⟨zq_108 zg_14_87_216.2.2.2.2.2.2.1, rfl⟩
theorem zd_14_87_223 : zz_D zy_tile_14_87 223 (.iload 6) 2 225 := ⟨zq_21 zg_14_87_216.2.2.2.2.2.2.2.1 zg_14_87_216.2.2.2.2.2.2.2.2.1, rfl⟩
theorem zd_14_87_225 : zz_D zy_tile_14_87 225 (.iload 5) 2 227 := ⟨zq_21 zg_14_87_216.2.2.2.2.2.2.2.2.2.1 zg_14_87_216.2.2.2.2.2.2.2.2.2.2.1, rfl⟩
theorem zd_14_87_227 : zz_D zy_tile_14_87 227 (.idiv) 1 228 := ⟨zq_108 zg_14_87_216.2.2.2.2.2.2.2.2.2.2.2.1, rfl⟩
theorem zd_14_87_228 : zz_D zy_tile_14_87 228 (.aload_n 0) 1 229 := ⟨zq_42 zg_14_87_216.2.2.2.2.2.2.2.2.2.2.2.2.1, rfl⟩
theorem zd_14_87_229 : zz_D zy_tile_14_87 229 (.getfield 112) 3 232 := ⟨zq_180 zg_14_87_216.2.2.2.2.2.2.2.2.2.2.2.2.2.1 zg_14_87_216.2.2.2.2.2.2.2.2.2.2.2.2.2.2.1 zg_14_87_216.2.2.2.2.2.2.2.2.2.2.2.2.2.2.2.1 rfl, rfl⟩
theorem zd_14_87_232 : zz_D zy_tile_14_87 232 (.iload_n 1) 1 233 := ⟨zq_27 zg_14_87_216.2.2.2.2.2.2.2.2.2.2.2.2.2.2.2.2.1, rfl⟩
theorem zd_14_87_233 : zz_D zy_tile_14_87 233 (.iaload) 1 234 := ⟨zq_46 zg_14_87_216.2.2.2.2.2.2.2.2.2.2.2.2.2.2.2.2.2.1, rfl⟩
theorem zd_14_87_234 : zz_D zy_tile_14_87 234 (.irem) 1 235 := ⟨zq_112 zg_14_87_216.2.2.2.2.2.2.2.2.2.2.2.2.2.2.2.2.2.2.1, rfl⟩
theorem zd_14_87_235 : zz_D zy_tile_14_87 235 (.iload 7) 2 237 := ⟨zq_21 zg_14_87_216.2.2.2.2.2.2.2.2.2.2.2.2.2.2.2.2.2.2.2.1 zg_14_87_216.2.2.2.2.2.2.2.2.2.2.2.2.2.2.2.2.2.2.2.2.1, rfl⟩
theorem zd_14_87_237 : zz_D zy_tile_14_87 237 (.iload 8) 2 239 := ⟨zq_21 zg_14_87_216.2.2.2.2.2.2.2.2.2.2.2.2.2.2.2.2.2.2.2.2.2.1 zg_14_87_216.2.2.2.2.2.2.2.2.2.2.2.2.2.2.2.2.2.2.2.2.2.2, rfl⟩
theorem zg_14_87_239 : zq_at zy_tile_14_87.2.1 239 21 ∧ zq_at zy_tile_14_87.2.1 240 6 ∧ zq_at zy_tile_14_87.2.1 241 154 ∧ zq_at zy_tile_14_87.2.1 242 0 ∧ zq_at zy_tile_14_87.2.1 243 7 ∧ zq_at zy_tile_14_87.2.1 248 3 ∧ zq_at zy_tile_14_87.2.1 249 182 ∧ zq_at zy_tile_14_87.2.1 250 1 ∧ zq_at zy_tile_14_87.2.1 251 242 ∧ zq_at zy_tile_14_87.2.1 252 42 ∧ zq_at zy_tile_14_87.2.1 253 27 ∧ zq_at zy_tile_14_87.2.1 254 21 ∧ zq_at zy_tile_14_87.2.1 255 8 ∧ zq_at zy_tile_14_87.2.1 256 21 ∧ zq_at zy_tile_14_87.2.1 257 6 ∧ zq_at zy_tile_14_87.2.1 258 154 ∧ zq_at zy_tile_14_87.2.1 259 0 ∧ zq_at zy_tile_14_87.2.1 260 7 ∧ zq_at zy_tile_14_87.2.1 265 3 ∧ zq_at zy_tile_14_87.2.1 266 21 ∧ zq_at zy_tile_14_87.2.1 267 6 ∧ zq_at zy_tile_14_87.2.1 268 21 ∧ zq_at zy_tile_14_87.2.1 269 4 := by decide +kernel
theorem zd_14_87_239 : zz_D zy_tile_14_87 239 (.iload 6) 2 241 := ⟨zq_21 zg_14_87_239.1 zg_14_87_239.2.1, rfl⟩
theorem zd_14_87_241 : zz_B zy_tile_14_87 241 (Instr.ifCond .ne) 248 244 := ⟨7, zq_154 zg_14_87_239.2.2.1 zg_14_87_239.2.2.2.1 zg_14_87_239.2.2.2.2.1 (by decide), rfl, rfl⟩
theorem zd_14_87_248 : zz_D zy_tile_14_87 248 (.iconst 0) 1 249 := ⟨zq_3 zg_14_87_239.2.2.2.2.2.1, rfl⟩
theorem zd_14_87_249 : zz_D zy_tile_14_87 249 (.invokevirtual 498) 3 252 := ⟨zq_182 zg_14_87_239.2.2.2.2.2.2.1 zg_14_87_239.2.2.2.2.2.2.2.1 zg_14_87_239.2.2.2.2.2.2.2.2.1 rfl, rfl⟩
theorem zd_14_87_252 : zz_D zy_tile_14_87 252 (.aload_n 0) 1 253 := ⟨zq_42 zg_14_87_239.2.2.2.2.2.2.2.2.2.1, rfl⟩
theorem zd_14_87_253 : zz_D zy_tile_14_87 253 (.iload_n 1) 1 254 := ⟨zq_27 zg_14_87_239.2.2.2.2.2.2.2.2.2.2.1, rfl⟩
theorem zd_14_87_254 : zz_D zy_tile_14_87 254 (.iload 8) 2 256 := ⟨zq_21 zg_14_87_239.2.2.2.2.2.2.2.2.2.2.2.1 zg_14_87_239.2.2.2.2.2.2.2.2.2.2.2.2.1, rfl⟩
theorem zd_14_87_256 : zz_D zy_tile_14_87 256 (.iload 6) 2 258 := ⟨zq_21 zg_14_87_239.2.2.2.2.2.2.2.2.2.2.2.2.2.1 zg_14_87_239.2.2.2.2.2.2.2.2.2.2.2.2.2.2.1, rfl⟩
theorem zd_14_87_258 : zz_B zy_tile_14_87 258 (Instr.ifCond .ne) 265 261 := ⟨7, zq_154 zg_14_87_239.2.2.2.2.2.2.2.2.2.2.2.2.2.2.2.1 zg_14_87_239.2.2.2.2.2.2.2.2.2.2.2.2.2.2.2.2.1 zg_14_87_239.2.2.2.2.2.2.2.2.2.2.2.2.2.2.2.2.2.1 (by decide), rfl, rfl⟩
theorem zd_14_87_265 : zz_D zy_tile_14_87 265 (.iconst 0) 1 266 := ⟨zq_3 zg_14_87_239.2.2.2.2.2.2.2.2.2.2.2.2.2.2.2.2.2.2.1, rfl⟩
theorem zd_14_87_266 : zz_D zy_tile_14_87 266 (.iload 6) 2 268 := ⟨zq_21 zg_14_87_239.2.2.2.2.2.2.2.2.2.2.2.2.2.2.2.2.2.2.2.1 zg_14_87_239.2.2.2.2.2.2.2.2.2.2.2.2.2.2.2.2.2.2.2.2.1, rfl⟩
theorem zd_14_87_268 : zz_D zy_tile_14_87 268 (.iload 4) 2 270 := ⟨zq_21 zg_14_87_239.2.2.2.2.2.2.2.2.2.2.2.2.2.2.2.2.2.2.2.2.2.1 zg_14_87_239.2.2.2.2.2.2.2.2.2.2.2.2.2.2.2.2.2.2.2.2.2.2, rfl⟩
theorem zg_14_87_270 : zq_at zy_tile_14_87.2.1 270 21 ∧ zq_at zy_tile_14_87.2.1 271 5 ∧ zq_at zy_tile_14_87.2.1 272 104 ∧ zq_at zy_tile_14_87.2.1 273 4 ∧ zq_at zy_tile_14_87.2.1 274 100 ∧ zq_at zy_tile_14_87.2.1 275 160 ∧ zq_at zy_tile_14_87.2.1 276 0 ∧ zq_at zy_tile_14_87.2.1 277 7 ∧ zq_at zy_tile_14_87.2.1 282 3 ∧ zq_at zy_tile_14_87.2.1 283 182 ∧ zq_at zy_tile_14_87.2.1 284 1 ∧ zq_at zy_tile_14_87.2.1 285 246 ∧ zq_at zy_tile_14_87.2.1 286 132 ∧ zq_at zy_tile_14_87.2.1 287 6 ∧ zq_at zy_tile_14_87.2.1 288 1 ∧ zq_at zy_tile_14_87.2.1 289 167 ∧ zq_at zy_tile_14_87.2.1 290 255 ∧ zq_at zy_tile_14_87.2.1 291 114 ∧ zq_at zy_tile_14_87.2.1 278 4 ∧ zq_at zy_tile_14_87.2.1 279 167 ∧ zq_at zy_tile_14_87.2.1 280 0 ∧ zq_at zy_tile_14_87.2.1 281 4 ∧ zq_at zy_tile_14_87.2.1 244 4 := by decide +kernel
theorem zd_14_87_270 : zz_D zy_tile_14_87 270 (.iload 5) 2 272 := ⟨zq_21 zg_14_87_270.1 zg_14_87_270.2.1, rfl⟩
theorem zd_14_87_272 : zz_D zy_tile_14_87 272 (.imul) 1 273 := ⟨zq_104 zg_14_87_270.2.2.1, rfl⟩
theorem zd_14_87_273 : zz_D zy_tile_14_87 273 (.iconst 1) 1 274 := ⟨zq_4 zg_14_87_270.2.2.2.1, rfl⟩
theorem zd_14_87_274 : zz_D zy_tile_14_87 274 (.isub) 1 275 := ⟨zq_100 zg_14_87_270.2.2.2.2.1, rfl⟩
theorem zd_14_87_275 : zz_B zy_tile_14_87 275 (Instr.if_icmp .ne) 282 278 := ⟨7, zq_160 zg_14_87_270.2.2.2.2.2.1 zg_14_87_270.2.2.2.2.2.2.1 zg_14_87_270.2.2.2.2.2.2.2.1 (by decide), rfl, rfl⟩
theorem zd_14_87_282 : zz_D zy_tile_14_87 282 (.iconst 0) 1 283 := ⟨zq_3 zg_14_87_270.2.2.2.2.2.2.2.2.1, rfl⟩
theorem zd_14_87_283 : zz_D zy_tile_14_87 283 (.invokevirtual 502) 3 286 := ⟨zq_182 zg_14_87_270.2.2.2.2.2.2.2.2.2.1 zg_14_87_270.2.2.2.2.2.2.2.2.2.2.1 zg_14_87_270.2.2.2.2.2.2.2.2.2.2.2.1 rfl, rfl⟩
theorem zd_14_87_286 : zz_D zy_tile_14_87 286 (.iinc 6 1) 3 289 := ⟨zq_132 zg_14_87_270.2.2.2.2.2.2.2.2.2.2.2.2.1 zg_14_87_270.2.2.2.2.2.2.2.2.2.2.2.2.2.1 zg_14_87_270.2.2.2.2.2.2.2.2.2.2.2.2.2.2.1 (by decide), rfl⟩
theorem zd_14_87_289 : zz_B zy_tile_14_87 289 Instr.goto 147 292 := ⟨(-142), zq_167 zg_14_87_270.2.2.2.2.2.2.2.2.2.2.2.2.2.2.2.1 zg_14_87_270.2.2.2.2.2.2.2.2.2.2.2.2.2.2.2.2.1 zg_14_87_270.2.2.2.2.2.2.2.2.2.2.2.2.2.2.2.2.2.1 (by decide), rfl, rfl⟩
theorem zd_14_87_278 : zz_D zy_tile_14_87 278 (.iconst 1) 1 279 := ⟨zq_4 zg_14_87_270.2.2.2.2.2.2.2.2.2.2.2.2.2.2.2.2.2.2.1, rfl⟩
theorem zd_14_87_279 : zz_B zy_tile_14_87 279 Instr.goto 283 282 := ⟨4, zq_167 zg_14_87_270.2.2.2.2.2.2.2.2.2.2.2.2.2.2.2.2.2.2.2.1 zg_14_87_270.2.2.2.2.2.2.2.2.2.2.2.2.2.2.2.2.2.2.2.2.1 zg_14_87_270.2.2.2.2.2.2.2.2.2.2.2.2.2.2.2.2.2.2.2.2.2.1 (by decide), rfl, rfl⟩
theorem zd_14_87_244 : zz_D zy_tile_14_87 244 (.iconst 1) 1 245 := ⟨zq_4 zg_14_87_270.2.2.2.2.2.2.2.2.2.2.2.2.2.2.2.2.2.2.2.2.2.2, rfl⟩
theorem zg_14_87_245 : zq_at zy_tile_14_87.2.1 245 167 ∧ zq_at zy_tile_14_87.2.1 246 0 ∧ zq_at zy_tile_14_87.2.1 247 4 ∧ zq_at zy_tile_14_87.2.1 261 4 ∧ zq_at zy_tile_14_87.2.1 262 167 ∧ zq_at zy_tile_14_87.2.1 263 0 ∧ zq_at zy_tile_14_87.2.1 264 4 ∧ zq_at zy_tile_14_87.2.1 385 42 ∧ zq_at zy_tile_14_87.2.1 386 16 ∧ zq_at zy_tile_14_87.2.1 387 8 ∧ zq_at zy_tile_14_87.2.1 388 42 ∧ zq_at zy_tile_14_87.2.1 389 180 ∧ zq_at zy_tile_14_87.2.1 390 0 ∧ zq_at zy_tile_14_87.2.1 391 97 ∧ zq_at zy_tile_14_87.2.1 392 29 ∧ zq_at zy_tile_14_87.2.1 393 46 ∧ zq_at zy_tile_14_87.2.1 394 21 ∧ zq_at zy_tile_14_87.2.1 395 4 ∧ zq_at zy_tile_14_87.2.1 396 42 ∧ zq_at zy_tile_14_87.2.1 397 180 ∧ zq_at zy_tile_14_87.2.1 398 0 ∧ zq_at zy_tile_14_87.2.1 399 94 ∧ zq_at zy_tile_14_87.2.1 400 29 ∧ zq_at zy_tile_14_87.2.1 401 46 := by decide +kernel
theorem zd_14_87_245 : zz_B zy_tile_14_87 245 Instr.goto 249 248 := ⟨4, zq_167 zg_14_87_245.1 zg_14_87_245.2.1 zg_14_87_245.2.2.1 (by decide), rfl, rfl⟩
theorem zd_14_87_261 : zz_D zy_tile_14_87 261 (.iconst 1) 1 262 := ⟨zq_4 zg_14_87_245.2.2.2.1, rfl⟩
theorem zd_14_87_262 : zz_B zy_tile_14_87 262 Instr.goto 266 265 := ⟨4, zq_167 zg_14_87_245.2.2.2.2.1 zg_14_87_245.2.2.2.2.2.1 zg_14_87_245.2.2.2.2.2.2.1 (by decide), rfl, rfl⟩
theorem zd_14_87_385 : zz_D zy_tile_14_87 385 (.aload_n 0) 1 386 := ⟨zq_42 zg_14_87_245.2.2.2.2.2.2.2.1, rfl⟩
theorem zd_14_87_386 : zz_D zy_tile_14_87 386 (.bipush 8) 2 388 := ⟨zq_16 zg_14_87_245.2.2.2.2.2.2.2.2.1 zg_14_87_245.2.2.2.2.2.2.2.2.2.1 (by decide), rfl⟩
theorem zd_14_87_388 : zz_D zy_tile_14_87 388 (.aload_n 0) 1 389 := ⟨zq_42 zg_14_87_245.2.2.2.2.2.2.2.2.2.2.1, rfl⟩
theorem zd_14_87_389 : zz_D zy_tile_14_87 389 (.getfield 97) 3 392 := ⟨zq_180 zg_14_87_245.2.2.2.2.2.2.2.2.2.2.2.1 zg_14_87_245.2.2.2.2.2.2.2.2.2.2.2.2.1 zg_14_87_245.2.2.2.2.2.2.2.2.2.2.2.2.2.1 rfl, rfl⟩
theorem zd_14_87_392 : zz_D zy_tile_14_87 392 (.iload_n 3) 1 393 := ⟨zq_29 zg_14_87_245.2.2.2.2.2.2.2.2.2.2.2.2.2.2.1, rfl⟩
theorem zd_14_87_393 : zz_D zy_tile_14_87 393 (.iaload) 1 394 := ⟨zq_46 zg_14_87_245.2.2.2.2.2.2.2.2.2.2.2.2.2.2.2.1, rfl⟩
theorem zd_14_87_394 : zz_D zy_tile_14_87 394 (.iload 4) 2 396 := ⟨zq_21 zg_14_87_245.2.2.2.2.2.2.2.2.2.2.2.2.2.2.2.2.1 zg_14_87_245.2.2.2.2.2.2.2.2.2.2.2.2.2.2.2.2.2.1, rfl⟩
theorem zd_14_87_396 : zz_D zy_tile_14_87 396 (.aload_n 0) 1 397 := ⟨zq_42 zg_14_87_245.2.2.2.2.2.2.2.2.2.2.2.2.2.2.2.2.2.2.1, rfl⟩
theorem zd_14_87_397 : zz_D zy_tile_14_87 397 (.getfield 94) 3 400 := ⟨zq_180 zg_14_87_245.2.2.2.2.2.2.2.2.2.2.2.2.2.2.2.2.2.2.2.1 zg_14_87_245.2.2.2.2.2.2.2.2.2.2.2.2.2.2.2.2.2.2.2.2.1 zg_14_87_245.2.2.2.2.2.2.2.2.2.2.2.2.2.2.2.2.2.2.2.2.2.1 rfl, rfl⟩
theorem zd_14_87_400 : zz_D zy_tile_14_87 400 (.iload_n 3) 1 401 := ⟨zq_29 zg_14_87_245.2.2.2.2.2.2.2.2.2.2.2.2.2.2.2.2.2.2.2.2.2.2.1, rfl⟩
theorem zd_14_87_401 : zz_D zy_tile_14_87 401 (.iaload) 1 402 := ⟨zq_46 zg_14_87_245.2.2.2.2.2.2.2.2.2.2.2.2.2.2.2.2.2.2.2.2.2.2.2, rfl⟩
theorem zg_14_87_402 : zq_at zy_tile_14_87.2.1 402 104 ∧ zq_at zy_tile_14_87.2.1 403 96 ∧ zq_at zy_tile_14_87.2.1 404 42 ∧ zq_at zy_tile_14_87.2.1 405 180 ∧ zq_at zy_tile_14_87.2.1 406 1 ∧ zq_at zy_tile_14_87.2.1 407 210 ∧ zq_at zy_tile_14_87.2.1 408 96 ∧ zq_at zy_tile_14_87.2.1 409 42 ∧ zq_at zy_tile_14_87.2.1 410 180 ∧ zq_at zy_tile_14_87.2.1 411 1 ∧ zq_at zy_tile_14_87.2.1 412 213 ∧ zq_at zy_tile_14_87.2.1 413 42 ∧ zq_at zy_tile_14_87.2.1 414 180 ∧ zq_at zy_tile_14_87.2.1 415 1 ∧ zq_at zy_tile_14_87.2.1 416 216 ∧ zq_at zy_tile_14_87.2.1 417 182 ∧ zq_at zy_tile_14_87.2.1 418 1 ∧ zq_at zy_tile_14_87.2.1 419 219 ∧ zq_at zy_tile_14_87.2.1 420 42 ∧ zq_at zy_tile_14_87.2.1 421 42 ∧ zq_at zy_tile_14_87.2.1 422 182 ∧ zq_at zy_tile_14_87.2.1 423 1 ∧ zq_at zy_tile_14_87.2.1 424 223 ∧ zq_at zy_tile_14_87.2.1 425 3 := by decide +kernel
theorem zd_14_87_402 : zz_D zy_tile_14_87 402 (.imul) 1 403 := ⟨zq_104 zg_14_87_402.1, rfl⟩
theorem zd_14_87_403 : zz_D zy_tile_14_87 403 (.iadd) 1 404 := ⟨zq_96 zg_14_87_402.2.1, rfl⟩
theorem zd_14_87_404 : zz_D zy_tile_14_87 404 (.aload_n 0) 1 405 := ⟨zq_42 zg_14_87_402.2.2.1, rfl⟩
theorem zd_14_87_405 : zz_D zy_tile_14_87 405 (.getfield 466) 3 408 := ⟨zq_180 zg_14_87_402.2.2.2.1 zg_14_87_402.2.2.2.2.1 zg_14_87_402.2.2.2.2.2.1 rfl, rfl⟩
theorem zd_14_87_408 : zz_D zy_tile_14_87 408 (.iadd) 1 409 := ⟨zq_96 zg_14_87_402.2.2.2.2.2.2.1, rfl⟩
theorem zd_14_87_409 : zz_D zy_tile_14_87 409 (.aload_n 0) 1 410 := ⟨zq_42 zg_14_87_402.2.2.2.2.2.2.2.1, rfl⟩
theorem zd_14_87_410 : zz_D zy_tile_14_87 410 (.getfield 469) 3 413 := ⟨zq_180 zg_14_87_402.2.2.2.2.2.2.2.2.1 zg_14_87_402.2.2.2.2.2.2.2.2.2.1 zg_14_87_402.2.2.2.2.2.2.2.2.2.2.1 rfl, rfl⟩
theorem zd_14_87_413 : zz_D zy_tile_14_87 413 (.aload_n 0) 1 414 := ⟨zq_42 zg_14_87_402.2.2.2.2.2.2.2.2.2.2.2.1, rfl⟩
theorem zd_14_87_414 : zz_D zy_tile_14_87 414 (.getfield 472) 3 417 := ⟨zq_180 zg_14_87_402.2.2.2.2.2.2.2.2.2.2.2.2.1 zg_14_87_402.2.2.2.2.2.2.2.2.2.2.2.2.2.1 zg_14_87_402.2.2.2.2.2.2.2.2.2.2.2.2.2.2.1 rfl, rfl⟩
theorem zd_14_87_417 : zz_D zy_tile_14_87 417 (.invokevirtual 475) 3 420 := ⟨zq_182 zg_14_87_402.2.2.2.2.2.2.2.2.2.2.2.2.2.2.2.1 zg_14_87_402.2.2.2.2.2.2.2.2.2.2.2.2.2.2.2.2.1 zg_14_87_402.2.2.2.2.2.2.2.2.2.2.2.2.2.2.2.2.2.1 rfl, rfl⟩
theorem zd_14_87_420 : zz_D zy_tile_14_87 420 (.aload_n 0) 1 421 := ⟨zq_42 zg_14_87_402.2.2.2.2.2.2.2.2.2.2.2.2.2.2.2.2.2.2.1, rfl⟩
theorem zd_14_87_421 : zz_D zy_tile_14_87 421 (.aload_n 0) 1 422 := ⟨zq_42 zg_14_87_402.2.2.2.2.2.2.2.2.2.2.2.2.2.2.2.2.2.2.2.1, rfl⟩
theorem zd_14_87_422 : zz_D zy_tile_14_87 422 (.invokevirtual 479) 3 425 := ⟨zq_182 zg_14_87_402.2.2.2.2.2.2.2.2.2.2.2.2.2.2.2.2.2.2.2.2.1 zg_14_87_402.2.2.2.2.2.2.2.2.2.2.2.2.2.2.2.2.2.2.2.2.2.1 zg_14_87_402.2.2.2.2.2.2.2.2.2.2.2.2.2.2.2.2.2.2.2.2.2.2.1 rfl, rfl⟩
theorem zd_14_87_425 : zz_D zy_tile_14_87 425 (.iconst 0) 1 426 := ⟨zq_3 zg_14_87_402.2.2.2.2.2.2.2.2.2.2.2.2.2.2.2.2.2.2.2.2.2.2.2, rfl⟩
theorem zg_14_87_426 : zq_at zy_tile_14_87.2.1 426 42 ∧ zq_at zy_tile_14_87.2.1 427 180 ∧ zq_at zy_tile_14_87.2.1 428 0 ∧ zq_at zy_tile_14_87.2.1 429 94 ∧ zq_at zy_tile_14_87.2.1 430 29 ∧ zq_at zy_tile_14_87.2.1 431 46 ∧ zq_at zy_tile_14_87.2.1 432 3 ∧ zq_at zy_tile_14_87.2.1 433 182 ∧ zq_at zy_tile_14_87.2.1 434 1 ∧ zq_at zy_tile_14_87.2.1 435 226 ∧ zq_at zy_tile_14_87.2.1 436 42 ∧ zq_at zy_tile_14_87.2.1 437 8 ∧ zq_at zy_tile_14_87.2.1 438 182 ∧ zq_at zy_tile_14_87.2.1 439 1 ∧ zq_at zy_tile_14_87.2.1 440 203 ∧ zq_at zy_tile_14_87.2.1 441 42 ∧ zq_at zy_tile_14_87.2.1 442 89 ∧ zq_at zy_tile_14_87.2.1 443 180 ∧ zq_at zy_tile_14_87.2.1 444 1 ∧ zq_at zy_tile_14_87.2.1 445 194 ∧ zq_at zy_tile_14_87.2.1 446 4 ∧ zq_at zy_tile_14_87.2.1 447 96 := by decide +kernel
theorem zd_14_87_426 : zz_D zy_tile_14_87 426 (.aload_n 0) 1 427 := ⟨zq_42 zg_14_87_426.1, rfl⟩
theorem zd_14_87_427 : zz_D zy_tile_14_87 427 (.getfield 94) 3 430 := ⟨zq_180 zg_14_87_426.2.1 zg_14_87_426.2.2.1 zg_14_87_426.2.2.2.1 rfl, rfl⟩
theorem zd_14_87_430 : zz_D zy_tile_14_87 430 (.iload_n 3) 1 431 := ⟨zq_29 zg_14_87_426.2.2.2.2.1, rfl⟩
theorem zd_14_87_431 : zz_D zy_tile_14_87 431 (.iaload) 1 432 := ⟨zq_46 zg_14_87_426.2.2.2.2.2.1, rfl⟩
theorem zd_14_87_432 : zz_D zy_tile_14_87 432 (.iconst 0) 1 433 := ⟨zq_3 zg_14_87_426.2.2.2.2.2.2.1, rfl⟩
theorem zd_14_87_433 : zz_D zy_tile_14_87 433 (.invokevirtual 482) 3 436 := ⟨zq_182 zg_14_87_426.2.2.2.2.2.2.2.1 zg_14_87_426.2.2.2.2.2.2.2.2.1 zg_14_87_426.2.2.2.2.2.2.2.2.2.1 rfl, rfl⟩
theorem zd_14_87_436 : zz_D zy_tile_14_87 436 (.aload_n 0) 1 437 := ⟨zq_42 zg_14_87_426.2.2.2.2.2.2.2.2.2.2.1, rfl⟩
theorem zd_14_87_437 : zz_D zy_tile_14_87 437 (.iconst 5) 1 438 := ⟨zq_8 zg_14_87_426.2.2.2.2.2.2.2.2.2.2.2.1, rfl⟩
theorem zd_14_87_438 : zz_D zy_tile_14_87 438 (.invokevirtual 459) 3 441 := ⟨zq_182 zg_14_87_426.2.2.2.2.2.2.2.2.2.2.2.2.1 zg_14_87_426.2.2.2.2.2.2.2.2.2.2.2.2.2.1 zg_14_87_426.2.2.2.2.2.2.2.2.2.2.2.2.2.2.1 rfl, rfl⟩
theorem zd_14_87_441 : zz_D zy_tile_14_87 441 (.aload_n 0) 1 442 := ⟨zq_42 zg_14_87_426.2.2.2.2.2.2.2.2.2.2.2.2.2.2.2.1, rfl⟩
theorem zd_14_87_442 : zz_D zy_tile_14_87 442 (.dup) 1 443 := ⟨zq_89 zg_14_87_426.2.2.2.2.2.2.2.2.2.2.2.2.2.2.2.2.1, rfl⟩
theorem zd_14_87_443 : zz_D zy_tile_14_87 443 (.getfield 450) 3 446 := ⟨zq_180 zg_14_87_426.2.2.2.2.2.2.2.2.2.2.2.2.2.2.2.2.2.1 zg_14_87_426.2.2.2.2.2.2.2.2.2.2.2.2.2.2.2.2.2.2.1 zg_14_87_426.2.2.2.2.2.2.2.2.2.2.2.2.2.2.2.2.2.2.2.1 rfl, rfl⟩
theorem zd_14_87_446 : zz_D zy_tile_14_87 446 (.iconst 1) 1 447 := ⟨zq_4 zg_14_87_426.2.2.2.2.2.2.2.2.2.2.2.2.2.2.2.2.2.2.2.2.1, rfl⟩
theorem zd_14_87_447 : zz_D zy_tile_14_87 447 (.iadd) 1 448 := ⟨zq_96 zg_14_87_426.2.2.2.2.2.2.2.2.2.2.2.2.2.2.2.2.2.2.2.2.2, rfl⟩
theorem zg_14_87_448 : zq_at zy_tile_14_87.2.1 448 181 ∧ zq_at zy_tile_14_87.2.1 449 1 ∧ zq_at zy_tile_14_87.2.1 450 194 ∧ zq_at zy_tile_14_87.2.1 451 177 ∧ zq_at zy_tile_14_87.2.1 44 3 ∧ zq_at zy_tile_14_87.2.1 62 3 ∧ zq_at zy_tile_14_87.2.1 68 4 ∧ zq_at zy_tile_14_87.2.1 69 167 ∧ zq_at zy_tile_14_87.2.1 70 0 ∧ zq_at zy_tile_14_87.2.1 71 4 ∧ zq_at zy_tile_14_87.2.1 161 42 ∧ zq_at zy_tile_14_87.2.1 162 180 ∧ zq_at zy_tile_14_87.2.1 163 1 ∧ zq_at zy_tile_14_87.2.1 164 210 ∧ zq_at zy_tile_14_87.2.1 165 167 ∧ zq_at zy_tile_14_87.2.1 166 0 ∧ zq_at zy_tile_14_87.2.1 167 13 ∧ zq_at zy_tile_14_87.2.1 184 42 ∧ zq_at zy_tile_14_87.2.1 185 180 ∧ zq_at zy_tile_14_87.2.1 186 1 ∧ zq_at zy_tile_14_87.2.1 187 216 ∧ zq_at zy_tile_14_87.2.1 188 167 ∧ zq_at zy_tile_14_87.2.1 189 0 ∧ zq_at zy_tile_14_87.2.1 190 19 := by decide +kernel
theorem zd_14_87_448 : zz_D zy_tile_14_87 448 (.putfield 450) 3 451 := ⟨zq_181 zg_14_87_448.1 zg_14_87_448.2.1 zg_14_87_448.2.2.1 rfl, rfl⟩
theorem zd_14_87_451 : zz_D zy_tile_14_87 451 (.return_) 1 452 := ⟨zq_177 zg_14_87_448.2.2.2.1, rfl⟩
theorem zd_14_87_44 : zz_D zy_tile_14_87 44 (.iconst 0) 1 45 := ⟨zq_3 zg_14_87_448.2.2.2.2.1, rfl⟩
theorem zd_14_87_62 : zz_D zy_tile_14_87 62 (.iconst 0) 1 63 := ⟨zq_3 zg_14_87_448.2.2.2.2.2.1, rfl⟩
theorem zd_14_87_68 : zz_D zy_tile_14_87 68 (.iconst 1) 1 69 := ⟨zq_4 zg_14_87_448.2.2.2.2.2.2.1, rfl⟩
theorem zd_14_87_69 : zz_B zy_tile_14_87 69 Instr.goto 73 72 := ⟨4, zq_167 zg_14_87_448.2.2.2.2.2.2.2.1 zg_14_87_448.2.2.2.2.2.2.2.2.1 zg_14_87_448.2.2.2.2.2.2.2.2.2.1 (by decide), rfl, rfl⟩
theorem zd_14_87_161 : zz_D zy_tile_14_87 161 (.aload_n 0) 1 162 := ⟨zq_42 zg_14_87_448.2.2.2.2.2.2.2.2.2.2.1, rfl⟩
theorem zd_14_87_162 : zz_D zy_tile_14_87 162 (.getfield 466) 3 165 := ⟨zq_180 zg_14_87_448.2.2.2.2.2.2.2.2.2.2.2.1 zg_14_87_448.2.2.2.2.2.2.2.2.2.2.2.2.1 zg_14_87_448.2.2.2.2.2.2.2.2.2.2.2.2.2.1 rfl, rfl⟩
theorem zd_14_87_165 : zz_B zy_tile_14_87 165 Instr.goto 178 168 := ⟨13, zq_167 zg_14_87_448.2.2.2.2.2.2.2.2.2.2.2.2.2.2.1 zg_14_87_448.2.2.2.2.2.2.2.2.2.2.2.2.2.2.2.1 zg_14_87_448.2.2.2.2.2.2.2.2.2.2.2.2.2.2.2.2.1 (by decide), rfl, rfl⟩
theorem zd_14_87_184 : zz_D zy_tile_14_87 184 (.aload_n 0) 1 185 := ⟨zq_42 zg_14_87_448.2.2.2.2.2.2.2.2.2.2.2.2.2.2.2.2.2.1, rfl⟩
theorem zd_14_87_185 : zz_D zy_tile_14_87 185 (.getfield 472) 3 188 := ⟨zq_180 zg_14_87_448.2.2.2.2.2.2.2.2.2.2.2.2.2.2.2.2.2.2.1 zg_14_87_448.2.2.2.2.2.2.2.2.2.2.2.2.2.2.2.2.2.2.2.1 zg_14_87_448.2.2.2.2.2.2.2.2.2.2.2.2.2.2.2.2.2.2.2.2.1 rfl, rfl⟩
theorem zd_14_87_188 : zz_B zy_tile_14_87 188 Instr.goto 207 191 := ⟨19, zq_167 zg_14_87_448.2.2.2.2.2.2.2.2.2.2.2.2.2.2.2.2.2.2.2.2.2.1 zg_14_87_448.2.2.2.2.2.2.2.2.2.2.2.2.2.2.2.2.2.2.2.2.2.2.1 zg_14_87_448.2.2.2.2.2.2.2.2.2.2.2.2.2.2.2.2.2.2.2.2.2.2.2 (by decide), rfl, rfl⟩
theorem zg_14_87_82 : zq_at zy_tile_14_87.2.1 82 167 ∧ zq_at zy_tile_14_87.2.1 83 0 ∧ zq_at zy_tile_14_87.2.1 84 210 := by decide +kernel
theorem zd_14_87_82 : zz_B zy_tile_14_87 82 Instr.goto 292 85 := ⟨210, zq_167 zg_14_87_82.1 zg_14_87_82.2.1 zg_14_87_82.2.2 (by decide), rfl, rfl⟩

-- TensorForgeModel takeMade ()V
abbrev zr_takeMade_14_56 : Room := { frames := 0, cells := 0, slots := 0, locals := 0 }
def zp_takeMade_14_56  (S0 : zz_S) : zz_S → Prop := fun S => zz_G S ∧ zz_fr [(1079, 7)] [1085] (fun _ _ => False) S0 S
theorem zb_takeMade_14_56_10 {g : mm_G} {l : Launch}  (S0 : zz_S) (n : Nat) (hn : zz_end ≤ n) (G_S0 : zz_G S0) (hq : S0 1079 10 ≤ 600) (x1 : Int) (S : zz_S) (G_S : zz_G S) (F_S : zz_fr [(1079, 7)] [1085] (fun _ _ => False) S0 S) (i10_0 : 0 ≤ x1 ∧ x1 ≤ 600) (R : Nat) (hR : (S 1079 7 - x1).toNat = R) (k10 : ∀ (x1 : Int) (S : zz_S), zz_G S → zz_fr [(1079, 7)] [1085] (fun _ _ => False) S0 S → (0 ≤ x1 ∧ x1 ≤ 600) → (S 1079 7 - x1).toNat < R → zz_E g l zy_takeMade_14_56 zr_takeMade_14_56 (zz_QV n (zp_takeMade_14_56  S0)) S n 10 [some (.ref 1079), some (zi x1)] [] 0 0) : zz_E g l zy_takeMade_14_56 zr_takeMade_14_56 (zz_QV n (zp_takeMade_14_56  S0)) S n 10 [some (.ref 1079), some (zi x1)] [] 0 0 := by
  refine zz_iload_n (x := x1) rfl zd_14_56_10 ?_
  refine zz_aload_n (x := 1079) rfl zd_14_56_11 ?_
  have g4 := zz_G.r G_S 1079 7 0 600 rfl rfl
  refine zz_geti (z := S 1079 7) zd_14_56_12 zf_Md_224 zT_1079 rfl (zz_ltn hn rfl) rfl ?_
  refine zz_icmp_ge (by omega) (by omega) zd_14_56_15 (fun c5 => ?_) (fun c5 => ?_)
  · exact zz_vret zd_14_56_36 rfl (Nat.zero_le _) (Nat.zero_le _) ⟨_, rfl, G_S, F_S⟩
  · refine zz_aload_n (x := 1079) rfl zd_14_56_18 ?_
    refine zz_getr (kd := 0) (z := 1085) zd_14_56_19 zf_Md_29 zT_1079 rfl (zz_ltn hn rfl) (zz_G.eq G_S 1079 8 1085 rfl rfl) (by decide) 1085 rfl ?_
    refine zz_iload_n (x := x1) rfl zd_14_56_22 ?_
    refine zz_aload_n (x := 1079) rfl zd_14_56_23 ?_
    refine zz_getr (kd := 0) (z := 1086) zd_14_56_24 zf_Md_33 zT_1079 rfl (zz_ltn hn rfl) (zz_G.eq G_S 1079 9 1086 rfl rfl) (by decide) 1086 rfl ?_
    refine zz_iload_n (x := x1) rfl zd_14_56_27 ?_
    have g6 := zz_G.r G_S0 1086 x1.toNat (-9223372036854775808) 9223372036854775807 rfl rfl
    refine zz_lald (z := S0 1086 x1.toNat) zd_14_56_28 zT_1086 rfl (zz_ltn hn rfl) (by decide) (by omega) (zz_rc F_S (zz_nc1 rfl) rfl (fun h => h) rfl) ?_
    refine zz_last zd_14_56_29 zT_1085 rfl (zz_ltn hn rfl) (by decide) (by omega) (fun S7 qS7 => ?_)
    have G_S7 := zz_G.put G_S qS7 (-9223372036854775808) 9223372036854775807 rfl (by omega)
    have F_S7 := zz_fr.putc F_S qS7 rfl
    refine zz_iinc [some (.ref 1079), some (zi (x1 + 1))] zd_14_56_30 rfl rfl ?_
    refine zz_goto zd_14_56_33 ?_
    have e8 : S7 1079 7 = S 1079 7 := (zz_ro qS7 (fun h => absurd h.1 (by decide)) rfl)
    refine zz_less (ls1 := [some (.ref 1079), some (zi (x1 + 1))]) ⟨rfl, ⟨rfl, trivial⟩⟩ ?_
    exact k10 (x1 + 1) S7 G_S7 F_S7 (by omega) (by omega)
theorem zi_takeMade_14_56 {g : mm_G} {l : Launch}  (S0 : zz_S) (n : Nat) (hn : zz_end ≤ n) (G_S0 : zz_G S0) (hq : S0 1079 10 ≤ 600) : ∀ N : Nat, (∀ (x1 : Int) (S : zz_S), zz_G S → zz_fr [(1079, 7)] [1085] (fun _ _ => False) S0 S → (0 ≤ x1 ∧ x1 ≤ 600) → (S 1079 7 - x1).toNat < N → zz_E g l zy_takeMade_14_56 zr_takeMade_14_56 (zz_QV n (zp_takeMade_14_56  S0)) S n 10 [some (.ref 1079), some (zi x1)] [] 0 0) := by
  intro N
  induction N with
  | zero => exact fun x1 S _ _ _ h => absurd h (Nat.not_lt_zero _)
  | succ N ih =>
    exact fun x1 S a b j0 hR => zb_takeMade_14_56_10  S0 n hn G_S0 hq x1 S a b j0 _ rfl (fun x1 S a b j0 h => ih x1 S a b j0 (Nat.lt_of_lt_of_le h (Nat.le_of_lt_succ hR)))
theorem zc_takeMade_14_56 {g : mm_G} {l : Launch}  (S0 : zz_S) (n : Nat) (hn : zz_end ≤ n) (G_S0 : zz_G S0) (hq : S0 1079 10 ≤ 600) : mm_Met g l zy_takeMade_14_56 zr_takeMade_14_56 [.ref 1079] (zz_M S0 n) n (zz_QV n (zp_takeMade_14_56  S0)) := by
  refine zz_enter (by decide) (Nat.le_of_ble_eq_true rfl) (zz_less (ls1 := [some (.ref 1079)]) ⟨rfl, trivial⟩ ?_)
  have F_S0 : zz_fr [(1079, 7)] [1085] (fun _ _ => False) S0 S0 := zz_fr.refl
  have k10 : ∀ (x1 : Int) (S : zz_S), zz_G S → zz_fr [(1079, 7)] [1085] (fun _ _ => False) S0 S → (0 ≤ x1 ∧ x1 ≤ 600) → zz_E g l zy_takeMade_14_56 zr_takeMade_14_56 (zz_QV n (zp_takeMade_14_56  S0)) S n 10 [some (.ref 1079), some (zi x1)] [] 0 0 := fun x1 S a b j0 => (zi_takeMade_14_56 (g := g) (l := l)  S0 n hn G_S0 hq _) x1 S a b j0 (Nat.lt_succ_self _)
  refine zz_aload_n (x := 1079) rfl zd_14_56_0 ?_
  refine zz_aload_n (x := 1079) rfl zd_14_56_1 ?_
  have g1 := zz_G.r G_S0 1079 10 0 1000000 rfl rfl
  refine zz_geti (z := S0 1079 10) zd_14_56_2 zf_Md_372 zT_1079 rfl (zz_ltn hn rfl) rfl ?_
  refine zz_puti zd_14_56_5 zf_Md_224 zT_1079 rfl (zz_ltn hn rfl) (fun S2 qS2 => ?_)
  have G_S2 := zz_G.put G_S0 qS2 0 600 rfl (by omega)
  have F_S2 := zz_fr.puts F_S0 qS2 rfl
  refine zz_iconst zd_14_56_8 ?_
  refine zz_istore_n [some (.ref 1079), some (zi 0)] zd_14_56_9 (by decide) rfl ?_
  have e3 : S2 1079 7 = S0 1079 10 := (zz_rs qS2)
  refine zz_less (ls1 := [some (.ref 1079), some (zi 0)]) ⟨rfl, ⟨rfl, trivial⟩⟩ ?_
  exact k10 0 S2 G_S2 F_S2 (by omega)
theorem zk_Md_382 : mm_Vl "TensorForgeModel" 382 11 0 zy_takeMade_14_56 := ⟨zyw_takeMade_14_56, (R_Md, F_Md, 69), rfl, mm_tb_1 2042 (by decide +kernel) rfl, mm_tb_1 2044 (by decide +kernel) rfl, mm_tb_s 114 (by decide +kernel) rfl⟩
theorem zk_Md_375 : mm_Vl "TensorForgeModel" 375 11 0 zy_readLine_14_54 := ⟨zyw_readLine_14_54, (R_Md, F_Md, 69), rfl, mm_tb_1 2011 (by decide +kernel) rfl, mm_tb_1 2013 (by decide +kernel) rfl, mm_tb_s 108 (by decide +kernel) rfl⟩
theorem zk_Md_378 : mm_Vl "TensorForgeModel" 378 11 0 zy_wordOfFields_14_53 := ⟨zyw_wordOfFields_14_53, (R_Md, F_Md, 69), rfl, mm_tb_1 2038 (by decide +kernel) rfl, mm_tb_1 2040 (by decide +kernel) rfl, mm_tb_s 113 (by decide +kernel) rfl⟩
theorem zg_14_55_164 : zq_at zy_assemble_14_55.2.1 164 2 ∧ zq_at zy_assemble_14_55.2.1 165 172 ∧ zq_at zy_assemble_14_55.2.1 22 28 ∧ zq_at zy_assemble_14_55.2.1 23 62 ∧ zq_at zy_assemble_14_55.2.1 24 29 ∧ zq_at zy_assemble_14_55.2.1 25 42 ∧ zq_at zy_assemble_14_55.2.1 26 180 ∧ zq_at zy_assemble_14_55.2.1 27 1 ∧ zq_at zy_assemble_14_55.2.1 28 75 ∧ zq_at zy_assemble_14_55.2.1 29 162 ∧ zq_at zy_assemble_14_55.2.1 30 0 ∧ zq_at zy_assemble_14_55.2.1 31 20 ∧ zq_at zy_assemble_14_55.2.1 49 42 ∧ zq_at zy_assemble_14_55.2.1 50 28 ∧ zq_at zy_assemble_14_55.2.1 51 181 ∧ zq_at zy_assemble_14_55.2.1 52 1 ∧ zq_at zy_assemble_14_55.2.1 53 81 ∧ zq_at zy_assemble_14_55.2.1 32 42 ∧ zq_at zy_assemble_14_55.2.1 33 180 ∧ zq_at zy_assemble_14_55.2.1 34 0 ∧ zq_at zy_assemble_14_55.2.1 35 76 ∧ zq_at zy_assemble_14_55.2.1 36 29 ∧ zq_at zy_assemble_14_55.2.1 37 46 := by decide +kernel
theorem zd_14_55_164 : zz_D zy_assemble_14_55 164 (.iconst (-1)) 1 165 := ⟨zq_2 zg_14_55_164.1, rfl⟩
theorem zd_14_55_165 : zz_D zy_assemble_14_55 165 (.ireturn) 1 166 := ⟨zq_172 zg_14_55_164.2.1, rfl⟩
theorem zd_14_55_22 : zz_D zy_assemble_14_55 22 (.iload_n 2) 1 23 := ⟨zq_28 zg_14_55_164.2.2.1, rfl⟩
theorem zd_14_55_23 : zz_D zy_assemble_14_55 23 (.istore_n 3) 1 24 := ⟨zq_62 zg_14_55_164.2.2.2.1, rfl⟩
theorem zd_14_55_24 : zz_D zy_assemble_14_55 24 (.iload_n 3) 1 25 := ⟨zq_29 zg_14_55_164.2.2.2.2.1, rfl⟩
theorem zd_14_55_25 : zz_D zy_assemble_14_55 25 (.aload_n 0) 1 26 := ⟨zq_42 zg_14_55_164.2.2.2.2.2.1, rfl⟩
theorem zd_14_55_26 : zz_D zy_assemble_14_55 26 (.getfield 331) 3 29 := ⟨zq_180 zg_14_55_164.2.2.2.2.2.2.1 zg_14_55_164.2.2.2.2.2.2.2.1 zg_14_55_164.2.2.2.2.2.2.2.2.1 rfl, rfl⟩
theorem zd_14_55_29 : zz_B zy_assemble_14_55 29 (Instr.if_icmp .ge) 49 32 := ⟨20, zq_162 zg_14_55_164.2.2.2.2.2.2.2.2.2.1 zg_14_55_164.2.2.2.2.2.2.2.2.2.2.1 zg_14_55_164.2.2.2.2.2.2.2.2.2.2.2.1 (by decide), rfl, rfl⟩
theorem zd_14_55_49 : zz_D zy_assemble_14_55 49 (.aload_n 0) 1 50 := ⟨zq_42 zg_14_55_164.2.2.2.2.2.2.2.2.2.2.2.2.1, rfl⟩
theorem zd_14_55_50 : zz_D zy_assemble_14_55 50 (.iload_n 2) 1 51 := ⟨zq_28 zg_14_55_164.2.2.2.2.2.2.2.2.2.2.2.2.2.1, rfl⟩
theorem zd_14_55_51 : zz_D zy_assemble_14_55 51 (.putfield 337) 3 54 := ⟨zq_181 zg_14_55_164.2.2.2.2.2.2.2.2.2.2.2.2.2.2.1 zg_14_55_164.2.2.2.2.2.2.2.2.2.2.2.2.2.2.2.1 zg_14_55_164.2.2.2.2.2.2.2.2.2.2.2.2.2.2.2.2.1 rfl, rfl⟩
theorem zd_14_55_32 : zz_D zy_assemble_14_55 32 (.aload_n 0) 1 33 := ⟨zq_42 zg_14_55_164.2.2.2.2.2.2.2.2.2.2.2.2.2.2.2.2.2.1, rfl⟩
theorem zd_14_55_33 : zz_D zy_assemble_14_55 33 (.getfield 76) 3 36 := ⟨zq_180 zg_14_55_164.2.2.2.2.2.2.2.2.2.2.2.2.2.2.2.2.2.2.1 zg_14_55_164.2.2.2.2.2.2.2.2.2.2.2.2.2.2.2.2.2.2.2.1 zg_14_55_164.2.2.2.2.2.2.2.2.2.2.2.2.2.2.2.2.2.2.2.2.1 rfl, rfl⟩
theorem zd_14_55_36 : zz_D zy_assemble_14_55 36 (.iload_n 3) 1 37 := ⟨zq_29 zg_14_55_164.2.2.2.2.2.2.2.2.2.2.2.2.2.2.2.2.2.2.2.2.2.1, rfl⟩
theorem zd_14_55_37 : zz_D zy_assemble_14_55 37 (.iaload) 1 38 := ⟨zq_46 zg_14_55_164.2.2.2.2.2.2.2.2.2.2.2.2.2.2.2.2.2.2.2.2.2.2, rfl⟩
theorem zg_14_55_38 : zq_at zy_assemble_14_55.2.1 38 16 ∧ zq_at zy_assemble_14_55.2.1 39 10 ∧ zq_at zy_assemble_14_55.2.1 40 159 ∧ zq_at zy_assemble_14_55.2.1 41 0 ∧ zq_at zy_assemble_14_55.2.1 42 9 ∧ zq_at zy_assemble_14_55.2.1 43 132 ∧ zq_at zy_assemble_14_55.2.1 44 3 ∧ zq_at zy_assemble_14_55.2.1 45 1 ∧ zq_at zy_assemble_14_55.2.1 46 167 ∧ zq_at zy_assemble_14_55.2.1 47 255 ∧ zq_at zy_assemble_14_55.2.1 48 234 ∧ zq_at zy_assemble_14_55.2.1 54 42 ∧ zq_at zy_assemble_14_55.2.1 55 180 ∧ zq_at zy_assemble_14_55.2.1 56 1 ∧ zq_at zy_assemble_14_55.2.1 57 81 ∧ zq_at zy_assemble_14_55.2.1 58 29 ∧ zq_at zy_assemble_14_55.2.1 59 162 ∧ zq_at zy_assemble_14_55.2.1 60 0 ∧ zq_at zy_assemble_14_55.2.1 61 30 ∧ zq_at zy_assemble_14_55.2.1 89 42 ∧ zq_at zy_assemble_14_55.2.1 90 28 ∧ zq_at zy_assemble_14_55.2.1 91 181 ∧ zq_at zy_assemble_14_55.2.1 92 1 ∧ zq_at zy_assemble_14_55.2.1 93 78 := by decide +kernel
theorem zd_14_55_38 : zz_D zy_assemble_14_55 38 (.bipush 10) 2 40 := ⟨zq_16 zg_14_55_38.1 zg_14_55_38.2.1 (by decide), rfl⟩
theorem zd_14_55_40 : zz_B zy_assemble_14_55 40 (Instr.if_icmp .eq) 49 43 := ⟨9, zq_159 zg_14_55_38.2.2.1 zg_14_55_38.2.2.2.1 zg_14_55_38.2.2.2.2.1 (by decide), rfl, rfl⟩
theorem zd_14_55_43 : zz_D zy_assemble_14_55 43 (.iinc 3 1) 3 46 := ⟨zq_132 zg_14_55_38.2.2.2.2.2.1 zg_14_55_38.2.2.2.2.2.2.1 zg_14_55_38.2.2.2.2.2.2.2.1 (by decide), rfl⟩
theorem zd_14_55_46 : zz_B zy_assemble_14_55 46 Instr.goto 24 49 := ⟨(-22), zq_167 zg_14_55_38.2.2.2.2.2.2.2.2.1 zg_14_55_38.2.2.2.2.2.2.2.2.2.1 zg_14_55_38.2.2.2.2.2.2.2.2.2.2.1 (by decide), rfl, rfl⟩
theorem zd_14_55_54 : zz_D zy_assemble_14_55 54 (.aload_n 0) 1 55 := ⟨zq_42 zg_14_55_38.2.2.2.2.2.2.2.2.2.2.2.1, rfl⟩
theorem zd_14_55_55 : zz_D zy_assemble_14_55 55 (.getfield 337) 3 58 := ⟨zq_180 zg_14_55_38.2.2.2.2.2.2.2.2.2.2.2.2.1 zg_14_55_38.2.2.2.2.2.2.2.2.2.2.2.2.2.1 zg_14_55_38.2.2.2.2.2.2.2.2.2.2.2.2.2.2.1 rfl, rfl⟩
theorem zd_14_55_58 : zz_D zy_assemble_14_55 58 (.iload_n 3) 1 59 := ⟨zq_29 zg_14_55_38.2.2.2.2.2.2.2.2.2.2.2.2.2.2.2.1, rfl⟩
theorem zd_14_55_59 : zz_B zy_assemble_14_55 59 (Instr.if_icmp .ge) 89 62 := ⟨30, zq_162 zg_14_55_38.2.2.2.2.2.2.2.2.2.2.2.2.2.2.2.2.1 zg_14_55_38.2.2.2.2.2.2.2.2.2.2.2.2.2.2.2.2.2.1 zg_14_55_38.2.2.2.2.2.2.2.2.2.2.2.2.2.2.2.2.2.2.1 (by decide), rfl, rfl⟩
theorem zd_14_55_89 : zz_D zy_assemble_14_55 89 (.aload_n 0) 1 90 := ⟨zq_42 zg_14_55_38.2.2.2.2.2.2.2.2.2.2.2.2.2.2.2.2.2.2.2.1, rfl⟩
theorem zd_14_55_90 : zz_D zy_assemble_14_55 90 (.iload_n 2) 1 91 := ⟨zq_28 zg_14_55_38.2.2.2.2.2.2.2.2.2.2.2.2.2.2.2.2.2.2.2.2.1, rfl⟩
theorem zd_14_55_91 : zz_D zy_assemble_14_55 91 (.putfield 334) 3 94 := ⟨zq_181 zg_14_55_38.2.2.2.2.2.2.2.2.2.2.2.2.2.2.2.2.2.2.2.2.2.1 zg_14_55_38.2.2.2.2.2.2.2.2.2.2.2.2.2.2.2.2.2.2.2.2.2.2.1 zg_14_55_38.2.2.2.2.2.2.2.2.2.2.2.2.2.2.2.2.2.2.2.2.2.2.2 rfl, rfl⟩
theorem zg_14_55_94 : zq_at zy_assemble_14_55.2.1 94 42 ∧ zq_at zy_assemble_14_55.2.1 95 182 ∧ zq_at zy_assemble_14_55.2.1 96 1 ∧ zq_at zy_assemble_14_55.2.1 97 119 ∧ zq_at zy_assemble_14_55.2.1 98 54 ∧ zq_at zy_assemble_14_55.2.1 99 4 ∧ zq_at zy_assemble_14_55.2.1 100 21 ∧ zq_at zy_assemble_14_55.2.1 101 4 ∧ zq_at zy_assemble_14_55.2.1 102 155 ∧ zq_at zy_assemble_14_55.2.1 103 0 ∧ zq_at zy_assemble_14_55.2.1 104 18 ∧ zq_at zy_assemble_14_55.2.1 120 27 ∧ zq_at zy_assemble_14_55.2.1 121 172 ∧ zq_at zy_assemble_14_55.2.1 105 21 ∧ zq_at zy_assemble_14_55.2.1 106 4 ∧ zq_at zy_assemble_14_55.2.1 107 158 ∧ zq_at zy_assemble_14_55.2.1 108 0 ∧ zq_at zy_assemble_14_55.2.1 109 15 ∧ zq_at zy_assemble_14_55.2.1 122 21 ∧ zq_at zy_assemble_14_55.2.1 123 4 ∧ zq_at zy_assemble_14_55.2.1 124 158 ∧ zq_at zy_assemble_14_55.2.1 125 0 ∧ zq_at zy_assemble_14_55.2.1 126 26 ∧ zq_at zy_assemble_14_55.2.1 150 29 := by decide +kernel
theorem zd_14_55_94 : zz_D zy_assemble_14_55 94 (.aload_n 0) 1 95 := ⟨zq_42 zg_14_55_94.1, rfl⟩
theorem zd_14_55_95 : zz_D zy_assemble_14_55 95 (.invokevirtual 375) 3 98 := ⟨zq_182 zg_14_55_94.2.1 zg_14_55_94.2.2.1 zg_14_55_94.2.2.2.1 rfl, rfl⟩
theorem zd_14_55_98 : zz_D zy_assemble_14_55 98 (.istore 4) 2 100 := ⟨zq_54 zg_14_55_94.2.2.2.2.1 zg_14_55_94.2.2.2.2.2.1, rfl⟩
theorem zd_14_55_100 : zz_D zy_assemble_14_55 100 (.iload 4) 2 102 := ⟨zq_21 zg_14_55_94.2.2.2.2.2.2.1 zg_14_55_94.2.2.2.2.2.2.2.1, rfl⟩
theorem zd_14_55_102 : zz_B zy_assemble_14_55 102 (Instr.ifCond .lt) 120 105 := ⟨18, zq_155 zg_14_55_94.2.2.2.2.2.2.2.2.1 zg_14_55_94.2.2.2.2.2.2.2.2.2.1 zg_14_55_94.2.2.2.2.2.2.2.2.2.2.1 (by decide), rfl, rfl⟩
theorem zd_14_55_120 : zz_D zy_assemble_14_55 120 (.iload_n 1) 1 121 := ⟨zq_27 zg_14_55_94.2.2.2.2.2.2.2.2.2.2.2.1, rfl⟩
theorem zd_14_55_121 : zz_D zy_assemble_14_55 121 (.ireturn) 1 122 := ⟨zq_172 zg_14_55_94.2.2.2.2.2.2.2.2.2.2.2.2.1, rfl⟩
theorem zd_14_55_105 : zz_D zy_assemble_14_55 105 (.iload 4) 2 107 := ⟨zq_21 zg_14_55_94.2.2.2.2.2.2.2.2.2.2.2.2.2.1 zg_14_55_94.2.2.2.2.2.2.2.2.2.2.2.2.2.2.1, rfl⟩
theorem zd_14_55_107 : zz_B zy_assemble_14_55 107 (Instr.ifCond .le) 122 110 := ⟨15, zq_158 zg_14_55_94.2.2.2.2.2.2.2.2.2.2.2.2.2.2.2.1 zg_14_55_94.2.2.2.2.2.2.2.2.2.2.2.2.2.2.2.2.1 zg_14_55_94.2.2.2.2.2.2.2.2.2.2.2.2.2.2.2.2.2.1 (by decide), rfl, rfl⟩
theorem zd_14_55_122 : zz_D zy_assemble_14_55 122 (.iload 4) 2 124 := ⟨zq_21 zg_14_55_94.2.2.2.2.2.2.2.2.2.2.2.2.2.2.2.2.2.2.1 zg_14_55_94.2.2.2.2.2.2.2.2.2.2.2.2.2.2.2.2.2.2.2.1, rfl⟩
theorem zd_14_55_124 : zz_B zy_assemble_14_55 124 (Instr.ifCond .le) 150 127 := ⟨26, zq_158 zg_14_55_94.2.2.2.2.2.2.2.2.2.2.2.2.2.2.2.2.2.2.2.2.1 zg_14_55_94.2.2.2.2.2.2.2.2.2.2.2.2.2.2.2.2.2.2.2.2.2.1 zg_14_55_94.2.2.2.2.2.2.2.2.2.2.2.2.2.2.2.2.2.2.2.2.2.2.1 (by decide), rfl, rfl⟩
theorem zd_14_55_150 : zz_D zy_assemble_14_55 150 (.iload_n 3) 1 151 := ⟨zq_29 zg_14_55_94.2.2.2.2.2.2.2.2.2.2.2.2.2.2.2.2.2.2.2.2.2.2.2, rfl⟩
theorem zg_14_55_151 : zq_at zy_assemble_14_55.2.1 151 4 ∧ zq_at zy_assemble_14_55.2.1 152 96 ∧ zq_at zy_assemble_14_55.2.1 153 61 ∧ zq_at zy_assemble_14_55.2.1 154 132 ∧ zq_at zy_assemble_14_55.2.1 155 1 ∧ zq_at zy_assemble_14_55.2.1 156 1 ∧ zq_at zy_assemble_14_55.2.1 157 167 ∧ zq_at zy_assemble_14_55.2.1 158 255 ∧ zq_at zy_assemble_14_55.2.1 159 113 ∧ zq_at zy_assemble_14_55.2.1 110 42 ∧ zq_at zy_assemble_14_55.2.1 111 180 ∧ zq_at zy_assemble_14_55.2.1 112 1 ∧ zq_at zy_assemble_14_55.2.1 113 116 ∧ zq_at zy_assemble_14_55.2.1 114 17 ∧ zq_at zy_assemble_14_55.2.1 115 2 ∧ zq_at zy_assemble_14_55.2.1 116 88 ∧ zq_at zy_assemble_14_55.2.1 117 160 ∧ zq_at zy_assemble_14_55.2.1 118 0 ∧ zq_at zy_assemble_14_55.2.1 119 5 ∧ zq_at zy_assemble_14_55.2.1 127 42 ∧ zq_at zy_assemble_14_55.2.1 128 180 ∧ zq_at zy_assemble_14_55.2.1 129 0 ∧ zq_at zy_assemble_14_55.2.1 130 33 ∧ zq_at zy_assemble_14_55.2.1 131 42 := by decide +kernel
theorem zd_14_55_151 : zz_D zy_assemble_14_55 151 (.iconst 1) 1 152 := ⟨zq_4 zg_14_55_151.1, rfl⟩
theorem zd_14_55_152 : zz_D zy_assemble_14_55 152 (.iadd) 1 153 := ⟨zq_96 zg_14_55_151.2.1, rfl⟩
theorem zd_14_55_153 : zz_D zy_assemble_14_55 153 (.istore_n 2) 1 154 := ⟨zq_61 zg_14_55_151.2.2.1, rfl⟩
theorem zd_14_55_154 : zz_D zy_assemble_14_55 154 (.iinc 1 1) 3 157 := ⟨zq_132 zg_14_55_151.2.2.2.1 zg_14_55_151.2.2.2.2.1 zg_14_55_151.2.2.2.2.2.1 (by decide), rfl⟩
theorem zd_14_55_157 : zz_B zy_assemble_14_55 157 Instr.goto 14 160 := ⟨(-143), zq_167 zg_14_55_151.2.2.2.2.2.2.1 zg_14_55_151.2.2.2.2.2.2.2.1 zg_14_55_151.2.2.2.2.2.2.2.2.1 (by decide), rfl, rfl⟩
theorem zd_14_55_110 : zz_D zy_assemble_14_55 110 (.aload_n 0) 1 111 := ⟨zq_42 zg_14_55_151.2.2.2.2.2.2.2.2.2.1, rfl⟩
theorem zd_14_55_111 : zz_D zy_assemble_14_55 111 (.getfield 372) 3 114 := ⟨zq_180 zg_14_55_151.2.2.2.2.2.2.2.2.2.2.1 zg_14_55_151.2.2.2.2.2.2.2.2.2.2.2.1 zg_14_55_151.2.2.2.2.2.2.2.2.2.2.2.2.1 rfl, rfl⟩
theorem zd_14_55_114 : zz_D zy_assemble_14_55 114 (.sipush 600) 3 117 := ⟨zq_17 zg_14_55_151.2.2.2.2.2.2.2.2.2.2.2.2.2.1 zg_14_55_151.2.2.2.2.2.2.2.2.2.2.2.2.2.2.1 zg_14_55_151.2.2.2.2.2.2.2.2.2.2.2.2.2.2.2.1 (by decide), rfl⟩
theorem zd_14_55_117 : zz_B zy_assemble_14_55 117 (Instr.if_icmp .ne) 122 120 := ⟨5, zq_160 zg_14_55_151.2.2.2.2.2.2.2.2.2.2.2.2.2.2.2.2.1 zg_14_55_151.2.2.2.2.2.2.2.2.2.2.2.2.2.2.2.2.2.1 zg_14_55_151.2.2.2.2.2.2.2.2.2.2.2.2.2.2.2.2.2.2.1 (by decide), rfl, rfl⟩
theorem zd_14_55_127 : zz_D zy_assemble_14_55 127 (.aload_n 0) 1 128 := ⟨zq_42 zg_14_55_151.2.2.2.2.2.2.2.2.2.2.2.2.2.2.2.2.2.2.2.1, rfl⟩
theorem zd_14_55_128 : zz_D zy_assemble_14_55 128 (.getfield 33) 3 131 := ⟨zq_180 zg_14_55_151.2.2.2.2.2.2.2.2.2.2.2.2.2.2.2.2.2.2.2.2.1 zg_14_55_151.2.2.2.2.2.2.2.2.2.2.2.2.2.2.2.2.2.2.2.2.2.1 zg_14_55_151.2.2.2.2.2.2.2.2.2.2.2.2.2.2.2.2.2.2.2.2.2.2.1 rfl, rfl⟩
theorem zd_14_55_131 : zz_D zy_assemble_14_55 131 (.aload_n 0) 1 132 := ⟨zq_42 zg_14_55_151.2.2.2.2.2.2.2.2.2.2.2.2.2.2.2.2.2.2.2.2.2.2.2, rfl⟩
theorem zg_14_55_132 : zq_at zy_assemble_14_55.2.1 132 180 ∧ zq_at zy_assemble_14_55.2.1 133 1 ∧ zq_at zy_assemble_14_55.2.1 134 116 ∧ zq_at zy_assemble_14_55.2.1 135 42 ∧ zq_at zy_assemble_14_55.2.1 136 182 ∧ zq_at zy_assemble_14_55.2.1 137 1 ∧ zq_at zy_assemble_14_55.2.1 138 122 ∧ zq_at zy_assemble_14_55.2.1 139 80 ∧ zq_at zy_assemble_14_55.2.1 140 42 ∧ zq_at zy_assemble_14_55.2.1 141 89 ∧ zq_at zy_assemble_14_55.2.1 142 180 ∧ zq_at zy_assemble_14_55.2.1 143 1 ∧ zq_at zy_assemble_14_55.2.1 144 116 ∧ zq_at zy_assemble_14_55.2.1 145 4 ∧ zq_at zy_assemble_14_55.2.1 146 96 ∧ zq_at zy_assemble_14_55.2.1 147 181 ∧ zq_at zy_assemble_14_55.2.1 148 1 ∧ zq_at zy_assemble_14_55.2.1 149 116 ∧ zq_at zy_assemble_14_55.2.1 62 42 ∧ zq_at zy_assemble_14_55.2.1 63 180 ∧ zq_at zy_assemble_14_55.2.1 64 0 ∧ zq_at zy_assemble_14_55.2.1 65 76 ∧ zq_at zy_assemble_14_55.2.1 66 42 := by decide +kernel
theorem zd_14_55_132 : zz_D zy_assemble_14_55 132 (.getfield 372) 3 135 := ⟨zq_180 zg_14_55_132.1 zg_14_55_132.2.1 zg_14_55_132.2.2.1 rfl, rfl⟩
theorem zd_14_55_135 : zz_D zy_assemble_14_55 135 (.aload_n 0) 1 136 := ⟨zq_42 zg_14_55_132.2.2.2.1, rfl⟩
theorem zd_14_55_136 : zz_D zy_assemble_14_55 136 (.invokevirtual 378) 3 139 := ⟨zq_182 zg_14_55_132.2.2.2.2.1 zg_14_55_132.2.2.2.2.2.1 zg_14_55_132.2.2.2.2.2.2.1 rfl, rfl⟩
theorem zd_14_55_139 : zz_D zy_assemble_14_55 139 (.lastore) 1 140 := ⟨zq_80 zg_14_55_132.2.2.2.2.2.2.2.1, rfl⟩
theorem zd_14_55_140 : zz_D zy_assemble_14_55 140 (.aload_n 0) 1 141 := ⟨zq_42 zg_14_55_132.2.2.2.2.2.2.2.2.1, rfl⟩
theorem zd_14_55_141 : zz_D zy_assemble_14_55 141 (.dup) 1 142 := ⟨zq_89 zg_14_55_132.2.2.2.2.2.2.2.2.2.1, rfl⟩
theorem zd_14_55_142 : zz_D zy_assemble_14_55 142 (.getfield 372) 3 145 := ⟨zq_180 zg_14_55_132.2.2.2.2.2.2.2.2.2.2.1 zg_14_55_132.2.2.2.2.2.2.2.2.2.2.2.1 zg_14_55_132.2.2.2.2.2.2.2.2.2.2.2.2.1 rfl, rfl⟩
theorem zd_14_55_145 : zz_D zy_assemble_14_55 145 (.iconst 1) 1 146 := ⟨zq_4 zg_14_55_132.2.2.2.2.2.2.2.2.2.2.2.2.2.1, rfl⟩
theorem zd_14_55_146 : zz_D zy_assemble_14_55 146 (.iadd) 1 147 := ⟨zq_96 zg_14_55_132.2.2.2.2.2.2.2.2.2.2.2.2.2.2.1, rfl⟩
theorem zd_14_55_147 : zz_D zy_assemble_14_55 147 (.putfield 372) 3 150 := ⟨zq_181 zg_14_55_132.2.2.2.2.2.2.2.2.2.2.2.2.2.2.2.1 zg_14_55_132.2.2.2.2.2.2.2.2.2.2.2.2.2.2.2.2.1 zg_14_55_132.2.2.2.2.2.2.2.2.2.2.2.2.2.2.2.2.2.1 rfl, rfl⟩
theorem zd_14_55_62 : zz_D zy_assemble_14_55 62 (.aload_n 0) 1 63 := ⟨zq_42 zg_14_55_132.2.2.2.2.2.2.2.2.2.2.2.2.2.2.2.2.2.2.1, rfl⟩
theorem zd_14_55_63 : zz_D zy_assemble_14_55 63 (.getfield 76) 3 66 := ⟨zq_180 zg_14_55_132.2.2.2.2.2.2.2.2.2.2.2.2.2.2.2.2.2.2.2.1 zg_14_55_132.2.2.2.2.2.2.2.2.2.2.2.2.2.2.2.2.2.2.2.2.1 zg_14_55_132.2.2.2.2.2.2.2.2.2.2.2.2.2.2.2.2.2.2.2.2.2.1 rfl, rfl⟩
theorem zd_14_55_66 : zz_D zy_assemble_14_55 66 (.aload_n 0) 1 67 := ⟨zq_42 zg_14_55_132.2.2.2.2.2.2.2.2.2.2.2.2.2.2.2.2.2.2.2.2.2.2, rfl⟩
theorem zg_14_55_67 : zq_at zy_assemble_14_55.2.1 67 180 ∧ zq_at zy_assemble_14_55.2.1 68 1 ∧ zq_at zy_assemble_14_55.2.1 69 81 ∧ zq_at zy_assemble_14_55.2.1 70 46 ∧ zq_at zy_assemble_14_55.2.1 71 16 ∧ zq_at zy_assemble_14_55.2.1 72 35 ∧ zq_at zy_assemble_14_55.2.1 73 159 ∧ zq_at zy_assemble_14_55.2.1 74 0 ∧ zq_at zy_assemble_14_55.2.1 75 16 ∧ zq_at zy_assemble_14_55.2.1 76 42 ∧ zq_at zy_assemble_14_55.2.1 77 89 ∧ zq_at zy_assemble_14_55.2.1 78 180 ∧ zq_at zy_assemble_14_55.2.1 79 1 ∧ zq_at zy_assemble_14_55.2.1 80 81 ∧ zq_at zy_assemble_14_55.2.1 81 4 ∧ zq_at zy_assemble_14_55.2.1 82 96 ∧ zq_at zy_assemble_14_55.2.1 83 181 ∧ zq_at zy_assemble_14_55.2.1 84 1 ∧ zq_at zy_assemble_14_55.2.1 85 81 ∧ zq_at zy_assemble_14_55.2.1 86 167 ∧ zq_at zy_assemble_14_55.2.1 87 255 ∧ zq_at zy_assemble_14_55.2.1 88 224 := by decide +kernel
theorem zd_14_55_67 : zz_D zy_assemble_14_55 67 (.getfield 337) 3 70 := ⟨zq_180 zg_14_55_67.1 zg_14_55_67.2.1 zg_14_55_67.2.2.1 rfl, rfl⟩
theorem zd_14_55_70 : zz_D zy_assemble_14_55 70 (.iaload) 1 71 := ⟨zq_46 zg_14_55_67.2.2.2.1, rfl⟩
theorem zd_14_55_71 : zz_D zy_assemble_14_55 71 (.bipush 35) 2 73 := ⟨zq_16 zg_14_55_67.2.2.2.2.1 zg_14_55_67.2.2.2.2.2.1 (by decide), rfl⟩
theorem zd_14_55_73 : zz_B zy_assemble_14_55 73 (Instr.if_icmp .eq) 89 76 := ⟨16, zq_159 zg_14_55_67.2.2.2.2.2.2.1 zg_14_55_67.2.2.2.2.2.2.2.1 zg_14_55_67.2.2.2.2.2.2.2.2.1 (by decide), rfl, rfl⟩
theorem zd_14_55_76 : zz_D zy_assemble_14_55 76 (.aload_n 0) 1 77 := ⟨zq_42 zg_14_55_67.2.2.2.2.2.2.2.2.2.1, rfl⟩
theorem zd_14_55_77 : zz_D zy_assemble_14_55 77 (.dup) 1 78 := ⟨zq_89 zg_14_55_67.2.2.2.2.2.2.2.2.2.2.1, rfl⟩
theorem zd_14_55_78 : zz_D zy_assemble_14_55 78 (.getfield 337) 3 81 := ⟨zq_180 zg_14_55_67.2.2.2.2.2.2.2.2.2.2.2.1 zg_14_55_67.2.2.2.2.2.2.2.2.2.2.2.2.1 zg_14_55_67.2.2.2.2.2.2.2.2.2.2.2.2.2.1 rfl, rfl⟩
theorem zd_14_55_81 : zz_D zy_assemble_14_55 81 (.iconst 1) 1 82 := ⟨zq_4 zg_14_55_67.2.2.2.2.2.2.2.2.2.2.2.2.2.2.1, rfl⟩
theorem zd_14_55_82 : zz_D zy_assemble_14_55 82 (.iadd) 1 83 := ⟨zq_96 zg_14_55_67.2.2.2.2.2.2.2.2.2.2.2.2.2.2.2.1, rfl⟩
theorem zd_14_55_83 : zz_D zy_assemble_14_55 83 (.putfield 337) 3 86 := ⟨zq_181 zg_14_55_67.2.2.2.2.2.2.2.2.2.2.2.2.2.2.2.2.1 zg_14_55_67.2.2.2.2.2.2.2.2.2.2.2.2.2.2.2.2.2.1 zg_14_55_67.2.2.2.2.2.2.2.2.2.2.2.2.2.2.2.2.2.2.1 rfl, rfl⟩
theorem zd_14_55_86 : zz_B zy_assemble_14_55 86 Instr.goto 54 89 := ⟨(-32), zq_167 zg_14_55_67.2.2.2.2.2.2.2.2.2.2.2.2.2.2.2.2.2.2.2.1 zg_14_55_67.2.2.2.2.2.2.2.2.2.2.2.2.2.2.2.2.2.2.2.2.1 zg_14_55_67.2.2.2.2.2.2.2.2.2.2.2.2.2.2.2.2.2.2.2.2.2 (by decide), rfl, rfl⟩
-- TensorForgeModel assemble ()I
abbrev zr_assemble_14_55 : Room := { frames := 5, cells := 0, slots := 0, locals := 78 }
def zp_assemble_14_55  (S0 : zz_S) : Int → zz_S → Prop := fun r S => zz_G S ∧ zz_fr [(1079, 0), (1079, 7), (1079, 10), (1079, 30), (1079, 31), (1079, 32), (1079, 33), (1087, 0), (1087, 1), (1087, 2), (1087, 3), (1087, 4), (1087, 5), (1087, 6), (1087, 7), (1087, 8), (1087, 9), (1087, 10), (1087, 11)] [1085, 1086] (fun _ _ => False) S0 S ∧ ((-1) ≤ r ∧ r ≤ 1501) ∧ (r = zt_as (S0 1099) (S0 1079 28) 1502 0 0 0)
theorem zb_assemble_14_55_14 {g : mm_G} {l : Launch}  (S0 : zz_S) (n : Nat) (hn : zz_end ≤ n) (G_S0 : zz_G S0) (hN : ∀ w : Nat, 1 ≤ w → w ≤ 20 → S0 1100 w = zt_cd (zt_nw.getD w [])) (x1 : Int) (x2 : Int) (S : zz_S) (G_S : zz_G S) (F_S : zz_fr [(1079, 0), (1079, 7), (1079, 10), (1079, 30), (1079, 31), (1079, 32), (1079, 33), (1087, 0), (1087, 1), (1087, 2), (1087, 3), (1087, 4), (1087, 5), (1087, 6), (1087, 7), (1087, 8), (1087, 9), (1087, 10), (1087, 11)] [1085, 1086] (fun _ _ => False) S0 S) (i14_0 : 0 ≤ x1 ∧ x1 ≤ 1501) (i14_1 : 0 ≤ x2 ∧ x2 ≤ 1501) (i14_2 : x1 ≤ x2) (i14_3 : S 1079 10 ≤ 600) (i14_4 : zt_as (S0 1099) (S0 1079 28) (1502 - x1).toNat x2 x1 (S 1079 10) = zt_as (S0 1099) (S0 1079 28) 1502 0 0 0) (R : Nat) (hR : (51539607552 + (S0 1079 28 + 1 - x2).toNat) * 1099511627776 + 1099511627775 = R) (k24 : ∀ (x1 : Int) (x2 : Int) (x3 : Int) (S : zz_S), zz_G S → zz_fr [(1079, 0), (1079, 7), (1079, 10), (1079, 30), (1079, 31), (1079, 32), (1079, 33), (1087, 0), (1087, 1), (1087, 2), (1087, 3), (1087, 4), (1087, 5), (1087, 6), (1087, 7), (1087, 8), (1087, 9), (1087, 10), (1087, 11)] [1085, 1086] (fun _ _ => False) S0 S → (0 ≤ x1 ∧ x1 ≤ 1501) → (0 ≤ x2 ∧ x2 ≤ 1500) → (0 ≤ x3 ∧ x3 ≤ 1500) → (0 ≤ x2 ∧ x2 ≤ 1501) → (x1 ≤ x2) → (x1 ≤ x2) → (x2 ≤ x3) → (x3 ≤ S0 1079 28) → (S 1079 10 ≤ 600) → (zt_as (S0 1099) (S0 1079 28) (1502 - x1).toNat x2 x1 (S 1079 10) = zt_as (S0 1099) (S0 1079 28) 1502 0 0 0) → (zt_U 10 (S0 1099) (S0 1079 28) x3 = zt_U 10 (S0 1099) (S0 1079 28) x2) → (51539607552 + (S0 1079 28 + 1 - x2).toNat) * 1099511627776 + (34359738368 + (S0 1079 28 - x3).toNat) < R → zz_E g l zy_assemble_14_55 zr_assemble_14_55 (zz_QI n (zp_assemble_14_55  S0)) S n 24 [some (.ref 1079), some (zi x1), some (zi x2), some (zi x3)] [] 0 0) : zz_E g l zy_assemble_14_55 zr_assemble_14_55 (zz_QI n (zp_assemble_14_55  S0)) S n 14 [some (.ref 1079), some (zi x1), some (zi x2)] [] 0 0 := by
  refine zz_iload_n (x := x2) rfl zd_14_55_14 ?_
  refine zz_aload_n (x := 1079) rfl zd_14_55_15 ?_
  have g5 := zz_G.r G_S0 1079 28 0 1500 rfl rfl
  refine zz_geti (z := S0 1079 28) zd_14_55_16 zf_Md_331 zT_1079 rfl (zz_ltn hn rfl) (zz_rc F_S rfl rfl (fun h => h) rfl) ?_
  refine zz_icmp_gt (by omega) (by omega) zd_14_55_19 (fun c6 => ?_) (fun c6 => ?_)
  · refine zz_aload_n (x := 1079) rfl zd_14_55_160 ?_
    have g7 := zz_G.r G_S 1079 10 0 1000000 rfl rfl
    refine zz_callVV [] zd_14_55_161 zk_Md_382 zT_1079 (zz_ltn hn rfl) rfl rfl ⟨Nat.le_of_ble_eq_true rfl, Nat.le_of_ble_eq_true rfl⟩ ⟨rfl, rfl⟩ (Nat.zero_le _) (Nat.zero_le _) (zc_takeMade_14_56  S n hn G_S (by omega)) (fun S8 hP => ?_)
    obtain ⟨G_S8, fS8⟩ := hP
    have F_S8 := zz_fr.trans F_S fS8 rfl zz_nv
    refine zz_iconst zd_14_55_164 ?_
    exact zz_iret zd_14_55_165 rfl (Nat.zero_le _) (Nat.zero_le _) ⟨_, _, rfl, G_S8, F_S8, by omega, (by have h9 := i14_4; rw [show (1502 - x1).toNat = (1502 - (x1 + 1)).toNat + 1 by omega, zt_as1, if_pos (by omega)] at h9; exact h9)⟩
  · refine zz_iload_n (x := x2) rfl zd_14_55_22 ?_
    refine zz_istore_n [some (.ref 1079), some (zi x1), some (zi x2), some (zi x2)] zd_14_55_23 (by decide) rfl ?_
    have g10 := zz_G.r G_S 1079 10 0 1000000 rfl rfl
    refine zz_less (ls1 := [some (.ref 1079), some (zi x1), some (zi x2), some (zi x2)]) ⟨rfl, ⟨rfl, ⟨rfl, ⟨rfl, trivial⟩⟩⟩⟩ ?_
    exact k24 x1 x2 x2 S G_S F_S (by omega) (by omega) (by omega) (by omega) (by omega) (by omega) (by omega) (by omega) (by omega) i14_4 (by exact rfl) (by omega)
theorem zb_assemble_14_55_24 {g : mm_G} {l : Launch}  (S0 : zz_S) (n : Nat) (hn : zz_end ≤ n) (G_S0 : zz_G S0) (hN : ∀ w : Nat, 1 ≤ w → w ≤ 20 → S0 1100 w = zt_cd (zt_nw.getD w [])) (x1 : Int) (x2 : Int) (x3 : Int) (S : zz_S) (G_S : zz_G S) (F_S : zz_fr [(1079, 0), (1079, 7), (1079, 10), (1079, 30), (1079, 31), (1079, 32), (1079, 33), (1087, 0), (1087, 1), (1087, 2), (1087, 3), (1087, 4), (1087, 5), (1087, 6), (1087, 7), (1087, 8), (1087, 9), (1087, 10), (1087, 11)] [1085, 1086] (fun _ _ => False) S0 S) (i24_0 : 0 ≤ x1 ∧ x1 ≤ 1501) (i24_1 : 0 ≤ x2 ∧ x2 ≤ 1500) (i24_2 : 0 ≤ x3 ∧ x3 ≤ 1500) (i24_3 : 0 ≤ x2 ∧ x2 ≤ 1501) (i24_4 : x1 ≤ x2) (i24_5 : x1 ≤ x2) (i24_6 : x2 ≤ x3) (i24_7 : x3 ≤ S0 1079 28) (i24_8 : S 1079 10 ≤ 600) (i24_9 : zt_as (S0 1099) (S0 1079 28) (1502 - x1).toNat x2 x1 (S 1079 10) = zt_as (S0 1099) (S0 1079 28) 1502 0 0 0) (i24_10 : zt_U 10 (S0 1099) (S0 1079 28) x3 = zt_U 10 (S0 1099) (S0 1079 28) x2) (R : Nat) (hR : (51539607552 + (S0 1079 28 + 1 - x2).toNat) * 1099511627776 + (34359738368 + (S0 1079 28 - x3).toNat) = R) (k24 : ∀ (x1 : Int) (x2 : Int) (x3 : Int) (S : zz_S), zz_G S → zz_fr [(1079, 0), (1079, 7), (1079, 10), (1079, 30), (1079, 31), (1079, 32), (1079, 33), (1087, 0), (1087, 1), (1087, 2), (1087, 3), (1087, 4), (1087, 5), (1087, 6), (1087, 7), (1087, 8), (1087, 9), (1087, 10), (1087, 11)] [1085, 1086] (fun _ _ => False) S0 S → (0 ≤ x1 ∧ x1 ≤ 1501) → (0 ≤ x2 ∧ x2 ≤ 1500) → (0 ≤ x3 ∧ x3 ≤ 1500) → (0 ≤ x2 ∧ x2 ≤ 1501) → (x1 ≤ x2) → (x1 ≤ x2) → (x2 ≤ x3) → (x3 ≤ S0 1079 28) → (S 1079 10 ≤ 600) → (zt_as (S0 1099) (S0 1079 28) (1502 - x1).toNat x2 x1 (S 1079 10) = zt_as (S0 1099) (S0 1079 28) 1502 0 0 0) → (zt_U 10 (S0 1099) (S0 1079 28) x3 = zt_U 10 (S0 1099) (S0 1079 28) x2) → (51539607552 + (S0 1079 28 + 1 - x2).toNat) * 1099511627776 + (34359738368 + (S0 1079 28 - x3).toNat) < R → zz_E g l zy_assemble_14_55 zr_assemble_14_55 (zz_QI n (zp_assemble_14_55  S0)) S n 24 [some (.ref 1079), some (zi x1), some (zi x2), some (zi x3)] [] 0 0) (k54 : ∀ (x1 : Int) (x2 : Int) (x3 : Int) (S : zz_S), zz_G S → zz_fr [(1079, 0), (1079, 7), (1079, 10), (1079, 30), (1079, 31), (1079, 32), (1079, 33), (1087, 0), (1087, 1), (1087, 2), (1087, 3), (1087, 4), (1087, 5), (1087, 6), (1087, 7), (1087, 8), (1087, 9), (1087, 10), (1087, 11)] [1085, 1086] (fun _ _ => False) S0 S → (0 ≤ x1 ∧ x1 ≤ 1501) → (0 ≤ x2 ∧ x2 ≤ 1500) → (0 ≤ x3 ∧ x3 ≤ 1500) → (0 ≤ x2 ∧ x2 ≤ 1501) → (x1 ≤ x2) → (x2 ≤ x3) → (x3 ≤ S0 1079 28) → (x1 ≤ x2) → (x2 ≤ x3) → (x3 ≤ S0 1079 28) → (S 1079 10 ≤ 600) → (zt_as (S0 1099) (S0 1079 28) (1502 - x1).toNat x2 x1 (S 1079 10) = zt_as (S0 1099) (S0 1079 28) 1502 0 0 0) → (x3 = zt_U 10 (S0 1099) (S0 1079 28) x2) → (zt_U 35 (S0 1099) x3 (S 1079 33) = zt_U 35 (S0 1099) x3 x2) → (x2 ≤ S 1079 33 ∧ S 1079 33 ≤ x3) → (51539607552 + (S0 1079 28 + 1 - x2).toNat) * 1099511627776 + (17179869184 + (x3 - S 1079 33).toNat) < R → zz_E g l zy_assemble_14_55 zr_assemble_14_55 (zz_QI n (zp_assemble_14_55  S0)) S n 54 [some (.ref 1079), some (zi x1), some (zi x2), some (zi x3)] [] 0 0) : zz_E g l zy_assemble_14_55 zr_assemble_14_55 (zz_QI n (zp_assemble_14_55  S0)) S n 24 [some (.ref 1079), some (zi x1), some (zi x2), some (zi x3)] [] 0 0 := by
  refine zz_iload_n (x := x3) rfl zd_14_55_24 ?_
  refine zz_aload_n (x := 1079) rfl zd_14_55_25 ?_
  have g11 := zz_G.r G_S0 1079 28 0 1500 rfl rfl
  refine zz_geti (z := S0 1079 28) zd_14_55_26 zf_Md_331 zT_1079 rfl (zz_ltn hn rfl) (zz_rc F_S rfl rfl (fun h => h) rfl) ?_
  refine zz_icmp_ge (by omega) (by omega) zd_14_55_29 (fun c12 => ?_) (fun c12 => ?_)
  · refine zz_aload_n (x := 1079) rfl zd_14_55_49 ?_
    refine zz_iload_n (x := x2) rfl zd_14_55_50 ?_
    refine zz_puti zd_14_55_51 zf_Md_337 zT_1079 rfl (zz_ltn hn rfl) (fun S13 qS13 => ?_)
    have G_S13 := zz_G.put G_S qS13 0 1500 rfl (by omega)
    have F_S13 := zz_fr.puts F_S qS13 rfl
    have g14 := zz_G.r G_S 1079 10 0 1000000 rfl rfl
    have e15 : S13 1079 10 = S 1079 10 := (zz_ro qS13 (fun h => absurd h.2 (by decide)) rfl)
    have e16 : S13 1079 33 = x2 := (zz_rs qS13)
    exact k54 x1 x2 x3 S13 G_S13 F_S13 (by omega) (by omega) (by omega) (by omega) (by omega) (by omega) (by omega) (by omega) (by omega) (by omega) (by omega) (by rw [show S13 1079 10 = S 1079 10 by omega]; exact i24_9) ((zt_U0 (by omega)).symm.trans i24_10) (by rw [show S13 1079 33 = x2 by omega]) (by omega) (by omega)
  · refine zz_aload_n (x := 1079) rfl zd_14_55_32 ?_
    refine zz_getr (kd := 0) (z := 1099) zd_14_55_33 zf_Md_76 zT_1079 rfl (zz_ltn hn rfl) (zz_G.eq G_S 1079 27 1099 rfl rfl) (by decide) 1099 rfl ?_
    refine zz_iload_n (x := x3) rfl zd_14_55_36 ?_
    have g17 := zz_G.r G_S0 1099 x3.toNat 0 255 rfl rfl
    refine zz_iald (z := S0 1099 x3.toNat) zd_14_55_37 zT_1099 rfl (zz_ltn hn rfl) (by decide) (by omega) (zz_rc F_S (zz_nc1 rfl) rfl (fun h => h) rfl) ?_
    refine zz_bipush (by decide) zd_14_55_38 ?_
    refine zz_icmp_eq (by omega) (by omega) zd_14_55_40 (fun c18 => ?_) (fun c18 => ?_)
    · refine zz_aload_n (x := 1079) rfl zd_14_55_49 ?_
      refine zz_iload_n (x := x2) rfl zd_14_55_50 ?_
      refine zz_puti zd_14_55_51 zf_Md_337 zT_1079 rfl (zz_ltn hn rfl) (fun S19 qS19 => ?_)
      have G_S19 := zz_G.put G_S qS19 0 1500 rfl (by omega)
      have F_S19 := zz_fr.puts F_S qS19 rfl
      have g20 := zz_G.r G_S 1079 10 0 1000000 rfl rfl
      have e21 : S19 1079 10 = S 1079 10 := (zz_ro qS19 (fun h => absurd h.2 (by decide)) rfl)
      have e22 : S19 1079 33 = x2 := (zz_rs qS19)
      exact k54 x1 x2 x3 S19 G_S19 F_S19 (by omega) (by omega) (by omega) (by omega) (by omega) (by omega) (by omega) (by omega) (by omega) (by omega) (by omega) (by rw [show S19 1079 10 = S 1079 10 by omega]; exact i24_9) ((zt_U0 (by omega)).symm.trans i24_10) (by rw [show S19 1079 33 = x2 by omega]) (by omega) (by omega)
    · refine zz_iinc [some (.ref 1079), some (zi x1), some (zi x2), some (zi (x3 + 1))] zd_14_55_43 rfl rfl ?_
      refine zz_goto zd_14_55_46 ?_
      have g23 := zz_G.r G_S 1079 10 0 1000000 rfl rfl
      refine zz_less (ls1 := [some (.ref 1079), some (zi x1), some (zi x2), some (zi (x3 + 1))]) ⟨rfl, ⟨rfl, ⟨rfl, ⟨rfl, trivial⟩⟩⟩⟩ ?_
      exact k24 x1 x2 (x3 + 1) S G_S F_S (by omega) (by omega) (by omega) (by omega) (by omega) (by omega) (by omega) (by omega) (by omega) i24_9 ((zt_US (by omega) (by omega)).trans i24_10) (by omega)
theorem zb_assemble_14_55_54 {g : mm_G} {l : Launch}  (S0 : zz_S) (n : Nat) (hn : zz_end ≤ n) (G_S0 : zz_G S0) (hN : ∀ w : Nat, 1 ≤ w → w ≤ 20 → S0 1100 w = zt_cd (zt_nw.getD w [])) (x1 : Int) (x2 : Int) (x3 : Int) (S : zz_S) (G_S : zz_G S) (F_S : zz_fr [(1079, 0), (1079, 7), (1079, 10), (1079, 30), (1079, 31), (1079, 32), (1079, 33), (1087, 0), (1087, 1), (1087, 2), (1087, 3), (1087, 4), (1087, 5), (1087, 6), (1087, 7), (1087, 8), (1087, 9), (1087, 10), (1087, 11)] [1085, 1086] (fun _ _ => False) S0 S) (i54_0 : 0 ≤ x1 ∧ x1 ≤ 1501) (i54_1 : 0 ≤ x2 ∧ x2 ≤ 1500) (i54_2 : 0 ≤ x3 ∧ x3 ≤ 1500) (i54_3 : 0 ≤ x2 ∧ x2 ≤ 1501) (i54_4 : x1 ≤ x2) (i54_5 : x2 ≤ x3) (i54_6 : x3 ≤ S0 1079 28) (i54_7 : x1 ≤ x2) (i54_8 : x2 ≤ x3) (i54_9 : x3 ≤ S0 1079 28) (i54_10 : S 1079 10 ≤ 600) (i54_11 : zt_as (S0 1099) (S0 1079 28) (1502 - x1).toNat x2 x1 (S 1079 10) = zt_as (S0 1099) (S0 1079 28) 1502 0 0 0) (i54_12 : x3 = zt_U 10 (S0 1099) (S0 1079 28) x2) (i54_13 : zt_U 35 (S0 1099) x3 (S 1079 33) = zt_U 35 (S0 1099) x3 x2) (i54_14 : x2 ≤ S 1079 33 ∧ S 1079 33 ≤ x3) (R : Nat) (hR : (51539607552 + (S0 1079 28 + 1 - x2).toNat) * 1099511627776 + (17179869184 + (x3 - S 1079 33).toNat) = R) (k14 : ∀ (x1 : Int) (x2 : Int) (S : zz_S), zz_G S → zz_fr [(1079, 0), (1079, 7), (1079, 10), (1079, 30), (1079, 31), (1079, 32), (1079, 33), (1087, 0), (1087, 1), (1087, 2), (1087, 3), (1087, 4), (1087, 5), (1087, 6), (1087, 7), (1087, 8), (1087, 9), (1087, 10), (1087, 11)] [1085, 1086] (fun _ _ => False) S0 S → (0 ≤ x1 ∧ x1 ≤ 1501) → (0 ≤ x2 ∧ x2 ≤ 1501) → (x1 ≤ x2) → (S 1079 10 ≤ 600) → (zt_as (S0 1099) (S0 1079 28) (1502 - x1).toNat x2 x1 (S 1079 10) = zt_as (S0 1099) (S0 1079 28) 1502 0 0 0) → (51539607552 + (S0 1079 28 + 1 - x2).toNat) * 1099511627776 + 1099511627775 < R → zz_E g l zy_assemble_14_55 zr_assemble_14_55 (zz_QI n (zp_assemble_14_55  S0)) S n 14 [some (.ref 1079), some (zi x1), some (zi x2)] [] 0 0) (k54 : ∀ (x1 : Int) (x2 : Int) (x3 : Int) (S : zz_S), zz_G S → zz_fr [(1079, 0), (1079, 7), (1079, 10), (1079, 30), (1079, 31), (1079, 32), (1079, 33), (1087, 0), (1087, 1), (1087, 2), (1087, 3), (1087, 4), (1087, 5), (1087, 6), (1087, 7), (1087, 8), (1087, 9), (1087, 10), (1087, 11)] [1085, 1086] (fun _ _ => False) S0 S → (0 ≤ x1 ∧ x1 ≤ 1501) → (0 ≤ x2 ∧ x2 ≤ 1500) → (0 ≤ x3 ∧ x3 ≤ 1500) → (0 ≤ x2 ∧ x2 ≤ 1501) → (x1 ≤ x2) → (x2 ≤ x3) → (x3 ≤ S0 1079 28) → (x1 ≤ x2) → (x2 ≤ x3) → (x3 ≤ S0 1079 28) → (S 1079 10 ≤ 600) → (zt_as (S0 1099) (S0 1079 28) (1502 - x1).toNat x2 x1 (S 1079 10) = zt_as (S0 1099) (S0 1079 28) 1502 0 0 0) → (x3 = zt_U 10 (S0 1099) (S0 1079 28) x2) → (zt_U 35 (S0 1099) x3 (S 1079 33) = zt_U 35 (S0 1099) x3 x2) → (x2 ≤ S 1079 33 ∧ S 1079 33 ≤ x3) → (51539607552 + (S0 1079 28 + 1 - x2).toNat) * 1099511627776 + (17179869184 + (x3 - S 1079 33).toNat) < R → zz_E g l zy_assemble_14_55 zr_assemble_14_55 (zz_QI n (zp_assemble_14_55  S0)) S n 54 [some (.ref 1079), some (zi x1), some (zi x2), some (zi x3)] [] 0 0) : zz_E g l zy_assemble_14_55 zr_assemble_14_55 (zz_QI n (zp_assemble_14_55  S0)) S n 54 [some (.ref 1079), some (zi x1), some (zi x2), some (zi x3)] [] 0 0 := by
  refine zz_aload_n (x := 1079) rfl zd_14_55_54 ?_
  have g24 := zz_G.r G_S 1079 33 0 1500 rfl rfl
  refine zz_geti (z := S 1079 33) zd_14_55_55 zf_Md_337 zT_1079 rfl (zz_ltn hn rfl) rfl ?_
  refine zz_iload_n (x := x3) rfl zd_14_55_58 ?_
  refine zz_icmp_ge (by omega) (by omega) zd_14_55_59 (fun c25 => ?_) (fun c25 => ?_)
  · have hc9 : S 1079 33 = zt_U 35 (S0 1099) x3 x2 := (zt_U0 (by omega)).symm.trans i54_13
    refine zz_aload_n (x := 1079) rfl zd_14_55_89 ?_
    refine zz_iload_n (x := x2) rfl zd_14_55_90 ?_
    refine zz_puti zd_14_55_91 zf_Md_334 zT_1079 rfl (zz_ltn hn rfl) (fun S26 qS26 => ?_)
    have G_S26 := zz_G.put G_S qS26 0 1500 rfl (by omega)
    have F_S26 := zz_fr.puts F_S qS26 rfl
    refine zz_aload_n (x := 1079) rfl zd_14_55_94 ?_
    have e27 : S26 1079 32 = x2 := (zz_rs qS26)
    have e28 : S26 1079 33 = S 1079 33 := (zz_ro qS26 (fun h => absurd h.2 (by decide)) rfl)
    refine zz_callVI [] zd_14_55_95 zk_Md_375 zT_1079 (zz_ltn hn rfl) rfl rfl ⟨Nat.le_of_ble_eq_true rfl, Nat.le_of_ble_eq_true rfl⟩ ⟨rfl, rfl⟩ (Nat.zero_le _) (Nat.zero_le _) (zc_readLine_14_54  S26 n hn G_S26 (fun u h1 h2 => ((zz_ro qS26 (fun h => absurd h.1 (by decide)) (zz_rc F_S (zz_nc1 rfl) rfl (fun h => h) rfl))).trans (hN u h1 h2))) (fun v30 S29 hP => ?_)
    obtain ⟨G_S29, fS29, o31, o32⟩ := hP
    rw [show S26 1099 = S0 1099 from funext (fun u => (zz_ro qS26 (fun h => absurd h.1 (by decide)) (zz_rc F_S (zz_nc1 rfl) rfl (fun h => h) rfl))), show S26 1079 33 = S 1079 33 from (zz_ro qS26 (fun h => absurd h.2 (by decide)) rfl), show S26 1079 32 = x2 from (zz_rs qS26)] at o32
    have F_S29 := zz_fr.trans F_S26 fS29 rfl zz_nv
    have hl9 : v30 = zt_li (zt_tk (S0 1099) x3) (zt_te (S0 1099) x3) (zt_tv (S0 1099) x3) x2 := o32.trans (zt_lie (s := x2) (c := S 1079 33) (fun p h1 h2 => zt_eq (e := x3) (s := x2) hc9 (by omega) h1 h2) (by omega))
    refine zz_istore [some (.ref 1079), some (zi x1), some (zi x2), some (zi x3), some (zi v30)] zd_14_55_98 (by decide) rfl ?_
    refine zz_iload (x := v30) rfl zd_14_55_100 ?_
    refine zz_if_lt (by omega) zd_14_55_102 (fun c33 => ?_) (fun c33 => ?_)
    · refine zz_iload_n (x := x1) rfl zd_14_55_120 ?_
      exact zz_iret zd_14_55_121 rfl (Nat.zero_le _) (Nat.zero_le _) ⟨_, _, rfl, G_S29, F_S29, by omega, (by have h9 := i54_11; rw [show (1502 - x1).toNat = (1502 - (x1 + 1)).toNat + 1 by omega, zt_as1, if_neg (by omega), ← i54_12, ← hl9, if_pos (by omega)] at h9; exact h9)⟩
    · refine zz_iload (x := v30) rfl zd_14_55_105 ?_
      refine zz_if_le (by omega) zd_14_55_107 (fun c34 => ?_) (fun c34 => ?_)
      · refine zz_iload (x := v30) rfl zd_14_55_122 ?_
        refine zz_if_le (by omega) zd_14_55_124 (fun c35 => ?_) (fun c35 => ?_)
        · refine zz_iload_n (x := x3) rfl zd_14_55_150 ?_
          refine zz_iconst zd_14_55_151 ?_
          refine zz_iadd zd_14_55_152 ?_
          refine zz_istore_n [some (.ref 1079), some (zi x1), some (zi (x3 + 1)), some (zi x3), some (zi v30)] zd_14_55_153 (by decide) rfl ?_
          refine zz_iinc [some (.ref 1079), some (zi (x1 + 1)), some (zi (x3 + 1)), some (zi x3), some (zi v30)] zd_14_55_154 rfl rfl ?_
          refine zz_goto zd_14_55_157 ?_
          have g36 := zz_G.r G_S 1079 10 0 1000000 rfl rfl
          have e37 : S29 1079 10 = S 1079 10 := (zz_rc fS29 rfl rfl (fun h => h) (zz_ro qS26 (fun h => absurd h.2 (by decide)) rfl))
          have g38 := zz_G.r G_S0 1079 28 0 1500 rfl rfl
          refine zz_less (ls1 := [some (.ref 1079), some (zi (x1 + 1)), some (zi (x3 + 1))]) ⟨rfl, ⟨rfl, ⟨rfl, trivial⟩⟩⟩ ?_
          exact k14 (x1 + 1) (x3 + 1) S29 G_S29 F_S29 (by omega) (by omega) (by omega) (by omega) (by have h9 := i54_11; rw [show (1502 - x1).toNat = (1502 - (x1 + 1)).toNat + 1 by omega, zt_as1, if_neg (by omega), ← i54_12, ← hl9, if_neg (by omega)] at h9; rw [show S29 1079 10 = S 1079 10 + v30 by omega]; exact h9) (by omega)
        · exfalso; omega
      · refine zz_aload_n (x := 1079) rfl zd_14_55_110 ?_
        have g39 := zz_G.r G_S 1079 10 0 1000000 rfl rfl
        refine zz_geti (z := S 1079 10) zd_14_55_111 zf_Md_372 zT_1079 rfl (zz_ltn hn rfl) (zz_rc fS29 rfl rfl (fun h => h) (zz_ro qS26 (fun h => absurd h.2 (by decide)) rfl)) ?_
        refine zz_sipush (by decide) zd_14_55_114 ?_
        refine zz_icmp_ne (by omega) (by omega) zd_14_55_117 (fun c40 => ?_) (fun c40 => ?_)
        · refine zz_iload (x := v30) rfl zd_14_55_122 ?_
          refine zz_if_le (by omega) zd_14_55_124 (fun c41 => ?_) (fun c41 => ?_)
          · exfalso; omega
          · refine zz_aload_n (x := 1079) rfl zd_14_55_127 ?_
            refine zz_getr (kd := 0) (z := 1086) zd_14_55_128 zf_Md_33 zT_1079 rfl (zz_ltn hn rfl) (zz_G.eq G_S29 1079 9 1086 rfl rfl) (by decide) 1086 rfl ?_
            refine zz_aload_n (x := 1079) rfl zd_14_55_131 ?_
            refine zz_geti (z := S 1079 10) zd_14_55_132 zf_Md_372 zT_1079 rfl (zz_ltn hn rfl) (zz_rc fS29 rfl rfl (fun h => h) (zz_ro qS26 (fun h => absurd h.2 (by decide)) rfl)) ?_
            refine zz_aload_n (x := 1079) rfl zd_14_55_135 ?_
            refine zz_callVJ [] zd_14_55_136 zk_Md_378 zT_1079 (zz_ltn hn rfl) rfl rfl ⟨Nat.le_of_ble_eq_true rfl, Nat.le_of_ble_eq_true rfl⟩ ⟨rfl, rfl⟩ (Nat.zero_le _) (Nat.zero_le _) (zc_wordOfFields_14_53  S29 n hn G_S29 ) (fun v43 S42 hP => ?_)
            obtain ⟨rfl, o44⟩ := hP
            refine zz_last zd_14_55_139 zT_1086 rfl (zz_ltn hn rfl) (by decide) (by omega) (fun S45 qS45 => ?_)
            have G_S45 := zz_G.put G_S29 qS45 (-9223372036854775808) 9223372036854775807 rfl (by omega)
            have F_S45 := zz_fr.putc F_S29 qS45 rfl
            refine zz_aload_n (x := 1079) rfl zd_14_55_140 ?_
            refine zz_dup rfl zd_14_55_141 ?_
            refine zz_geti (z := S 1079 10) zd_14_55_142 zf_Md_372 zT_1079 rfl (zz_ltn hn rfl) (zz_ro qS45 (fun h => absurd h.1 (by decide)) (zz_rc fS29 rfl rfl (fun h => h) (zz_ro qS26 (fun h => absurd h.2 (by decide)) rfl))) ?_
            refine zz_iconst zd_14_55_145 ?_
            refine zz_iadd zd_14_55_146 ?_
            refine zz_puti zd_14_55_147 zf_Md_372 zT_1079 rfl (zz_ltn hn rfl) (fun S46 qS46 => ?_)
            have G_S46 := zz_G.put G_S45 qS46 0 1000000 rfl (by omega)
            have F_S46 := zz_fr.puts F_S45 qS46 rfl
            refine zz_iload_n (x := x3) rfl zd_14_55_150 ?_
            refine zz_iconst zd_14_55_151 ?_
            refine zz_iadd zd_14_55_152 ?_
            refine zz_istore_n [some (.ref 1079), some (zi x1), some (zi (x3 + 1)), some (zi x3), some (zi v30)] zd_14_55_153 (by decide) rfl ?_
            refine zz_iinc [some (.ref 1079), some (zi (x1 + 1)), some (zi (x3 + 1)), some (zi x3), some (zi v30)] zd_14_55_154 rfl rfl ?_
            refine zz_goto zd_14_55_157 ?_
            have e47 : S46 1079 10 = (S 1079 10) + 1 := (zz_rs qS46)
            have g48 := zz_G.r G_S0 1079 28 0 1500 rfl rfl
            refine zz_less (ls1 := [some (.ref 1079), some (zi (x1 + 1)), some (zi (x3 + 1))]) ⟨rfl, ⟨rfl, ⟨rfl, trivial⟩⟩⟩ ?_
            exact k14 (x1 + 1) (x3 + 1) S46 G_S46 F_S46 (by omega) (by omega) (by omega) (by omega) (by have h9 := i54_11; rw [show (1502 - x1).toNat = (1502 - (x1 + 1)).toNat + 1 by omega, zt_as1, if_neg (by omega), ← i54_12, ← hl9, if_neg (by omega)] at h9; rw [show S46 1079 10 = S 1079 10 + v30 by omega]; exact h9) (by omega)
        · refine zz_iload_n (x := x1) rfl zd_14_55_120 ?_
          exact zz_iret zd_14_55_121 rfl (Nat.zero_le _) (Nat.zero_le _) ⟨_, _, rfl, G_S29, F_S29, by omega, (by have h9 := i54_11; rw [show (1502 - x1).toNat = (1502 - (x1 + 1)).toNat + 1 by omega, zt_as1, if_neg (by omega), ← i54_12, ← hl9, if_pos (by omega)] at h9; exact h9)⟩
  · refine zz_aload_n (x := 1079) rfl zd_14_55_62 ?_
    refine zz_getr (kd := 0) (z := 1099) zd_14_55_63 zf_Md_76 zT_1079 rfl (zz_ltn hn rfl) (zz_G.eq G_S 1079 27 1099 rfl rfl) (by decide) 1099 rfl ?_
    refine zz_aload_n (x := 1079) rfl zd_14_55_66 ?_
    refine zz_geti (z := S 1079 33) zd_14_55_67 zf_Md_337 zT_1079 rfl (zz_ltn hn rfl) rfl ?_
    have g49 := zz_G.r G_S0 1099 ((S 1079 33).toNat) 0 255 rfl rfl
    refine zz_iald (z := S0 1099 ((S 1079 33).toNat)) zd_14_55_70 zT_1099 rfl (zz_ltn hn rfl) (by decide) (by omega) (zz_rc F_S (zz_nc1 rfl) rfl (fun h => h) rfl) ?_
    refine zz_bipush (by decide) zd_14_55_71 ?_
    refine zz_icmp_eq (by omega) (by omega) zd_14_55_73 (fun c50 => ?_) (fun c50 => ?_)
    · have hc9 : S 1079 33 = zt_U 35 (S0 1099) x3 x2 := (zt_U0 (by omega)).symm.trans i54_13
      refine zz_aload_n (x := 1079) rfl zd_14_55_89 ?_
      refine zz_iload_n (x := x2) rfl zd_14_55_90 ?_
      refine zz_puti zd_14_55_91 zf_Md_334 zT_1079 rfl (zz_ltn hn rfl) (fun S51 qS51 => ?_)
      have G_S51 := zz_G.put G_S qS51 0 1500 rfl (by omega)
      have F_S51 := zz_fr.puts F_S qS51 rfl
      refine zz_aload_n (x := 1079) rfl zd_14_55_94 ?_
      have e52 : S51 1079 32 = x2 := (zz_rs qS51)
      have e53 : S51 1079 33 = S 1079 33 := (zz_ro qS51 (fun h => absurd h.2 (by decide)) rfl)
      refine zz_callVI [] zd_14_55_95 zk_Md_375 zT_1079 (zz_ltn hn rfl) rfl rfl ⟨Nat.le_of_ble_eq_true rfl, Nat.le_of_ble_eq_true rfl⟩ ⟨rfl, rfl⟩ (Nat.zero_le _) (Nat.zero_le _) (zc_readLine_14_54  S51 n hn G_S51 (fun u h1 h2 => ((zz_ro qS51 (fun h => absurd h.1 (by decide)) (zz_rc F_S (zz_nc1 rfl) rfl (fun h => h) rfl))).trans (hN u h1 h2))) (fun v55 S54 hP => ?_)
      obtain ⟨G_S54, fS54, o56, o57⟩ := hP
      rw [show S51 1099 = S0 1099 from funext (fun u => (zz_ro qS51 (fun h => absurd h.1 (by decide)) (zz_rc F_S (zz_nc1 rfl) rfl (fun h => h) rfl))), show S51 1079 33 = S 1079 33 from (zz_ro qS51 (fun h => absurd h.2 (by decide)) rfl), show S51 1079 32 = x2 from (zz_rs qS51)] at o57
      have F_S54 := zz_fr.trans F_S51 fS54 rfl zz_nv
      have hl9 : v55 = zt_li (zt_tk (S0 1099) x3) (zt_te (S0 1099) x3) (zt_tv (S0 1099) x3) x2 := o57.trans (zt_lie (s := x2) (c := S 1079 33) (fun p h1 h2 => zt_eq (e := x3) (s := x2) hc9 (by omega) h1 h2) (by omega))
      refine zz_istore [some (.ref 1079), some (zi x1), some (zi x2), some (zi x3), some (zi v55)] zd_14_55_98 (by decide) rfl ?_
      refine zz_iload (x := v55) rfl zd_14_55_100 ?_
      refine zz_if_lt (by omega) zd_14_55_102 (fun c58 => ?_) (fun c58 => ?_)
      · refine zz_iload_n (x := x1) rfl zd_14_55_120 ?_
        exact zz_iret zd_14_55_121 rfl (Nat.zero_le _) (Nat.zero_le _) ⟨_, _, rfl, G_S54, F_S54, by omega, (by have h9 := i54_11; rw [show (1502 - x1).toNat = (1502 - (x1 + 1)).toNat + 1 by omega, zt_as1, if_neg (by omega), ← i54_12, ← hl9, if_pos (by omega)] at h9; exact h9)⟩
      · refine zz_iload (x := v55) rfl zd_14_55_105 ?_
        refine zz_if_le (by omega) zd_14_55_107 (fun c59 => ?_) (fun c59 => ?_)
        · refine zz_iload (x := v55) rfl zd_14_55_122 ?_
          refine zz_if_le (by omega) zd_14_55_124 (fun c60 => ?_) (fun c60 => ?_)
          · refine zz_iload_n (x := x3) rfl zd_14_55_150 ?_
            refine zz_iconst zd_14_55_151 ?_
            refine zz_iadd zd_14_55_152 ?_
            refine zz_istore_n [some (.ref 1079), some (zi x1), some (zi (x3 + 1)), some (zi x3), some (zi v55)] zd_14_55_153 (by decide) rfl ?_
            refine zz_iinc [some (.ref 1079), some (zi (x1 + 1)), some (zi (x3 + 1)), some (zi x3), some (zi v55)] zd_14_55_154 rfl rfl ?_
            refine zz_goto zd_14_55_157 ?_
            have g61 := zz_G.r G_S 1079 10 0 1000000 rfl rfl
            have e62 : S54 1079 10 = S 1079 10 := (zz_rc fS54 rfl rfl (fun h => h) (zz_ro qS51 (fun h => absurd h.2 (by decide)) rfl))
            have g63 := zz_G.r G_S0 1079 28 0 1500 rfl rfl
            refine zz_less (ls1 := [some (.ref 1079), some (zi (x1 + 1)), some (zi (x3 + 1))]) ⟨rfl, ⟨rfl, ⟨rfl, trivial⟩⟩⟩ ?_
            exact k14 (x1 + 1) (x3 + 1) S54 G_S54 F_S54 (by omega) (by omega) (by omega) (by omega) (by have h9 := i54_11; rw [show (1502 - x1).toNat = (1502 - (x1 + 1)).toNat + 1 by omega, zt_as1, if_neg (by omega), ← i54_12, ← hl9, if_neg (by omega)] at h9; rw [show S54 1079 10 = S 1079 10 + v55 by omega]; exact h9) (by omega)
          · exfalso; omega
        · refine zz_aload_n (x := 1079) rfl zd_14_55_110 ?_
          have g64 := zz_G.r G_S 1079 10 0 1000000 rfl rfl
          refine zz_geti (z := S 1079 10) zd_14_55_111 zf_Md_372 zT_1079 rfl (zz_ltn hn rfl) (zz_rc fS54 rfl rfl (fun h => h) (zz_ro qS51 (fun h => absurd h.2 (by decide)) rfl)) ?_
          refine zz_sipush (by decide) zd_14_55_114 ?_
          refine zz_icmp_ne (by omega) (by omega) zd_14_55_117 (fun c65 => ?_) (fun c65 => ?_)
          · refine zz_iload (x := v55) rfl zd_14_55_122 ?_
            refine zz_if_le (by omega) zd_14_55_124 (fun c66 => ?_) (fun c66 => ?_)
            · exfalso; omega
            · refine zz_aload_n (x := 1079) rfl zd_14_55_127 ?_
              refine zz_getr (kd := 0) (z := 1086) zd_14_55_128 zf_Md_33 zT_1079 rfl (zz_ltn hn rfl) (zz_G.eq G_S54 1079 9 1086 rfl rfl) (by decide) 1086 rfl ?_
              refine zz_aload_n (x := 1079) rfl zd_14_55_131 ?_
              refine zz_geti (z := S 1079 10) zd_14_55_132 zf_Md_372 zT_1079 rfl (zz_ltn hn rfl) (zz_rc fS54 rfl rfl (fun h => h) (zz_ro qS51 (fun h => absurd h.2 (by decide)) rfl)) ?_
              refine zz_aload_n (x := 1079) rfl zd_14_55_135 ?_
              refine zz_callVJ [] zd_14_55_136 zk_Md_378 zT_1079 (zz_ltn hn rfl) rfl rfl ⟨Nat.le_of_ble_eq_true rfl, Nat.le_of_ble_eq_true rfl⟩ ⟨rfl, rfl⟩ (Nat.zero_le _) (Nat.zero_le _) (zc_wordOfFields_14_53  S54 n hn G_S54 ) (fun v68 S67 hP => ?_)
              obtain ⟨rfl, o69⟩ := hP
              refine zz_last zd_14_55_139 zT_1086 rfl (zz_ltn hn rfl) (by decide) (by omega) (fun S70 qS70 => ?_)
              have G_S70 := zz_G.put G_S54 qS70 (-9223372036854775808) 9223372036854775807 rfl (by omega)
              have F_S70 := zz_fr.putc F_S54 qS70 rfl
              refine zz_aload_n (x := 1079) rfl zd_14_55_140 ?_
              refine zz_dup rfl zd_14_55_141 ?_
              refine zz_geti (z := S 1079 10) zd_14_55_142 zf_Md_372 zT_1079 rfl (zz_ltn hn rfl) (zz_ro qS70 (fun h => absurd h.1 (by decide)) (zz_rc fS54 rfl rfl (fun h => h) (zz_ro qS51 (fun h => absurd h.2 (by decide)) rfl))) ?_
              refine zz_iconst zd_14_55_145 ?_
              refine zz_iadd zd_14_55_146 ?_
              refine zz_puti zd_14_55_147 zf_Md_372 zT_1079 rfl (zz_ltn hn rfl) (fun S71 qS71 => ?_)
              have G_S71 := zz_G.put G_S70 qS71 0 1000000 rfl (by omega)
              have F_S71 := zz_fr.puts F_S70 qS71 rfl
              refine zz_iload_n (x := x3) rfl zd_14_55_150 ?_
              refine zz_iconst zd_14_55_151 ?_
              refine zz_iadd zd_14_55_152 ?_
              refine zz_istore_n [some (.ref 1079), some (zi x1), some (zi (x3 + 1)), some (zi x3), some (zi v55)] zd_14_55_153 (by decide) rfl ?_
              refine zz_iinc [some (.ref 1079), some (zi (x1 + 1)), some (zi (x3 + 1)), some (zi x3), some (zi v55)] zd_14_55_154 rfl rfl ?_
              refine zz_goto zd_14_55_157 ?_
              have e72 : S71 1079 10 = (S 1079 10) + 1 := (zz_rs qS71)
              have g73 := zz_G.r G_S0 1079 28 0 1500 rfl rfl
              refine zz_less (ls1 := [some (.ref 1079), some (zi (x1 + 1)), some (zi (x3 + 1))]) ⟨rfl, ⟨rfl, ⟨rfl, trivial⟩⟩⟩ ?_
              exact k14 (x1 + 1) (x3 + 1) S71 G_S71 F_S71 (by omega) (by omega) (by omega) (by omega) (by have h9 := i54_11; rw [show (1502 - x1).toNat = (1502 - (x1 + 1)).toNat + 1 by omega, zt_as1, if_neg (by omega), ← i54_12, ← hl9, if_neg (by omega)] at h9; rw [show S71 1079 10 = S 1079 10 + v55 by omega]; exact h9) (by omega)
          · refine zz_iload_n (x := x1) rfl zd_14_55_120 ?_
            exact zz_iret zd_14_55_121 rfl (Nat.zero_le _) (Nat.zero_le _) ⟨_, _, rfl, G_S54, F_S54, by omega, (by have h9 := i54_11; rw [show (1502 - x1).toNat = (1502 - (x1 + 1)).toNat + 1 by omega, zt_as1, if_neg (by omega), ← i54_12, ← hl9, if_pos (by omega)] at h9; exact h9)⟩
    · refine zz_aload_n (x := 1079) rfl zd_14_55_76 ?_
      refine zz_dup rfl zd_14_55_77 ?_
      refine zz_geti (z := S 1079 33) zd_14_55_78 zf_Md_337 zT_1079 rfl (zz_ltn hn rfl) rfl ?_
      refine zz_iconst zd_14_55_81 ?_
      refine zz_iadd zd_14_55_82 ?_
      refine zz_puti zd_14_55_83 zf_Md_337 zT_1079 rfl (zz_ltn hn rfl) (fun S74 qS74 => ?_)
      have G_S74 := zz_G.put G_S qS74 0 1500 rfl (by omega)
      have F_S74 := zz_fr.puts F_S qS74 rfl
      refine zz_goto zd_14_55_86 ?_
      have g75 := zz_G.r G_S 1079 10 0 1000000 rfl rfl
      have e76 : S74 1079 10 = S 1079 10 := (zz_ro qS74 (fun h => absurd h.2 (by decide)) rfl)
      have e77 : S74 1079 33 = (S 1079 33) + 1 := (zz_rs qS74)
      have g78 := zz_G.r G_S0 1079 28 0 1500 rfl rfl
      exact k54 x1 x2 x3 S74 G_S74 F_S74 (by omega) (by omega) (by omega) (by omega) (by omega) (by omega) (by omega) (by omega) (by omega) (by omega) (by omega) (by rw [show S74 1079 10 = S 1079 10 by omega]; exact i54_11) i54_12 (by rw [show S74 1079 33 = S 1079 33 + 1 by omega, zt_US (by omega) (by omega)]; exact i54_13) (by omega) (by omega)
theorem zi_assemble_14_55 {g : mm_G} {l : Launch}  (S0 : zz_S) (n : Nat) (hn : zz_end ≤ n) (G_S0 : zz_G S0) (hN : ∀ w : Nat, 1 ≤ w → w ≤ 20 → S0 1100 w = zt_cd (zt_nw.getD w [])) : ∀ N : Nat, (∀ (x1 : Int) (x2 : Int) (S : zz_S), zz_G S → zz_fr [(1079, 0), (1079, 7), (1079, 10), (1079, 30), (1079, 31), (1079, 32), (1079, 33), (1087, 0), (1087, 1), (1087, 2), (1087, 3), (1087, 4), (1087, 5), (1087, 6), (1087, 7), (1087, 8), (1087, 9), (1087, 10), (1087, 11)] [1085, 1086] (fun _ _ => False) S0 S → (0 ≤ x1 ∧ x1 ≤ 1501) → (0 ≤ x2 ∧ x2 ≤ 1501) → (x1 ≤ x2) → (S 1079 10 ≤ 600) → (zt_as (S0 1099) (S0 1079 28) (1502 - x1).toNat x2 x1 (S 1079 10) = zt_as (S0 1099) (S0 1079 28) 1502 0 0 0) → (51539607552 + (S0 1079 28 + 1 - x2).toNat) * 1099511627776 + 1099511627775 < N → zz_E g l zy_assemble_14_55 zr_assemble_14_55 (zz_QI n (zp_assemble_14_55  S0)) S n 14 [some (.ref 1079), some (zi x1), some (zi x2)] [] 0 0) ∧ (∀ (x1 : Int) (x2 : Int) (x3 : Int) (S : zz_S), zz_G S → zz_fr [(1079, 0), (1079, 7), (1079, 10), (1079, 30), (1079, 31), (1079, 32), (1079, 33), (1087, 0), (1087, 1), (1087, 2), (1087, 3), (1087, 4), (1087, 5), (1087, 6), (1087, 7), (1087, 8), (1087, 9), (1087, 10), (1087, 11)] [1085, 1086] (fun _ _ => False) S0 S → (0 ≤ x1 ∧ x1 ≤ 1501) → (0 ≤ x2 ∧ x2 ≤ 1500) → (0 ≤ x3 ∧ x3 ≤ 1500) → (0 ≤ x2 ∧ x2 ≤ 1501) → (x1 ≤ x2) → (x1 ≤ x2) → (x2 ≤ x3) → (x3 ≤ S0 1079 28) → (S 1079 10 ≤ 600) → (zt_as (S0 1099) (S0 1079 28) (1502 - x1).toNat x2 x1 (S 1079 10) = zt_as (S0 1099) (S0 1079 28) 1502 0 0 0) → (zt_U 10 (S0 1099) (S0 1079 28) x3 = zt_U 10 (S0 1099) (S0 1079 28) x2) → (51539607552 + (S0 1079 28 + 1 - x2).toNat) * 1099511627776 + (34359738368 + (S0 1079 28 - x3).toNat) < N → zz_E g l zy_assemble_14_55 zr_assemble_14_55 (zz_QI n (zp_assemble_14_55  S0)) S n 24 [some (.ref 1079), some (zi x1), some (zi x2), some (zi x3)] [] 0 0) ∧ (∀ (x1 : Int) (x2 : Int) (x3 : Int) (S : zz_S), zz_G S → zz_fr [(1079, 0), (1079, 7), (1079, 10), (1079, 30), (1079, 31), (1079, 32), (1079, 33), (1087, 0), (1087, 1), (1087, 2), (1087, 3), (1087, 4), (1087, 5), (1087, 6), (1087, 7), (1087, 8), (1087, 9), (1087, 10), (1087, 11)] [1085, 1086] (fun _ _ => False) S0 S → (0 ≤ x1 ∧ x1 ≤ 1501) → (0 ≤ x2 ∧ x2 ≤ 1500) → (0 ≤ x3 ∧ x3 ≤ 1500) → (0 ≤ x2 ∧ x2 ≤ 1501) → (x1 ≤ x2) → (x2 ≤ x3) → (x3 ≤ S0 1079 28) → (x1 ≤ x2) → (x2 ≤ x3) → (x3 ≤ S0 1079 28) → (S 1079 10 ≤ 600) → (zt_as (S0 1099) (S0 1079 28) (1502 - x1).toNat x2 x1 (S 1079 10) = zt_as (S0 1099) (S0 1079 28) 1502 0 0 0) → (x3 = zt_U 10 (S0 1099) (S0 1079 28) x2) → (zt_U 35 (S0 1099) x3 (S 1079 33) = zt_U 35 (S0 1099) x3 x2) → (x2 ≤ S 1079 33 ∧ S 1079 33 ≤ x3) → (51539607552 + (S0 1079 28 + 1 - x2).toNat) * 1099511627776 + (17179869184 + (x3 - S 1079 33).toNat) < N → zz_E g l zy_assemble_14_55 zr_assemble_14_55 (zz_QI n (zp_assemble_14_55  S0)) S n 54 [some (.ref 1079), some (zi x1), some (zi x2), some (zi x3)] [] 0 0) := by
  intro N
  induction N with
  | zero => exact ⟨fun x1 x2 S _ _ _ _ _ _ _ h => absurd h (Nat.not_lt_zero _), fun x1 x2 x3 S _ _ _ _ _ _ _ _ _ _ _ _ _ h => absurd h (Nat.not_lt_zero _), fun x1 x2 x3 S _ _ _ _ _ _ _ _ _ _ _ _ _ _ _ _ _ h => absurd h (Nat.not_lt_zero _)⟩
  | succ N ih =>
    exact ⟨fun x1 x2 S a b j0 j1 j2 j3 j4 hR => zb_assemble_14_55_14  S0 n hn G_S0 hN x1 x2 S a b j0 j1 j2 j3 j4 _ rfl (fun x1 x2 x3 S a b j0 j1 j2 j3 j4 j5 j6 j7 j8 j9 j10 h => ih.2.1 x1 x2 x3 S a b j0 j1 j2 j3 j4 j5 j6 j7 j8 j9 j10 (Nat.lt_of_lt_of_le h (Nat.le_of_lt_succ hR))),
      fun x1 x2 x3 S a b j0 j1 j2 j3 j4 j5 j6 j7 j8 j9 j10 hR => zb_assemble_14_55_24  S0 n hn G_S0 hN x1 x2 x3 S a b j0 j1 j2 j3 j4 j5 j6 j7 j8 j9 j10 _ rfl (fun x1 x2 x3 S a b j0 j1 j2 j3 j4 j5 j6 j7 j8 j9 j10 h => ih.2.1 x1 x2 x3 S a b j0 j1 j2 j3 j4 j5 j6 j7 j8 j9 j10 (Nat.lt_of_lt_of_le h (Nat.le_of_lt_succ hR))) (fun x1 x2 x3 S a b j0 j1 j2 j3 j4 j5 j6 j7 j8 j9 j10 j11 j12 j13 j14 h => ih.2.2 x1 x2 x3 S a b j0 j1 j2 j3 j4 j5 j6 j7 j8 j9 j10 j11 j12 j13 j14 (Nat.lt_of_lt_of_le h (Nat.le_of_lt_succ hR))),
      fun x1 x2 x3 S a b j0 j1 j2 j3 j4 j5 j6 j7 j8 j9 j10 j11 j12 j13 j14 hR => zb_assemble_14_55_54  S0 n hn G_S0 hN x1 x2 x3 S a b j0 j1 j2 j3 j4 j5 j6 j7 j8 j9 j10 j11 j12 j13 j14 _ rfl (fun x1 x2 S a b j0 j1 j2 j3 j4 h => ih.1 x1 x2 S a b j0 j1 j2 j3 j4 (Nat.lt_of_lt_of_le h (Nat.le_of_lt_succ hR))) (fun x1 x2 x3 S a b j0 j1 j2 j3 j4 j5 j6 j7 j8 j9 j10 j11 j12 j13 j14 h => ih.2.2 x1 x2 x3 S a b j0 j1 j2 j3 j4 j5 j6 j7 j8 j9 j10 j11 j12 j13 j14 (Nat.lt_of_lt_of_le h (Nat.le_of_lt_succ hR)))⟩
theorem zc_assemble_14_55 {g : mm_G} {l : Launch}  (S0 : zz_S) (n : Nat) (hn : zz_end ≤ n) (G_S0 : zz_G S0) (hN : ∀ w : Nat, 1 ≤ w → w ≤ 20 → S0 1100 w = zt_cd (zt_nw.getD w [])) : mm_Met g l zy_assemble_14_55 zr_assemble_14_55 [.ref 1079] (zz_M S0 n) n (zz_QI n (zp_assemble_14_55  S0)) := by
  refine zz_enter (by decide) (Nat.le_of_ble_eq_true rfl) (zz_less (ls1 := [some (.ref 1079)]) ⟨rfl, trivial⟩ ?_)
  have F_S0 : zz_fr [(1079, 0), (1079, 7), (1079, 10), (1079, 30), (1079, 31), (1079, 32), (1079, 33), (1087, 0), (1087, 1), (1087, 2), (1087, 3), (1087, 4), (1087, 5), (1087, 6), (1087, 7), (1087, 8), (1087, 9), (1087, 10), (1087, 11)] [1085, 1086] (fun _ _ => False) S0 S0 := zz_fr.refl
  have k14 : ∀ (x1 : Int) (x2 : Int) (S : zz_S), zz_G S → zz_fr [(1079, 0), (1079, 7), (1079, 10), (1079, 30), (1079, 31), (1079, 32), (1079, 33), (1087, 0), (1087, 1), (1087, 2), (1087, 3), (1087, 4), (1087, 5), (1087, 6), (1087, 7), (1087, 8), (1087, 9), (1087, 10), (1087, 11)] [1085, 1086] (fun _ _ => False) S0 S → (0 ≤ x1 ∧ x1 ≤ 1501) → (0 ≤ x2 ∧ x2 ≤ 1501) → (x1 ≤ x2) → (S 1079 10 ≤ 600) → (zt_as (S0 1099) (S0 1079 28) (1502 - x1).toNat x2 x1 (S 1079 10) = zt_as (S0 1099) (S0 1079 28) 1502 0 0 0) → zz_E g l zy_assemble_14_55 zr_assemble_14_55 (zz_QI n (zp_assemble_14_55  S0)) S n 14 [some (.ref 1079), some (zi x1), some (zi x2)] [] 0 0 := fun x1 x2 S a b j0 j1 j2 j3 j4 => (zi_assemble_14_55 (g := g) (l := l)  S0 n hn G_S0 hN _).1 x1 x2 S a b j0 j1 j2 j3 j4 (Nat.lt_succ_self _)
  refine zz_aload_n (x := 1079) rfl zd_14_55_0 ?_
  refine zz_iconst zd_14_55_1 ?_
  refine zz_puti zd_14_55_2 zf_Md_187 zT_1079 rfl (zz_ltn hn rfl) (fun S1 qS1 => ?_)
  have G_S1 := zz_G.put G_S0 qS1 0 3 rfl (by omega)
  have F_S1 := zz_fr.puts F_S0 qS1 rfl
  refine zz_aload_n (x := 1079) rfl zd_14_55_5 ?_
  refine zz_iconst zd_14_55_6 ?_
  refine zz_puti zd_14_55_7 zf_Md_372 zT_1079 rfl (zz_ltn hn rfl) (fun S2 qS2 => ?_)
  have G_S2 := zz_G.put G_S1 qS2 0 1000000 rfl (by omega)
  have F_S2 := zz_fr.puts F_S1 qS2 rfl
  refine zz_iconst zd_14_55_10 ?_
  refine zz_istore_n [some (.ref 1079), some (zi 0)] zd_14_55_11 (by decide) rfl ?_
  refine zz_iconst zd_14_55_12 ?_
  refine zz_istore_n [some (.ref 1079), some (zi 0), some (zi 0)] zd_14_55_13 (by decide) rfl ?_
  have e3 : S2 1079 10 = 0 := (zz_rs qS2)
  have g4 := zz_G.r G_S0 1079 28 0 1500 rfl rfl
  refine zz_less (ls1 := [some (.ref 1079), some (zi 0), some (zi 0)]) ⟨rfl, ⟨rfl, ⟨rfl, trivial⟩⟩⟩ ?_
  exact k14 0 0 S2 G_S2 F_S2 (by omega) (by omega) (by omega) (by omega) (by rw [show S2 1079 10 = 0 by omega]; rfl)
abbrev zy_say_14_57 : mm_Y := (⟨"TensorForgeModel", "say", "(J)V"⟩, prog_14_method_57_code, 3, none)
theorem zyw_say_14_57 : mm_Yw zy_say_14_57 1 := ⟨mm_tb_1 2057 (by decide +kernel) rfl, mm_tb_1 12 (by decide +kernel) rfl, ⟨by decide, by decide⟩, by decide +kernel⟩
theorem zf_Md_82 : mm_Fl "TensorForgeModel" 82 11 35 (.array .int) true := ⟨R_Md, F_Md, 69, t_Md, rfl, i_Md, by decide, mm_tb_1 1646 (by decide +kernel) rfl, rfl, t_Md_ok, n_Md, rfl, by decide +kernel⟩
theorem zf_Md_385 : mm_Fl "TensorForgeModel" 385 11 34 .int false := ⟨R_Md, F_Md, 69, t_Md, rfl, i_Md, by decide, mm_tb_1 1645 (by decide +kernel) rfl, rfl, t_Md_ok, n_Md, rfl, by decide +kernel⟩
theorem zg_14_57_0 : zq_at zy_say_14_57.2.1 0 42 ∧ zq_at zy_say_14_57.2.1 1 180 ∧ zq_at zy_say_14_57.2.1 2 0 ∧ zq_at zy_say_14_57.2.1 3 82 ∧ zq_at zy_say_14_57.2.1 4 42 ∧ zq_at zy_say_14_57.2.1 5 180 ∧ zq_at zy_say_14_57.2.1 6 1 ∧ zq_at zy_say_14_57.2.1 7 129 ∧ zq_at zy_say_14_57.2.1 8 31 ∧ zq_at zy_say_14_57.2.1 9 136 ∧ zq_at zy_say_14_57.2.1 10 79 ∧ zq_at zy_say_14_57.2.1 11 42 ∧ zq_at zy_say_14_57.2.1 12 89 ∧ zq_at zy_say_14_57.2.1 13 180 ∧ zq_at zy_say_14_57.2.1 14 1 ∧ zq_at zy_say_14_57.2.1 15 129 ∧ zq_at zy_say_14_57.2.1 16 4 ∧ zq_at zy_say_14_57.2.1 17 96 ∧ zq_at zy_say_14_57.2.1 18 181 ∧ zq_at zy_say_14_57.2.1 19 1 ∧ zq_at zy_say_14_57.2.1 20 129 ∧ zq_at zy_say_14_57.2.1 21 177 := by decide +kernel
theorem zd_14_57_0 : zz_D zy_say_14_57 0 (.aload_n 0) 1 1 := ⟨zq_42 zg_14_57_0.1, rfl⟩
theorem zd_14_57_1 : zz_D zy_say_14_57 1 (.getfield 82) 3 4 := ⟨zq_180 zg_14_57_0.2.1 zg_14_57_0.2.2.1 zg_14_57_0.2.2.2.1 rfl, rfl⟩
theorem zd_14_57_4 : zz_D zy_say_14_57 4 (.aload_n 0) 1 5 := ⟨zq_42 zg_14_57_0.2.2.2.2.1, rfl⟩
theorem zd_14_57_5 : zz_D zy_say_14_57 5 (.getfield 385) 3 8 := ⟨zq_180 zg_14_57_0.2.2.2.2.2.1 zg_14_57_0.2.2.2.2.2.2.1 zg_14_57_0.2.2.2.2.2.2.2.1 rfl, rfl⟩
theorem zd_14_57_8 : zz_D zy_say_14_57 8 (.lload_n 1) 1 9 := ⟨zq_31 zg_14_57_0.2.2.2.2.2.2.2.2.1, rfl⟩
theorem zd_14_57_9 : zz_D zy_say_14_57 9 (.l2i) 1 10 := ⟨zq_136 zg_14_57_0.2.2.2.2.2.2.2.2.2.1, rfl⟩
theorem zd_14_57_10 : zz_D zy_say_14_57 10 (.iastore) 1 11 := ⟨zq_79 zg_14_57_0.2.2.2.2.2.2.2.2.2.2.1, rfl⟩
theorem zd_14_57_11 : zz_D zy_say_14_57 11 (.aload_n 0) 1 12 := ⟨zq_42 zg_14_57_0.2.2.2.2.2.2.2.2.2.2.2.1, rfl⟩
theorem zd_14_57_12 : zz_D zy_say_14_57 12 (.dup) 1 13 := ⟨zq_89 zg_14_57_0.2.2.2.2.2.2.2.2.2.2.2.2.1, rfl⟩
theorem zd_14_57_13 : zz_D zy_say_14_57 13 (.getfield 385) 3 16 := ⟨zq_180 zg_14_57_0.2.2.2.2.2.2.2.2.2.2.2.2.2.1 zg_14_57_0.2.2.2.2.2.2.2.2.2.2.2.2.2.2.1 zg_14_57_0.2.2.2.2.2.2.2.2.2.2.2.2.2.2.2.1 rfl, rfl⟩
theorem zd_14_57_16 : zz_D zy_say_14_57 16 (.iconst 1) 1 17 := ⟨zq_4 zg_14_57_0.2.2.2.2.2.2.2.2.2.2.2.2.2.2.2.2.1, rfl⟩
theorem zd_14_57_17 : zz_D zy_say_14_57 17 (.iadd) 1 18 := ⟨zq_96 zg_14_57_0.2.2.2.2.2.2.2.2.2.2.2.2.2.2.2.2.2.1, rfl⟩
theorem zd_14_57_18 : zz_D zy_say_14_57 18 (.putfield 385) 3 21 := ⟨zq_181 zg_14_57_0.2.2.2.2.2.2.2.2.2.2.2.2.2.2.2.2.2.2.1 zg_14_57_0.2.2.2.2.2.2.2.2.2.2.2.2.2.2.2.2.2.2.2.1 zg_14_57_0.2.2.2.2.2.2.2.2.2.2.2.2.2.2.2.2.2.2.2.2.1 rfl, rfl⟩
theorem zd_14_57_21 : zz_D zy_say_14_57 21 (.return_) 1 22 := ⟨zq_177 zg_14_57_0.2.2.2.2.2.2.2.2.2.2.2.2.2.2.2.2.2.2.2.2.2, rfl⟩
-- TensorForgeModel say (J)V
abbrev zr_say_14_57 : Room := { frames := 0, cells := 0, slots := 0, locals := 0 }
def zp_say_14_57 (p0 : Int) (S0 : zz_S) : zz_S → Prop := fun S => zz_G S ∧ zz_fr [(1079, 34)] [1101] (fun _ _ => False) S0 S ∧ (S 1079 34 = S0 1079 34 + 1) ∧ (∀ (u : List Int), zs_P (S0 1079 34) (S0 1101) u → 0 ≤ p0 ∧ p0 ≤ 200 → zs_P (S 1079 34) (S 1101) (u ++ [p0]))
theorem zc_say_14_57 {g : mm_G} {l : Launch} (p0 : Int) (S0 : zz_S) (n : Nat) (hn : zz_end ≤ n) (G_S0 : zz_G S0) (hp0 : (-9223372036854775808) ≤ p0 ∧ p0 ≤ 9223372036854775807) (hq : S0 1079 34 ≤ 199) : mm_Met g l zy_say_14_57 zr_say_14_57 [.ref 1079, zl p0] (zz_M S0 n) n (zz_QV n (zp_say_14_57 p0 S0)) := by
  refine zz_enter (by decide) (Nat.le_of_ble_eq_true rfl) (zz_less (ls1 := [some (.ref 1079), some (zl p0), none]) ⟨rfl, ⟨rfl, trivial⟩⟩ ?_)
  have F_S0 : zz_fr [(1079, 34)] [1101] (fun _ _ => False) S0 S0 := zz_fr.refl
  refine zz_aload_n (x := 1079) rfl zd_14_57_0 ?_
  refine zz_getr (kd := 0) (z := 1101) zd_14_57_1 zf_Md_82 zT_1079 rfl (zz_ltn hn rfl) (zz_G.eq G_S0 1079 35 1101 rfl rfl) (by decide) 1101 rfl ?_
  refine zz_aload_n (x := 1079) rfl zd_14_57_4 ?_
  have g1 := zz_G.r G_S0 1079 34 0 200 rfl rfl
  refine zz_geti (z := S0 1079 34) zd_14_57_5 zf_Md_385 zT_1079 rfl (zz_ltn hn rfl) rfl ?_
  refine zz_lload_n (x := p0) rfl zd_14_57_8 ?_
  refine zz_l2i (by omega) zd_14_57_9 (fun v2 hv2 av2 ev2 => ?_)
  refine zz_iast zd_14_57_10 zT_1101 rfl (zz_ltn hn rfl) (by decide) (by omega) (fun S3 qS3 => ?_)
  have G_S3 := zz_G.put G_S0 qS3 (-2147483648) 2147483647 rfl (by omega)
  have F_S3 := zz_fr.putc F_S0 qS3 rfl
  refine zz_aload_n (x := 1079) rfl zd_14_57_11 ?_
  refine zz_dup rfl zd_14_57_12 ?_
  refine zz_geti (z := S0 1079 34) zd_14_57_13 zf_Md_385 zT_1079 rfl (zz_ltn hn rfl) (zz_ro qS3 (fun h => absurd h.1 (by decide)) rfl) ?_
  refine zz_iconst zd_14_57_16 ?_
  refine zz_iadd zd_14_57_17 ?_
  refine zz_puti zd_14_57_18 zf_Md_385 zT_1079 rfl (zz_ltn hn rfl) (fun S4 qS4 => ?_)
  have G_S4 := zz_G.put G_S3 qS4 0 200 rfl (by omega)
  have F_S4 := zz_fr.puts F_S3 qS4 rfl
  have e5 : S4 1079 34 = (S0 1079 34) + 1 := (zz_rs qS4)
  exact zz_vret zd_14_57_21 rfl (Nat.zero_le _) (Nat.zero_le _) ⟨_, rfl, G_S4, F_S4, by omega, (fun u h hp => by have c9 := zs_Pq h qS3 qS4 rfl rfl (by decide); rw [av2 (by omega)] at c9; exact c9)⟩
abbrev zy_sayWord_14_58 : mm_Y := (⟨"TensorForgeModel", "sayWord", "(I)V"⟩, prog_14_method_58_code, 4, none)
theorem zyw_sayWord_14_58 : mm_Yw zy_sayWord_14_58 1 := ⟨mm_tb_1 2053 (by decide +kernel) rfl, mm_tb_1 12 (by decide +kernel) rfl, ⟨by decide, by decide⟩, by decide +kernel⟩
theorem zk_Md_388 : mm_Vl "TensorForgeModel" 388 11 1 zy_say_14_57 := ⟨zyw_say_14_57, (R_Md, F_Md, 69), rfl, mm_tb_1 2054 (by decide +kernel) rfl, mm_tb_1 2056 (by decide +kernel) rfl, mm_tb_s 116 (by decide +kernel) rfl⟩
theorem zq_Md_391 : Cond.constantLong "TensorForgeModel" 391 (96 : Int64) ∈ mm_tb := mm_tb_1 2058 (by decide +kernel) rfl
theorem zg_14_58_0 : zq_at zy_sayWord_14_58.2.1 0 42 ∧ zq_at zy_sayWord_14_58.2.1 1 180 ∧ zq_at zy_sayWord_14_58.2.1 2 1 ∧ zq_at zy_sayWord_14_58.2.1 3 129 ∧ zq_at zy_sayWord_14_58.2.1 4 158 ∧ zq_at zy_sayWord_14_58.2.1 5 0 ∧ zq_at zy_sayWord_14_58.2.1 6 10 ∧ zq_at zy_sayWord_14_58.2.1 14 42 ∧ zq_at zy_sayWord_14_58.2.1 15 180 ∧ zq_at zy_sayWord_14_58.2.1 16 0 ∧ zq_at zy_sayWord_14_58.2.1 17 79 ∧ zq_at zy_sayWord_14_58.2.1 18 27 ∧ zq_at zy_sayWord_14_58.2.1 19 47 ∧ zq_at zy_sayWord_14_58.2.1 20 65 ∧ zq_at zy_sayWord_14_58.2.1 7 42 ∧ zq_at zy_sayWord_14_58.2.1 8 20 ∧ zq_at zy_sayWord_14_58.2.1 9 1 ∧ zq_at zy_sayWord_14_58.2.1 10 71 ∧ zq_at zy_sayWord_14_58.2.1 11 182 ∧ zq_at zy_sayWord_14_58.2.1 12 1 ∧ zq_at zy_sayWord_14_58.2.1 13 132 ∧ zq_at zy_sayWord_14_58.2.1 21 32 ∧ zq_at zy_sayWord_14_58.2.1 22 9 ∧ zq_at zy_sayWord_14_58.2.1 23 148 := by decide +kernel
theorem zd_14_58_0 : zz_D zy_sayWord_14_58 0 (.aload_n 0) 1 1 := ⟨zq_42 zg_14_58_0.1, rfl⟩
theorem zd_14_58_1 : zz_D zy_sayWord_14_58 1 (.getfield 385) 3 4 := ⟨zq_180 zg_14_58_0.2.1 zg_14_58_0.2.2.1 zg_14_58_0.2.2.2.1 rfl, rfl⟩
theorem zd_14_58_4 : zz_B zy_sayWord_14_58 4 (Instr.ifCond .le) 14 7 := ⟨10, zq_158 zg_14_58_0.2.2.2.2.1 zg_14_58_0.2.2.2.2.2.1 zg_14_58_0.2.2.2.2.2.2.1 (by decide), rfl, rfl⟩
theorem zd_14_58_14 : zz_D zy_sayWord_14_58 14 (.aload_n 0) 1 15 := ⟨zq_42 zg_14_58_0.2.2.2.2.2.2.2.1, rfl⟩
theorem zd_14_58_15 : zz_D zy_sayWord_14_58 15 (.getfield 79) 3 18 := ⟨zq_180 zg_14_58_0.2.2.2.2.2.2.2.2.1 zg_14_58_0.2.2.2.2.2.2.2.2.2.1 zg_14_58_0.2.2.2.2.2.2.2.2.2.2.1 rfl, rfl⟩
theorem zd_14_58_18 : zz_D zy_sayWord_14_58 18 (.iload_n 1) 1 19 := ⟨zq_27 zg_14_58_0.2.2.2.2.2.2.2.2.2.2.2.1, rfl⟩
theorem zd_14_58_19 : zz_D zy_sayWord_14_58 19 (.laload) 1 20 := ⟨zq_47 zg_14_58_0.2.2.2.2.2.2.2.2.2.2.2.2.1, rfl⟩
theorem zd_14_58_20 : zz_D zy_sayWord_14_58 20 (.lstore_n 2) 1 21 := ⟨zq_65 zg_14_58_0.2.2.2.2.2.2.2.2.2.2.2.2.2.1, rfl⟩
theorem zd_14_58_7 : zz_D zy_sayWord_14_58 7 (.aload_n 0) 1 8 := ⟨zq_42 zg_14_58_0.2.2.2.2.2.2.2.2.2.2.2.2.2.2.1, rfl⟩
theorem zd_14_58_8 : zz_D zy_sayWord_14_58 8 (.ldc2_w 327) 3 11 := ⟨zq_20 zg_14_58_0.2.2.2.2.2.2.2.2.2.2.2.2.2.2.2.1 zg_14_58_0.2.2.2.2.2.2.2.2.2.2.2.2.2.2.2.2.1 zg_14_58_0.2.2.2.2.2.2.2.2.2.2.2.2.2.2.2.2.2.1 rfl, rfl⟩
theorem zd_14_58_11 : zz_D zy_sayWord_14_58 11 (.invokevirtual 388) 3 14 := ⟨zq_182 zg_14_58_0.2.2.2.2.2.2.2.2.2.2.2.2.2.2.2.2.2.2.1 zg_14_58_0.2.2.2.2.2.2.2.2.2.2.2.2.2.2.2.2.2.2.2.1 zg_14_58_0.2.2.2.2.2.2.2.2.2.2.2.2.2.2.2.2.2.2.2.2.1 rfl, rfl⟩
theorem zd_14_58_21 : zz_D zy_sayWord_14_58 21 (.lload_n 2) 1 22 := ⟨zq_32 zg_14_58_0.2.2.2.2.2.2.2.2.2.2.2.2.2.2.2.2.2.2.2.2.2.1, rfl⟩
theorem zd_14_58_22 : zz_D zy_sayWord_14_58 22 (.lconst 0) 1 23 := ⟨zq_9 zg_14_58_0.2.2.2.2.2.2.2.2.2.2.2.2.2.2.2.2.2.2.2.2.2.2.1, rfl⟩
theorem zd_14_58_23 : zz_D zy_sayWord_14_58 23 (.lcmp) 1 24 := ⟨zq_148 zg_14_58_0.2.2.2.2.2.2.2.2.2.2.2.2.2.2.2.2.2.2.2.2.2.2.2, rfl⟩
theorem zg_14_58_24 : zq_at zy_sayWord_14_58.2.1 24 158 ∧ zq_at zy_sayWord_14_58.2.1 25 0 ∧ zq_at zy_sayWord_14_58.2.1 26 23 ∧ zq_at zy_sayWord_14_58.2.1 47 177 ∧ zq_at zy_sayWord_14_58.2.1 27 42 ∧ zq_at zy_sayWord_14_58.2.1 28 20 ∧ zq_at zy_sayWord_14_58.2.1 29 1 ∧ zq_at zy_sayWord_14_58.2.1 30 135 ∧ zq_at zy_sayWord_14_58.2.1 31 32 ∧ zq_at zy_sayWord_14_58.2.1 32 20 ∧ zq_at zy_sayWord_14_58.2.1 33 1 ∧ zq_at zy_sayWord_14_58.2.1 34 101 ∧ zq_at zy_sayWord_14_58.2.1 35 127 ∧ zq_at zy_sayWord_14_58.2.1 36 97 ∧ zq_at zy_sayWord_14_58.2.1 37 182 ∧ zq_at zy_sayWord_14_58.2.1 38 1 ∧ zq_at zy_sayWord_14_58.2.1 39 132 ∧ zq_at zy_sayWord_14_58.2.1 40 32 ∧ zq_at zy_sayWord_14_58.2.1 41 8 ∧ zq_at zy_sayWord_14_58.2.1 42 123 ∧ zq_at zy_sayWord_14_58.2.1 43 65 ∧ zq_at zy_sayWord_14_58.2.1 44 167 ∧ zq_at zy_sayWord_14_58.2.1 45 255 ∧ zq_at zy_sayWord_14_58.2.1 46 233 := by decide +kernel
theorem zd_14_58_24 : zz_B zy_sayWord_14_58 24 (Instr.ifCond .le) 47 27 := ⟨23, zq_158 zg_14_58_24.1 zg_14_58_24.2.1 zg_14_58_24.2.2.1 (by decide), rfl, rfl⟩
theorem zd_14_58_47 : zz_D zy_sayWord_14_58 47 (.return_) 1 48 := ⟨zq_177 zg_14_58_24.2.2.2.1, rfl⟩
theorem zd_14_58_27 : zz_D zy_sayWord_14_58 27 (.aload_n 0) 1 28 := ⟨zq_42 zg_14_58_24.2.2.2.2.1, rfl⟩
theorem zd_14_58_28 : zz_D zy_sayWord_14_58 28 (.ldc2_w 391) 3 31 := ⟨zq_20 zg_14_58_24.2.2.2.2.2.1 zg_14_58_24.2.2.2.2.2.2.1 zg_14_58_24.2.2.2.2.2.2.2.1 rfl, rfl⟩
theorem zd_14_58_31 : zz_D zy_sayWord_14_58 31 (.lload_n 2) 1 32 := ⟨zq_32 zg_14_58_24.2.2.2.2.2.2.2.2.1, rfl⟩
theorem zd_14_58_32 : zz_D zy_sayWord_14_58 32 (.ldc2_w 357) 3 35 := ⟨zq_20 zg_14_58_24.2.2.2.2.2.2.2.2.2.1 zg_14_58_24.2.2.2.2.2.2.2.2.2.2.1 zg_14_58_24.2.2.2.2.2.2.2.2.2.2.2.1 rfl, rfl⟩
theorem zd_14_58_35 : zz_D zy_sayWord_14_58 35 (.land) 1 36 := ⟨zq_127 zg_14_58_24.2.2.2.2.2.2.2.2.2.2.2.2.1, rfl⟩
theorem zd_14_58_36 : zz_D zy_sayWord_14_58 36 (.ladd) 1 37 := ⟨zq_97 zg_14_58_24.2.2.2.2.2.2.2.2.2.2.2.2.2.1, rfl⟩
theorem zd_14_58_37 : zz_D zy_sayWord_14_58 37 (.invokevirtual 388) 3 40 := ⟨zq_182 zg_14_58_24.2.2.2.2.2.2.2.2.2.2.2.2.2.2.1 zg_14_58_24.2.2.2.2.2.2.2.2.2.2.2.2.2.2.2.1 zg_14_58_24.2.2.2.2.2.2.2.2.2.2.2.2.2.2.2.2.1 rfl, rfl⟩
theorem zd_14_58_40 : zz_D zy_sayWord_14_58 40 (.lload_n 2) 1 41 := ⟨zq_32 zg_14_58_24.2.2.2.2.2.2.2.2.2.2.2.2.2.2.2.2.2.1, rfl⟩
theorem zd_14_58_41 : zz_D zy_sayWord_14_58 41 (.iconst 5) 1 42 := ⟨zq_8 zg_14_58_24.2.2.2.2.2.2.2.2.2.2.2.2.2.2.2.2.2.2.1, rfl⟩
theorem zd_14_58_42 : zz_D zy_sayWord_14_58 42 (.lshr) 1 43 := ⟨zq_123 zg_14_58_24.2.2.2.2.2.2.2.2.2.2.2.2.2.2.2.2.2.2.2.1, rfl⟩
theorem zd_14_58_43 : zz_D zy_sayWord_14_58 43 (.lstore_n 2) 1 44 := ⟨zq_65 zg_14_58_24.2.2.2.2.2.2.2.2.2.2.2.2.2.2.2.2.2.2.2.2.1, rfl⟩
theorem zd_14_58_44 : zz_B zy_sayWord_14_58 44 Instr.goto 21 47 := ⟨(-23), zq_167 zg_14_58_24.2.2.2.2.2.2.2.2.2.2.2.2.2.2.2.2.2.2.2.2.2.1 zg_14_58_24.2.2.2.2.2.2.2.2.2.2.2.2.2.2.2.2.2.2.2.2.2.2.1 zg_14_58_24.2.2.2.2.2.2.2.2.2.2.2.2.2.2.2.2.2.2.2.2.2.2.2 (by decide), rfl, rfl⟩
-- TensorForgeModel sayWord (I)V
abbrev zr_sayWord_14_58 : Room := { frames := 1, cells := 0, slots := 0, locals := 14 }
def zp_sayWord_14_58 (p0 : Int) (S0 : zz_S) : zz_S → Prop := fun S => zz_G S ∧ zz_fr [(1079, 34)] [1101] (fun _ _ => False) S0 S ∧ (S 1079 34 ≤ S0 1079 34 + 9) ∧ (S 1079 34 ≥ S0 1079 34)
theorem zb_sayWord_14_58_21 {g : mm_G} {l : Launch} (p0 : Int) (S0 : zz_S) (n : Nat) (hn : zz_end ≤ n) (G_S0 : zz_G S0) (hp0 : 0 ≤ p0 ∧ p0 ≤ 23) (hq : S0 1079 34 ≤ 190) (x2 : Int) (S : zz_S) (G_S : zz_G S) (F_S : zz_fr [(1079, 34)] [1101] (fun _ _ => False) S0 S) (i21_0 : 0 ≤ x2 ∧ x2 ≤ 1099511627775) (i21_1 : S 1079 34 ≥ S0 1079 34) (i21_2 : (S 1079 34 ≤ S0 1079 34 + 1 ∧ x2 < 1099511627776) ∨ (S 1079 34 ≤ S0 1079 34 + 2 ∧ x2 < 34359738368) ∨ (S 1079 34 ≤ S0 1079 34 + 3 ∧ x2 < 1073741824) ∨ (S 1079 34 ≤ S0 1079 34 + 4 ∧ x2 < 33554432) ∨ (S 1079 34 ≤ S0 1079 34 + 5 ∧ x2 < 1048576) ∨ (S 1079 34 ≤ S0 1079 34 + 6 ∧ x2 < 32768) ∨ (S 1079 34 ≤ S0 1079 34 + 7 ∧ x2 < 1024) ∨ (S 1079 34 ≤ S0 1079 34 + 8 ∧ x2 < 32) ∨ (S 1079 34 ≤ S0 1079 34 + 9 ∧ x2 < 1)) (R : Nat) (hR : x2.toNat = R) (k21 : ∀ (x2 : Int) (S : zz_S), zz_G S → zz_fr [(1079, 34)] [1101] (fun _ _ => False) S0 S → (0 ≤ x2 ∧ x2 ≤ 1099511627775) → (S 1079 34 ≥ S0 1079 34) → ((S 1079 34 ≤ S0 1079 34 + 1 ∧ x2 < 1099511627776) ∨ (S 1079 34 ≤ S0 1079 34 + 2 ∧ x2 < 34359738368) ∨ (S 1079 34 ≤ S0 1079 34 + 3 ∧ x2 < 1073741824) ∨ (S 1079 34 ≤ S0 1079 34 + 4 ∧ x2 < 33554432) ∨ (S 1079 34 ≤ S0 1079 34 + 5 ∧ x2 < 1048576) ∨ (S 1079 34 ≤ S0 1079 34 + 6 ∧ x2 < 32768) ∨ (S 1079 34 ≤ S0 1079 34 + 7 ∧ x2 < 1024) ∨ (S 1079 34 ≤ S0 1079 34 + 8 ∧ x2 < 32) ∨ (S 1079 34 ≤ S0 1079 34 + 9 ∧ x2 < 1)) → x2.toNat < R → zz_E g l zy_sayWord_14_58 zr_sayWord_14_58 (zz_QV n (zp_sayWord_14_58 p0 S0)) S n 21 [some (.ref 1079), none, some (zl x2)] [] 0 0) : zz_E g l zy_sayWord_14_58 zr_sayWord_14_58 (zz_QV n (zp_sayWord_14_58 p0 S0)) S n 21 [some (.ref 1079), none, some (zl x2)] [] 0 0 := by
  refine zz_lload_n (x := x2) rfl zd_14_58_21 ?_
  refine zz_lconst (z := 0) (by decide) zd_14_58_22 ?_
  refine zz_lcmp (by omega) (by omega) zd_14_58_23 (fun v10 hv10 => ?_)
  refine zz_if_le (by omega) zd_14_58_24 (fun c11 => ?_) (fun c11 => ?_)
  · have g12 := zz_G.r G_S 1079 34 0 200 rfl rfl
    exact zz_vret zd_14_58_47 rfl (Nat.zero_le _) (Nat.zero_le _) ⟨_, rfl, G_S, F_S, by omega, by omega⟩
  · refine zz_aload_n (x := 1079) rfl zd_14_58_27 ?_
    refine zz_ldc2 (z := 96) zq_Md_391 (by decide) zd_14_58_28 ?_
    refine zz_lload_n (x := x2) rfl zd_14_58_31 ?_
    refine zz_ldc2 (z := 31) zq_Md_357 (by decide) zd_14_58_32 ?_
    refine zz_land zd_14_58_35 (fun v13 hv13 ev13 => ?_)
    have av13 := zz_band64 (by omega) (by omega) ev13
    refine zz_ladd zd_14_58_36 ?_
    have g14 := zz_G.r G_S 1079 34 0 200 rfl rfl
    refine zz_callVV [zl (96 + v13)] zd_14_58_37 zk_Md_388 zT_1079 (zz_ltn hn rfl) rfl rfl ⟨Nat.le_of_ble_eq_true rfl, Nat.le_of_ble_eq_true rfl⟩ ⟨rfl, rfl⟩ (Nat.zero_le _) (Nat.zero_le _) (zc_say_14_57 (96 + v13) S n hn G_S (by omega) (by omega)) (fun S15 hP => ?_)
    obtain ⟨G_S15, fS15, o17, o18⟩ := hP
    have F_S15 := zz_fr.trans F_S fS15 rfl zz_nv
    refine zz_lload_n (x := x2) rfl zd_14_58_40 ?_
    refine zz_iconst zd_14_58_41 ?_
    refine zz_lshr zd_14_58_42 (fun v19 hv19 ev19 => ?_)
    have av19 := zz_lsr5 (by omega) ev19
    refine zz_lstore_n [some (.ref 1079), none, some (zl v19), none] zd_14_58_43 (by decide) rfl ?_
    refine zz_goto zd_14_58_44 ?_
    have g20 := zz_G.r G_S15 1079 34 0 200 rfl rfl
    refine zz_less (ls1 := [some (.ref 1079), none, some (zl v19)]) ⟨rfl, ⟨rfl, trivial⟩⟩ ?_
    exact k21 v19 S15 G_S15 F_S15 (by omega) (by omega) (by omega) (by omega)
theorem zi_sayWord_14_58 {g : mm_G} {l : Launch} (p0 : Int) (S0 : zz_S) (n : Nat) (hn : zz_end ≤ n) (G_S0 : zz_G S0) (hp0 : 0 ≤ p0 ∧ p0 ≤ 23) (hq : S0 1079 34 ≤ 190) : ∀ N : Nat, (∀ (x2 : Int) (S : zz_S), zz_G S → zz_fr [(1079, 34)] [1101] (fun _ _ => False) S0 S → (0 ≤ x2 ∧ x2 ≤ 1099511627775) → (S 1079 34 ≥ S0 1079 34) → ((S 1079 34 ≤ S0 1079 34 + 1 ∧ x2 < 1099511627776) ∨ (S 1079 34 ≤ S0 1079 34 + 2 ∧ x2 < 34359738368) ∨ (S 1079 34 ≤ S0 1079 34 + 3 ∧ x2 < 1073741824) ∨ (S 1079 34 ≤ S0 1079 34 + 4 ∧ x2 < 33554432) ∨ (S 1079 34 ≤ S0 1079 34 + 5 ∧ x2 < 1048576) ∨ (S 1079 34 ≤ S0 1079 34 + 6 ∧ x2 < 32768) ∨ (S 1079 34 ≤ S0 1079 34 + 7 ∧ x2 < 1024) ∨ (S 1079 34 ≤ S0 1079 34 + 8 ∧ x2 < 32) ∨ (S 1079 34 ≤ S0 1079 34 + 9 ∧ x2 < 1)) → x2.toNat < N → zz_E g l zy_sayWord_14_58 zr_sayWord_14_58 (zz_QV n (zp_sayWord_14_58 p0 S0)) S n 21 [some (.ref 1079), none, some (zl x2)] [] 0 0) := by
  intro N
  induction N with
  | zero => exact fun x2 S _ _ _ _ _ h => absurd h (Nat.not_lt_zero _)
  | succ N ih =>
    exact fun x2 S a b j0 j1 j2 hR => zb_sayWord_14_58_21 p0 S0 n hn G_S0 hp0 hq x2 S a b j0 j1 j2 _ rfl (fun x2 S a b j0 j1 j2 h => ih x2 S a b j0 j1 j2 (Nat.lt_of_lt_of_le h (Nat.le_of_lt_succ hR)))
theorem zc_sayWord_14_58 {g : mm_G} {l : Launch} (p0 : Int) (S0 : zz_S) (n : Nat) (hn : zz_end ≤ n) (G_S0 : zz_G S0) (hp0 : 0 ≤ p0 ∧ p0 ≤ 23) (hq : S0 1079 34 ≤ 190) : mm_Met g l zy_sayWord_14_58 zr_sayWord_14_58 [.ref 1079, zi p0] (zz_M S0 n) n (zz_QV n (zp_sayWord_14_58 p0 S0)) := by
  refine zz_enter (by decide) (Nat.le_of_ble_eq_true rfl) (zz_less (ls1 := [some (.ref 1079), some (zi p0)]) ⟨rfl, ⟨rfl, trivial⟩⟩ ?_)
  have F_S0 : zz_fr [(1079, 34)] [1101] (fun _ _ => False) S0 S0 := zz_fr.refl
  have k21 : ∀ (x2 : Int) (S : zz_S), zz_G S → zz_fr [(1079, 34)] [1101] (fun _ _ => False) S0 S → (0 ≤ x2 ∧ x2 ≤ 1099511627775) → (S 1079 34 ≥ S0 1079 34) → ((S 1079 34 ≤ S0 1079 34 + 1 ∧ x2 < 1099511627776) ∨ (S 1079 34 ≤ S0 1079 34 + 2 ∧ x2 < 34359738368) ∨ (S 1079 34 ≤ S0 1079 34 + 3 ∧ x2 < 1073741824) ∨ (S 1079 34 ≤ S0 1079 34 + 4 ∧ x2 < 33554432) ∨ (S 1079 34 ≤ S0 1079 34 + 5 ∧ x2 < 1048576) ∨ (S 1079 34 ≤ S0 1079 34 + 6 ∧ x2 < 32768) ∨ (S 1079 34 ≤ S0 1079 34 + 7 ∧ x2 < 1024) ∨ (S 1079 34 ≤ S0 1079 34 + 8 ∧ x2 < 32) ∨ (S 1079 34 ≤ S0 1079 34 + 9 ∧ x2 < 1)) → zz_E g l zy_sayWord_14_58 zr_sayWord_14_58 (zz_QV n (zp_sayWord_14_58 p0 S0)) S n 21 [some (.ref 1079), none, some (zl x2)] [] 0 0 := fun x2 S a b j0 j1 j2 => (zi_sayWord_14_58 (g := g) (l := l) p0 S0 n hn G_S0 hp0 hq _) x2 S a b j0 j1 j2 (Nat.lt_succ_self _)
  refine zz_aload_n (x := 1079) rfl zd_14_58_0 ?_
  have g1 := zz_G.r G_S0 1079 34 0 200 rfl rfl
  refine zz_geti (z := S0 1079 34) zd_14_58_1 zf_Md_385 zT_1079 rfl (zz_ltn hn rfl) rfl ?_
  refine zz_if_le (by omega) zd_14_58_4 (fun c2 => ?_) (fun c2 => ?_)
  · refine zz_aload_n (x := 1079) rfl zd_14_58_14 ?_
    refine zz_getr (kd := 0) (z := 1100) zd_14_58_15 zf_Md_79 zT_1079 rfl (zz_ltn hn rfl) (zz_G.eq G_S0 1079 29 1100 rfl rfl) (by decide) 1100 rfl ?_
    refine zz_iload_n (x := p0) rfl zd_14_58_18 ?_
    have g3 := zz_G.r G_S0 1100 p0.toNat 0 1099511627775 rfl rfl
    refine zz_lald (z := S0 1100 p0.toNat) zd_14_58_19 zT_1100 rfl (zz_ltn hn rfl) (by decide) (by omega) rfl ?_
    refine zz_lstore_n [some (.ref 1079), some (zi p0), some (zl (S0 1100 p0.toNat)), none] zd_14_58_20 (by decide) rfl ?_
    refine zz_less (ls1 := [some (.ref 1079), none, some (zl (S0 1100 p0.toNat))]) ⟨rfl, ⟨rfl, trivial⟩⟩ ?_
    exact k21 (S0 1100 p0.toNat) S0 G_S0 F_S0 (by omega) (by omega) (by omega)
  · refine zz_aload_n (x := 1079) rfl zd_14_58_7 ?_
    refine zz_ldc2 (z := 32) zq_Md_327 (by decide) zd_14_58_8 ?_
    refine zz_callVV [zl 32] zd_14_58_11 zk_Md_388 zT_1079 (zz_ltn hn rfl) rfl rfl ⟨Nat.le_of_ble_eq_true rfl, Nat.le_of_ble_eq_true rfl⟩ ⟨rfl, rfl⟩ (Nat.zero_le _) (Nat.zero_le _) (zc_say_14_57 32 S0 n hn G_S0 (by omega) (by omega)) (fun S4 hP => ?_)
    obtain ⟨G_S4, fS4, o6, o7⟩ := hP
    have F_S4 := zz_fr.trans F_S0 fS4 rfl zz_nv
    refine zz_aload_n (x := 1079) rfl zd_14_58_14 ?_
    refine zz_getr (kd := 0) (z := 1100) zd_14_58_15 zf_Md_79 zT_1079 rfl (zz_ltn hn rfl) (zz_G.eq G_S4 1079 29 1100 rfl rfl) (by decide) 1100 rfl ?_
    refine zz_iload_n (x := p0) rfl zd_14_58_18 ?_
    have g8 := zz_G.r G_S0 1100 p0.toNat 0 1099511627775 rfl rfl
    refine zz_lald (z := S0 1100 p0.toNat) zd_14_58_19 zT_1100 rfl (zz_ltn hn rfl) (by decide) (by omega) (zz_rc fS4 (zz_nc1 rfl) rfl (fun h => h) rfl) ?_
    refine zz_lstore_n [some (.ref 1079), some (zi p0), some (zl (S0 1100 p0.toNat)), none] zd_14_58_20 (by decide) rfl ?_
    have g9 := zz_G.r G_S4 1079 34 0 200 rfl rfl
    refine zz_less (ls1 := [some (.ref 1079), none, some (zl (S0 1100 p0.toNat))]) ⟨rfl, ⟨rfl, trivial⟩⟩ ?_
    exact k21 (S0 1100 p0.toNat) S4 G_S4 F_S4 (by omega) (by omega) (by omega)
abbrev zy_sayNumber_14_59 : mm_Y := (⟨"TensorForgeModel", "sayNumber", "(I)V"⟩, prog_14_method_59_code, 3, none)
theorem zyw_sayNumber_14_59 : mm_Yw zy_sayNumber_14_59 1 := ⟨mm_tb_1 2067 (by decide +kernel) rfl, mm_tb_1 12 (by decide +kernel) rfl, ⟨by decide, by decide⟩, by decide +kernel⟩
theorem zg_14_59_0 : zq_at zy_sayNumber_14_59.2.1 0 17 ∧ zq_at zy_sayNumber_14_59.2.1 1 3 ∧ zq_at zy_sayNumber_14_59.2.1 2 232 ∧ zq_at zy_sayNumber_14_59.2.1 3 61 ∧ zq_at zy_sayNumber_14_59.2.1 4 28 ∧ zq_at zy_sayNumber_14_59.2.1 5 158 ∧ zq_at zy_sayNumber_14_59.2.1 6 0 ∧ zq_at zy_sayNumber_14_59.2.1 7 36 ∧ zq_at zy_sayNumber_14_59.2.1 41 177 ∧ zq_at zy_sayNumber_14_59.2.1 8 27 ∧ zq_at zy_sayNumber_14_59.2.1 9 28 ∧ zq_at zy_sayNumber_14_59.2.1 10 162 ∧ zq_at zy_sayNumber_14_59.2.1 11 0 ∧ zq_at zy_sayNumber_14_59.2.1 12 8 ∧ zq_at zy_sayNumber_14_59.2.1 18 42 ∧ zq_at zy_sayNumber_14_59.2.1 19 20 ∧ zq_at zy_sayNumber_14_59.2.1 20 1 ∧ zq_at zy_sayNumber_14_59.2.1 21 94 ∧ zq_at zy_sayNumber_14_59.2.1 22 27 ∧ zq_at zy_sayNumber_14_59.2.1 23 28 ∧ zq_at zy_sayNumber_14_59.2.1 24 108 ∧ zq_at zy_sayNumber_14_59.2.1 25 16 ∧ zq_at zy_sayNumber_14_59.2.1 26 10 ∧ zq_at zy_sayNumber_14_59.2.1 27 112 := by decide +kernel
theorem zd_14_59_0 : zz_D zy_sayNumber_14_59 0 (.sipush 1000) 3 3 := ⟨zq_17 zg_14_59_0.1 zg_14_59_0.2.1 zg_14_59_0.2.2.1 (by decide), rfl⟩
theorem zd_14_59_3 : zz_D zy_sayNumber_14_59 3 (.istore_n 2) 1 4 := ⟨zq_61 zg_14_59_0.2.2.2.1, rfl⟩
theorem zd_14_59_4 : zz_D zy_sayNumber_14_59 4 (.iload_n 2) 1 5 := ⟨zq_28 zg_14_59_0.2.2.2.2.1, rfl⟩
theorem zd_14_59_5 : zz_B zy_sayNumber_14_59 5 (Instr.ifCond .le) 41 8 := ⟨36, zq_158 zg_14_59_0.2.2.2.2.2.1 zg_14_59_0.2.2.2.2.2.2.1 zg_14_59_0.2.2.2.2.2.2.2.1 (by decide), rfl, rfl⟩
theorem zd_14_59_41 : zz_D zy_sayNumber_14_59 41 (.return_) 1 42 := ⟨zq_177 zg_14_59_0.2.2.2.2.2.2.2.2.1, rfl⟩
theorem zd_14_59_8 : zz_D zy_sayNumber_14_59 8 (.iload_n 1) 1 9 := ⟨zq_27 zg_14_59_0.2.2.2.2.2.2.2.2.2.1, rfl⟩
theorem zd_14_59_9 : zz_D zy_sayNumber_14_59 9 (.iload_n 2) 1 10 := ⟨zq_28 zg_14_59_0.2.2.2.2.2.2.2.2.2.2.1, rfl⟩
theorem zd_14_59_10 : zz_B zy_sayNumber_14_59 10 (Instr.if_icmp .ge) 18 13 := ⟨8, zq_162 zg_14_59_0.2.2.2.2.2.2.2.2.2.2.2.1 zg_14_59_0.2.2.2.2.2.2.2.2.2.2.2.2.1 zg_14_59_0.2.2.2.2.2.2.2.2.2.2.2.2.2.1 (by decide), rfl, rfl⟩
theorem zd_14_59_18 : zz_D zy_sayNumber_14_59 18 (.aload_n 0) 1 19 := ⟨zq_42 zg_14_59_0.2.2.2.2.2.2.2.2.2.2.2.2.2.2.1, rfl⟩
theorem zd_14_59_19 : zz_D zy_sayNumber_14_59 19 (.ldc2_w 350) 3 22 := ⟨zq_20 zg_14_59_0.2.2.2.2.2.2.2.2.2.2.2.2.2.2.2.1 zg_14_59_0.2.2.2.2.2.2.2.2.2.2.2.2.2.2.2.2.1 zg_14_59_0.2.2.2.2.2.2.2.2.2.2.2.2.2.2.2.2.2.1 rfl, rfl⟩
theorem zd_14_59_22 : zz_D zy_sayNumber_14_59 22 (.iload_n 1) 1 23 := ⟨zq_27 zg_14_59_0.2.2.2.2.2.2.2.2.2.2.2.2.2.2.2.2.2.2.1, rfl⟩
theorem zd_14_59_23 : zz_D zy_sayNumber_14_59 23 (.iload_n 2) 1 24 := ⟨zq_28 zg_14_59_0.2.2.2.2.2.2.2.2.2.2.2.2.2.2.2.2.2.2.2.1, rfl⟩
theorem zd_14_59_24 : zz_D zy_sayNumber_14_59 24 (.idiv) 1 25 := ⟨zq_108 zg_14_59_0.2.2.2.2.2.2.2.2.2.2.2.2.2.2.2.2.2.2.2.2.1, rfl⟩
theorem zd_14_59_25 : zz_D zy_sayNumber_14_59 25 (.bipush 10) 2 27 := ⟨zq_16 zg_14_59_0.2.2.2.2.2.2.2.2.2.2.2.2.2.2.2.2.2.2.2.2.2.1 zg_14_59_0.2.2.2.2.2.2.2.2.2.2.2.2.2.2.2.2.2.2.2.2.2.2.1 (by decide), rfl⟩
theorem zd_14_59_27 : zz_D zy_sayNumber_14_59 27 (.irem) 1 28 := ⟨zq_112 zg_14_59_0.2.2.2.2.2.2.2.2.2.2.2.2.2.2.2.2.2.2.2.2.2.2.2, rfl⟩
theorem zg_14_59_28 : zq_at zy_sayNumber_14_59.2.1 28 133 ∧ zq_at zy_sayNumber_14_59.2.1 29 97 ∧ zq_at zy_sayNumber_14_59.2.1 30 182 ∧ zq_at zy_sayNumber_14_59.2.1 31 1 ∧ zq_at zy_sayNumber_14_59.2.1 32 132 ∧ zq_at zy_sayNumber_14_59.2.1 33 28 ∧ zq_at zy_sayNumber_14_59.2.1 34 16 ∧ zq_at zy_sayNumber_14_59.2.1 35 10 ∧ zq_at zy_sayNumber_14_59.2.1 36 108 ∧ zq_at zy_sayNumber_14_59.2.1 37 61 ∧ zq_at zy_sayNumber_14_59.2.1 38 167 ∧ zq_at zy_sayNumber_14_59.2.1 39 255 ∧ zq_at zy_sayNumber_14_59.2.1 40 222 ∧ zq_at zy_sayNumber_14_59.2.1 13 28 ∧ zq_at zy_sayNumber_14_59.2.1 14 4 ∧ zq_at zy_sayNumber_14_59.2.1 15 160 ∧ zq_at zy_sayNumber_14_59.2.1 16 0 ∧ zq_at zy_sayNumber_14_59.2.1 17 18 := by decide +kernel
theorem zd_14_59_28 : zz_D zy_sayNumber_14_59 28 (.i2l) 1 29 := ⟨zq_133 zg_14_59_28.1, rfl⟩
theorem zd_14_59_29 : zz_D zy_sayNumber_14_59 29 (.ladd) 1 30 := ⟨zq_97 zg_14_59_28.2.1, rfl⟩
theorem zd_14_59_30 : zz_D zy_sayNumber_14_59 30 (.invokevirtual 388) 3 33 := ⟨zq_182 zg_14_59_28.2.2.1 zg_14_59_28.2.2.2.1 zg_14_59_28.2.2.2.2.1 rfl, rfl⟩
theorem zd_14_59_33 : zz_D zy_sayNumber_14_59 33 (.iload_n 2) 1 34 := ⟨zq_28 zg_14_59_28.2.2.2.2.2.1, rfl⟩
theorem zd_14_59_34 : zz_D zy_sayNumber_14_59 34 (.bipush 10) 2 36 := ⟨zq_16 zg_14_59_28.2.2.2.2.2.2.1 zg_14_59_28.2.2.2.2.2.2.2.1 (by decide), rfl⟩
theorem zd_14_59_36 : zz_D zy_sayNumber_14_59 36 (.idiv) 1 37 := ⟨zq_108 zg_14_59_28.2.2.2.2.2.2.2.2.1, rfl⟩
theorem zd_14_59_37 : zz_D zy_sayNumber_14_59 37 (.istore_n 2) 1 38 := ⟨zq_61 zg_14_59_28.2.2.2.2.2.2.2.2.2.1, rfl⟩
theorem zd_14_59_38 : zz_B zy_sayNumber_14_59 38 Instr.goto 4 41 := ⟨(-34), zq_167 zg_14_59_28.2.2.2.2.2.2.2.2.2.2.1 zg_14_59_28.2.2.2.2.2.2.2.2.2.2.2.1 zg_14_59_28.2.2.2.2.2.2.2.2.2.2.2.2.1 (by decide), rfl, rfl⟩
theorem zd_14_59_13 : zz_D zy_sayNumber_14_59 13 (.iload_n 2) 1 14 := ⟨zq_28 zg_14_59_28.2.2.2.2.2.2.2.2.2.2.2.2.2.1, rfl⟩
theorem zd_14_59_14 : zz_D zy_sayNumber_14_59 14 (.iconst 1) 1 15 := ⟨zq_4 zg_14_59_28.2.2.2.2.2.2.2.2.2.2.2.2.2.2.1, rfl⟩
theorem zd_14_59_15 : zz_B zy_sayNumber_14_59 15 (Instr.if_icmp .ne) 33 18 := ⟨18, zq_160 zg_14_59_28.2.2.2.2.2.2.2.2.2.2.2.2.2.2.2.1 zg_14_59_28.2.2.2.2.2.2.2.2.2.2.2.2.2.2.2.2.1 zg_14_59_28.2.2.2.2.2.2.2.2.2.2.2.2.2.2.2.2.2 (by decide), rfl, rfl⟩
-- TensorForgeModel sayNumber (I)V
abbrev zr_sayNumber_14_59 : Room := { frames := 1, cells := 0, slots := 0, locals := 14 }
def zp_sayNumber_14_59 (p0 : Int) (S0 : zz_S) : zz_S → Prop := fun S => zz_G S ∧ zz_fr [(1079, 34)] [1101] (fun _ _ => False) S0 S ∧ (S 1079 34 ≤ S0 1079 34 + 4) ∧ (S 1079 34 ≥ S0 1079 34) ∧ (∀ (u : List Int), zs_P (S0 1079 34) (S0 1101) u → 0 ≤ p0 → zs_P (S 1079 34) (S 1101) (u ++ zs_nu p0))
theorem zb_sayNumber_14_59_4 {g : mm_G} {l : Launch} (p0 : Int) (S0 : zz_S) (n : Nat) (hn : zz_end ≤ n) (G_S0 : zz_G S0) (hp0 : (-2147483648) ≤ p0 ∧ p0 ≤ 2147483647) (hq : S0 1079 34 ≤ 195) (x2 : Int) (S : zz_S) (G_S : zz_G S) (F_S : zz_fr [(1079, 34)] [1101] (fun _ _ => False) S0 S) (i4_0 : 0 ≤ x2 ∧ x2 ≤ 1000) (i4_1 : S 1079 34 ≥ S0 1079 34) (i4_2 : (x2 = 1000 ∧ S 1079 34 ≤ S0 1079 34 + 0) ∨ (x2 = 100 ∧ S 1079 34 ≤ S0 1079 34 + 1) ∨ (x2 = 10 ∧ S 1079 34 ≤ S0 1079 34 + 2) ∨ (x2 = 1 ∧ S 1079 34 ≤ S0 1079 34 + 3) ∨ (x2 = 0 ∧ S 1079 34 ≤ S0 1079 34 + 4)) (i4_3 : x2 = 1000 ∨ x2 = 100 ∨ x2 = 10 ∨ x2 = 1 ∨ x2 = 0) (i4_4 : ∀ (u : List Int), zs_P (S0 1079 34) (S0 1101) u → 0 ≤ p0 → zs_P (S 1079 34) (S 1101) (u ++ zs_nup p0 x2)) (R : Nat) (hR : x2.toNat = R) (k4 : ∀ (x2 : Int) (S : zz_S), zz_G S → zz_fr [(1079, 34)] [1101] (fun _ _ => False) S0 S → (0 ≤ x2 ∧ x2 ≤ 1000) → (S 1079 34 ≥ S0 1079 34) → ((x2 = 1000 ∧ S 1079 34 ≤ S0 1079 34 + 0) ∨ (x2 = 100 ∧ S 1079 34 ≤ S0 1079 34 + 1) ∨ (x2 = 10 ∧ S 1079 34 ≤ S0 1079 34 + 2) ∨ (x2 = 1 ∧ S 1079 34 ≤ S0 1079 34 + 3) ∨ (x2 = 0 ∧ S 1079 34 ≤ S0 1079 34 + 4)) → (x2 = 1000 ∨ x2 = 100 ∨ x2 = 10 ∨ x2 = 1 ∨ x2 = 0) → (∀ (u : List Int), zs_P (S0 1079 34) (S0 1101) u → 0 ≤ p0 → zs_P (S 1079 34) (S 1101) (u ++ zs_nup p0 x2)) → x2.toNat < R → zz_E g l zy_sayNumber_14_59 zr_sayNumber_14_59 (zz_QV n (zp_sayNumber_14_59 p0 S0)) S n 4 [some (.ref 1079), some (zi p0), some (zi x2)] [] 0 0) : zz_E g l zy_sayNumber_14_59 zr_sayNumber_14_59 (zz_QV n (zp_sayNumber_14_59 p0 S0)) S n 4 [some (.ref 1079), some (zi p0), some (zi x2)] [] 0 0 := by
  refine zz_iload_n (x := x2) rfl zd_14_59_4 ?_
  refine zz_if_le (by omega) zd_14_59_5 (fun c2 => ?_) (fun c2 => ?_)
  · have g3 := zz_G.r G_S 1079 34 0 200 rfl rfl
    exact zz_vret zd_14_59_41 rfl (Nat.zero_le _) (Nat.zero_le _) ⟨_, rfl, G_S, F_S, by omega, by omega, (fun u h hp => by have o9 := i4_4 u h hp; rw [(show x2 = 0 by omega)] at o9; exact o9)⟩
  · refine zz_iload_n (x := p0) rfl zd_14_59_8 ?_
    refine zz_iload_n (x := x2) rfl zd_14_59_9 ?_
    refine zz_icmp_ge (by omega) (by omega) zd_14_59_10 (fun c4 => ?_) (fun c4 => ?_)
    · refine zz_aload_n (x := 1079) rfl zd_14_59_18 ?_
      refine zz_ldc2 (z := 48) zq_Md_350 (by decide) zd_14_59_19 ?_
      refine zz_iload_n (x := p0) rfl zd_14_59_22 ?_
      refine zz_iload_n (x := x2) rfl zd_14_59_23 ?_
      refine zz_idiv (by omega) (by omega) zd_14_59_24 (fun v5 hv5 av5 bv5 cv5 => ?_)
      have m6 := zz_divb (by omega) (by omega) av5
      skip
      refine zz_bipush (by decide) zd_14_59_25 ?_
      refine zz_irem (by omega) (by omega) zd_14_59_27 (fun v7 hv7 av7 bv7 cv7 => ?_)
      refine zz_i2l (by omega) zd_14_59_28 ?_
      refine zz_ladd zd_14_59_29 ?_
      have g8 := zz_G.r G_S 1079 34 0 200 rfl rfl
      refine zz_callVV [zl (48 + v7)] zd_14_59_30 zk_Md_388 zT_1079 (zz_ltn hn rfl) rfl rfl ⟨Nat.le_of_ble_eq_true rfl, Nat.le_of_ble_eq_true rfl⟩ ⟨rfl, rfl⟩ (Nat.zero_le _) (Nat.zero_le _) (zc_say_14_57 (48 + v7) S n hn G_S (by omega) (by omega)) (fun S9 hP => ?_)
      obtain ⟨G_S9, fS9, o11, o12⟩ := hP
      have F_S9 := zz_fr.trans F_S fS9 rfl zz_nv
      refine zz_iload_n (x := x2) rfl zd_14_59_33 ?_
      refine zz_bipush (by decide) zd_14_59_34 ?_
      refine zz_idiv (by omega) (by omega) zd_14_59_36 (fun v13 hv13 av13 bv13 cv13 => ?_)
      refine zz_istore_n [some (.ref 1079), some (zi p0), some (zi v13)] zd_14_59_37 (by decide) rfl ?_
      refine zz_goto zd_14_59_38 ?_
      have g14 := zz_G.r G_S9 1079 34 0 200 rfl rfl
      refine zz_less (ls1 := [some (.ref 1079), some (zi p0), some (zi v13)]) ⟨rfl, ⟨rfl, ⟨rfl, trivial⟩⟩⟩ ?_
      exact k4 v13 S9 G_S9 F_S9 (by omega) (by omega) (by omega) (zs_u10 (zs_u4 i4_3 (by omega)) av13) (fun u h hp => by have o9 := o12 _ (i4_4 u h hp) (by omega); rw [show 48 + v7 = zs_d p0 x2 from zs_dg hp (zs_u4 i4_3 (by omega)) av5 av7 rfl, List.append_assoc, zs_nupY (zs_u4 i4_3 (by omega)) (by omega) (zs_u1 (zs_u4 i4_3 (by omega)) av13)] at o9; exact o9) (by omega)
    · refine zz_iload_n (x := x2) rfl zd_14_59_13 ?_
      refine zz_iconst zd_14_59_14 ?_
      refine zz_icmp_ne (by omega) (by omega) zd_14_59_15 (fun c15 => ?_) (fun c15 => ?_)
      · refine zz_iload_n (x := x2) rfl zd_14_59_33 ?_
        refine zz_bipush (by decide) zd_14_59_34 ?_
        refine zz_idiv (by omega) (by omega) zd_14_59_36 (fun v16 hv16 av16 bv16 cv16 => ?_)
        refine zz_istore_n [some (.ref 1079), some (zi p0), some (zi v16)] zd_14_59_37 (by decide) rfl ?_
        refine zz_goto zd_14_59_38 ?_
        have g17 := zz_G.r G_S 1079 34 0 200 rfl rfl
        refine zz_less (ls1 := [some (.ref 1079), some (zi p0), some (zi v16)]) ⟨rfl, ⟨rfl, ⟨rfl, trivial⟩⟩⟩ ?_
        exact k4 v16 S G_S F_S (by omega) (by omega) (by omega) (zs_u10 (zs_u4 i4_3 (by omega)) av16) (fun u h hp => by rw [← zs_nupN (zs_u4 i4_3 (by omega)) (by omega) (by omega) (zs_u1 (zs_u4 i4_3 (by omega)) av16)]; exact i4_4 u h hp) (by omega)
      · refine zz_aload_n (x := 1079) rfl zd_14_59_18 ?_
        refine zz_ldc2 (z := 48) zq_Md_350 (by decide) zd_14_59_19 ?_
        refine zz_iload_n (x := p0) rfl zd_14_59_22 ?_
        refine zz_iload_n (x := x2) rfl zd_14_59_23 ?_
        refine zz_idiv (by omega) (by omega) zd_14_59_24 (fun v18 hv18 av18 bv18 cv18 => ?_)
        skip
        refine zz_bipush (by decide) zd_14_59_25 ?_
        refine zz_irem (by omega) (by omega) zd_14_59_27 (fun v19 hv19 av19 bv19 cv19 => ?_)
        refine zz_i2l (by omega) zd_14_59_28 ?_
        refine zz_ladd zd_14_59_29 ?_
        have g20 := zz_G.r G_S 1079 34 0 200 rfl rfl
        refine zz_callVV [zl (48 + v19)] zd_14_59_30 zk_Md_388 zT_1079 (zz_ltn hn rfl) rfl rfl ⟨Nat.le_of_ble_eq_true rfl, Nat.le_of_ble_eq_true rfl⟩ ⟨rfl, rfl⟩ (Nat.zero_le _) (Nat.zero_le _) (zc_say_14_57 (48 + v19) S n hn G_S (by omega) (by omega)) (fun S21 hP => ?_)
        obtain ⟨G_S21, fS21, o23, o24⟩ := hP
        have F_S21 := zz_fr.trans F_S fS21 rfl zz_nv
        refine zz_iload_n (x := x2) rfl zd_14_59_33 ?_
        refine zz_bipush (by decide) zd_14_59_34 ?_
        refine zz_idiv (by omega) (by omega) zd_14_59_36 (fun v25 hv25 av25 bv25 cv25 => ?_)
        refine zz_istore_n [some (.ref 1079), some (zi p0), some (zi v25)] zd_14_59_37 (by decide) rfl ?_
        refine zz_goto zd_14_59_38 ?_
        have g26 := zz_G.r G_S21 1079 34 0 200 rfl rfl
        refine zz_less (ls1 := [some (.ref 1079), some (zi p0), some (zi v25)]) ⟨rfl, ⟨rfl, ⟨rfl, trivial⟩⟩⟩ ?_
        exact k4 v25 S21 G_S21 F_S21 (by omega) (by omega) (by omega) (zs_u10 (zs_u4 i4_3 (by omega)) av25) (fun u h hp => by have o9 := o24 _ (i4_4 u h hp) (by omega); rw [show 48 + v19 = zs_d p0 x2 from zs_dg hp (zs_u4 i4_3 (by omega)) av18 av19 rfl, List.append_assoc, zs_nupY (zs_u4 i4_3 (by omega)) (by omega) (zs_u1 (zs_u4 i4_3 (by omega)) av25)] at o9; exact o9) (by omega)
theorem zi_sayNumber_14_59 {g : mm_G} {l : Launch} (p0 : Int) (S0 : zz_S) (n : Nat) (hn : zz_end ≤ n) (G_S0 : zz_G S0) (hp0 : (-2147483648) ≤ p0 ∧ p0 ≤ 2147483647) (hq : S0 1079 34 ≤ 195) : ∀ N : Nat, (∀ (x2 : Int) (S : zz_S), zz_G S → zz_fr [(1079, 34)] [1101] (fun _ _ => False) S0 S → (0 ≤ x2 ∧ x2 ≤ 1000) → (S 1079 34 ≥ S0 1079 34) → ((x2 = 1000 ∧ S 1079 34 ≤ S0 1079 34 + 0) ∨ (x2 = 100 ∧ S 1079 34 ≤ S0 1079 34 + 1) ∨ (x2 = 10 ∧ S 1079 34 ≤ S0 1079 34 + 2) ∨ (x2 = 1 ∧ S 1079 34 ≤ S0 1079 34 + 3) ∨ (x2 = 0 ∧ S 1079 34 ≤ S0 1079 34 + 4)) → (x2 = 1000 ∨ x2 = 100 ∨ x2 = 10 ∨ x2 = 1 ∨ x2 = 0) → (∀ (u : List Int), zs_P (S0 1079 34) (S0 1101) u → 0 ≤ p0 → zs_P (S 1079 34) (S 1101) (u ++ zs_nup p0 x2)) → x2.toNat < N → zz_E g l zy_sayNumber_14_59 zr_sayNumber_14_59 (zz_QV n (zp_sayNumber_14_59 p0 S0)) S n 4 [some (.ref 1079), some (zi p0), some (zi x2)] [] 0 0) := by
  intro N
  induction N with
  | zero => exact fun x2 S _ _ _ _ _ _ _ h => absurd h (Nat.not_lt_zero _)
  | succ N ih =>
    exact fun x2 S a b j0 j1 j2 j3 j4 hR => zb_sayNumber_14_59_4 p0 S0 n hn G_S0 hp0 hq x2 S a b j0 j1 j2 j3 j4 _ rfl (fun x2 S a b j0 j1 j2 j3 j4 h => ih x2 S a b j0 j1 j2 j3 j4 (Nat.lt_of_lt_of_le h (Nat.le_of_lt_succ hR)))
theorem zc_sayNumber_14_59 {g : mm_G} {l : Launch} (p0 : Int) (S0 : zz_S) (n : Nat) (hn : zz_end ≤ n) (G_S0 : zz_G S0) (hp0 : (-2147483648) ≤ p0 ∧ p0 ≤ 2147483647) (hq : S0 1079 34 ≤ 195) : mm_Met g l zy_sayNumber_14_59 zr_sayNumber_14_59 [.ref 1079, zi p0] (zz_M S0 n) n (zz_QV n (zp_sayNumber_14_59 p0 S0)) := by
  refine zz_enter (by decide) (Nat.le_of_ble_eq_true rfl) (zz_less (ls1 := [some (.ref 1079), some (zi p0)]) ⟨rfl, ⟨rfl, trivial⟩⟩ ?_)
  have F_S0 : zz_fr [(1079, 34)] [1101] (fun _ _ => False) S0 S0 := zz_fr.refl
  have k4 : ∀ (x2 : Int) (S : zz_S), zz_G S → zz_fr [(1079, 34)] [1101] (fun _ _ => False) S0 S → (0 ≤ x2 ∧ x2 ≤ 1000) → (S 1079 34 ≥ S0 1079 34) → ((x2 = 1000 ∧ S 1079 34 ≤ S0 1079 34 + 0) ∨ (x2 = 100 ∧ S 1079 34 ≤ S0 1079 34 + 1) ∨ (x2 = 10 ∧ S 1079 34 ≤ S0 1079 34 + 2) ∨ (x2 = 1 ∧ S 1079 34 ≤ S0 1079 34 + 3) ∨ (x2 = 0 ∧ S 1079 34 ≤ S0 1079 34 + 4)) → (x2 = 1000 ∨ x2 = 100 ∨ x2 = 10 ∨ x2 = 1 ∨ x2 = 0) → (∀ (u : List Int), zs_P (S0 1079 34) (S0 1101) u → 0 ≤ p0 → zs_P (S 1079 34) (S 1101) (u ++ zs_nup p0 x2)) → zz_E g l zy_sayNumber_14_59 zr_sayNumber_14_59 (zz_QV n (zp_sayNumber_14_59 p0 S0)) S n 4 [some (.ref 1079), some (zi p0), some (zi x2)] [] 0 0 := fun x2 S a b j0 j1 j2 j3 j4 => (zi_sayNumber_14_59 (g := g) (l := l) p0 S0 n hn G_S0 hp0 hq _) x2 S a b j0 j1 j2 j3 j4 (Nat.lt_succ_self _)
  refine zz_sipush (by decide) zd_14_59_0 ?_
  refine zz_istore_n [some (.ref 1079), some (zi p0), some (zi 1000)] zd_14_59_3 (by decide) rfl ?_
  have g1 := zz_G.r G_S0 1079 34 0 200 rfl rfl
  refine zz_less (ls1 := [some (.ref 1079), some (zi p0), some (zi 1000)]) ⟨rfl, ⟨rfl, ⟨rfl, trivial⟩⟩⟩ ?_
  exact k4 1000 S0 G_S0 F_S0 (by omega) (by omega) (by omega) (Or.inl rfl) (fun u h hp => by rw [zs_nup0, List.append_nil]; exact h)
abbrev zy_sayField_14_60 : mm_Y := (⟨"TensorForgeModel", "sayField", "(II)V"⟩, prog_14_method_60_code, 3, none)
theorem zyw_sayField_14_60 : mm_Yw zy_sayField_14_60 2 := ⟨mm_tb_1 2063 (by decide +kernel) rfl, mm_tb_1 12 (by decide +kernel) rfl, ⟨by decide, by decide⟩, by decide +kernel⟩
theorem zk_Md_393 : mm_Vl "TensorForgeModel" 393 11 1 zy_sayWord_14_58 := ⟨zyw_sayWord_14_58, (R_Md, F_Md, 69), rfl, mm_tb_1 2050 (by decide +kernel) rfl, mm_tb_1 2052 (by decide +kernel) rfl, mm_tb_s 115 (by decide +kernel) rfl⟩
theorem zk_Md_396 : mm_Vl "TensorForgeModel" 396 11 1 zy_sayNumber_14_59 := ⟨zyw_sayNumber_14_59, (R_Md, F_Md, 69), rfl, mm_tb_1 2064 (by decide +kernel) rfl, mm_tb_1 2066 (by decide +kernel) rfl, mm_tb_s 118 (by decide +kernel) rfl⟩
theorem zg_14_60_0 : zq_at zy_sayField_14_60.2.1 0 42 ∧ zq_at zy_sayField_14_60.2.1 1 180 ∧ zq_at zy_sayField_14_60.2.1 2 0 ∧ zq_at zy_sayField_14_60.2.1 3 36 ∧ zq_at zy_sayField_14_60.2.1 4 28 ∧ zq_at zy_sayField_14_60.2.1 5 46 ∧ zq_at zy_sayField_14_60.2.1 6 153 ∧ zq_at zy_sayField_14_60.2.1 7 0 ∧ zq_at zy_sayField_14_60.2.1 8 25 ∧ zq_at zy_sayField_14_60.2.1 31 177 ∧ zq_at zy_sayField_14_60.2.1 9 42 ∧ zq_at zy_sayField_14_60.2.1 10 27 ∧ zq_at zy_sayField_14_60.2.1 11 182 ∧ zq_at zy_sayField_14_60.2.1 12 1 ∧ zq_at zy_sayField_14_60.2.1 13 137 ∧ zq_at zy_sayField_14_60.2.1 14 42 ∧ zq_at zy_sayField_14_60.2.1 15 20 ∧ zq_at zy_sayField_14_60.2.1 16 1 ∧ zq_at zy_sayField_14_60.2.1 17 71 ∧ zq_at zy_sayField_14_60.2.1 18 182 ∧ zq_at zy_sayField_14_60.2.1 19 1 ∧ zq_at zy_sayField_14_60.2.1 20 132 ∧ zq_at zy_sayField_14_60.2.1 21 42 ∧ zq_at zy_sayField_14_60.2.1 22 42 := by decide +kernel
theorem zd_14_60_0 : zz_D zy_sayField_14_60 0 (.aload_n 0) 1 1 := ⟨zq_42 zg_14_60_0.1, rfl⟩
theorem zd_14_60_1 : zz_D zy_sayField_14_60 1 (.getfield 36) 3 4 := ⟨zq_180 zg_14_60_0.2.1 zg_14_60_0.2.2.1 zg_14_60_0.2.2.2.1 rfl, rfl⟩
theorem zd_14_60_4 : zz_D zy_sayField_14_60 4 (.iload_n 2) 1 5 := ⟨zq_28 zg_14_60_0.2.2.2.2.1, rfl⟩
theorem zd_14_60_5 : zz_D zy_sayField_14_60 5 (.iaload) 1 6 := ⟨zq_46 zg_14_60_0.2.2.2.2.2.1, rfl⟩
theorem zd_14_60_6 : zz_B zy_sayField_14_60 6 (Instr.ifCond .eq) 31 9 := ⟨25, zq_153 zg_14_60_0.2.2.2.2.2.2.1 zg_14_60_0.2.2.2.2.2.2.2.1 zg_14_60_0.2.2.2.2.2.2.2.2.1 (by decide), rfl, rfl⟩
theorem zd_14_60_31 : zz_D zy_sayField_14_60 31 (.return_) 1 32 := ⟨zq_177 zg_14_60_0.2.2.2.2.2.2.2.2.2.1, rfl⟩
theorem zd_14_60_9 : zz_D zy_sayField_14_60 9 (.aload_n 0) 1 10 := ⟨zq_42 zg_14_60_0.2.2.2.2.2.2.2.2.2.2.1, rfl⟩
theorem zd_14_60_10 : zz_D zy_sayField_14_60 10 (.iload_n 1) 1 11 := ⟨zq_27 zg_14_60_0.2.2.2.2.2.2.2.2.2.2.2.1, rfl⟩
theorem zd_14_60_11 : zz_D zy_sayField_14_60 11 (.invokevirtual 393) 3 14 := ⟨zq_182 zg_14_60_0.2.2.2.2.2.2.2.2.2.2.2.2.1 zg_14_60_0.2.2.2.2.2.2.2.2.2.2.2.2.2.1 zg_14_60_0.2.2.2.2.2.2.2.2.2.2.2.2.2.2.1 rfl, rfl⟩
theorem zd_14_60_14 : zz_D zy_sayField_14_60 14 (.aload_n 0) 1 15 := ⟨zq_42 zg_14_60_0.2.2.2.2.2.2.2.2.2.2.2.2.2.2.2.1, rfl⟩
theorem zd_14_60_15 : zz_D zy_sayField_14_60 15 (.ldc2_w 327) 3 18 := ⟨zq_20 zg_14_60_0.2.2.2.2.2.2.2.2.2.2.2.2.2.2.2.2.1 zg_14_60_0.2.2.2.2.2.2.2.2.2.2.2.2.2.2.2.2.2.1 zg_14_60_0.2.2.2.2.2.2.2.2.2.2.2.2.2.2.2.2.2.2.1 rfl, rfl⟩
theorem zd_14_60_18 : zz_D zy_sayField_14_60 18 (.invokevirtual 388) 3 21 := ⟨zq_182 zg_14_60_0.2.2.2.2.2.2.2.2.2.2.2.2.2.2.2.2.2.2.2.1 zg_14_60_0.2.2.2.2.2.2.2.2.2.2.2.2.2.2.2.2.2.2.2.2.1 zg_14_60_0.2.2.2.2.2.2.2.2.2.2.2.2.2.2.2.2.2.2.2.2.2.1 rfl, rfl⟩
theorem zd_14_60_21 : zz_D zy_sayField_14_60 21 (.aload_n 0) 1 22 := ⟨zq_42 zg_14_60_0.2.2.2.2.2.2.2.2.2.2.2.2.2.2.2.2.2.2.2.2.2.2.1, rfl⟩
theorem zd_14_60_22 : zz_D zy_sayField_14_60 22 (.aload_n 0) 1 23 := ⟨zq_42 zg_14_60_0.2.2.2.2.2.2.2.2.2.2.2.2.2.2.2.2.2.2.2.2.2.2.2, rfl⟩
theorem zg_14_60_23 : zq_at zy_sayField_14_60.2.1 23 180 ∧ zq_at zy_sayField_14_60.2.1 24 0 ∧ zq_at zy_sayField_14_60.2.1 25 36 ∧ zq_at zy_sayField_14_60.2.1 26 28 ∧ zq_at zy_sayField_14_60.2.1 27 46 ∧ zq_at zy_sayField_14_60.2.1 28 182 ∧ zq_at zy_sayField_14_60.2.1 29 1 ∧ zq_at zy_sayField_14_60.2.1 30 140 := by decide +kernel
theorem zd_14_60_23 : zz_D zy_sayField_14_60 23 (.getfield 36) 3 26 := ⟨zq_180 zg_14_60_23.1 zg_14_60_23.2.1 zg_14_60_23.2.2.1 rfl, rfl⟩
theorem zd_14_60_26 : zz_D zy_sayField_14_60 26 (.iload_n 2) 1 27 := ⟨zq_28 zg_14_60_23.2.2.2.1, rfl⟩
theorem zd_14_60_27 : zz_D zy_sayField_14_60 27 (.iaload) 1 28 := ⟨zq_46 zg_14_60_23.2.2.2.2.1, rfl⟩
theorem zd_14_60_28 : zz_D zy_sayField_14_60 28 (.invokevirtual 396) 3 31 := ⟨zq_182 zg_14_60_23.2.2.2.2.2.1 zg_14_60_23.2.2.2.2.2.2.1 zg_14_60_23.2.2.2.2.2.2.2 rfl, rfl⟩
-- TensorForgeModel sayField (II)V
abbrev zr_sayField_14_60 : Room := { frames := 2, cells := 0, slots := 0, locals := 29 }
def zp_sayField_14_60 (p0 : Int) (p1 : Int) (S0 : zz_S) : zz_S → Prop := fun S => zz_G S ∧ zz_fr [(1079, 34)] [1101] (fun _ _ => False) S0 S ∧ (S 1079 34 ≤ S0 1079 34 + 14) ∧ (S 1079 34 ≥ S0 1079 34)
theorem zc_sayField_14_60 {g : mm_G} {l : Launch} (p0 : Int) (p1 : Int) (S0 : zz_S) (n : Nat) (hn : zz_end ≤ n) (G_S0 : zz_G S0) (hp0 : 0 ≤ p0 ∧ p0 ≤ 23) (hp1 : 0 ≤ p1 ∧ p1 ≤ 11) (hq : S0 1079 34 ≤ 180) : mm_Met g l zy_sayField_14_60 zr_sayField_14_60 [.ref 1079, zi p0, zi p1] (zz_M S0 n) n (zz_QV n (zp_sayField_14_60 p0 p1 S0)) := by
  refine zz_enter (by decide) (Nat.le_of_ble_eq_true rfl) (zz_less (ls1 := [some (.ref 1079), some (zi p0), some (zi p1)]) ⟨rfl, ⟨rfl, ⟨rfl, trivial⟩⟩⟩ ?_)
  have F_S0 : zz_fr [(1079, 34)] [1101] (fun _ _ => False) S0 S0 := zz_fr.refl
  refine zz_aload_n (x := 1079) rfl zd_14_60_0 ?_
  refine zz_getr (kd := 0) (z := 1087) zd_14_60_1 zf_Md_36 zT_1079 rfl (zz_ltn hn rfl) (zz_G.eq G_S0 1079 11 1087 rfl rfl) (by decide) 1087 rfl ?_
  refine zz_iload_n (x := p1) rfl zd_14_60_4 ?_
  have g1 := zz_G.r G_S0 1087 p1.toNat (-2147483648) 2147483647 rfl rfl
  refine zz_iald (z := S0 1087 p1.toNat) zd_14_60_5 zT_1087 rfl (zz_ltn hn rfl) (by decide) (by omega) rfl ?_
  refine zz_if_eq (by omega) zd_14_60_6 (fun c2 => ?_) (fun c2 => ?_)
  · have g3 := zz_G.r G_S0 1079 34 0 200 rfl rfl
    exact zz_vret zd_14_60_31 rfl (Nat.zero_le _) (Nat.zero_le _) ⟨_, rfl, G_S0, F_S0, by omega, by omega⟩
  · refine zz_aload_n (x := 1079) rfl zd_14_60_9 ?_
    refine zz_iload_n (x := p0) rfl zd_14_60_10 ?_
    have g4 := zz_G.r G_S0 1079 34 0 200 rfl rfl
    refine zz_callVV [zi p0] zd_14_60_11 zk_Md_393 zT_1079 (zz_ltn hn rfl) rfl rfl ⟨Nat.le_of_ble_eq_true rfl, Nat.le_of_ble_eq_true rfl⟩ ⟨rfl, rfl⟩ (Nat.zero_le _) (Nat.zero_le _) (zc_sayWord_14_58 p0 S0 n hn G_S0 (by omega) (by omega)) (fun S5 hP => ?_)
    obtain ⟨G_S5, fS5, o7, o8⟩ := hP
    have F_S5 := zz_fr.trans F_S0 fS5 rfl zz_nv
    refine zz_aload_n (x := 1079) rfl zd_14_60_14 ?_
    refine zz_ldc2 (z := 32) zq_Md_327 (by decide) zd_14_60_15 ?_
    have g9 := zz_G.r G_S5 1079 34 0 200 rfl rfl
    refine zz_callVV [zl 32] zd_14_60_18 zk_Md_388 zT_1079 (zz_ltn hn rfl) rfl rfl ⟨Nat.le_of_ble_eq_true rfl, Nat.le_of_ble_eq_true rfl⟩ ⟨rfl, rfl⟩ (Nat.zero_le _) (Nat.zero_le _) (zc_say_14_57 32 S5 n hn G_S5 (by omega) (by omega)) (fun S10 hP => ?_)
    obtain ⟨G_S10, fS10, o12, o13⟩ := hP
    have F_S10 := zz_fr.trans F_S5 fS10 rfl zz_nv
    refine zz_aload_n (x := 1079) rfl zd_14_60_21 ?_
    refine zz_aload_n (x := 1079) rfl zd_14_60_22 ?_
    refine zz_getr (kd := 0) (z := 1087) zd_14_60_23 zf_Md_36 zT_1079 rfl (zz_ltn hn rfl) (zz_G.eq G_S10 1079 11 1087 rfl rfl) (by decide) 1087 rfl ?_
    refine zz_iload_n (x := p1) rfl zd_14_60_26 ?_
    refine zz_iald (z := S0 1087 p1.toNat) zd_14_60_27 zT_1087 rfl (zz_ltn hn rfl) (by decide) (by omega) (zz_rc fS10 (zz_nc1 rfl) rfl (fun h => h) (zz_rc fS5 (zz_nc1 rfl) rfl (fun h => h) rfl)) ?_
    have g14 := zz_G.r G_S10 1079 34 0 200 rfl rfl
    refine zz_callVV [zi (S0 1087 p1.toNat)] zd_14_60_28 zk_Md_396 zT_1079 (zz_ltn hn rfl) rfl rfl ⟨Nat.le_of_ble_eq_true rfl, Nat.le_of_ble_eq_true rfl⟩ ⟨rfl, rfl⟩ (Nat.zero_le _) (Nat.zero_le _) (zc_sayNumber_14_59 (S0 1087 p1.toNat) S10 n hn G_S10 (by omega) (by omega)) (fun S15 hP => ?_)
    obtain ⟨G_S15, fS15, o17, o18, o19⟩ := hP
    have F_S15 := zz_fr.trans F_S10 fS15 rfl zz_nv
    have g20 := zz_G.r G_S15 1079 34 0 200 rfl rfl
    exact zz_vret zd_14_60_31 rfl (Nat.zero_le _) (Nat.zero_le _) ⟨_, rfl, G_S15, F_S15, by omega, by omega⟩
abbrev zy_sayFlag_14_61 : mm_Y := (⟨"TensorForgeModel", "sayFlag", "(I)V"⟩, prog_14_method_61_code, 2, none)
theorem zyw_sayFlag_14_61 : mm_Yw zy_sayFlag_14_61 1 := ⟨mm_tb_1 2071 (by decide +kernel) rfl, mm_tb_1 12 (by decide +kernel) rfl, ⟨by decide, by decide⟩, by decide +kernel⟩
theorem zg_14_61_0 : zq_at zy_sayFlag_14_61.2.1 0 42 ∧ zq_at zy_sayFlag_14_61.2.1 1 180 ∧ zq_at zy_sayFlag_14_61.2.1 2 0 ∧ zq_at zy_sayFlag_14_61.2.1 3 36 ∧ zq_at zy_sayFlag_14_61.2.1 4 27 ∧ zq_at zy_sayFlag_14_61.2.1 5 46 ∧ zq_at zy_sayFlag_14_61.2.1 6 153 ∧ zq_at zy_sayFlag_14_61.2.1 7 0 ∧ zq_at zy_sayFlag_14_61.2.1 8 37 ∧ zq_at zy_sayFlag_14_61.2.1 43 177 ∧ zq_at zy_sayFlag_14_61.2.1 9 42 ∧ zq_at zy_sayFlag_14_61.2.1 10 27 ∧ zq_at zy_sayFlag_14_61.2.1 11 6 ∧ zq_at zy_sayFlag_14_61.2.1 12 162 ∧ zq_at zy_sayFlag_14_61.2.1 13 0 ∧ zq_at zy_sayFlag_14_61.2.1 14 8 ∧ zq_at zy_sayFlag_14_61.2.1 20 16 ∧ zq_at zy_sayFlag_14_61.2.1 21 18 ∧ zq_at zy_sayFlag_14_61.2.1 22 182 ∧ zq_at zy_sayFlag_14_61.2.1 23 1 ∧ zq_at zy_sayFlag_14_61.2.1 24 137 ∧ zq_at zy_sayFlag_14_61.2.1 25 42 ∧ zq_at zy_sayFlag_14_61.2.1 26 27 ∧ zq_at zy_sayFlag_14_61.2.1 27 5 := by decide +kernel
theorem zd_14_61_0 : zz_D zy_sayFlag_14_61 0 (.aload_n 0) 1 1 := ⟨zq_42 zg_14_61_0.1, rfl⟩
theorem zd_14_61_1 : zz_D zy_sayFlag_14_61 1 (.getfield 36) 3 4 := ⟨zq_180 zg_14_61_0.2.1 zg_14_61_0.2.2.1 zg_14_61_0.2.2.2.1 rfl, rfl⟩
theorem zd_14_61_4 : zz_D zy_sayFlag_14_61 4 (.iload_n 1) 1 5 := ⟨zq_27 zg_14_61_0.2.2.2.2.1, rfl⟩
theorem zd_14_61_5 : zz_D zy_sayFlag_14_61 5 (.iaload) 1 6 := ⟨zq_46 zg_14_61_0.2.2.2.2.2.1, rfl⟩
theorem zd_14_61_6 : zz_B zy_sayFlag_14_61 6 (Instr.ifCond .eq) 43 9 := ⟨37, zq_153 zg_14_61_0.2.2.2.2.2.2.1 zg_14_61_0.2.2.2.2.2.2.2.1 zg_14_61_0.2.2.2.2.2.2.2.2.1 (by decide), rfl, rfl⟩
theorem zd_14_61_43 : zz_D zy_sayFlag_14_61 43 (.return_) 1 44 := ⟨zq_177 zg_14_61_0.2.2.2.2.2.2.2.2.2.1, rfl⟩
theorem zd_14_61_9 : zz_D zy_sayFlag_14_61 9 (.aload_n 0) 1 10 := ⟨zq_42 zg_14_61_0.2.2.2.2.2.2.2.2.2.2.1, rfl⟩
theorem zd_14_61_10 : zz_D zy_sayFlag_14_61 10 (.iload_n 1) 1 11 := ⟨zq_27 zg_14_61_0.2.2.2.2.2.2.2.2.2.2.2.1, rfl⟩
theorem zd_14_61_11 : zz_D zy_sayFlag_14_61 11 (.iconst 3) 1 12 := ⟨zq_6 zg_14_61_0.2.2.2.2.2.2.2.2.2.2.2.2.1, rfl⟩
theorem zd_14_61_12 : zz_B zy_sayFlag_14_61 12 (Instr.if_icmp .ge) 20 15 := ⟨8, zq_162 zg_14_61_0.2.2.2.2.2.2.2.2.2.2.2.2.2.1 zg_14_61_0.2.2.2.2.2.2.2.2.2.2.2.2.2.2.1 zg_14_61_0.2.2.2.2.2.2.2.2.2.2.2.2.2.2.2.1 (by decide), rfl, rfl⟩
theorem zd_14_61_20 : zz_D zy_sayFlag_14_61 20 (.bipush 18) 2 22 := ⟨zq_16 zg_14_61_0.2.2.2.2.2.2.2.2.2.2.2.2.2.2.2.2.1 zg_14_61_0.2.2.2.2.2.2.2.2.2.2.2.2.2.2.2.2.2.1 (by decide), rfl⟩
theorem zd_14_61_22 : zz_D zy_sayFlag_14_61 22 (.invokevirtual 393) 3 25 := ⟨zq_182 zg_14_61_0.2.2.2.2.2.2.2.2.2.2.2.2.2.2.2.2.2.2.1 zg_14_61_0.2.2.2.2.2.2.2.2.2.2.2.2.2.2.2.2.2.2.2.1 zg_14_61_0.2.2.2.2.2.2.2.2.2.2.2.2.2.2.2.2.2.2.2.2.1 rfl, rfl⟩
theorem zd_14_61_25 : zz_D zy_sayFlag_14_61 25 (.aload_n 0) 1 26 := ⟨zq_42 zg_14_61_0.2.2.2.2.2.2.2.2.2.2.2.2.2.2.2.2.2.2.2.2.2.1, rfl⟩
theorem zd_14_61_26 : zz_D zy_sayFlag_14_61 26 (.iload_n 1) 1 27 := ⟨zq_27 zg_14_61_0.2.2.2.2.2.2.2.2.2.2.2.2.2.2.2.2.2.2.2.2.2.2.1, rfl⟩
theorem zd_14_61_27 : zz_D zy_sayFlag_14_61 27 (.iconst 2) 1 28 := ⟨zq_5 zg_14_61_0.2.2.2.2.2.2.2.2.2.2.2.2.2.2.2.2.2.2.2.2.2.2.2, rfl⟩
theorem zg_14_61_28 : zq_at zy_sayFlag_14_61.2.1 28 112 ∧ zq_at zy_sayFlag_14_61.2.1 29 4 ∧ zq_at zy_sayFlag_14_61.2.1 30 160 ∧ zq_at zy_sayFlag_14_61.2.1 31 0 ∧ zq_at zy_sayFlag_14_61.2.1 32 8 ∧ zq_at zy_sayFlag_14_61.2.1 38 16 ∧ zq_at zy_sayFlag_14_61.2.1 39 20 ∧ zq_at zy_sayFlag_14_61.2.1 40 182 ∧ zq_at zy_sayFlag_14_61.2.1 41 1 ∧ zq_at zy_sayFlag_14_61.2.1 42 137 ∧ zq_at zy_sayFlag_14_61.2.1 33 16 ∧ zq_at zy_sayFlag_14_61.2.1 34 19 ∧ zq_at zy_sayFlag_14_61.2.1 35 167 ∧ zq_at zy_sayFlag_14_61.2.1 36 0 ∧ zq_at zy_sayFlag_14_61.2.1 37 5 ∧ zq_at zy_sayFlag_14_61.2.1 15 16 ∧ zq_at zy_sayFlag_14_61.2.1 16 17 ∧ zq_at zy_sayFlag_14_61.2.1 17 167 ∧ zq_at zy_sayFlag_14_61.2.1 18 0 ∧ zq_at zy_sayFlag_14_61.2.1 19 5 := by decide +kernel
theorem zd_14_61_28 : zz_D zy_sayFlag_14_61 28 (.irem) 1 29 := ⟨zq_112 zg_14_61_28.1, rfl⟩
theorem zd_14_61_29 : zz_D zy_sayFlag_14_61 29 (.iconst 1) 1 30 := ⟨zq_4 zg_14_61_28.2.1, rfl⟩
theorem zd_14_61_30 : zz_B zy_sayFlag_14_61 30 (Instr.if_icmp .ne) 38 33 := ⟨8, zq_160 zg_14_61_28.2.2.1 zg_14_61_28.2.2.2.1 zg_14_61_28.2.2.2.2.1 (by decide), rfl, rfl⟩
theorem zd_14_61_38 : zz_D zy_sayFlag_14_61 38 (.bipush 20) 2 40 := ⟨zq_16 zg_14_61_28.2.2.2.2.2.1 zg_14_61_28.2.2.2.2.2.2.1 (by decide), rfl⟩
theorem zd_14_61_40 : zz_D zy_sayFlag_14_61 40 (.invokevirtual 393) 3 43 := ⟨zq_182 zg_14_61_28.2.2.2.2.2.2.2.1 zg_14_61_28.2.2.2.2.2.2.2.2.1 zg_14_61_28.2.2.2.2.2.2.2.2.2.1 rfl, rfl⟩
theorem zd_14_61_33 : zz_D zy_sayFlag_14_61 33 (.bipush 19) 2 35 := ⟨zq_16 zg_14_61_28.2.2.2.2.2.2.2.2.2.2.1 zg_14_61_28.2.2.2.2.2.2.2.2.2.2.2.1 (by decide), rfl⟩
theorem zd_14_61_35 : zz_B zy_sayFlag_14_61 35 Instr.goto 40 38 := ⟨5, zq_167 zg_14_61_28.2.2.2.2.2.2.2.2.2.2.2.2.1 zg_14_61_28.2.2.2.2.2.2.2.2.2.2.2.2.2.1 zg_14_61_28.2.2.2.2.2.2.2.2.2.2.2.2.2.2.1 (by decide), rfl, rfl⟩
theorem zd_14_61_15 : zz_D zy_sayFlag_14_61 15 (.bipush 17) 2 17 := ⟨zq_16 zg_14_61_28.2.2.2.2.2.2.2.2.2.2.2.2.2.2.2.1 zg_14_61_28.2.2.2.2.2.2.2.2.2.2.2.2.2.2.2.2.1 (by decide), rfl⟩
theorem zd_14_61_17 : zz_B zy_sayFlag_14_61 17 Instr.goto 22 20 := ⟨5, zq_167 zg_14_61_28.2.2.2.2.2.2.2.2.2.2.2.2.2.2.2.2.2.1 zg_14_61_28.2.2.2.2.2.2.2.2.2.2.2.2.2.2.2.2.2.2.1 zg_14_61_28.2.2.2.2.2.2.2.2.2.2.2.2.2.2.2.2.2.2.2 (by decide), rfl, rfl⟩
-- TensorForgeModel sayFlag (I)V
abbrev zr_sayFlag_14_61 : Room := { frames := 2, cells := 0, slots := 0, locals := 29 }
def zp_sayFlag_14_61 (p0 : Int) (S0 : zz_S) : zz_S → Prop := fun S => zz_G S ∧ zz_fr [(1079, 34)] [1101] (fun _ _ => False) S0 S ∧ (S 1079 34 ≤ S0 1079 34 + 18) ∧ (S 1079 34 ≥ S0 1079 34)
theorem zc_sayFlag_14_61 {g : mm_G} {l : Launch} (p0 : Int) (S0 : zz_S) (n : Nat) (hn : zz_end ≤ n) (G_S0 : zz_G S0) (hp0 : 0 ≤ p0 ∧ p0 ≤ 11) (hq : S0 1079 34 ≤ 180) : mm_Met g l zy_sayFlag_14_61 zr_sayFlag_14_61 [.ref 1079, zi p0] (zz_M S0 n) n (zz_QV n (zp_sayFlag_14_61 p0 S0)) := by
  refine zz_enter (by decide) (Nat.le_of_ble_eq_true rfl) (zz_less (ls1 := [some (.ref 1079), some (zi p0)]) ⟨rfl, ⟨rfl, trivial⟩⟩ ?_)
  have F_S0 : zz_fr [(1079, 34)] [1101] (fun _ _ => False) S0 S0 := zz_fr.refl
  refine zz_aload_n (x := 1079) rfl zd_14_61_0 ?_
  refine zz_getr (kd := 0) (z := 1087) zd_14_61_1 zf_Md_36 zT_1079 rfl (zz_ltn hn rfl) (zz_G.eq G_S0 1079 11 1087 rfl rfl) (by decide) 1087 rfl ?_
  refine zz_iload_n (x := p0) rfl zd_14_61_4 ?_
  have g1 := zz_G.r G_S0 1087 p0.toNat (-2147483648) 2147483647 rfl rfl
  refine zz_iald (z := S0 1087 p0.toNat) zd_14_61_5 zT_1087 rfl (zz_ltn hn rfl) (by decide) (by omega) rfl ?_
  refine zz_if_eq (by omega) zd_14_61_6 (fun c2 => ?_) (fun c2 => ?_)
  · have g3 := zz_G.r G_S0 1079 34 0 200 rfl rfl
    exact zz_vret zd_14_61_43 rfl (Nat.zero_le _) (Nat.zero_le _) ⟨_, rfl, G_S0, F_S0, by omega, by omega⟩
  · refine zz_aload_n (x := 1079) rfl zd_14_61_9 ?_
    refine zz_iload_n (x := p0) rfl zd_14_61_10 ?_
    refine zz_iconst zd_14_61_11 ?_
    refine zz_icmp_ge (by omega) (by omega) zd_14_61_12 (fun c4 => ?_) (fun c4 => ?_)
    · refine zz_bipush (by decide) zd_14_61_20 ?_
      have g5 := zz_G.r G_S0 1079 34 0 200 rfl rfl
      refine zz_callVV [zi 18] zd_14_61_22 zk_Md_393 zT_1079 (zz_ltn hn rfl) rfl rfl ⟨Nat.le_of_ble_eq_true rfl, Nat.le_of_ble_eq_true rfl⟩ ⟨rfl, rfl⟩ (Nat.zero_le _) (Nat.zero_le _) (zc_sayWord_14_58 18 S0 n hn G_S0 (by omega) (by omega)) (fun S6 hP => ?_)
      obtain ⟨G_S6, fS6, o8, o9⟩ := hP
      have F_S6 := zz_fr.trans F_S0 fS6 rfl zz_nv
      refine zz_aload_n (x := 1079) rfl zd_14_61_25 ?_
      refine zz_iload_n (x := p0) rfl zd_14_61_26 ?_
      refine zz_iconst zd_14_61_27 ?_
      refine zz_irem (by omega) (by omega) zd_14_61_28 (fun v10 hv10 av10 bv10 cv10 => ?_)
      refine zz_iconst zd_14_61_29 ?_
      refine zz_icmp_ne (by omega) (by omega) zd_14_61_30 (fun c11 => ?_) (fun c11 => ?_)
      · refine zz_bipush (by decide) zd_14_61_38 ?_
        have g12 := zz_G.r G_S6 1079 34 0 200 rfl rfl
        refine zz_callVV [zi 20] zd_14_61_40 zk_Md_393 zT_1079 (zz_ltn hn rfl) rfl rfl ⟨Nat.le_of_ble_eq_true rfl, Nat.le_of_ble_eq_true rfl⟩ ⟨rfl, rfl⟩ (Nat.zero_le _) (Nat.zero_le _) (zc_sayWord_14_58 20 S6 n hn G_S6 (by omega) (by omega)) (fun S13 hP => ?_)
        obtain ⟨G_S13, fS13, o15, o16⟩ := hP
        have F_S13 := zz_fr.trans F_S6 fS13 rfl zz_nv
        have g17 := zz_G.r G_S13 1079 34 0 200 rfl rfl
        exact zz_vret zd_14_61_43 rfl (Nat.zero_le _) (Nat.zero_le _) ⟨_, rfl, G_S13, F_S13, by omega, by omega⟩
      · refine zz_bipush (by decide) zd_14_61_33 ?_
        refine zz_goto zd_14_61_35 ?_
        have g18 := zz_G.r G_S6 1079 34 0 200 rfl rfl
        refine zz_callVV [zi 19] zd_14_61_40 zk_Md_393 zT_1079 (zz_ltn hn rfl) rfl rfl ⟨Nat.le_of_ble_eq_true rfl, Nat.le_of_ble_eq_true rfl⟩ ⟨rfl, rfl⟩ (Nat.zero_le _) (Nat.zero_le _) (zc_sayWord_14_58 19 S6 n hn G_S6 (by omega) (by omega)) (fun S19 hP => ?_)
        obtain ⟨G_S19, fS19, o21, o22⟩ := hP
        have F_S19 := zz_fr.trans F_S6 fS19 rfl zz_nv
        have g23 := zz_G.r G_S19 1079 34 0 200 rfl rfl
        exact zz_vret zd_14_61_43 rfl (Nat.zero_le _) (Nat.zero_le _) ⟨_, rfl, G_S19, F_S19, by omega, by omega⟩
    · refine zz_bipush (by decide) zd_14_61_15 ?_
      refine zz_goto zd_14_61_17 ?_
      have g24 := zz_G.r G_S0 1079 34 0 200 rfl rfl
      refine zz_callVV [zi 17] zd_14_61_22 zk_Md_393 zT_1079 (zz_ltn hn rfl) rfl rfl ⟨Nat.le_of_ble_eq_true rfl, Nat.le_of_ble_eq_true rfl⟩ ⟨rfl, rfl⟩ (Nat.zero_le _) (Nat.zero_le _) (zc_sayWord_14_58 17 S0 n hn G_S0 (by omega) (by omega)) (fun S25 hP => ?_)
      obtain ⟨G_S25, fS25, o27, o28⟩ := hP
      have F_S25 := zz_fr.trans F_S0 fS25 rfl zz_nv
      refine zz_aload_n (x := 1079) rfl zd_14_61_25 ?_
      refine zz_iload_n (x := p0) rfl zd_14_61_26 ?_
      refine zz_iconst zd_14_61_27 ?_
      refine zz_irem (by omega) (by omega) zd_14_61_28 (fun v29 hv29 av29 bv29 cv29 => ?_)
      refine zz_iconst zd_14_61_29 ?_
      refine zz_icmp_ne (by omega) (by omega) zd_14_61_30 (fun c30 => ?_) (fun c30 => ?_)
      · refine zz_bipush (by decide) zd_14_61_38 ?_
        have g31 := zz_G.r G_S25 1079 34 0 200 rfl rfl
        refine zz_callVV [zi 20] zd_14_61_40 zk_Md_393 zT_1079 (zz_ltn hn rfl) rfl rfl ⟨Nat.le_of_ble_eq_true rfl, Nat.le_of_ble_eq_true rfl⟩ ⟨rfl, rfl⟩ (Nat.zero_le _) (Nat.zero_le _) (zc_sayWord_14_58 20 S25 n hn G_S25 (by omega) (by omega)) (fun S32 hP => ?_)
        obtain ⟨G_S32, fS32, o34, o35⟩ := hP
        have F_S32 := zz_fr.trans F_S25 fS32 rfl zz_nv
        have g36 := zz_G.r G_S32 1079 34 0 200 rfl rfl
        exact zz_vret zd_14_61_43 rfl (Nat.zero_le _) (Nat.zero_le _) ⟨_, rfl, G_S32, F_S32, by omega, by omega⟩
      · refine zz_bipush (by decide) zd_14_61_33 ?_
        refine zz_goto zd_14_61_35 ?_
        have g37 := zz_G.r G_S25 1079 34 0 200 rfl rfl
        refine zz_callVV [zi 19] zd_14_61_40 zk_Md_393 zT_1079 (zz_ltn hn rfl) rfl rfl ⟨Nat.le_of_ble_eq_true rfl, Nat.le_of_ble_eq_true rfl⟩ ⟨rfl, rfl⟩ (Nat.zero_le _) (Nat.zero_le _) (zc_sayWord_14_58 19 S25 n hn G_S25 (by omega) (by omega)) (fun S38 hP => ?_)
        obtain ⟨G_S38, fS38, o40, o41⟩ := hP
        have F_S38 := zz_fr.trans F_S25 fS38 rfl zz_nv
        have g42 := zz_G.r G_S38 1079 34 0 200 rfl rfl
        exact zz_vret zd_14_61_43 rfl (Nat.zero_le _) (Nat.zero_le _) ⟨_, rfl, G_S38, F_S38, by omega, by omega⟩
abbrev zy_listing_14_62 : mm_Y := (⟨"TensorForgeModel", "listing", "(II)I"⟩, prog_14_method_62_code, 4, (some .int))
theorem zyw_listing_14_62 : mm_Yw zy_listing_14_62 2 := ⟨mm_tb_1 2049 (by decide +kernel) rfl, mm_tb_1 12 (by decide +kernel) rfl, ⟨by decide, by decide⟩, by decide +kernel⟩
theorem zq_Md_399 : Cond.constantLong "TensorForgeModel" 399 (63 : Int64) ∈ mm_tb := mm_tb_1 2059 (by decide +kernel) rfl
theorem zk_Md_401 : mm_Vl "TensorForgeModel" 401 11 2 zy_sayField_14_60 := ⟨zyw_sayField_14_60, (R_Md, F_Md, 69), rfl, mm_tb_1 2060 (by decide +kernel) rfl, mm_tb_1 2062 (by decide +kernel) rfl, mm_tb_s 117 (by decide +kernel) rfl⟩
theorem zk_Md_404 : mm_Vl "TensorForgeModel" 404 11 1 zy_sayFlag_14_61 := ⟨zyw_sayFlag_14_61, (R_Md, F_Md, 69), rfl, mm_tb_1 2068 (by decide +kernel) rfl, mm_tb_1 2070 (by decide +kernel) rfl, mm_tb_s 119 (by decide +kernel) rfl⟩
theorem zq_Md_407 : Cond.constantLong "TensorForgeModel" 407 (10 : Int64) ∈ mm_tb := mm_tb_1 2072 (by decide +kernel) rfl
theorem zg_14_62_0 : zq_at zy_listing_14_62.2.1 0 42 ∧ zq_at zy_listing_14_62.2.1 1 27 ∧ zq_at zy_listing_14_62.2.1 2 133 ∧ zq_at zy_listing_14_62.2.1 3 9 ∧ zq_at zy_listing_14_62.2.1 4 42 ∧ zq_at zy_listing_14_62.2.1 5 180 ∧ zq_at zy_listing_14_62.2.1 6 0 ∧ zq_at zy_listing_14_62.2.1 7 224 ∧ zq_at zy_listing_14_62.2.1 8 4 ∧ zq_at zy_listing_14_62.2.1 9 100 ∧ zq_at zy_listing_14_62.2.1 10 133 ∧ zq_at zy_listing_14_62.2.1 11 184 ∧ zq_at zy_listing_14_62.2.1 12 0 ∧ zq_at zy_listing_14_62.2.1 13 192 ∧ zq_at zy_listing_14_62.2.1 14 153 ∧ zq_at zy_listing_14_62.2.1 15 0 ∧ zq_at zy_listing_14_62.2.1 16 7 ∧ zq_at zy_listing_14_62.2.1 21 4 ∧ zq_at zy_listing_14_62.2.1 22 167 ∧ zq_at zy_listing_14_62.2.1 23 0 ∧ zq_at zy_listing_14_62.2.1 24 4 ∧ zq_at zy_listing_14_62.2.1 26 3 ∧ zq_at zy_listing_14_62.2.1 27 3 := by decide +kernel
theorem zd_14_62_0 : zz_D zy_listing_14_62 0 (.aload_n 0) 1 1 := ⟨zq_42 zg_14_62_0.1, rfl⟩
theorem zd_14_62_1 : zz_D zy_listing_14_62 1 (.iload_n 1) 1 2 := ⟨zq_27 zg_14_62_0.2.1, rfl⟩
theorem zd_14_62_2 : zz_D zy_listing_14_62 2 (.i2l) 1 3 := ⟨zq_133 zg_14_62_0.2.2.1, rfl⟩
theorem zd_14_62_3 : zz_D zy_listing_14_62 3 (.lconst 0) 1 4 := ⟨zq_9 zg_14_62_0.2.2.2.1, rfl⟩
theorem zd_14_62_4 : zz_D zy_listing_14_62 4 (.aload_n 0) 1 5 := ⟨zq_42 zg_14_62_0.2.2.2.2.1, rfl⟩
theorem zd_14_62_5 : zz_D zy_listing_14_62 5 (.getfield 224) 3 8 := ⟨zq_180 zg_14_62_0.2.2.2.2.2.1 zg_14_62_0.2.2.2.2.2.2.1 zg_14_62_0.2.2.2.2.2.2.2.1 rfl, rfl⟩
theorem zd_14_62_8 : zz_D zy_listing_14_62 8 (.iconst 1) 1 9 := ⟨zq_4 zg_14_62_0.2.2.2.2.2.2.2.2.1, rfl⟩
theorem zd_14_62_9 : zz_D zy_listing_14_62 9 (.isub) 1 10 := ⟨zq_100 zg_14_62_0.2.2.2.2.2.2.2.2.2.1, rfl⟩
theorem zd_14_62_10 : zz_D zy_listing_14_62 10 (.i2l) 1 11 := ⟨zq_133 zg_14_62_0.2.2.2.2.2.2.2.2.2.2.1, rfl⟩
theorem zd_14_62_11 : zz_D zy_listing_14_62 11 (.invokestatic 192) 3 14 := ⟨zq_184 zg_14_62_0.2.2.2.2.2.2.2.2.2.2.2.1 zg_14_62_0.2.2.2.2.2.2.2.2.2.2.2.2.1 zg_14_62_0.2.2.2.2.2.2.2.2.2.2.2.2.2.1 rfl, rfl⟩
theorem zd_14_62_14 : zz_B zy_listing_14_62 14 (Instr.ifCond .eq) 21 17 := ⟨7, zq_153 zg_14_62_0.2.2.2.2.2.2.2.2.2.2.2.2.2.2.1 zg_14_62_0.2.2.2.2.2.2.2.2.2.2.2.2.2.2.2.1 zg_14_62_0.2.2.2.2.2.2.2.2.2.2.2.2.2.2.2.2.1 (by decide), rfl, rfl⟩
theorem zd_14_62_21 : zz_D zy_listing_14_62 21 (.iconst 1) 1 22 := ⟨zq_4 zg_14_62_0.2.2.2.2.2.2.2.2.2.2.2.2.2.2.2.2.2.1, rfl⟩
theorem zd_14_62_22 : zz_B zy_listing_14_62 22 Instr.goto 26 25 := ⟨4, zq_167 zg_14_62_0.2.2.2.2.2.2.2.2.2.2.2.2.2.2.2.2.2.2.1 zg_14_62_0.2.2.2.2.2.2.2.2.2.2.2.2.2.2.2.2.2.2.2.1 zg_14_62_0.2.2.2.2.2.2.2.2.2.2.2.2.2.2.2.2.2.2.2.2.1 (by decide), rfl, rfl⟩
theorem zd_14_62_26 : zz_D zy_listing_14_62 26 (.iconst 0) 1 27 := ⟨zq_3 zg_14_62_0.2.2.2.2.2.2.2.2.2.2.2.2.2.2.2.2.2.2.2.2.2.1, rfl⟩
theorem zd_14_62_27 : zz_D zy_listing_14_62 27 (.iconst 0) 1 28 := ⟨zq_3 zg_14_62_0.2.2.2.2.2.2.2.2.2.2.2.2.2.2.2.2.2.2.2.2.2.2, rfl⟩
theorem zg_14_62_28 : zq_at zy_listing_14_62.2.1 28 182 ∧ zq_at zy_listing_14_62.2.1 29 0 ∧ zq_at zy_listing_14_62.2.1 30 196 ∧ zq_at zy_listing_14_62.2.1 31 153 ∧ zq_at zy_listing_14_62.2.1 32 0 ∧ zq_at zy_listing_14_62.2.1 33 5 ∧ zq_at zy_listing_14_62.2.1 34 3 ∧ zq_at zy_listing_14_62.2.1 35 172 ∧ zq_at zy_listing_14_62.2.1 17 28 ∧ zq_at zy_listing_14_62.2.1 18 156 ∧ zq_at zy_listing_14_62.2.1 19 0 ∧ zq_at zy_listing_14_62.2.1 20 7 ∧ zq_at zy_listing_14_62.2.1 25 3 ∧ zq_at zy_listing_14_62.2.1 36 42 ∧ zq_at zy_listing_14_62.2.1 37 42 ∧ zq_at zy_listing_14_62.2.1 38 180 ∧ zq_at zy_listing_14_62.2.1 39 0 ∧ zq_at zy_listing_14_62.2.1 40 29 ∧ zq_at zy_listing_14_62.2.1 41 27 ∧ zq_at zy_listing_14_62.2.1 42 47 ∧ zq_at zy_listing_14_62.2.1 43 182 ∧ zq_at zy_listing_14_62.2.1 44 0 ∧ zq_at zy_listing_14_62.2.1 45 234 ∧ zq_at zy_listing_14_62.2.1 46 42 := by decide +kernel
theorem zd_14_62_28 : zz_D zy_listing_14_62 28 (.invokevirtual 196) 3 31 := ⟨zq_182 zg_14_62_28.1 zg_14_62_28.2.1 zg_14_62_28.2.2.1 rfl, rfl⟩
theorem zd_14_62_31 : zz_B zy_listing_14_62 31 (Instr.ifCond .eq) 36 34 := ⟨5, zq_153 zg_14_62_28.2.2.2.1 zg_14_62_28.2.2.2.2.1 zg_14_62_28.2.2.2.2.2.1 (by decide), rfl, rfl⟩
theorem zd_14_62_34 : zz_D zy_listing_14_62 34 (.iconst 0) 1 35 := ⟨zq_3 zg_14_62_28.2.2.2.2.2.2.1, rfl⟩
theorem zd_14_62_35 : zz_D zy_listing_14_62 35 (.ireturn) 1 36 := ⟨zq_172 zg_14_62_28.2.2.2.2.2.2.2.1, rfl⟩
theorem zd_14_62_17 : zz_D zy_listing_14_62 17 (.iload_n 2) 1 18 := ⟨zq_28 zg_14_62_28.2.2.2.2.2.2.2.2.1, rfl⟩
theorem zd_14_62_18 : zz_B zy_listing_14_62 18 (Instr.ifCond .ge) 25 21 := ⟨7, zq_156 zg_14_62_28.2.2.2.2.2.2.2.2.2.1 zg_14_62_28.2.2.2.2.2.2.2.2.2.2.1 zg_14_62_28.2.2.2.2.2.2.2.2.2.2.2.1 (by decide), rfl, rfl⟩
theorem zd_14_62_25 : zz_D zy_listing_14_62 25 (.iconst 0) 1 26 := ⟨zq_3 zg_14_62_28.2.2.2.2.2.2.2.2.2.2.2.2.1, rfl⟩
theorem zd_14_62_36 : zz_D zy_listing_14_62 36 (.aload_n 0) 1 37 := ⟨zq_42 zg_14_62_28.2.2.2.2.2.2.2.2.2.2.2.2.2.1, rfl⟩
theorem zd_14_62_37 : zz_D zy_listing_14_62 37 (.aload_n 0) 1 38 := ⟨zq_42 zg_14_62_28.2.2.2.2.2.2.2.2.2.2.2.2.2.2.1, rfl⟩
theorem zd_14_62_38 : zz_D zy_listing_14_62 38 (.getfield 29) 3 41 := ⟨zq_180 zg_14_62_28.2.2.2.2.2.2.2.2.2.2.2.2.2.2.2.1 zg_14_62_28.2.2.2.2.2.2.2.2.2.2.2.2.2.2.2.2.1 zg_14_62_28.2.2.2.2.2.2.2.2.2.2.2.2.2.2.2.2.2.1 rfl, rfl⟩
theorem zd_14_62_41 : zz_D zy_listing_14_62 41 (.iload_n 1) 1 42 := ⟨zq_27 zg_14_62_28.2.2.2.2.2.2.2.2.2.2.2.2.2.2.2.2.2.2.1, rfl⟩
theorem zd_14_62_42 : zz_D zy_listing_14_62 42 (.laload) 1 43 := ⟨zq_47 zg_14_62_28.2.2.2.2.2.2.2.2.2.2.2.2.2.2.2.2.2.2.2.1, rfl⟩
theorem zd_14_62_43 : zz_D zy_listing_14_62 43 (.invokevirtual 234) 3 46 := ⟨zq_182 zg_14_62_28.2.2.2.2.2.2.2.2.2.2.2.2.2.2.2.2.2.2.2.2.1 zg_14_62_28.2.2.2.2.2.2.2.2.2.2.2.2.2.2.2.2.2.2.2.2.2.1 zg_14_62_28.2.2.2.2.2.2.2.2.2.2.2.2.2.2.2.2.2.2.2.2.2.2.1 rfl, rfl⟩
theorem zd_14_62_46 : zz_D zy_listing_14_62 46 (.aload_n 0) 1 47 := ⟨zq_42 zg_14_62_28.2.2.2.2.2.2.2.2.2.2.2.2.2.2.2.2.2.2.2.2.2.2.2, rfl⟩
theorem zg_14_62_47 : zq_at zy_listing_14_62.2.1 47 3 ∧ zq_at zy_listing_14_62.2.1 48 181 ∧ zq_at zy_listing_14_62.2.1 49 1 ∧ zq_at zy_listing_14_62.2.1 50 129 ∧ zq_at zy_listing_14_62.2.1 51 42 ∧ zq_at zy_listing_14_62.2.1 52 180 ∧ zq_at zy_listing_14_62.2.1 53 0 ∧ zq_at zy_listing_14_62.2.1 54 36 ∧ zq_at zy_listing_14_62.2.1 55 3 ∧ zq_at zy_listing_14_62.2.1 56 46 ∧ zq_at zy_listing_14_62.2.1 57 133 ∧ zq_at zy_listing_14_62.2.1 58 10 ∧ zq_at zy_listing_14_62.2.1 59 20 ∧ zq_at zy_listing_14_62.2.1 60 0 ∧ zq_at zy_listing_14_62.2.1 61 238 ∧ zq_at zy_listing_14_62.2.1 62 184 ∧ zq_at zy_listing_14_62.2.1 63 0 ∧ zq_at zy_listing_14_62.2.1 64 192 ∧ zq_at zy_listing_14_62.2.1 65 153 ∧ zq_at zy_listing_14_62.2.1 66 0 ∧ zq_at zy_listing_14_62.2.1 67 16 ∧ zq_at zy_listing_14_62.2.1 81 42 := by decide +kernel
theorem zd_14_62_47 : zz_D zy_listing_14_62 47 (.iconst 0) 1 48 := ⟨zq_3 zg_14_62_47.1, rfl⟩
theorem zd_14_62_48 : zz_D zy_listing_14_62 48 (.putfield 385) 3 51 := ⟨zq_181 zg_14_62_47.2.1 zg_14_62_47.2.2.1 zg_14_62_47.2.2.2.1 rfl, rfl⟩
theorem zd_14_62_51 : zz_D zy_listing_14_62 51 (.aload_n 0) 1 52 := ⟨zq_42 zg_14_62_47.2.2.2.2.1, rfl⟩
theorem zd_14_62_52 : zz_D zy_listing_14_62 52 (.getfield 36) 3 55 := ⟨zq_180 zg_14_62_47.2.2.2.2.2.1 zg_14_62_47.2.2.2.2.2.2.1 zg_14_62_47.2.2.2.2.2.2.2.1 rfl, rfl⟩
theorem zd_14_62_55 : zz_D zy_listing_14_62 55 (.iconst 0) 1 56 := ⟨zq_3 zg_14_62_47.2.2.2.2.2.2.2.2.1, rfl⟩
theorem zd_14_62_56 : zz_D zy_listing_14_62 56 (.iaload) 1 57 := ⟨zq_46 zg_14_62_47.2.2.2.2.2.2.2.2.2.1, rfl⟩
theorem zd_14_62_57 : zz_D zy_listing_14_62 57 (.i2l) 1 58 := ⟨zq_133 zg_14_62_47.2.2.2.2.2.2.2.2.2.2.1, rfl⟩
theorem zd_14_62_58 : zz_D zy_listing_14_62 58 (.lconst 1) 1 59 := ⟨zq_10 zg_14_62_47.2.2.2.2.2.2.2.2.2.2.2.1, rfl⟩
theorem zd_14_62_59 : zz_D zy_listing_14_62 59 (.ldc2_w 238) 3 62 := ⟨zq_20 zg_14_62_47.2.2.2.2.2.2.2.2.2.2.2.2.1 zg_14_62_47.2.2.2.2.2.2.2.2.2.2.2.2.2.1 zg_14_62_47.2.2.2.2.2.2.2.2.2.2.2.2.2.2.1 rfl, rfl⟩
theorem zd_14_62_62 : zz_D zy_listing_14_62 62 (.invokestatic 192) 3 65 := ⟨zq_184 zg_14_62_47.2.2.2.2.2.2.2.2.2.2.2.2.2.2.2.1 zg_14_62_47.2.2.2.2.2.2.2.2.2.2.2.2.2.2.2.2.1 zg_14_62_47.2.2.2.2.2.2.2.2.2.2.2.2.2.2.2.2.2.1 rfl, rfl⟩
theorem zd_14_62_65 : zz_B zy_listing_14_62 65 (Instr.ifCond .eq) 81 68 := ⟨16, zq_153 zg_14_62_47.2.2.2.2.2.2.2.2.2.2.2.2.2.2.2.2.2.2.1 zg_14_62_47.2.2.2.2.2.2.2.2.2.2.2.2.2.2.2.2.2.2.2.1 zg_14_62_47.2.2.2.2.2.2.2.2.2.2.2.2.2.2.2.2.2.2.2.2.1 (by decide), rfl, rfl⟩
theorem zd_14_62_81 : zz_D zy_listing_14_62 81 (.aload_n 0) 1 82 := ⟨zq_42 zg_14_62_47.2.2.2.2.2.2.2.2.2.2.2.2.2.2.2.2.2.2.2.2.2, rfl⟩
theorem zg_14_62_82 : zq_at zy_listing_14_62.2.1 82 20 ∧ zq_at zy_listing_14_62.2.1 83 1 ∧ zq_at zy_listing_14_62.2.1 84 143 ∧ zq_at zy_listing_14_62.2.1 85 182 ∧ zq_at zy_listing_14_62.2.1 86 1 ∧ zq_at zy_listing_14_62.2.1 87 132 ∧ zq_at zy_listing_14_62.2.1 88 42 ∧ zq_at zy_listing_14_62.2.1 89 16 ∧ zq_at zy_listing_14_62.2.1 90 10 ∧ zq_at zy_listing_14_62.2.1 91 8 ∧ zq_at zy_listing_14_62.2.1 92 182 ∧ zq_at zy_listing_14_62.2.1 93 1 ∧ zq_at zy_listing_14_62.2.1 94 145 ∧ zq_at zy_listing_14_62.2.1 95 42 ∧ zq_at zy_listing_14_62.2.1 96 180 ∧ zq_at zy_listing_14_62.2.1 97 0 ∧ zq_at zy_listing_14_62.2.1 98 36 ∧ zq_at zy_listing_14_62.2.1 99 16 ∧ zq_at zy_listing_14_62.2.1 100 6 ∧ zq_at zy_listing_14_62.2.1 101 46 ∧ zq_at zy_listing_14_62.2.1 102 154 ∧ zq_at zy_listing_14_62.2.1 103 0 ∧ zq_at zy_listing_14_62.2.1 104 13 ∧ zq_at zy_listing_14_62.2.1 115 42 := by decide +kernel
theorem zd_14_62_82 : zz_D zy_listing_14_62 82 (.ldc2_w 399) 3 85 := ⟨zq_20 zg_14_62_82.1 zg_14_62_82.2.1 zg_14_62_82.2.2.1 rfl, rfl⟩
theorem zd_14_62_85 : zz_D zy_listing_14_62 85 (.invokevirtual 388) 3 88 := ⟨zq_182 zg_14_62_82.2.2.2.1 zg_14_62_82.2.2.2.2.1 zg_14_62_82.2.2.2.2.2.1 rfl, rfl⟩
theorem zd_14_62_88 : zz_D zy_listing_14_62 88 (.aload_n 0) 1 89 := ⟨zq_42 zg_14_62_82.2.2.2.2.2.2.1, rfl⟩
theorem zd_14_62_89 : zz_D zy_listing_14_62 89 (.bipush 10) 2 91 := ⟨zq_16 zg_14_62_82.2.2.2.2.2.2.2.1 zg_14_62_82.2.2.2.2.2.2.2.2.1 (by decide), rfl⟩
theorem zd_14_62_91 : zz_D zy_listing_14_62 91 (.iconst 5) 1 92 := ⟨zq_8 zg_14_62_82.2.2.2.2.2.2.2.2.2.1, rfl⟩
theorem zd_14_62_92 : zz_D zy_listing_14_62 92 (.invokevirtual 401) 3 95 := ⟨zq_182 zg_14_62_82.2.2.2.2.2.2.2.2.2.2.1 zg_14_62_82.2.2.2.2.2.2.2.2.2.2.2.1 zg_14_62_82.2.2.2.2.2.2.2.2.2.2.2.2.1 rfl, rfl⟩
theorem zd_14_62_95 : zz_D zy_listing_14_62 95 (.aload_n 0) 1 96 := ⟨zq_42 zg_14_62_82.2.2.2.2.2.2.2.2.2.2.2.2.2.1, rfl⟩
theorem zd_14_62_96 : zz_D zy_listing_14_62 96 (.getfield 36) 3 99 := ⟨zq_180 zg_14_62_82.2.2.2.2.2.2.2.2.2.2.2.2.2.2.1 zg_14_62_82.2.2.2.2.2.2.2.2.2.2.2.2.2.2.2.1 zg_14_62_82.2.2.2.2.2.2.2.2.2.2.2.2.2.2.2.2.1 rfl, rfl⟩
theorem zd_14_62_99 : zz_D zy_listing_14_62 99 (.bipush 6) 2 101 := ⟨zq_16 zg_14_62_82.2.2.2.2.2.2.2.2.2.2.2.2.2.2.2.2.2.1 zg_14_62_82.2.2.2.2.2.2.2.2.2.2.2.2.2.2.2.2.2.2.1 (by decide), rfl⟩
theorem zd_14_62_101 : zz_D zy_listing_14_62 101 (.iaload) 1 102 := ⟨zq_46 zg_14_62_82.2.2.2.2.2.2.2.2.2.2.2.2.2.2.2.2.2.2.2.1, rfl⟩
theorem zd_14_62_102 : zz_B zy_listing_14_62 102 (Instr.ifCond .ne) 115 105 := ⟨13, zq_154 zg_14_62_82.2.2.2.2.2.2.2.2.2.2.2.2.2.2.2.2.2.2.2.2.1 zg_14_62_82.2.2.2.2.2.2.2.2.2.2.2.2.2.2.2.2.2.2.2.2.2.1 zg_14_62_82.2.2.2.2.2.2.2.2.2.2.2.2.2.2.2.2.2.2.2.2.2.2.1 (by decide), rfl, rfl⟩
theorem zd_14_62_115 : zz_D zy_listing_14_62 115 (.aload_n 0) 1 116 := ⟨zq_42 zg_14_62_82.2.2.2.2.2.2.2.2.2.2.2.2.2.2.2.2.2.2.2.2.2.2.2, rfl⟩
theorem zg_14_62_116 : zq_at zy_listing_14_62.2.1 116 16 ∧ zq_at zy_listing_14_62.2.1 117 11 ∧ zq_at zy_listing_14_62.2.1 118 182 ∧ zq_at zy_listing_14_62.2.1 119 1 ∧ zq_at zy_listing_14_62.2.1 120 137 ∧ zq_at zy_listing_14_62.2.1 121 42 ∧ zq_at zy_listing_14_62.2.1 122 20 ∧ zq_at zy_listing_14_62.2.1 123 1 ∧ zq_at zy_listing_14_62.2.1 124 71 ∧ zq_at zy_listing_14_62.2.1 125 182 ∧ zq_at zy_listing_14_62.2.1 126 1 ∧ zq_at zy_listing_14_62.2.1 127 132 ∧ zq_at zy_listing_14_62.2.1 128 42 ∧ zq_at zy_listing_14_62.2.1 129 42 ∧ zq_at zy_listing_14_62.2.1 130 180 ∧ zq_at zy_listing_14_62.2.1 131 0 ∧ zq_at zy_listing_14_62.2.1 132 36 ∧ zq_at zy_listing_14_62.2.1 133 16 ∧ zq_at zy_listing_14_62.2.1 134 6 ∧ zq_at zy_listing_14_62.2.1 135 46 ∧ zq_at zy_listing_14_62.2.1 136 182 ∧ zq_at zy_listing_14_62.2.1 137 1 ∧ zq_at zy_listing_14_62.2.1 138 140 ∧ zq_at zy_listing_14_62.2.1 139 42 := by decide +kernel
theorem zd_14_62_116 : zz_D zy_listing_14_62 116 (.bipush 11) 2 118 := ⟨zq_16 zg_14_62_116.1 zg_14_62_116.2.1 (by decide), rfl⟩
theorem zd_14_62_118 : zz_D zy_listing_14_62 118 (.invokevirtual 393) 3 121 := ⟨zq_182 zg_14_62_116.2.2.1 zg_14_62_116.2.2.2.1 zg_14_62_116.2.2.2.2.1 rfl, rfl⟩
theorem zd_14_62_121 : zz_D zy_listing_14_62 121 (.aload_n 0) 1 122 := ⟨zq_42 zg_14_62_116.2.2.2.2.2.1, rfl⟩
theorem zd_14_62_122 : zz_D zy_listing_14_62 122 (.ldc2_w 327) 3 125 := ⟨zq_20 zg_14_62_116.2.2.2.2.2.2.1 zg_14_62_116.2.2.2.2.2.2.2.1 zg_14_62_116.2.2.2.2.2.2.2.2.1 rfl, rfl⟩
theorem zd_14_62_125 : zz_D zy_listing_14_62 125 (.invokevirtual 388) 3 128 := ⟨zq_182 zg_14_62_116.2.2.2.2.2.2.2.2.2.1 zg_14_62_116.2.2.2.2.2.2.2.2.2.2.1 zg_14_62_116.2.2.2.2.2.2.2.2.2.2.2.1 rfl, rfl⟩
theorem zd_14_62_128 : zz_D zy_listing_14_62 128 (.aload_n 0) 1 129 := ⟨zq_42 zg_14_62_116.2.2.2.2.2.2.2.2.2.2.2.2.1, rfl⟩
theorem zd_14_62_129 : zz_D zy_listing_14_62 129 (.aload_n 0) 1 130 := ⟨zq_42 zg_14_62_116.2.2.2.2.2.2.2.2.2.2.2.2.2.1, rfl⟩
theorem zd_14_62_130 : zz_D zy_listing_14_62 130 (.getfield 36) 3 133 := ⟨zq_180 zg_14_62_116.2.2.2.2.2.2.2.2.2.2.2.2.2.2.1 zg_14_62_116.2.2.2.2.2.2.2.2.2.2.2.2.2.2.2.1 zg_14_62_116.2.2.2.2.2.2.2.2.2.2.2.2.2.2.2.2.1 rfl, rfl⟩
theorem zd_14_62_133 : zz_D zy_listing_14_62 133 (.bipush 6) 2 135 := ⟨zq_16 zg_14_62_116.2.2.2.2.2.2.2.2.2.2.2.2.2.2.2.2.2.1 zg_14_62_116.2.2.2.2.2.2.2.2.2.2.2.2.2.2.2.2.2.2.1 (by decide), rfl⟩
theorem zd_14_62_135 : zz_D zy_listing_14_62 135 (.iaload) 1 136 := ⟨zq_46 zg_14_62_116.2.2.2.2.2.2.2.2.2.2.2.2.2.2.2.2.2.2.2.1, rfl⟩
theorem zd_14_62_136 : zz_D zy_listing_14_62 136 (.invokevirtual 396) 3 139 := ⟨zq_182 zg_14_62_116.2.2.2.2.2.2.2.2.2.2.2.2.2.2.2.2.2.2.2.2.1 zg_14_62_116.2.2.2.2.2.2.2.2.2.2.2.2.2.2.2.2.2.2.2.2.2.1 zg_14_62_116.2.2.2.2.2.2.2.2.2.2.2.2.2.2.2.2.2.2.2.2.2.2.1 rfl, rfl⟩
theorem zd_14_62_139 : zz_D zy_listing_14_62 139 (.aload_n 0) 1 140 := ⟨zq_42 zg_14_62_116.2.2.2.2.2.2.2.2.2.2.2.2.2.2.2.2.2.2.2.2.2.2.2, rfl⟩
theorem zg_14_62_140 : zq_at zy_listing_14_62.2.1 140 16 ∧ zq_at zy_listing_14_62.2.1 141 12 ∧ zq_at zy_listing_14_62.2.1 142 182 ∧ zq_at zy_listing_14_62.2.1 143 1 ∧ zq_at zy_listing_14_62.2.1 144 137 ∧ zq_at zy_listing_14_62.2.1 145 42 ∧ zq_at zy_listing_14_62.2.1 146 20 ∧ zq_at zy_listing_14_62.2.1 147 1 ∧ zq_at zy_listing_14_62.2.1 148 71 ∧ zq_at zy_listing_14_62.2.1 149 182 ∧ zq_at zy_listing_14_62.2.1 150 1 ∧ zq_at zy_listing_14_62.2.1 151 132 ∧ zq_at zy_listing_14_62.2.1 152 42 ∧ zq_at zy_listing_14_62.2.1 153 42 ∧ zq_at zy_listing_14_62.2.1 154 180 ∧ zq_at zy_listing_14_62.2.1 155 0 ∧ zq_at zy_listing_14_62.2.1 156 36 ∧ zq_at zy_listing_14_62.2.1 157 16 ∧ zq_at zy_listing_14_62.2.1 158 7 ∧ zq_at zy_listing_14_62.2.1 159 46 ∧ zq_at zy_listing_14_62.2.1 160 182 ∧ zq_at zy_listing_14_62.2.1 161 1 ∧ zq_at zy_listing_14_62.2.1 162 140 ∧ zq_at zy_listing_14_62.2.1 163 42 := by decide +kernel
theorem zd_14_62_140 : zz_D zy_listing_14_62 140 (.bipush 12) 2 142 := ⟨zq_16 zg_14_62_140.1 zg_14_62_140.2.1 (by decide), rfl⟩
theorem zd_14_62_142 : zz_D zy_listing_14_62 142 (.invokevirtual 393) 3 145 := ⟨zq_182 zg_14_62_140.2.2.1 zg_14_62_140.2.2.2.1 zg_14_62_140.2.2.2.2.1 rfl, rfl⟩
theorem zd_14_62_145 : zz_D zy_listing_14_62 145 (.aload_n 0) 1 146 := ⟨zq_42 zg_14_62_140.2.2.2.2.2.1, rfl⟩
theorem zd_14_62_146 : zz_D zy_listing_14_62 146 (.ldc2_w 327) 3 149 := ⟨zq_20 zg_14_62_140.2.2.2.2.2.2.1 zg_14_62_140.2.2.2.2.2.2.2.1 zg_14_62_140.2.2.2.2.2.2.2.2.1 rfl, rfl⟩
theorem zd_14_62_149 : zz_D zy_listing_14_62 149 (.invokevirtual 388) 3 152 := ⟨zq_182 zg_14_62_140.2.2.2.2.2.2.2.2.2.1 zg_14_62_140.2.2.2.2.2.2.2.2.2.2.1 zg_14_62_140.2.2.2.2.2.2.2.2.2.2.2.1 rfl, rfl⟩
theorem zd_14_62_152 : zz_D zy_listing_14_62 152 (.aload_n 0) 1 153 := ⟨zq_42 zg_14_62_140.2.2.2.2.2.2.2.2.2.2.2.2.1, rfl⟩
theorem zd_14_62_153 : zz_D zy_listing_14_62 153 (.aload_n 0) 1 154 := ⟨zq_42 zg_14_62_140.2.2.2.2.2.2.2.2.2.2.2.2.2.1, rfl⟩
theorem zd_14_62_154 : zz_D zy_listing_14_62 154 (.getfield 36) 3 157 := ⟨zq_180 zg_14_62_140.2.2.2.2.2.2.2.2.2.2.2.2.2.2.1 zg_14_62_140.2.2.2.2.2.2.2.2.2.2.2.2.2.2.2.1 zg_14_62_140.2.2.2.2.2.2.2.2.2.2.2.2.2.2.2.2.1 rfl, rfl⟩
theorem zd_14_62_157 : zz_D zy_listing_14_62 157 (.bipush 7) 2 159 := ⟨zq_16 zg_14_62_140.2.2.2.2.2.2.2.2.2.2.2.2.2.2.2.2.2.1 zg_14_62_140.2.2.2.2.2.2.2.2.2.2.2.2.2.2.2.2.2.2.1 (by decide), rfl⟩
theorem zd_14_62_159 : zz_D zy_listing_14_62 159 (.iaload) 1 160 := ⟨zq_46 zg_14_62_140.2.2.2.2.2.2.2.2.2.2.2.2.2.2.2.2.2.2.2.1, rfl⟩
theorem zd_14_62_160 : zz_D zy_listing_14_62 160 (.invokevirtual 396) 3 163 := ⟨zq_182 zg_14_62_140.2.2.2.2.2.2.2.2.2.2.2.2.2.2.2.2.2.2.2.2.1 zg_14_62_140.2.2.2.2.2.2.2.2.2.2.2.2.2.2.2.2.2.2.2.2.2.1 zg_14_62_140.2.2.2.2.2.2.2.2.2.2.2.2.2.2.2.2.2.2.2.2.2.2.1 rfl, rfl⟩
theorem zd_14_62_163 : zz_D zy_listing_14_62 163 (.aload_n 0) 1 164 := ⟨zq_42 zg_14_62_140.2.2.2.2.2.2.2.2.2.2.2.2.2.2.2.2.2.2.2.2.2.2.2, rfl⟩
theorem zg_14_62_164 : zq_at zy_listing_14_62.2.1 164 16 ∧ zq_at zy_listing_14_62.2.1 165 13 ∧ zq_at zy_listing_14_62.2.1 166 16 ∧ zq_at zy_listing_14_62.2.1 167 8 ∧ zq_at zy_listing_14_62.2.1 168 182 ∧ zq_at zy_listing_14_62.2.1 169 1 ∧ zq_at zy_listing_14_62.2.1 170 145 ∧ zq_at zy_listing_14_62.2.1 171 42 ∧ zq_at zy_listing_14_62.2.1 172 16 ∧ zq_at zy_listing_14_62.2.1 173 14 ∧ zq_at zy_listing_14_62.2.1 174 16 ∧ zq_at zy_listing_14_62.2.1 175 9 ∧ zq_at zy_listing_14_62.2.1 176 182 ∧ zq_at zy_listing_14_62.2.1 177 1 ∧ zq_at zy_listing_14_62.2.1 178 145 ∧ zq_at zy_listing_14_62.2.1 179 42 ∧ zq_at zy_listing_14_62.2.1 180 16 ∧ zq_at zy_listing_14_62.2.1 181 15 ∧ zq_at zy_listing_14_62.2.1 182 16 ∧ zq_at zy_listing_14_62.2.1 183 10 ∧ zq_at zy_listing_14_62.2.1 184 182 ∧ zq_at zy_listing_14_62.2.1 185 1 ∧ zq_at zy_listing_14_62.2.1 186 145 ∧ zq_at zy_listing_14_62.2.1 187 42 := by decide +kernel
theorem zd_14_62_164 : zz_D zy_listing_14_62 164 (.bipush 13) 2 166 := ⟨zq_16 zg_14_62_164.1 zg_14_62_164.2.1 (by decide), rfl⟩
theorem zd_14_62_166 : zz_D zy_listing_14_62 166 (.bipush 8) 2 168 := ⟨zq_16 zg_14_62_164.2.2.1 zg_14_62_164.2.2.2.1 (by decide), rfl⟩
theorem zd_14_62_168 : zz_D zy_listing_14_62 168 (.invokevirtual 401) 3 171 := ⟨zq_182 zg_14_62_164.2.2.2.2.1 zg_14_62_164.2.2.2.2.2.1 zg_14_62_164.2.2.2.2.2.2.1 rfl, rfl⟩
theorem zd_14_62_171 : zz_D zy_listing_14_62 171 (.aload_n 0) 1 172 := ⟨zq_42 zg_14_62_164.2.2.2.2.2.2.2.1, rfl⟩
theorem zd_14_62_172 : zz_D zy_listing_14_62 172 (.bipush 14) 2 174 := ⟨zq_16 zg_14_62_164.2.2.2.2.2.2.2.2.1 zg_14_62_164.2.2.2.2.2.2.2.2.2.1 (by decide), rfl⟩
theorem zd_14_62_174 : zz_D zy_listing_14_62 174 (.bipush 9) 2 176 := ⟨zq_16 zg_14_62_164.2.2.2.2.2.2.2.2.2.2.1 zg_14_62_164.2.2.2.2.2.2.2.2.2.2.2.1 (by decide), rfl⟩
theorem zd_14_62_176 : zz_D zy_listing_14_62 176 (.invokevirtual 401) 3 179 := ⟨zq_182 zg_14_62_164.2.2.2.2.2.2.2.2.2.2.2.2.1 zg_14_62_164.2.2.2.2.2.2.2.2.2.2.2.2.2.1 zg_14_62_164.2.2.2.2.2.2.2.2.2.2.2.2.2.2.1 rfl, rfl⟩
theorem zd_14_62_179 : zz_D zy_listing_14_62 179 (.aload_n 0) 1 180 := ⟨zq_42 zg_14_62_164.2.2.2.2.2.2.2.2.2.2.2.2.2.2.2.1, rfl⟩
theorem zd_14_62_180 : zz_D zy_listing_14_62 180 (.bipush 15) 2 182 := ⟨zq_16 zg_14_62_164.2.2.2.2.2.2.2.2.2.2.2.2.2.2.2.2.1 zg_14_62_164.2.2.2.2.2.2.2.2.2.2.2.2.2.2.2.2.2.1 (by decide), rfl⟩
theorem zd_14_62_182 : zz_D zy_listing_14_62 182 (.bipush 10) 2 184 := ⟨zq_16 zg_14_62_164.2.2.2.2.2.2.2.2.2.2.2.2.2.2.2.2.2.2.1 zg_14_62_164.2.2.2.2.2.2.2.2.2.2.2.2.2.2.2.2.2.2.2.1 (by decide), rfl⟩
theorem zd_14_62_184 : zz_D zy_listing_14_62 184 (.invokevirtual 401) 3 187 := ⟨zq_182 zg_14_62_164.2.2.2.2.2.2.2.2.2.2.2.2.2.2.2.2.2.2.2.2.1 zg_14_62_164.2.2.2.2.2.2.2.2.2.2.2.2.2.2.2.2.2.2.2.2.2.1 zg_14_62_164.2.2.2.2.2.2.2.2.2.2.2.2.2.2.2.2.2.2.2.2.2.2.1 rfl, rfl⟩
theorem zd_14_62_187 : zz_D zy_listing_14_62 187 (.aload_n 0) 1 188 := ⟨zq_42 zg_14_62_164.2.2.2.2.2.2.2.2.2.2.2.2.2.2.2.2.2.2.2.2.2.2.2, rfl⟩
theorem zg_14_62_188 : zq_at zy_listing_14_62.2.1 188 16 ∧ zq_at zy_listing_14_62.2.1 189 16 ∧ zq_at zy_listing_14_62.2.1 190 16 ∧ zq_at zy_listing_14_62.2.1 191 11 ∧ zq_at zy_listing_14_62.2.1 192 182 ∧ zq_at zy_listing_14_62.2.1 193 1 ∧ zq_at zy_listing_14_62.2.1 194 145 ∧ zq_at zy_listing_14_62.2.1 195 4 ∧ zq_at zy_listing_14_62.2.1 196 62 ∧ zq_at zy_listing_14_62.2.1 105 42 ∧ zq_at zy_listing_14_62.2.1 106 180 ∧ zq_at zy_listing_14_62.2.1 107 0 ∧ zq_at zy_listing_14_62.2.1 108 36 ∧ zq_at zy_listing_14_62.2.1 109 16 ∧ zq_at zy_listing_14_62.2.1 110 7 ∧ zq_at zy_listing_14_62.2.1 111 46 ∧ zq_at zy_listing_14_62.2.1 112 153 ∧ zq_at zy_listing_14_62.2.1 113 0 ∧ zq_at zy_listing_14_62.2.1 114 51 ∧ zq_at zy_listing_14_62.2.1 68 42 ∧ zq_at zy_listing_14_62.2.1 69 42 ∧ zq_at zy_listing_14_62.2.1 70 180 ∧ zq_at zy_listing_14_62.2.1 71 0 ∧ zq_at zy_listing_14_62.2.1 72 36 := by decide +kernel
theorem zd_14_62_188 : zz_D zy_listing_14_62 188 (.bipush 16) 2 190 := ⟨zq_16 zg_14_62_188.1 zg_14_62_188.2.1 (by decide), rfl⟩
theorem zd_14_62_190 : zz_D zy_listing_14_62 190 (.bipush 11) 2 192 := ⟨zq_16 zg_14_62_188.2.2.1 zg_14_62_188.2.2.2.1 (by decide), rfl⟩
theorem zd_14_62_192 : zz_D zy_listing_14_62 192 (.invokevirtual 401) 3 195 := ⟨zq_182 zg_14_62_188.2.2.2.2.1 zg_14_62_188.2.2.2.2.2.1 zg_14_62_188.2.2.2.2.2.2.1 rfl, rfl⟩
theorem zd_14_62_195 : zz_D zy_listing_14_62 195 (.iconst 1) 1 196 := ⟨zq_4 zg_14_62_188.2.2.2.2.2.2.2.1, rfl⟩
theorem zd_14_62_196 : zz_D zy_listing_14_62 196 (.istore_n 3) 1 197 := ⟨zq_62 zg_14_62_188.2.2.2.2.2.2.2.2.1, rfl⟩
theorem zd_14_62_105 : zz_D zy_listing_14_62 105 (.aload_n 0) 1 106 := ⟨zq_42 zg_14_62_188.2.2.2.2.2.2.2.2.2.1, rfl⟩
theorem zd_14_62_106 : zz_D zy_listing_14_62 106 (.getfield 36) 3 109 := ⟨zq_180 zg_14_62_188.2.2.2.2.2.2.2.2.2.2.1 zg_14_62_188.2.2.2.2.2.2.2.2.2.2.2.1 zg_14_62_188.2.2.2.2.2.2.2.2.2.2.2.2.1 rfl, rfl⟩
theorem zd_14_62_109 : zz_D zy_listing_14_62 109 (.bipush 7) 2 111 := ⟨zq_16 zg_14_62_188.2.2.2.2.2.2.2.2.2.2.2.2.2.1 zg_14_62_188.2.2.2.2.2.2.2.2.2.2.2.2.2.2.1 (by decide), rfl⟩
theorem zd_14_62_111 : zz_D zy_listing_14_62 111 (.iaload) 1 112 := ⟨zq_46 zg_14_62_188.2.2.2.2.2.2.2.2.2.2.2.2.2.2.2.1, rfl⟩
theorem zd_14_62_112 : zz_B zy_listing_14_62 112 (Instr.ifCond .eq) 163 115 := ⟨51, zq_153 zg_14_62_188.2.2.2.2.2.2.2.2.2.2.2.2.2.2.2.2.1 zg_14_62_188.2.2.2.2.2.2.2.2.2.2.2.2.2.2.2.2.2.1 zg_14_62_188.2.2.2.2.2.2.2.2.2.2.2.2.2.2.2.2.2.2.1 (by decide), rfl, rfl⟩
theorem zd_14_62_68 : zz_D zy_listing_14_62 68 (.aload_n 0) 1 69 := ⟨zq_42 zg_14_62_188.2.2.2.2.2.2.2.2.2.2.2.2.2.2.2.2.2.2.2.1, rfl⟩
theorem zd_14_62_69 : zz_D zy_listing_14_62 69 (.aload_n 0) 1 70 := ⟨zq_42 zg_14_62_188.2.2.2.2.2.2.2.2.2.2.2.2.2.2.2.2.2.2.2.2.1, rfl⟩
theorem zd_14_62_70 : zz_D zy_listing_14_62 70 (.getfield 36) 3 73 := ⟨zq_180 zg_14_62_188.2.2.2.2.2.2.2.2.2.2.2.2.2.2.2.2.2.2.2.2.2.1 zg_14_62_188.2.2.2.2.2.2.2.2.2.2.2.2.2.2.2.2.2.2.2.2.2.2.1 zg_14_62_188.2.2.2.2.2.2.2.2.2.2.2.2.2.2.2.2.2.2.2.2.2.2.2 rfl, rfl⟩
theorem zg_14_62_73 : zq_at zy_listing_14_62.2.1 73 3 ∧ zq_at zy_listing_14_62.2.1 74 46 ∧ zq_at zy_listing_14_62.2.1 75 182 ∧ zq_at zy_listing_14_62.2.1 76 1 ∧ zq_at zy_listing_14_62.2.1 77 137 ∧ zq_at zy_listing_14_62.2.1 78 167 ∧ zq_at zy_listing_14_62.2.1 79 0 ∧ zq_at zy_listing_14_62.2.1 80 10 ∧ zq_at zy_listing_14_62.2.1 197 29 ∧ zq_at zy_listing_14_62.2.1 198 8 ∧ zq_at zy_listing_14_62.2.1 199 162 ∧ zq_at zy_listing_14_62.2.1 200 0 ∧ zq_at zy_listing_14_62.2.1 201 14 ∧ zq_at zy_listing_14_62.2.1 202 42 ∧ zq_at zy_listing_14_62.2.1 203 29 ∧ zq_at zy_listing_14_62.2.1 204 182 ∧ zq_at zy_listing_14_62.2.1 205 1 ∧ zq_at zy_listing_14_62.2.1 206 148 ∧ zq_at zy_listing_14_62.2.1 207 132 ∧ zq_at zy_listing_14_62.2.1 208 3 ∧ zq_at zy_listing_14_62.2.1 209 1 ∧ zq_at zy_listing_14_62.2.1 210 167 ∧ zq_at zy_listing_14_62.2.1 211 255 ∧ zq_at zy_listing_14_62.2.1 212 243 := by decide +kernel
theorem zd_14_62_73 : zz_D zy_listing_14_62 73 (.iconst 0) 1 74 := ⟨zq_3 zg_14_62_73.1, rfl⟩
theorem zd_14_62_74 : zz_D zy_listing_14_62 74 (.iaload) 1 75 := ⟨zq_46 zg_14_62_73.2.1, rfl⟩
theorem zd_14_62_75 : zz_D zy_listing_14_62 75 (.invokevirtual 393) 3 78 := ⟨zq_182 zg_14_62_73.2.2.1 zg_14_62_73.2.2.2.1 zg_14_62_73.2.2.2.2.1 rfl, rfl⟩
theorem zd_14_62_78 : zz_B zy_listing_14_62 78 Instr.goto 88 81 := ⟨10, zq_167 zg_14_62_73.2.2.2.2.2.1 zg_14_62_73.2.2.2.2.2.2.1 zg_14_62_73.2.2.2.2.2.2.2.1 (by decide), rfl, rfl⟩
theorem zd_14_62_197 : zz_D zy_listing_14_62 197 (.iload_n 3) 1 198 := ⟨zq_29 zg_14_62_73.2.2.2.2.2.2.2.2.1, rfl⟩
theorem zd_14_62_198 : zz_D zy_listing_14_62 198 (.iconst 5) 1 199 := ⟨zq_8 zg_14_62_73.2.2.2.2.2.2.2.2.2.1, rfl⟩
theorem zd_14_62_199 : zz_B zy_listing_14_62 199 (Instr.if_icmp .ge) 213 202 := ⟨14, zq_162 zg_14_62_73.2.2.2.2.2.2.2.2.2.2.1 zg_14_62_73.2.2.2.2.2.2.2.2.2.2.2.1 zg_14_62_73.2.2.2.2.2.2.2.2.2.2.2.2.1 (by decide), rfl, rfl⟩
theorem zd_14_62_202 : zz_D zy_listing_14_62 202 (.aload_n 0) 1 203 := ⟨zq_42 zg_14_62_73.2.2.2.2.2.2.2.2.2.2.2.2.2.1, rfl⟩
theorem zd_14_62_203 : zz_D zy_listing_14_62 203 (.iload_n 3) 1 204 := ⟨zq_29 zg_14_62_73.2.2.2.2.2.2.2.2.2.2.2.2.2.2.1, rfl⟩
theorem zd_14_62_204 : zz_D zy_listing_14_62 204 (.invokevirtual 404) 3 207 := ⟨zq_182 zg_14_62_73.2.2.2.2.2.2.2.2.2.2.2.2.2.2.2.1 zg_14_62_73.2.2.2.2.2.2.2.2.2.2.2.2.2.2.2.2.1 zg_14_62_73.2.2.2.2.2.2.2.2.2.2.2.2.2.2.2.2.2.1 rfl, rfl⟩
theorem zd_14_62_207 : zz_D zy_listing_14_62 207 (.iinc 3 1) 3 210 := ⟨zq_132 zg_14_62_73.2.2.2.2.2.2.2.2.2.2.2.2.2.2.2.2.2.2.1 zg_14_62_73.2.2.2.2.2.2.2.2.2.2.2.2.2.2.2.2.2.2.2.1 zg_14_62_73.2.2.2.2.2.2.2.2.2.2.2.2.2.2.2.2.2.2.2.2.1 (by decide), rfl⟩
theorem zd_14_62_210 : zz_B zy_listing_14_62 210 Instr.goto 197 213 := ⟨(-13), zq_167 zg_14_62_73.2.2.2.2.2.2.2.2.2.2.2.2.2.2.2.2.2.2.2.2.2.1 zg_14_62_73.2.2.2.2.2.2.2.2.2.2.2.2.2.2.2.2.2.2.2.2.2.2.1 zg_14_62_73.2.2.2.2.2.2.2.2.2.2.2.2.2.2.2.2.2.2.2.2.2.2.2 (by decide), rfl, rfl⟩
theorem zg_14_62_213 : zq_at zy_listing_14_62.2.1 213 42 ∧ zq_at zy_listing_14_62.2.1 214 20 ∧ zq_at zy_listing_14_62.2.1 215 1 ∧ zq_at zy_listing_14_62.2.1 216 151 ∧ zq_at zy_listing_14_62.2.1 217 182 ∧ zq_at zy_listing_14_62.2.1 218 1 ∧ zq_at zy_listing_14_62.2.1 219 132 ∧ zq_at zy_listing_14_62.2.1 220 28 ∧ zq_at zy_listing_14_62.2.1 221 42 ∧ zq_at zy_listing_14_62.2.1 222 180 ∧ zq_at zy_listing_14_62.2.1 223 1 ∧ zq_at zy_listing_14_62.2.1 224 129 ∧ zq_at zy_listing_14_62.2.1 225 162 ∧ zq_at zy_listing_14_62.2.1 226 0 ∧ zq_at zy_listing_14_62.2.1 227 12 ∧ zq_at zy_listing_14_62.2.1 237 2 ∧ zq_at zy_listing_14_62.2.1 238 172 ∧ zq_at zy_listing_14_62.2.1 228 42 ∧ zq_at zy_listing_14_62.2.1 229 180 ∧ zq_at zy_listing_14_62.2.1 230 0 ∧ zq_at zy_listing_14_62.2.1 231 82 ∧ zq_at zy_listing_14_62.2.1 232 28 ∧ zq_at zy_listing_14_62.2.1 233 46 := by decide +kernel
theorem zd_14_62_213 : zz_D zy_listing_14_62 213 (.aload_n 0) 1 214 := ⟨zq_42 zg_14_62_213.1, rfl⟩
theorem zd_14_62_214 : zz_D zy_listing_14_62 214 (.ldc2_w 407) 3 217 := ⟨zq_20 zg_14_62_213.2.1 zg_14_62_213.2.2.1 zg_14_62_213.2.2.2.1 rfl, rfl⟩
theorem zd_14_62_217 : zz_D zy_listing_14_62 217 (.invokevirtual 388) 3 220 := ⟨zq_182 zg_14_62_213.2.2.2.2.1 zg_14_62_213.2.2.2.2.2.1 zg_14_62_213.2.2.2.2.2.2.1 rfl, rfl⟩
theorem zd_14_62_220 : zz_D zy_listing_14_62 220 (.iload_n 2) 1 221 := ⟨zq_28 zg_14_62_213.2.2.2.2.2.2.2.1, rfl⟩
theorem zd_14_62_221 : zz_D zy_listing_14_62 221 (.aload_n 0) 1 222 := ⟨zq_42 zg_14_62_213.2.2.2.2.2.2.2.2.1, rfl⟩
theorem zd_14_62_222 : zz_D zy_listing_14_62 222 (.getfield 385) 3 225 := ⟨zq_180 zg_14_62_213.2.2.2.2.2.2.2.2.2.1 zg_14_62_213.2.2.2.2.2.2.2.2.2.2.1 zg_14_62_213.2.2.2.2.2.2.2.2.2.2.2.1 rfl, rfl⟩
theorem zd_14_62_225 : zz_B zy_listing_14_62 225 (Instr.if_icmp .ge) 237 228 := ⟨12, zq_162 zg_14_62_213.2.2.2.2.2.2.2.2.2.2.2.2.1 zg_14_62_213.2.2.2.2.2.2.2.2.2.2.2.2.2.1 zg_14_62_213.2.2.2.2.2.2.2.2.2.2.2.2.2.2.1 (by decide), rfl, rfl⟩
theorem zd_14_62_237 : zz_D zy_listing_14_62 237 (.iconst (-1)) 1 238 := ⟨zq_2 zg_14_62_213.2.2.2.2.2.2.2.2.2.2.2.2.2.2.2.1, rfl⟩
theorem zd_14_62_238 : zz_D zy_listing_14_62 238 (.ireturn) 1 239 := ⟨zq_172 zg_14_62_213.2.2.2.2.2.2.2.2.2.2.2.2.2.2.2.2.1, rfl⟩
theorem zd_14_62_228 : zz_D zy_listing_14_62 228 (.aload_n 0) 1 229 := ⟨zq_42 zg_14_62_213.2.2.2.2.2.2.2.2.2.2.2.2.2.2.2.2.2.1, rfl⟩
theorem zd_14_62_229 : zz_D zy_listing_14_62 229 (.getfield 82) 3 232 := ⟨zq_180 zg_14_62_213.2.2.2.2.2.2.2.2.2.2.2.2.2.2.2.2.2.2.1 zg_14_62_213.2.2.2.2.2.2.2.2.2.2.2.2.2.2.2.2.2.2.2.1 zg_14_62_213.2.2.2.2.2.2.2.2.2.2.2.2.2.2.2.2.2.2.2.2.1 rfl, rfl⟩
theorem zd_14_62_232 : zz_D zy_listing_14_62 232 (.iload_n 2) 1 233 := ⟨zq_28 zg_14_62_213.2.2.2.2.2.2.2.2.2.2.2.2.2.2.2.2.2.2.2.2.2.1, rfl⟩
theorem zd_14_62_233 : zz_D zy_listing_14_62 233 (.iaload) 1 234 := ⟨zq_46 zg_14_62_213.2.2.2.2.2.2.2.2.2.2.2.2.2.2.2.2.2.2.2.2.2.2, rfl⟩
theorem zg_14_62_234 : zq_at zy_listing_14_62.2.1 234 167 ∧ zq_at zy_listing_14_62.2.1 235 0 ∧ zq_at zy_listing_14_62.2.1 236 4 := by decide +kernel
theorem zd_14_62_234 : zz_B zy_listing_14_62 234 Instr.goto 238 237 := ⟨4, zq_167 zg_14_62_234.1 zg_14_62_234.2.1 zg_14_62_234.2.2 (by decide), rfl, rfl⟩
-- TensorForgeModel listing (II)I
abbrev zr_listing_14_62 : Room := { frames := 3, cells := 0, slots := 0, locals := 49 }
def zp_listing_14_62 (p0 : Int) (p1 : Int) (S0 : zz_S) : Int → zz_S → Prop := fun r S => zz_G S ∧ zz_fr [(1079, 0), (1079, 34), (1087, 0), (1087, 1), (1087, 2), (1087, 3), (1087, 4), (1087, 5), (1087, 6), (1087, 7), (1087, 8), (1087, 9), (1087, 10), (1087, 11)] [1101] (fun _ _ => False) S0 S ∧ ((-2147483648) ≤ r ∧ r ≤ 2147483647)
theorem zb_listing_14_62_197 {g : mm_G} {l : Launch} (p0 : Int) (p1 : Int) (S0 : zz_S) (n : Nat) (hn : zz_end ≤ n) (G_S0 : zz_G S0) (hp0 : (-2147483648) ≤ p0 ∧ p0 ≤ 2147483647) (hp1 : (-2147483648) ≤ p1 ∧ p1 ≤ 2147483647) (x3 : Int) (S : zz_S) (G_S : zz_G S) (F_S : zz_fr [(1079, 0), (1079, 34), (1087, 0), (1087, 1), (1087, 2), (1087, 3), (1087, 4), (1087, 5), (1087, 6), (1087, 7), (1087, 8), (1087, 9), (1087, 10), (1087, 11)] [1101] (fun _ _ => False) S0 S) (i197_0 : 1 ≤ x3 ∧ x3 ≤ 5) (i197_1 : 0 ≤ p0 ∧ p0 ≤ (S0 1079 7) - 1) (i197_2 : p1 ≥ 0) (i197_3 : 0 ≤ p0 ∧ p0 ≤ 599) (i197_4 : 0 ≤ p1 ∧ p1 ≤ 2147483647) (i197_5 : S 1079 34 ≤ 107 + 18 * (x3 - 1)) (R : Nat) (hR : (5 - x3).toNat = R) (k197 : ∀ (x3 : Int) (S : zz_S), zz_G S → zz_fr [(1079, 0), (1079, 34), (1087, 0), (1087, 1), (1087, 2), (1087, 3), (1087, 4), (1087, 5), (1087, 6), (1087, 7), (1087, 8), (1087, 9), (1087, 10), (1087, 11)] [1101] (fun _ _ => False) S0 S → (1 ≤ x3 ∧ x3 ≤ 5) → (0 ≤ p0 ∧ p0 ≤ (S0 1079 7) - 1) → (p1 ≥ 0) → (0 ≤ p0 ∧ p0 ≤ 599) → (0 ≤ p1 ∧ p1 ≤ 2147483647) → (S 1079 34 ≤ 107 + 18 * (x3 - 1)) → (5 - x3).toNat < R → zz_E g l zy_listing_14_62 zr_listing_14_62 (zz_QI n (zp_listing_14_62 p0 p1 S0)) S n 197 [some (.ref 1079), none, some (zi p1), some (zi x3)] [] 0 0) : zz_E g l zy_listing_14_62 zr_listing_14_62 (zz_QI n (zp_listing_14_62 p0 p1 S0)) S n 197 [some (.ref 1079), none, some (zi p1), some (zi x3)] [] 0 0 := by
  refine zz_iload_n (x := x3) rfl zd_14_62_197 ?_
  refine zz_iconst zd_14_62_198 ?_
  refine zz_icmp_ge (by omega) (by omega) zd_14_62_199 (fun c338 => ?_) (fun c338 => ?_)
  · refine zz_aload_n (x := 1079) rfl zd_14_62_213 ?_
    refine zz_ldc2 (z := 10) zq_Md_407 (by decide) zd_14_62_214 ?_
    have g339 := zz_G.r G_S 1079 34 0 200 rfl rfl
    refine zz_callVV [zl 10] zd_14_62_217 zk_Md_388 zT_1079 (zz_ltn hn rfl) rfl rfl ⟨Nat.le_of_ble_eq_true rfl, Nat.le_of_ble_eq_true rfl⟩ ⟨rfl, rfl⟩ (Nat.zero_le _) (Nat.zero_le _) (zc_say_14_57 10 S n hn G_S (by omega) (by omega)) (fun S340 hP => ?_)
    obtain ⟨G_S340, fS340, o342, o343⟩ := hP
    have F_S340 := zz_fr.trans F_S fS340 rfl zz_nv
    refine zz_iload_n (x := p1) rfl zd_14_62_220 ?_
    refine zz_aload_n (x := 1079) rfl zd_14_62_221 ?_
    have g344 := zz_G.r G_S340 1079 34 0 200 rfl rfl
    refine zz_geti (z := S340 1079 34) zd_14_62_222 zf_Md_385 zT_1079 rfl (zz_ltn hn rfl) rfl ?_
    refine zz_icmp_ge (by omega) (by omega) zd_14_62_225 (fun c345 => ?_) (fun c345 => ?_)
    · refine zz_iconst zd_14_62_237 ?_
      exact zz_iret zd_14_62_238 rfl (Nat.zero_le _) (Nat.zero_le _) ⟨_, _, rfl, G_S340, F_S340, by omega⟩
    · refine zz_aload_n (x := 1079) rfl zd_14_62_228 ?_
      refine zz_getr (kd := 0) (z := 1101) zd_14_62_229 zf_Md_82 zT_1079 rfl (zz_ltn hn rfl) (zz_G.eq G_S340 1079 35 1101 rfl rfl) (by decide) 1101 rfl ?_
      refine zz_iload_n (x := p1) rfl zd_14_62_232 ?_
      have g346 := zz_G.r G_S340 1101 p1.toNat (-2147483648) 2147483647 rfl rfl
      refine zz_iald (z := S340 1101 p1.toNat) zd_14_62_233 zT_1101 rfl (zz_ltn hn rfl) (by decide) (by omega) rfl ?_
      refine zz_goto zd_14_62_234 ?_
      exact zz_iret zd_14_62_238 rfl (Nat.zero_le _) (Nat.zero_le _) ⟨_, _, rfl, G_S340, F_S340, by omega⟩
  · refine zz_aload_n (x := 1079) rfl zd_14_62_202 ?_
    refine zz_iload_n (x := x3) rfl zd_14_62_203 ?_
    have g347 := zz_G.r G_S 1079 34 0 200 rfl rfl
    refine zz_callVV [zi x3] zd_14_62_204 zk_Md_404 zT_1079 (zz_ltn hn rfl) rfl rfl ⟨Nat.le_of_ble_eq_true rfl, Nat.le_of_ble_eq_true rfl⟩ ⟨rfl, rfl⟩ (Nat.zero_le _) (Nat.zero_le _) (zc_sayFlag_14_61 x3 S n hn G_S (by omega) (by omega)) (fun S348 hP => ?_)
    obtain ⟨G_S348, fS348, o350, o351⟩ := hP
    have F_S348 := zz_fr.trans F_S fS348 rfl zz_nv
    refine zz_iinc [some (.ref 1079), none, some (zi p1), some (zi (x3 + 1))] zd_14_62_207 rfl rfl ?_
    refine zz_goto zd_14_62_210 ?_
    have g352 := zz_G.r G_S348 1079 34 0 200 rfl rfl
    refine zz_less (ls1 := [some (.ref 1079), none, some (zi p1), some (zi (x3 + 1))]) ⟨rfl, ⟨rfl, ⟨rfl, trivial⟩⟩⟩ ?_
    exact k197 (x3 + 1) S348 G_S348 F_S348 (by omega) (by omega) (by omega) (by omega) (by omega) (by omega) (by omega)
theorem zi_listing_14_62 {g : mm_G} {l : Launch} (p0 : Int) (p1 : Int) (S0 : zz_S) (n : Nat) (hn : zz_end ≤ n) (G_S0 : zz_G S0) (hp0 : (-2147483648) ≤ p0 ∧ p0 ≤ 2147483647) (hp1 : (-2147483648) ≤ p1 ∧ p1 ≤ 2147483647) : ∀ N : Nat, (∀ (x3 : Int) (S : zz_S), zz_G S → zz_fr [(1079, 0), (1079, 34), (1087, 0), (1087, 1), (1087, 2), (1087, 3), (1087, 4), (1087, 5), (1087, 6), (1087, 7), (1087, 8), (1087, 9), (1087, 10), (1087, 11)] [1101] (fun _ _ => False) S0 S → (1 ≤ x3 ∧ x3 ≤ 5) → (0 ≤ p0 ∧ p0 ≤ (S0 1079 7) - 1) → (p1 ≥ 0) → (0 ≤ p0 ∧ p0 ≤ 599) → (0 ≤ p1 ∧ p1 ≤ 2147483647) → (S 1079 34 ≤ 107 + 18 * (x3 - 1)) → (5 - x3).toNat < N → zz_E g l zy_listing_14_62 zr_listing_14_62 (zz_QI n (zp_listing_14_62 p0 p1 S0)) S n 197 [some (.ref 1079), none, some (zi p1), some (zi x3)] [] 0 0) := by
  intro N
  induction N with
  | zero => exact fun x3 S _ _ _ _ _ _ _ _ h => absurd h (Nat.not_lt_zero _)
  | succ N ih =>
    exact fun x3 S a b j0 j1 j2 j3 j4 j5 hR => zb_listing_14_62_197 p0 p1 S0 n hn G_S0 hp0 hp1 x3 S a b j0 j1 j2 j3 j4 j5 _ rfl (fun x3 S a b j0 j1 j2 j3 j4 j5 h => ih x3 S a b j0 j1 j2 j3 j4 j5 (Nat.lt_of_lt_of_le h (Nat.le_of_lt_succ hR)))
theorem zc_listing_14_62 {g : mm_G} {l : Launch} (p0 : Int) (p1 : Int) (S0 : zz_S) (n : Nat) (hn : zz_end ≤ n) (G_S0 : zz_G S0) (hp0 : (-2147483648) ≤ p0 ∧ p0 ≤ 2147483647) (hp1 : (-2147483648) ≤ p1 ∧ p1 ≤ 2147483647) : mm_Met g l zy_listing_14_62 zr_listing_14_62 [.ref 1079, zi p0, zi p1] (zz_M S0 n) n (zz_QI n (zp_listing_14_62 p0 p1 S0)) := by
  refine zz_enter (by decide) (Nat.le_of_ble_eq_true rfl) (zz_less (ls1 := [some (.ref 1079), some (zi p0), some (zi p1)]) ⟨rfl, ⟨rfl, ⟨rfl, trivial⟩⟩⟩ ?_)
  have F_S0 : zz_fr [(1079, 0), (1079, 34), (1087, 0), (1087, 1), (1087, 2), (1087, 3), (1087, 4), (1087, 5), (1087, 6), (1087, 7), (1087, 8), (1087, 9), (1087, 10), (1087, 11)] [1101] (fun _ _ => False) S0 S0 := zz_fr.refl
  have k197 : ∀ (x3 : Int) (S : zz_S), zz_G S → zz_fr [(1079, 0), (1079, 34), (1087, 0), (1087, 1), (1087, 2), (1087, 3), (1087, 4), (1087, 5), (1087, 6), (1087, 7), (1087, 8), (1087, 9), (1087, 10), (1087, 11)] [1101] (fun _ _ => False) S0 S → (1 ≤ x3 ∧ x3 ≤ 5) → (0 ≤ p0 ∧ p0 ≤ (S0 1079 7) - 1) → (p1 ≥ 0) → (0 ≤ p0 ∧ p0 ≤ 599) → (0 ≤ p1 ∧ p1 ≤ 2147483647) → (S 1079 34 ≤ 107 + 18 * (x3 - 1)) → zz_E g l zy_listing_14_62 zr_listing_14_62 (zz_QI n (zp_listing_14_62 p0 p1 S0)) S n 197 [some (.ref 1079), none, some (zi p1), some (zi x3)] [] 0 0 := fun x3 S a b j0 j1 j2 j3 j4 j5 => (zi_listing_14_62 (g := g) (l := l) p0 p1 S0 n hn G_S0 hp0 hp1 _) x3 S a b j0 j1 j2 j3 j4 j5 (Nat.lt_succ_self _)
  refine zz_aload_n (x := 1079) rfl zd_14_62_0 ?_
  refine zz_iload_n (x := p0) rfl zd_14_62_1 ?_
  refine zz_i2l (by omega) zd_14_62_2 ?_
  refine zz_lconst (z := 0) (by decide) zd_14_62_3 ?_
  refine zz_aload_n (x := 1079) rfl zd_14_62_4 ?_
  have g1 := zz_G.r G_S0 1079 7 0 600 rfl rfl
  refine zz_geti (z := S0 1079 7) zd_14_62_5 zf_Md_224 zT_1079 rfl (zz_ltn hn rfl) rfl ?_
  refine zz_iconst zd_14_62_8 ?_
  refine zz_isub zd_14_62_9 ?_
  refine zz_i2l (by omega) zd_14_62_10 ?_
  refine zz_callSI [zl p0, zl 0, zl ((S0 1079 7) - 1)] zd_14_62_11 zk_Md_192 rfl rfl ⟨Nat.le_of_ble_eq_true rfl, Nat.le_of_ble_eq_true rfl⟩ ⟨rfl, rfl⟩ (Nat.zero_le _) (Nat.zero_le _) (zc_in_14_4 p0 0 ((S0 1079 7) - 1) S0 n hn G_S0 (by omega) (by omega) (by omega)) (fun v3 S2 hP => ?_)
  obtain ⟨rfl, o4, o5⟩ := hP
  rcases (by omega : v3 = 0 ∨ v3 = 1) with rfl | rfl
  · have n6 : p0 < 0 ∨ (S0 1079 7) - 1 < p0 := by omega
    clear o5
    refine zz_if_eq (by omega) zd_14_62_14 (fun c7 => ?_) (fun c7 => ?_)
    · refine zz_iconst zd_14_62_21 ?_
      refine zz_goto zd_14_62_22 ?_
      refine zz_iconst zd_14_62_26 ?_
      refine zz_iconst zd_14_62_27 ?_
      refine zz_callVI [zi 1, zi 0, zi 0] zd_14_62_28 zk_Md_196 zT_1079 (zz_ltn hn rfl) rfl rfl ⟨Nat.le_of_ble_eq_true rfl, Nat.le_of_ble_eq_true rfl⟩ ⟨rfl, rfl⟩ (Nat.zero_le _) (Nat.zero_le _) (zc_refuse_14_3 1 0 0 S0 n hn G_S0 (by omega) (by omega) (by omega)) (fun v9 S8 hP => ?_)
      obtain ⟨G_S8, fS8, o10, o11⟩ := hP
      have F_S8 := zz_fr.trans F_S0 fS8 rfl zz_nv
      rcases (by omega : v9 = 0 ∨ v9 = 1) with rfl | rfl
      · exfalso; omega
      · have e12 : S8 1079 0 = 1 := by omega
        clear o11
        refine zz_if_eq (by omega) zd_14_62_31 (fun c13 => ?_) (fun c13 => ?_)
        · exfalso; omega
        · refine zz_iconst zd_14_62_34 ?_
          exact zz_iret zd_14_62_35 rfl (Nat.zero_le _) (Nat.zero_le _) ⟨_, _, rfl, G_S8, F_S8, by omega⟩
    · exfalso; omega
  · have n14 : 0 ≤ p0 ∧ p0 ≤ (S0 1079 7) - 1 := by omega
    clear o5
    refine zz_if_eq (by omega) zd_14_62_14 (fun c15 => ?_) (fun c15 => ?_)
    · exfalso; omega
    · refine zz_iload_n (x := p1) rfl zd_14_62_17 ?_
      refine zz_if_ge (by omega) zd_14_62_18 (fun c16 => ?_) (fun c16 => ?_)
      · refine zz_iconst zd_14_62_25 ?_
        refine zz_iconst zd_14_62_26 ?_
        refine zz_iconst zd_14_62_27 ?_
        refine zz_callVI [zi 0, zi 0, zi 0] zd_14_62_28 zk_Md_196 zT_1079 (zz_ltn hn rfl) rfl rfl ⟨Nat.le_of_ble_eq_true rfl, Nat.le_of_ble_eq_true rfl⟩ ⟨rfl, rfl⟩ (Nat.zero_le _) (Nat.zero_le _) (zc_refuse_14_3 0 0 0 S0 n hn G_S0 (by omega) (by omega) (by omega)) (fun v18 S17 hP => ?_)
        obtain ⟨G_S17, fS17, o19, o20⟩ := hP
        have F_S17 := zz_fr.trans F_S0 fS17 rfl zz_nv
        rcases (by omega : v18 = 0 ∨ v18 = 1) with rfl | rfl
        · have e21 : S17 1079 0 = 0 := by omega
          clear o20
          refine zz_if_eq (by omega) zd_14_62_31 (fun c22 => ?_) (fun c22 => ?_)
          · refine zz_aload_n (x := 1079) rfl zd_14_62_36 ?_
            refine zz_aload_n (x := 1079) rfl zd_14_62_37 ?_
            refine zz_getr (kd := 0) (z := 1085) zd_14_62_38 zf_Md_29 zT_1079 rfl (zz_ltn hn rfl) (zz_G.eq G_S17 1079 8 1085 rfl rfl) (by decide) 1085 rfl ?_
            refine zz_iload_n (x := p0) rfl zd_14_62_41 ?_
            have g23 := zz_G.r G_S0 1085 p0.toNat (-9223372036854775808) 9223372036854775807 rfl rfl
            refine zz_lald (z := S0 1085 p0.toNat) zd_14_62_42 zT_1085 rfl (zz_ltn hn rfl) (by decide) (by omega) (zz_rc fS17 (zz_nc1 rfl) rfl (fun h => h) rfl) ?_
            refine zz_callVV [zl (S0 1085 p0.toNat)] zd_14_62_43 zk_Md_234 zT_1079 (zz_ltn hn rfl) rfl rfl ⟨Nat.le_of_ble_eq_true rfl, Nat.le_of_ble_eq_true rfl⟩ ⟨rfl, rfl⟩ (Nat.zero_le _) (Nat.zero_le _) (zc_take_14_18 (S0 1085 p0.toNat) S17 n hn G_S17 (by omega)) (fun S24 hP => ?_)
            obtain ⟨G_S24, fS24, o26, o27, o28, o29, o30, o31, o32, o33, o34, o35, o36, o37⟩ := hP
            have F_S24 := zz_fr.trans F_S17 fS24 rfl zz_nv
            refine zz_aload_n (x := 1079) rfl zd_14_62_46 ?_
            refine zz_iconst zd_14_62_47 ?_
            refine zz_puti zd_14_62_48 zf_Md_385 zT_1079 rfl (zz_ltn hn rfl) (fun S38 qS38 => ?_)
            have G_S38 := zz_G.put G_S24 qS38 0 200 rfl (by omega)
            have F_S38 := zz_fr.puts F_S24 qS38 rfl
            refine zz_aload_n (x := 1079) rfl zd_14_62_51 ?_
            refine zz_getr (kd := 0) (z := 1087) zd_14_62_52 zf_Md_36 zT_1079 rfl (zz_ltn hn rfl) (zz_G.eq G_S38 1079 11 1087 rfl rfl) (by decide) 1087 rfl ?_
            refine zz_iconst zd_14_62_55 ?_
            have g39 := zz_G.r G_S24 1087 0 (-2147483648) 2147483647 rfl rfl
            refine zz_iald (z := S24 1087 0) zd_14_62_56 zT_1087 rfl (zz_ltn hn rfl) (by decide) (by decide) (zz_ro qS38 (fun h => absurd h.1 (by decide)) rfl) ?_
            refine zz_i2l (by omega) zd_14_62_57 ?_
            refine zz_lconst (z := 1) (by decide) zd_14_62_58 ?_
            refine zz_ldc2 (z := 9) zq_Md_238 (by decide) zd_14_62_59 ?_
            refine zz_callSI [zl (S24 1087 0), zl 1, zl 9] zd_14_62_62 zk_Md_192 rfl rfl ⟨Nat.le_of_ble_eq_true rfl, Nat.le_of_ble_eq_true rfl⟩ ⟨rfl, rfl⟩ (Nat.zero_le _) (Nat.zero_le _) (zc_in_14_4 (S24 1087 0) 1 9 S38 n hn G_S38 (by omega) (by omega) (by omega)) (fun v41 S40 hP => ?_)
            obtain ⟨rfl, o42, o43⟩ := hP
            rcases (by omega : v41 = 0 ∨ v41 = 1) with rfl | rfl
            · have n44 : S24 1087 0 < 1 ∨ 9 < S24 1087 0 := by omega
              clear o43
              refine zz_if_eq (by omega) zd_14_62_65 (fun c45 => ?_) (fun c45 => ?_)
              · refine zz_aload_n (x := 1079) rfl zd_14_62_81 ?_
                refine zz_ldc2 (z := 63) zq_Md_399 (by decide) zd_14_62_82 ?_
                have e46 : S38 1079 34 = 0 := (zz_rs qS38)
                refine zz_callVV [zl 63] zd_14_62_85 zk_Md_388 zT_1079 (zz_ltn hn rfl) rfl rfl ⟨Nat.le_of_ble_eq_true rfl, Nat.le_of_ble_eq_true rfl⟩ ⟨rfl, rfl⟩ (Nat.zero_le _) (Nat.zero_le _) (zc_say_14_57 63 S38 n hn G_S38 (by omega) (by omega)) (fun S47 hP => ?_)
                obtain ⟨G_S47, fS47, o49, o50⟩ := hP
                have F_S47 := zz_fr.trans F_S38 fS47 rfl zz_nv
                refine zz_aload_n (x := 1079) rfl zd_14_62_88 ?_
                refine zz_bipush (by decide) zd_14_62_89 ?_
                refine zz_iconst zd_14_62_91 ?_
                have g51 := zz_G.r G_S47 1079 34 0 200 rfl rfl
                refine zz_callVV [zi 10, zi 5] zd_14_62_92 zk_Md_401 zT_1079 (zz_ltn hn rfl) rfl rfl ⟨Nat.le_of_ble_eq_true rfl, Nat.le_of_ble_eq_true rfl⟩ ⟨rfl, rfl⟩ (Nat.zero_le _) (Nat.zero_le _) (zc_sayField_14_60 10 5 S47 n hn G_S47 (by omega) (by omega) (by omega)) (fun S52 hP => ?_)
                obtain ⟨G_S52, fS52, o54, o55⟩ := hP
                have F_S52 := zz_fr.trans F_S47 fS52 rfl zz_nv
                refine zz_aload_n (x := 1079) rfl zd_14_62_95 ?_
                refine zz_getr (kd := 0) (z := 1087) zd_14_62_96 zf_Md_36 zT_1079 rfl (zz_ltn hn rfl) (zz_G.eq G_S52 1079 11 1087 rfl rfl) (by decide) 1087 rfl ?_
                refine zz_bipush (by decide) zd_14_62_99 ?_
                have g56 := zz_G.r G_S24 1087 6 (-2147483648) 2147483647 rfl rfl
                refine zz_iald (z := S24 1087 6) zd_14_62_101 zT_1087 rfl (zz_ltn hn rfl) (by decide) (by decide) (zz_rc fS52 (zz_nc1 rfl) rfl (fun h => h) (zz_rc fS47 (zz_nc1 rfl) rfl (fun h => h) (zz_ro qS38 (fun h => absurd h.1 (by decide)) rfl))) ?_
                refine zz_if_ne (by omega) zd_14_62_102 (fun c57 => ?_) (fun c57 => ?_)
                · refine zz_aload_n (x := 1079) rfl zd_14_62_115 ?_
                  refine zz_bipush (by decide) zd_14_62_116 ?_
                  have g58 := zz_G.r G_S52 1079 34 0 200 rfl rfl
                  refine zz_callVV [zi 11] zd_14_62_118 zk_Md_393 zT_1079 (zz_ltn hn rfl) rfl rfl ⟨Nat.le_of_ble_eq_true rfl, Nat.le_of_ble_eq_true rfl⟩ ⟨rfl, rfl⟩ (Nat.zero_le _) (Nat.zero_le _) (zc_sayWord_14_58 11 S52 n hn G_S52 (by omega) (by omega)) (fun S59 hP => ?_)
                  obtain ⟨G_S59, fS59, o61, o62⟩ := hP
                  have F_S59 := zz_fr.trans F_S52 fS59 rfl zz_nv
                  refine zz_aload_n (x := 1079) rfl zd_14_62_121 ?_
                  refine zz_ldc2 (z := 32) zq_Md_327 (by decide) zd_14_62_122 ?_
                  have g63 := zz_G.r G_S59 1079 34 0 200 rfl rfl
                  refine zz_callVV [zl 32] zd_14_62_125 zk_Md_388 zT_1079 (zz_ltn hn rfl) rfl rfl ⟨Nat.le_of_ble_eq_true rfl, Nat.le_of_ble_eq_true rfl⟩ ⟨rfl, rfl⟩ (Nat.zero_le _) (Nat.zero_le _) (zc_say_14_57 32 S59 n hn G_S59 (by omega) (by omega)) (fun S64 hP => ?_)
                  obtain ⟨G_S64, fS64, o66, o67⟩ := hP
                  have F_S64 := zz_fr.trans F_S59 fS64 rfl zz_nv
                  refine zz_aload_n (x := 1079) rfl zd_14_62_128 ?_
                  refine zz_aload_n (x := 1079) rfl zd_14_62_129 ?_
                  refine zz_getr (kd := 0) (z := 1087) zd_14_62_130 zf_Md_36 zT_1079 rfl (zz_ltn hn rfl) (zz_G.eq G_S64 1079 11 1087 rfl rfl) (by decide) 1087 rfl ?_
                  refine zz_bipush (by decide) zd_14_62_133 ?_
                  refine zz_iald (z := S24 1087 6) zd_14_62_135 zT_1087 rfl (zz_ltn hn rfl) (by decide) (by decide) (zz_rc fS64 (zz_nc1 rfl) rfl (fun h => h) (zz_rc fS59 (zz_nc1 rfl) rfl (fun h => h) (zz_rc fS52 (zz_nc1 rfl) rfl (fun h => h) (zz_rc fS47 (zz_nc1 rfl) rfl (fun h => h) (zz_ro qS38 (fun h => absurd h.1 (by decide)) rfl))))) ?_
                  have g68 := zz_G.r G_S64 1079 34 0 200 rfl rfl
                  refine zz_callVV [zi (S24 1087 6)] zd_14_62_136 zk_Md_396 zT_1079 (zz_ltn hn rfl) rfl rfl ⟨Nat.le_of_ble_eq_true rfl, Nat.le_of_ble_eq_true rfl⟩ ⟨rfl, rfl⟩ (Nat.zero_le _) (Nat.zero_le _) (zc_sayNumber_14_59 (S24 1087 6) S64 n hn G_S64 (by omega) (by omega)) (fun S69 hP => ?_)
                  obtain ⟨G_S69, fS69, o71, o72, o73⟩ := hP
                  have F_S69 := zz_fr.trans F_S64 fS69 rfl zz_nv
                  refine zz_aload_n (x := 1079) rfl zd_14_62_139 ?_
                  refine zz_bipush (by decide) zd_14_62_140 ?_
                  have g74 := zz_G.r G_S69 1079 34 0 200 rfl rfl
                  refine zz_callVV [zi 12] zd_14_62_142 zk_Md_393 zT_1079 (zz_ltn hn rfl) rfl rfl ⟨Nat.le_of_ble_eq_true rfl, Nat.le_of_ble_eq_true rfl⟩ ⟨rfl, rfl⟩ (Nat.zero_le _) (Nat.zero_le _) (zc_sayWord_14_58 12 S69 n hn G_S69 (by omega) (by omega)) (fun S75 hP => ?_)
                  obtain ⟨G_S75, fS75, o77, o78⟩ := hP
                  have F_S75 := zz_fr.trans F_S69 fS75 rfl zz_nv
                  refine zz_aload_n (x := 1079) rfl zd_14_62_145 ?_
                  refine zz_ldc2 (z := 32) zq_Md_327 (by decide) zd_14_62_146 ?_
                  have g79 := zz_G.r G_S75 1079 34 0 200 rfl rfl
                  refine zz_callVV [zl 32] zd_14_62_149 zk_Md_388 zT_1079 (zz_ltn hn rfl) rfl rfl ⟨Nat.le_of_ble_eq_true rfl, Nat.le_of_ble_eq_true rfl⟩ ⟨rfl, rfl⟩ (Nat.zero_le _) (Nat.zero_le _) (zc_say_14_57 32 S75 n hn G_S75 (by omega) (by omega)) (fun S80 hP => ?_)
                  obtain ⟨G_S80, fS80, o82, o83⟩ := hP
                  have F_S80 := zz_fr.trans F_S75 fS80 rfl zz_nv
                  refine zz_aload_n (x := 1079) rfl zd_14_62_152 ?_
                  refine zz_aload_n (x := 1079) rfl zd_14_62_153 ?_
                  refine zz_getr (kd := 0) (z := 1087) zd_14_62_154 zf_Md_36 zT_1079 rfl (zz_ltn hn rfl) (zz_G.eq G_S80 1079 11 1087 rfl rfl) (by decide) 1087 rfl ?_
                  refine zz_bipush (by decide) zd_14_62_157 ?_
                  have g84 := zz_G.r G_S24 1087 7 (-2147483648) 2147483647 rfl rfl
                  refine zz_iald (z := S24 1087 7) zd_14_62_159 zT_1087 rfl (zz_ltn hn rfl) (by decide) (by decide) (zz_rc fS80 (zz_nc1 rfl) rfl (fun h => h) (zz_rc fS75 (zz_nc1 rfl) rfl (fun h => h) (zz_rc fS69 (zz_nc1 rfl) rfl (fun h => h) (zz_rc fS64 (zz_nc1 rfl) rfl (fun h => h) (zz_rc fS59 (zz_nc1 rfl) rfl (fun h => h) (zz_rc fS52 (zz_nc1 rfl) rfl (fun h => h) (zz_rc fS47 (zz_nc1 rfl) rfl (fun h => h) (zz_ro qS38 (fun h => absurd h.1 (by decide)) rfl)))))))) ?_
                  have g85 := zz_G.r G_S80 1079 34 0 200 rfl rfl
                  refine zz_callVV [zi (S24 1087 7)] zd_14_62_160 zk_Md_396 zT_1079 (zz_ltn hn rfl) rfl rfl ⟨Nat.le_of_ble_eq_true rfl, Nat.le_of_ble_eq_true rfl⟩ ⟨rfl, rfl⟩ (Nat.zero_le _) (Nat.zero_le _) (zc_sayNumber_14_59 (S24 1087 7) S80 n hn G_S80 (by omega) (by omega)) (fun S86 hP => ?_)
                  obtain ⟨G_S86, fS86, o88, o89, o90⟩ := hP
                  have F_S86 := zz_fr.trans F_S80 fS86 rfl zz_nv
                  refine zz_aload_n (x := 1079) rfl zd_14_62_163 ?_
                  refine zz_bipush (by decide) zd_14_62_164 ?_
                  refine zz_bipush (by decide) zd_14_62_166 ?_
                  have g91 := zz_G.r G_S86 1079 34 0 200 rfl rfl
                  refine zz_callVV [zi 13, zi 8] zd_14_62_168 zk_Md_401 zT_1079 (zz_ltn hn rfl) rfl rfl ⟨Nat.le_of_ble_eq_true rfl, Nat.le_of_ble_eq_true rfl⟩ ⟨rfl, rfl⟩ (Nat.zero_le _) (Nat.zero_le _) (zc_sayField_14_60 13 8 S86 n hn G_S86 (by omega) (by omega) (by omega)) (fun S92 hP => ?_)
                  obtain ⟨G_S92, fS92, o94, o95⟩ := hP
                  have F_S92 := zz_fr.trans F_S86 fS92 rfl zz_nv
                  refine zz_aload_n (x := 1079) rfl zd_14_62_171 ?_
                  refine zz_bipush (by decide) zd_14_62_172 ?_
                  refine zz_bipush (by decide) zd_14_62_174 ?_
                  have g96 := zz_G.r G_S92 1079 34 0 200 rfl rfl
                  refine zz_callVV [zi 14, zi 9] zd_14_62_176 zk_Md_401 zT_1079 (zz_ltn hn rfl) rfl rfl ⟨Nat.le_of_ble_eq_true rfl, Nat.le_of_ble_eq_true rfl⟩ ⟨rfl, rfl⟩ (Nat.zero_le _) (Nat.zero_le _) (zc_sayField_14_60 14 9 S92 n hn G_S92 (by omega) (by omega) (by omega)) (fun S97 hP => ?_)
                  obtain ⟨G_S97, fS97, o99, o100⟩ := hP
                  have F_S97 := zz_fr.trans F_S92 fS97 rfl zz_nv
                  refine zz_aload_n (x := 1079) rfl zd_14_62_179 ?_
                  refine zz_bipush (by decide) zd_14_62_180 ?_
                  refine zz_bipush (by decide) zd_14_62_182 ?_
                  have g101 := zz_G.r G_S97 1079 34 0 200 rfl rfl
                  refine zz_callVV [zi 15, zi 10] zd_14_62_184 zk_Md_401 zT_1079 (zz_ltn hn rfl) rfl rfl ⟨Nat.le_of_ble_eq_true rfl, Nat.le_of_ble_eq_true rfl⟩ ⟨rfl, rfl⟩ (Nat.zero_le _) (Nat.zero_le _) (zc_sayField_14_60 15 10 S97 n hn G_S97 (by omega) (by omega) (by omega)) (fun S102 hP => ?_)
                  obtain ⟨G_S102, fS102, o104, o105⟩ := hP
                  have F_S102 := zz_fr.trans F_S97 fS102 rfl zz_nv
                  refine zz_aload_n (x := 1079) rfl zd_14_62_187 ?_
                  refine zz_bipush (by decide) zd_14_62_188 ?_
                  refine zz_bipush (by decide) zd_14_62_190 ?_
                  have g106 := zz_G.r G_S102 1079 34 0 200 rfl rfl
                  refine zz_callVV [zi 16, zi 11] zd_14_62_192 zk_Md_401 zT_1079 (zz_ltn hn rfl) rfl rfl ⟨Nat.le_of_ble_eq_true rfl, Nat.le_of_ble_eq_true rfl⟩ ⟨rfl, rfl⟩ (Nat.zero_le _) (Nat.zero_le _) (zc_sayField_14_60 16 11 S102 n hn G_S102 (by omega) (by omega) (by omega)) (fun S107 hP => ?_)
                  obtain ⟨G_S107, fS107, o109, o110⟩ := hP
                  have F_S107 := zz_fr.trans F_S102 fS107 rfl zz_nv
                  refine zz_iconst zd_14_62_195 ?_
                  refine zz_istore_n [some (.ref 1079), some (zi p0), some (zi p1), some (zi 1)] zd_14_62_196 (by decide) rfl ?_
                  have g111 := zz_G.r G_S107 1079 34 0 200 rfl rfl
                  refine zz_less (ls1 := [some (.ref 1079), none, some (zi p1), some (zi 1)]) ⟨rfl, ⟨rfl, ⟨rfl, trivial⟩⟩⟩ ?_
                  exact k197 1 S107 G_S107 F_S107 (by omega) (by omega) (by omega) (by omega) (by omega) (by omega)
                · refine zz_aload_n (x := 1079) rfl zd_14_62_105 ?_
                  refine zz_getr (kd := 0) (z := 1087) zd_14_62_106 zf_Md_36 zT_1079 rfl (zz_ltn hn rfl) (zz_G.eq G_S52 1079 11 1087 rfl rfl) (by decide) 1087 rfl ?_
                  refine zz_bipush (by decide) zd_14_62_109 ?_
                  have g112 := zz_G.r G_S24 1087 7 (-2147483648) 2147483647 rfl rfl
                  refine zz_iald (z := S24 1087 7) zd_14_62_111 zT_1087 rfl (zz_ltn hn rfl) (by decide) (by decide) (zz_rc fS52 (zz_nc1 rfl) rfl (fun h => h) (zz_rc fS47 (zz_nc1 rfl) rfl (fun h => h) (zz_ro qS38 (fun h => absurd h.1 (by decide)) rfl))) ?_
                  refine zz_if_eq (by omega) zd_14_62_112 (fun c113 => ?_) (fun c113 => ?_)
                  · refine zz_aload_n (x := 1079) rfl zd_14_62_163 ?_
                    refine zz_bipush (by decide) zd_14_62_164 ?_
                    refine zz_bipush (by decide) zd_14_62_166 ?_
                    have g114 := zz_G.r G_S52 1079 34 0 200 rfl rfl
                    refine zz_callVV [zi 13, zi 8] zd_14_62_168 zk_Md_401 zT_1079 (zz_ltn hn rfl) rfl rfl ⟨Nat.le_of_ble_eq_true rfl, Nat.le_of_ble_eq_true rfl⟩ ⟨rfl, rfl⟩ (Nat.zero_le _) (Nat.zero_le _) (zc_sayField_14_60 13 8 S52 n hn G_S52 (by omega) (by omega) (by omega)) (fun S115 hP => ?_)
                    obtain ⟨G_S115, fS115, o117, o118⟩ := hP
                    have F_S115 := zz_fr.trans F_S52 fS115 rfl zz_nv
                    refine zz_aload_n (x := 1079) rfl zd_14_62_171 ?_
                    refine zz_bipush (by decide) zd_14_62_172 ?_
                    refine zz_bipush (by decide) zd_14_62_174 ?_
                    have g119 := zz_G.r G_S115 1079 34 0 200 rfl rfl
                    refine zz_callVV [zi 14, zi 9] zd_14_62_176 zk_Md_401 zT_1079 (zz_ltn hn rfl) rfl rfl ⟨Nat.le_of_ble_eq_true rfl, Nat.le_of_ble_eq_true rfl⟩ ⟨rfl, rfl⟩ (Nat.zero_le _) (Nat.zero_le _) (zc_sayField_14_60 14 9 S115 n hn G_S115 (by omega) (by omega) (by omega)) (fun S120 hP => ?_)
                    obtain ⟨G_S120, fS120, o122, o123⟩ := hP
                    have F_S120 := zz_fr.trans F_S115 fS120 rfl zz_nv
                    refine zz_aload_n (x := 1079) rfl zd_14_62_179 ?_
                    refine zz_bipush (by decide) zd_14_62_180 ?_
                    refine zz_bipush (by decide) zd_14_62_182 ?_
                    have g124 := zz_G.r G_S120 1079 34 0 200 rfl rfl
                    refine zz_callVV [zi 15, zi 10] zd_14_62_184 zk_Md_401 zT_1079 (zz_ltn hn rfl) rfl rfl ⟨Nat.le_of_ble_eq_true rfl, Nat.le_of_ble_eq_true rfl⟩ ⟨rfl, rfl⟩ (Nat.zero_le _) (Nat.zero_le _) (zc_sayField_14_60 15 10 S120 n hn G_S120 (by omega) (by omega) (by omega)) (fun S125 hP => ?_)
                    obtain ⟨G_S125, fS125, o127, o128⟩ := hP
                    have F_S125 := zz_fr.trans F_S120 fS125 rfl zz_nv
                    refine zz_aload_n (x := 1079) rfl zd_14_62_187 ?_
                    refine zz_bipush (by decide) zd_14_62_188 ?_
                    refine zz_bipush (by decide) zd_14_62_190 ?_
                    have g129 := zz_G.r G_S125 1079 34 0 200 rfl rfl
                    refine zz_callVV [zi 16, zi 11] zd_14_62_192 zk_Md_401 zT_1079 (zz_ltn hn rfl) rfl rfl ⟨Nat.le_of_ble_eq_true rfl, Nat.le_of_ble_eq_true rfl⟩ ⟨rfl, rfl⟩ (Nat.zero_le _) (Nat.zero_le _) (zc_sayField_14_60 16 11 S125 n hn G_S125 (by omega) (by omega) (by omega)) (fun S130 hP => ?_)
                    obtain ⟨G_S130, fS130, o132, o133⟩ := hP
                    have F_S130 := zz_fr.trans F_S125 fS130 rfl zz_nv
                    refine zz_iconst zd_14_62_195 ?_
                    refine zz_istore_n [some (.ref 1079), some (zi p0), some (zi p1), some (zi 1)] zd_14_62_196 (by decide) rfl ?_
                    have g134 := zz_G.r G_S130 1079 34 0 200 rfl rfl
                    refine zz_less (ls1 := [some (.ref 1079), none, some (zi p1), some (zi 1)]) ⟨rfl, ⟨rfl, ⟨rfl, trivial⟩⟩⟩ ?_
                    exact k197 1 S130 G_S130 F_S130 (by omega) (by omega) (by omega) (by omega) (by omega) (by omega)
                  · refine zz_aload_n (x := 1079) rfl zd_14_62_115 ?_
                    refine zz_bipush (by decide) zd_14_62_116 ?_
                    have g135 := zz_G.r G_S52 1079 34 0 200 rfl rfl
                    refine zz_callVV [zi 11] zd_14_62_118 zk_Md_393 zT_1079 (zz_ltn hn rfl) rfl rfl ⟨Nat.le_of_ble_eq_true rfl, Nat.le_of_ble_eq_true rfl⟩ ⟨rfl, rfl⟩ (Nat.zero_le _) (Nat.zero_le _) (zc_sayWord_14_58 11 S52 n hn G_S52 (by omega) (by omega)) (fun S136 hP => ?_)
                    obtain ⟨G_S136, fS136, o138, o139⟩ := hP
                    have F_S136 := zz_fr.trans F_S52 fS136 rfl zz_nv
                    refine zz_aload_n (x := 1079) rfl zd_14_62_121 ?_
                    refine zz_ldc2 (z := 32) zq_Md_327 (by decide) zd_14_62_122 ?_
                    have g140 := zz_G.r G_S136 1079 34 0 200 rfl rfl
                    refine zz_callVV [zl 32] zd_14_62_125 zk_Md_388 zT_1079 (zz_ltn hn rfl) rfl rfl ⟨Nat.le_of_ble_eq_true rfl, Nat.le_of_ble_eq_true rfl⟩ ⟨rfl, rfl⟩ (Nat.zero_le _) (Nat.zero_le _) (zc_say_14_57 32 S136 n hn G_S136 (by omega) (by omega)) (fun S141 hP => ?_)
                    obtain ⟨G_S141, fS141, o143, o144⟩ := hP
                    have F_S141 := zz_fr.trans F_S136 fS141 rfl zz_nv
                    refine zz_aload_n (x := 1079) rfl zd_14_62_128 ?_
                    refine zz_aload_n (x := 1079) rfl zd_14_62_129 ?_
                    refine zz_getr (kd := 0) (z := 1087) zd_14_62_130 zf_Md_36 zT_1079 rfl (zz_ltn hn rfl) (zz_G.eq G_S141 1079 11 1087 rfl rfl) (by decide) 1087 rfl ?_
                    refine zz_bipush (by decide) zd_14_62_133 ?_
                    refine zz_iald (z := S24 1087 6) zd_14_62_135 zT_1087 rfl (zz_ltn hn rfl) (by decide) (by decide) (zz_rc fS141 (zz_nc1 rfl) rfl (fun h => h) (zz_rc fS136 (zz_nc1 rfl) rfl (fun h => h) (zz_rc fS52 (zz_nc1 rfl) rfl (fun h => h) (zz_rc fS47 (zz_nc1 rfl) rfl (fun h => h) (zz_ro qS38 (fun h => absurd h.1 (by decide)) rfl))))) ?_
                    have g145 := zz_G.r G_S141 1079 34 0 200 rfl rfl
                    refine zz_callVV [zi (S24 1087 6)] zd_14_62_136 zk_Md_396 zT_1079 (zz_ltn hn rfl) rfl rfl ⟨Nat.le_of_ble_eq_true rfl, Nat.le_of_ble_eq_true rfl⟩ ⟨rfl, rfl⟩ (Nat.zero_le _) (Nat.zero_le _) (zc_sayNumber_14_59 (S24 1087 6) S141 n hn G_S141 (by omega) (by omega)) (fun S146 hP => ?_)
                    obtain ⟨G_S146, fS146, o148, o149, o150⟩ := hP
                    have F_S146 := zz_fr.trans F_S141 fS146 rfl zz_nv
                    refine zz_aload_n (x := 1079) rfl zd_14_62_139 ?_
                    refine zz_bipush (by decide) zd_14_62_140 ?_
                    have g151 := zz_G.r G_S146 1079 34 0 200 rfl rfl
                    refine zz_callVV [zi 12] zd_14_62_142 zk_Md_393 zT_1079 (zz_ltn hn rfl) rfl rfl ⟨Nat.le_of_ble_eq_true rfl, Nat.le_of_ble_eq_true rfl⟩ ⟨rfl, rfl⟩ (Nat.zero_le _) (Nat.zero_le _) (zc_sayWord_14_58 12 S146 n hn G_S146 (by omega) (by omega)) (fun S152 hP => ?_)
                    obtain ⟨G_S152, fS152, o154, o155⟩ := hP
                    have F_S152 := zz_fr.trans F_S146 fS152 rfl zz_nv
                    refine zz_aload_n (x := 1079) rfl zd_14_62_145 ?_
                    refine zz_ldc2 (z := 32) zq_Md_327 (by decide) zd_14_62_146 ?_
                    have g156 := zz_G.r G_S152 1079 34 0 200 rfl rfl
                    refine zz_callVV [zl 32] zd_14_62_149 zk_Md_388 zT_1079 (zz_ltn hn rfl) rfl rfl ⟨Nat.le_of_ble_eq_true rfl, Nat.le_of_ble_eq_true rfl⟩ ⟨rfl, rfl⟩ (Nat.zero_le _) (Nat.zero_le _) (zc_say_14_57 32 S152 n hn G_S152 (by omega) (by omega)) (fun S157 hP => ?_)
                    obtain ⟨G_S157, fS157, o159, o160⟩ := hP
                    have F_S157 := zz_fr.trans F_S152 fS157 rfl zz_nv
                    refine zz_aload_n (x := 1079) rfl zd_14_62_152 ?_
                    refine zz_aload_n (x := 1079) rfl zd_14_62_153 ?_
                    refine zz_getr (kd := 0) (z := 1087) zd_14_62_154 zf_Md_36 zT_1079 rfl (zz_ltn hn rfl) (zz_G.eq G_S157 1079 11 1087 rfl rfl) (by decide) 1087 rfl ?_
                    refine zz_bipush (by decide) zd_14_62_157 ?_
                    refine zz_iald (z := S24 1087 7) zd_14_62_159 zT_1087 rfl (zz_ltn hn rfl) (by decide) (by decide) (zz_rc fS157 (zz_nc1 rfl) rfl (fun h => h) (zz_rc fS152 (zz_nc1 rfl) rfl (fun h => h) (zz_rc fS146 (zz_nc1 rfl) rfl (fun h => h) (zz_rc fS141 (zz_nc1 rfl) rfl (fun h => h) (zz_rc fS136 (zz_nc1 rfl) rfl (fun h => h) (zz_rc fS52 (zz_nc1 rfl) rfl (fun h => h) (zz_rc fS47 (zz_nc1 rfl) rfl (fun h => h) (zz_ro qS38 (fun h => absurd h.1 (by decide)) rfl)))))))) ?_
                    have g161 := zz_G.r G_S157 1079 34 0 200 rfl rfl
                    refine zz_callVV [zi (S24 1087 7)] zd_14_62_160 zk_Md_396 zT_1079 (zz_ltn hn rfl) rfl rfl ⟨Nat.le_of_ble_eq_true rfl, Nat.le_of_ble_eq_true rfl⟩ ⟨rfl, rfl⟩ (Nat.zero_le _) (Nat.zero_le _) (zc_sayNumber_14_59 (S24 1087 7) S157 n hn G_S157 (by omega) (by omega)) (fun S162 hP => ?_)
                    obtain ⟨G_S162, fS162, o164, o165, o166⟩ := hP
                    have F_S162 := zz_fr.trans F_S157 fS162 rfl zz_nv
                    refine zz_aload_n (x := 1079) rfl zd_14_62_163 ?_
                    refine zz_bipush (by decide) zd_14_62_164 ?_
                    refine zz_bipush (by decide) zd_14_62_166 ?_
                    have g167 := zz_G.r G_S162 1079 34 0 200 rfl rfl
                    refine zz_callVV [zi 13, zi 8] zd_14_62_168 zk_Md_401 zT_1079 (zz_ltn hn rfl) rfl rfl ⟨Nat.le_of_ble_eq_true rfl, Nat.le_of_ble_eq_true rfl⟩ ⟨rfl, rfl⟩ (Nat.zero_le _) (Nat.zero_le _) (zc_sayField_14_60 13 8 S162 n hn G_S162 (by omega) (by omega) (by omega)) (fun S168 hP => ?_)
                    obtain ⟨G_S168, fS168, o170, o171⟩ := hP
                    have F_S168 := zz_fr.trans F_S162 fS168 rfl zz_nv
                    refine zz_aload_n (x := 1079) rfl zd_14_62_171 ?_
                    refine zz_bipush (by decide) zd_14_62_172 ?_
                    refine zz_bipush (by decide) zd_14_62_174 ?_
                    have g172 := zz_G.r G_S168 1079 34 0 200 rfl rfl
                    refine zz_callVV [zi 14, zi 9] zd_14_62_176 zk_Md_401 zT_1079 (zz_ltn hn rfl) rfl rfl ⟨Nat.le_of_ble_eq_true rfl, Nat.le_of_ble_eq_true rfl⟩ ⟨rfl, rfl⟩ (Nat.zero_le _) (Nat.zero_le _) (zc_sayField_14_60 14 9 S168 n hn G_S168 (by omega) (by omega) (by omega)) (fun S173 hP => ?_)
                    obtain ⟨G_S173, fS173, o175, o176⟩ := hP
                    have F_S173 := zz_fr.trans F_S168 fS173 rfl zz_nv
                    refine zz_aload_n (x := 1079) rfl zd_14_62_179 ?_
                    refine zz_bipush (by decide) zd_14_62_180 ?_
                    refine zz_bipush (by decide) zd_14_62_182 ?_
                    have g177 := zz_G.r G_S173 1079 34 0 200 rfl rfl
                    refine zz_callVV [zi 15, zi 10] zd_14_62_184 zk_Md_401 zT_1079 (zz_ltn hn rfl) rfl rfl ⟨Nat.le_of_ble_eq_true rfl, Nat.le_of_ble_eq_true rfl⟩ ⟨rfl, rfl⟩ (Nat.zero_le _) (Nat.zero_le _) (zc_sayField_14_60 15 10 S173 n hn G_S173 (by omega) (by omega) (by omega)) (fun S178 hP => ?_)
                    obtain ⟨G_S178, fS178, o180, o181⟩ := hP
                    have F_S178 := zz_fr.trans F_S173 fS178 rfl zz_nv
                    refine zz_aload_n (x := 1079) rfl zd_14_62_187 ?_
                    refine zz_bipush (by decide) zd_14_62_188 ?_
                    refine zz_bipush (by decide) zd_14_62_190 ?_
                    have g182 := zz_G.r G_S178 1079 34 0 200 rfl rfl
                    refine zz_callVV [zi 16, zi 11] zd_14_62_192 zk_Md_401 zT_1079 (zz_ltn hn rfl) rfl rfl ⟨Nat.le_of_ble_eq_true rfl, Nat.le_of_ble_eq_true rfl⟩ ⟨rfl, rfl⟩ (Nat.zero_le _) (Nat.zero_le _) (zc_sayField_14_60 16 11 S178 n hn G_S178 (by omega) (by omega) (by omega)) (fun S183 hP => ?_)
                    obtain ⟨G_S183, fS183, o185, o186⟩ := hP
                    have F_S183 := zz_fr.trans F_S178 fS183 rfl zz_nv
                    refine zz_iconst zd_14_62_195 ?_
                    refine zz_istore_n [some (.ref 1079), some (zi p0), some (zi p1), some (zi 1)] zd_14_62_196 (by decide) rfl ?_
                    have g187 := zz_G.r G_S183 1079 34 0 200 rfl rfl
                    refine zz_less (ls1 := [some (.ref 1079), none, some (zi p1), some (zi 1)]) ⟨rfl, ⟨rfl, ⟨rfl, trivial⟩⟩⟩ ?_
                    exact k197 1 S183 G_S183 F_S183 (by omega) (by omega) (by omega) (by omega) (by omega) (by omega)
              · exfalso; omega
            · have n188 : 1 ≤ S24 1087 0 ∧ S24 1087 0 ≤ 9 := by omega
              clear o43
              refine zz_if_eq (by omega) zd_14_62_65 (fun c189 => ?_) (fun c189 => ?_)
              · exfalso; omega
              · refine zz_aload_n (x := 1079) rfl zd_14_62_68 ?_
                refine zz_aload_n (x := 1079) rfl zd_14_62_69 ?_
                refine zz_getr (kd := 0) (z := 1087) zd_14_62_70 zf_Md_36 zT_1079 rfl (zz_ltn hn rfl) (zz_G.eq G_S38 1079 11 1087 rfl rfl) (by decide) 1087 rfl ?_
                refine zz_iconst zd_14_62_73 ?_
                refine zz_iald (z := S24 1087 0) zd_14_62_74 zT_1087 rfl (zz_ltn hn rfl) (by decide) (by decide) (zz_ro qS38 (fun h => absurd h.1 (by decide)) rfl) ?_
                have e190 : S38 1079 34 = 0 := (zz_rs qS38)
                refine zz_callVV [zi (S24 1087 0)] zd_14_62_75 zk_Md_393 zT_1079 (zz_ltn hn rfl) rfl rfl ⟨Nat.le_of_ble_eq_true rfl, Nat.le_of_ble_eq_true rfl⟩ ⟨rfl, rfl⟩ (Nat.zero_le _) (Nat.zero_le _) (zc_sayWord_14_58 (S24 1087 0) S38 n hn G_S38 (by omega) (by omega)) (fun S191 hP => ?_)
                obtain ⟨G_S191, fS191, o193, o194⟩ := hP
                have F_S191 := zz_fr.trans F_S38 fS191 rfl zz_nv
                refine zz_goto zd_14_62_78 ?_
                refine zz_aload_n (x := 1079) rfl zd_14_62_88 ?_
                refine zz_bipush (by decide) zd_14_62_89 ?_
                refine zz_iconst zd_14_62_91 ?_
                have g195 := zz_G.r G_S191 1079 34 0 200 rfl rfl
                refine zz_callVV [zi 10, zi 5] zd_14_62_92 zk_Md_401 zT_1079 (zz_ltn hn rfl) rfl rfl ⟨Nat.le_of_ble_eq_true rfl, Nat.le_of_ble_eq_true rfl⟩ ⟨rfl, rfl⟩ (Nat.zero_le _) (Nat.zero_le _) (zc_sayField_14_60 10 5 S191 n hn G_S191 (by omega) (by omega) (by omega)) (fun S196 hP => ?_)
                obtain ⟨G_S196, fS196, o198, o199⟩ := hP
                have F_S196 := zz_fr.trans F_S191 fS196 rfl zz_nv
                refine zz_aload_n (x := 1079) rfl zd_14_62_95 ?_
                refine zz_getr (kd := 0) (z := 1087) zd_14_62_96 zf_Md_36 zT_1079 rfl (zz_ltn hn rfl) (zz_G.eq G_S196 1079 11 1087 rfl rfl) (by decide) 1087 rfl ?_
                refine zz_bipush (by decide) zd_14_62_99 ?_
                have g200 := zz_G.r G_S24 1087 6 (-2147483648) 2147483647 rfl rfl
                refine zz_iald (z := S24 1087 6) zd_14_62_101 zT_1087 rfl (zz_ltn hn rfl) (by decide) (by decide) (zz_rc fS196 (zz_nc1 rfl) rfl (fun h => h) (zz_rc fS191 (zz_nc1 rfl) rfl (fun h => h) (zz_ro qS38 (fun h => absurd h.1 (by decide)) rfl))) ?_
                refine zz_if_ne (by omega) zd_14_62_102 (fun c201 => ?_) (fun c201 => ?_)
                · refine zz_aload_n (x := 1079) rfl zd_14_62_115 ?_
                  refine zz_bipush (by decide) zd_14_62_116 ?_
                  have g202 := zz_G.r G_S196 1079 34 0 200 rfl rfl
                  refine zz_callVV [zi 11] zd_14_62_118 zk_Md_393 zT_1079 (zz_ltn hn rfl) rfl rfl ⟨Nat.le_of_ble_eq_true rfl, Nat.le_of_ble_eq_true rfl⟩ ⟨rfl, rfl⟩ (Nat.zero_le _) (Nat.zero_le _) (zc_sayWord_14_58 11 S196 n hn G_S196 (by omega) (by omega)) (fun S203 hP => ?_)
                  obtain ⟨G_S203, fS203, o205, o206⟩ := hP
                  have F_S203 := zz_fr.trans F_S196 fS203 rfl zz_nv
                  refine zz_aload_n (x := 1079) rfl zd_14_62_121 ?_
                  refine zz_ldc2 (z := 32) zq_Md_327 (by decide) zd_14_62_122 ?_
                  have g207 := zz_G.r G_S203 1079 34 0 200 rfl rfl
                  refine zz_callVV [zl 32] zd_14_62_125 zk_Md_388 zT_1079 (zz_ltn hn rfl) rfl rfl ⟨Nat.le_of_ble_eq_true rfl, Nat.le_of_ble_eq_true rfl⟩ ⟨rfl, rfl⟩ (Nat.zero_le _) (Nat.zero_le _) (zc_say_14_57 32 S203 n hn G_S203 (by omega) (by omega)) (fun S208 hP => ?_)
                  obtain ⟨G_S208, fS208, o210, o211⟩ := hP
                  have F_S208 := zz_fr.trans F_S203 fS208 rfl zz_nv
                  refine zz_aload_n (x := 1079) rfl zd_14_62_128 ?_
                  refine zz_aload_n (x := 1079) rfl zd_14_62_129 ?_
                  refine zz_getr (kd := 0) (z := 1087) zd_14_62_130 zf_Md_36 zT_1079 rfl (zz_ltn hn rfl) (zz_G.eq G_S208 1079 11 1087 rfl rfl) (by decide) 1087 rfl ?_
                  refine zz_bipush (by decide) zd_14_62_133 ?_
                  refine zz_iald (z := S24 1087 6) zd_14_62_135 zT_1087 rfl (zz_ltn hn rfl) (by decide) (by decide) (zz_rc fS208 (zz_nc1 rfl) rfl (fun h => h) (zz_rc fS203 (zz_nc1 rfl) rfl (fun h => h) (zz_rc fS196 (zz_nc1 rfl) rfl (fun h => h) (zz_rc fS191 (zz_nc1 rfl) rfl (fun h => h) (zz_ro qS38 (fun h => absurd h.1 (by decide)) rfl))))) ?_
                  have g212 := zz_G.r G_S208 1079 34 0 200 rfl rfl
                  refine zz_callVV [zi (S24 1087 6)] zd_14_62_136 zk_Md_396 zT_1079 (zz_ltn hn rfl) rfl rfl ⟨Nat.le_of_ble_eq_true rfl, Nat.le_of_ble_eq_true rfl⟩ ⟨rfl, rfl⟩ (Nat.zero_le _) (Nat.zero_le _) (zc_sayNumber_14_59 (S24 1087 6) S208 n hn G_S208 (by omega) (by omega)) (fun S213 hP => ?_)
                  obtain ⟨G_S213, fS213, o215, o216, o217⟩ := hP
                  have F_S213 := zz_fr.trans F_S208 fS213 rfl zz_nv
                  refine zz_aload_n (x := 1079) rfl zd_14_62_139 ?_
                  refine zz_bipush (by decide) zd_14_62_140 ?_
                  have g218 := zz_G.r G_S213 1079 34 0 200 rfl rfl
                  refine zz_callVV [zi 12] zd_14_62_142 zk_Md_393 zT_1079 (zz_ltn hn rfl) rfl rfl ⟨Nat.le_of_ble_eq_true rfl, Nat.le_of_ble_eq_true rfl⟩ ⟨rfl, rfl⟩ (Nat.zero_le _) (Nat.zero_le _) (zc_sayWord_14_58 12 S213 n hn G_S213 (by omega) (by omega)) (fun S219 hP => ?_)
                  obtain ⟨G_S219, fS219, o221, o222⟩ := hP
                  have F_S219 := zz_fr.trans F_S213 fS219 rfl zz_nv
                  refine zz_aload_n (x := 1079) rfl zd_14_62_145 ?_
                  refine zz_ldc2 (z := 32) zq_Md_327 (by decide) zd_14_62_146 ?_
                  have g223 := zz_G.r G_S219 1079 34 0 200 rfl rfl
                  refine zz_callVV [zl 32] zd_14_62_149 zk_Md_388 zT_1079 (zz_ltn hn rfl) rfl rfl ⟨Nat.le_of_ble_eq_true rfl, Nat.le_of_ble_eq_true rfl⟩ ⟨rfl, rfl⟩ (Nat.zero_le _) (Nat.zero_le _) (zc_say_14_57 32 S219 n hn G_S219 (by omega) (by omega)) (fun S224 hP => ?_)
                  obtain ⟨G_S224, fS224, o226, o227⟩ := hP
                  have F_S224 := zz_fr.trans F_S219 fS224 rfl zz_nv
                  refine zz_aload_n (x := 1079) rfl zd_14_62_152 ?_
                  refine zz_aload_n (x := 1079) rfl zd_14_62_153 ?_
                  refine zz_getr (kd := 0) (z := 1087) zd_14_62_154 zf_Md_36 zT_1079 rfl (zz_ltn hn rfl) (zz_G.eq G_S224 1079 11 1087 rfl rfl) (by decide) 1087 rfl ?_
                  refine zz_bipush (by decide) zd_14_62_157 ?_
                  have g228 := zz_G.r G_S24 1087 7 (-2147483648) 2147483647 rfl rfl
                  refine zz_iald (z := S24 1087 7) zd_14_62_159 zT_1087 rfl (zz_ltn hn rfl) (by decide) (by decide) (zz_rc fS224 (zz_nc1 rfl) rfl (fun h => h) (zz_rc fS219 (zz_nc1 rfl) rfl (fun h => h) (zz_rc fS213 (zz_nc1 rfl) rfl (fun h => h) (zz_rc fS208 (zz_nc1 rfl) rfl (fun h => h) (zz_rc fS203 (zz_nc1 rfl) rfl (fun h => h) (zz_rc fS196 (zz_nc1 rfl) rfl (fun h => h) (zz_rc fS191 (zz_nc1 rfl) rfl (fun h => h) (zz_ro qS38 (fun h => absurd h.1 (by decide)) rfl)))))))) ?_
                  have g229 := zz_G.r G_S224 1079 34 0 200 rfl rfl
                  refine zz_callVV [zi (S24 1087 7)] zd_14_62_160 zk_Md_396 zT_1079 (zz_ltn hn rfl) rfl rfl ⟨Nat.le_of_ble_eq_true rfl, Nat.le_of_ble_eq_true rfl⟩ ⟨rfl, rfl⟩ (Nat.zero_le _) (Nat.zero_le _) (zc_sayNumber_14_59 (S24 1087 7) S224 n hn G_S224 (by omega) (by omega)) (fun S230 hP => ?_)
                  obtain ⟨G_S230, fS230, o232, o233, o234⟩ := hP
                  have F_S230 := zz_fr.trans F_S224 fS230 rfl zz_nv
                  refine zz_aload_n (x := 1079) rfl zd_14_62_163 ?_
                  refine zz_bipush (by decide) zd_14_62_164 ?_
                  refine zz_bipush (by decide) zd_14_62_166 ?_
                  have g235 := zz_G.r G_S230 1079 34 0 200 rfl rfl
                  refine zz_callVV [zi 13, zi 8] zd_14_62_168 zk_Md_401 zT_1079 (zz_ltn hn rfl) rfl rfl ⟨Nat.le_of_ble_eq_true rfl, Nat.le_of_ble_eq_true rfl⟩ ⟨rfl, rfl⟩ (Nat.zero_le _) (Nat.zero_le _) (zc_sayField_14_60 13 8 S230 n hn G_S230 (by omega) (by omega) (by omega)) (fun S236 hP => ?_)
                  obtain ⟨G_S236, fS236, o238, o239⟩ := hP
                  have F_S236 := zz_fr.trans F_S230 fS236 rfl zz_nv
                  refine zz_aload_n (x := 1079) rfl zd_14_62_171 ?_
                  refine zz_bipush (by decide) zd_14_62_172 ?_
                  refine zz_bipush (by decide) zd_14_62_174 ?_
                  have g240 := zz_G.r G_S236 1079 34 0 200 rfl rfl
                  refine zz_callVV [zi 14, zi 9] zd_14_62_176 zk_Md_401 zT_1079 (zz_ltn hn rfl) rfl rfl ⟨Nat.le_of_ble_eq_true rfl, Nat.le_of_ble_eq_true rfl⟩ ⟨rfl, rfl⟩ (Nat.zero_le _) (Nat.zero_le _) (zc_sayField_14_60 14 9 S236 n hn G_S236 (by omega) (by omega) (by omega)) (fun S241 hP => ?_)
                  obtain ⟨G_S241, fS241, o243, o244⟩ := hP
                  have F_S241 := zz_fr.trans F_S236 fS241 rfl zz_nv
                  refine zz_aload_n (x := 1079) rfl zd_14_62_179 ?_
                  refine zz_bipush (by decide) zd_14_62_180 ?_
                  refine zz_bipush (by decide) zd_14_62_182 ?_
                  have g245 := zz_G.r G_S241 1079 34 0 200 rfl rfl
                  refine zz_callVV [zi 15, zi 10] zd_14_62_184 zk_Md_401 zT_1079 (zz_ltn hn rfl) rfl rfl ⟨Nat.le_of_ble_eq_true rfl, Nat.le_of_ble_eq_true rfl⟩ ⟨rfl, rfl⟩ (Nat.zero_le _) (Nat.zero_le _) (zc_sayField_14_60 15 10 S241 n hn G_S241 (by omega) (by omega) (by omega)) (fun S246 hP => ?_)
                  obtain ⟨G_S246, fS246, o248, o249⟩ := hP
                  have F_S246 := zz_fr.trans F_S241 fS246 rfl zz_nv
                  refine zz_aload_n (x := 1079) rfl zd_14_62_187 ?_
                  refine zz_bipush (by decide) zd_14_62_188 ?_
                  refine zz_bipush (by decide) zd_14_62_190 ?_
                  have g250 := zz_G.r G_S246 1079 34 0 200 rfl rfl
                  refine zz_callVV [zi 16, zi 11] zd_14_62_192 zk_Md_401 zT_1079 (zz_ltn hn rfl) rfl rfl ⟨Nat.le_of_ble_eq_true rfl, Nat.le_of_ble_eq_true rfl⟩ ⟨rfl, rfl⟩ (Nat.zero_le _) (Nat.zero_le _) (zc_sayField_14_60 16 11 S246 n hn G_S246 (by omega) (by omega) (by omega)) (fun S251 hP => ?_)
                  obtain ⟨G_S251, fS251, o253, o254⟩ := hP
                  have F_S251 := zz_fr.trans F_S246 fS251 rfl zz_nv
                  refine zz_iconst zd_14_62_195 ?_
                  refine zz_istore_n [some (.ref 1079), some (zi p0), some (zi p1), some (zi 1)] zd_14_62_196 (by decide) rfl ?_
                  have g255 := zz_G.r G_S251 1079 34 0 200 rfl rfl
                  refine zz_less (ls1 := [some (.ref 1079), none, some (zi p1), some (zi 1)]) ⟨rfl, ⟨rfl, ⟨rfl, trivial⟩⟩⟩ ?_
                  exact k197 1 S251 G_S251 F_S251 (by omega) (by omega) (by omega) (by omega) (by omega) (by omega)
                · refine zz_aload_n (x := 1079) rfl zd_14_62_105 ?_
                  refine zz_getr (kd := 0) (z := 1087) zd_14_62_106 zf_Md_36 zT_1079 rfl (zz_ltn hn rfl) (zz_G.eq G_S196 1079 11 1087 rfl rfl) (by decide) 1087 rfl ?_
                  refine zz_bipush (by decide) zd_14_62_109 ?_
                  have g256 := zz_G.r G_S24 1087 7 (-2147483648) 2147483647 rfl rfl
                  refine zz_iald (z := S24 1087 7) zd_14_62_111 zT_1087 rfl (zz_ltn hn rfl) (by decide) (by decide) (zz_rc fS196 (zz_nc1 rfl) rfl (fun h => h) (zz_rc fS191 (zz_nc1 rfl) rfl (fun h => h) (zz_ro qS38 (fun h => absurd h.1 (by decide)) rfl))) ?_
                  refine zz_if_eq (by omega) zd_14_62_112 (fun c257 => ?_) (fun c257 => ?_)
                  · refine zz_aload_n (x := 1079) rfl zd_14_62_163 ?_
                    refine zz_bipush (by decide) zd_14_62_164 ?_
                    refine zz_bipush (by decide) zd_14_62_166 ?_
                    have g258 := zz_G.r G_S196 1079 34 0 200 rfl rfl
                    refine zz_callVV [zi 13, zi 8] zd_14_62_168 zk_Md_401 zT_1079 (zz_ltn hn rfl) rfl rfl ⟨Nat.le_of_ble_eq_true rfl, Nat.le_of_ble_eq_true rfl⟩ ⟨rfl, rfl⟩ (Nat.zero_le _) (Nat.zero_le _) (zc_sayField_14_60 13 8 S196 n hn G_S196 (by omega) (by omega) (by omega)) (fun S259 hP => ?_)
                    obtain ⟨G_S259, fS259, o261, o262⟩ := hP
                    have F_S259 := zz_fr.trans F_S196 fS259 rfl zz_nv
                    refine zz_aload_n (x := 1079) rfl zd_14_62_171 ?_
                    refine zz_bipush (by decide) zd_14_62_172 ?_
                    refine zz_bipush (by decide) zd_14_62_174 ?_
                    have g263 := zz_G.r G_S259 1079 34 0 200 rfl rfl
                    refine zz_callVV [zi 14, zi 9] zd_14_62_176 zk_Md_401 zT_1079 (zz_ltn hn rfl) rfl rfl ⟨Nat.le_of_ble_eq_true rfl, Nat.le_of_ble_eq_true rfl⟩ ⟨rfl, rfl⟩ (Nat.zero_le _) (Nat.zero_le _) (zc_sayField_14_60 14 9 S259 n hn G_S259 (by omega) (by omega) (by omega)) (fun S264 hP => ?_)
                    obtain ⟨G_S264, fS264, o266, o267⟩ := hP
                    have F_S264 := zz_fr.trans F_S259 fS264 rfl zz_nv
                    refine zz_aload_n (x := 1079) rfl zd_14_62_179 ?_
                    refine zz_bipush (by decide) zd_14_62_180 ?_
                    refine zz_bipush (by decide) zd_14_62_182 ?_
                    have g268 := zz_G.r G_S264 1079 34 0 200 rfl rfl
                    refine zz_callVV [zi 15, zi 10] zd_14_62_184 zk_Md_401 zT_1079 (zz_ltn hn rfl) rfl rfl ⟨Nat.le_of_ble_eq_true rfl, Nat.le_of_ble_eq_true rfl⟩ ⟨rfl, rfl⟩ (Nat.zero_le _) (Nat.zero_le _) (zc_sayField_14_60 15 10 S264 n hn G_S264 (by omega) (by omega) (by omega)) (fun S269 hP => ?_)
                    obtain ⟨G_S269, fS269, o271, o272⟩ := hP
                    have F_S269 := zz_fr.trans F_S264 fS269 rfl zz_nv
                    refine zz_aload_n (x := 1079) rfl zd_14_62_187 ?_
                    refine zz_bipush (by decide) zd_14_62_188 ?_
                    refine zz_bipush (by decide) zd_14_62_190 ?_
                    have g273 := zz_G.r G_S269 1079 34 0 200 rfl rfl
                    refine zz_callVV [zi 16, zi 11] zd_14_62_192 zk_Md_401 zT_1079 (zz_ltn hn rfl) rfl rfl ⟨Nat.le_of_ble_eq_true rfl, Nat.le_of_ble_eq_true rfl⟩ ⟨rfl, rfl⟩ (Nat.zero_le _) (Nat.zero_le _) (zc_sayField_14_60 16 11 S269 n hn G_S269 (by omega) (by omega) (by omega)) (fun S274 hP => ?_)
                    obtain ⟨G_S274, fS274, o276, o277⟩ := hP
                    have F_S274 := zz_fr.trans F_S269 fS274 rfl zz_nv
                    refine zz_iconst zd_14_62_195 ?_
                    refine zz_istore_n [some (.ref 1079), some (zi p0), some (zi p1), some (zi 1)] zd_14_62_196 (by decide) rfl ?_
                    have g278 := zz_G.r G_S274 1079 34 0 200 rfl rfl
                    refine zz_less (ls1 := [some (.ref 1079), none, some (zi p1), some (zi 1)]) ⟨rfl, ⟨rfl, ⟨rfl, trivial⟩⟩⟩ ?_
                    exact k197 1 S274 G_S274 F_S274 (by omega) (by omega) (by omega) (by omega) (by omega) (by omega)
                  · refine zz_aload_n (x := 1079) rfl zd_14_62_115 ?_
                    refine zz_bipush (by decide) zd_14_62_116 ?_
                    have g279 := zz_G.r G_S196 1079 34 0 200 rfl rfl
                    refine zz_callVV [zi 11] zd_14_62_118 zk_Md_393 zT_1079 (zz_ltn hn rfl) rfl rfl ⟨Nat.le_of_ble_eq_true rfl, Nat.le_of_ble_eq_true rfl⟩ ⟨rfl, rfl⟩ (Nat.zero_le _) (Nat.zero_le _) (zc_sayWord_14_58 11 S196 n hn G_S196 (by omega) (by omega)) (fun S280 hP => ?_)
                    obtain ⟨G_S280, fS280, o282, o283⟩ := hP
                    have F_S280 := zz_fr.trans F_S196 fS280 rfl zz_nv
                    refine zz_aload_n (x := 1079) rfl zd_14_62_121 ?_
                    refine zz_ldc2 (z := 32) zq_Md_327 (by decide) zd_14_62_122 ?_
                    have g284 := zz_G.r G_S280 1079 34 0 200 rfl rfl
                    refine zz_callVV [zl 32] zd_14_62_125 zk_Md_388 zT_1079 (zz_ltn hn rfl) rfl rfl ⟨Nat.le_of_ble_eq_true rfl, Nat.le_of_ble_eq_true rfl⟩ ⟨rfl, rfl⟩ (Nat.zero_le _) (Nat.zero_le _) (zc_say_14_57 32 S280 n hn G_S280 (by omega) (by omega)) (fun S285 hP => ?_)
                    obtain ⟨G_S285, fS285, o287, o288⟩ := hP
                    have F_S285 := zz_fr.trans F_S280 fS285 rfl zz_nv
                    refine zz_aload_n (x := 1079) rfl zd_14_62_128 ?_
                    refine zz_aload_n (x := 1079) rfl zd_14_62_129 ?_
                    refine zz_getr (kd := 0) (z := 1087) zd_14_62_130 zf_Md_36 zT_1079 rfl (zz_ltn hn rfl) (zz_G.eq G_S285 1079 11 1087 rfl rfl) (by decide) 1087 rfl ?_
                    refine zz_bipush (by decide) zd_14_62_133 ?_
                    refine zz_iald (z := S24 1087 6) zd_14_62_135 zT_1087 rfl (zz_ltn hn rfl) (by decide) (by decide) (zz_rc fS285 (zz_nc1 rfl) rfl (fun h => h) (zz_rc fS280 (zz_nc1 rfl) rfl (fun h => h) (zz_rc fS196 (zz_nc1 rfl) rfl (fun h => h) (zz_rc fS191 (zz_nc1 rfl) rfl (fun h => h) (zz_ro qS38 (fun h => absurd h.1 (by decide)) rfl))))) ?_
                    have g289 := zz_G.r G_S285 1079 34 0 200 rfl rfl
                    refine zz_callVV [zi (S24 1087 6)] zd_14_62_136 zk_Md_396 zT_1079 (zz_ltn hn rfl) rfl rfl ⟨Nat.le_of_ble_eq_true rfl, Nat.le_of_ble_eq_true rfl⟩ ⟨rfl, rfl⟩ (Nat.zero_le _) (Nat.zero_le _) (zc_sayNumber_14_59 (S24 1087 6) S285 n hn G_S285 (by omega) (by omega)) (fun S290 hP => ?_)
                    obtain ⟨G_S290, fS290, o292, o293, o294⟩ := hP
                    have F_S290 := zz_fr.trans F_S285 fS290 rfl zz_nv
                    refine zz_aload_n (x := 1079) rfl zd_14_62_139 ?_
                    refine zz_bipush (by decide) zd_14_62_140 ?_
                    have g295 := zz_G.r G_S290 1079 34 0 200 rfl rfl
                    refine zz_callVV [zi 12] zd_14_62_142 zk_Md_393 zT_1079 (zz_ltn hn rfl) rfl rfl ⟨Nat.le_of_ble_eq_true rfl, Nat.le_of_ble_eq_true rfl⟩ ⟨rfl, rfl⟩ (Nat.zero_le _) (Nat.zero_le _) (zc_sayWord_14_58 12 S290 n hn G_S290 (by omega) (by omega)) (fun S296 hP => ?_)
                    obtain ⟨G_S296, fS296, o298, o299⟩ := hP
                    have F_S296 := zz_fr.trans F_S290 fS296 rfl zz_nv
                    refine zz_aload_n (x := 1079) rfl zd_14_62_145 ?_
                    refine zz_ldc2 (z := 32) zq_Md_327 (by decide) zd_14_62_146 ?_
                    have g300 := zz_G.r G_S296 1079 34 0 200 rfl rfl
                    refine zz_callVV [zl 32] zd_14_62_149 zk_Md_388 zT_1079 (zz_ltn hn rfl) rfl rfl ⟨Nat.le_of_ble_eq_true rfl, Nat.le_of_ble_eq_true rfl⟩ ⟨rfl, rfl⟩ (Nat.zero_le _) (Nat.zero_le _) (zc_say_14_57 32 S296 n hn G_S296 (by omega) (by omega)) (fun S301 hP => ?_)
                    obtain ⟨G_S301, fS301, o303, o304⟩ := hP
                    have F_S301 := zz_fr.trans F_S296 fS301 rfl zz_nv
                    refine zz_aload_n (x := 1079) rfl zd_14_62_152 ?_
                    refine zz_aload_n (x := 1079) rfl zd_14_62_153 ?_
                    refine zz_getr (kd := 0) (z := 1087) zd_14_62_154 zf_Md_36 zT_1079 rfl (zz_ltn hn rfl) (zz_G.eq G_S301 1079 11 1087 rfl rfl) (by decide) 1087 rfl ?_
                    refine zz_bipush (by decide) zd_14_62_157 ?_
                    refine zz_iald (z := S24 1087 7) zd_14_62_159 zT_1087 rfl (zz_ltn hn rfl) (by decide) (by decide) (zz_rc fS301 (zz_nc1 rfl) rfl (fun h => h) (zz_rc fS296 (zz_nc1 rfl) rfl (fun h => h) (zz_rc fS290 (zz_nc1 rfl) rfl (fun h => h) (zz_rc fS285 (zz_nc1 rfl) rfl (fun h => h) (zz_rc fS280 (zz_nc1 rfl) rfl (fun h => h) (zz_rc fS196 (zz_nc1 rfl) rfl (fun h => h) (zz_rc fS191 (zz_nc1 rfl) rfl (fun h => h) (zz_ro qS38 (fun h => absurd h.1 (by decide)) rfl)))))))) ?_
                    have g305 := zz_G.r G_S301 1079 34 0 200 rfl rfl
                    refine zz_callVV [zi (S24 1087 7)] zd_14_62_160 zk_Md_396 zT_1079 (zz_ltn hn rfl) rfl rfl ⟨Nat.le_of_ble_eq_true rfl, Nat.le_of_ble_eq_true rfl⟩ ⟨rfl, rfl⟩ (Nat.zero_le _) (Nat.zero_le _) (zc_sayNumber_14_59 (S24 1087 7) S301 n hn G_S301 (by omega) (by omega)) (fun S306 hP => ?_)
                    obtain ⟨G_S306, fS306, o308, o309, o310⟩ := hP
                    have F_S306 := zz_fr.trans F_S301 fS306 rfl zz_nv
                    refine zz_aload_n (x := 1079) rfl zd_14_62_163 ?_
                    refine zz_bipush (by decide) zd_14_62_164 ?_
                    refine zz_bipush (by decide) zd_14_62_166 ?_
                    have g311 := zz_G.r G_S306 1079 34 0 200 rfl rfl
                    refine zz_callVV [zi 13, zi 8] zd_14_62_168 zk_Md_401 zT_1079 (zz_ltn hn rfl) rfl rfl ⟨Nat.le_of_ble_eq_true rfl, Nat.le_of_ble_eq_true rfl⟩ ⟨rfl, rfl⟩ (Nat.zero_le _) (Nat.zero_le _) (zc_sayField_14_60 13 8 S306 n hn G_S306 (by omega) (by omega) (by omega)) (fun S312 hP => ?_)
                    obtain ⟨G_S312, fS312, o314, o315⟩ := hP
                    have F_S312 := zz_fr.trans F_S306 fS312 rfl zz_nv
                    refine zz_aload_n (x := 1079) rfl zd_14_62_171 ?_
                    refine zz_bipush (by decide) zd_14_62_172 ?_
                    refine zz_bipush (by decide) zd_14_62_174 ?_
                    have g316 := zz_G.r G_S312 1079 34 0 200 rfl rfl
                    refine zz_callVV [zi 14, zi 9] zd_14_62_176 zk_Md_401 zT_1079 (zz_ltn hn rfl) rfl rfl ⟨Nat.le_of_ble_eq_true rfl, Nat.le_of_ble_eq_true rfl⟩ ⟨rfl, rfl⟩ (Nat.zero_le _) (Nat.zero_le _) (zc_sayField_14_60 14 9 S312 n hn G_S312 (by omega) (by omega) (by omega)) (fun S317 hP => ?_)
                    obtain ⟨G_S317, fS317, o319, o320⟩ := hP
                    have F_S317 := zz_fr.trans F_S312 fS317 rfl zz_nv
                    refine zz_aload_n (x := 1079) rfl zd_14_62_179 ?_
                    refine zz_bipush (by decide) zd_14_62_180 ?_
                    refine zz_bipush (by decide) zd_14_62_182 ?_
                    have g321 := zz_G.r G_S317 1079 34 0 200 rfl rfl
                    refine zz_callVV [zi 15, zi 10] zd_14_62_184 zk_Md_401 zT_1079 (zz_ltn hn rfl) rfl rfl ⟨Nat.le_of_ble_eq_true rfl, Nat.le_of_ble_eq_true rfl⟩ ⟨rfl, rfl⟩ (Nat.zero_le _) (Nat.zero_le _) (zc_sayField_14_60 15 10 S317 n hn G_S317 (by omega) (by omega) (by omega)) (fun S322 hP => ?_)
                    obtain ⟨G_S322, fS322, o324, o325⟩ := hP
                    have F_S322 := zz_fr.trans F_S317 fS322 rfl zz_nv
                    refine zz_aload_n (x := 1079) rfl zd_14_62_187 ?_
                    refine zz_bipush (by decide) zd_14_62_188 ?_
                    refine zz_bipush (by decide) zd_14_62_190 ?_
                    have g326 := zz_G.r G_S322 1079 34 0 200 rfl rfl
                    refine zz_callVV [zi 16, zi 11] zd_14_62_192 zk_Md_401 zT_1079 (zz_ltn hn rfl) rfl rfl ⟨Nat.le_of_ble_eq_true rfl, Nat.le_of_ble_eq_true rfl⟩ ⟨rfl, rfl⟩ (Nat.zero_le _) (Nat.zero_le _) (zc_sayField_14_60 16 11 S322 n hn G_S322 (by omega) (by omega) (by omega)) (fun S327 hP => ?_)
                    obtain ⟨G_S327, fS327, o329, o330⟩ := hP
                    have F_S327 := zz_fr.trans F_S322 fS327 rfl zz_nv
                    refine zz_iconst zd_14_62_195 ?_
                    refine zz_istore_n [some (.ref 1079), some (zi p0), some (zi p1), some (zi 1)] zd_14_62_196 (by decide) rfl ?_
                    have g331 := zz_G.r G_S327 1079 34 0 200 rfl rfl
                    refine zz_less (ls1 := [some (.ref 1079), none, some (zi p1), some (zi 1)]) ⟨rfl, ⟨rfl, ⟨rfl, trivial⟩⟩⟩ ?_
                    exact k197 1 S327 G_S327 F_S327 (by omega) (by omega) (by omega) (by omega) (by omega) (by omega)
          · exfalso; omega
        · exfalso; omega
      · refine zz_iconst zd_14_62_21 ?_
        refine zz_goto zd_14_62_22 ?_
        refine zz_iconst zd_14_62_26 ?_
        refine zz_iconst zd_14_62_27 ?_
        refine zz_callVI [zi 1, zi 0, zi 0] zd_14_62_28 zk_Md_196 zT_1079 (zz_ltn hn rfl) rfl rfl ⟨Nat.le_of_ble_eq_true rfl, Nat.le_of_ble_eq_true rfl⟩ ⟨rfl, rfl⟩ (Nat.zero_le _) (Nat.zero_le _) (zc_refuse_14_3 1 0 0 S0 n hn G_S0 (by omega) (by omega) (by omega)) (fun v333 S332 hP => ?_)
        obtain ⟨G_S332, fS332, o334, o335⟩ := hP
        have F_S332 := zz_fr.trans F_S0 fS332 rfl zz_nv
        rcases (by omega : v333 = 0 ∨ v333 = 1) with rfl | rfl
        · exfalso; omega
        · have e336 : S332 1079 0 = 1 := by omega
          clear o335
          refine zz_if_eq (by omega) zd_14_62_31 (fun c337 => ?_) (fun c337 => ?_)
          · exfalso; omega
          · refine zz_iconst zd_14_62_34 ?_
            exact zz_iret zd_14_62_35 rfl (Nat.zero_le _) (Nat.zero_le _) ⟨_, _, rfl, G_S332, F_S332, by omega⟩
abbrev zy_input_14_63 : mm_Y := (⟨"TensorForgeModel", "input", "(III)V"⟩, prog_14_method_63_code, 5, none)
theorem zyw_input_14_63 : mm_Yw zy_input_14_63 3 := ⟨mm_tb_1 2076 (by decide +kernel) rfl, mm_tb_1 12 (by decide +kernel) rfl, ⟨by decide, by decide⟩, by decide +kernel⟩
theorem zq_Md_409 : Cond.constantLong "TensorForgeModel" 409 (2048 : Int64) ∈ mm_tb := mm_tb_1 2077 (by decide +kernel) rfl
theorem zk_Md_183 : mm_Vl "TensorForgeModel" 183 11 3 zy_form_14_5 := ⟨zyw_form_14_5, (R_Md, F_Md, 69), rfl, mm_tb_1 1607 (by decide +kernel) rfl, mm_tb_1 1609 (by decide +kernel) rfl, mm_tb_s 85 (by decide +kernel) rfl⟩
theorem zg_14_63_0 : zq_at zy_input_14_63.2.1 0 27 ∧ zq_at zy_input_14_63.2.1 1 133 ∧ zq_at zy_input_14_63.2.1 2 10 ∧ zq_at zy_input_14_63.2.1 3 20 ∧ zq_at zy_input_14_63.2.1 4 1 ∧ zq_at zy_input_14_63.2.1 5 143 ∧ zq_at zy_input_14_63.2.1 6 184 ∧ zq_at zy_input_14_63.2.1 7 0 ∧ zq_at zy_input_14_63.2.1 8 192 ∧ zq_at zy_input_14_63.2.1 9 153 ∧ zq_at zy_input_14_63.2.1 10 0 ∧ zq_at zy_input_14_63.2.1 11 46 ∧ zq_at zy_input_14_63.2.1 55 3 ∧ zq_at zy_input_14_63.2.1 56 54 ∧ zq_at zy_input_14_63.2.1 57 4 ∧ zq_at zy_input_14_63.2.1 58 42 ∧ zq_at zy_input_14_63.2.1 59 21 ∧ zq_at zy_input_14_63.2.1 60 4 ∧ zq_at zy_input_14_63.2.1 61 154 ∧ zq_at zy_input_14_63.2.1 62 0 ∧ zq_at zy_input_14_63.2.1 63 7 ∧ zq_at zy_input_14_63.2.1 64 4 := by decide +kernel
theorem zd_14_63_0 : zz_D zy_input_14_63 0 (.iload_n 1) 1 1 := ⟨zq_27 zg_14_63_0.1, rfl⟩
theorem zd_14_63_1 : zz_D zy_input_14_63 1 (.i2l) 1 2 := ⟨zq_133 zg_14_63_0.2.1, rfl⟩
theorem zd_14_63_2 : zz_D zy_input_14_63 2 (.lconst 1) 1 3 := ⟨zq_10 zg_14_63_0.2.2.1, rfl⟩
theorem zd_14_63_3 : zz_D zy_input_14_63 3 (.ldc2_w 399) 3 6 := ⟨zq_20 zg_14_63_0.2.2.2.1 zg_14_63_0.2.2.2.2.1 zg_14_63_0.2.2.2.2.2.1 rfl, rfl⟩
theorem zd_14_63_6 : zz_D zy_input_14_63 6 (.invokestatic 192) 3 9 := ⟨zq_184 zg_14_63_0.2.2.2.2.2.2.1 zg_14_63_0.2.2.2.2.2.2.2.1 zg_14_63_0.2.2.2.2.2.2.2.2.1 rfl, rfl⟩
theorem zd_14_63_9 : zz_B zy_input_14_63 9 (Instr.ifCond .eq) 55 12 := ⟨46, zq_153 zg_14_63_0.2.2.2.2.2.2.2.2.2.1 zg_14_63_0.2.2.2.2.2.2.2.2.2.2.1 zg_14_63_0.2.2.2.2.2.2.2.2.2.2.2.1 (by decide), rfl, rfl⟩
theorem zd_14_63_55 : zz_D zy_input_14_63 55 (.iconst 0) 1 56 := ⟨zq_3 zg_14_63_0.2.2.2.2.2.2.2.2.2.2.2.2.1, rfl⟩
theorem zd_14_63_56 : zz_D zy_input_14_63 56 (.istore 4) 2 58 := ⟨zq_54 zg_14_63_0.2.2.2.2.2.2.2.2.2.2.2.2.2.1 zg_14_63_0.2.2.2.2.2.2.2.2.2.2.2.2.2.2.1, rfl⟩
theorem zd_14_63_58 : zz_D zy_input_14_63 58 (.aload_n 0) 1 59 := ⟨zq_42 zg_14_63_0.2.2.2.2.2.2.2.2.2.2.2.2.2.2.2.1, rfl⟩
theorem zd_14_63_59 : zz_D zy_input_14_63 59 (.iload 4) 2 61 := ⟨zq_21 zg_14_63_0.2.2.2.2.2.2.2.2.2.2.2.2.2.2.2.2.1 zg_14_63_0.2.2.2.2.2.2.2.2.2.2.2.2.2.2.2.2.2.1, rfl⟩
theorem zd_14_63_61 : zz_B zy_input_14_63 61 (Instr.ifCond .ne) 68 64 := ⟨7, zq_154 zg_14_63_0.2.2.2.2.2.2.2.2.2.2.2.2.2.2.2.2.2.2.1 zg_14_63_0.2.2.2.2.2.2.2.2.2.2.2.2.2.2.2.2.2.2.2.1 zg_14_63_0.2.2.2.2.2.2.2.2.2.2.2.2.2.2.2.2.2.2.2.2.1 (by decide), rfl, rfl⟩
theorem zd_14_63_64 : zz_D zy_input_14_63 64 (.iconst 1) 1 65 := ⟨zq_4 zg_14_63_0.2.2.2.2.2.2.2.2.2.2.2.2.2.2.2.2.2.2.2.2.2, rfl⟩
theorem zg_14_63_65 : zq_at zy_input_14_63.2.1 65 167 ∧ zq_at zy_input_14_63.2.1 66 0 ∧ zq_at zy_input_14_63.2.1 67 4 ∧ zq_at zy_input_14_63.2.1 69 3 ∧ zq_at zy_input_14_63.2.1 70 3 ∧ zq_at zy_input_14_63.2.1 71 182 ∧ zq_at zy_input_14_63.2.1 72 0 ∧ zq_at zy_input_14_63.2.1 73 196 ∧ zq_at zy_input_14_63.2.1 74 154 ∧ zq_at zy_input_14_63.2.1 75 0 ∧ zq_at zy_input_14_63.2.1 76 10 ∧ zq_at zy_input_14_63.2.1 84 177 ∧ zq_at zy_input_14_63.2.1 12 28 ∧ zq_at zy_input_14_63.2.1 13 133 ∧ zq_at zy_input_14_63.2.1 14 10 ∧ zq_at zy_input_14_63.2.1 15 20 ∧ zq_at zy_input_14_63.2.1 16 1 ∧ zq_at zy_input_14_63.2.1 17 143 ∧ zq_at zy_input_14_63.2.1 18 184 ∧ zq_at zy_input_14_63.2.1 19 0 ∧ zq_at zy_input_14_63.2.1 20 192 ∧ zq_at zy_input_14_63.2.1 21 153 ∧ zq_at zy_input_14_63.2.1 22 0 ∧ zq_at zy_input_14_63.2.1 23 34 := by decide +kernel
theorem zd_14_63_65 : zz_B zy_input_14_63 65 Instr.goto 69 68 := ⟨4, zq_167 zg_14_63_65.1 zg_14_63_65.2.1 zg_14_63_65.2.2.1 (by decide), rfl, rfl⟩
theorem zd_14_63_69 : zz_D zy_input_14_63 69 (.iconst 0) 1 70 := ⟨zq_3 zg_14_63_65.2.2.2.1, rfl⟩
theorem zd_14_63_70 : zz_D zy_input_14_63 70 (.iconst 0) 1 71 := ⟨zq_3 zg_14_63_65.2.2.2.2.1, rfl⟩
theorem zd_14_63_71 : zz_D zy_input_14_63 71 (.invokevirtual 196) 3 74 := ⟨zq_182 zg_14_63_65.2.2.2.2.2.1 zg_14_63_65.2.2.2.2.2.2.1 zg_14_63_65.2.2.2.2.2.2.2.1 rfl, rfl⟩
theorem zd_14_63_74 : zz_B zy_input_14_63 74 (Instr.ifCond .ne) 84 77 := ⟨10, zq_154 zg_14_63_65.2.2.2.2.2.2.2.2.1 zg_14_63_65.2.2.2.2.2.2.2.2.2.1 zg_14_63_65.2.2.2.2.2.2.2.2.2.2.1 (by decide), rfl, rfl⟩
theorem zd_14_63_84 : zz_D zy_input_14_63 84 (.return_) 1 85 := ⟨zq_177 zg_14_63_65.2.2.2.2.2.2.2.2.2.2.2.1, rfl⟩
theorem zd_14_63_12 : zz_D zy_input_14_63 12 (.iload_n 2) 1 13 := ⟨zq_28 zg_14_63_65.2.2.2.2.2.2.2.2.2.2.2.2.1, rfl⟩
theorem zd_14_63_13 : zz_D zy_input_14_63 13 (.i2l) 1 14 := ⟨zq_133 zg_14_63_65.2.2.2.2.2.2.2.2.2.2.2.2.2.1, rfl⟩
theorem zd_14_63_14 : zz_D zy_input_14_63 14 (.lconst 1) 1 15 := ⟨zq_10 zg_14_63_65.2.2.2.2.2.2.2.2.2.2.2.2.2.2.1, rfl⟩
theorem zd_14_63_15 : zz_D zy_input_14_63 15 (.ldc2_w 399) 3 18 := ⟨zq_20 zg_14_63_65.2.2.2.2.2.2.2.2.2.2.2.2.2.2.2.1 zg_14_63_65.2.2.2.2.2.2.2.2.2.2.2.2.2.2.2.2.1 zg_14_63_65.2.2.2.2.2.2.2.2.2.2.2.2.2.2.2.2.2.1 rfl, rfl⟩
theorem zd_14_63_18 : zz_D zy_input_14_63 18 (.invokestatic 192) 3 21 := ⟨zq_184 zg_14_63_65.2.2.2.2.2.2.2.2.2.2.2.2.2.2.2.2.2.2.1 zg_14_63_65.2.2.2.2.2.2.2.2.2.2.2.2.2.2.2.2.2.2.2.1 zg_14_63_65.2.2.2.2.2.2.2.2.2.2.2.2.2.2.2.2.2.2.2.2.1 rfl, rfl⟩
theorem zd_14_63_21 : zz_B zy_input_14_63 21 (Instr.ifCond .eq) 55 24 := ⟨34, zq_153 zg_14_63_65.2.2.2.2.2.2.2.2.2.2.2.2.2.2.2.2.2.2.2.2.2.1 zg_14_63_65.2.2.2.2.2.2.2.2.2.2.2.2.2.2.2.2.2.2.2.2.2.2.1 zg_14_63_65.2.2.2.2.2.2.2.2.2.2.2.2.2.2.2.2.2.2.2.2.2.2.2 (by decide), rfl, rfl⟩
theorem zg_14_63_24 : zq_at zy_input_14_63.2.1 24 29 ∧ zq_at zy_input_14_63.2.1 25 133 ∧ zq_at zy_input_14_63.2.1 26 10 ∧ zq_at zy_input_14_63.2.1 27 20 ∧ zq_at zy_input_14_63.2.1 28 1 ∧ zq_at zy_input_14_63.2.1 29 143 ∧ zq_at zy_input_14_63.2.1 30 184 ∧ zq_at zy_input_14_63.2.1 31 0 ∧ zq_at zy_input_14_63.2.1 32 192 ∧ zq_at zy_input_14_63.2.1 33 153 ∧ zq_at zy_input_14_63.2.1 34 0 ∧ zq_at zy_input_14_63.2.1 35 22 ∧ zq_at zy_input_14_63.2.1 36 27 ∧ zq_at zy_input_14_63.2.1 37 133 ∧ zq_at zy_input_14_63.2.1 38 28 ∧ zq_at zy_input_14_63.2.1 39 133 ∧ zq_at zy_input_14_63.2.1 40 105 ∧ zq_at zy_input_14_63.2.1 41 29 ∧ zq_at zy_input_14_63.2.1 42 133 ∧ zq_at zy_input_14_63.2.1 43 105 ∧ zq_at zy_input_14_63.2.1 44 20 ∧ zq_at zy_input_14_63.2.1 45 1 ∧ zq_at zy_input_14_63.2.1 46 153 ∧ zq_at zy_input_14_63.2.1 47 148 := by decide +kernel
theorem zd_14_63_24 : zz_D zy_input_14_63 24 (.iload_n 3) 1 25 := ⟨zq_29 zg_14_63_24.1, rfl⟩
theorem zd_14_63_25 : zz_D zy_input_14_63 25 (.i2l) 1 26 := ⟨zq_133 zg_14_63_24.2.1, rfl⟩
theorem zd_14_63_26 : zz_D zy_input_14_63 26 (.lconst 1) 1 27 := ⟨zq_10 zg_14_63_24.2.2.1, rfl⟩
theorem zd_14_63_27 : zz_D zy_input_14_63 27 (.ldc2_w 399) 3 30 := ⟨zq_20 zg_14_63_24.2.2.2.1 zg_14_63_24.2.2.2.2.1 zg_14_63_24.2.2.2.2.2.1 rfl, rfl⟩
theorem zd_14_63_30 : zz_D zy_input_14_63 30 (.invokestatic 192) 3 33 := ⟨zq_184 zg_14_63_24.2.2.2.2.2.2.1 zg_14_63_24.2.2.2.2.2.2.2.1 zg_14_63_24.2.2.2.2.2.2.2.2.1 rfl, rfl⟩
theorem zd_14_63_33 : zz_B zy_input_14_63 33 (Instr.ifCond .eq) 55 36 := ⟨22, zq_153 zg_14_63_24.2.2.2.2.2.2.2.2.2.1 zg_14_63_24.2.2.2.2.2.2.2.2.2.2.1 zg_14_63_24.2.2.2.2.2.2.2.2.2.2.2.1 (by decide), rfl, rfl⟩
theorem zd_14_63_36 : zz_D zy_input_14_63 36 (.iload_n 1) 1 37 := ⟨zq_27 zg_14_63_24.2.2.2.2.2.2.2.2.2.2.2.2.1, rfl⟩
theorem zd_14_63_37 : zz_D zy_input_14_63 37 (.i2l) 1 38 := ⟨zq_133 zg_14_63_24.2.2.2.2.2.2.2.2.2.2.2.2.2.1, rfl⟩
theorem zd_14_63_38 : zz_D zy_input_14_63 38 (.iload_n 2) 1 39 := ⟨zq_28 zg_14_63_24.2.2.2.2.2.2.2.2.2.2.2.2.2.2.1, rfl⟩
theorem zd_14_63_39 : zz_D zy_input_14_63 39 (.i2l) 1 40 := ⟨zq_133 zg_14_63_24.2.2.2.2.2.2.2.2.2.2.2.2.2.2.2.1, rfl⟩
theorem zd_14_63_40 : zz_D zy_input_14_63 40 (.lmul) 1 41 := ⟨zq_105 zg_14_63_24.2.2.2.2.2.2.2.2.2.2.2.2.2.2.2.2.1, rfl⟩
theorem zd_14_63_41 : zz_D zy_input_14_63 41 (.iload_n 3) 1 42 := ⟨zq_29 zg_14_63_24.2.2.2.2.2.2.2.2.2.2.2.2.2.2.2.2.2.1, rfl⟩
theorem zd_14_63_42 : zz_D zy_input_14_63 42 (.i2l) 1 43 := ⟨zq_133 zg_14_63_24.2.2.2.2.2.2.2.2.2.2.2.2.2.2.2.2.2.2.1, rfl⟩
theorem zd_14_63_43 : zz_D zy_input_14_63 43 (.lmul) 1 44 := ⟨zq_105 zg_14_63_24.2.2.2.2.2.2.2.2.2.2.2.2.2.2.2.2.2.2.2.1, rfl⟩
theorem zd_14_63_44 : zz_D zy_input_14_63 44 (.ldc2_w 409) 3 47 := ⟨zq_20 zg_14_63_24.2.2.2.2.2.2.2.2.2.2.2.2.2.2.2.2.2.2.2.2.1 zg_14_63_24.2.2.2.2.2.2.2.2.2.2.2.2.2.2.2.2.2.2.2.2.2.1 zg_14_63_24.2.2.2.2.2.2.2.2.2.2.2.2.2.2.2.2.2.2.2.2.2.2.1 rfl, rfl⟩
theorem zd_14_63_47 : zz_D zy_input_14_63 47 (.lcmp) 1 48 := ⟨zq_148 zg_14_63_24.2.2.2.2.2.2.2.2.2.2.2.2.2.2.2.2.2.2.2.2.2.2.2, rfl⟩
theorem zg_14_63_48 : zq_at zy_input_14_63.2.1 48 157 ∧ zq_at zy_input_14_63.2.1 49 0 ∧ zq_at zy_input_14_63.2.1 50 7 ∧ zq_at zy_input_14_63.2.1 51 4 ∧ zq_at zy_input_14_63.2.1 52 167 ∧ zq_at zy_input_14_63.2.1 53 0 ∧ zq_at zy_input_14_63.2.1 54 4 ∧ zq_at zy_input_14_63.2.1 68 3 ∧ zq_at zy_input_14_63.2.1 77 42 ∧ zq_at zy_input_14_63.2.1 78 27 ∧ zq_at zy_input_14_63.2.1 79 28 ∧ zq_at zy_input_14_63.2.1 80 29 ∧ zq_at zy_input_14_63.2.1 81 182 ∧ zq_at zy_input_14_63.2.1 82 0 ∧ zq_at zy_input_14_63.2.1 83 183 := by decide +kernel
theorem zd_14_63_48 : zz_B zy_input_14_63 48 (Instr.ifCond .gt) 55 51 := ⟨7, zq_157 zg_14_63_48.1 zg_14_63_48.2.1 zg_14_63_48.2.2.1 (by decide), rfl, rfl⟩
theorem zd_14_63_51 : zz_D zy_input_14_63 51 (.iconst 1) 1 52 := ⟨zq_4 zg_14_63_48.2.2.2.1, rfl⟩
theorem zd_14_63_52 : zz_B zy_input_14_63 52 Instr.goto 56 55 := ⟨4, zq_167 zg_14_63_48.2.2.2.2.1 zg_14_63_48.2.2.2.2.2.1 zg_14_63_48.2.2.2.2.2.2.1 (by decide), rfl, rfl⟩
theorem zd_14_63_68 : zz_D zy_input_14_63 68 (.iconst 0) 1 69 := ⟨zq_3 zg_14_63_48.2.2.2.2.2.2.2.1, rfl⟩
theorem zd_14_63_77 : zz_D zy_input_14_63 77 (.aload_n 0) 1 78 := ⟨zq_42 zg_14_63_48.2.2.2.2.2.2.2.2.1, rfl⟩
theorem zd_14_63_78 : zz_D zy_input_14_63 78 (.iload_n 1) 1 79 := ⟨zq_27 zg_14_63_48.2.2.2.2.2.2.2.2.2.1, rfl⟩
theorem zd_14_63_79 : zz_D zy_input_14_63 79 (.iload_n 2) 1 80 := ⟨zq_28 zg_14_63_48.2.2.2.2.2.2.2.2.2.2.1, rfl⟩
theorem zd_14_63_80 : zz_D zy_input_14_63 80 (.iload_n 3) 1 81 := ⟨zq_29 zg_14_63_48.2.2.2.2.2.2.2.2.2.2.2.1, rfl⟩
theorem zd_14_63_81 : zz_D zy_input_14_63 81 (.invokevirtual 183) 3 84 := ⟨zq_182 zg_14_63_48.2.2.2.2.2.2.2.2.2.2.2.2.1 zg_14_63_48.2.2.2.2.2.2.2.2.2.2.2.2.2.1 zg_14_63_48.2.2.2.2.2.2.2.2.2.2.2.2.2.2 rfl, rfl⟩

abbrev zy_thrown_14_2 : mm_Y := (⟨"TensorForgeModel", "thrown", "()I"⟩, prog_14_method_2_code, 1, (some .int))
theorem zyw_thrown_14_2 : mm_Yw zy_thrown_14_2 0 := ⟨mm_tb_1 1823 (by decide +kernel) rfl, mm_tb_1 12 (by decide +kernel) rfl, ⟨by decide, by decide⟩, by decide +kernel⟩
theorem zf_Md_187 : mm_Fl "TensorForgeModel" 187 11 0 .int false := ⟨R_Md, F_Md, 69, t_Md, rfl, i_Md, by decide, mm_tb_1 1611 (by decide +kernel) rfl, rfl, t_Md_ok, n_Md, rfl, by decide +kernel⟩
theorem zg_14_2_0 : zq_at zy_thrown_14_2.2.1 0 42 ∧ zq_at zy_thrown_14_2.2.1 1 180 ∧ zq_at zy_thrown_14_2.2.1 2 0 ∧ zq_at zy_thrown_14_2.2.1 3 187 ∧ zq_at zy_thrown_14_2.2.1 4 172 := by decide +kernel
theorem zd_14_2_0 : zz_D zy_thrown_14_2 0 (.aload_n 0) 1 1 := ⟨zq_42 zg_14_2_0.1, rfl⟩
theorem zd_14_2_1 : zz_D zy_thrown_14_2 1 (.getfield 187) 3 4 := ⟨zq_180 zg_14_2_0.2.1 zg_14_2_0.2.2.1 zg_14_2_0.2.2.2.1 rfl, rfl⟩
theorem zd_14_2_4 : zz_D zy_thrown_14_2 4 (.ireturn) 1 5 := ⟨zq_172 zg_14_2_0.2.2.2.2, rfl⟩
-- TensorForgeModel thrown ()I
abbrev zr_thrown_14_2 : Room := { frames := 0, cells := 0, slots := 0, locals := 0 }
def zp_thrown_14_2  (S0 : zz_S) : Int → zz_S → Prop := fun r S => S0 = S ∧ (0 ≤ r ∧ r ≤ 3) ∧ (r = S0 1079 0)
theorem zc_thrown_14_2 {g : mm_G} {l : Launch}  (S0 : zz_S) (n : Nat) (hn : zz_end ≤ n) (G_S0 : zz_G S0)  : mm_Met g l zy_thrown_14_2 zr_thrown_14_2 [.ref 1079] (zz_M S0 n) n (zz_QI n (zp_thrown_14_2  S0)) := by
  refine zz_enter (by decide) (Nat.le_of_ble_eq_true rfl) (zz_less (ls1 := [some (.ref 1079)]) ⟨rfl, trivial⟩ ?_)
  refine zz_aload_n (x := 1079) rfl zd_14_2_0 ?_
  have g1 := zz_G.r G_S0 1079 0 0 3 rfl rfl
  refine zz_geti (z := S0 1079 0) zd_14_2_1 zf_Md_187 zT_1079 rfl (zz_ltn hn rfl) rfl ?_
  exact zz_iret zd_14_2_4 rfl (Nat.zero_le _) (Nat.zero_le _) ⟨_, _, rfl, rfl, by omega, by omega⟩
abbrev zy_refuse_14_3 : mm_Y := (⟨"TensorForgeModel", "refuse", "(ZZZ)Z"⟩, prog_14_method_3_code, 4, (some .boolean))
theorem zyw_refuse_14_3 : mm_Yw zy_refuse_14_3 3 := ⟨mm_tb_1 1835 (by decide +kernel) rfl, mm_tb_1 12 (by decide +kernel) rfl, ⟨by decide, by decide⟩, by decide +kernel⟩
theorem zg_14_3_0 : zq_at zy_refuse_14_3.2.1 0 42 ∧ zq_at zy_refuse_14_3.2.1 1 27 ∧ zq_at zy_refuse_14_3.2.1 2 153 ∧ zq_at zy_refuse_14_3.2.1 3 0 ∧ zq_at zy_refuse_14_3.2.1 4 7 ∧ zq_at zy_refuse_14_3.2.1 9 28 ∧ zq_at zy_refuse_14_3.2.1 10 153 ∧ zq_at zy_refuse_14_3.2.1 11 0 ∧ zq_at zy_refuse_14_3.2.1 12 7 ∧ zq_at zy_refuse_14_3.2.1 17 29 ∧ zq_at zy_refuse_14_3.2.1 18 153 ∧ zq_at zy_refuse_14_3.2.1 19 0 ∧ zq_at zy_refuse_14_3.2.1 20 7 ∧ zq_at zy_refuse_14_3.2.1 25 3 ∧ zq_at zy_refuse_14_3.2.1 26 181 ∧ zq_at zy_refuse_14_3.2.1 27 0 ∧ zq_at zy_refuse_14_3.2.1 28 187 ∧ zq_at zy_refuse_14_3.2.1 29 42 ∧ zq_at zy_refuse_14_3.2.1 30 180 ∧ zq_at zy_refuse_14_3.2.1 31 0 ∧ zq_at zy_refuse_14_3.2.1 32 187 ∧ zq_at zy_refuse_14_3.2.1 33 158 ∧ zq_at zy_refuse_14_3.2.1 34 0 ∧ zq_at zy_refuse_14_3.2.1 35 7 := by decide +kernel
theorem zd_14_3_0 : zz_D zy_refuse_14_3 0 (.aload_n 0) 1 1 := ⟨zq_42 zg_14_3_0.1, rfl⟩
theorem zd_14_3_1 : zz_D zy_refuse_14_3 1 (.iload_n 1) 1 2 := ⟨zq_27 zg_14_3_0.2.1, rfl⟩
theorem zd_14_3_2 : zz_B zy_refuse_14_3 2 (Instr.ifCond .eq) 9 5 := ⟨7, zq_153 zg_14_3_0.2.2.1 zg_14_3_0.2.2.2.1 zg_14_3_0.2.2.2.2.1 (by decide), rfl, rfl⟩
theorem zd_14_3_9 : zz_D zy_refuse_14_3 9 (.iload_n 2) 1 10 := ⟨zq_28 zg_14_3_0.2.2.2.2.2.1, rfl⟩
theorem zd_14_3_10 : zz_B zy_refuse_14_3 10 (Instr.ifCond .eq) 17 13 := ⟨7, zq_153 zg_14_3_0.2.2.2.2.2.2.1 zg_14_3_0.2.2.2.2.2.2.2.1 zg_14_3_0.2.2.2.2.2.2.2.2.1 (by decide), rfl, rfl⟩
theorem zd_14_3_17 : zz_D zy_refuse_14_3 17 (.iload_n 3) 1 18 := ⟨zq_29 zg_14_3_0.2.2.2.2.2.2.2.2.2.1, rfl⟩
theorem zd_14_3_18 : zz_B zy_refuse_14_3 18 (Instr.ifCond .eq) 25 21 := ⟨7, zq_153 zg_14_3_0.2.2.2.2.2.2.2.2.2.2.1 zg_14_3_0.2.2.2.2.2.2.2.2.2.2.2.1 zg_14_3_0.2.2.2.2.2.2.2.2.2.2.2.2.1 (by decide), rfl, rfl⟩
theorem zd_14_3_25 : zz_D zy_refuse_14_3 25 (.iconst 0) 1 26 := ⟨zq_3 zg_14_3_0.2.2.2.2.2.2.2.2.2.2.2.2.2.1, rfl⟩
theorem zd_14_3_26 : zz_D zy_refuse_14_3 26 (.putfield 187) 3 29 := ⟨zq_181 zg_14_3_0.2.2.2.2.2.2.2.2.2.2.2.2.2.2.1 zg_14_3_0.2.2.2.2.2.2.2.2.2.2.2.2.2.2.2.1 zg_14_3_0.2.2.2.2.2.2.2.2.2.2.2.2.2.2.2.2.1 rfl, rfl⟩
theorem zd_14_3_29 : zz_D zy_refuse_14_3 29 (.aload_n 0) 1 30 := ⟨zq_42 zg_14_3_0.2.2.2.2.2.2.2.2.2.2.2.2.2.2.2.2.2.1, rfl⟩
theorem zd_14_3_30 : zz_D zy_refuse_14_3 30 (.getfield 187) 3 33 := ⟨zq_180 zg_14_3_0.2.2.2.2.2.2.2.2.2.2.2.2.2.2.2.2.2.2.1 zg_14_3_0.2.2.2.2.2.2.2.2.2.2.2.2.2.2.2.2.2.2.2.1 zg_14_3_0.2.2.2.2.2.2.2.2.2.2.2.2.2.2.2.2.2.2.2.2.1 rfl, rfl⟩
theorem zd_14_3_33 : zz_B zy_refuse_14_3 33 (Instr.ifCond .le) 40 36 := ⟨7, zq_158 zg_14_3_0.2.2.2.2.2.2.2.2.2.2.2.2.2.2.2.2.2.2.2.2.2.1 zg_14_3_0.2.2.2.2.2.2.2.2.2.2.2.2.2.2.2.2.2.2.2.2.2.2.1 zg_14_3_0.2.2.2.2.2.2.2.2.2.2.2.2.2.2.2.2.2.2.2.2.2.2.2 (by decide), rfl, rfl⟩
theorem zg_14_3_40 : zq_at zy_refuse_14_3.2.1 40 3 ∧ zq_at zy_refuse_14_3.2.1 41 172 ∧ zq_at zy_refuse_14_3.2.1 21 6 ∧ zq_at zy_refuse_14_3.2.1 22 167 ∧ zq_at zy_refuse_14_3.2.1 23 0 ∧ zq_at zy_refuse_14_3.2.1 24 4 ∧ zq_at zy_refuse_14_3.2.1 36 4 ∧ zq_at zy_refuse_14_3.2.1 37 167 ∧ zq_at zy_refuse_14_3.2.1 38 0 ∧ zq_at zy_refuse_14_3.2.1 39 4 ∧ zq_at zy_refuse_14_3.2.1 13 5 ∧ zq_at zy_refuse_14_3.2.1 14 167 ∧ zq_at zy_refuse_14_3.2.1 15 0 ∧ zq_at zy_refuse_14_3.2.1 16 12 ∧ zq_at zy_refuse_14_3.2.1 5 4 ∧ zq_at zy_refuse_14_3.2.1 6 167 ∧ zq_at zy_refuse_14_3.2.1 7 0 ∧ zq_at zy_refuse_14_3.2.1 8 20 := by decide +kernel
theorem zd_14_3_40 : zz_D zy_refuse_14_3 40 (.iconst 0) 1 41 := ⟨zq_3 zg_14_3_40.1, rfl⟩
theorem zd_14_3_41 : zz_D zy_refuse_14_3 41 (.ireturn) 1 42 := ⟨zq_172 zg_14_3_40.2.1, rfl⟩
theorem zd_14_3_21 : zz_D zy_refuse_14_3 21 (.iconst 3) 1 22 := ⟨zq_6 zg_14_3_40.2.2.1, rfl⟩
theorem zd_14_3_22 : zz_B zy_refuse_14_3 22 Instr.goto 26 25 := ⟨4, zq_167 zg_14_3_40.2.2.2.1 zg_14_3_40.2.2.2.2.1 zg_14_3_40.2.2.2.2.2.1 (by decide), rfl, rfl⟩
theorem zd_14_3_36 : zz_D zy_refuse_14_3 36 (.iconst 1) 1 37 := ⟨zq_4 zg_14_3_40.2.2.2.2.2.2.1, rfl⟩
theorem zd_14_3_37 : zz_B zy_refuse_14_3 37 Instr.goto 41 40 := ⟨4, zq_167 zg_14_3_40.2.2.2.2.2.2.2.1 zg_14_3_40.2.2.2.2.2.2.2.2.1 zg_14_3_40.2.2.2.2.2.2.2.2.2.1 (by decide), rfl, rfl⟩
theorem zd_14_3_13 : zz_D zy_refuse_14_3 13 (.iconst 2) 1 14 := ⟨zq_5 zg_14_3_40.2.2.2.2.2.2.2.2.2.2.1, rfl⟩
theorem zd_14_3_14 : zz_B zy_refuse_14_3 14 Instr.goto 26 17 := ⟨12, zq_167 zg_14_3_40.2.2.2.2.2.2.2.2.2.2.2.1 zg_14_3_40.2.2.2.2.2.2.2.2.2.2.2.2.1 zg_14_3_40.2.2.2.2.2.2.2.2.2.2.2.2.2.1 (by decide), rfl, rfl⟩
theorem zd_14_3_5 : zz_D zy_refuse_14_3 5 (.iconst 1) 1 6 := ⟨zq_4 zg_14_3_40.2.2.2.2.2.2.2.2.2.2.2.2.2.2.1, rfl⟩
theorem zd_14_3_6 : zz_B zy_refuse_14_3 6 Instr.goto 26 9 := ⟨20, zq_167 zg_14_3_40.2.2.2.2.2.2.2.2.2.2.2.2.2.2.2.1 zg_14_3_40.2.2.2.2.2.2.2.2.2.2.2.2.2.2.2.2.1 zg_14_3_40.2.2.2.2.2.2.2.2.2.2.2.2.2.2.2.2.2 (by decide), rfl, rfl⟩
-- TensorForgeModel refuse (ZZZ)Z
abbrev zr_refuse_14_3 : Room := { frames := 0, cells := 0, slots := 0, locals := 0 }
def zp_refuse_14_3 (p0 : Int) (p1 : Int) (p2 : Int) (S0 : zz_S) : Int → zz_S → Prop := fun r S => zz_G S ∧ zz_fr [(1079, 0)] [] (fun _ _ => False) S0 S ∧ (0 ≤ r ∧ r ≤ 1) ∧ ((p0 = 1 ∧ S 1079 0 = 1 ∧ r = 1) ∨ (p0 = 0 ∧ p1 = 1 ∧ S 1079 0 = 2 ∧ r = 1) ∨ (p0 = 0 ∧ p1 = 0 ∧ p2 = 1 ∧ S 1079 0 = 3 ∧ r = 1) ∨ (p0 = 0 ∧ p1 = 0 ∧ p2 = 0 ∧ S 1079 0 = 0 ∧ r = 0))
theorem zc_refuse_14_3 {g : mm_G} {l : Launch} (p0 : Int) (p1 : Int) (p2 : Int) (S0 : zz_S) (n : Nat) (hn : zz_end ≤ n) (G_S0 : zz_G S0) (hp0 : 0 ≤ p0 ∧ p0 ≤ 1) (hp1 : 0 ≤ p1 ∧ p1 ≤ 1) (hp2 : 0 ≤ p2 ∧ p2 ≤ 1) : mm_Met g l zy_refuse_14_3 zr_refuse_14_3 [.ref 1079, zi p0, zi p1, zi p2] (zz_M S0 n) n (zz_QI n (zp_refuse_14_3 p0 p1 p2 S0)) := by
  refine zz_enter (by decide) (Nat.le_of_ble_eq_true rfl) (zz_less (ls1 := [some (.ref 1079), some (zi p0), some (zi p1), some (zi p2)]) ⟨rfl, ⟨rfl, ⟨rfl, ⟨rfl, trivial⟩⟩⟩⟩ ?_)
  have F_S0 : zz_fr [(1079, 0)] [] (fun _ _ => False) S0 S0 := zz_fr.refl
  refine zz_aload_n (x := 1079) rfl zd_14_3_0 ?_
  refine zz_iload_n (x := p0) rfl zd_14_3_1 ?_
  refine zz_if_eq (by omega) zd_14_3_2 (fun c1 => ?_) (fun c1 => ?_)
  · refine zz_iload_n (x := p1) rfl zd_14_3_9 ?_
    refine zz_if_eq (by omega) zd_14_3_10 (fun c2 => ?_) (fun c2 => ?_)
    · refine zz_iload_n (x := p2) rfl zd_14_3_17 ?_
      refine zz_if_eq (by omega) zd_14_3_18 (fun c3 => ?_) (fun c3 => ?_)
      · refine zz_iconst zd_14_3_25 ?_
        refine zz_puti zd_14_3_26 zf_Md_187 zT_1079 rfl (zz_ltn hn rfl) (fun S4 qS4 => ?_)
        have G_S4 := zz_G.put G_S0 qS4 0 3 rfl (by omega)
        have F_S4 := zz_fr.puts F_S0 qS4 rfl
        refine zz_aload_n (x := 1079) rfl zd_14_3_29 ?_
        refine zz_geti (z := 0) zd_14_3_30 zf_Md_187 zT_1079 rfl (zz_ltn hn rfl) (zz_rs qS4) ?_
        refine zz_if_le (by omega) zd_14_3_33 (fun c5 => ?_) (fun c5 => ?_)
        · refine zz_iconst zd_14_3_40 ?_
          have e6 : S4 1079 0 = 0 := (zz_rs qS4)
          exact zz_zret zd_14_3_41 rfl (by omega) (Nat.zero_le _) (Nat.zero_le _) ⟨_, _, rfl, G_S4, F_S4, by omega, by omega⟩
        · exfalso; omega
      · refine zz_iconst zd_14_3_21 ?_
        refine zz_goto zd_14_3_22 ?_
        refine zz_puti zd_14_3_26 zf_Md_187 zT_1079 rfl (zz_ltn hn rfl) (fun S7 qS7 => ?_)
        have G_S7 := zz_G.put G_S0 qS7 0 3 rfl (by omega)
        have F_S7 := zz_fr.puts F_S0 qS7 rfl
        refine zz_aload_n (x := 1079) rfl zd_14_3_29 ?_
        refine zz_geti (z := 3) zd_14_3_30 zf_Md_187 zT_1079 rfl (zz_ltn hn rfl) (zz_rs qS7) ?_
        refine zz_if_le (by omega) zd_14_3_33 (fun c8 => ?_) (fun c8 => ?_)
        · exfalso; omega
        · refine zz_iconst zd_14_3_36 ?_
          refine zz_goto zd_14_3_37 ?_
          have e9 : S7 1079 0 = 3 := (zz_rs qS7)
          exact zz_zret zd_14_3_41 rfl (by omega) (Nat.zero_le _) (Nat.zero_le _) ⟨_, _, rfl, G_S7, F_S7, by omega, by omega⟩
    · refine zz_iconst zd_14_3_13 ?_
      refine zz_goto zd_14_3_14 ?_
      refine zz_puti zd_14_3_26 zf_Md_187 zT_1079 rfl (zz_ltn hn rfl) (fun S10 qS10 => ?_)
      have G_S10 := zz_G.put G_S0 qS10 0 3 rfl (by omega)
      have F_S10 := zz_fr.puts F_S0 qS10 rfl
      refine zz_aload_n (x := 1079) rfl zd_14_3_29 ?_
      refine zz_geti (z := 2) zd_14_3_30 zf_Md_187 zT_1079 rfl (zz_ltn hn rfl) (zz_rs qS10) ?_
      refine zz_if_le (by omega) zd_14_3_33 (fun c11 => ?_) (fun c11 => ?_)
      · exfalso; omega
      · refine zz_iconst zd_14_3_36 ?_
        refine zz_goto zd_14_3_37 ?_
        have e12 : S10 1079 0 = 2 := (zz_rs qS10)
        exact zz_zret zd_14_3_41 rfl (by omega) (Nat.zero_le _) (Nat.zero_le _) ⟨_, _, rfl, G_S10, F_S10, by omega, by omega⟩
  · refine zz_iconst zd_14_3_5 ?_
    refine zz_goto zd_14_3_6 ?_
    refine zz_puti zd_14_3_26 zf_Md_187 zT_1079 rfl (zz_ltn hn rfl) (fun S13 qS13 => ?_)
    have G_S13 := zz_G.put G_S0 qS13 0 3 rfl (by omega)
    have F_S13 := zz_fr.puts F_S0 qS13 rfl
    refine zz_aload_n (x := 1079) rfl zd_14_3_29 ?_
    refine zz_geti (z := 1) zd_14_3_30 zf_Md_187 zT_1079 rfl (zz_ltn hn rfl) (zz_rs qS13) ?_
    refine zz_if_le (by omega) zd_14_3_33 (fun c14 => ?_) (fun c14 => ?_)
    · exfalso; omega
    · refine zz_iconst zd_14_3_36 ?_
      refine zz_goto zd_14_3_37 ?_
      have e15 : S13 1079 0 = 1 := (zz_rs qS13)
      exact zz_zret zd_14_3_41 rfl (by omega) (Nat.zero_le _) (Nat.zero_le _) ⟨_, _, rfl, G_S13, F_S13, by omega, by omega⟩
abbrev zy_in_14_4 : mm_Y := (⟨"TensorForgeModel", "in", "(JJJ)Z"⟩, prog_14_method_4_code, 6, (some .boolean))
theorem zyw_in_14_4 : mm_Yw zy_in_14_4 3 := ⟨mm_tb_1 1831 (by decide +kernel) rfl, mm_tb_1 12 (by decide +kernel) rfl, ⟨by decide, by decide⟩, by decide +kernel⟩
theorem zg_14_4_0 : zq_at zy_in_14_4.2.1 0 30 ∧ zq_at zy_in_14_4.2.1 1 32 ∧ zq_at zy_in_14_4.2.1 2 148 ∧ zq_at zy_in_14_4.2.1 3 155 ∧ zq_at zy_in_14_4.2.1 4 0 ∧ zq_at zy_in_14_4.2.1 5 14 ∧ zq_at zy_in_14_4.2.1 17 3 ∧ zq_at zy_in_14_4.2.1 18 172 ∧ zq_at zy_in_14_4.2.1 6 30 ∧ zq_at zy_in_14_4.2.1 7 22 ∧ zq_at zy_in_14_4.2.1 8 4 ∧ zq_at zy_in_14_4.2.1 9 148 ∧ zq_at zy_in_14_4.2.1 10 157 ∧ zq_at zy_in_14_4.2.1 11 0 ∧ zq_at zy_in_14_4.2.1 12 7 ∧ zq_at zy_in_14_4.2.1 13 4 ∧ zq_at zy_in_14_4.2.1 14 167 ∧ zq_at zy_in_14_4.2.1 15 0 ∧ zq_at zy_in_14_4.2.1 16 4 := by decide +kernel
theorem zd_14_4_0 : zz_D zy_in_14_4 0 (.lload_n 0) 1 1 := ⟨zq_30 zg_14_4_0.1, rfl⟩
theorem zd_14_4_1 : zz_D zy_in_14_4 1 (.lload_n 2) 1 2 := ⟨zq_32 zg_14_4_0.2.1, rfl⟩
theorem zd_14_4_2 : zz_D zy_in_14_4 2 (.lcmp) 1 3 := ⟨zq_148 zg_14_4_0.2.2.1, rfl⟩
theorem zd_14_4_3 : zz_B zy_in_14_4 3 (Instr.ifCond .lt) 17 6 := ⟨14, zq_155 zg_14_4_0.2.2.2.1 zg_14_4_0.2.2.2.2.1 zg_14_4_0.2.2.2.2.2.1 (by decide), rfl, rfl⟩
theorem zd_14_4_17 : zz_D zy_in_14_4 17 (.iconst 0) 1 18 := ⟨zq_3 zg_14_4_0.2.2.2.2.2.2.1, rfl⟩
theorem zd_14_4_18 : zz_D zy_in_14_4 18 (.ireturn) 1 19 := ⟨zq_172 zg_14_4_0.2.2.2.2.2.2.2.1, rfl⟩
theorem zd_14_4_6 : zz_D zy_in_14_4 6 (.lload_n 0) 1 7 := ⟨zq_30 zg_14_4_0.2.2.2.2.2.2.2.2.1, rfl⟩
theorem zd_14_4_7 : zz_D zy_in_14_4 7 (.lload 4) 2 9 := ⟨zq_22 zg_14_4_0.2.2.2.2.2.2.2.2.2.1 zg_14_4_0.2.2.2.2.2.2.2.2.2.2.1, rfl⟩
theorem zd_14_4_9 : zz_D zy_in_14_4 9 (.lcmp) 1 10 := ⟨zq_148 zg_14_4_0.2.2.2.2.2.2.2.2.2.2.2.1, rfl⟩
theorem zd_14_4_10 : zz_B zy_in_14_4 10 (Instr.ifCond .gt) 17 13 := ⟨7, zq_157 zg_14_4_0.2.2.2.2.2.2.2.2.2.2.2.2.1 zg_14_4_0.2.2.2.2.2.2.2.2.2.2.2.2.2.1 zg_14_4_0.2.2.2.2.2.2.2.2.2.2.2.2.2.2.1 (by decide), rfl, rfl⟩
theorem zd_14_4_13 : zz_D zy_in_14_4 13 (.iconst 1) 1 14 := ⟨zq_4 zg_14_4_0.2.2.2.2.2.2.2.2.2.2.2.2.2.2.2.1, rfl⟩
theorem zd_14_4_14 : zz_B zy_in_14_4 14 Instr.goto 18 17 := ⟨4, zq_167 zg_14_4_0.2.2.2.2.2.2.2.2.2.2.2.2.2.2.2.2.1 zg_14_4_0.2.2.2.2.2.2.2.2.2.2.2.2.2.2.2.2.2.1 zg_14_4_0.2.2.2.2.2.2.2.2.2.2.2.2.2.2.2.2.2.2 (by decide), rfl, rfl⟩
-- TensorForgeModel in (JJJ)Z
abbrev zr_in_14_4 : Room := { frames := 0, cells := 0, slots := 0, locals := 0 }
def zp_in_14_4 (p0 : Int) (p1 : Int) (p2 : Int) (S0 : zz_S) : Int → zz_S → Prop := fun r S => S0 = S ∧ (0 ≤ r ∧ r ≤ 1) ∧ ((r = 1 ∧ p1 ≤ p0 ∧ p0 ≤ p2) ∨ (r = 0 ∧ (p0 < p1 ∨ p2 < p0)))
theorem zc_in_14_4 {g : mm_G} {l : Launch} (p0 : Int) (p1 : Int) (p2 : Int) (S0 : zz_S) (n : Nat) (hn : zz_end ≤ n) (G_S0 : zz_G S0) (hp0 : (-9223372036854775808) ≤ p0 ∧ p0 ≤ 9223372036854775807) (hp1 : (-9223372036854775808) ≤ p1 ∧ p1 ≤ 9223372036854775807) (hp2 : (-9223372036854775808) ≤ p2 ∧ p2 ≤ 9223372036854775807) : mm_Met g l zy_in_14_4 zr_in_14_4 [zl p0, zl p1, zl p2] (zz_M S0 n) n (zz_QI n (zp_in_14_4 p0 p1 p2 S0)) := by
  refine zz_enter (by decide) (Nat.le_of_ble_eq_true rfl) (zz_less (ls1 := [some (zl p0), none, some (zl p1), none, some (zl p2), none]) ⟨rfl, ⟨rfl, ⟨rfl, trivial⟩⟩⟩ ?_)
  refine zz_lload_n (x := p0) rfl zd_14_4_0 ?_
  refine zz_lload_n (x := p1) rfl zd_14_4_1 ?_
  refine zz_lcmp (by omega) (by omega) zd_14_4_2 (fun v1 hv1 => ?_)
  refine zz_if_lt (by omega) zd_14_4_3 (fun c2 => ?_) (fun c2 => ?_)
  · refine zz_iconst zd_14_4_17 ?_
    exact zz_zret zd_14_4_18 rfl (by omega) (Nat.zero_le _) (Nat.zero_le _) ⟨_, _, rfl, rfl, by omega, by omega⟩
  · refine zz_lload_n (x := p0) rfl zd_14_4_6 ?_
    refine zz_lload (x := p2) rfl zd_14_4_7 ?_
    refine zz_lcmp (by omega) (by omega) zd_14_4_9 (fun v3 hv3 => ?_)
    refine zz_if_gt (by omega) zd_14_4_10 (fun c4 => ?_) (fun c4 => ?_)
    · refine zz_iconst zd_14_4_17 ?_
      exact zz_zret zd_14_4_18 rfl (by omega) (Nat.zero_le _) (Nat.zero_le _) ⟨_, _, rfl, rfl, by omega, by omega⟩
    · refine zz_iconst zd_14_4_13 ?_
      refine zz_goto zd_14_4_14 ?_
      exact zz_zret zd_14_4_18 rfl (by omega) (Nat.zero_le _) (Nat.zero_le _) ⟨_, _, rfl, rfl, by omega, by omega⟩
abbrev zy_form_14_5 : mm_Y := (⟨"TensorForgeModel", "form", "(III)V"⟩, prog_14_method_5_code, 4, none)
theorem zyw_form_14_5 : mm_Yw zy_form_14_5 3 := ⟨mm_tb_1 1610 (by decide +kernel) rfl, mm_tb_1 12 (by decide +kernel) rfl, ⟨by decide, by decide⟩, by decide +kernel⟩
theorem zf_Md_88 : mm_Fl "TensorForgeModel" 88 11 37 (.array .int) true := ⟨R_Md, F_Md, 69, t_Md, rfl, i_Md, by decide, mm_tb_1 1648 (by decide +kernel) rfl, rfl, t_Md_ok, n_Md, rfl, by decide +kernel⟩
theorem zf_Md_91 : mm_Fl "TensorForgeModel" 91 11 38 (.array .int) true := ⟨R_Md, F_Md, 69, t_Md, rfl, i_Md, by decide, mm_tb_1 1649 (by decide +kernel) rfl, rfl, t_Md_ok, n_Md, rfl, by decide +kernel⟩
theorem zf_Md_94 : mm_Fl "TensorForgeModel" 94 11 39 (.array .int) true := ⟨R_Md, F_Md, 69, t_Md, rfl, i_Md, by decide, mm_tb_1 1650 (by decide +kernel) rfl, rfl, t_Md_ok, n_Md, rfl, by decide +kernel⟩
theorem zf_Md_97 : mm_Fl "TensorForgeModel" 97 11 40 (.array .int) true := ⟨R_Md, F_Md, 69, t_Md, rfl, i_Md, by decide, mm_tb_1 1651 (by decide +kernel) rfl, rfl, t_Md_ok, n_Md, rfl, by decide +kernel⟩
theorem zf_Md_85 : mm_Fl "TensorForgeModel" 85 11 36 .int false := ⟨R_Md, F_Md, 69, t_Md, rfl, i_Md, by decide, mm_tb_1 1647 (by decide +kernel) rfl, rfl, t_Md_ok, n_Md, rfl, by decide +kernel⟩
theorem zg_14_5_0 : zq_at zy_form_14_5.2.1 0 42 ∧ zq_at zy_form_14_5.2.1 1 180 ∧ zq_at zy_form_14_5.2.1 2 0 ∧ zq_at zy_form_14_5.2.1 3 88 ∧ zq_at zy_form_14_5.2.1 4 3 ∧ zq_at zy_form_14_5.2.1 5 27 ∧ zq_at zy_form_14_5.2.1 6 79 ∧ zq_at zy_form_14_5.2.1 7 42 ∧ zq_at zy_form_14_5.2.1 8 180 ∧ zq_at zy_form_14_5.2.1 9 0 ∧ zq_at zy_form_14_5.2.1 10 91 ∧ zq_at zy_form_14_5.2.1 11 3 ∧ zq_at zy_form_14_5.2.1 12 28 ∧ zq_at zy_form_14_5.2.1 13 79 ∧ zq_at zy_form_14_5.2.1 14 42 ∧ zq_at zy_form_14_5.2.1 15 180 ∧ zq_at zy_form_14_5.2.1 16 0 ∧ zq_at zy_form_14_5.2.1 17 94 ∧ zq_at zy_form_14_5.2.1 18 3 ∧ zq_at zy_form_14_5.2.1 19 29 ∧ zq_at zy_form_14_5.2.1 20 79 ∧ zq_at zy_form_14_5.2.1 21 42 := by decide +kernel
theorem zd_14_5_0 : zz_D zy_form_14_5 0 (.aload_n 0) 1 1 := ⟨zq_42 zg_14_5_0.1, rfl⟩
theorem zd_14_5_1 : zz_D zy_form_14_5 1 (.getfield 88) 3 4 := ⟨zq_180 zg_14_5_0.2.1 zg_14_5_0.2.2.1 zg_14_5_0.2.2.2.1 rfl, rfl⟩
theorem zd_14_5_4 : zz_D zy_form_14_5 4 (.iconst 0) 1 5 := ⟨zq_3 zg_14_5_0.2.2.2.2.1, rfl⟩
theorem zd_14_5_5 : zz_D zy_form_14_5 5 (.iload_n 1) 1 6 := ⟨zq_27 zg_14_5_0.2.2.2.2.2.1, rfl⟩
theorem zd_14_5_6 : zz_D zy_form_14_5 6 (.iastore) 1 7 := ⟨zq_79 zg_14_5_0.2.2.2.2.2.2.1, rfl⟩
theorem zd_14_5_7 : zz_D zy_form_14_5 7 (.aload_n 0) 1 8 := ⟨zq_42 zg_14_5_0.2.2.2.2.2.2.2.1, rfl⟩
theorem zd_14_5_8 : zz_D zy_form_14_5 8 (.getfield 91) 3 11 := ⟨zq_180 zg_14_5_0.2.2.2.2.2.2.2.2.1 zg_14_5_0.2.2.2.2.2.2.2.2.2.1 zg_14_5_0.2.2.2.2.2.2.2.2.2.2.1 rfl, rfl⟩
theorem zd_14_5_11 : zz_D zy_form_14_5 11 (.iconst 0) 1 12 := ⟨zq_3 zg_14_5_0.2.2.2.2.2.2.2.2.2.2.2.1, rfl⟩
theorem zd_14_5_12 : zz_D zy_form_14_5 12 (.iload_n 2) 1 13 := ⟨zq_28 zg_14_5_0.2.2.2.2.2.2.2.2.2.2.2.2.1, rfl⟩
theorem zd_14_5_13 : zz_D zy_form_14_5 13 (.iastore) 1 14 := ⟨zq_79 zg_14_5_0.2.2.2.2.2.2.2.2.2.2.2.2.2.1, rfl⟩
theorem zd_14_5_14 : zz_D zy_form_14_5 14 (.aload_n 0) 1 15 := ⟨zq_42 zg_14_5_0.2.2.2.2.2.2.2.2.2.2.2.2.2.2.1, rfl⟩
theorem zd_14_5_15 : zz_D zy_form_14_5 15 (.getfield 94) 3 18 := ⟨zq_180 zg_14_5_0.2.2.2.2.2.2.2.2.2.2.2.2.2.2.2.1 zg_14_5_0.2.2.2.2.2.2.2.2.2.2.2.2.2.2.2.2.1 zg_14_5_0.2.2.2.2.2.2.2.2.2.2.2.2.2.2.2.2.2.1 rfl, rfl⟩
theorem zd_14_5_18 : zz_D zy_form_14_5 18 (.iconst 0) 1 19 := ⟨zq_3 zg_14_5_0.2.2.2.2.2.2.2.2.2.2.2.2.2.2.2.2.2.2.1, rfl⟩
theorem zd_14_5_19 : zz_D zy_form_14_5 19 (.iload_n 3) 1 20 := ⟨zq_29 zg_14_5_0.2.2.2.2.2.2.2.2.2.2.2.2.2.2.2.2.2.2.2.1, rfl⟩
theorem zd_14_5_20 : zz_D zy_form_14_5 20 (.iastore) 1 21 := ⟨zq_79 zg_14_5_0.2.2.2.2.2.2.2.2.2.2.2.2.2.2.2.2.2.2.2.2.1, rfl⟩
theorem zd_14_5_21 : zz_D zy_form_14_5 21 (.aload_n 0) 1 22 := ⟨zq_42 zg_14_5_0.2.2.2.2.2.2.2.2.2.2.2.2.2.2.2.2.2.2.2.2.2, rfl⟩
theorem zg_14_5_22 : zq_at zy_form_14_5.2.1 22 180 ∧ zq_at zy_form_14_5.2.1 23 0 ∧ zq_at zy_form_14_5.2.1 24 97 ∧ zq_at zy_form_14_5.2.1 25 3 ∧ zq_at zy_form_14_5.2.1 26 3 ∧ zq_at zy_form_14_5.2.1 27 79 ∧ zq_at zy_form_14_5.2.1 28 42 ∧ zq_at zy_form_14_5.2.1 29 180 ∧ zq_at zy_form_14_5.2.1 30 0 ∧ zq_at zy_form_14_5.2.1 31 97 ∧ zq_at zy_form_14_5.2.1 32 4 ∧ zq_at zy_form_14_5.2.1 33 27 ∧ zq_at zy_form_14_5.2.1 34 28 ∧ zq_at zy_form_14_5.2.1 35 104 ∧ zq_at zy_form_14_5.2.1 36 29 ∧ zq_at zy_form_14_5.2.1 37 104 ∧ zq_at zy_form_14_5.2.1 38 79 ∧ zq_at zy_form_14_5.2.1 39 42 ∧ zq_at zy_form_14_5.2.1 40 4 ∧ zq_at zy_form_14_5.2.1 41 181 ∧ zq_at zy_form_14_5.2.1 42 0 ∧ zq_at zy_form_14_5.2.1 43 85 ∧ zq_at zy_form_14_5.2.1 44 177 := by decide +kernel
theorem zd_14_5_22 : zz_D zy_form_14_5 22 (.getfield 97) 3 25 := ⟨zq_180 zg_14_5_22.1 zg_14_5_22.2.1 zg_14_5_22.2.2.1 rfl, rfl⟩
theorem zd_14_5_25 : zz_D zy_form_14_5 25 (.iconst 0) 1 26 := ⟨zq_3 zg_14_5_22.2.2.2.1, rfl⟩
theorem zd_14_5_26 : zz_D zy_form_14_5 26 (.iconst 0) 1 27 := ⟨zq_3 zg_14_5_22.2.2.2.2.1, rfl⟩
theorem zd_14_5_27 : zz_D zy_form_14_5 27 (.iastore) 1 28 := ⟨zq_79 zg_14_5_22.2.2.2.2.2.1, rfl⟩
theorem zd_14_5_28 : zz_D zy_form_14_5 28 (.aload_n 0) 1 29 := ⟨zq_42 zg_14_5_22.2.2.2.2.2.2.1, rfl⟩
theorem zd_14_5_29 : zz_D zy_form_14_5 29 (.getfield 97) 3 32 := ⟨zq_180 zg_14_5_22.2.2.2.2.2.2.2.1 zg_14_5_22.2.2.2.2.2.2.2.2.1 zg_14_5_22.2.2.2.2.2.2.2.2.2.1 rfl, rfl⟩
theorem zd_14_5_32 : zz_D zy_form_14_5 32 (.iconst 1) 1 33 := ⟨zq_4 zg_14_5_22.2.2.2.2.2.2.2.2.2.2.1, rfl⟩
theorem zd_14_5_33 : zz_D zy_form_14_5 33 (.iload_n 1) 1 34 := ⟨zq_27 zg_14_5_22.2.2.2.2.2.2.2.2.2.2.2.1, rfl⟩
theorem zd_14_5_34 : zz_D zy_form_14_5 34 (.iload_n 2) 1 35 := ⟨zq_28 zg_14_5_22.2.2.2.2.2.2.2.2.2.2.2.2.1, rfl⟩
theorem zd_14_5_35 : zz_D zy_form_14_5 35 (.imul) 1 36 := ⟨zq_104 zg_14_5_22.2.2.2.2.2.2.2.2.2.2.2.2.2.1, rfl⟩
theorem zd_14_5_36 : zz_D zy_form_14_5 36 (.iload_n 3) 1 37 := ⟨zq_29 zg_14_5_22.2.2.2.2.2.2.2.2.2.2.2.2.2.2.1, rfl⟩
theorem zd_14_5_37 : zz_D zy_form_14_5 37 (.imul) 1 38 := ⟨zq_104 zg_14_5_22.2.2.2.2.2.2.2.2.2.2.2.2.2.2.2.1, rfl⟩
theorem zd_14_5_38 : zz_D zy_form_14_5 38 (.iastore) 1 39 := ⟨zq_79 zg_14_5_22.2.2.2.2.2.2.2.2.2.2.2.2.2.2.2.2.1, rfl⟩
theorem zd_14_5_39 : zz_D zy_form_14_5 39 (.aload_n 0) 1 40 := ⟨zq_42 zg_14_5_22.2.2.2.2.2.2.2.2.2.2.2.2.2.2.2.2.2.1, rfl⟩
theorem zd_14_5_40 : zz_D zy_form_14_5 40 (.iconst 1) 1 41 := ⟨zq_4 zg_14_5_22.2.2.2.2.2.2.2.2.2.2.2.2.2.2.2.2.2.2.1, rfl⟩
theorem zd_14_5_41 : zz_D zy_form_14_5 41 (.putfield 85) 3 44 := ⟨zq_181 zg_14_5_22.2.2.2.2.2.2.2.2.2.2.2.2.2.2.2.2.2.2.2.1 zg_14_5_22.2.2.2.2.2.2.2.2.2.2.2.2.2.2.2.2.2.2.2.2.1 zg_14_5_22.2.2.2.2.2.2.2.2.2.2.2.2.2.2.2.2.2.2.2.2.2.1 rfl, rfl⟩
theorem zd_14_5_44 : zz_D zy_form_14_5 44 (.return_) 1 45 := ⟨zq_177 zg_14_5_22.2.2.2.2.2.2.2.2.2.2.2.2.2.2.2.2.2.2.2.2.2.2, rfl⟩
-- TensorForgeModel form (III)V
abbrev zr_form_14_5 : Room := { frames := 0, cells := 0, slots := 0, locals := 0 }
def zp_form_14_5 (p0 : Int) (p1 : Int) (p2 : Int) (S0 : zz_S) : zz_S → Prop := fun S => zz_G S ∧ zz_fr [(1079, 36), (1102, 0), (1103, 0), (1104, 0), (1105, 0), (1105, 1)] [] (fun _ _ => False) S0 S ∧ (S 1079 36 = 1) ∧ (S 1102 0 = p0 ∧ S 1103 0 = p1 ∧ S 1104 0 = p2 ∧ S 1105 0 = 0) ∧ (S 1105 1 = (p0 * p1) * p2) ∧ (zz_Hr S)
theorem zc_form_14_5 {g : mm_G} {l : Launch} (p0 : Int) (p1 : Int) (p2 : Int) (S0 : zz_S) (n : Nat) (hn : zz_end ≤ n) (G_S0 : zz_G S0) (hp0 : 1 ≤ p0 ∧ p0 ≤ 63) (hp1 : 1 ≤ p1 ∧ p1 ≤ 63) (hp2 : 1 ≤ p2 ∧ p2 ≤ 63) (R_S0 : zz_Hr S0) (hf : (p0 * p1) * p2 ≤ 2048) : mm_Met g l zy_form_14_5 zr_form_14_5 [.ref 1079, zi p0, zi p1, zi p2] (zz_M S0 n) n (zz_QV n (zp_form_14_5 p0 p1 p2 S0)) := by
  refine zz_enter (by decide) (Nat.le_of_ble_eq_true rfl) (zz_less (ls1 := [some (.ref 1079), some (zi p0), some (zi p1), some (zi p2)]) ⟨rfl, ⟨rfl, ⟨rfl, ⟨rfl, trivial⟩⟩⟩⟩ ?_)
  have F_S0 : zz_fr [(1079, 36), (1102, 0), (1103, 0), (1104, 0), (1105, 0), (1105, 1)] [] (fun _ _ => False) S0 S0 := zz_fr.refl
  refine zz_aload_n (x := 1079) rfl zd_14_5_0 ?_
  refine zz_getr (kd := 0) (z := 1102) zd_14_5_1 zf_Md_88 zT_1079 rfl (zz_ltn hn rfl) (zz_G.eq G_S0 1079 37 1102 rfl rfl) (by decide) 1102 rfl ?_
  refine zz_iconst zd_14_5_4 ?_
  refine zz_iload_n (x := p0) rfl zd_14_5_5 ?_
  refine zz_iast zd_14_5_6 zT_1102 rfl (zz_ltn hn rfl) (by decide) (by decide) (fun S1 qS1 => ?_)
  have G_S1 := zz_G.put G_S0 qS1 0 63 rfl (by omega)
  have F_S1 := zz_fr.puts F_S0 qS1 rfl
  refine zz_aload_n (x := 1079) rfl zd_14_5_7 ?_
  refine zz_getr (kd := 0) (z := 1103) zd_14_5_8 zf_Md_91 zT_1079 rfl (zz_ltn hn rfl) (zz_G.eq G_S1 1079 38 1103 rfl rfl) (by decide) 1103 rfl ?_
  refine zz_iconst zd_14_5_11 ?_
  refine zz_iload_n (x := p1) rfl zd_14_5_12 ?_
  refine zz_iast zd_14_5_13 zT_1103 rfl (zz_ltn hn rfl) (by decide) (by decide) (fun S2 qS2 => ?_)
  have G_S2 := zz_G.put G_S1 qS2 0 63 rfl (by omega)
  have F_S2 := zz_fr.puts F_S1 qS2 rfl
  refine zz_aload_n (x := 1079) rfl zd_14_5_14 ?_
  refine zz_getr (kd := 0) (z := 1104) zd_14_5_15 zf_Md_94 zT_1079 rfl (zz_ltn hn rfl) (zz_G.eq G_S2 1079 39 1104 rfl rfl) (by decide) 1104 rfl ?_
  refine zz_iconst zd_14_5_18 ?_
  refine zz_iload_n (x := p2) rfl zd_14_5_19 ?_
  refine zz_iast zd_14_5_20 zT_1104 rfl (zz_ltn hn rfl) (by decide) (by decide) (fun S3 qS3 => ?_)
  have G_S3 := zz_G.put G_S2 qS3 0 63 rfl (by omega)
  have F_S3 := zz_fr.puts F_S2 qS3 rfl
  refine zz_aload_n (x := 1079) rfl zd_14_5_21 ?_
  refine zz_getr (kd := 0) (z := 1105) zd_14_5_22 zf_Md_97 zT_1079 rfl (zz_ltn hn rfl) (zz_G.eq G_S3 1079 40 1105 rfl rfl) (by decide) 1105 rfl ?_
  refine zz_iconst zd_14_5_25 ?_
  refine zz_iconst zd_14_5_26 ?_
  refine zz_iast zd_14_5_27 zT_1105 rfl (zz_ltn hn rfl) (by decide) (by decide) (fun S4 qS4 => ?_)
  have G_S4 := zz_G.put G_S3 qS4 0 0 rfl (by omega)
  have F_S4 := zz_fr.puts F_S3 qS4 rfl
  refine zz_aload_n (x := 1079) rfl zd_14_5_28 ?_
  refine zz_getr (kd := 0) (z := 1105) zd_14_5_29 zf_Md_97 zT_1079 rfl (zz_ltn hn rfl) (zz_G.eq G_S4 1079 40 1105 rfl rfl) (by decide) 1105 rfl ?_
  refine zz_iconst zd_14_5_32 ?_
  refine zz_iload_n (x := p0) rfl zd_14_5_33 ?_
  refine zz_iload_n (x := p1) rfl zd_14_5_34 ?_
  refine zz_imul zd_14_5_35 ?_
  have m5 := zz_mulb (a := p0) (b := p1) 63 63 3969 (by omega) (by omega) (by decide)
  refine zz_iload_n (x := p2) rfl zd_14_5_36 ?_
  refine zz_imul zd_14_5_37 ?_
  have m6 := zz_mulb (a := p0 * p1) (b := p2) 3969 63 250047 (by omega) (by omega) (by decide)
  refine zz_iast zd_14_5_38 zT_1105 rfl (zz_ltn hn rfl) (by decide) (by decide) (fun S7 qS7 => ?_)
  have G_S7 := zz_G.put G_S4 qS7 0 10000000 rfl (by omega)
  have F_S7 := zz_fr.puts F_S4 qS7 rfl
  refine zz_aload_n (x := 1079) rfl zd_14_5_39 ?_
  refine zz_iconst zd_14_5_40 ?_
  refine zz_puti zd_14_5_41 zf_Md_85 zT_1079 rfl (zz_ltn hn rfl) (fun S8 qS8 => ?_)
  have G_S8 := zz_G.put G_S7 qS8 0 11 rfl (by omega)
  have F_S8 := zz_fr.puts F_S7 qS8 rfl
  have e9 : S8 1079 36 = 1 := (zz_rs qS8)
  have e10 : S8 1102 0 = p0 := (zz_ro qS8 (fun h => absurd h.1 (by decide)) (zz_ro qS7 (fun h => absurd h.1 (by decide)) (zz_ro qS4 (fun h => absurd h.1 (by decide)) (zz_ro qS3 (fun h => absurd h.1 (by decide)) (zz_ro qS2 (fun h => absurd h.1 (by decide)) (zz_rs qS1))))))
  have e11 : S8 1103 0 = p1 := (zz_ro qS8 (fun h => absurd h.1 (by decide)) (zz_ro qS7 (fun h => absurd h.1 (by decide)) (zz_ro qS4 (fun h => absurd h.1 (by decide)) (zz_ro qS3 (fun h => absurd h.1 (by decide)) (zz_rs qS2)))))
  have e12 : S8 1104 0 = p2 := (zz_ro qS8 (fun h => absurd h.1 (by decide)) (zz_ro qS7 (fun h => absurd h.1 (by decide)) (zz_ro qS4 (fun h => absurd h.1 (by decide)) (zz_rs qS3))))
  have e13 : S8 1105 0 = 0 := (zz_ro qS8 (fun h => absurd h.1 (by decide)) (zz_ro qS7 (fun h => absurd h.2 (by decide)) (zz_rs qS4)))
  have e14 : S8 1105 1 = (p0 * p1) * p2 := (zz_ro qS8 (fun h => absurd h.1 (by decide)) (zz_rs qS7))
  exact zz_vret zd_14_5_44 rfl (Nat.zero_le _) (Nat.zero_le _) ⟨_, rfl, G_S8, F_S8, by omega, by omega, by omega, (zz_Hr.one (by omega) (by unfold zz_tn zz_sz; rw [show S8 1102 0 = p0 by omega, show S8 1103 0 = p1 by omega, show S8 1104 0 = p2 by omega, show S8 1105 0 = 0 by omega]; omega))⟩
theorem zz_nc2 {sl : List (Nat × Nat)} {a i : Nat} (hs : sl.all (fun p => (Nat.blt p.1 1102 || Nat.blt 1114 p.1) || (p == (1105, 1))) = true) (h : 1102 ≤ a ∧ a ≤ 1114 ∧ i ≠ 1) : sl.contains (a, i) = false := by
  rw [List.all_eq_true] at hs
  cases hc : sl.contains (a, i) with
  | false => rfl
  | true =>
    have h1 := hs (a, i) (List.contains_iff_mem.mp hc)
    simp only [Bool.or_eq_true, Nat.blt_eq, beq_iff_eq, Prod.mk.injEq] at h1
    omega
abbrev zy_side_14_6 : mm_Y := (⟨"TensorForgeModel", "side", "(I)V"⟩, prog_14_method_6_code, 3, none)
theorem zyw_side_14_6 : mm_Yw zy_side_14_6 1 := ⟨mm_tb_1 1827 (by decide +kernel) rfl, mm_tb_1 12 (by decide +kernel) rfl, ⟨by decide, by decide⟩, by decide +kernel⟩
theorem zq_Md_169 : Cond.constantLong "TensorForgeModel" 169 (2 : Int64) ∈ mm_tb := mm_tb_1 1600 (by decide +kernel) rfl
theorem zq_Md_190 : Cond.constantLong "TensorForgeModel" 190 (8 : Int64) ∈ mm_tb := mm_tb_1 1828 (by decide +kernel) rfl
theorem zk_Md_192 : mm_Sl "TensorForgeModel" 192 3 zy_in_14_4 := ⟨zyw_in_14_4, mm_tb_1 1829 (by decide +kernel) rfl, mm_tb_1 1830 (by decide +kernel) rfl⟩
theorem zk_Md_196 : mm_Vl "TensorForgeModel" 196 11 3 zy_refuse_14_3 := ⟨zyw_refuse_14_3, (R_Md, F_Md, 69), rfl, mm_tb_1 1832 (by decide +kernel) rfl, mm_tb_1 1834 (by decide +kernel) rfl, mm_tb_s 86 (by decide +kernel) rfl⟩
theorem zf_Md_7 : mm_Fl "TensorForgeModel" 7 11 1 .int false := ⟨R_Md, F_Md, 69, t_Md, rfl, i_Md, by decide, mm_tb_1 1612 (by decide +kernel) rfl, rfl, t_Md_ok, n_Md, rfl, by decide +kernel⟩
abbrev zy_sizeOf_14_90 : mm_Y := (⟨"TensorForgeModel", "sizeOf", "(I)I"⟩, prog_14_method_90_code, 2, (some .int))
theorem zyw_sizeOf_14_90 : mm_Yw zy_sizeOf_14_90 1 := ⟨mm_tb_1 1839 (by decide +kernel) rfl, mm_tb_1 12 (by decide +kernel) rfl, ⟨by decide, by decide⟩, by decide +kernel⟩
theorem zg_14_6_0 : zq_at zy_side_14_6.2.1 0 42 ∧ zq_at zy_side_14_6.2.1 1 27 ∧ zq_at zy_side_14_6.2.1 2 133 ∧ zq_at zy_side_14_6.2.1 3 20 ∧ zq_at zy_side_14_6.2.1 4 0 ∧ zq_at zy_side_14_6.2.1 5 169 ∧ zq_at zy_side_14_6.2.1 6 20 ∧ zq_at zy_side_14_6.2.1 7 0 ∧ zq_at zy_side_14_6.2.1 8 190 ∧ zq_at zy_side_14_6.2.1 9 184 ∧ zq_at zy_side_14_6.2.1 10 0 ∧ zq_at zy_side_14_6.2.1 11 192 ∧ zq_at zy_side_14_6.2.1 12 154 ∧ zq_at zy_side_14_6.2.1 13 0 ∧ zq_at zy_side_14_6.2.1 14 7 ∧ zq_at zy_side_14_6.2.1 15 4 ∧ zq_at zy_side_14_6.2.1 16 167 ∧ zq_at zy_side_14_6.2.1 17 0 ∧ zq_at zy_side_14_6.2.1 18 4 ∧ zq_at zy_side_14_6.2.1 20 3 ∧ zq_at zy_side_14_6.2.1 21 3 ∧ zq_at zy_side_14_6.2.1 22 182 ∧ zq_at zy_side_14_6.2.1 23 0 ∧ zq_at zy_side_14_6.2.1 24 196 := by decide +kernel
theorem zd_14_6_0 : zz_D zy_side_14_6 0 (.aload_n 0) 1 1 := ⟨zq_42 zg_14_6_0.1, rfl⟩
theorem zd_14_6_1 : zz_D zy_side_14_6 1 (.iload_n 1) 1 2 := ⟨zq_27 zg_14_6_0.2.1, rfl⟩
theorem zd_14_6_2 : zz_D zy_side_14_6 2 (.i2l) 1 3 := ⟨zq_133 zg_14_6_0.2.2.1, rfl⟩
theorem zd_14_6_3 : zz_D zy_side_14_6 3 (.ldc2_w 169) 3 6 := ⟨zq_20 zg_14_6_0.2.2.2.1 zg_14_6_0.2.2.2.2.1 zg_14_6_0.2.2.2.2.2.1 rfl, rfl⟩
theorem zd_14_6_6 : zz_D zy_side_14_6 6 (.ldc2_w 190) 3 9 := ⟨zq_20 zg_14_6_0.2.2.2.2.2.2.1 zg_14_6_0.2.2.2.2.2.2.2.1 zg_14_6_0.2.2.2.2.2.2.2.2.1 rfl, rfl⟩
theorem zd_14_6_9 : zz_D zy_side_14_6 9 (.invokestatic 192) 3 12 := ⟨zq_184 zg_14_6_0.2.2.2.2.2.2.2.2.2.1 zg_14_6_0.2.2.2.2.2.2.2.2.2.2.1 zg_14_6_0.2.2.2.2.2.2.2.2.2.2.2.1 rfl, rfl⟩
theorem zd_14_6_12 : zz_B zy_side_14_6 12 (Instr.ifCond .ne) 19 15 := ⟨7, zq_154 zg_14_6_0.2.2.2.2.2.2.2.2.2.2.2.2.1 zg_14_6_0.2.2.2.2.2.2.2.2.2.2.2.2.2.1 zg_14_6_0.2.2.2.2.2.2.2.2.2.2.2.2.2.2.1 (by decide), rfl, rfl⟩
theorem zd_14_6_15 : zz_D zy_side_14_6 15 (.iconst 1) 1 16 := ⟨zq_4 zg_14_6_0.2.2.2.2.2.2.2.2.2.2.2.2.2.2.2.1, rfl⟩
theorem zd_14_6_16 : zz_B zy_side_14_6 16 Instr.goto 20 19 := ⟨4, zq_167 zg_14_6_0.2.2.2.2.2.2.2.2.2.2.2.2.2.2.2.2.1 zg_14_6_0.2.2.2.2.2.2.2.2.2.2.2.2.2.2.2.2.2.1 zg_14_6_0.2.2.2.2.2.2.2.2.2.2.2.2.2.2.2.2.2.2.1 (by decide), rfl, rfl⟩
theorem zd_14_6_20 : zz_D zy_side_14_6 20 (.iconst 0) 1 21 := ⟨zq_3 zg_14_6_0.2.2.2.2.2.2.2.2.2.2.2.2.2.2.2.2.2.2.2.1, rfl⟩
theorem zd_14_6_21 : zz_D zy_side_14_6 21 (.iconst 0) 1 22 := ⟨zq_3 zg_14_6_0.2.2.2.2.2.2.2.2.2.2.2.2.2.2.2.2.2.2.2.2.1, rfl⟩
theorem zd_14_6_22 : zz_D zy_side_14_6 22 (.invokevirtual 196) 3 25 := ⟨zq_182 zg_14_6_0.2.2.2.2.2.2.2.2.2.2.2.2.2.2.2.2.2.2.2.2.2.1 zg_14_6_0.2.2.2.2.2.2.2.2.2.2.2.2.2.2.2.2.2.2.2.2.2.2.1 zg_14_6_0.2.2.2.2.2.2.2.2.2.2.2.2.2.2.2.2.2.2.2.2.2.2.2 rfl, rfl⟩
theorem zg_14_6_25 : zq_at zy_side_14_6.2.1 25 153 ∧ zq_at zy_side_14_6.2.1 26 0 ∧ zq_at zy_side_14_6.2.1 27 4 ∧ zq_at zy_side_14_6.2.1 28 177 ∧ zq_at zy_side_14_6.2.1 19 3 ∧ zq_at zy_side_14_6.2.1 29 42 ∧ zq_at zy_side_14_6.2.1 30 27 ∧ zq_at zy_side_14_6.2.1 31 181 ∧ zq_at zy_side_14_6.2.1 32 0 ∧ zq_at zy_side_14_6.2.1 33 7 ∧ zq_at zy_side_14_6.2.1 34 42 ∧ zq_at zy_side_14_6.2.1 35 4 ∧ zq_at zy_side_14_6.2.1 36 181 ∧ zq_at zy_side_14_6.2.1 37 0 ∧ zq_at zy_side_14_6.2.1 38 85 ∧ zq_at zy_side_14_6.2.1 39 42 ∧ zq_at zy_side_14_6.2.1 40 180 ∧ zq_at zy_side_14_6.2.1 41 0 ∧ zq_at zy_side_14_6.2.1 42 97 ∧ zq_at zy_side_14_6.2.1 43 4 ∧ zq_at zy_side_14_6.2.1 44 42 ∧ zq_at zy_side_14_6.2.1 45 3 := by decide +kernel
theorem zd_14_6_25 : zz_B zy_side_14_6 25 (Instr.ifCond .eq) 29 28 := ⟨4, zq_153 zg_14_6_25.1 zg_14_6_25.2.1 zg_14_6_25.2.2.1 (by decide), rfl, rfl⟩
theorem zd_14_6_28 : zz_D zy_side_14_6 28 (.return_) 1 29 := ⟨zq_177 zg_14_6_25.2.2.2.1, rfl⟩
theorem zd_14_6_19 : zz_D zy_side_14_6 19 (.iconst 0) 1 20 := ⟨zq_3 zg_14_6_25.2.2.2.2.1, rfl⟩
theorem zd_14_6_29 : zz_D zy_side_14_6 29 (.aload_n 0) 1 30 := ⟨zq_42 zg_14_6_25.2.2.2.2.2.1, rfl⟩
theorem zd_14_6_30 : zz_D zy_side_14_6 30 (.iload_n 1) 1 31 := ⟨zq_27 zg_14_6_25.2.2.2.2.2.2.1, rfl⟩
theorem zd_14_6_31 : zz_D zy_side_14_6 31 (.putfield 7) 3 34 := ⟨zq_181 zg_14_6_25.2.2.2.2.2.2.2.1 zg_14_6_25.2.2.2.2.2.2.2.2.1 zg_14_6_25.2.2.2.2.2.2.2.2.2.1 rfl, rfl⟩
theorem zd_14_6_34 : zz_D zy_side_14_6 34 (.aload_n 0) 1 35 := ⟨zq_42 zg_14_6_25.2.2.2.2.2.2.2.2.2.2.1, rfl⟩
theorem zd_14_6_35 : zz_D zy_side_14_6 35 (.iconst 1) 1 36 := ⟨zq_4 zg_14_6_25.2.2.2.2.2.2.2.2.2.2.2.1, rfl⟩
theorem zd_14_6_36 : zz_D zy_side_14_6 36 (.putfield 85) 3 39 := ⟨zq_181 zg_14_6_25.2.2.2.2.2.2.2.2.2.2.2.2.1 zg_14_6_25.2.2.2.2.2.2.2.2.2.2.2.2.2.1 zg_14_6_25.2.2.2.2.2.2.2.2.2.2.2.2.2.2.1 rfl, rfl⟩
theorem zd_14_6_39 : zz_D zy_side_14_6 39 (.aload_n 0) 1 40 := ⟨zq_42 zg_14_6_25.2.2.2.2.2.2.2.2.2.2.2.2.2.2.2.1, rfl⟩
theorem zd_14_6_40 : zz_D zy_side_14_6 40 (.getfield 97) 3 43 := ⟨zq_180 zg_14_6_25.2.2.2.2.2.2.2.2.2.2.2.2.2.2.2.2.1 zg_14_6_25.2.2.2.2.2.2.2.2.2.2.2.2.2.2.2.2.2.1 zg_14_6_25.2.2.2.2.2.2.2.2.2.2.2.2.2.2.2.2.2.2.1 rfl, rfl⟩
theorem zd_14_6_43 : zz_D zy_side_14_6 43 (.iconst 1) 1 44 := ⟨zq_4 zg_14_6_25.2.2.2.2.2.2.2.2.2.2.2.2.2.2.2.2.2.2.2.1, rfl⟩
theorem zd_14_6_44 : zz_D zy_side_14_6 44 (.aload_n 0) 1 45 := ⟨zq_42 zg_14_6_25.2.2.2.2.2.2.2.2.2.2.2.2.2.2.2.2.2.2.2.2.1, rfl⟩
theorem zd_14_6_45 : zz_D zy_side_14_6 45 (.iconst 0) 1 46 := ⟨zq_3 zg_14_6_25.2.2.2.2.2.2.2.2.2.2.2.2.2.2.2.2.2.2.2.2.2, rfl⟩
theorem zg_14_6_46 : zq_at zy_side_14_6.2.1 46 182 ∧ zq_at zy_side_14_6.2.1 47 0 ∧ zq_at zy_side_14_6.2.1 48 200 := by decide +kernel
theorem zd_14_6_46 : zz_D zy_side_14_6 46 (.invokevirtual 200) 3 49 := ⟨zq_182 zg_14_6_46.1 zg_14_6_46.2.1 zg_14_6_46.2.2 rfl, rfl⟩
theorem zg_14_90_0 : zq_at zy_sizeOf_14_90.2.1 0 42 ∧ zq_at zy_sizeOf_14_90.2.1 1 180 ∧ zq_at zy_sizeOf_14_90.2.1 2 0 ∧ zq_at zy_sizeOf_14_90.2.1 3 88 ∧ zq_at zy_sizeOf_14_90.2.1 4 27 ∧ zq_at zy_sizeOf_14_90.2.1 5 46 ∧ zq_at zy_sizeOf_14_90.2.1 6 42 ∧ zq_at zy_sizeOf_14_90.2.1 7 180 ∧ zq_at zy_sizeOf_14_90.2.1 8 0 ∧ zq_at zy_sizeOf_14_90.2.1 9 91 ∧ zq_at zy_sizeOf_14_90.2.1 10 27 ∧ zq_at zy_sizeOf_14_90.2.1 11 46 ∧ zq_at zy_sizeOf_14_90.2.1 12 104 ∧ zq_at zy_sizeOf_14_90.2.1 13 42 ∧ zq_at zy_sizeOf_14_90.2.1 14 180 ∧ zq_at zy_sizeOf_14_90.2.1 15 0 ∧ zq_at zy_sizeOf_14_90.2.1 16 94 ∧ zq_at zy_sizeOf_14_90.2.1 17 27 ∧ zq_at zy_sizeOf_14_90.2.1 18 46 ∧ zq_at zy_sizeOf_14_90.2.1 19 104 ∧ zq_at zy_sizeOf_14_90.2.1 20 172 := by decide +kernel
theorem zd_14_90_0 : zz_D zy_sizeOf_14_90 0 (.aload_n 0) 1 1 := ⟨zq_42 zg_14_90_0.1, rfl⟩
theorem zd_14_90_1 : zz_D zy_sizeOf_14_90 1 (.getfield 88) 3 4 := ⟨zq_180 zg_14_90_0.2.1 zg_14_90_0.2.2.1 zg_14_90_0.2.2.2.1 rfl, rfl⟩
theorem zd_14_90_4 : zz_D zy_sizeOf_14_90 4 (.iload_n 1) 1 5 := ⟨zq_27 zg_14_90_0.2.2.2.2.1, rfl⟩
theorem zd_14_90_5 : zz_D zy_sizeOf_14_90 5 (.iaload) 1 6 := ⟨zq_46 zg_14_90_0.2.2.2.2.2.1, rfl⟩
theorem zd_14_90_6 : zz_D zy_sizeOf_14_90 6 (.aload_n 0) 1 7 := ⟨zq_42 zg_14_90_0.2.2.2.2.2.2.1, rfl⟩
theorem zd_14_90_7 : zz_D zy_sizeOf_14_90 7 (.getfield 91) 3 10 := ⟨zq_180 zg_14_90_0.2.2.2.2.2.2.2.1 zg_14_90_0.2.2.2.2.2.2.2.2.1 zg_14_90_0.2.2.2.2.2.2.2.2.2.1 rfl, rfl⟩
theorem zd_14_90_10 : zz_D zy_sizeOf_14_90 10 (.iload_n 1) 1 11 := ⟨zq_27 zg_14_90_0.2.2.2.2.2.2.2.2.2.2.1, rfl⟩
theorem zd_14_90_11 : zz_D zy_sizeOf_14_90 11 (.iaload) 1 12 := ⟨zq_46 zg_14_90_0.2.2.2.2.2.2.2.2.2.2.2.1, rfl⟩
theorem zd_14_90_12 : zz_D zy_sizeOf_14_90 12 (.imul) 1 13 := ⟨zq_104 zg_14_90_0.2.2.2.2.2.2.2.2.2.2.2.2.1, rfl⟩
theorem zd_14_90_13 : zz_D zy_sizeOf_14_90 13 (.aload_n 0) 1 14 := ⟨zq_42 zg_14_90_0.2.2.2.2.2.2.2.2.2.2.2.2.2.1, rfl⟩
theorem zd_14_90_14 : zz_D zy_sizeOf_14_90 14 (.getfield 94) 3 17 := ⟨zq_180 zg_14_90_0.2.2.2.2.2.2.2.2.2.2.2.2.2.2.1 zg_14_90_0.2.2.2.2.2.2.2.2.2.2.2.2.2.2.2.1 zg_14_90_0.2.2.2.2.2.2.2.2.2.2.2.2.2.2.2.2.1 rfl, rfl⟩
theorem zd_14_90_17 : zz_D zy_sizeOf_14_90 17 (.iload_n 1) 1 18 := ⟨zq_27 zg_14_90_0.2.2.2.2.2.2.2.2.2.2.2.2.2.2.2.2.2.1, rfl⟩
theorem zd_14_90_18 : zz_D zy_sizeOf_14_90 18 (.iaload) 1 19 := ⟨zq_46 zg_14_90_0.2.2.2.2.2.2.2.2.2.2.2.2.2.2.2.2.2.2.1, rfl⟩
theorem zd_14_90_19 : zz_D zy_sizeOf_14_90 19 (.imul) 1 20 := ⟨zq_104 zg_14_90_0.2.2.2.2.2.2.2.2.2.2.2.2.2.2.2.2.2.2.2.1, rfl⟩
theorem zd_14_90_20 : zz_D zy_sizeOf_14_90 20 (.ireturn) 1 21 := ⟨zq_172 zg_14_90_0.2.2.2.2.2.2.2.2.2.2.2.2.2.2.2.2.2.2.2.2, rfl⟩
-- TensorForgeModel sizeOf (I)I
abbrev zr_sizeOf_14_90 : Room := { frames := 0, cells := 0, slots := 0, locals := 0 }
def zp_sizeOf_14_90 (p0 : Int) (S0 : zz_S) : Int → zz_S → Prop := fun r S => S0 = S ∧ (0 ≤ r ∧ r ≤ 250047) ∧ (r = (S0 1102 p0.toNat * S0 1103 p0.toNat) * S0 1104 p0.toNat)
theorem zc_sizeOf_14_90 {g : mm_G} {l : Launch} (p0 : Int) (S0 : zz_S) (n : Nat) (hn : zz_end ≤ n) (G_S0 : zz_G S0) (hp0 : 0 ≤ p0 ∧ p0 ≤ 10) : mm_Met g l zy_sizeOf_14_90 zr_sizeOf_14_90 [.ref 1079, zi p0] (zz_M S0 n) n (zz_QI n (zp_sizeOf_14_90 p0 S0)) := by
  refine zz_enter (by decide) (Nat.le_of_ble_eq_true rfl) (zz_less (ls1 := [some (.ref 1079), some (zi p0)]) ⟨rfl, ⟨rfl, trivial⟩⟩ ?_)
  refine zz_aload_n (x := 1079) rfl zd_14_90_0 ?_
  refine zz_getr (kd := 0) (z := 1102) zd_14_90_1 zf_Md_88 zT_1079 rfl (zz_ltn hn rfl) (zz_G.eq G_S0 1079 37 1102 rfl rfl) (by decide) 1102 rfl ?_
  refine zz_iload_n (x := p0) rfl zd_14_90_4 ?_
  have g1 := zz_G.r G_S0 1102 p0.toNat 0 63 rfl rfl
  refine zz_iald (z := S0 1102 p0.toNat) zd_14_90_5 zT_1102 rfl (zz_ltn hn rfl) (by decide) (by omega) rfl ?_
  refine zz_aload_n (x := 1079) rfl zd_14_90_6 ?_
  refine zz_getr (kd := 0) (z := 1103) zd_14_90_7 zf_Md_91 zT_1079 rfl (zz_ltn hn rfl) (zz_G.eq G_S0 1079 38 1103 rfl rfl) (by decide) 1103 rfl ?_
  refine zz_iload_n (x := p0) rfl zd_14_90_10 ?_
  have g2 := zz_G.r G_S0 1103 p0.toNat 0 63 rfl rfl
  refine zz_iald (z := S0 1103 p0.toNat) zd_14_90_11 zT_1103 rfl (zz_ltn hn rfl) (by decide) (by omega) rfl ?_
  refine zz_imul zd_14_90_12 ?_
  have m3 := zz_mulb (a := S0 1102 p0.toNat) (b := S0 1103 p0.toNat) 63 63 3969 (by omega) (by omega) (by decide)
  refine zz_aload_n (x := 1079) rfl zd_14_90_13 ?_
  refine zz_getr (kd := 0) (z := 1104) zd_14_90_14 zf_Md_94 zT_1079 rfl (zz_ltn hn rfl) (zz_G.eq G_S0 1079 39 1104 rfl rfl) (by decide) 1104 rfl ?_
  refine zz_iload_n (x := p0) rfl zd_14_90_17 ?_
  have g4 := zz_G.r G_S0 1104 p0.toNat 0 63 rfl rfl
  refine zz_iald (z := S0 1104 p0.toNat) zd_14_90_18 zT_1104 rfl (zz_ltn hn rfl) (by decide) (by omega) rfl ?_
  refine zz_imul zd_14_90_19 ?_
  have m5 := zz_mulb (a := (S0 1102 p0.toNat) * (S0 1103 p0.toNat)) (b := S0 1104 p0.toNat) 3969 63 250047 (by omega) (by omega) (by decide)
  refine zz_nme (fun v6 ev6 => ?_)
  exact zz_iret zd_14_90_20 rfl (Nat.zero_le _) (Nat.zero_le _) ⟨_, _, rfl, rfl, by omega, by omega⟩
theorem zk_Md_200 : mm_Vl "TensorForgeModel" 200 11 1 zy_sizeOf_14_90 := ⟨zyw_sizeOf_14_90, (R_Md, F_Md, 69), rfl, mm_tb_1 1836 (by decide +kernel) rfl, mm_tb_1 1838 (by decide +kernel) rfl, mm_tb_s 87 (by decide +kernel) rfl⟩
theorem zf_Md_17 : mm_Fl "TensorForgeModel" 17 11 3 (.array .int) true := ⟨R_Md, F_Md, 69, t_Md, rfl, i_Md, by decide, mm_tb_1 1614 (by decide +kernel) rfl, rfl, t_Md_ok, n_Md, rfl, by decide +kernel⟩
theorem zf_Md_20 : mm_Fl "TensorForgeModel" 20 11 4 (.array .int) true := ⟨R_Md, F_Md, 69, t_Md, rfl, i_Md, by decide, mm_tb_1 1615 (by decide +kernel) rfl, rfl, t_Md_ok, n_Md, rfl, by decide +kernel⟩
theorem zf_Md_23 : mm_Fl "TensorForgeModel" 23 11 5 (.array .int) true := ⟨R_Md, F_Md, 69, t_Md, rfl, i_Md, by decide, mm_tb_1 1616 (by decide +kernel) rfl, rfl, t_Md_ok, n_Md, rfl, by decide +kernel⟩
theorem zf_Md_26 : mm_Fl "TensorForgeModel" 26 11 6 (.array .int) true := ⟨R_Md, F_Md, 69, t_Md, rfl, i_Md, by decide, mm_tb_1 1617 (by decide +kernel) rfl, rfl, t_Md_ok, n_Md, rfl, by decide +kernel⟩
theorem zz_Hr.p79 {S S1 : zz_S} {i : Nat} {v : Int} (e : S1 = zz_st S 1079 i v) (hi : i ≠ 36) (h : zz_Hr S) : zz_Hr S1 := h.down (Int.le_of_eq (zz_ro e (fun q => hi q.2.symm) rfl)) (fun a i x y _ => zz_ro e (fun q => by omega) rfl)
theorem zg_14_6_49 : zq_at zy_side_14_6.2.1 49 79 ∧ zq_at zy_side_14_6.2.1 50 3 ∧ zq_at zy_side_14_6.2.1 51 61 ∧ zq_at zy_side_14_6.2.1 52 28 ∧ zq_at zy_side_14_6.2.1 53 17 ∧ zq_at zy_side_14_6.2.1 54 2 ∧ zq_at zy_side_14_6.2.1 55 0 ∧ zq_at zy_side_14_6.2.1 56 162 ∧ zq_at zy_side_14_6.2.1 57 0 ∧ zq_at zy_side_14_6.2.1 58 44 ∧ zq_at zy_side_14_6.2.1 59 42 ∧ zq_at zy_side_14_6.2.1 60 180 ∧ zq_at zy_side_14_6.2.1 61 0 ∧ zq_at zy_side_14_6.2.1 62 17 ∧ zq_at zy_side_14_6.2.1 63 28 ∧ zq_at zy_side_14_6.2.1 64 3 ∧ zq_at zy_side_14_6.2.1 65 79 ∧ zq_at zy_side_14_6.2.1 66 42 ∧ zq_at zy_side_14_6.2.1 67 180 ∧ zq_at zy_side_14_6.2.1 68 0 ∧ zq_at zy_side_14_6.2.1 69 20 ∧ zq_at zy_side_14_6.2.1 70 28 ∧ zq_at zy_side_14_6.2.1 71 3 ∧ zq_at zy_side_14_6.2.1 72 79 := by decide +kernel
theorem zd_14_6_49 : zz_D zy_side_14_6 49 (.iastore) 1 50 := ⟨zq_79 zg_14_6_49.1, rfl⟩
theorem zd_14_6_50 : zz_D zy_side_14_6 50 (.iconst 0) 1 51 := ⟨zq_3 zg_14_6_49.2.1, rfl⟩
theorem zd_14_6_51 : zz_D zy_side_14_6 51 (.istore_n 2) 1 52 := ⟨zq_61 zg_14_6_49.2.2.1, rfl⟩
theorem zd_14_6_52 : zz_D zy_side_14_6 52 (.iload_n 2) 1 53 := ⟨zq_28 zg_14_6_49.2.2.2.1, rfl⟩
theorem zd_14_6_53 : zz_D zy_side_14_6 53 (.sipush 512) 3 56 := ⟨zq_17 zg_14_6_49.2.2.2.2.1 zg_14_6_49.2.2.2.2.2.1 zg_14_6_49.2.2.2.2.2.2.1 (by decide), rfl⟩
theorem zd_14_6_56 : zz_B zy_side_14_6 56 (Instr.if_icmp .ge) 100 59 := ⟨44, zq_162 zg_14_6_49.2.2.2.2.2.2.2.1 zg_14_6_49.2.2.2.2.2.2.2.2.1 zg_14_6_49.2.2.2.2.2.2.2.2.2.1 (by decide), rfl, rfl⟩
theorem zd_14_6_59 : zz_D zy_side_14_6 59 (.aload_n 0) 1 60 := ⟨zq_42 zg_14_6_49.2.2.2.2.2.2.2.2.2.2.1, rfl⟩
theorem zd_14_6_60 : zz_D zy_side_14_6 60 (.getfield 17) 3 63 := ⟨zq_180 zg_14_6_49.2.2.2.2.2.2.2.2.2.2.2.1 zg_14_6_49.2.2.2.2.2.2.2.2.2.2.2.2.1 zg_14_6_49.2.2.2.2.2.2.2.2.2.2.2.2.2.1 rfl, rfl⟩
theorem zd_14_6_63 : zz_D zy_side_14_6 63 (.iload_n 2) 1 64 := ⟨zq_28 zg_14_6_49.2.2.2.2.2.2.2.2.2.2.2.2.2.2.1, rfl⟩
theorem zd_14_6_64 : zz_D zy_side_14_6 64 (.iconst 0) 1 65 := ⟨zq_3 zg_14_6_49.2.2.2.2.2.2.2.2.2.2.2.2.2.2.2.1, rfl⟩
theorem zd_14_6_65 : zz_D zy_side_14_6 65 (.iastore) 1 66 := ⟨zq_79 zg_14_6_49.2.2.2.2.2.2.2.2.2.2.2.2.2.2.2.2.1, rfl⟩
theorem zd_14_6_66 : zz_D zy_side_14_6 66 (.aload_n 0) 1 67 := ⟨zq_42 zg_14_6_49.2.2.2.2.2.2.2.2.2.2.2.2.2.2.2.2.2.1, rfl⟩
theorem zd_14_6_67 : zz_D zy_side_14_6 67 (.getfield 20) 3 70 := ⟨zq_180 zg_14_6_49.2.2.2.2.2.2.2.2.2.2.2.2.2.2.2.2.2.2.1 zg_14_6_49.2.2.2.2.2.2.2.2.2.2.2.2.2.2.2.2.2.2.2.1 zg_14_6_49.2.2.2.2.2.2.2.2.2.2.2.2.2.2.2.2.2.2.2.2.1 rfl, rfl⟩
theorem zd_14_6_70 : zz_D zy_side_14_6 70 (.iload_n 2) 1 71 := ⟨zq_28 zg_14_6_49.2.2.2.2.2.2.2.2.2.2.2.2.2.2.2.2.2.2.2.2.2.1, rfl⟩
theorem zd_14_6_71 : zz_D zy_side_14_6 71 (.iconst 0) 1 72 := ⟨zq_3 zg_14_6_49.2.2.2.2.2.2.2.2.2.2.2.2.2.2.2.2.2.2.2.2.2.2.1, rfl⟩
theorem zd_14_6_72 : zz_D zy_side_14_6 72 (.iastore) 1 73 := ⟨zq_79 zg_14_6_49.2.2.2.2.2.2.2.2.2.2.2.2.2.2.2.2.2.2.2.2.2.2.2, rfl⟩
theorem zg_14_6_73 : zq_at zy_side_14_6.2.1 73 28 ∧ zq_at zy_side_14_6.2.1 74 17 ∧ zq_at zy_side_14_6.2.1 75 1 ∧ zq_at zy_side_14_6.2.1 76 0 ∧ zq_at zy_side_14_6.2.1 77 162 ∧ zq_at zy_side_14_6.2.1 78 0 ∧ zq_at zy_side_14_6.2.1 79 17 ∧ zq_at zy_side_14_6.2.1 80 42 ∧ zq_at zy_side_14_6.2.1 81 180 ∧ zq_at zy_side_14_6.2.1 82 0 ∧ zq_at zy_side_14_6.2.1 83 23 ∧ zq_at zy_side_14_6.2.1 84 28 ∧ zq_at zy_side_14_6.2.1 85 3 ∧ zq_at zy_side_14_6.2.1 86 79 ∧ zq_at zy_side_14_6.2.1 87 42 ∧ zq_at zy_side_14_6.2.1 88 180 ∧ zq_at zy_side_14_6.2.1 89 0 ∧ zq_at zy_side_14_6.2.1 90 26 ∧ zq_at zy_side_14_6.2.1 91 28 ∧ zq_at zy_side_14_6.2.1 92 3 ∧ zq_at zy_side_14_6.2.1 93 79 ∧ zq_at zy_side_14_6.2.1 94 132 ∧ zq_at zy_side_14_6.2.1 95 2 ∧ zq_at zy_side_14_6.2.1 96 1 := by decide +kernel
theorem zd_14_6_73 : zz_D zy_side_14_6 73 (.iload_n 2) 1 74 := ⟨zq_28 zg_14_6_73.1, rfl⟩
theorem zd_14_6_74 : zz_D zy_side_14_6 74 (.sipush 256) 3 77 := ⟨zq_17 zg_14_6_73.2.1 zg_14_6_73.2.2.1 zg_14_6_73.2.2.2.1 (by decide), rfl⟩
theorem zd_14_6_77 : zz_B zy_side_14_6 77 (Instr.if_icmp .ge) 94 80 := ⟨17, zq_162 zg_14_6_73.2.2.2.2.1 zg_14_6_73.2.2.2.2.2.1 zg_14_6_73.2.2.2.2.2.2.1 (by decide), rfl, rfl⟩
theorem zd_14_6_80 : zz_D zy_side_14_6 80 (.aload_n 0) 1 81 := ⟨zq_42 zg_14_6_73.2.2.2.2.2.2.2.1, rfl⟩
theorem zd_14_6_81 : zz_D zy_side_14_6 81 (.getfield 23) 3 84 := ⟨zq_180 zg_14_6_73.2.2.2.2.2.2.2.2.1 zg_14_6_73.2.2.2.2.2.2.2.2.2.1 zg_14_6_73.2.2.2.2.2.2.2.2.2.2.1 rfl, rfl⟩
theorem zd_14_6_84 : zz_D zy_side_14_6 84 (.iload_n 2) 1 85 := ⟨zq_28 zg_14_6_73.2.2.2.2.2.2.2.2.2.2.2.1, rfl⟩
theorem zd_14_6_85 : zz_D zy_side_14_6 85 (.iconst 0) 1 86 := ⟨zq_3 zg_14_6_73.2.2.2.2.2.2.2.2.2.2.2.2.1, rfl⟩
theorem zd_14_6_86 : zz_D zy_side_14_6 86 (.iastore) 1 87 := ⟨zq_79 zg_14_6_73.2.2.2.2.2.2.2.2.2.2.2.2.2.1, rfl⟩
theorem zd_14_6_87 : zz_D zy_side_14_6 87 (.aload_n 0) 1 88 := ⟨zq_42 zg_14_6_73.2.2.2.2.2.2.2.2.2.2.2.2.2.2.1, rfl⟩
theorem zd_14_6_88 : zz_D zy_side_14_6 88 (.getfield 26) 3 91 := ⟨zq_180 zg_14_6_73.2.2.2.2.2.2.2.2.2.2.2.2.2.2.2.1 zg_14_6_73.2.2.2.2.2.2.2.2.2.2.2.2.2.2.2.2.1 zg_14_6_73.2.2.2.2.2.2.2.2.2.2.2.2.2.2.2.2.2.1 rfl, rfl⟩
theorem zd_14_6_91 : zz_D zy_side_14_6 91 (.iload_n 2) 1 92 := ⟨zq_28 zg_14_6_73.2.2.2.2.2.2.2.2.2.2.2.2.2.2.2.2.2.2.1, rfl⟩
theorem zd_14_6_92 : zz_D zy_side_14_6 92 (.iconst 0) 1 93 := ⟨zq_3 zg_14_6_73.2.2.2.2.2.2.2.2.2.2.2.2.2.2.2.2.2.2.2.1, rfl⟩
theorem zd_14_6_93 : zz_D zy_side_14_6 93 (.iastore) 1 94 := ⟨zq_79 zg_14_6_73.2.2.2.2.2.2.2.2.2.2.2.2.2.2.2.2.2.2.2.2.1, rfl⟩
theorem zd_14_6_94 : zz_D zy_side_14_6 94 (.iinc 2 1) 3 97 := ⟨zq_132 zg_14_6_73.2.2.2.2.2.2.2.2.2.2.2.2.2.2.2.2.2.2.2.2.2.1 zg_14_6_73.2.2.2.2.2.2.2.2.2.2.2.2.2.2.2.2.2.2.2.2.2.2.1 zg_14_6_73.2.2.2.2.2.2.2.2.2.2.2.2.2.2.2.2.2.2.2.2.2.2.2 (by decide), rfl⟩
theorem zg_14_6_97 : zq_at zy_side_14_6.2.1 97 167 ∧ zq_at zy_side_14_6.2.1 98 255 ∧ zq_at zy_side_14_6.2.1 99 211 ∧ zq_at zy_side_14_6.2.1 100 177 := by decide +kernel
theorem zd_14_6_97 : zz_B zy_side_14_6 97 Instr.goto 52 100 := ⟨(-45), zq_167 zg_14_6_97.1 zg_14_6_97.2.1 zg_14_6_97.2.2.1 (by decide), rfl, rfl⟩
theorem zd_14_6_100 : zz_D zy_side_14_6 100 (.return_) 1 101 := ⟨zq_177 zg_14_6_97.2.2.2, rfl⟩
-- TensorForgeModel side (I)V
abbrev zr_side_14_6 : Room := { frames := 1, cells := 0, slots := 0, locals := 18 }
def zp_side_14_6 (p0 : Int) (S0 : zz_S) : zz_S → Prop := fun S => zz_G S ∧ zz_fr [(1079, 0), (1079, 1), (1079, 36), (1105, 1)] [1081, 1082, 1083, 1084] (fun _ _ => False) S0 S ∧ (1 ≤ S 1079 36) ∧ ((2 ≤ p0 ∧ p0 ≤ 8 ∧ S 1079 0 = 0 ∧ S 1079 1 = p0) ∨ ((p0 < 2 ∨ 8 < p0) ∧ S 1079 0 = 1 ∧ S 1079 1 = S0 1079 1)) ∧ (∀ v : zn_T, zn_M S0 v → zn_V v → (S 1079 0 = 0 → zn_M S (zn_dp v)) ∧ (S 1079 0 ≠ 0 → zn_M S v)) ∧ (zz_Hr S)
theorem zb_side_14_6_52 {g : mm_G} {l : Launch} (p0 : Int) (S0 : zz_S) (n : Nat) (hn : zz_end ≤ n) (G_S0 : zz_G S0) (hp0 : (-2147483648) ≤ p0 ∧ p0 ≤ 2147483647) (R_S0 : zz_Hr S0) (h1 : 1 ≤ S0 1079 36) (x2 : Int) (S : zz_S) (G_S : zz_G S) (F_S : zz_fr [(1079, 0), (1079, 1), (1079, 36), (1105, 1)] [1081, 1082, 1083, 1084] (fun _ _ => False) S0 S) (i52_0 : 0 ≤ x2 ∧ x2 ≤ 512) (i52_1 : 2 ≤ p0 ∧ p0 ≤ 8) (i52_2 : 2 ≤ p0 ∧ p0 ≤ 8) (i52_3 : S 1079 36 = 1) (i52_4 : S 1079 0 = 0) (i52_5 : 2 ≤ p0 ∧ p0 ≤ 8) (i52_6 : S 1079 1 = p0) (i52_7 : S 1105 1 = (S0 1102 0 * S0 1103 0) * S0 1104 0) (i52_8 : S 1079 0 = 0) (R : Nat) (hR : (512 - x2).toNat = R) (k52 : ∀ (x2 : Int) (S : zz_S), zz_G S → zz_fr [(1079, 0), (1079, 1), (1079, 36), (1105, 1)] [1081, 1082, 1083, 1084] (fun _ _ => False) S0 S → (0 ≤ x2 ∧ x2 ≤ 512) → (2 ≤ p0 ∧ p0 ≤ 8) → (2 ≤ p0 ∧ p0 ≤ 8) → (S 1079 36 = 1) → (S 1079 0 = 0) → (2 ≤ p0 ∧ p0 ≤ 8) → (S 1079 1 = p0) → (S 1105 1 = (S0 1102 0 * S0 1103 0) * S0 1104 0) → (S 1079 0 = 0) → (512 - x2).toNat < R → zz_E g l zy_side_14_6 zr_side_14_6 (zz_QV n (zp_side_14_6 p0 S0)) S n 52 [some (.ref 1079), none, some (zi x2)] [] 0 0) : zz_E g l zy_side_14_6 zr_side_14_6 (zz_QV n (zp_side_14_6 p0 S0)) S n 52 [some (.ref 1079), none, some (zi x2)] [] 0 0 := by
  refine zz_iload_n (x := x2) rfl zd_14_6_52 ?_
  refine zz_sipush (by decide) zd_14_6_53 ?_
  refine zz_icmp_ge (by omega) (by omega) zd_14_6_56 (fun c42 => ?_) (fun c42 => ?_)
  · have g43 := zz_G.r G_S 1079 36 0 11 rfl rfl
    have g44 := zz_G.r G_S 1079 0 0 3 rfl rfl
    have g45 := zz_G.r G_S 1079 1 2 8 rfl rfl
    exact zz_vret zd_14_6_100 rfl (Nat.zero_le _) (Nat.zero_le _) ⟨_, rfl, G_S, F_S, by omega, by omega, (fun v hM hV => ⟨fun _ => zn_M.dp hM hV (by omega) (F_S 1102 0 rfl rfl (fun h => h)) (F_S 1103 0 rfl rfl (fun h => h)) (F_S 1104 0 rfl rfl (fun h => h)) (F_S 1105 0 rfl rfl (fun h => h)) (by omega), fun h => absurd (by omega) h⟩), (R_S0.down (by omega) (fun a i x y z => F_S a i (zz_nc2 rfl (by omega)) (zz_nc3 rfl (by omega)) (fun h => h)))⟩
  · refine zz_aload_n (x := 1079) rfl zd_14_6_59 ?_
    refine zz_getr (kd := 0) (z := 1081) zd_14_6_60 zf_Md_17 zT_1079 rfl (zz_ltn hn rfl) (zz_G.eq G_S 1079 3 1081 rfl rfl) (by decide) 1081 rfl ?_
    refine zz_iload_n (x := x2) rfl zd_14_6_63 ?_
    refine zz_iconst zd_14_6_64 ?_
    refine zz_iast zd_14_6_65 zT_1081 rfl (zz_ltn hn rfl) (by decide) (by omega) (fun S46 qS46 => ?_)
    have G_S46 := zz_G.put G_S qS46 (-2147483648) 2147483647 rfl (by omega)
    have F_S46 := zz_fr.putc F_S qS46 rfl
    refine zz_aload_n (x := 1079) rfl zd_14_6_66 ?_
    refine zz_getr (kd := 0) (z := 1082) zd_14_6_67 zf_Md_20 zT_1079 rfl (zz_ltn hn rfl) (zz_G.eq G_S46 1079 4 1082 rfl rfl) (by decide) 1082 rfl ?_
    refine zz_iload_n (x := x2) rfl zd_14_6_70 ?_
    refine zz_iconst zd_14_6_71 ?_
    refine zz_iast zd_14_6_72 zT_1082 rfl (zz_ltn hn rfl) (by decide) (by omega) (fun S47 qS47 => ?_)
    have G_S47 := zz_G.put G_S46 qS47 (-2147483648) 2147483647 rfl (by omega)
    have F_S47 := zz_fr.putc F_S46 qS47 rfl
    refine zz_iload_n (x := x2) rfl zd_14_6_73 ?_
    refine zz_sipush (by decide) zd_14_6_74 ?_
    refine zz_icmp_ge (by omega) (by omega) zd_14_6_77 (fun c48 => ?_) (fun c48 => ?_)
    · refine zz_iinc [some (.ref 1079), none, some (zi (x2 + 1))] zd_14_6_94 rfl rfl ?_
      refine zz_goto zd_14_6_97 ?_
      have g49 := zz_G.r G_S 1079 36 0 11 rfl rfl
      have e50 : S47 1079 36 = S 1079 36 := (zz_ro qS47 (fun h => absurd h.1 (by decide)) (zz_ro qS46 (fun h => absurd h.1 (by decide)) rfl))
      have g51 := zz_G.r G_S 1079 0 0 3 rfl rfl
      have e52 : S47 1079 0 = S 1079 0 := (zz_ro qS47 (fun h => absurd h.1 (by decide)) (zz_ro qS46 (fun h => absurd h.1 (by decide)) rfl))
      have g53 := zz_G.r G_S 1079 1 2 8 rfl rfl
      have e54 : S47 1079 1 = S 1079 1 := (zz_ro qS47 (fun h => absurd h.1 (by decide)) (zz_ro qS46 (fun h => absurd h.1 (by decide)) rfl))
      have g55 := zz_G.r G_S 1105 1 0 10000000 rfl rfl
      have e56 : S47 1105 1 = S 1105 1 := (zz_ro qS47 (fun h => absurd h.1 (by decide)) (zz_ro qS46 (fun h => absurd h.1 (by decide)) rfl))
      refine zz_less (ls1 := [some (.ref 1079), none, some (zi (x2 + 1))]) ⟨rfl, ⟨rfl, trivial⟩⟩ ?_
      exact k52 (x2 + 1) S47 G_S47 F_S47 (by omega) (by omega) (by omega) (by omega) (by omega) (by omega) (by omega) (by omega) (by omega) (by omega)
    · refine zz_aload_n (x := 1079) rfl zd_14_6_80 ?_
      refine zz_getr (kd := 0) (z := 1083) zd_14_6_81 zf_Md_23 zT_1079 rfl (zz_ltn hn rfl) (zz_G.eq G_S47 1079 5 1083 rfl rfl) (by decide) 1083 rfl ?_
      refine zz_iload_n (x := x2) rfl zd_14_6_84 ?_
      refine zz_iconst zd_14_6_85 ?_
      refine zz_iast zd_14_6_86 zT_1083 rfl (zz_ltn hn rfl) (by decide) (by omega) (fun S57 qS57 => ?_)
      have G_S57 := zz_G.put G_S47 qS57 (-2147483648) 2147483647 rfl (by omega)
      have F_S57 := zz_fr.putc F_S47 qS57 rfl
      refine zz_aload_n (x := 1079) rfl zd_14_6_87 ?_
      refine zz_getr (kd := 0) (z := 1084) zd_14_6_88 zf_Md_26 zT_1079 rfl (zz_ltn hn rfl) (zz_G.eq G_S57 1079 6 1084 rfl rfl) (by decide) 1084 rfl ?_
      refine zz_iload_n (x := x2) rfl zd_14_6_91 ?_
      refine zz_iconst zd_14_6_92 ?_
      refine zz_iast zd_14_6_93 zT_1084 rfl (zz_ltn hn rfl) (by decide) (by omega) (fun S58 qS58 => ?_)
      have G_S58 := zz_G.put G_S57 qS58 (-2147483648) 2147483647 rfl (by omega)
      have F_S58 := zz_fr.putc F_S57 qS58 rfl
      refine zz_iinc [some (.ref 1079), none, some (zi (x2 + 1))] zd_14_6_94 rfl rfl ?_
      refine zz_goto zd_14_6_97 ?_
      have g59 := zz_G.r G_S 1079 36 0 11 rfl rfl
      have e60 : S58 1079 36 = S 1079 36 := (zz_ro qS58 (fun h => absurd h.1 (by decide)) (zz_ro qS57 (fun h => absurd h.1 (by decide)) (zz_ro qS47 (fun h => absurd h.1 (by decide)) (zz_ro qS46 (fun h => absurd h.1 (by decide)) rfl))))
      have g61 := zz_G.r G_S 1079 0 0 3 rfl rfl
      have e62 : S58 1079 0 = S 1079 0 := (zz_ro qS58 (fun h => absurd h.1 (by decide)) (zz_ro qS57 (fun h => absurd h.1 (by decide)) (zz_ro qS47 (fun h => absurd h.1 (by decide)) (zz_ro qS46 (fun h => absurd h.1 (by decide)) rfl))))
      have g63 := zz_G.r G_S 1079 1 2 8 rfl rfl
      have e64 : S58 1079 1 = S 1079 1 := (zz_ro qS58 (fun h => absurd h.1 (by decide)) (zz_ro qS57 (fun h => absurd h.1 (by decide)) (zz_ro qS47 (fun h => absurd h.1 (by decide)) (zz_ro qS46 (fun h => absurd h.1 (by decide)) rfl))))
      have g65 := zz_G.r G_S 1105 1 0 10000000 rfl rfl
      have e66 : S58 1105 1 = S 1105 1 := (zz_ro qS58 (fun h => absurd h.1 (by decide)) (zz_ro qS57 (fun h => absurd h.1 (by decide)) (zz_ro qS47 (fun h => absurd h.1 (by decide)) (zz_ro qS46 (fun h => absurd h.1 (by decide)) rfl))))
      refine zz_less (ls1 := [some (.ref 1079), none, some (zi (x2 + 1))]) ⟨rfl, ⟨rfl, trivial⟩⟩ ?_
      exact k52 (x2 + 1) S58 G_S58 F_S58 (by omega) (by omega) (by omega) (by omega) (by omega) (by omega) (by omega) (by omega) (by omega) (by omega)
theorem zi_side_14_6 {g : mm_G} {l : Launch} (p0 : Int) (S0 : zz_S) (n : Nat) (hn : zz_end ≤ n) (G_S0 : zz_G S0) (hp0 : (-2147483648) ≤ p0 ∧ p0 ≤ 2147483647) (R_S0 : zz_Hr S0) (h1 : 1 ≤ S0 1079 36) : ∀ N : Nat, (∀ (x2 : Int) (S : zz_S), zz_G S → zz_fr [(1079, 0), (1079, 1), (1079, 36), (1105, 1)] [1081, 1082, 1083, 1084] (fun _ _ => False) S0 S → (0 ≤ x2 ∧ x2 ≤ 512) → (2 ≤ p0 ∧ p0 ≤ 8) → (2 ≤ p0 ∧ p0 ≤ 8) → (S 1079 36 = 1) → (S 1079 0 = 0) → (2 ≤ p0 ∧ p0 ≤ 8) → (S 1079 1 = p0) → (S 1105 1 = (S0 1102 0 * S0 1103 0) * S0 1104 0) → (S 1079 0 = 0) → (512 - x2).toNat < N → zz_E g l zy_side_14_6 zr_side_14_6 (zz_QV n (zp_side_14_6 p0 S0)) S n 52 [some (.ref 1079), none, some (zi x2)] [] 0 0) := by
  intro N
  induction N with
  | zero => exact fun x2 S _ _ _ _ _ _ _ _ _ _ _ h => absurd h (Nat.not_lt_zero _)
  | succ N ih =>
    exact fun x2 S a b j0 j1 j2 j3 j4 j5 j6 j7 j8 hR => zb_side_14_6_52 p0 S0 n hn G_S0 hp0 R_S0 h1 x2 S a b j0 j1 j2 j3 j4 j5 j6 j7 j8 _ rfl (fun x2 S a b j0 j1 j2 j3 j4 j5 j6 j7 j8 h => ih x2 S a b j0 j1 j2 j3 j4 j5 j6 j7 j8 (Nat.lt_of_lt_of_le h (Nat.le_of_lt_succ hR)))
theorem zc_side_14_6 {g : mm_G} {l : Launch} (p0 : Int) (S0 : zz_S) (n : Nat) (hn : zz_end ≤ n) (G_S0 : zz_G S0) (hp0 : (-2147483648) ≤ p0 ∧ p0 ≤ 2147483647) (R_S0 : zz_Hr S0) (h1 : 1 ≤ S0 1079 36) : mm_Met g l zy_side_14_6 zr_side_14_6 [.ref 1079, zi p0] (zz_M S0 n) n (zz_QV n (zp_side_14_6 p0 S0)) := by
  refine zz_enter (by decide) (Nat.le_of_ble_eq_true rfl) (zz_less (ls1 := [some (.ref 1079), some (zi p0)]) ⟨rfl, ⟨rfl, trivial⟩⟩ ?_)
  have F_S0 : zz_fr [(1079, 0), (1079, 1), (1079, 36), (1105, 1)] [1081, 1082, 1083, 1084] (fun _ _ => False) S0 S0 := zz_fr.refl
  have k52 : ∀ (x2 : Int) (S : zz_S), zz_G S → zz_fr [(1079, 0), (1079, 1), (1079, 36), (1105, 1)] [1081, 1082, 1083, 1084] (fun _ _ => False) S0 S → (0 ≤ x2 ∧ x2 ≤ 512) → (2 ≤ p0 ∧ p0 ≤ 8) → (2 ≤ p0 ∧ p0 ≤ 8) → (S 1079 36 = 1) → (S 1079 0 = 0) → (2 ≤ p0 ∧ p0 ≤ 8) → (S 1079 1 = p0) → (S 1105 1 = (S0 1102 0 * S0 1103 0) * S0 1104 0) → (S 1079 0 = 0) → zz_E g l zy_side_14_6 zr_side_14_6 (zz_QV n (zp_side_14_6 p0 S0)) S n 52 [some (.ref 1079), none, some (zi x2)] [] 0 0 := fun x2 S a b j0 j1 j2 j3 j4 j5 j6 j7 j8 => (zi_side_14_6 (g := g) (l := l) p0 S0 n hn G_S0 hp0 R_S0 h1 _) x2 S a b j0 j1 j2 j3 j4 j5 j6 j7 j8 (Nat.lt_succ_self _)
  refine zz_aload_n (x := 1079) rfl zd_14_6_0 ?_
  refine zz_iload_n (x := p0) rfl zd_14_6_1 ?_
  refine zz_i2l (by omega) zd_14_6_2 ?_
  refine zz_ldc2 (z := 2) zq_Md_169 (by decide) zd_14_6_3 ?_
  refine zz_ldc2 (z := 8) zq_Md_190 (by decide) zd_14_6_6 ?_
  refine zz_callSI [zl p0, zl 2, zl 8] zd_14_6_9 zk_Md_192 rfl rfl ⟨Nat.le_of_ble_eq_true rfl, Nat.le_of_ble_eq_true rfl⟩ ⟨rfl, rfl⟩ (Nat.zero_le _) (Nat.zero_le _) (zc_in_14_4 p0 2 8 S0 n hn G_S0 (by omega) (by omega) (by omega)) (fun v2 S1 hP => ?_)
  obtain ⟨rfl, o3, o4⟩ := hP
  rcases (by omega : v2 = 0 ∨ v2 = 1) with rfl | rfl
  · have n5 : p0 < 2 ∨ 8 < p0 := by omega
    clear o4
    refine zz_if_ne (by omega) zd_14_6_12 (fun c6 => ?_) (fun c6 => ?_)
    · exfalso; omega
    · refine zz_iconst zd_14_6_15 ?_
      refine zz_goto zd_14_6_16 ?_
      refine zz_iconst zd_14_6_20 ?_
      refine zz_iconst zd_14_6_21 ?_
      refine zz_callVI [zi 1, zi 0, zi 0] zd_14_6_22 zk_Md_196 zT_1079 (zz_ltn hn rfl) rfl rfl ⟨Nat.le_of_ble_eq_true rfl, Nat.le_of_ble_eq_true rfl⟩ ⟨rfl, rfl⟩ (Nat.zero_le _) (Nat.zero_le _) (zc_refuse_14_3 1 0 0 S0 n hn G_S0 (by omega) (by omega) (by omega)) (fun v8 S7 hP => ?_)
      obtain ⟨G_S7, fS7, o9, o10⟩ := hP
      have F_S7 := zz_fr.trans F_S0 fS7 rfl zz_nv
      have R_S7 : zz_Hr S7 := zz_Hr.fr fS7 rfl rfl (fun b j h => h.elim) R_S0
      rcases (by omega : v8 = 0 ∨ v8 = 1) with rfl | rfl
      · exfalso; omega
      · have e11 : S7 1079 0 = 1 := by omega
        clear o10
        refine zz_if_eq (by omega) zd_14_6_25 (fun c12 => ?_) (fun c12 => ?_)
        · exfalso; omega
        · have g13 := zz_G.r G_S0 1079 36 0 11 rfl rfl
          have e14 : S7 1079 36 = S0 1079 36 := (zz_rc fS7 rfl rfl (fun h => h) rfl)
          have g15 := zz_G.r G_S0 1079 1 2 8 rfl rfl
          have e16 : S7 1079 1 = S0 1079 1 := (zz_rc fS7 rfl rfl (fun h => h) rfl)
          exact zz_vret zd_14_6_28 rfl (Nat.zero_le _) (Nat.zero_le _) ⟨_, rfl, G_S7, F_S7, by omega, by omega, (fun v hM hV => ⟨fun h => absurd h (by omega), fun _ => zn_M.fr hM fS7 rfl rfl (fun b j h => h.elim) (by omega)⟩), R_S7⟩
  · have n17 : 2 ≤ p0 ∧ p0 ≤ 8 := by omega
    clear o4
    refine zz_if_ne (by omega) zd_14_6_12 (fun c18 => ?_) (fun c18 => ?_)
    · refine zz_iconst zd_14_6_19 ?_
      refine zz_iconst zd_14_6_20 ?_
      refine zz_iconst zd_14_6_21 ?_
      refine zz_callVI [zi 0, zi 0, zi 0] zd_14_6_22 zk_Md_196 zT_1079 (zz_ltn hn rfl) rfl rfl ⟨Nat.le_of_ble_eq_true rfl, Nat.le_of_ble_eq_true rfl⟩ ⟨rfl, rfl⟩ (Nat.zero_le _) (Nat.zero_le _) (zc_refuse_14_3 0 0 0 S0 n hn G_S0 (by omega) (by omega) (by omega)) (fun v20 S19 hP => ?_)
      obtain ⟨G_S19, fS19, o21, o22⟩ := hP
      have F_S19 := zz_fr.trans F_S0 fS19 rfl zz_nv
      have R_S19 : zz_Hr S19 := zz_Hr.fr fS19 rfl rfl (fun b j h => h.elim) R_S0
      rcases (by omega : v20 = 0 ∨ v20 = 1) with rfl | rfl
      · have e23 : S19 1079 0 = 0 := by omega
        clear o22
        refine zz_if_eq (by omega) zd_14_6_25 (fun c24 => ?_) (fun c24 => ?_)
        · refine zz_aload_n (x := 1079) rfl zd_14_6_29 ?_
          refine zz_iload_n (x := p0) rfl zd_14_6_30 ?_
          refine zz_puti zd_14_6_31 zf_Md_7 zT_1079 rfl (zz_ltn hn rfl) (fun S25 qS25 => ?_)
          have G_S25 := zz_G.put G_S19 qS25 2 8 rfl (by omega)
          have F_S25 := zz_fr.puts F_S19 qS25 rfl
          have R_S25 : zz_Hr S25 := zz_Hr.p79 qS25 (by decide) R_S19
          refine zz_aload_n (x := 1079) rfl zd_14_6_34 ?_
          refine zz_iconst zd_14_6_35 ?_
          refine zz_puti zd_14_6_36 zf_Md_85 zT_1079 rfl (zz_ltn hn rfl) (fun S26 qS26 => ?_)
          have G_S26 := zz_G.put G_S25 qS26 0 11 rfl (by omega)
          have F_S26 := zz_fr.puts F_S25 qS26 rfl
          refine zz_aload_n (x := 1079) rfl zd_14_6_39 ?_
          refine zz_getr (kd := 0) (z := 1105) zd_14_6_40 zf_Md_97 zT_1079 rfl (zz_ltn hn rfl) (zz_G.eq G_S26 1079 40 1105 rfl rfl) (by decide) 1105 rfl ?_
          refine zz_iconst zd_14_6_43 ?_
          refine zz_aload_n (x := 1079) rfl zd_14_6_44 ?_
          refine zz_iconst zd_14_6_45 ?_
          have g27 := zz_G.r G_S0 1102 0 0 63 rfl rfl
          have e28 : S26 1102 0 = S0 1102 0 := (zz_ro qS26 (fun h => absurd h.1 (by decide)) (zz_ro qS25 (fun h => absurd h.1 (by decide)) (zz_rc fS19 rfl rfl (fun h => h) rfl)))
          have g29 := zz_G.r G_S0 1103 0 0 63 rfl rfl
          have e30 : S26 1103 0 = S0 1103 0 := (zz_ro qS26 (fun h => absurd h.1 (by decide)) (zz_ro qS25 (fun h => absurd h.1 (by decide)) (zz_rc fS19 rfl rfl (fun h => h) rfl)))
          have g31 := zz_G.r G_S0 1104 0 0 63 rfl rfl
          have e32 : S26 1104 0 = S0 1104 0 := (zz_ro qS26 (fun h => absurd h.1 (by decide)) (zz_ro qS25 (fun h => absurd h.1 (by decide)) (zz_rc fS19 rfl rfl (fun h => h) rfl)))
          refine zz_callVI [zi 0] zd_14_6_46 zk_Md_200 zT_1079 (zz_ltn hn rfl) rfl rfl ⟨Nat.le_of_ble_eq_true rfl, Nat.le_of_ble_eq_true rfl⟩ ⟨rfl, rfl⟩ (Nat.zero_le _) (Nat.zero_le _) (zc_sizeOf_14_90 0 S26 n hn G_S26 (by omega)) (fun v34 S33 hP => ?_)
          obtain ⟨rfl, o35, o36⟩ := hP
          refine zz_iast zd_14_6_49 zT_1105 rfl (zz_ltn hn rfl) (by decide) (by decide) (fun S37 qS37 => ?_)
          have G_S37 := zz_G.put G_S26 qS37 0 10000000 rfl (by omega)
          have F_S37 := zz_fr.puts F_S26 qS37 rfl
          refine zz_iconst zd_14_6_50 ?_
          refine zz_istore_n [some (.ref 1079), some (zi p0), some (zi 0)] zd_14_6_51 (by decide) rfl ?_
          have e38 : S37 1079 36 = 1 := (zz_ro qS37 (fun h => absurd h.1 (by decide)) (zz_rs qS26))
          have e39 : S37 1079 0 = S19 1079 0 := (zz_ro qS37 (fun h => absurd h.1 (by decide)) (zz_ro qS26 (fun h => absurd h.2 (by decide)) (zz_ro qS25 (fun h => absurd h.2 (by decide)) rfl)))
          have e40 : S37 1079 1 = p0 := (zz_ro qS37 (fun h => absurd h.1 (by decide)) (zz_ro qS26 (fun h => absurd h.2 (by decide)) (zz_rs qS25)))
          have e41 : S37 1105 1 = v34 := (zz_rs qS37)
          refine zz_less (ls1 := [some (.ref 1079), none, some (zi 0)]) ⟨rfl, ⟨rfl, trivial⟩⟩ ?_
          exact k52 0 S37 G_S37 F_S37 (by omega) (by omega) (by omega) (by omega) (by omega) (by omega) (by omega) (by have q9 : v34 = (S26 1102 0 * S26 1103 0) * S26 1104 0 := o36; rw [show S26 1102 0 = S0 1102 0 by omega, show S26 1103 0 = S0 1103 0 by omega, show S26 1104 0 = S0 1104 0 by omega] at q9; omega) (by omega)
        · exfalso; omega
      · exfalso; omega
    · exfalso; omega
abbrev zy_byteOf_14_7 : mm_Y := (⟨"TensorForgeModel", "byteOf", "(II)I"⟩, prog_14_method_7_code, 3, (some .int))
theorem zyw_byteOf_14_7 : mm_Yw zy_byteOf_14_7 2 := ⟨mm_tb_1 1847 (by decide +kernel) rfl, mm_tb_1 12 (by decide +kernel) rfl, ⟨by decide, by decide⟩, by decide +kernel⟩
theorem zg_14_7_0 : zq_at zy_byteOf_14_7.2.1 0 26 ∧ zq_at zy_byteOf_14_7.2.1 1 16 ∧ zq_at zy_byteOf_14_7.2.1 2 8 ∧ zq_at zy_byteOf_14_7.2.1 3 27 ∧ zq_at zy_byteOf_14_7.2.1 4 104 ∧ zq_at zy_byteOf_14_7.2.1 5 122 ∧ zq_at zy_byteOf_14_7.2.1 6 17 ∧ zq_at zy_byteOf_14_7.2.1 7 0 ∧ zq_at zy_byteOf_14_7.2.1 8 255 ∧ zq_at zy_byteOf_14_7.2.1 9 126 ∧ zq_at zy_byteOf_14_7.2.1 10 61 ∧ zq_at zy_byteOf_14_7.2.1 11 28 ∧ zq_at zy_byteOf_14_7.2.1 12 16 ∧ zq_at zy_byteOf_14_7.2.1 13 127 ∧ zq_at zy_byteOf_14_7.2.1 14 164 ∧ zq_at zy_byteOf_14_7.2.1 15 0 ∧ zq_at zy_byteOf_14_7.2.1 16 11 ∧ zq_at zy_byteOf_14_7.2.1 25 28 ∧ zq_at zy_byteOf_14_7.2.1 26 172 ∧ zq_at zy_byteOf_14_7.2.1 17 28 ∧ zq_at zy_byteOf_14_7.2.1 18 17 ∧ zq_at zy_byteOf_14_7.2.1 19 1 ∧ zq_at zy_byteOf_14_7.2.1 20 0 ∧ zq_at zy_byteOf_14_7.2.1 21 100 := by decide +kernel
theorem zd_14_7_0 : zz_D zy_byteOf_14_7 0 (.iload_n 0) 1 1 := ⟨zq_26 zg_14_7_0.1, rfl⟩
theorem zd_14_7_1 : zz_D zy_byteOf_14_7 1 (.bipush 8) 2 3 := ⟨zq_16 zg_14_7_0.2.1 zg_14_7_0.2.2.1 (by decide), rfl⟩
theorem zd_14_7_3 : zz_D zy_byteOf_14_7 3 (.iload_n 1) 1 4 := ⟨zq_27 zg_14_7_0.2.2.2.1, rfl⟩
theorem zd_14_7_4 : zz_D zy_byteOf_14_7 4 (.imul) 1 5 := ⟨zq_104 zg_14_7_0.2.2.2.2.1, rfl⟩
theorem zd_14_7_5 : zz_D zy_byteOf_14_7 5 (.ishr) 1 6 := ⟨zq_122 zg_14_7_0.2.2.2.2.2.1, rfl⟩
theorem zd_14_7_6 : zz_D zy_byteOf_14_7 6 (.sipush 255) 3 9 := ⟨zq_17 zg_14_7_0.2.2.2.2.2.2.1 zg_14_7_0.2.2.2.2.2.2.2.1 zg_14_7_0.2.2.2.2.2.2.2.2.1 (by decide), rfl⟩
theorem zd_14_7_9 : zz_D zy_byteOf_14_7 9 (.iand) 1 10 := ⟨zq_126 zg_14_7_0.2.2.2.2.2.2.2.2.2.1, rfl⟩
theorem zd_14_7_10 : zz_D zy_byteOf_14_7 10 (.istore_n 2) 1 11 := ⟨zq_61 zg_14_7_0.2.2.2.2.2.2.2.2.2.2.1, rfl⟩
theorem zd_14_7_11 : zz_D zy_byteOf_14_7 11 (.iload_n 2) 1 12 := ⟨zq_28 zg_14_7_0.2.2.2.2.2.2.2.2.2.2.2.1, rfl⟩
theorem zd_14_7_12 : zz_D zy_byteOf_14_7 12 (.bipush 127) 2 14 := ⟨zq_16 zg_14_7_0.2.2.2.2.2.2.2.2.2.2.2.2.1 zg_14_7_0.2.2.2.2.2.2.2.2.2.2.2.2.2.1 (by decide), rfl⟩
theorem zd_14_7_14 : zz_B zy_byteOf_14_7 14 (Instr.if_icmp .le) 25 17 := ⟨11, zq_164 zg_14_7_0.2.2.2.2.2.2.2.2.2.2.2.2.2.2.1 zg_14_7_0.2.2.2.2.2.2.2.2.2.2.2.2.2.2.2.1 zg_14_7_0.2.2.2.2.2.2.2.2.2.2.2.2.2.2.2.2.1 (by decide), rfl, rfl⟩
theorem zd_14_7_25 : zz_D zy_byteOf_14_7 25 (.iload_n 2) 1 26 := ⟨zq_28 zg_14_7_0.2.2.2.2.2.2.2.2.2.2.2.2.2.2.2.2.2.1, rfl⟩
theorem zd_14_7_26 : zz_D zy_byteOf_14_7 26 (.ireturn) 1 27 := ⟨zq_172 zg_14_7_0.2.2.2.2.2.2.2.2.2.2.2.2.2.2.2.2.2.2.1, rfl⟩
theorem zd_14_7_17 : zz_D zy_byteOf_14_7 17 (.iload_n 2) 1 18 := ⟨zq_28 zg_14_7_0.2.2.2.2.2.2.2.2.2.2.2.2.2.2.2.2.2.2.2.1, rfl⟩
theorem zd_14_7_18 : zz_D zy_byteOf_14_7 18 (.sipush 256) 3 21 := ⟨zq_17 zg_14_7_0.2.2.2.2.2.2.2.2.2.2.2.2.2.2.2.2.2.2.2.2.1 zg_14_7_0.2.2.2.2.2.2.2.2.2.2.2.2.2.2.2.2.2.2.2.2.2.1 zg_14_7_0.2.2.2.2.2.2.2.2.2.2.2.2.2.2.2.2.2.2.2.2.2.2.1 (by decide), rfl⟩
theorem zd_14_7_21 : zz_D zy_byteOf_14_7 21 (.isub) 1 22 := ⟨zq_100 zg_14_7_0.2.2.2.2.2.2.2.2.2.2.2.2.2.2.2.2.2.2.2.2.2.2.2, rfl⟩
theorem zg_14_7_22 : zq_at zy_byteOf_14_7.2.1 22 167 ∧ zq_at zy_byteOf_14_7.2.1 23 0 ∧ zq_at zy_byteOf_14_7.2.1 24 4 := by decide +kernel
theorem zd_14_7_22 : zz_B zy_byteOf_14_7 22 Instr.goto 26 25 := ⟨4, zq_167 zg_14_7_22.1 zg_14_7_22.2.1 zg_14_7_22.2.2 (by decide), rfl, rfl⟩
-- TensorForgeModel byteOf (II)I
abbrev zr_byteOf_14_7 : Room := { frames := 0, cells := 0, slots := 0, locals := 0 }
def zp_byteOf_14_7 (p0 : Int) (p1 : Int) (S0 : zz_S) : Int → zz_S → Prop := fun r S => S0 = S ∧ ((-128) ≤ r ∧ r ≤ 127)
theorem zc_byteOf_14_7 {g : mm_G} {l : Launch} (p0 : Int) (p1 : Int) (S0 : zz_S) (n : Nat) (hn : zz_end ≤ n) (G_S0 : zz_G S0) (hp0 : (-2147483648) ≤ p0 ∧ p0 ≤ 2147483647) (hp1 : (-2147483648) ≤ p1 ∧ p1 ≤ 2147483647) : mm_Met g l zy_byteOf_14_7 zr_byteOf_14_7 [zi p0, zi p1] (zz_M S0 n) n (zz_QI n (zp_byteOf_14_7 p0 p1 S0)) := by
  refine zz_enter (by decide) (Nat.le_of_ble_eq_true rfl) (zz_less (ls1 := [some (zi p0), some (zi p1)]) ⟨rfl, ⟨rfl, trivial⟩⟩ ?_)
  refine zz_iload_n (x := p0) rfl zd_14_7_0 ?_
  refine zz_bipush (by decide) zd_14_7_1 ?_
  refine zz_iload_n (x := p1) rfl zd_14_7_3 ?_
  refine zz_imul zd_14_7_4 ?_
  refine zz_nrm (fun v1 hv1 ev1 => ?_)
  refine zz_ishr zd_14_7_5 (fun v2 hv2 ev2 => ?_)
  refine zz_sipush (by decide) zd_14_7_6 ?_
  refine zz_iand (by omega) (by omega) zd_14_7_9 (fun v3 hv3 av3 bv3 ev3 => ?_)
  refine zz_istore_n [some (zi p0), some (zi p1), some (zi v3)] zd_14_7_10 (by decide) rfl ?_
  refine zz_iload_n (x := v3) rfl zd_14_7_11 ?_
  refine zz_bipush (by decide) zd_14_7_12 ?_
  refine zz_icmp_le (by omega) (by omega) zd_14_7_14 (fun c4 => ?_) (fun c4 => ?_)
  · refine zz_iload_n (x := v3) rfl zd_14_7_25 ?_
    exact zz_iret zd_14_7_26 rfl (Nat.zero_le _) (Nat.zero_le _) ⟨_, _, rfl, rfl, by omega⟩
  · refine zz_iload_n (x := v3) rfl zd_14_7_17 ?_
    refine zz_sipush (by decide) zd_14_7_18 ?_
    refine zz_isub zd_14_7_21 ?_
    refine zz_goto zd_14_7_22 ?_
    exact zz_iret zd_14_7_26 rfl (Nat.zero_le _) (Nat.zero_le _) ⟨_, _, rfl, rfl, by omega⟩
abbrev zy_memory_14_8 : mm_Y := (⟨"TensorForgeModel", "memory", "(II)V"⟩, prog_14_method_8_code, 4, none)
theorem zyw_memory_14_8 : mm_Yw zy_memory_14_8 2 := ⟨mm_tb_1 1843 (by decide +kernel) rfl, mm_tb_1 12 (by decide +kernel) rfl, ⟨by decide, by decide⟩, by decide +kernel⟩
theorem zq_Md_204 : Cond.constantLong "TensorForgeModel" 204 (4092 : Int64) ∈ mm_tb := mm_tb_1 1844 (by decide +kernel) rfl
theorem zf_Md_13 : mm_Fl "TensorForgeModel" 13 11 2 (.array .int) true := ⟨R_Md, F_Md, 69, t_Md, rfl, i_Md, by decide, mm_tb_1 1613 (by decide +kernel) rfl, rfl, t_Md_ok, n_Md, rfl, by decide +kernel⟩
theorem zk_Md_206 : mm_Sl "TensorForgeModel" 206 2 zy_byteOf_14_7 := ⟨zyw_byteOf_14_7, mm_tb_1 1845 (by decide +kernel) rfl, mm_tb_1 1846 (by decide +kernel) rfl⟩
theorem zg_14_8_0 : zq_at zy_memory_14_8.2.1 0 42 ∧ zq_at zy_memory_14_8.2.1 1 27 ∧ zq_at zy_memory_14_8.2.1 2 133 ∧ zq_at zy_memory_14_8.2.1 3 9 ∧ zq_at zy_memory_14_8.2.1 4 20 ∧ zq_at zy_memory_14_8.2.1 5 0 ∧ zq_at zy_memory_14_8.2.1 6 204 ∧ zq_at zy_memory_14_8.2.1 7 184 ∧ zq_at zy_memory_14_8.2.1 8 0 ∧ zq_at zy_memory_14_8.2.1 9 192 ∧ zq_at zy_memory_14_8.2.1 10 154 ∧ zq_at zy_memory_14_8.2.1 11 0 ∧ zq_at zy_memory_14_8.2.1 12 7 ∧ zq_at zy_memory_14_8.2.1 13 4 ∧ zq_at zy_memory_14_8.2.1 14 167 ∧ zq_at zy_memory_14_8.2.1 15 0 ∧ zq_at zy_memory_14_8.2.1 16 4 ∧ zq_at zy_memory_14_8.2.1 18 3 ∧ zq_at zy_memory_14_8.2.1 19 3 ∧ zq_at zy_memory_14_8.2.1 20 182 ∧ zq_at zy_memory_14_8.2.1 21 0 ∧ zq_at zy_memory_14_8.2.1 22 196 := by decide +kernel
theorem zd_14_8_0 : zz_D zy_memory_14_8 0 (.aload_n 0) 1 1 := ⟨zq_42 zg_14_8_0.1, rfl⟩
theorem zd_14_8_1 : zz_D zy_memory_14_8 1 (.iload_n 1) 1 2 := ⟨zq_27 zg_14_8_0.2.1, rfl⟩
theorem zd_14_8_2 : zz_D zy_memory_14_8 2 (.i2l) 1 3 := ⟨zq_133 zg_14_8_0.2.2.1, rfl⟩
theorem zd_14_8_3 : zz_D zy_memory_14_8 3 (.lconst 0) 1 4 := ⟨zq_9 zg_14_8_0.2.2.2.1, rfl⟩
theorem zd_14_8_4 : zz_D zy_memory_14_8 4 (.ldc2_w 204) 3 7 := ⟨zq_20 zg_14_8_0.2.2.2.2.1 zg_14_8_0.2.2.2.2.2.1 zg_14_8_0.2.2.2.2.2.2.1 rfl, rfl⟩
theorem zd_14_8_7 : zz_D zy_memory_14_8 7 (.invokestatic 192) 3 10 := ⟨zq_184 zg_14_8_0.2.2.2.2.2.2.2.1 zg_14_8_0.2.2.2.2.2.2.2.2.1 zg_14_8_0.2.2.2.2.2.2.2.2.2.1 rfl, rfl⟩
theorem zd_14_8_10 : zz_B zy_memory_14_8 10 (Instr.ifCond .ne) 17 13 := ⟨7, zq_154 zg_14_8_0.2.2.2.2.2.2.2.2.2.2.1 zg_14_8_0.2.2.2.2.2.2.2.2.2.2.2.1 zg_14_8_0.2.2.2.2.2.2.2.2.2.2.2.2.1 (by decide), rfl, rfl⟩
theorem zd_14_8_13 : zz_D zy_memory_14_8 13 (.iconst 1) 1 14 := ⟨zq_4 zg_14_8_0.2.2.2.2.2.2.2.2.2.2.2.2.2.1, rfl⟩
theorem zd_14_8_14 : zz_B zy_memory_14_8 14 Instr.goto 18 17 := ⟨4, zq_167 zg_14_8_0.2.2.2.2.2.2.2.2.2.2.2.2.2.2.1 zg_14_8_0.2.2.2.2.2.2.2.2.2.2.2.2.2.2.2.1 zg_14_8_0.2.2.2.2.2.2.2.2.2.2.2.2.2.2.2.2.1 (by decide), rfl, rfl⟩
theorem zd_14_8_18 : zz_D zy_memory_14_8 18 (.iconst 0) 1 19 := ⟨zq_3 zg_14_8_0.2.2.2.2.2.2.2.2.2.2.2.2.2.2.2.2.2.1, rfl⟩
theorem zd_14_8_19 : zz_D zy_memory_14_8 19 (.iconst 0) 1 20 := ⟨zq_3 zg_14_8_0.2.2.2.2.2.2.2.2.2.2.2.2.2.2.2.2.2.2.1, rfl⟩
theorem zd_14_8_20 : zz_D zy_memory_14_8 20 (.invokevirtual 196) 3 23 := ⟨zq_182 zg_14_8_0.2.2.2.2.2.2.2.2.2.2.2.2.2.2.2.2.2.2.2.1 zg_14_8_0.2.2.2.2.2.2.2.2.2.2.2.2.2.2.2.2.2.2.2.2.1 zg_14_8_0.2.2.2.2.2.2.2.2.2.2.2.2.2.2.2.2.2.2.2.2.2 rfl, rfl⟩
theorem zg_14_8_23 : zq_at zy_memory_14_8.2.1 23 154 ∧ zq_at zy_memory_14_8.2.1 24 0 ∧ zq_at zy_memory_14_8.2.1 25 29 ∧ zq_at zy_memory_14_8.2.1 52 177 ∧ zq_at zy_memory_14_8.2.1 17 3 ∧ zq_at zy_memory_14_8.2.1 26 3 ∧ zq_at zy_memory_14_8.2.1 27 62 ∧ zq_at zy_memory_14_8.2.1 28 29 ∧ zq_at zy_memory_14_8.2.1 29 7 ∧ zq_at zy_memory_14_8.2.1 30 162 ∧ zq_at zy_memory_14_8.2.1 31 0 ∧ zq_at zy_memory_14_8.2.1 32 22 ∧ zq_at zy_memory_14_8.2.1 33 42 ∧ zq_at zy_memory_14_8.2.1 34 180 ∧ zq_at zy_memory_14_8.2.1 35 0 ∧ zq_at zy_memory_14_8.2.1 36 13 ∧ zq_at zy_memory_14_8.2.1 37 27 ∧ zq_at zy_memory_14_8.2.1 38 29 ∧ zq_at zy_memory_14_8.2.1 39 96 ∧ zq_at zy_memory_14_8.2.1 40 28 ∧ zq_at zy_memory_14_8.2.1 41 29 ∧ zq_at zy_memory_14_8.2.1 42 184 ∧ zq_at zy_memory_14_8.2.1 43 0 ∧ zq_at zy_memory_14_8.2.1 44 206 := by decide +kernel
theorem zd_14_8_23 : zz_B zy_memory_14_8 23 (Instr.ifCond .ne) 52 26 := ⟨29, zq_154 zg_14_8_23.1 zg_14_8_23.2.1 zg_14_8_23.2.2.1 (by decide), rfl, rfl⟩
theorem zd_14_8_52 : zz_D zy_memory_14_8 52 (.return_) 1 53 := ⟨zq_177 zg_14_8_23.2.2.2.1, rfl⟩
theorem zd_14_8_17 : zz_D zy_memory_14_8 17 (.iconst 0) 1 18 := ⟨zq_3 zg_14_8_23.2.2.2.2.1, rfl⟩
theorem zd_14_8_26 : zz_D zy_memory_14_8 26 (.iconst 0) 1 27 := ⟨zq_3 zg_14_8_23.2.2.2.2.2.1, rfl⟩
theorem zd_14_8_27 : zz_D zy_memory_14_8 27 (.istore_n 3) 1 28 := ⟨zq_62 zg_14_8_23.2.2.2.2.2.2.1, rfl⟩
theorem zd_14_8_28 : zz_D zy_memory_14_8 28 (.iload_n 3) 1 29 := ⟨zq_29 zg_14_8_23.2.2.2.2.2.2.2.1, rfl⟩
theorem zd_14_8_29 : zz_D zy_memory_14_8 29 (.iconst 4) 1 30 := ⟨zq_7 zg_14_8_23.2.2.2.2.2.2.2.2.1, rfl⟩
theorem zd_14_8_30 : zz_B zy_memory_14_8 30 (Instr.if_icmp .ge) 52 33 := ⟨22, zq_162 zg_14_8_23.2.2.2.2.2.2.2.2.2.1 zg_14_8_23.2.2.2.2.2.2.2.2.2.2.1 zg_14_8_23.2.2.2.2.2.2.2.2.2.2.2.1 (by decide), rfl, rfl⟩
theorem zd_14_8_33 : zz_D zy_memory_14_8 33 (.aload_n 0) 1 34 := ⟨zq_42 zg_14_8_23.2.2.2.2.2.2.2.2.2.2.2.2.1, rfl⟩
theorem zd_14_8_34 : zz_D zy_memory_14_8 34 (.getfield 13) 3 37 := ⟨zq_180 zg_14_8_23.2.2.2.2.2.2.2.2.2.2.2.2.2.1 zg_14_8_23.2.2.2.2.2.2.2.2.2.2.2.2.2.2.1 zg_14_8_23.2.2.2.2.2.2.2.2.2.2.2.2.2.2.2.1 rfl, rfl⟩
theorem zd_14_8_37 : zz_D zy_memory_14_8 37 (.iload_n 1) 1 38 := ⟨zq_27 zg_14_8_23.2.2.2.2.2.2.2.2.2.2.2.2.2.2.2.2.1, rfl⟩
theorem zd_14_8_38 : zz_D zy_memory_14_8 38 (.iload_n 3) 1 39 := ⟨zq_29 zg_14_8_23.2.2.2.2.2.2.2.2.2.2.2.2.2.2.2.2.2.1, rfl⟩
theorem zd_14_8_39 : zz_D zy_memory_14_8 39 (.iadd) 1 40 := ⟨zq_96 zg_14_8_23.2.2.2.2.2.2.2.2.2.2.2.2.2.2.2.2.2.2.1, rfl⟩
theorem zd_14_8_40 : zz_D zy_memory_14_8 40 (.iload_n 2) 1 41 := ⟨zq_28 zg_14_8_23.2.2.2.2.2.2.2.2.2.2.2.2.2.2.2.2.2.2.2.1, rfl⟩
theorem zd_14_8_41 : zz_D zy_memory_14_8 41 (.iload_n 3) 1 42 := ⟨zq_29 zg_14_8_23.2.2.2.2.2.2.2.2.2.2.2.2.2.2.2.2.2.2.2.2.1, rfl⟩
theorem zd_14_8_42 : zz_D zy_memory_14_8 42 (.invokestatic 206) 3 45 := ⟨zq_184 zg_14_8_23.2.2.2.2.2.2.2.2.2.2.2.2.2.2.2.2.2.2.2.2.2.1 zg_14_8_23.2.2.2.2.2.2.2.2.2.2.2.2.2.2.2.2.2.2.2.2.2.2.1 zg_14_8_23.2.2.2.2.2.2.2.2.2.2.2.2.2.2.2.2.2.2.2.2.2.2.2 rfl, rfl⟩
theorem zg_14_8_45 : zq_at zy_memory_14_8.2.1 45 79 ∧ zq_at zy_memory_14_8.2.1 46 132 ∧ zq_at zy_memory_14_8.2.1 47 3 ∧ zq_at zy_memory_14_8.2.1 48 1 ∧ zq_at zy_memory_14_8.2.1 49 167 ∧ zq_at zy_memory_14_8.2.1 50 255 ∧ zq_at zy_memory_14_8.2.1 51 235 := by decide +kernel
theorem zd_14_8_45 : zz_D zy_memory_14_8 45 (.iastore) 1 46 := ⟨zq_79 zg_14_8_45.1, rfl⟩
theorem zd_14_8_46 : zz_D zy_memory_14_8 46 (.iinc 3 1) 3 49 := ⟨zq_132 zg_14_8_45.2.1 zg_14_8_45.2.2.1 zg_14_8_45.2.2.2.1 (by decide), rfl⟩
theorem zd_14_8_49 : zz_B zy_memory_14_8 49 Instr.goto 28 52 := ⟨(-21), zq_167 zg_14_8_45.2.2.2.2.1 zg_14_8_45.2.2.2.2.2.1 zg_14_8_45.2.2.2.2.2.2 (by decide), rfl, rfl⟩
-- TensorForgeModel memory (II)V
abbrev zr_memory_14_8 : Room := { frames := 1, cells := 0, slots := 0, locals := 18 }
def zp_memory_14_8 (p0 : Int) (p1 : Int) (S0 : zz_S) : zz_S → Prop := fun S => zz_G S ∧ zz_fr [(1079, 0)] [1080] (fun _ _ => False) S0 S ∧ ((0 ≤ p0 ∧ p0 ≤ 4092 ∧ S 1079 0 = 0) ∨ ((p0 < 0 ∨ 4092 < p0) ∧ S 1079 0 = 1))
theorem zb_memory_14_8_28 {g : mm_G} {l : Launch} (p0 : Int) (p1 : Int) (S0 : zz_S) (n : Nat) (hn : zz_end ≤ n) (G_S0 : zz_G S0) (hp0 : (-2147483648) ≤ p0 ∧ p0 ≤ 2147483647) (hp1 : (-2147483648) ≤ p1 ∧ p1 ≤ 2147483647) (x3 : Int) (S : zz_S) (G_S : zz_G S) (F_S : zz_fr [(1079, 0)] [1080] (fun _ _ => False) S0 S) (i28_0 : 0 ≤ x3 ∧ x3 ≤ 4) (i28_1 : 0 ≤ p0 ∧ p0 ≤ 4092) (i28_2 : 0 ≤ p0 ∧ p0 ≤ 4092) (i28_3 : S 1079 0 = 0) (i28_4 : 0 ≤ p0 ∧ p0 ≤ 4092) (R : Nat) (hR : (4 - x3).toNat = R) (k28 : ∀ (x3 : Int) (S : zz_S), zz_G S → zz_fr [(1079, 0)] [1080] (fun _ _ => False) S0 S → (0 ≤ x3 ∧ x3 ≤ 4) → (0 ≤ p0 ∧ p0 ≤ 4092) → (0 ≤ p0 ∧ p0 ≤ 4092) → (S 1079 0 = 0) → (0 ≤ p0 ∧ p0 ≤ 4092) → (4 - x3).toNat < R → zz_E g l zy_memory_14_8 zr_memory_14_8 (zz_QV n (zp_memory_14_8 p0 p1 S0)) S n 28 [some (.ref 1079), some (zi p0), some (zi p1), some (zi x3)] [] 0 0) : zz_E g l zy_memory_14_8 zr_memory_14_8 (zz_QV n (zp_memory_14_8 p0 p1 S0)) S n 28 [some (.ref 1079), some (zi p0), some (zi p1), some (zi x3)] [] 0 0 := by
  refine zz_iload_n (x := x3) rfl zd_14_8_28 ?_
  refine zz_iconst zd_14_8_29 ?_
  refine zz_icmp_ge (by omega) (by omega) zd_14_8_30 (fun c21 => ?_) (fun c21 => ?_)
  · have g22 := zz_G.r G_S 1079 0 0 3 rfl rfl
    exact zz_vret zd_14_8_52 rfl (Nat.zero_le _) (Nat.zero_le _) ⟨_, rfl, G_S, F_S, by omega⟩
  · refine zz_aload_n (x := 1079) rfl zd_14_8_33 ?_
    refine zz_getr (kd := 0) (z := 1080) zd_14_8_34 zf_Md_13 zT_1079 rfl (zz_ltn hn rfl) (zz_G.eq G_S 1079 2 1080 rfl rfl) (by decide) 1080 rfl ?_
    refine zz_iload_n (x := p0) rfl zd_14_8_37 ?_
    refine zz_iload_n (x := x3) rfl zd_14_8_38 ?_
    refine zz_iadd zd_14_8_39 ?_
    refine zz_iload_n (x := p1) rfl zd_14_8_40 ?_
    refine zz_iload_n (x := x3) rfl zd_14_8_41 ?_
    refine zz_callSI [zi p1, zi x3] zd_14_8_42 zk_Md_206 rfl rfl ⟨Nat.le_of_ble_eq_true rfl, Nat.le_of_ble_eq_true rfl⟩ ⟨rfl, rfl⟩ (Nat.zero_le _) (Nat.zero_le _) (zc_byteOf_14_7 p1 x3 S n hn G_S (by omega) (by omega)) (fun v24 S23 hP => ?_)
    obtain ⟨rfl, o25⟩ := hP
    refine zz_iast zd_14_8_45 zT_1080 rfl (zz_ltn hn rfl) (by decide) (by omega) (fun S26 qS26 => ?_)
    have G_S26 := zz_G.put G_S qS26 (-2147483648) 2147483647 rfl (by omega)
    have F_S26 := zz_fr.putc F_S qS26 rfl
    refine zz_iinc [some (.ref 1079), some (zi p0), some (zi p1), some (zi (x3 + 1))] zd_14_8_46 rfl rfl ?_
    refine zz_goto zd_14_8_49 ?_
    have g27 := zz_G.r G_S 1079 0 0 3 rfl rfl
    have e28 : S26 1079 0 = S 1079 0 := (zz_ro qS26 (fun h => absurd h.1 (by decide)) rfl)
    refine zz_less (ls1 := [some (.ref 1079), some (zi p0), some (zi p1), some (zi (x3 + 1))]) ⟨rfl, ⟨rfl, ⟨rfl, ⟨rfl, trivial⟩⟩⟩⟩ ?_
    exact k28 (x3 + 1) S26 G_S26 F_S26 (by omega) (by omega) (by omega) (by omega) (by omega) (by omega)
theorem zi_memory_14_8 {g : mm_G} {l : Launch} (p0 : Int) (p1 : Int) (S0 : zz_S) (n : Nat) (hn : zz_end ≤ n) (G_S0 : zz_G S0) (hp0 : (-2147483648) ≤ p0 ∧ p0 ≤ 2147483647) (hp1 : (-2147483648) ≤ p1 ∧ p1 ≤ 2147483647) : ∀ N : Nat, (∀ (x3 : Int) (S : zz_S), zz_G S → zz_fr [(1079, 0)] [1080] (fun _ _ => False) S0 S → (0 ≤ x3 ∧ x3 ≤ 4) → (0 ≤ p0 ∧ p0 ≤ 4092) → (0 ≤ p0 ∧ p0 ≤ 4092) → (S 1079 0 = 0) → (0 ≤ p0 ∧ p0 ≤ 4092) → (4 - x3).toNat < N → zz_E g l zy_memory_14_8 zr_memory_14_8 (zz_QV n (zp_memory_14_8 p0 p1 S0)) S n 28 [some (.ref 1079), some (zi p0), some (zi p1), some (zi x3)] [] 0 0) := by
  intro N
  induction N with
  | zero => exact fun x3 S _ _ _ _ _ _ _ h => absurd h (Nat.not_lt_zero _)
  | succ N ih =>
    exact fun x3 S a b j0 j1 j2 j3 j4 hR => zb_memory_14_8_28 p0 p1 S0 n hn G_S0 hp0 hp1 x3 S a b j0 j1 j2 j3 j4 _ rfl (fun x3 S a b j0 j1 j2 j3 j4 h => ih x3 S a b j0 j1 j2 j3 j4 (Nat.lt_of_lt_of_le h (Nat.le_of_lt_succ hR)))
theorem zc_memory_14_8 {g : mm_G} {l : Launch} (p0 : Int) (p1 : Int) (S0 : zz_S) (n : Nat) (hn : zz_end ≤ n) (G_S0 : zz_G S0) (hp0 : (-2147483648) ≤ p0 ∧ p0 ≤ 2147483647) (hp1 : (-2147483648) ≤ p1 ∧ p1 ≤ 2147483647) : mm_Met g l zy_memory_14_8 zr_memory_14_8 [.ref 1079, zi p0, zi p1] (zz_M S0 n) n (zz_QV n (zp_memory_14_8 p0 p1 S0)) := by
  refine zz_enter (by decide) (Nat.le_of_ble_eq_true rfl) (zz_less (ls1 := [some (.ref 1079), some (zi p0), some (zi p1)]) ⟨rfl, ⟨rfl, ⟨rfl, trivial⟩⟩⟩ ?_)
  have F_S0 : zz_fr [(1079, 0)] [1080] (fun _ _ => False) S0 S0 := zz_fr.refl
  have k28 : ∀ (x3 : Int) (S : zz_S), zz_G S → zz_fr [(1079, 0)] [1080] (fun _ _ => False) S0 S → (0 ≤ x3 ∧ x3 ≤ 4) → (0 ≤ p0 ∧ p0 ≤ 4092) → (0 ≤ p0 ∧ p0 ≤ 4092) → (S 1079 0 = 0) → (0 ≤ p0 ∧ p0 ≤ 4092) → zz_E g l zy_memory_14_8 zr_memory_14_8 (zz_QV n (zp_memory_14_8 p0 p1 S0)) S n 28 [some (.ref 1079), some (zi p0), some (zi p1), some (zi x3)] [] 0 0 := fun x3 S a b j0 j1 j2 j3 j4 => (zi_memory_14_8 (g := g) (l := l) p0 p1 S0 n hn G_S0 hp0 hp1 _) x3 S a b j0 j1 j2 j3 j4 (Nat.lt_succ_self _)
  refine zz_aload_n (x := 1079) rfl zd_14_8_0 ?_
  refine zz_iload_n (x := p0) rfl zd_14_8_1 ?_
  refine zz_i2l (by omega) zd_14_8_2 ?_
  refine zz_lconst (z := 0) (by decide) zd_14_8_3 ?_
  refine zz_ldc2 (z := 4092) zq_Md_204 (by decide) zd_14_8_4 ?_
  refine zz_callSI [zl p0, zl 0, zl 4092] zd_14_8_7 zk_Md_192 rfl rfl ⟨Nat.le_of_ble_eq_true rfl, Nat.le_of_ble_eq_true rfl⟩ ⟨rfl, rfl⟩ (Nat.zero_le _) (Nat.zero_le _) (zc_in_14_4 p0 0 4092 S0 n hn G_S0 (by omega) (by omega) (by omega)) (fun v2 S1 hP => ?_)
  obtain ⟨rfl, o3, o4⟩ := hP
  rcases (by omega : v2 = 0 ∨ v2 = 1) with rfl | rfl
  · have n5 : p0 < 0 ∨ 4092 < p0 := by omega
    clear o4
    refine zz_if_ne (by omega) zd_14_8_10 (fun c6 => ?_) (fun c6 => ?_)
    · exfalso; omega
    · refine zz_iconst zd_14_8_13 ?_
      refine zz_goto zd_14_8_14 ?_
      refine zz_iconst zd_14_8_18 ?_
      refine zz_iconst zd_14_8_19 ?_
      refine zz_callVI [zi 1, zi 0, zi 0] zd_14_8_20 zk_Md_196 zT_1079 (zz_ltn hn rfl) rfl rfl ⟨Nat.le_of_ble_eq_true rfl, Nat.le_of_ble_eq_true rfl⟩ ⟨rfl, rfl⟩ (Nat.zero_le _) (Nat.zero_le _) (zc_refuse_14_3 1 0 0 S0 n hn G_S0 (by omega) (by omega) (by omega)) (fun v8 S7 hP => ?_)
      obtain ⟨G_S7, fS7, o9, o10⟩ := hP
      have F_S7 := zz_fr.trans F_S0 fS7 rfl zz_nv
      rcases (by omega : v8 = 0 ∨ v8 = 1) with rfl | rfl
      · exfalso; omega
      · have e11 : S7 1079 0 = 1 := by omega
        clear o10
        refine zz_if_ne (by omega) zd_14_8_23 (fun c12 => ?_) (fun c12 => ?_)
        · exact zz_vret zd_14_8_52 rfl (Nat.zero_le _) (Nat.zero_le _) ⟨_, rfl, G_S7, F_S7, by omega⟩
        · exfalso; omega
  · have n13 : 0 ≤ p0 ∧ p0 ≤ 4092 := by omega
    clear o4
    refine zz_if_ne (by omega) zd_14_8_10 (fun c14 => ?_) (fun c14 => ?_)
    · refine zz_iconst zd_14_8_17 ?_
      refine zz_iconst zd_14_8_18 ?_
      refine zz_iconst zd_14_8_19 ?_
      refine zz_callVI [zi 0, zi 0, zi 0] zd_14_8_20 zk_Md_196 zT_1079 (zz_ltn hn rfl) rfl rfl ⟨Nat.le_of_ble_eq_true rfl, Nat.le_of_ble_eq_true rfl⟩ ⟨rfl, rfl⟩ (Nat.zero_le _) (Nat.zero_le _) (zc_refuse_14_3 0 0 0 S0 n hn G_S0 (by omega) (by omega) (by omega)) (fun v16 S15 hP => ?_)
      obtain ⟨G_S15, fS15, o17, o18⟩ := hP
      have F_S15 := zz_fr.trans F_S0 fS15 rfl zz_nv
      rcases (by omega : v16 = 0 ∨ v16 = 1) with rfl | rfl
      · have e19 : S15 1079 0 = 0 := by omega
        clear o18
        refine zz_if_ne (by omega) zd_14_8_23 (fun c20 => ?_) (fun c20 => ?_)
        · exfalso; omega
        · refine zz_iconst zd_14_8_26 ?_
          refine zz_istore_n [some (.ref 1079), some (zi p0), some (zi p1), some (zi 0)] zd_14_8_27 (by decide) rfl ?_
          refine zz_less (ls1 := [some (.ref 1079), some (zi p0), some (zi p1), some (zi 0)]) ⟨rfl, ⟨rfl, ⟨rfl, ⟨rfl, trivial⟩⟩⟩⟩ ?_
          exact k28 0 S15 G_S15 F_S15 (by omega) (by omega) (by omega) (by omega) (by omega)
      · exfalso; omega
    · exfalso; omega
abbrev zy_roomOf_14_9 : mm_Y := (⟨"TensorForgeModel", "roomOf", "(I)I"⟩, prog_14_method_9_code, 1, (some .int))
theorem zyw_roomOf_14_9 : mm_Yw zy_roomOf_14_9 1 := ⟨mm_tb_1 1855 (by decide +kernel) rfl, mm_tb_1 12 (by decide +kernel) rfl, ⟨by decide, by decide⟩, by decide +kernel⟩
theorem zg_14_9_0 : zq_at zy_roomOf_14_9.2.1 0 26 ∧ zq_at zy_roomOf_14_9.2.1 1 154 ∧ zq_at zy_roomOf_14_9.2.1 2 0 ∧ zq_at zy_roomOf_14_9.2.1 3 9 ∧ zq_at zy_roomOf_14_9.2.1 10 26 ∧ zq_at zy_roomOf_14_9.2.1 11 4 ∧ zq_at zy_roomOf_14_9.2.1 12 160 ∧ zq_at zy_roomOf_14_9.2.1 13 0 ∧ zq_at zy_roomOf_14_9.2.1 14 9 ∧ zq_at zy_roomOf_14_9.2.1 21 26 ∧ zq_at zy_roomOf_14_9.2.1 22 5 ∧ zq_at zy_roomOf_14_9.2.1 23 160 ∧ zq_at zy_roomOf_14_9.2.1 24 0 ∧ zq_at zy_roomOf_14_9.2.1 25 9 ∧ zq_at zy_roomOf_14_9.2.1 32 26 ∧ zq_at zy_roomOf_14_9.2.1 33 6 ∧ zq_at zy_roomOf_14_9.2.1 34 160 ∧ zq_at zy_roomOf_14_9.2.1 35 0 ∧ zq_at zy_roomOf_14_9.2.1 36 9 ∧ zq_at zy_roomOf_14_9.2.1 43 17 ∧ zq_at zy_roomOf_14_9.2.1 44 1 ∧ zq_at zy_roomOf_14_9.2.1 45 0 ∧ zq_at zy_roomOf_14_9.2.1 46 172 := by decide +kernel
theorem zd_14_9_0 : zz_D zy_roomOf_14_9 0 (.iload_n 0) 1 1 := ⟨zq_26 zg_14_9_0.1, rfl⟩
theorem zd_14_9_1 : zz_B zy_roomOf_14_9 1 (Instr.ifCond .ne) 10 4 := ⟨9, zq_154 zg_14_9_0.2.1 zg_14_9_0.2.2.1 zg_14_9_0.2.2.2.1 (by decide), rfl, rfl⟩
theorem zd_14_9_10 : zz_D zy_roomOf_14_9 10 (.iload_n 0) 1 11 := ⟨zq_26 zg_14_9_0.2.2.2.2.1, rfl⟩
theorem zd_14_9_11 : zz_D zy_roomOf_14_9 11 (.iconst 1) 1 12 := ⟨zq_4 zg_14_9_0.2.2.2.2.2.1, rfl⟩
theorem zd_14_9_12 : zz_B zy_roomOf_14_9 12 (Instr.if_icmp .ne) 21 15 := ⟨9, zq_160 zg_14_9_0.2.2.2.2.2.2.1 zg_14_9_0.2.2.2.2.2.2.2.1 zg_14_9_0.2.2.2.2.2.2.2.2.1 (by decide), rfl, rfl⟩
theorem zd_14_9_21 : zz_D zy_roomOf_14_9 21 (.iload_n 0) 1 22 := ⟨zq_26 zg_14_9_0.2.2.2.2.2.2.2.2.2.1, rfl⟩
theorem zd_14_9_22 : zz_D zy_roomOf_14_9 22 (.iconst 2) 1 23 := ⟨zq_5 zg_14_9_0.2.2.2.2.2.2.2.2.2.2.1, rfl⟩
theorem zd_14_9_23 : zz_B zy_roomOf_14_9 23 (Instr.if_icmp .ne) 32 26 := ⟨9, zq_160 zg_14_9_0.2.2.2.2.2.2.2.2.2.2.2.1 zg_14_9_0.2.2.2.2.2.2.2.2.2.2.2.2.1 zg_14_9_0.2.2.2.2.2.2.2.2.2.2.2.2.2.1 (by decide), rfl, rfl⟩
theorem zd_14_9_32 : zz_D zy_roomOf_14_9 32 (.iload_n 0) 1 33 := ⟨zq_26 zg_14_9_0.2.2.2.2.2.2.2.2.2.2.2.2.2.2.1, rfl⟩
theorem zd_14_9_33 : zz_D zy_roomOf_14_9 33 (.iconst 3) 1 34 := ⟨zq_6 zg_14_9_0.2.2.2.2.2.2.2.2.2.2.2.2.2.2.2.1, rfl⟩
theorem zd_14_9_34 : zz_B zy_roomOf_14_9 34 (Instr.if_icmp .ne) 43 37 := ⟨9, zq_160 zg_14_9_0.2.2.2.2.2.2.2.2.2.2.2.2.2.2.2.2.1 zg_14_9_0.2.2.2.2.2.2.2.2.2.2.2.2.2.2.2.2.2.1 zg_14_9_0.2.2.2.2.2.2.2.2.2.2.2.2.2.2.2.2.2.2.1 (by decide), rfl, rfl⟩
theorem zd_14_9_43 : zz_D zy_roomOf_14_9 43 (.sipush 256) 3 46 := ⟨zq_17 zg_14_9_0.2.2.2.2.2.2.2.2.2.2.2.2.2.2.2.2.2.2.2.1 zg_14_9_0.2.2.2.2.2.2.2.2.2.2.2.2.2.2.2.2.2.2.2.2.1 zg_14_9_0.2.2.2.2.2.2.2.2.2.2.2.2.2.2.2.2.2.2.2.2.2.1 (by decide), rfl⟩
theorem zd_14_9_46 : zz_D zy_roomOf_14_9 46 (.ireturn) 1 47 := ⟨zq_172 zg_14_9_0.2.2.2.2.2.2.2.2.2.2.2.2.2.2.2.2.2.2.2.2.2.2, rfl⟩
theorem zg_14_9_37 : zq_at zy_roomOf_14_9.2.1 37 17 ∧ zq_at zy_roomOf_14_9.2.1 38 1 ∧ zq_at zy_roomOf_14_9.2.1 39 0 ∧ zq_at zy_roomOf_14_9.2.1 40 167 ∧ zq_at zy_roomOf_14_9.2.1 41 0 ∧ zq_at zy_roomOf_14_9.2.1 42 6 ∧ zq_at zy_roomOf_14_9.2.1 26 17 ∧ zq_at zy_roomOf_14_9.2.1 27 2 ∧ zq_at zy_roomOf_14_9.2.1 28 0 ∧ zq_at zy_roomOf_14_9.2.1 29 167 ∧ zq_at zy_roomOf_14_9.2.1 30 0 ∧ zq_at zy_roomOf_14_9.2.1 31 17 ∧ zq_at zy_roomOf_14_9.2.1 15 17 ∧ zq_at zy_roomOf_14_9.2.1 16 2 ∧ zq_at zy_roomOf_14_9.2.1 17 0 ∧ zq_at zy_roomOf_14_9.2.1 18 167 ∧ zq_at zy_roomOf_14_9.2.1 19 0 ∧ zq_at zy_roomOf_14_9.2.1 20 28 ∧ zq_at zy_roomOf_14_9.2.1 4 17 ∧ zq_at zy_roomOf_14_9.2.1 5 16 ∧ zq_at zy_roomOf_14_9.2.1 6 0 ∧ zq_at zy_roomOf_14_9.2.1 7 167 ∧ zq_at zy_roomOf_14_9.2.1 8 0 ∧ zq_at zy_roomOf_14_9.2.1 9 39 := by decide +kernel
theorem zd_14_9_37 : zz_D zy_roomOf_14_9 37 (.sipush 256) 3 40 := ⟨zq_17 zg_14_9_37.1 zg_14_9_37.2.1 zg_14_9_37.2.2.1 (by decide), rfl⟩
theorem zd_14_9_40 : zz_B zy_roomOf_14_9 40 Instr.goto 46 43 := ⟨6, zq_167 zg_14_9_37.2.2.2.1 zg_14_9_37.2.2.2.2.1 zg_14_9_37.2.2.2.2.2.1 (by decide), rfl, rfl⟩
theorem zd_14_9_26 : zz_D zy_roomOf_14_9 26 (.sipush 512) 3 29 := ⟨zq_17 zg_14_9_37.2.2.2.2.2.2.1 zg_14_9_37.2.2.2.2.2.2.2.1 zg_14_9_37.2.2.2.2.2.2.2.2.1 (by decide), rfl⟩
theorem zd_14_9_29 : zz_B zy_roomOf_14_9 29 Instr.goto 46 32 := ⟨17, zq_167 zg_14_9_37.2.2.2.2.2.2.2.2.2.1 zg_14_9_37.2.2.2.2.2.2.2.2.2.2.1 zg_14_9_37.2.2.2.2.2.2.2.2.2.2.2.1 (by decide), rfl, rfl⟩
theorem zd_14_9_15 : zz_D zy_roomOf_14_9 15 (.sipush 512) 3 18 := ⟨zq_17 zg_14_9_37.2.2.2.2.2.2.2.2.2.2.2.2.1 zg_14_9_37.2.2.2.2.2.2.2.2.2.2.2.2.2.1 zg_14_9_37.2.2.2.2.2.2.2.2.2.2.2.2.2.2.1 (by decide), rfl⟩
theorem zd_14_9_18 : zz_B zy_roomOf_14_9 18 Instr.goto 46 21 := ⟨28, zq_167 zg_14_9_37.2.2.2.2.2.2.2.2.2.2.2.2.2.2.2.1 zg_14_9_37.2.2.2.2.2.2.2.2.2.2.2.2.2.2.2.2.1 zg_14_9_37.2.2.2.2.2.2.2.2.2.2.2.2.2.2.2.2.2.1 (by decide), rfl, rfl⟩
theorem zd_14_9_4 : zz_D zy_roomOf_14_9 4 (.sipush 4096) 3 7 := ⟨zq_17 zg_14_9_37.2.2.2.2.2.2.2.2.2.2.2.2.2.2.2.2.2.2.1 zg_14_9_37.2.2.2.2.2.2.2.2.2.2.2.2.2.2.2.2.2.2.2.1 zg_14_9_37.2.2.2.2.2.2.2.2.2.2.2.2.2.2.2.2.2.2.2.2.1 (by decide), rfl⟩
theorem zd_14_9_7 : zz_B zy_roomOf_14_9 7 Instr.goto 46 10 := ⟨39, zq_167 zg_14_9_37.2.2.2.2.2.2.2.2.2.2.2.2.2.2.2.2.2.2.2.2.2.1 zg_14_9_37.2.2.2.2.2.2.2.2.2.2.2.2.2.2.2.2.2.2.2.2.2.2.1 zg_14_9_37.2.2.2.2.2.2.2.2.2.2.2.2.2.2.2.2.2.2.2.2.2.2.2 (by decide), rfl, rfl⟩
-- TensorForgeModel roomOf (I)I
abbrev zr_roomOf_14_9 : Room := { frames := 0, cells := 0, slots := 0, locals := 0 }
def zp_roomOf_14_9 (p0 : Int) (S0 : zz_S) : Int → zz_S → Prop := fun r S => S0 = S ∧ (256 ≤ r ∧ r ≤ 4096) ∧ ((p0 = 0 ∧ r = 4096) ∨ (p0 = 1 ∧ r = 512) ∨ (p0 = 2 ∧ r = 512) ∨ (p0 = 3 ∧ r = 256) ∨ (p0 ≠ 0 ∧ p0 ≠ 1 ∧ p0 ≠ 2 ∧ p0 ≠ 3 ∧ r = 256))
theorem zc_roomOf_14_9 {g : mm_G} {l : Launch} (p0 : Int) (S0 : zz_S) (n : Nat) (hn : zz_end ≤ n) (G_S0 : zz_G S0) (hp0 : (-2147483648) ≤ p0 ∧ p0 ≤ 2147483647) : mm_Met g l zy_roomOf_14_9 zr_roomOf_14_9 [zi p0] (zz_M S0 n) n (zz_QI n (zp_roomOf_14_9 p0 S0)) := by
  refine zz_enter (by decide) (Nat.le_of_ble_eq_true rfl) (zz_less (ls1 := [some (zi p0)]) ⟨rfl, trivial⟩ ?_)
  refine zz_iload_n (x := p0) rfl zd_14_9_0 ?_
  refine zz_if_ne (by omega) zd_14_9_1 (fun c1 => ?_) (fun c1 => ?_)
  · refine zz_iload_n (x := p0) rfl zd_14_9_10 ?_
    refine zz_iconst zd_14_9_11 ?_
    refine zz_icmp_ne (by omega) (by omega) zd_14_9_12 (fun c2 => ?_) (fun c2 => ?_)
    · refine zz_iload_n (x := p0) rfl zd_14_9_21 ?_
      refine zz_iconst zd_14_9_22 ?_
      refine zz_icmp_ne (by omega) (by omega) zd_14_9_23 (fun c3 => ?_) (fun c3 => ?_)
      · refine zz_iload_n (x := p0) rfl zd_14_9_32 ?_
        refine zz_iconst zd_14_9_33 ?_
        refine zz_icmp_ne (by omega) (by omega) zd_14_9_34 (fun c4 => ?_) (fun c4 => ?_)
        · refine zz_sipush (by decide) zd_14_9_43 ?_
          exact zz_iret zd_14_9_46 rfl (Nat.zero_le _) (Nat.zero_le _) ⟨_, _, rfl, rfl, by omega, by omega⟩
        · refine zz_sipush (by decide) zd_14_9_37 ?_
          refine zz_goto zd_14_9_40 ?_
          exact zz_iret zd_14_9_46 rfl (Nat.zero_le _) (Nat.zero_le _) ⟨_, _, rfl, rfl, by omega, by omega⟩
      · refine zz_sipush (by decide) zd_14_9_26 ?_
        refine zz_goto zd_14_9_29 ?_
        exact zz_iret zd_14_9_46 rfl (Nat.zero_le _) (Nat.zero_le _) ⟨_, _, rfl, rfl, by omega, by omega⟩
    · refine zz_sipush (by decide) zd_14_9_15 ?_
      refine zz_goto zd_14_9_18 ?_
      exact zz_iret zd_14_9_46 rfl (Nat.zero_le _) (Nat.zero_le _) ⟨_, _, rfl, rfl, by omega, by omega⟩
  · refine zz_sipush (by decide) zd_14_9_4 ?_
    refine zz_goto zd_14_9_7 ?_
    exact zz_iret zd_14_9_46 rfl (Nat.zero_le _) (Nat.zero_le _) ⟨_, _, rfl, rfl, by omega, by omega⟩
abbrev zy_look_14_10 : mm_Y := (⟨"TensorForgeModel", "look", "(II)I"⟩, prog_14_method_10_code, 4, (some .int))
theorem zyw_look_14_10 : mm_Yw zy_look_14_10 2 := ⟨mm_tb_1 1851 (by decide +kernel) rfl, mm_tb_1 12 (by decide +kernel) rfl, ⟨by decide, by decide⟩, by decide +kernel⟩
theorem zq_Md_210 : Cond.constantLong "TensorForgeModel" 210 (4 : Int64) ∈ mm_tb := mm_tb_1 1852 (by decide +kernel) rfl
theorem zk_Md_212 : mm_Sl "TensorForgeModel" 212 1 zy_roomOf_14_9 := ⟨zyw_roomOf_14_9, mm_tb_1 1853 (by decide +kernel) rfl, mm_tb_1 1854 (by decide +kernel) rfl⟩
theorem zg_14_10_0 : zq_at zy_look_14_10.2.1 0 27 ∧ zq_at zy_look_14_10.2.1 1 133 ∧ zq_at zy_look_14_10.2.1 2 9 ∧ zq_at zy_look_14_10.2.1 3 20 ∧ zq_at zy_look_14_10.2.1 4 0 ∧ zq_at zy_look_14_10.2.1 5 210 ∧ zq_at zy_look_14_10.2.1 6 184 ∧ zq_at zy_look_14_10.2.1 7 0 ∧ zq_at zy_look_14_10.2.1 8 192 ∧ zq_at zy_look_14_10.2.1 9 62 ∧ zq_at zy_look_14_10.2.1 10 42 ∧ zq_at zy_look_14_10.2.1 11 29 ∧ zq_at zy_look_14_10.2.1 12 154 ∧ zq_at zy_look_14_10.2.1 13 0 ∧ zq_at zy_look_14_10.2.1 14 7 ∧ zq_at zy_look_14_10.2.1 15 4 ∧ zq_at zy_look_14_10.2.1 16 167 ∧ zq_at zy_look_14_10.2.1 17 0 ∧ zq_at zy_look_14_10.2.1 18 4 ∧ zq_at zy_look_14_10.2.1 20 29 ∧ zq_at zy_look_14_10.2.1 21 153 ∧ zq_at zy_look_14_10.2.1 22 0 ∧ zq_at zy_look_14_10.2.1 23 23 ∧ zq_at zy_look_14_10.2.1 44 3 := by decide +kernel
theorem zd_14_10_0 : zz_D zy_look_14_10 0 (.iload_n 1) 1 1 := ⟨zq_27 zg_14_10_0.1, rfl⟩
theorem zd_14_10_1 : zz_D zy_look_14_10 1 (.i2l) 1 2 := ⟨zq_133 zg_14_10_0.2.1, rfl⟩
theorem zd_14_10_2 : zz_D zy_look_14_10 2 (.lconst 0) 1 3 := ⟨zq_9 zg_14_10_0.2.2.1, rfl⟩
theorem zd_14_10_3 : zz_D zy_look_14_10 3 (.ldc2_w 210) 3 6 := ⟨zq_20 zg_14_10_0.2.2.2.1 zg_14_10_0.2.2.2.2.1 zg_14_10_0.2.2.2.2.2.1 rfl, rfl⟩
theorem zd_14_10_6 : zz_D zy_look_14_10 6 (.invokestatic 192) 3 9 := ⟨zq_184 zg_14_10_0.2.2.2.2.2.2.1 zg_14_10_0.2.2.2.2.2.2.2.1 zg_14_10_0.2.2.2.2.2.2.2.2.1 rfl, rfl⟩
theorem zd_14_10_9 : zz_D zy_look_14_10 9 (.istore_n 3) 1 10 := ⟨zq_62 zg_14_10_0.2.2.2.2.2.2.2.2.2.1, rfl⟩
theorem zd_14_10_10 : zz_D zy_look_14_10 10 (.aload_n 0) 1 11 := ⟨zq_42 zg_14_10_0.2.2.2.2.2.2.2.2.2.2.1, rfl⟩
theorem zd_14_10_11 : zz_D zy_look_14_10 11 (.iload_n 3) 1 12 := ⟨zq_29 zg_14_10_0.2.2.2.2.2.2.2.2.2.2.2.1, rfl⟩
theorem zd_14_10_12 : zz_B zy_look_14_10 12 (Instr.ifCond .ne) 19 15 := ⟨7, zq_154 zg_14_10_0.2.2.2.2.2.2.2.2.2.2.2.2.1 zg_14_10_0.2.2.2.2.2.2.2.2.2.2.2.2.2.1 zg_14_10_0.2.2.2.2.2.2.2.2.2.2.2.2.2.2.1 (by decide), rfl, rfl⟩
theorem zd_14_10_15 : zz_D zy_look_14_10 15 (.iconst 1) 1 16 := ⟨zq_4 zg_14_10_0.2.2.2.2.2.2.2.2.2.2.2.2.2.2.2.1, rfl⟩
theorem zd_14_10_16 : zz_B zy_look_14_10 16 Instr.goto 20 19 := ⟨4, zq_167 zg_14_10_0.2.2.2.2.2.2.2.2.2.2.2.2.2.2.2.2.1 zg_14_10_0.2.2.2.2.2.2.2.2.2.2.2.2.2.2.2.2.2.1 zg_14_10_0.2.2.2.2.2.2.2.2.2.2.2.2.2.2.2.2.2.2.1 (by decide), rfl, rfl⟩
theorem zd_14_10_20 : zz_D zy_look_14_10 20 (.iload_n 3) 1 21 := ⟨zq_29 zg_14_10_0.2.2.2.2.2.2.2.2.2.2.2.2.2.2.2.2.2.2.2.1, rfl⟩
theorem zd_14_10_21 : zz_B zy_look_14_10 21 (Instr.ifCond .eq) 44 24 := ⟨23, zq_153 zg_14_10_0.2.2.2.2.2.2.2.2.2.2.2.2.2.2.2.2.2.2.2.2.1 zg_14_10_0.2.2.2.2.2.2.2.2.2.2.2.2.2.2.2.2.2.2.2.2.2.1 zg_14_10_0.2.2.2.2.2.2.2.2.2.2.2.2.2.2.2.2.2.2.2.2.2.2.1 (by decide), rfl, rfl⟩
theorem zd_14_10_44 : zz_D zy_look_14_10 44 (.iconst 0) 1 45 := ⟨zq_3 zg_14_10_0.2.2.2.2.2.2.2.2.2.2.2.2.2.2.2.2.2.2.2.2.2.2.2, rfl⟩
theorem zg_14_10_45 : zq_at zy_look_14_10.2.1 45 3 ∧ zq_at zy_look_14_10.2.1 46 182 ∧ zq_at zy_look_14_10.2.1 47 0 ∧ zq_at zy_look_14_10.2.1 48 196 ∧ zq_at zy_look_14_10.2.1 49 153 ∧ zq_at zy_look_14_10.2.1 50 0 ∧ zq_at zy_look_14_10.2.1 51 5 ∧ zq_at zy_look_14_10.2.1 52 3 ∧ zq_at zy_look_14_10.2.1 53 172 ∧ zq_at zy_look_14_10.2.1 19 3 ∧ zq_at zy_look_14_10.2.1 24 28 ∧ zq_at zy_look_14_10.2.1 25 133 ∧ zq_at zy_look_14_10.2.1 26 9 ∧ zq_at zy_look_14_10.2.1 27 27 ∧ zq_at zy_look_14_10.2.1 28 184 ∧ zq_at zy_look_14_10.2.1 29 0 ∧ zq_at zy_look_14_10.2.1 30 212 ∧ zq_at zy_look_14_10.2.1 31 4 ∧ zq_at zy_look_14_10.2.1 32 100 ∧ zq_at zy_look_14_10.2.1 33 133 ∧ zq_at zy_look_14_10.2.1 34 184 ∧ zq_at zy_look_14_10.2.1 35 0 ∧ zq_at zy_look_14_10.2.1 36 192 := by decide +kernel
theorem zd_14_10_45 : zz_D zy_look_14_10 45 (.iconst 0) 1 46 := ⟨zq_3 zg_14_10_45.1, rfl⟩
theorem zd_14_10_46 : zz_D zy_look_14_10 46 (.invokevirtual 196) 3 49 := ⟨zq_182 zg_14_10_45.2.1 zg_14_10_45.2.2.1 zg_14_10_45.2.2.2.1 rfl, rfl⟩
theorem zd_14_10_49 : zz_B zy_look_14_10 49 (Instr.ifCond .eq) 54 52 := ⟨5, zq_153 zg_14_10_45.2.2.2.2.1 zg_14_10_45.2.2.2.2.2.1 zg_14_10_45.2.2.2.2.2.2.1 (by decide), rfl, rfl⟩
theorem zd_14_10_52 : zz_D zy_look_14_10 52 (.iconst 0) 1 53 := ⟨zq_3 zg_14_10_45.2.2.2.2.2.2.2.1, rfl⟩
theorem zd_14_10_53 : zz_D zy_look_14_10 53 (.ireturn) 1 54 := ⟨zq_172 zg_14_10_45.2.2.2.2.2.2.2.2.1, rfl⟩
theorem zd_14_10_19 : zz_D zy_look_14_10 19 (.iconst 0) 1 20 := ⟨zq_3 zg_14_10_45.2.2.2.2.2.2.2.2.2.1, rfl⟩
theorem zd_14_10_24 : zz_D zy_look_14_10 24 (.iload_n 2) 1 25 := ⟨zq_28 zg_14_10_45.2.2.2.2.2.2.2.2.2.2.1, rfl⟩
theorem zd_14_10_25 : zz_D zy_look_14_10 25 (.i2l) 1 26 := ⟨zq_133 zg_14_10_45.2.2.2.2.2.2.2.2.2.2.2.1, rfl⟩
theorem zd_14_10_26 : zz_D zy_look_14_10 26 (.lconst 0) 1 27 := ⟨zq_9 zg_14_10_45.2.2.2.2.2.2.2.2.2.2.2.2.1, rfl⟩
theorem zd_14_10_27 : zz_D zy_look_14_10 27 (.iload_n 1) 1 28 := ⟨zq_27 zg_14_10_45.2.2.2.2.2.2.2.2.2.2.2.2.2.1, rfl⟩
theorem zd_14_10_28 : zz_D zy_look_14_10 28 (.invokestatic 212) 3 31 := ⟨zq_184 zg_14_10_45.2.2.2.2.2.2.2.2.2.2.2.2.2.2.1 zg_14_10_45.2.2.2.2.2.2.2.2.2.2.2.2.2.2.2.1 zg_14_10_45.2.2.2.2.2.2.2.2.2.2.2.2.2.2.2.2.1 rfl, rfl⟩
theorem zd_14_10_31 : zz_D zy_look_14_10 31 (.iconst 1) 1 32 := ⟨zq_4 zg_14_10_45.2.2.2.2.2.2.2.2.2.2.2.2.2.2.2.2.2.1, rfl⟩
theorem zd_14_10_32 : zz_D zy_look_14_10 32 (.isub) 1 33 := ⟨zq_100 zg_14_10_45.2.2.2.2.2.2.2.2.2.2.2.2.2.2.2.2.2.2.1, rfl⟩
theorem zd_14_10_33 : zz_D zy_look_14_10 33 (.i2l) 1 34 := ⟨zq_133 zg_14_10_45.2.2.2.2.2.2.2.2.2.2.2.2.2.2.2.2.2.2.2.1, rfl⟩
theorem zd_14_10_34 : zz_D zy_look_14_10 34 (.invokestatic 192) 3 37 := ⟨zq_184 zg_14_10_45.2.2.2.2.2.2.2.2.2.2.2.2.2.2.2.2.2.2.2.2.1 zg_14_10_45.2.2.2.2.2.2.2.2.2.2.2.2.2.2.2.2.2.2.2.2.2.1 zg_14_10_45.2.2.2.2.2.2.2.2.2.2.2.2.2.2.2.2.2.2.2.2.2.2 rfl, rfl⟩
theorem zg_14_10_37 : zq_at zy_look_14_10.2.1 37 154 ∧ zq_at zy_look_14_10.2.1 38 0 ∧ zq_at zy_look_14_10.2.1 39 7 ∧ zq_at zy_look_14_10.2.1 40 4 ∧ zq_at zy_look_14_10.2.1 41 167 ∧ zq_at zy_look_14_10.2.1 42 0 ∧ zq_at zy_look_14_10.2.1 43 4 ∧ zq_at zy_look_14_10.2.1 54 27 ∧ zq_at zy_look_14_10.2.1 55 154 ∧ zq_at zy_look_14_10.2.1 56 0 ∧ zq_at zy_look_14_10.2.1 57 12 ∧ zq_at zy_look_14_10.2.1 67 27 ∧ zq_at zy_look_14_10.2.1 68 4 ∧ zq_at zy_look_14_10.2.1 69 160 ∧ zq_at zy_look_14_10.2.1 70 0 ∧ zq_at zy_look_14_10.2.1 71 12 ∧ zq_at zy_look_14_10.2.1 81 27 ∧ zq_at zy_look_14_10.2.1 82 5 ∧ zq_at zy_look_14_10.2.1 83 160 ∧ zq_at zy_look_14_10.2.1 84 0 ∧ zq_at zy_look_14_10.2.1 85 12 ∧ zq_at zy_look_14_10.2.1 95 27 ∧ zq_at zy_look_14_10.2.1 96 6 := by decide +kernel
theorem zd_14_10_37 : zz_B zy_look_14_10 37 (Instr.ifCond .ne) 44 40 := ⟨7, zq_154 zg_14_10_37.1 zg_14_10_37.2.1 zg_14_10_37.2.2.1 (by decide), rfl, rfl⟩
theorem zd_14_10_40 : zz_D zy_look_14_10 40 (.iconst 1) 1 41 := ⟨zq_4 zg_14_10_37.2.2.2.1, rfl⟩
theorem zd_14_10_41 : zz_B zy_look_14_10 41 Instr.goto 45 44 := ⟨4, zq_167 zg_14_10_37.2.2.2.2.1 zg_14_10_37.2.2.2.2.2.1 zg_14_10_37.2.2.2.2.2.2.1 (by decide), rfl, rfl⟩
theorem zd_14_10_54 : zz_D zy_look_14_10 54 (.iload_n 1) 1 55 := ⟨zq_27 zg_14_10_37.2.2.2.2.2.2.2.1, rfl⟩
theorem zd_14_10_55 : zz_B zy_look_14_10 55 (Instr.ifCond .ne) 67 58 := ⟨12, zq_154 zg_14_10_37.2.2.2.2.2.2.2.2.1 zg_14_10_37.2.2.2.2.2.2.2.2.2.1 zg_14_10_37.2.2.2.2.2.2.2.2.2.2.1 (by decide), rfl, rfl⟩
theorem zd_14_10_67 : zz_D zy_look_14_10 67 (.iload_n 1) 1 68 := ⟨zq_27 zg_14_10_37.2.2.2.2.2.2.2.2.2.2.2.1, rfl⟩
theorem zd_14_10_68 : zz_D zy_look_14_10 68 (.iconst 1) 1 69 := ⟨zq_4 zg_14_10_37.2.2.2.2.2.2.2.2.2.2.2.2.1, rfl⟩
theorem zd_14_10_69 : zz_B zy_look_14_10 69 (Instr.if_icmp .ne) 81 72 := ⟨12, zq_160 zg_14_10_37.2.2.2.2.2.2.2.2.2.2.2.2.2.1 zg_14_10_37.2.2.2.2.2.2.2.2.2.2.2.2.2.2.1 zg_14_10_37.2.2.2.2.2.2.2.2.2.2.2.2.2.2.2.1 (by decide), rfl, rfl⟩
theorem zd_14_10_81 : zz_D zy_look_14_10 81 (.iload_n 1) 1 82 := ⟨zq_27 zg_14_10_37.2.2.2.2.2.2.2.2.2.2.2.2.2.2.2.2.1, rfl⟩
theorem zd_14_10_82 : zz_D zy_look_14_10 82 (.iconst 2) 1 83 := ⟨zq_5 zg_14_10_37.2.2.2.2.2.2.2.2.2.2.2.2.2.2.2.2.2.1, rfl⟩
theorem zd_14_10_83 : zz_B zy_look_14_10 83 (Instr.if_icmp .ne) 95 86 := ⟨12, zq_160 zg_14_10_37.2.2.2.2.2.2.2.2.2.2.2.2.2.2.2.2.2.2.1 zg_14_10_37.2.2.2.2.2.2.2.2.2.2.2.2.2.2.2.2.2.2.2.1 zg_14_10_37.2.2.2.2.2.2.2.2.2.2.2.2.2.2.2.2.2.2.2.2.1 (by decide), rfl, rfl⟩
theorem zd_14_10_95 : zz_D zy_look_14_10 95 (.iload_n 1) 1 96 := ⟨zq_27 zg_14_10_37.2.2.2.2.2.2.2.2.2.2.2.2.2.2.2.2.2.2.2.2.2.1, rfl⟩
theorem zd_14_10_96 : zz_D zy_look_14_10 96 (.iconst 3) 1 97 := ⟨zq_6 zg_14_10_37.2.2.2.2.2.2.2.2.2.2.2.2.2.2.2.2.2.2.2.2.2.2, rfl⟩
theorem zg_14_10_97 : zq_at zy_look_14_10.2.1 97 160 ∧ zq_at zy_look_14_10.2.1 98 0 ∧ zq_at zy_look_14_10.2.1 99 12 ∧ zq_at zy_look_14_10.2.1 109 42 ∧ zq_at zy_look_14_10.2.1 110 180 ∧ zq_at zy_look_14_10.2.1 111 0 ∧ zq_at zy_look_14_10.2.1 112 26 ∧ zq_at zy_look_14_10.2.1 113 28 ∧ zq_at zy_look_14_10.2.1 114 46 ∧ zq_at zy_look_14_10.2.1 115 172 ∧ zq_at zy_look_14_10.2.1 100 42 ∧ zq_at zy_look_14_10.2.1 101 180 ∧ zq_at zy_look_14_10.2.1 102 0 ∧ zq_at zy_look_14_10.2.1 103 23 ∧ zq_at zy_look_14_10.2.1 104 28 ∧ zq_at zy_look_14_10.2.1 105 46 ∧ zq_at zy_look_14_10.2.1 106 167 ∧ zq_at zy_look_14_10.2.1 107 0 ∧ zq_at zy_look_14_10.2.1 108 9 ∧ zq_at zy_look_14_10.2.1 86 42 ∧ zq_at zy_look_14_10.2.1 87 180 ∧ zq_at zy_look_14_10.2.1 88 0 ∧ zq_at zy_look_14_10.2.1 89 20 ∧ zq_at zy_look_14_10.2.1 90 28 := by decide +kernel
theorem zd_14_10_97 : zz_B zy_look_14_10 97 (Instr.if_icmp .ne) 109 100 := ⟨12, zq_160 zg_14_10_97.1 zg_14_10_97.2.1 zg_14_10_97.2.2.1 (by decide), rfl, rfl⟩
theorem zd_14_10_109 : zz_D zy_look_14_10 109 (.aload_n 0) 1 110 := ⟨zq_42 zg_14_10_97.2.2.2.1, rfl⟩
theorem zd_14_10_110 : zz_D zy_look_14_10 110 (.getfield 26) 3 113 := ⟨zq_180 zg_14_10_97.2.2.2.2.1 zg_14_10_97.2.2.2.2.2.1 zg_14_10_97.2.2.2.2.2.2.1 rfl, rfl⟩
theorem zd_14_10_113 : zz_D zy_look_14_10 113 (.iload_n 2) 1 114 := ⟨zq_28 zg_14_10_97.2.2.2.2.2.2.2.1, rfl⟩
theorem zd_14_10_114 : zz_D zy_look_14_10 114 (.iaload) 1 115 := ⟨zq_46 zg_14_10_97.2.2.2.2.2.2.2.2.1, rfl⟩
theorem zd_14_10_115 : zz_D zy_look_14_10 115 (.ireturn) 1 116 := ⟨zq_172 zg_14_10_97.2.2.2.2.2.2.2.2.2.1, rfl⟩
theorem zd_14_10_100 : zz_D zy_look_14_10 100 (.aload_n 0) 1 101 := ⟨zq_42 zg_14_10_97.2.2.2.2.2.2.2.2.2.2.1, rfl⟩
theorem zd_14_10_101 : zz_D zy_look_14_10 101 (.getfield 23) 3 104 := ⟨zq_180 zg_14_10_97.2.2.2.2.2.2.2.2.2.2.2.1 zg_14_10_97.2.2.2.2.2.2.2.2.2.2.2.2.1 zg_14_10_97.2.2.2.2.2.2.2.2.2.2.2.2.2.1 rfl, rfl⟩
theorem zd_14_10_104 : zz_D zy_look_14_10 104 (.iload_n 2) 1 105 := ⟨zq_28 zg_14_10_97.2.2.2.2.2.2.2.2.2.2.2.2.2.2.1, rfl⟩
theorem zd_14_10_105 : zz_D zy_look_14_10 105 (.iaload) 1 106 := ⟨zq_46 zg_14_10_97.2.2.2.2.2.2.2.2.2.2.2.2.2.2.2.1, rfl⟩
theorem zd_14_10_106 : zz_B zy_look_14_10 106 Instr.goto 115 109 := ⟨9, zq_167 zg_14_10_97.2.2.2.2.2.2.2.2.2.2.2.2.2.2.2.2.1 zg_14_10_97.2.2.2.2.2.2.2.2.2.2.2.2.2.2.2.2.2.1 zg_14_10_97.2.2.2.2.2.2.2.2.2.2.2.2.2.2.2.2.2.2.1 (by decide), rfl, rfl⟩
theorem zd_14_10_86 : zz_D zy_look_14_10 86 (.aload_n 0) 1 87 := ⟨zq_42 zg_14_10_97.2.2.2.2.2.2.2.2.2.2.2.2.2.2.2.2.2.2.2.1, rfl⟩
theorem zd_14_10_87 : zz_D zy_look_14_10 87 (.getfield 20) 3 90 := ⟨zq_180 zg_14_10_97.2.2.2.2.2.2.2.2.2.2.2.2.2.2.2.2.2.2.2.2.1 zg_14_10_97.2.2.2.2.2.2.2.2.2.2.2.2.2.2.2.2.2.2.2.2.2.1 zg_14_10_97.2.2.2.2.2.2.2.2.2.2.2.2.2.2.2.2.2.2.2.2.2.2.1 rfl, rfl⟩
theorem zd_14_10_90 : zz_D zy_look_14_10 90 (.iload_n 2) 1 91 := ⟨zq_28 zg_14_10_97.2.2.2.2.2.2.2.2.2.2.2.2.2.2.2.2.2.2.2.2.2.2.2, rfl⟩
theorem zg_14_10_91 : zq_at zy_look_14_10.2.1 91 46 ∧ zq_at zy_look_14_10.2.1 92 167 ∧ zq_at zy_look_14_10.2.1 93 0 ∧ zq_at zy_look_14_10.2.1 94 23 ∧ zq_at zy_look_14_10.2.1 72 42 ∧ zq_at zy_look_14_10.2.1 73 180 ∧ zq_at zy_look_14_10.2.1 74 0 ∧ zq_at zy_look_14_10.2.1 75 17 ∧ zq_at zy_look_14_10.2.1 76 28 ∧ zq_at zy_look_14_10.2.1 77 46 ∧ zq_at zy_look_14_10.2.1 78 167 ∧ zq_at zy_look_14_10.2.1 79 0 ∧ zq_at zy_look_14_10.2.1 80 37 ∧ zq_at zy_look_14_10.2.1 58 42 ∧ zq_at zy_look_14_10.2.1 59 180 ∧ zq_at zy_look_14_10.2.1 60 0 ∧ zq_at zy_look_14_10.2.1 61 13 ∧ zq_at zy_look_14_10.2.1 62 28 ∧ zq_at zy_look_14_10.2.1 63 46 ∧ zq_at zy_look_14_10.2.1 64 167 ∧ zq_at zy_look_14_10.2.1 65 0 ∧ zq_at zy_look_14_10.2.1 66 51 := by decide +kernel
theorem zd_14_10_91 : zz_D zy_look_14_10 91 (.iaload) 1 92 := ⟨zq_46 zg_14_10_91.1, rfl⟩
theorem zd_14_10_92 : zz_B zy_look_14_10 92 Instr.goto 115 95 := ⟨23, zq_167 zg_14_10_91.2.1 zg_14_10_91.2.2.1 zg_14_10_91.2.2.2.1 (by decide), rfl, rfl⟩
theorem zd_14_10_72 : zz_D zy_look_14_10 72 (.aload_n 0) 1 73 := ⟨zq_42 zg_14_10_91.2.2.2.2.1, rfl⟩
theorem zd_14_10_73 : zz_D zy_look_14_10 73 (.getfield 17) 3 76 := ⟨zq_180 zg_14_10_91.2.2.2.2.2.1 zg_14_10_91.2.2.2.2.2.2.1 zg_14_10_91.2.2.2.2.2.2.2.1 rfl, rfl⟩
theorem zd_14_10_76 : zz_D zy_look_14_10 76 (.iload_n 2) 1 77 := ⟨zq_28 zg_14_10_91.2.2.2.2.2.2.2.2.1, rfl⟩
theorem zd_14_10_77 : zz_D zy_look_14_10 77 (.iaload) 1 78 := ⟨zq_46 zg_14_10_91.2.2.2.2.2.2.2.2.2.1, rfl⟩
theorem zd_14_10_78 : zz_B zy_look_14_10 78 Instr.goto 115 81 := ⟨37, zq_167 zg_14_10_91.2.2.2.2.2.2.2.2.2.2.1 zg_14_10_91.2.2.2.2.2.2.2.2.2.2.2.1 zg_14_10_91.2.2.2.2.2.2.2.2.2.2.2.2.1 (by decide), rfl, rfl⟩
theorem zd_14_10_58 : zz_D zy_look_14_10 58 (.aload_n 0) 1 59 := ⟨zq_42 zg_14_10_91.2.2.2.2.2.2.2.2.2.2.2.2.2.1, rfl⟩
theorem zd_14_10_59 : zz_D zy_look_14_10 59 (.getfield 13) 3 62 := ⟨zq_180 zg_14_10_91.2.2.2.2.2.2.2.2.2.2.2.2.2.2.1 zg_14_10_91.2.2.2.2.2.2.2.2.2.2.2.2.2.2.2.1 zg_14_10_91.2.2.2.2.2.2.2.2.2.2.2.2.2.2.2.2.1 rfl, rfl⟩
theorem zd_14_10_62 : zz_D zy_look_14_10 62 (.iload_n 2) 1 63 := ⟨zq_28 zg_14_10_91.2.2.2.2.2.2.2.2.2.2.2.2.2.2.2.2.2.1, rfl⟩
theorem zd_14_10_63 : zz_D zy_look_14_10 63 (.iaload) 1 64 := ⟨zq_46 zg_14_10_91.2.2.2.2.2.2.2.2.2.2.2.2.2.2.2.2.2.2.1, rfl⟩
theorem zd_14_10_64 : zz_B zy_look_14_10 64 Instr.goto 115 67 := ⟨51, zq_167 zg_14_10_91.2.2.2.2.2.2.2.2.2.2.2.2.2.2.2.2.2.2.2.1 zg_14_10_91.2.2.2.2.2.2.2.2.2.2.2.2.2.2.2.2.2.2.2.2.1 zg_14_10_91.2.2.2.2.2.2.2.2.2.2.2.2.2.2.2.2.2.2.2.2.2 (by decide), rfl, rfl⟩
-- TensorForgeModel look (II)I
abbrev zr_look_14_10 : Room := { frames := 1, cells := 0, slots := 0, locals := 19 }
def zp_look_14_10 (p0 : Int) (p1 : Int) (S0 : zz_S) : Int → zz_S → Prop := fun r S => zz_G S ∧ zz_fr [(1079, 0)] [] (fun _ _ => False) S0 S ∧ ((-2147483648) ≤ r ∧ r ≤ 2147483647)
theorem zc_look_14_10 {g : mm_G} {l : Launch} (p0 : Int) (p1 : Int) (S0 : zz_S) (n : Nat) (hn : zz_end ≤ n) (G_S0 : zz_G S0) (hp0 : (-2147483648) ≤ p0 ∧ p0 ≤ 2147483647) (hp1 : (-2147483648) ≤ p1 ∧ p1 ≤ 2147483647) : mm_Met g l zy_look_14_10 zr_look_14_10 [.ref 1079, zi p0, zi p1] (zz_M S0 n) n (zz_QI n (zp_look_14_10 p0 p1 S0)) := by
  refine zz_enter (by decide) (Nat.le_of_ble_eq_true rfl) (zz_less (ls1 := [some (.ref 1079), some (zi p0), some (zi p1)]) ⟨rfl, ⟨rfl, ⟨rfl, trivial⟩⟩⟩ ?_)
  have F_S0 : zz_fr [(1079, 0)] [] (fun _ _ => False) S0 S0 := zz_fr.refl
  refine zz_iload_n (x := p0) rfl zd_14_10_0 ?_
  refine zz_i2l (by omega) zd_14_10_1 ?_
  refine zz_lconst (z := 0) (by decide) zd_14_10_2 ?_
  refine zz_ldc2 (z := 4) zq_Md_210 (by decide) zd_14_10_3 ?_
  refine zz_callSI [zl p0, zl 0, zl 4] zd_14_10_6 zk_Md_192 rfl rfl ⟨Nat.le_of_ble_eq_true rfl, Nat.le_of_ble_eq_true rfl⟩ ⟨rfl, rfl⟩ (Nat.zero_le _) (Nat.zero_le _) (zc_in_14_4 p0 0 4 S0 n hn G_S0 (by omega) (by omega) (by omega)) (fun v2 S1 hP => ?_)
  obtain ⟨rfl, o3, o4⟩ := hP
  rcases (by omega : v2 = 0 ∨ v2 = 1) with rfl | rfl
  · have n5 : p0 < 0 ∨ 4 < p0 := by omega
    clear o4
    refine zz_istore_n [some (.ref 1079), some (zi p0), some (zi p1), some (zi 0)] zd_14_10_9 (by decide) rfl ?_
    refine zz_aload_n (x := 1079) rfl zd_14_10_10 ?_
    refine zz_iload_n (x := 0) rfl zd_14_10_11 ?_
    refine zz_if_ne (by omega) zd_14_10_12 (fun c6 => ?_) (fun c6 => ?_)
    · exfalso; omega
    · refine zz_iconst zd_14_10_15 ?_
      refine zz_goto zd_14_10_16 ?_
      refine zz_iload_n (x := 0) rfl zd_14_10_20 ?_
      refine zz_if_eq (by omega) zd_14_10_21 (fun c7 => ?_) (fun c7 => ?_)
      · refine zz_iconst zd_14_10_44 ?_
        refine zz_iconst zd_14_10_45 ?_
        refine zz_callVI [zi 1, zi 0, zi 0] zd_14_10_46 zk_Md_196 zT_1079 (zz_ltn hn rfl) rfl rfl ⟨Nat.le_of_ble_eq_true rfl, Nat.le_of_ble_eq_true rfl⟩ ⟨rfl, rfl⟩ (Nat.zero_le _) (Nat.zero_le _) (zc_refuse_14_3 1 0 0 S0 n hn G_S0 (by omega) (by omega) (by omega)) (fun v9 S8 hP => ?_)
        obtain ⟨G_S8, fS8, o10, o11⟩ := hP
        have F_S8 := zz_fr.trans F_S0 fS8 rfl zz_nv
        rcases (by omega : v9 = 0 ∨ v9 = 1) with rfl | rfl
        · exfalso; omega
        · have e12 : S8 1079 0 = 1 := by omega
          clear o11
          refine zz_if_eq (by omega) zd_14_10_49 (fun c13 => ?_) (fun c13 => ?_)
          · exfalso; omega
          · refine zz_iconst zd_14_10_52 ?_
            exact zz_iret zd_14_10_53 rfl (Nat.zero_le _) (Nat.zero_le _) ⟨_, _, rfl, G_S8, F_S8, by omega⟩
      · exfalso; omega
  · have n14 : 0 ≤ p0 ∧ p0 ≤ 4 := by omega
    clear o4
    refine zz_istore_n [some (.ref 1079), some (zi p0), some (zi p1), some (zi 1)] zd_14_10_9 (by decide) rfl ?_
    refine zz_aload_n (x := 1079) rfl zd_14_10_10 ?_
    refine zz_iload_n (x := 1) rfl zd_14_10_11 ?_
    refine zz_if_ne (by omega) zd_14_10_12 (fun c15 => ?_) (fun c15 => ?_)
    · refine zz_iconst zd_14_10_19 ?_
      refine zz_iload_n (x := 1) rfl zd_14_10_20 ?_
      refine zz_if_eq (by omega) zd_14_10_21 (fun c16 => ?_) (fun c16 => ?_)
      · exfalso; omega
      · refine zz_iload_n (x := p1) rfl zd_14_10_24 ?_
        refine zz_i2l (by omega) zd_14_10_25 ?_
        refine zz_lconst (z := 0) (by decide) zd_14_10_26 ?_
        refine zz_iload_n (x := p0) rfl zd_14_10_27 ?_
        refine zz_callSI [zi p0] zd_14_10_28 zk_Md_212 rfl rfl ⟨Nat.le_of_ble_eq_true rfl, Nat.le_of_ble_eq_true rfl⟩ ⟨rfl, rfl⟩ (Nat.zero_le _) (Nat.zero_le _) (zc_roomOf_14_9 p0 S0 n hn G_S0 (by omega)) (fun v18 S17 hP => ?_)
        obtain ⟨rfl, o19, o20⟩ := hP
        refine zz_iconst zd_14_10_31 ?_
        refine zz_isub zd_14_10_32 ?_
        refine zz_i2l (by omega) zd_14_10_33 ?_
        refine zz_callSI [zl p1, zl 0, zl (v18 - 1)] zd_14_10_34 zk_Md_192 rfl rfl ⟨Nat.le_of_ble_eq_true rfl, Nat.le_of_ble_eq_true rfl⟩ ⟨rfl, rfl⟩ (Nat.zero_le _) (Nat.zero_le _) (zc_in_14_4 p1 0 (v18 - 1) S0 n hn G_S0 (by omega) (by omega) (by omega)) (fun v22 S21 hP => ?_)
        obtain ⟨rfl, o23, o24⟩ := hP
        rcases (by omega : v22 = 0 ∨ v22 = 1) with rfl | rfl
        · have n25 : p1 < 0 ∨ v18 - 1 < p1 := by omega
          clear o24
          refine zz_if_ne (by omega) zd_14_10_37 (fun c26 => ?_) (fun c26 => ?_)
          · exfalso; omega
          · refine zz_iconst zd_14_10_40 ?_
            refine zz_goto zd_14_10_41 ?_
            refine zz_iconst zd_14_10_45 ?_
            refine zz_callVI [zi 0, zi 1, zi 0] zd_14_10_46 zk_Md_196 zT_1079 (zz_ltn hn rfl) rfl rfl ⟨Nat.le_of_ble_eq_true rfl, Nat.le_of_ble_eq_true rfl⟩ ⟨rfl, rfl⟩ (Nat.zero_le _) (Nat.zero_le _) (zc_refuse_14_3 0 1 0 S0 n hn G_S0 (by omega) (by omega) (by omega)) (fun v28 S27 hP => ?_)
            obtain ⟨G_S27, fS27, o29, o30⟩ := hP
            have F_S27 := zz_fr.trans F_S0 fS27 rfl zz_nv
            rcases (by omega : v28 = 0 ∨ v28 = 1) with rfl | rfl
            · exfalso; omega
            · have e31 : S27 1079 0 = 2 := by omega
              clear o30
              refine zz_if_eq (by omega) zd_14_10_49 (fun c32 => ?_) (fun c32 => ?_)
              · exfalso; omega
              · refine zz_iconst zd_14_10_52 ?_
                exact zz_iret zd_14_10_53 rfl (Nat.zero_le _) (Nat.zero_le _) ⟨_, _, rfl, G_S27, F_S27, by omega⟩
        · have n33 : 0 ≤ p1 ∧ p1 ≤ v18 - 1 := by omega
          clear o24
          refine zz_if_ne (by omega) zd_14_10_37 (fun c34 => ?_) (fun c34 => ?_)
          · refine zz_iconst zd_14_10_44 ?_
            refine zz_iconst zd_14_10_45 ?_
            refine zz_callVI [zi 0, zi 0, zi 0] zd_14_10_46 zk_Md_196 zT_1079 (zz_ltn hn rfl) rfl rfl ⟨Nat.le_of_ble_eq_true rfl, Nat.le_of_ble_eq_true rfl⟩ ⟨rfl, rfl⟩ (Nat.zero_le _) (Nat.zero_le _) (zc_refuse_14_3 0 0 0 S0 n hn G_S0 (by omega) (by omega) (by omega)) (fun v36 S35 hP => ?_)
            obtain ⟨G_S35, fS35, o37, o38⟩ := hP
            have F_S35 := zz_fr.trans F_S0 fS35 rfl zz_nv
            rcases (by omega : v36 = 0 ∨ v36 = 1) with rfl | rfl
            · have e39 : S35 1079 0 = 0 := by omega
              clear o38
              refine zz_if_eq (by omega) zd_14_10_49 (fun c40 => ?_) (fun c40 => ?_)
              · refine zz_iload_n (x := p0) rfl zd_14_10_54 ?_
                refine zz_if_ne (by omega) zd_14_10_55 (fun c41 => ?_) (fun c41 => ?_)
                · refine zz_iload_n (x := p0) rfl zd_14_10_67 ?_
                  refine zz_iconst zd_14_10_68 ?_
                  refine zz_icmp_ne (by omega) (by omega) zd_14_10_69 (fun c42 => ?_) (fun c42 => ?_)
                  · refine zz_iload_n (x := p0) rfl zd_14_10_81 ?_
                    refine zz_iconst zd_14_10_82 ?_
                    refine zz_icmp_ne (by omega) (by omega) zd_14_10_83 (fun c43 => ?_) (fun c43 => ?_)
                    · refine zz_iload_n (x := p0) rfl zd_14_10_95 ?_
                      refine zz_iconst zd_14_10_96 ?_
                      refine zz_icmp_ne (by omega) (by omega) zd_14_10_97 (fun c44 => ?_) (fun c44 => ?_)
                      · refine zz_aload_n (x := 1079) rfl zd_14_10_109 ?_
                        refine zz_getr (kd := 0) (z := 1084) zd_14_10_110 zf_Md_26 zT_1079 rfl (zz_ltn hn rfl) (zz_G.eq G_S35 1079 6 1084 rfl rfl) (by decide) 1084 rfl ?_
                        refine zz_iload_n (x := p1) rfl zd_14_10_113 ?_
                        have g45 := zz_G.r G_S0 1084 p1.toNat (-2147483648) 2147483647 rfl rfl
                        refine zz_iald (z := S0 1084 p1.toNat) zd_14_10_114 zT_1084 rfl (zz_ltn hn rfl) (by decide) (by omega) (zz_rc fS35 (zz_nc1 rfl) rfl (fun h => h) rfl) ?_
                        exact zz_iret zd_14_10_115 rfl (Nat.zero_le _) (Nat.zero_le _) ⟨_, _, rfl, G_S35, F_S35, by omega⟩
                      · refine zz_aload_n (x := 1079) rfl zd_14_10_100 ?_
                        refine zz_getr (kd := 0) (z := 1083) zd_14_10_101 zf_Md_23 zT_1079 rfl (zz_ltn hn rfl) (zz_G.eq G_S35 1079 5 1083 rfl rfl) (by decide) 1083 rfl ?_
                        refine zz_iload_n (x := p1) rfl zd_14_10_104 ?_
                        have g46 := zz_G.r G_S0 1083 p1.toNat (-2147483648) 2147483647 rfl rfl
                        refine zz_iald (z := S0 1083 p1.toNat) zd_14_10_105 zT_1083 rfl (zz_ltn hn rfl) (by decide) (by omega) (zz_rc fS35 (zz_nc1 rfl) rfl (fun h => h) rfl) ?_
                        refine zz_goto zd_14_10_106 ?_
                        exact zz_iret zd_14_10_115 rfl (Nat.zero_le _) (Nat.zero_le _) ⟨_, _, rfl, G_S35, F_S35, by omega⟩
                    · refine zz_aload_n (x := 1079) rfl zd_14_10_86 ?_
                      refine zz_getr (kd := 0) (z := 1082) zd_14_10_87 zf_Md_20 zT_1079 rfl (zz_ltn hn rfl) (zz_G.eq G_S35 1079 4 1082 rfl rfl) (by decide) 1082 rfl ?_
                      refine zz_iload_n (x := p1) rfl zd_14_10_90 ?_
                      have g47 := zz_G.r G_S0 1082 p1.toNat (-2147483648) 2147483647 rfl rfl
                      refine zz_iald (z := S0 1082 p1.toNat) zd_14_10_91 zT_1082 rfl (zz_ltn hn rfl) (by decide) (by omega) (zz_rc fS35 (zz_nc1 rfl) rfl (fun h => h) rfl) ?_
                      refine zz_goto zd_14_10_92 ?_
                      exact zz_iret zd_14_10_115 rfl (Nat.zero_le _) (Nat.zero_le _) ⟨_, _, rfl, G_S35, F_S35, by omega⟩
                  · refine zz_aload_n (x := 1079) rfl zd_14_10_72 ?_
                    refine zz_getr (kd := 0) (z := 1081) zd_14_10_73 zf_Md_17 zT_1079 rfl (zz_ltn hn rfl) (zz_G.eq G_S35 1079 3 1081 rfl rfl) (by decide) 1081 rfl ?_
                    refine zz_iload_n (x := p1) rfl zd_14_10_76 ?_
                    have g48 := zz_G.r G_S0 1081 p1.toNat (-2147483648) 2147483647 rfl rfl
                    refine zz_iald (z := S0 1081 p1.toNat) zd_14_10_77 zT_1081 rfl (zz_ltn hn rfl) (by decide) (by omega) (zz_rc fS35 (zz_nc1 rfl) rfl (fun h => h) rfl) ?_
                    refine zz_goto zd_14_10_78 ?_
                    exact zz_iret zd_14_10_115 rfl (Nat.zero_le _) (Nat.zero_le _) ⟨_, _, rfl, G_S35, F_S35, by omega⟩
                · refine zz_aload_n (x := 1079) rfl zd_14_10_58 ?_
                  refine zz_getr (kd := 0) (z := 1080) zd_14_10_59 zf_Md_13 zT_1079 rfl (zz_ltn hn rfl) (zz_G.eq G_S35 1079 2 1080 rfl rfl) (by decide) 1080 rfl ?_
                  refine zz_iload_n (x := p1) rfl zd_14_10_62 ?_
                  have g49 := zz_G.r G_S0 1080 p1.toNat (-2147483648) 2147483647 rfl rfl
                  refine zz_iald (z := S0 1080 p1.toNat) zd_14_10_63 zT_1080 rfl (zz_ltn hn rfl) (by decide) (by omega) (zz_rc fS35 (zz_nc1 rfl) rfl (fun h => h) rfl) ?_
                  refine zz_goto zd_14_10_64 ?_
                  exact zz_iret zd_14_10_115 rfl (Nat.zero_le _) (Nat.zero_le _) ⟨_, _, rfl, G_S35, F_S35, by omega⟩
              · exfalso; omega
            · exfalso; omega
          · exfalso; omega
    · exfalso; omega
abbrev zy_bitsOf_14_11 : mm_Y := (⟨"TensorForgeModel", "bitsOf", "(I)I"⟩, prog_14_method_11_code, 1, (some .int))
theorem zyw_bitsOf_14_11 : mm_Yw zy_bitsOf_14_11 1 := ⟨mm_tb_1 1866 (by decide +kernel) rfl, mm_tb_1 12 (by decide +kernel) rfl, ⟨by decide, by decide⟩, by decide +kernel⟩
theorem zd_14_11_1 : zz_W zy_bitsOf_14_11 1 79 0 11 #[63, 79, 79, 79, 79, 65, 68, 71, 73, 73, 76, 71] := ⟨63, by decide +kernel⟩
theorem zg_14_11_0 : zq_at zy_bitsOf_14_11.2.1 0 26 ∧ zq_at zy_bitsOf_14_11.2.1 64 7 ∧ zq_at zy_bitsOf_14_11.2.1 65 172 ∧ zq_at zy_bitsOf_14_11.2.1 80 4 ∧ zq_at zy_bitsOf_14_11.2.1 81 172 ∧ zq_at zy_bitsOf_14_11.2.1 66 16 ∧ zq_at zy_bitsOf_14_11.2.1 67 12 ∧ zq_at zy_bitsOf_14_11.2.1 68 172 ∧ zq_at zy_bitsOf_14_11.2.1 69 16 ∧ zq_at zy_bitsOf_14_11.2.1 70 6 ∧ zq_at zy_bitsOf_14_11.2.1 71 172 ∧ zq_at zy_bitsOf_14_11.2.1 72 8 ∧ zq_at zy_bitsOf_14_11.2.1 73 172 ∧ zq_at zy_bitsOf_14_11.2.1 74 16 ∧ zq_at zy_bitsOf_14_11.2.1 75 9 ∧ zq_at zy_bitsOf_14_11.2.1 76 172 ∧ zq_at zy_bitsOf_14_11.2.1 77 16 ∧ zq_at zy_bitsOf_14_11.2.1 78 10 ∧ zq_at zy_bitsOf_14_11.2.1 79 172 := by decide +kernel
theorem zd_14_11_0 : zz_D zy_bitsOf_14_11 0 (.iload_n 0) 1 1 := ⟨zq_26 zg_14_11_0.1, rfl⟩
theorem zd_14_11_64 : zz_D zy_bitsOf_14_11 64 (.iconst 4) 1 65 := ⟨zq_7 zg_14_11_0.2.1, rfl⟩
theorem zd_14_11_65 : zz_D zy_bitsOf_14_11 65 (.ireturn) 1 66 := ⟨zq_172 zg_14_11_0.2.2.1, rfl⟩
theorem zd_14_11_80 : zz_D zy_bitsOf_14_11 80 (.iconst 1) 1 81 := ⟨zq_4 zg_14_11_0.2.2.2.1, rfl⟩
theorem zd_14_11_81 : zz_D zy_bitsOf_14_11 81 (.ireturn) 1 82 := ⟨zq_172 zg_14_11_0.2.2.2.2.1, rfl⟩
theorem zd_14_11_66 : zz_D zy_bitsOf_14_11 66 (.bipush 12) 2 68 := ⟨zq_16 zg_14_11_0.2.2.2.2.2.1 zg_14_11_0.2.2.2.2.2.2.1 (by decide), rfl⟩
theorem zd_14_11_68 : zz_D zy_bitsOf_14_11 68 (.ireturn) 1 69 := ⟨zq_172 zg_14_11_0.2.2.2.2.2.2.2.1, rfl⟩
theorem zd_14_11_69 : zz_D zy_bitsOf_14_11 69 (.bipush 6) 2 71 := ⟨zq_16 zg_14_11_0.2.2.2.2.2.2.2.2.1 zg_14_11_0.2.2.2.2.2.2.2.2.2.1 (by decide), rfl⟩
theorem zd_14_11_71 : zz_D zy_bitsOf_14_11 71 (.ireturn) 1 72 := ⟨zq_172 zg_14_11_0.2.2.2.2.2.2.2.2.2.2.1, rfl⟩
theorem zd_14_11_72 : zz_D zy_bitsOf_14_11 72 (.iconst 5) 1 73 := ⟨zq_8 zg_14_11_0.2.2.2.2.2.2.2.2.2.2.2.1, rfl⟩
theorem zd_14_11_73 : zz_D zy_bitsOf_14_11 73 (.ireturn) 1 74 := ⟨zq_172 zg_14_11_0.2.2.2.2.2.2.2.2.2.2.2.2.1, rfl⟩
theorem zd_14_11_74 : zz_D zy_bitsOf_14_11 74 (.bipush 9) 2 76 := ⟨zq_16 zg_14_11_0.2.2.2.2.2.2.2.2.2.2.2.2.2.1 zg_14_11_0.2.2.2.2.2.2.2.2.2.2.2.2.2.2.1 (by decide), rfl⟩
theorem zd_14_11_76 : zz_D zy_bitsOf_14_11 76 (.ireturn) 1 77 := ⟨zq_172 zg_14_11_0.2.2.2.2.2.2.2.2.2.2.2.2.2.2.2.1, rfl⟩
theorem zd_14_11_77 : zz_D zy_bitsOf_14_11 77 (.bipush 10) 2 79 := ⟨zq_16 zg_14_11_0.2.2.2.2.2.2.2.2.2.2.2.2.2.2.2.2.1 zg_14_11_0.2.2.2.2.2.2.2.2.2.2.2.2.2.2.2.2.2.1 (by decide), rfl⟩
theorem zd_14_11_79 : zz_D zy_bitsOf_14_11 79 (.ireturn) 1 80 := ⟨zq_172 zg_14_11_0.2.2.2.2.2.2.2.2.2.2.2.2.2.2.2.2.2.2, rfl⟩
-- TensorForgeModel bitsOf (I)I
abbrev zr_bitsOf_14_11 : Room := { frames := 0, cells := 0, slots := 0, locals := 0 }
def zp_bitsOf_14_11 (p0 : Int) (S0 : zz_S) : Int → zz_S → Prop := fun r S => S0 = S ∧ (1 ≤ r ∧ r ≤ 12) ∧ ((p0 = 0 ∧ r = 4) ∨ (p0 = 5 ∧ r = 12) ∨ (p0 = 6 ∧ r = 6) ∨ ((p0 = 7 ∨ p0 = 11) ∧ r = 5) ∨ ((p0 = 8 ∨ p0 = 9) ∧ r = 9) ∨ (p0 = 10 ∧ r = 10) ∨ (p0 ≠ 0 ∧ p0 ≠ 5 ∧ p0 ≠ 6 ∧ p0 ≠ 7 ∧ p0 ≠ 8 ∧ p0 ≠ 9 ∧ p0 ≠ 10 ∧ p0 ≠ 11 ∧ r = 1))
theorem zc_bitsOf_14_11 {g : mm_G} {l : Launch} (p0 : Int) (S0 : zz_S) (n : Nat) (hn : zz_end ≤ n) (G_S0 : zz_G S0) (hp0 : (-2147483648) ≤ p0 ∧ p0 ≤ 2147483647) : mm_Met g l zy_bitsOf_14_11 zr_bitsOf_14_11 [zi p0] (zz_M S0 n) n (zz_QI n (zp_bitsOf_14_11 p0 S0)) := by
  refine zz_enter (by decide) (Nat.le_of_ble_eq_true rfl) (zz_less (ls1 := [some (zi p0)]) ⟨rfl, trivial⟩ ?_)
  refine zz_iload_n (x := p0) rfl zd_14_11_0 ?_
  by_cases c1 : p0 = 0
  · refine zz_swIn 0 63 c1 (by decide) zd_14_11_1 rfl rfl ?_
    refine zz_iconst zd_14_11_64 ?_
    exact zz_iret zd_14_11_65 rfl (Nat.zero_le _) (Nat.zero_le _) ⟨_, _, rfl, rfl, by omega, by omega⟩
  by_cases c2 : p0 = 1
  · refine zz_swIn 1 79 c2 (by decide) zd_14_11_1 rfl rfl ?_
    refine zz_iconst zd_14_11_80 ?_
    exact zz_iret zd_14_11_81 rfl (Nat.zero_le _) (Nat.zero_le _) ⟨_, _, rfl, rfl, by omega, by omega⟩
  by_cases c3 : p0 = 2
  · refine zz_swIn 2 79 c3 (by decide) zd_14_11_1 rfl rfl ?_
    refine zz_iconst zd_14_11_80 ?_
    exact zz_iret zd_14_11_81 rfl (Nat.zero_le _) (Nat.zero_le _) ⟨_, _, rfl, rfl, by omega, by omega⟩
  by_cases c4 : p0 = 3
  · refine zz_swIn 3 79 c4 (by decide) zd_14_11_1 rfl rfl ?_
    refine zz_iconst zd_14_11_80 ?_
    exact zz_iret zd_14_11_81 rfl (Nat.zero_le _) (Nat.zero_le _) ⟨_, _, rfl, rfl, by omega, by omega⟩
  by_cases c5 : p0 = 4
  · refine zz_swIn 4 79 c5 (by decide) zd_14_11_1 rfl rfl ?_
    refine zz_iconst zd_14_11_80 ?_
    exact zz_iret zd_14_11_81 rfl (Nat.zero_le _) (Nat.zero_le _) ⟨_, _, rfl, rfl, by omega, by omega⟩
  by_cases c6 : p0 = 5
  · refine zz_swIn 5 65 c6 (by decide) zd_14_11_1 rfl rfl ?_
    refine zz_bipush (by decide) zd_14_11_66 ?_
    exact zz_iret zd_14_11_68 rfl (Nat.zero_le _) (Nat.zero_le _) ⟨_, _, rfl, rfl, by omega, by omega⟩
  by_cases c7 : p0 = 6
  · refine zz_swIn 6 68 c7 (by decide) zd_14_11_1 rfl rfl ?_
    refine zz_bipush (by decide) zd_14_11_69 ?_
    exact zz_iret zd_14_11_71 rfl (Nat.zero_le _) (Nat.zero_le _) ⟨_, _, rfl, rfl, by omega, by omega⟩
  by_cases c8 : p0 = 7
  · refine zz_swIn 7 71 c8 (by decide) zd_14_11_1 rfl rfl ?_
    refine zz_iconst zd_14_11_72 ?_
    exact zz_iret zd_14_11_73 rfl (Nat.zero_le _) (Nat.zero_le _) ⟨_, _, rfl, rfl, by omega, by omega⟩
  by_cases c9 : p0 = 8
  · refine zz_swIn 8 73 c9 (by decide) zd_14_11_1 rfl rfl ?_
    refine zz_bipush (by decide) zd_14_11_74 ?_
    exact zz_iret zd_14_11_76 rfl (Nat.zero_le _) (Nat.zero_le _) ⟨_, _, rfl, rfl, by omega, by omega⟩
  by_cases c10 : p0 = 9
  · refine zz_swIn 9 73 c10 (by decide) zd_14_11_1 rfl rfl ?_
    refine zz_bipush (by decide) zd_14_11_74 ?_
    exact zz_iret zd_14_11_76 rfl (Nat.zero_le _) (Nat.zero_le _) ⟨_, _, rfl, rfl, by omega, by omega⟩
  by_cases c11 : p0 = 10
  · refine zz_swIn 10 76 c11 (by decide) zd_14_11_1 rfl rfl ?_
    refine zz_bipush (by decide) zd_14_11_77 ?_
    exact zz_iret zd_14_11_79 rfl (Nat.zero_le _) (Nat.zero_le _) ⟨_, _, rfl, rfl, by omega, by omega⟩
  by_cases c12 : p0 = 11
  · refine zz_swIn 11 71 c12 (by decide) zd_14_11_1 rfl rfl ?_
    refine zz_iconst zd_14_11_72 ?_
    exact zz_iret zd_14_11_73 rfl (Nat.zero_le _) (Nat.zero_le _) ⟨_, _, rfl, rfl, by omega, by omega⟩
  refine zz_swOut (by omega) (by omega) zd_14_11_1 rfl ?_
  refine zz_iconst zd_14_11_80 ?_
  exact zz_iret zd_14_11_81 rfl (Nat.zero_le _) (Nat.zero_le _) ⟨_, _, rfl, rfl, by omega, by omega⟩
abbrev zy_fieldOf_14_12 : mm_Y := (⟨"TensorForgeModel", "fieldOf", "(JI)I"⟩, prog_14_method_12_code, 5, (some .int))
theorem zyw_fieldOf_14_12 : mm_Yw zy_fieldOf_14_12 2 := ⟨mm_tb_1 1863 (by decide +kernel) rfl, mm_tb_1 12 (by decide +kernel) rfl, ⟨by decide, by decide⟩, by decide +kernel⟩
theorem zk_Md_215 : mm_Sl "TensorForgeModel" 215 1 zy_bitsOf_14_11 := ⟨zyw_bitsOf_14_11, mm_tb_1 1864 (by decide +kernel) rfl, mm_tb_1 1865 (by decide +kernel) rfl⟩
theorem zg_14_12_0 : zq_at zy_fieldOf_14_12.2.1 0 3 ∧ zq_at zy_fieldOf_14_12.2.1 1 62 ∧ zq_at zy_fieldOf_14_12.2.1 2 3 ∧ zq_at zy_fieldOf_14_12.2.1 3 54 ∧ zq_at zy_fieldOf_14_12.2.1 4 4 ∧ zq_at zy_fieldOf_14_12.2.1 5 21 ∧ zq_at zy_fieldOf_14_12.2.1 6 4 ∧ zq_at zy_fieldOf_14_12.2.1 7 28 ∧ zq_at zy_fieldOf_14_12.2.1 8 162 ∧ zq_at zy_fieldOf_14_12.2.1 9 0 ∧ zq_at zy_fieldOf_14_12.2.1 10 17 ∧ zq_at zy_fieldOf_14_12.2.1 25 30 ∧ zq_at zy_fieldOf_14_12.2.1 26 29 ∧ zq_at zy_fieldOf_14_12.2.1 27 125 ∧ zq_at zy_fieldOf_14_12.2.1 28 10 ∧ zq_at zy_fieldOf_14_12.2.1 29 28 ∧ zq_at zy_fieldOf_14_12.2.1 30 184 ∧ zq_at zy_fieldOf_14_12.2.1 31 0 ∧ zq_at zy_fieldOf_14_12.2.1 32 215 ∧ zq_at zy_fieldOf_14_12.2.1 33 121 ∧ zq_at zy_fieldOf_14_12.2.1 34 10 ∧ zq_at zy_fieldOf_14_12.2.1 35 101 ∧ zq_at zy_fieldOf_14_12.2.1 36 127 ∧ zq_at zy_fieldOf_14_12.2.1 37 136 := by decide +kernel
theorem zd_14_12_0 : zz_D zy_fieldOf_14_12 0 (.iconst 0) 1 1 := ⟨zq_3 zg_14_12_0.1, rfl⟩
theorem zd_14_12_1 : zz_D zy_fieldOf_14_12 1 (.istore_n 3) 1 2 := ⟨zq_62 zg_14_12_0.2.1, rfl⟩
theorem zd_14_12_2 : zz_D zy_fieldOf_14_12 2 (.iconst 0) 1 3 := ⟨zq_3 zg_14_12_0.2.2.1, rfl⟩
theorem zd_14_12_3 : zz_D zy_fieldOf_14_12 3 (.istore 4) 2 5 := ⟨zq_54 zg_14_12_0.2.2.2.1 zg_14_12_0.2.2.2.2.1, rfl⟩
theorem zd_14_12_5 : zz_D zy_fieldOf_14_12 5 (.iload 4) 2 7 := ⟨zq_21 zg_14_12_0.2.2.2.2.2.1 zg_14_12_0.2.2.2.2.2.2.1, rfl⟩
theorem zd_14_12_7 : zz_D zy_fieldOf_14_12 7 (.iload_n 2) 1 8 := ⟨zq_28 zg_14_12_0.2.2.2.2.2.2.2.1, rfl⟩
theorem zd_14_12_8 : zz_B zy_fieldOf_14_12 8 (Instr.if_icmp .ge) 25 11 := ⟨17, zq_162 zg_14_12_0.2.2.2.2.2.2.2.2.1 zg_14_12_0.2.2.2.2.2.2.2.2.2.1 zg_14_12_0.2.2.2.2.2.2.2.2.2.2.1 (by decide), rfl, rfl⟩
theorem zd_14_12_25 : zz_D zy_fieldOf_14_12 25 (.lload_n 0) 1 26 := ⟨zq_30 zg_14_12_0.2.2.2.2.2.2.2.2.2.2.2.1, rfl⟩
theorem zd_14_12_26 : zz_D zy_fieldOf_14_12 26 (.iload_n 3) 1 27 := ⟨zq_29 zg_14_12_0.2.2.2.2.2.2.2.2.2.2.2.2.1, rfl⟩
theorem zd_14_12_27 : zz_D zy_fieldOf_14_12 27 (.lushr) 1 28 := ⟨zq_125 zg_14_12_0.2.2.2.2.2.2.2.2.2.2.2.2.2.1, rfl⟩
theorem zd_14_12_28 : zz_D zy_fieldOf_14_12 28 (.lconst 1) 1 29 := ⟨zq_10 zg_14_12_0.2.2.2.2.2.2.2.2.2.2.2.2.2.2.1, rfl⟩
theorem zd_14_12_29 : zz_D zy_fieldOf_14_12 29 (.iload_n 2) 1 30 := ⟨zq_28 zg_14_12_0.2.2.2.2.2.2.2.2.2.2.2.2.2.2.2.1, rfl⟩
theorem zd_14_12_30 : zz_D zy_fieldOf_14_12 30 (.invokestatic 215) 3 33 := ⟨zq_184 zg_14_12_0.2.2.2.2.2.2.2.2.2.2.2.2.2.2.2.2.1 zg_14_12_0.2.2.2.2.2.2.2.2.2.2.2.2.2.2.2.2.2.1 zg_14_12_0.2.2.2.2.2.2.2.2.2.2.2.2.2.2.2.2.2.2.1 rfl, rfl⟩
theorem zd_14_12_33 : zz_D zy_fieldOf_14_12 33 (.lshl) 1 34 := ⟨zq_121 zg_14_12_0.2.2.2.2.2.2.2.2.2.2.2.2.2.2.2.2.2.2.2.1, rfl⟩
theorem zd_14_12_34 : zz_D zy_fieldOf_14_12 34 (.lconst 1) 1 35 := ⟨zq_10 zg_14_12_0.2.2.2.2.2.2.2.2.2.2.2.2.2.2.2.2.2.2.2.2.1, rfl⟩
theorem zd_14_12_35 : zz_D zy_fieldOf_14_12 35 (.lsub) 1 36 := ⟨zq_101 zg_14_12_0.2.2.2.2.2.2.2.2.2.2.2.2.2.2.2.2.2.2.2.2.2.1, rfl⟩
theorem zd_14_12_36 : zz_D zy_fieldOf_14_12 36 (.land) 1 37 := ⟨zq_127 zg_14_12_0.2.2.2.2.2.2.2.2.2.2.2.2.2.2.2.2.2.2.2.2.2.2.1, rfl⟩
theorem zd_14_12_37 : zz_D zy_fieldOf_14_12 37 (.l2i) 1 38 := ⟨zq_136 zg_14_12_0.2.2.2.2.2.2.2.2.2.2.2.2.2.2.2.2.2.2.2.2.2.2.2, rfl⟩
theorem zg_14_12_38 : zq_at zy_fieldOf_14_12.2.1 38 172 ∧ zq_at zy_fieldOf_14_12.2.1 11 29 ∧ zq_at zy_fieldOf_14_12.2.1 12 21 ∧ zq_at zy_fieldOf_14_12.2.1 13 4 ∧ zq_at zy_fieldOf_14_12.2.1 14 184 ∧ zq_at zy_fieldOf_14_12.2.1 15 0 ∧ zq_at zy_fieldOf_14_12.2.1 16 215 ∧ zq_at zy_fieldOf_14_12.2.1 17 96 ∧ zq_at zy_fieldOf_14_12.2.1 18 62 ∧ zq_at zy_fieldOf_14_12.2.1 19 132 ∧ zq_at zy_fieldOf_14_12.2.1 20 4 ∧ zq_at zy_fieldOf_14_12.2.1 21 1 ∧ zq_at zy_fieldOf_14_12.2.1 22 167 ∧ zq_at zy_fieldOf_14_12.2.1 23 255 ∧ zq_at zy_fieldOf_14_12.2.1 24 239 := by decide +kernel
theorem zd_14_12_38 : zz_D zy_fieldOf_14_12 38 (.ireturn) 1 39 := ⟨zq_172 zg_14_12_38.1, rfl⟩
theorem zd_14_12_11 : zz_D zy_fieldOf_14_12 11 (.iload_n 3) 1 12 := ⟨zq_29 zg_14_12_38.2.1, rfl⟩
theorem zd_14_12_12 : zz_D zy_fieldOf_14_12 12 (.iload 4) 2 14 := ⟨zq_21 zg_14_12_38.2.2.1 zg_14_12_38.2.2.2.1, rfl⟩
theorem zd_14_12_14 : zz_D zy_fieldOf_14_12 14 (.invokestatic 215) 3 17 := ⟨zq_184 zg_14_12_38.2.2.2.2.1 zg_14_12_38.2.2.2.2.2.1 zg_14_12_38.2.2.2.2.2.2.1 rfl, rfl⟩
theorem zd_14_12_17 : zz_D zy_fieldOf_14_12 17 (.iadd) 1 18 := ⟨zq_96 zg_14_12_38.2.2.2.2.2.2.2.1, rfl⟩
theorem zd_14_12_18 : zz_D zy_fieldOf_14_12 18 (.istore_n 3) 1 19 := ⟨zq_62 zg_14_12_38.2.2.2.2.2.2.2.2.1, rfl⟩
theorem zd_14_12_19 : zz_D zy_fieldOf_14_12 19 (.iinc 4 1) 3 22 := ⟨zq_132 zg_14_12_38.2.2.2.2.2.2.2.2.2.1 zg_14_12_38.2.2.2.2.2.2.2.2.2.2.1 zg_14_12_38.2.2.2.2.2.2.2.2.2.2.2.1 (by decide), rfl⟩
theorem zd_14_12_22 : zz_B zy_fieldOf_14_12 22 Instr.goto 5 25 := ⟨(-17), zq_167 zg_14_12_38.2.2.2.2.2.2.2.2.2.2.2.2.1 zg_14_12_38.2.2.2.2.2.2.2.2.2.2.2.2.2.1 zg_14_12_38.2.2.2.2.2.2.2.2.2.2.2.2.2.2 (by decide), rfl, rfl⟩
-- TensorForgeModel fieldOf (JI)I
abbrev zr_fieldOf_14_12 : Room := { frames := 1, cells := 0, slots := 0, locals := 16 }
def zp_fieldOf_14_12 (p0 : Int) (p1 : Int) (S0 : zz_S) : Int → zz_S → Prop := fun r S => S0 = S ∧ (0 ≤ r ∧ r ≤ 4095)
theorem zb_fieldOf_14_12_5 {g : mm_G} {l : Launch} (p0 : Int) (p1 : Int) (S0 : zz_S) (n : Nat) (hn : zz_end ≤ n) (G_S0 : zz_G S0) (hp0 : (-9223372036854775808) ≤ p0 ∧ p0 ≤ 9223372036854775807) (hp1 : 0 ≤ p1 ∧ p1 ≤ 11) (x3 : Int) (x4 : Int) (S : zz_S) (G_S : zz_G S) (F_S : zz_fr [] [] (fun _ _ => False) S0 S) (i5_0 : 0 ≤ x3 ∧ x3 ≤ 200) (i5_1 : 0 ≤ x4 ∧ x4 ≤ 11) (i5_2 : x3 ≤ 12 * x4) (R : Nat) (hR : (p1 - x4).toNat = R) (k5 : ∀ (x3 : Int) (x4 : Int) (S : zz_S), zz_G S → zz_fr [] [] (fun _ _ => False) S0 S → (0 ≤ x3 ∧ x3 ≤ 200) → (0 ≤ x4 ∧ x4 ≤ 11) → (x3 ≤ 12 * x4) → (p1 - x4).toNat < R → zz_E g l zy_fieldOf_14_12 zr_fieldOf_14_12 (zz_QI n (zp_fieldOf_14_12 p0 p1 S0)) S n 5 [some (zl p0), none, some (zi p1), some (zi x3), some (zi x4)] [] 0 0) : zz_E g l zy_fieldOf_14_12 zr_fieldOf_14_12 (zz_QI n (zp_fieldOf_14_12 p0 p1 S0)) S n 5 [some (zl p0), none, some (zi p1), some (zi x3), some (zi x4)] [] 0 0 := by
  refine zz_iload (x := x4) rfl zd_14_12_5 ?_
  refine zz_iload_n (x := p1) rfl zd_14_12_7 ?_
  refine zz_icmp_ge (by omega) (by omega) zd_14_12_8 (fun c1 => ?_) (fun c1 => ?_)
  · refine zz_lload_n (x := p0) rfl zd_14_12_25 ?_
    refine zz_iload_n (x := x3) rfl zd_14_12_26 ?_
    refine zz_lushr zd_14_12_27 (fun v2 hv2 ev2 => ?_)
    refine zz_lconst (z := 1) (by decide) zd_14_12_28 ?_
    refine zz_iload_n (x := p1) rfl zd_14_12_29 ?_
    refine zz_callSI [zi p1] zd_14_12_30 zk_Md_215 rfl rfl ⟨Nat.le_of_ble_eq_true rfl, Nat.le_of_ble_eq_true rfl⟩ ⟨rfl, rfl⟩ (Nat.zero_le _) (Nat.zero_le _) (zc_bitsOf_14_11 p1 S n hn G_S (by omega)) (fun v4 S3 hP => ?_)
    obtain ⟨rfl, o5, o6⟩ := hP
    refine zz_lshl zd_14_12_33 (fun v7 hv7 ev7 => ?_)
    have av7 := zz_sl1 (by omega) ev7
    refine zz_lconst (z := 1) (by decide) zd_14_12_34 ?_
    refine zz_lsub zd_14_12_35 ?_
    refine zz_land zd_14_12_36 (fun v8 hv8 ev8 => ?_)
    have av8 := zz_band64 (by omega) (by omega) ev8
    refine zz_l2i (by omega) zd_14_12_37 (fun v9 hv9 av9 ev9 => ?_)
    exact zz_iret zd_14_12_38 rfl (Nat.zero_le _) (Nat.zero_le _) ⟨_, _, rfl, zz_fr.eq F_S, by omega⟩
  · refine zz_iload_n (x := x3) rfl zd_14_12_11 ?_
    refine zz_iload (x := x4) rfl zd_14_12_12 ?_
    refine zz_callSI [zi x4] zd_14_12_14 zk_Md_215 rfl rfl ⟨Nat.le_of_ble_eq_true rfl, Nat.le_of_ble_eq_true rfl⟩ ⟨rfl, rfl⟩ (Nat.zero_le _) (Nat.zero_le _) (zc_bitsOf_14_11 x4 S n hn G_S (by omega)) (fun v11 S10 hP => ?_)
    obtain ⟨rfl, o12, o13⟩ := hP
    refine zz_iadd zd_14_12_17 ?_
    refine zz_istore_n [some (zl p0), none, some (zi p1), some (zi (x3 + v11)), some (zi x4)] zd_14_12_18 (by decide) rfl ?_
    refine zz_iinc [some (zl p0), none, some (zi p1), some (zi (x3 + v11)), some (zi (x4 + 1))] zd_14_12_19 rfl rfl ?_
    refine zz_goto zd_14_12_22 ?_
    refine zz_less (ls1 := [some (zl p0), none, some (zi p1), some (zi (x3 + v11)), some (zi (x4 + 1))]) ⟨rfl, ⟨rfl, ⟨rfl, ⟨rfl, trivial⟩⟩⟩⟩ ?_
    exact k5 (x3 + v11) (x4 + 1) S G_S F_S (by omega) (by omega) (by omega) (by omega)
theorem zi_fieldOf_14_12 {g : mm_G} {l : Launch} (p0 : Int) (p1 : Int) (S0 : zz_S) (n : Nat) (hn : zz_end ≤ n) (G_S0 : zz_G S0) (hp0 : (-9223372036854775808) ≤ p0 ∧ p0 ≤ 9223372036854775807) (hp1 : 0 ≤ p1 ∧ p1 ≤ 11) : ∀ N : Nat, (∀ (x3 : Int) (x4 : Int) (S : zz_S), zz_G S → zz_fr [] [] (fun _ _ => False) S0 S → (0 ≤ x3 ∧ x3 ≤ 200) → (0 ≤ x4 ∧ x4 ≤ 11) → (x3 ≤ 12 * x4) → (p1 - x4).toNat < N → zz_E g l zy_fieldOf_14_12 zr_fieldOf_14_12 (zz_QI n (zp_fieldOf_14_12 p0 p1 S0)) S n 5 [some (zl p0), none, some (zi p1), some (zi x3), some (zi x4)] [] 0 0) := by
  intro N
  induction N with
  | zero => exact fun x3 x4 S _ _ _ _ _ h => absurd h (Nat.not_lt_zero _)
  | succ N ih =>
    exact fun x3 x4 S a b j0 j1 j2 hR => zb_fieldOf_14_12_5 p0 p1 S0 n hn G_S0 hp0 hp1 x3 x4 S a b j0 j1 j2 _ rfl (fun x3 x4 S a b j0 j1 j2 h => ih x3 x4 S a b j0 j1 j2 (Nat.lt_of_lt_of_le h (Nat.le_of_lt_succ hR)))
theorem zc_fieldOf_14_12 {g : mm_G} {l : Launch} (p0 : Int) (p1 : Int) (S0 : zz_S) (n : Nat) (hn : zz_end ≤ n) (G_S0 : zz_G S0) (hp0 : (-9223372036854775808) ≤ p0 ∧ p0 ≤ 9223372036854775807) (hp1 : 0 ≤ p1 ∧ p1 ≤ 11) : mm_Met g l zy_fieldOf_14_12 zr_fieldOf_14_12 [zl p0, zi p1] (zz_M S0 n) n (zz_QI n (zp_fieldOf_14_12 p0 p1 S0)) := by
  refine zz_enter (by decide) (Nat.le_of_ble_eq_true rfl) (zz_less (ls1 := [some (zl p0), none, some (zi p1)]) ⟨rfl, ⟨rfl, trivial⟩⟩ ?_)
  have F_S0 : zz_fr [] [] (fun _ _ => False) S0 S0 := zz_fr.refl
  have k5 : ∀ (x3 : Int) (x4 : Int) (S : zz_S), zz_G S → zz_fr [] [] (fun _ _ => False) S0 S → (0 ≤ x3 ∧ x3 ≤ 200) → (0 ≤ x4 ∧ x4 ≤ 11) → (x3 ≤ 12 * x4) → zz_E g l zy_fieldOf_14_12 zr_fieldOf_14_12 (zz_QI n (zp_fieldOf_14_12 p0 p1 S0)) S n 5 [some (zl p0), none, some (zi p1), some (zi x3), some (zi x4)] [] 0 0 := fun x3 x4 S a b j0 j1 j2 => (zi_fieldOf_14_12 (g := g) (l := l) p0 p1 S0 n hn G_S0 hp0 hp1 _) x3 x4 S a b j0 j1 j2 (Nat.lt_succ_self _)
  refine zz_iconst zd_14_12_0 ?_
  refine zz_istore_n [some (zl p0), none, some (zi p1), some (zi 0)] zd_14_12_1 (by decide) rfl ?_
  refine zz_iconst zd_14_12_2 ?_
  refine zz_istore [some (zl p0), none, some (zi p1), some (zi 0), some (zi 0)] zd_14_12_3 (by decide) rfl ?_
  refine zz_less (ls1 := [some (zl p0), none, some (zi p1), some (zi 0), some (zi 0)]) ⟨rfl, ⟨rfl, ⟨rfl, ⟨rfl, trivial⟩⟩⟩⟩ ?_
  exact k5 0 0 S0 G_S0 F_S0 (by omega) (by omega) (by omega)
abbrev zy_field_14_13 : mm_Y := (⟨"TensorForgeModel", "field", "(JI)I"⟩, prog_14_method_13_code, 4, (some .int))
theorem zyw_field_14_13 : mm_Yw zy_field_14_13 2 := ⟨mm_tb_1 1859 (by decide +kernel) rfl, mm_tb_1 12 (by decide +kernel) rfl, ⟨by decide, by decide⟩, by decide +kernel⟩
theorem zq_Md_218 : Cond.constantLong "TensorForgeModel" 218 (11 : Int64) ∈ mm_tb := mm_tb_1 1860 (by decide +kernel) rfl
theorem zg_14_13_0 : zq_at zy_field_14_13.2.1 0 42 ∧ zq_at zy_field_14_13.2.1 1 29 ∧ zq_at zy_field_14_13.2.1 2 133 ∧ zq_at zy_field_14_13.2.1 3 9 ∧ zq_at zy_field_14_13.2.1 4 20 ∧ zq_at zy_field_14_13.2.1 5 0 ∧ zq_at zy_field_14_13.2.1 6 218 ∧ zq_at zy_field_14_13.2.1 7 184 ∧ zq_at zy_field_14_13.2.1 8 0 ∧ zq_at zy_field_14_13.2.1 9 192 ∧ zq_at zy_field_14_13.2.1 10 154 ∧ zq_at zy_field_14_13.2.1 11 0 ∧ zq_at zy_field_14_13.2.1 12 7 ∧ zq_at zy_field_14_13.2.1 13 4 ∧ zq_at zy_field_14_13.2.1 14 167 ∧ zq_at zy_field_14_13.2.1 15 0 ∧ zq_at zy_field_14_13.2.1 16 4 ∧ zq_at zy_field_14_13.2.1 18 3 ∧ zq_at zy_field_14_13.2.1 19 3 ∧ zq_at zy_field_14_13.2.1 20 182 ∧ zq_at zy_field_14_13.2.1 21 0 ∧ zq_at zy_field_14_13.2.1 22 196 := by decide +kernel
theorem zd_14_13_0 : zz_D zy_field_14_13 0 (.aload_n 0) 1 1 := ⟨zq_42 zg_14_13_0.1, rfl⟩
theorem zd_14_13_1 : zz_D zy_field_14_13 1 (.iload_n 3) 1 2 := ⟨zq_29 zg_14_13_0.2.1, rfl⟩
theorem zd_14_13_2 : zz_D zy_field_14_13 2 (.i2l) 1 3 := ⟨zq_133 zg_14_13_0.2.2.1, rfl⟩
theorem zd_14_13_3 : zz_D zy_field_14_13 3 (.lconst 0) 1 4 := ⟨zq_9 zg_14_13_0.2.2.2.1, rfl⟩
theorem zd_14_13_4 : zz_D zy_field_14_13 4 (.ldc2_w 218) 3 7 := ⟨zq_20 zg_14_13_0.2.2.2.2.1 zg_14_13_0.2.2.2.2.2.1 zg_14_13_0.2.2.2.2.2.2.1 rfl, rfl⟩
theorem zd_14_13_7 : zz_D zy_field_14_13 7 (.invokestatic 192) 3 10 := ⟨zq_184 zg_14_13_0.2.2.2.2.2.2.2.1 zg_14_13_0.2.2.2.2.2.2.2.2.1 zg_14_13_0.2.2.2.2.2.2.2.2.2.1 rfl, rfl⟩
theorem zd_14_13_10 : zz_B zy_field_14_13 10 (Instr.ifCond .ne) 17 13 := ⟨7, zq_154 zg_14_13_0.2.2.2.2.2.2.2.2.2.2.1 zg_14_13_0.2.2.2.2.2.2.2.2.2.2.2.1 zg_14_13_0.2.2.2.2.2.2.2.2.2.2.2.2.1 (by decide), rfl, rfl⟩
theorem zd_14_13_13 : zz_D zy_field_14_13 13 (.iconst 1) 1 14 := ⟨zq_4 zg_14_13_0.2.2.2.2.2.2.2.2.2.2.2.2.2.1, rfl⟩
theorem zd_14_13_14 : zz_B zy_field_14_13 14 Instr.goto 18 17 := ⟨4, zq_167 zg_14_13_0.2.2.2.2.2.2.2.2.2.2.2.2.2.2.1 zg_14_13_0.2.2.2.2.2.2.2.2.2.2.2.2.2.2.2.1 zg_14_13_0.2.2.2.2.2.2.2.2.2.2.2.2.2.2.2.2.1 (by decide), rfl, rfl⟩
theorem zd_14_13_18 : zz_D zy_field_14_13 18 (.iconst 0) 1 19 := ⟨zq_3 zg_14_13_0.2.2.2.2.2.2.2.2.2.2.2.2.2.2.2.2.2.1, rfl⟩
theorem zd_14_13_19 : zz_D zy_field_14_13 19 (.iconst 0) 1 20 := ⟨zq_3 zg_14_13_0.2.2.2.2.2.2.2.2.2.2.2.2.2.2.2.2.2.2.1, rfl⟩
theorem zd_14_13_20 : zz_D zy_field_14_13 20 (.invokevirtual 196) 3 23 := ⟨zq_182 zg_14_13_0.2.2.2.2.2.2.2.2.2.2.2.2.2.2.2.2.2.2.2.1 zg_14_13_0.2.2.2.2.2.2.2.2.2.2.2.2.2.2.2.2.2.2.2.2.1 zg_14_13_0.2.2.2.2.2.2.2.2.2.2.2.2.2.2.2.2.2.2.2.2.2 rfl, rfl⟩
theorem zg_14_13_23 : zq_at zy_field_14_13.2.1 23 153 ∧ zq_at zy_field_14_13.2.1 24 0 ∧ zq_at zy_field_14_13.2.1 25 7 ∧ zq_at zy_field_14_13.2.1 26 3 ∧ zq_at zy_field_14_13.2.1 27 167 ∧ zq_at zy_field_14_13.2.1 28 0 ∧ zq_at zy_field_14_13.2.1 29 8 ∧ zq_at zy_field_14_13.2.1 35 172 ∧ zq_at zy_field_14_13.2.1 17 3 ∧ zq_at zy_field_14_13.2.1 30 31 ∧ zq_at zy_field_14_13.2.1 31 29 ∧ zq_at zy_field_14_13.2.1 32 184 ∧ zq_at zy_field_14_13.2.1 33 0 ∧ zq_at zy_field_14_13.2.1 34 220 := by decide +kernel
theorem zd_14_13_23 : zz_B zy_field_14_13 23 (Instr.ifCond .eq) 30 26 := ⟨7, zq_153 zg_14_13_23.1 zg_14_13_23.2.1 zg_14_13_23.2.2.1 (by decide), rfl, rfl⟩
theorem zd_14_13_26 : zz_D zy_field_14_13 26 (.iconst 0) 1 27 := ⟨zq_3 zg_14_13_23.2.2.2.1, rfl⟩
theorem zd_14_13_27 : zz_B zy_field_14_13 27 Instr.goto 35 30 := ⟨8, zq_167 zg_14_13_23.2.2.2.2.1 zg_14_13_23.2.2.2.2.2.1 zg_14_13_23.2.2.2.2.2.2.1 (by decide), rfl, rfl⟩
theorem zd_14_13_35 : zz_D zy_field_14_13 35 (.ireturn) 1 36 := ⟨zq_172 zg_14_13_23.2.2.2.2.2.2.2.1, rfl⟩
theorem zd_14_13_17 : zz_D zy_field_14_13 17 (.iconst 0) 1 18 := ⟨zq_3 zg_14_13_23.2.2.2.2.2.2.2.2.1, rfl⟩
theorem zd_14_13_30 : zz_D zy_field_14_13 30 (.lload_n 1) 1 31 := ⟨zq_31 zg_14_13_23.2.2.2.2.2.2.2.2.2.1, rfl⟩
theorem zd_14_13_31 : zz_D zy_field_14_13 31 (.iload_n 3) 1 32 := ⟨zq_29 zg_14_13_23.2.2.2.2.2.2.2.2.2.2.1, rfl⟩
theorem zd_14_13_32 : zz_D zy_field_14_13 32 (.invokestatic 220) 3 35 := ⟨zq_184 zg_14_13_23.2.2.2.2.2.2.2.2.2.2.2.1 zg_14_13_23.2.2.2.2.2.2.2.2.2.2.2.2.1 zg_14_13_23.2.2.2.2.2.2.2.2.2.2.2.2.2 rfl, rfl⟩
-- TensorForgeModel fieldOf (JI)I
abbrev zr_fieldOf_14_12x_0 : Room := { frames := 1, cells := 0, slots := 0, locals := 16 }
def zp_fieldOf_14_12x_0 (p0 : Int) (S0 : zz_S) : Int → zz_S → Prop := fun r S => S0 = S ∧ (0 ≤ r ∧ r ≤ 15) ∧ (r = zz_fx p0 0 15)
theorem zc_fieldOf_14_12x_0 {g : mm_G} {l : Launch} (p0 : Int) (S0 : zz_S) (n : Nat) (hn : zz_end ≤ n) (G_S0 : zz_G S0) (hp0 : (-9223372036854775808) ≤ p0 ∧ p0 ≤ 9223372036854775807) : mm_Met g l zy_fieldOf_14_12 zr_fieldOf_14_12x_0 [zl p0, zi 0] (zz_M S0 n) n (zz_QI n (zp_fieldOf_14_12x_0 p0 S0)) := by
  refine zz_enter (by decide) (Nat.le_of_ble_eq_true rfl) (zz_less (ls1 := [some (zl p0), none, some (zi 0)]) ⟨rfl, ⟨rfl, trivial⟩⟩ ?_)
  refine zz_iconst zd_14_12_0 ?_
  refine zz_istore_n [some (zl p0), none, some (zi 0), some (zi 0)] zd_14_12_1 (by decide) rfl ?_
  refine zz_iconst zd_14_12_2 ?_
  refine zz_istore [some (zl p0), none, some (zi 0), some (zi 0), some (zi 0)] zd_14_12_3 (by decide) rfl ?_
  refine zz_iload (x := 0) rfl zd_14_12_5 ?_
  refine zz_iload_n (x := 0) rfl zd_14_12_7 ?_
  refine zz_icmp_ge (by omega) (by omega) zd_14_12_8 (fun c1 => ?_) (fun c1 => ?_)
  · refine zz_lload_n (x := p0) rfl zd_14_12_25 ?_
    refine zz_iload_n (x := 0) rfl zd_14_12_26 ?_
    refine zz_lushr zd_14_12_27 (fun v2 hv2 ev2 => ?_)
    refine zz_lconst (z := 1) (by decide) zd_14_12_28 ?_
    refine zz_iload_n (x := 0) rfl zd_14_12_29 ?_
    refine zz_callSI [zi 0] zd_14_12_30 zk_Md_215 rfl rfl ⟨Nat.le_of_ble_eq_true rfl, Nat.le_of_ble_eq_true rfl⟩ ⟨rfl, rfl⟩ (Nat.zero_le _) (Nat.zero_le _) (zc_bitsOf_14_11 0 S0 n hn G_S0 (by omega)) (fun v4 S3 hP => ?_)
    obtain ⟨rfl, o5, o6⟩ := hP
    obtain rfl : v4 = 4 := by omega
    refine zz_lshl zd_14_12_33 (fun v7 hv7 ev7 => ?_)
    have av7 := zz_sl1 (by omega) ev7
    refine zz_eqvl (v := 16) (by omega) ?_
    refine zz_lconst (z := 1) (by decide) zd_14_12_34 ?_
    refine zz_lsub zd_14_12_35 ?_
    refine zz_eqvl (v := 15) (by decide) ?_
    refine zz_land zd_14_12_36 (fun v8 hv8 ev8 => ?_)
    have av8 := zz_band64 (by omega) (by omega) ev8
    refine zz_l2i (by omega) zd_14_12_37 (fun v9 hv9 av9 ev9 => ?_)
    exact zz_iret zd_14_12_38 rfl (Nat.zero_le _) (Nat.zero_le _) ⟨_, _, rfl, rfl, by omega, by subst_vars; rfl⟩
  · exfalso; omega
theorem zk_Md_220 : mm_Sl "TensorForgeModel" 220 2 zy_fieldOf_14_12 := ⟨zyw_fieldOf_14_12, mm_tb_1 1861 (by decide +kernel) rfl, mm_tb_1 1862 (by decide +kernel) rfl⟩
-- TensorForgeModel fieldOf (JI)I
abbrev zr_fieldOf_14_12x_1 : Room := { frames := 1, cells := 0, slots := 0, locals := 16 }
def zp_fieldOf_14_12x_1 (p0 : Int) (S0 : zz_S) : Int → zz_S → Prop := fun r S => S0 = S ∧ (0 ≤ r ∧ r ≤ 1) ∧ (r = zz_fx p0 4 1)
theorem zc_fieldOf_14_12x_1 {g : mm_G} {l : Launch} (p0 : Int) (S0 : zz_S) (n : Nat) (hn : zz_end ≤ n) (G_S0 : zz_G S0) (hp0 : (-9223372036854775808) ≤ p0 ∧ p0 ≤ 9223372036854775807) : mm_Met g l zy_fieldOf_14_12 zr_fieldOf_14_12x_1 [zl p0, zi 1] (zz_M S0 n) n (zz_QI n (zp_fieldOf_14_12x_1 p0 S0)) := by
  refine zz_enter (by decide) (Nat.le_of_ble_eq_true rfl) (zz_less (ls1 := [some (zl p0), none, some (zi 1)]) ⟨rfl, ⟨rfl, trivial⟩⟩ ?_)
  refine zz_iconst zd_14_12_0 ?_
  refine zz_istore_n [some (zl p0), none, some (zi 1), some (zi 0)] zd_14_12_1 (by decide) rfl ?_
  refine zz_iconst zd_14_12_2 ?_
  refine zz_istore [some (zl p0), none, some (zi 1), some (zi 0), some (zi 0)] zd_14_12_3 (by decide) rfl ?_
  refine zz_iload (x := 0) rfl zd_14_12_5 ?_
  refine zz_iload_n (x := 1) rfl zd_14_12_7 ?_
  refine zz_icmp_ge (by omega) (by omega) zd_14_12_8 (fun c1 => ?_) (fun c1 => ?_)
  · exfalso; omega
  · refine zz_iload_n (x := 0) rfl zd_14_12_11 ?_
    refine zz_iload (x := 0) rfl zd_14_12_12 ?_
    refine zz_callSI [zi 0] zd_14_12_14 zk_Md_215 rfl rfl ⟨Nat.le_of_ble_eq_true rfl, Nat.le_of_ble_eq_true rfl⟩ ⟨rfl, rfl⟩ (Nat.zero_le _) (Nat.zero_le _) (zc_bitsOf_14_11 0 S0 n hn G_S0 (by omega)) (fun v3 S2 hP => ?_)
    obtain ⟨rfl, o4, o5⟩ := hP
    obtain rfl : v3 = 4 := by omega
    refine zz_iadd zd_14_12_17 ?_
    refine zz_eqv (v := 4) (by decide) ?_
    refine zz_istore_n [some (zl p0), none, some (zi 1), some (zi 4), some (zi 0)] zd_14_12_18 (by decide) rfl ?_
    refine zz_iinc [some (zl p0), none, some (zi 1), some (zi 4), some (zi 1)] zd_14_12_19 rfl rfl ?_
    refine zz_goto zd_14_12_22 ?_
    refine zz_iload (x := 1) rfl zd_14_12_5 ?_
    refine zz_iload_n (x := 1) rfl zd_14_12_7 ?_
    refine zz_icmp_ge (by omega) (by omega) zd_14_12_8 (fun c6 => ?_) (fun c6 => ?_)
    · refine zz_lload_n (x := p0) rfl zd_14_12_25 ?_
      refine zz_iload_n (x := 4) rfl zd_14_12_26 ?_
      refine zz_lushr zd_14_12_27 (fun v7 hv7 ev7 => ?_)
      refine zz_lconst (z := 1) (by decide) zd_14_12_28 ?_
      refine zz_iload_n (x := 1) rfl zd_14_12_29 ?_
      refine zz_callSI [zi 1] zd_14_12_30 zk_Md_215 rfl rfl ⟨Nat.le_of_ble_eq_true rfl, Nat.le_of_ble_eq_true rfl⟩ ⟨rfl, rfl⟩ (Nat.zero_le _) (Nat.zero_le _) (zc_bitsOf_14_11 1 S0 n hn G_S0 (by omega)) (fun v9 S8 hP => ?_)
      obtain ⟨rfl, o10, o11⟩ := hP
      obtain rfl : v9 = 1 := by omega
      refine zz_lshl zd_14_12_33 (fun v12 hv12 ev12 => ?_)
      have av12 := zz_sl1 (by omega) ev12
      refine zz_eqvl (v := 2) (by omega) ?_
      refine zz_lconst (z := 1) (by decide) zd_14_12_34 ?_
      refine zz_lsub zd_14_12_35 ?_
      refine zz_eqvl (v := 1) (by decide) ?_
      refine zz_land zd_14_12_36 (fun v13 hv13 ev13 => ?_)
      have av13 := zz_band64 (by omega) (by omega) ev13
      refine zz_l2i (by omega) zd_14_12_37 (fun v14 hv14 av14 ev14 => ?_)
      exact zz_iret zd_14_12_38 rfl (Nat.zero_le _) (Nat.zero_le _) ⟨_, _, rfl, rfl, by omega, by subst_vars; rfl⟩
    · exfalso; omega
-- TensorForgeModel fieldOf (JI)I
abbrev zr_fieldOf_14_12x_2 : Room := { frames := 1, cells := 0, slots := 0, locals := 16 }
def zp_fieldOf_14_12x_2 (p0 : Int) (S0 : zz_S) : Int → zz_S → Prop := fun r S => S0 = S ∧ (0 ≤ r ∧ r ≤ 1) ∧ (r = zz_fx p0 5 1)
theorem zc_fieldOf_14_12x_2 {g : mm_G} {l : Launch} (p0 : Int) (S0 : zz_S) (n : Nat) (hn : zz_end ≤ n) (G_S0 : zz_G S0) (hp0 : (-9223372036854775808) ≤ p0 ∧ p0 ≤ 9223372036854775807) : mm_Met g l zy_fieldOf_14_12 zr_fieldOf_14_12x_2 [zl p0, zi 2] (zz_M S0 n) n (zz_QI n (zp_fieldOf_14_12x_2 p0 S0)) := by
  refine zz_enter (by decide) (Nat.le_of_ble_eq_true rfl) (zz_less (ls1 := [some (zl p0), none, some (zi 2)]) ⟨rfl, ⟨rfl, trivial⟩⟩ ?_)
  refine zz_iconst zd_14_12_0 ?_
  refine zz_istore_n [some (zl p0), none, some (zi 2), some (zi 0)] zd_14_12_1 (by decide) rfl ?_
  refine zz_iconst zd_14_12_2 ?_
  refine zz_istore [some (zl p0), none, some (zi 2), some (zi 0), some (zi 0)] zd_14_12_3 (by decide) rfl ?_
  refine zz_iload (x := 0) rfl zd_14_12_5 ?_
  refine zz_iload_n (x := 2) rfl zd_14_12_7 ?_
  refine zz_icmp_ge (by omega) (by omega) zd_14_12_8 (fun c1 => ?_) (fun c1 => ?_)
  · exfalso; omega
  · refine zz_iload_n (x := 0) rfl zd_14_12_11 ?_
    refine zz_iload (x := 0) rfl zd_14_12_12 ?_
    refine zz_callSI [zi 0] zd_14_12_14 zk_Md_215 rfl rfl ⟨Nat.le_of_ble_eq_true rfl, Nat.le_of_ble_eq_true rfl⟩ ⟨rfl, rfl⟩ (Nat.zero_le _) (Nat.zero_le _) (zc_bitsOf_14_11 0 S0 n hn G_S0 (by omega)) (fun v3 S2 hP => ?_)
    obtain ⟨rfl, o4, o5⟩ := hP
    obtain rfl : v3 = 4 := by omega
    refine zz_iadd zd_14_12_17 ?_
    refine zz_eqv (v := 4) (by decide) ?_
    refine zz_istore_n [some (zl p0), none, some (zi 2), some (zi 4), some (zi 0)] zd_14_12_18 (by decide) rfl ?_
    refine zz_iinc [some (zl p0), none, some (zi 2), some (zi 4), some (zi 1)] zd_14_12_19 rfl rfl ?_
    refine zz_goto zd_14_12_22 ?_
    refine zz_iload (x := 1) rfl zd_14_12_5 ?_
    refine zz_iload_n (x := 2) rfl zd_14_12_7 ?_
    refine zz_icmp_ge (by omega) (by omega) zd_14_12_8 (fun c6 => ?_) (fun c6 => ?_)
    · exfalso; omega
    · refine zz_iload_n (x := 4) rfl zd_14_12_11 ?_
      refine zz_iload (x := 1) rfl zd_14_12_12 ?_
      refine zz_callSI [zi 1] zd_14_12_14 zk_Md_215 rfl rfl ⟨Nat.le_of_ble_eq_true rfl, Nat.le_of_ble_eq_true rfl⟩ ⟨rfl, rfl⟩ (Nat.zero_le _) (Nat.zero_le _) (zc_bitsOf_14_11 1 S0 n hn G_S0 (by omega)) (fun v8 S7 hP => ?_)
      obtain ⟨rfl, o9, o10⟩ := hP
      obtain rfl : v8 = 1 := by omega
      refine zz_iadd zd_14_12_17 ?_
      refine zz_eqv (v := 5) (by decide) ?_
      refine zz_istore_n [some (zl p0), none, some (zi 2), some (zi 5), some (zi 1)] zd_14_12_18 (by decide) rfl ?_
      refine zz_iinc [some (zl p0), none, some (zi 2), some (zi 5), some (zi 2)] zd_14_12_19 rfl rfl ?_
      refine zz_goto zd_14_12_22 ?_
      refine zz_iload (x := 2) rfl zd_14_12_5 ?_
      refine zz_iload_n (x := 2) rfl zd_14_12_7 ?_
      refine zz_icmp_ge (by omega) (by omega) zd_14_12_8 (fun c11 => ?_) (fun c11 => ?_)
      · refine zz_lload_n (x := p0) rfl zd_14_12_25 ?_
        refine zz_iload_n (x := 5) rfl zd_14_12_26 ?_
        refine zz_lushr zd_14_12_27 (fun v12 hv12 ev12 => ?_)
        refine zz_lconst (z := 1) (by decide) zd_14_12_28 ?_
        refine zz_iload_n (x := 2) rfl zd_14_12_29 ?_
        refine zz_callSI [zi 2] zd_14_12_30 zk_Md_215 rfl rfl ⟨Nat.le_of_ble_eq_true rfl, Nat.le_of_ble_eq_true rfl⟩ ⟨rfl, rfl⟩ (Nat.zero_le _) (Nat.zero_le _) (zc_bitsOf_14_11 2 S0 n hn G_S0 (by omega)) (fun v14 S13 hP => ?_)
        obtain ⟨rfl, o15, o16⟩ := hP
        obtain rfl : v14 = 1 := by omega
        refine zz_lshl zd_14_12_33 (fun v17 hv17 ev17 => ?_)
        have av17 := zz_sl1 (by omega) ev17
        refine zz_eqvl (v := 2) (by omega) ?_
        refine zz_lconst (z := 1) (by decide) zd_14_12_34 ?_
        refine zz_lsub zd_14_12_35 ?_
        refine zz_eqvl (v := 1) (by decide) ?_
        refine zz_land zd_14_12_36 (fun v18 hv18 ev18 => ?_)
        have av18 := zz_band64 (by omega) (by omega) ev18
        refine zz_l2i (by omega) zd_14_12_37 (fun v19 hv19 av19 ev19 => ?_)
        exact zz_iret zd_14_12_38 rfl (Nat.zero_le _) (Nat.zero_le _) ⟨_, _, rfl, rfl, by omega, by subst_vars; rfl⟩
      · exfalso; omega
-- TensorForgeModel fieldOf (JI)I
abbrev zr_fieldOf_14_12x_3 : Room := { frames := 1, cells := 0, slots := 0, locals := 16 }
def zp_fieldOf_14_12x_3 (p0 : Int) (S0 : zz_S) : Int → zz_S → Prop := fun r S => S0 = S ∧ (0 ≤ r ∧ r ≤ 1) ∧ (r = zz_fx p0 6 1)
theorem zc_fieldOf_14_12x_3 {g : mm_G} {l : Launch} (p0 : Int) (S0 : zz_S) (n : Nat) (hn : zz_end ≤ n) (G_S0 : zz_G S0) (hp0 : (-9223372036854775808) ≤ p0 ∧ p0 ≤ 9223372036854775807) : mm_Met g l zy_fieldOf_14_12 zr_fieldOf_14_12x_3 [zl p0, zi 3] (zz_M S0 n) n (zz_QI n (zp_fieldOf_14_12x_3 p0 S0)) := by
  refine zz_enter (by decide) (Nat.le_of_ble_eq_true rfl) (zz_less (ls1 := [some (zl p0), none, some (zi 3)]) ⟨rfl, ⟨rfl, trivial⟩⟩ ?_)
  refine zz_iconst zd_14_12_0 ?_
  refine zz_istore_n [some (zl p0), none, some (zi 3), some (zi 0)] zd_14_12_1 (by decide) rfl ?_
  refine zz_iconst zd_14_12_2 ?_
  refine zz_istore [some (zl p0), none, some (zi 3), some (zi 0), some (zi 0)] zd_14_12_3 (by decide) rfl ?_
  refine zz_iload (x := 0) rfl zd_14_12_5 ?_
  refine zz_iload_n (x := 3) rfl zd_14_12_7 ?_
  refine zz_icmp_ge (by omega) (by omega) zd_14_12_8 (fun c1 => ?_) (fun c1 => ?_)
  · exfalso; omega
  · refine zz_iload_n (x := 0) rfl zd_14_12_11 ?_
    refine zz_iload (x := 0) rfl zd_14_12_12 ?_
    refine zz_callSI [zi 0] zd_14_12_14 zk_Md_215 rfl rfl ⟨Nat.le_of_ble_eq_true rfl, Nat.le_of_ble_eq_true rfl⟩ ⟨rfl, rfl⟩ (Nat.zero_le _) (Nat.zero_le _) (zc_bitsOf_14_11 0 S0 n hn G_S0 (by omega)) (fun v3 S2 hP => ?_)
    obtain ⟨rfl, o4, o5⟩ := hP
    obtain rfl : v3 = 4 := by omega
    refine zz_iadd zd_14_12_17 ?_
    refine zz_eqv (v := 4) (by decide) ?_
    refine zz_istore_n [some (zl p0), none, some (zi 3), some (zi 4), some (zi 0)] zd_14_12_18 (by decide) rfl ?_
    refine zz_iinc [some (zl p0), none, some (zi 3), some (zi 4), some (zi 1)] zd_14_12_19 rfl rfl ?_
    refine zz_goto zd_14_12_22 ?_
    refine zz_iload (x := 1) rfl zd_14_12_5 ?_
    refine zz_iload_n (x := 3) rfl zd_14_12_7 ?_
    refine zz_icmp_ge (by omega) (by omega) zd_14_12_8 (fun c6 => ?_) (fun c6 => ?_)
    · exfalso; omega
    · refine zz_iload_n (x := 4) rfl zd_14_12_11 ?_
      refine zz_iload (x := 1) rfl zd_14_12_12 ?_
      refine zz_callSI [zi 1] zd_14_12_14 zk_Md_215 rfl rfl ⟨Nat.le_of_ble_eq_true rfl, Nat.le_of_ble_eq_true rfl⟩ ⟨rfl, rfl⟩ (Nat.zero_le _) (Nat.zero_le _) (zc_bitsOf_14_11 1 S0 n hn G_S0 (by omega)) (fun v8 S7 hP => ?_)
      obtain ⟨rfl, o9, o10⟩ := hP
      obtain rfl : v8 = 1 := by omega
      refine zz_iadd zd_14_12_17 ?_
      refine zz_eqv (v := 5) (by decide) ?_
      refine zz_istore_n [some (zl p0), none, some (zi 3), some (zi 5), some (zi 1)] zd_14_12_18 (by decide) rfl ?_
      refine zz_iinc [some (zl p0), none, some (zi 3), some (zi 5), some (zi 2)] zd_14_12_19 rfl rfl ?_
      refine zz_goto zd_14_12_22 ?_
      refine zz_iload (x := 2) rfl zd_14_12_5 ?_
      refine zz_iload_n (x := 3) rfl zd_14_12_7 ?_
      refine zz_icmp_ge (by omega) (by omega) zd_14_12_8 (fun c11 => ?_) (fun c11 => ?_)
      · exfalso; omega
      · refine zz_iload_n (x := 5) rfl zd_14_12_11 ?_
        refine zz_iload (x := 2) rfl zd_14_12_12 ?_
        refine zz_callSI [zi 2] zd_14_12_14 zk_Md_215 rfl rfl ⟨Nat.le_of_ble_eq_true rfl, Nat.le_of_ble_eq_true rfl⟩ ⟨rfl, rfl⟩ (Nat.zero_le _) (Nat.zero_le _) (zc_bitsOf_14_11 2 S0 n hn G_S0 (by omega)) (fun v13 S12 hP => ?_)
        obtain ⟨rfl, o14, o15⟩ := hP
        obtain rfl : v13 = 1 := by omega
        refine zz_iadd zd_14_12_17 ?_
        refine zz_eqv (v := 6) (by decide) ?_
        refine zz_istore_n [some (zl p0), none, some (zi 3), some (zi 6), some (zi 2)] zd_14_12_18 (by decide) rfl ?_
        refine zz_iinc [some (zl p0), none, some (zi 3), some (zi 6), some (zi 3)] zd_14_12_19 rfl rfl ?_
        refine zz_goto zd_14_12_22 ?_
        refine zz_iload (x := 3) rfl zd_14_12_5 ?_
        refine zz_iload_n (x := 3) rfl zd_14_12_7 ?_
        refine zz_icmp_ge (by omega) (by omega) zd_14_12_8 (fun c16 => ?_) (fun c16 => ?_)
        · refine zz_lload_n (x := p0) rfl zd_14_12_25 ?_
          refine zz_iload_n (x := 6) rfl zd_14_12_26 ?_
          refine zz_lushr zd_14_12_27 (fun v17 hv17 ev17 => ?_)
          refine zz_lconst (z := 1) (by decide) zd_14_12_28 ?_
          refine zz_iload_n (x := 3) rfl zd_14_12_29 ?_
          refine zz_callSI [zi 3] zd_14_12_30 zk_Md_215 rfl rfl ⟨Nat.le_of_ble_eq_true rfl, Nat.le_of_ble_eq_true rfl⟩ ⟨rfl, rfl⟩ (Nat.zero_le _) (Nat.zero_le _) (zc_bitsOf_14_11 3 S0 n hn G_S0 (by omega)) (fun v19 S18 hP => ?_)
          obtain ⟨rfl, o20, o21⟩ := hP
          obtain rfl : v19 = 1 := by omega
          refine zz_lshl zd_14_12_33 (fun v22 hv22 ev22 => ?_)
          have av22 := zz_sl1 (by omega) ev22
          refine zz_eqvl (v := 2) (by omega) ?_
          refine zz_lconst (z := 1) (by decide) zd_14_12_34 ?_
          refine zz_lsub zd_14_12_35 ?_
          refine zz_eqvl (v := 1) (by decide) ?_
          refine zz_land zd_14_12_36 (fun v23 hv23 ev23 => ?_)
          have av23 := zz_band64 (by omega) (by omega) ev23
          refine zz_l2i (by omega) zd_14_12_37 (fun v24 hv24 av24 ev24 => ?_)
          exact zz_iret zd_14_12_38 rfl (Nat.zero_le _) (Nat.zero_le _) ⟨_, _, rfl, rfl, by omega, by subst_vars; rfl⟩
        · exfalso; omega
-- TensorForgeModel fieldOf (JI)I
abbrev zr_fieldOf_14_12x_4 : Room := { frames := 1, cells := 0, slots := 0, locals := 16 }
def zp_fieldOf_14_12x_4 (p0 : Int) (S0 : zz_S) : Int → zz_S → Prop := fun r S => S0 = S ∧ (0 ≤ r ∧ r ≤ 1) ∧ (r = zz_fx p0 7 1)
theorem zc_fieldOf_14_12x_4 {g : mm_G} {l : Launch} (p0 : Int) (S0 : zz_S) (n : Nat) (hn : zz_end ≤ n) (G_S0 : zz_G S0) (hp0 : (-9223372036854775808) ≤ p0 ∧ p0 ≤ 9223372036854775807) : mm_Met g l zy_fieldOf_14_12 zr_fieldOf_14_12x_4 [zl p0, zi 4] (zz_M S0 n) n (zz_QI n (zp_fieldOf_14_12x_4 p0 S0)) := by
  refine zz_enter (by decide) (Nat.le_of_ble_eq_true rfl) (zz_less (ls1 := [some (zl p0), none, some (zi 4)]) ⟨rfl, ⟨rfl, trivial⟩⟩ ?_)
  refine zz_iconst zd_14_12_0 ?_
  refine zz_istore_n [some (zl p0), none, some (zi 4), some (zi 0)] zd_14_12_1 (by decide) rfl ?_
  refine zz_iconst zd_14_12_2 ?_
  refine zz_istore [some (zl p0), none, some (zi 4), some (zi 0), some (zi 0)] zd_14_12_3 (by decide) rfl ?_
  refine zz_iload (x := 0) rfl zd_14_12_5 ?_
  refine zz_iload_n (x := 4) rfl zd_14_12_7 ?_
  refine zz_icmp_ge (by omega) (by omega) zd_14_12_8 (fun c1 => ?_) (fun c1 => ?_)
  · exfalso; omega
  · refine zz_iload_n (x := 0) rfl zd_14_12_11 ?_
    refine zz_iload (x := 0) rfl zd_14_12_12 ?_
    refine zz_callSI [zi 0] zd_14_12_14 zk_Md_215 rfl rfl ⟨Nat.le_of_ble_eq_true rfl, Nat.le_of_ble_eq_true rfl⟩ ⟨rfl, rfl⟩ (Nat.zero_le _) (Nat.zero_le _) (zc_bitsOf_14_11 0 S0 n hn G_S0 (by omega)) (fun v3 S2 hP => ?_)
    obtain ⟨rfl, o4, o5⟩ := hP
    obtain rfl : v3 = 4 := by omega
    refine zz_iadd zd_14_12_17 ?_
    refine zz_eqv (v := 4) (by decide) ?_
    refine zz_istore_n [some (zl p0), none, some (zi 4), some (zi 4), some (zi 0)] zd_14_12_18 (by decide) rfl ?_
    refine zz_iinc [some (zl p0), none, some (zi 4), some (zi 4), some (zi 1)] zd_14_12_19 rfl rfl ?_
    refine zz_goto zd_14_12_22 ?_
    refine zz_iload (x := 1) rfl zd_14_12_5 ?_
    refine zz_iload_n (x := 4) rfl zd_14_12_7 ?_
    refine zz_icmp_ge (by omega) (by omega) zd_14_12_8 (fun c6 => ?_) (fun c6 => ?_)
    · exfalso; omega
    · refine zz_iload_n (x := 4) rfl zd_14_12_11 ?_
      refine zz_iload (x := 1) rfl zd_14_12_12 ?_
      refine zz_callSI [zi 1] zd_14_12_14 zk_Md_215 rfl rfl ⟨Nat.le_of_ble_eq_true rfl, Nat.le_of_ble_eq_true rfl⟩ ⟨rfl, rfl⟩ (Nat.zero_le _) (Nat.zero_le _) (zc_bitsOf_14_11 1 S0 n hn G_S0 (by omega)) (fun v8 S7 hP => ?_)
      obtain ⟨rfl, o9, o10⟩ := hP
      obtain rfl : v8 = 1 := by omega
      refine zz_iadd zd_14_12_17 ?_
      refine zz_eqv (v := 5) (by decide) ?_
      refine zz_istore_n [some (zl p0), none, some (zi 4), some (zi 5), some (zi 1)] zd_14_12_18 (by decide) rfl ?_
      refine zz_iinc [some (zl p0), none, some (zi 4), some (zi 5), some (zi 2)] zd_14_12_19 rfl rfl ?_
      refine zz_goto zd_14_12_22 ?_
      refine zz_iload (x := 2) rfl zd_14_12_5 ?_
      refine zz_iload_n (x := 4) rfl zd_14_12_7 ?_
      refine zz_icmp_ge (by omega) (by omega) zd_14_12_8 (fun c11 => ?_) (fun c11 => ?_)
      · exfalso; omega
      · refine zz_iload_n (x := 5) rfl zd_14_12_11 ?_
        refine zz_iload (x := 2) rfl zd_14_12_12 ?_
        refine zz_callSI [zi 2] zd_14_12_14 zk_Md_215 rfl rfl ⟨Nat.le_of_ble_eq_true rfl, Nat.le_of_ble_eq_true rfl⟩ ⟨rfl, rfl⟩ (Nat.zero_le _) (Nat.zero_le _) (zc_bitsOf_14_11 2 S0 n hn G_S0 (by omega)) (fun v13 S12 hP => ?_)
        obtain ⟨rfl, o14, o15⟩ := hP
        obtain rfl : v13 = 1 := by omega
        refine zz_iadd zd_14_12_17 ?_
        refine zz_eqv (v := 6) (by decide) ?_
        refine zz_istore_n [some (zl p0), none, some (zi 4), some (zi 6), some (zi 2)] zd_14_12_18 (by decide) rfl ?_
        refine zz_iinc [some (zl p0), none, some (zi 4), some (zi 6), some (zi 3)] zd_14_12_19 rfl rfl ?_
        refine zz_goto zd_14_12_22 ?_
        refine zz_iload (x := 3) rfl zd_14_12_5 ?_
        refine zz_iload_n (x := 4) rfl zd_14_12_7 ?_
        refine zz_icmp_ge (by omega) (by omega) zd_14_12_8 (fun c16 => ?_) (fun c16 => ?_)
        · exfalso; omega
        · refine zz_iload_n (x := 6) rfl zd_14_12_11 ?_
          refine zz_iload (x := 3) rfl zd_14_12_12 ?_
          refine zz_callSI [zi 3] zd_14_12_14 zk_Md_215 rfl rfl ⟨Nat.le_of_ble_eq_true rfl, Nat.le_of_ble_eq_true rfl⟩ ⟨rfl, rfl⟩ (Nat.zero_le _) (Nat.zero_le _) (zc_bitsOf_14_11 3 S0 n hn G_S0 (by omega)) (fun v18 S17 hP => ?_)
          obtain ⟨rfl, o19, o20⟩ := hP
          obtain rfl : v18 = 1 := by omega
          refine zz_iadd zd_14_12_17 ?_
          refine zz_eqv (v := 7) (by decide) ?_
          refine zz_istore_n [some (zl p0), none, some (zi 4), some (zi 7), some (zi 3)] zd_14_12_18 (by decide) rfl ?_
          refine zz_iinc [some (zl p0), none, some (zi 4), some (zi 7), some (zi 4)] zd_14_12_19 rfl rfl ?_
          refine zz_goto zd_14_12_22 ?_
          refine zz_iload (x := 4) rfl zd_14_12_5 ?_
          refine zz_iload_n (x := 4) rfl zd_14_12_7 ?_
          refine zz_icmp_ge (by omega) (by omega) zd_14_12_8 (fun c21 => ?_) (fun c21 => ?_)
          · refine zz_lload_n (x := p0) rfl zd_14_12_25 ?_
            refine zz_iload_n (x := 7) rfl zd_14_12_26 ?_
            refine zz_lushr zd_14_12_27 (fun v22 hv22 ev22 => ?_)
            refine zz_lconst (z := 1) (by decide) zd_14_12_28 ?_
            refine zz_iload_n (x := 4) rfl zd_14_12_29 ?_
            refine zz_callSI [zi 4] zd_14_12_30 zk_Md_215 rfl rfl ⟨Nat.le_of_ble_eq_true rfl, Nat.le_of_ble_eq_true rfl⟩ ⟨rfl, rfl⟩ (Nat.zero_le _) (Nat.zero_le _) (zc_bitsOf_14_11 4 S0 n hn G_S0 (by omega)) (fun v24 S23 hP => ?_)
            obtain ⟨rfl, o25, o26⟩ := hP
            obtain rfl : v24 = 1 := by omega
            refine zz_lshl zd_14_12_33 (fun v27 hv27 ev27 => ?_)
            have av27 := zz_sl1 (by omega) ev27
            refine zz_eqvl (v := 2) (by omega) ?_
            refine zz_lconst (z := 1) (by decide) zd_14_12_34 ?_
            refine zz_lsub zd_14_12_35 ?_
            refine zz_eqvl (v := 1) (by decide) ?_
            refine zz_land zd_14_12_36 (fun v28 hv28 ev28 => ?_)
            have av28 := zz_band64 (by omega) (by omega) ev28
            refine zz_l2i (by omega) zd_14_12_37 (fun v29 hv29 av29 ev29 => ?_)
            exact zz_iret zd_14_12_38 rfl (Nat.zero_le _) (Nat.zero_le _) ⟨_, _, rfl, rfl, by omega, by subst_vars; rfl⟩
          · exfalso; omega
-- TensorForgeModel fieldOf (JI)I
abbrev zr_fieldOf_14_12x_5 : Room := { frames := 1, cells := 0, slots := 0, locals := 16 }
def zp_fieldOf_14_12x_5 (p0 : Int) (S0 : zz_S) : Int → zz_S → Prop := fun r S => S0 = S ∧ (0 ≤ r ∧ r ≤ 4095) ∧ (r = zz_fx p0 8 4095)
theorem zc_fieldOf_14_12x_5 {g : mm_G} {l : Launch} (p0 : Int) (S0 : zz_S) (n : Nat) (hn : zz_end ≤ n) (G_S0 : zz_G S0) (hp0 : (-9223372036854775808) ≤ p0 ∧ p0 ≤ 9223372036854775807) : mm_Met g l zy_fieldOf_14_12 zr_fieldOf_14_12x_5 [zl p0, zi 5] (zz_M S0 n) n (zz_QI n (zp_fieldOf_14_12x_5 p0 S0)) := by
  refine zz_enter (by decide) (Nat.le_of_ble_eq_true rfl) (zz_less (ls1 := [some (zl p0), none, some (zi 5)]) ⟨rfl, ⟨rfl, trivial⟩⟩ ?_)
  refine zz_iconst zd_14_12_0 ?_
  refine zz_istore_n [some (zl p0), none, some (zi 5), some (zi 0)] zd_14_12_1 (by decide) rfl ?_
  refine zz_iconst zd_14_12_2 ?_
  refine zz_istore [some (zl p0), none, some (zi 5), some (zi 0), some (zi 0)] zd_14_12_3 (by decide) rfl ?_
  refine zz_iload (x := 0) rfl zd_14_12_5 ?_
  refine zz_iload_n (x := 5) rfl zd_14_12_7 ?_
  refine zz_icmp_ge (by omega) (by omega) zd_14_12_8 (fun c1 => ?_) (fun c1 => ?_)
  · exfalso; omega
  · refine zz_iload_n (x := 0) rfl zd_14_12_11 ?_
    refine zz_iload (x := 0) rfl zd_14_12_12 ?_
    refine zz_callSI [zi 0] zd_14_12_14 zk_Md_215 rfl rfl ⟨Nat.le_of_ble_eq_true rfl, Nat.le_of_ble_eq_true rfl⟩ ⟨rfl, rfl⟩ (Nat.zero_le _) (Nat.zero_le _) (zc_bitsOf_14_11 0 S0 n hn G_S0 (by omega)) (fun v3 S2 hP => ?_)
    obtain ⟨rfl, o4, o5⟩ := hP
    obtain rfl : v3 = 4 := by omega
    refine zz_iadd zd_14_12_17 ?_
    refine zz_eqv (v := 4) (by decide) ?_
    refine zz_istore_n [some (zl p0), none, some (zi 5), some (zi 4), some (zi 0)] zd_14_12_18 (by decide) rfl ?_
    refine zz_iinc [some (zl p0), none, some (zi 5), some (zi 4), some (zi 1)] zd_14_12_19 rfl rfl ?_
    refine zz_goto zd_14_12_22 ?_
    refine zz_iload (x := 1) rfl zd_14_12_5 ?_
    refine zz_iload_n (x := 5) rfl zd_14_12_7 ?_
    refine zz_icmp_ge (by omega) (by omega) zd_14_12_8 (fun c6 => ?_) (fun c6 => ?_)
    · exfalso; omega
    · refine zz_iload_n (x := 4) rfl zd_14_12_11 ?_
      refine zz_iload (x := 1) rfl zd_14_12_12 ?_
      refine zz_callSI [zi 1] zd_14_12_14 zk_Md_215 rfl rfl ⟨Nat.le_of_ble_eq_true rfl, Nat.le_of_ble_eq_true rfl⟩ ⟨rfl, rfl⟩ (Nat.zero_le _) (Nat.zero_le _) (zc_bitsOf_14_11 1 S0 n hn G_S0 (by omega)) (fun v8 S7 hP => ?_)
      obtain ⟨rfl, o9, o10⟩ := hP
      obtain rfl : v8 = 1 := by omega
      refine zz_iadd zd_14_12_17 ?_
      refine zz_eqv (v := 5) (by decide) ?_
      refine zz_istore_n [some (zl p0), none, some (zi 5), some (zi 5), some (zi 1)] zd_14_12_18 (by decide) rfl ?_
      refine zz_iinc [some (zl p0), none, some (zi 5), some (zi 5), some (zi 2)] zd_14_12_19 rfl rfl ?_
      refine zz_goto zd_14_12_22 ?_
      refine zz_iload (x := 2) rfl zd_14_12_5 ?_
      refine zz_iload_n (x := 5) rfl zd_14_12_7 ?_
      refine zz_icmp_ge (by omega) (by omega) zd_14_12_8 (fun c11 => ?_) (fun c11 => ?_)
      · exfalso; omega
      · refine zz_iload_n (x := 5) rfl zd_14_12_11 ?_
        refine zz_iload (x := 2) rfl zd_14_12_12 ?_
        refine zz_callSI [zi 2] zd_14_12_14 zk_Md_215 rfl rfl ⟨Nat.le_of_ble_eq_true rfl, Nat.le_of_ble_eq_true rfl⟩ ⟨rfl, rfl⟩ (Nat.zero_le _) (Nat.zero_le _) (zc_bitsOf_14_11 2 S0 n hn G_S0 (by omega)) (fun v13 S12 hP => ?_)
        obtain ⟨rfl, o14, o15⟩ := hP
        obtain rfl : v13 = 1 := by omega
        refine zz_iadd zd_14_12_17 ?_
        refine zz_eqv (v := 6) (by decide) ?_
        refine zz_istore_n [some (zl p0), none, some (zi 5), some (zi 6), some (zi 2)] zd_14_12_18 (by decide) rfl ?_
        refine zz_iinc [some (zl p0), none, some (zi 5), some (zi 6), some (zi 3)] zd_14_12_19 rfl rfl ?_
        refine zz_goto zd_14_12_22 ?_
        refine zz_iload (x := 3) rfl zd_14_12_5 ?_
        refine zz_iload_n (x := 5) rfl zd_14_12_7 ?_
        refine zz_icmp_ge (by omega) (by omega) zd_14_12_8 (fun c16 => ?_) (fun c16 => ?_)
        · exfalso; omega
        · refine zz_iload_n (x := 6) rfl zd_14_12_11 ?_
          refine zz_iload (x := 3) rfl zd_14_12_12 ?_
          refine zz_callSI [zi 3] zd_14_12_14 zk_Md_215 rfl rfl ⟨Nat.le_of_ble_eq_true rfl, Nat.le_of_ble_eq_true rfl⟩ ⟨rfl, rfl⟩ (Nat.zero_le _) (Nat.zero_le _) (zc_bitsOf_14_11 3 S0 n hn G_S0 (by omega)) (fun v18 S17 hP => ?_)
          obtain ⟨rfl, o19, o20⟩ := hP
          obtain rfl : v18 = 1 := by omega
          refine zz_iadd zd_14_12_17 ?_
          refine zz_eqv (v := 7) (by decide) ?_
          refine zz_istore_n [some (zl p0), none, some (zi 5), some (zi 7), some (zi 3)] zd_14_12_18 (by decide) rfl ?_
          refine zz_iinc [some (zl p0), none, some (zi 5), some (zi 7), some (zi 4)] zd_14_12_19 rfl rfl ?_
          refine zz_goto zd_14_12_22 ?_
          refine zz_iload (x := 4) rfl zd_14_12_5 ?_
          refine zz_iload_n (x := 5) rfl zd_14_12_7 ?_
          refine zz_icmp_ge (by omega) (by omega) zd_14_12_8 (fun c21 => ?_) (fun c21 => ?_)
          · exfalso; omega
          · refine zz_iload_n (x := 7) rfl zd_14_12_11 ?_
            refine zz_iload (x := 4) rfl zd_14_12_12 ?_
            refine zz_callSI [zi 4] zd_14_12_14 zk_Md_215 rfl rfl ⟨Nat.le_of_ble_eq_true rfl, Nat.le_of_ble_eq_true rfl⟩ ⟨rfl, rfl⟩ (Nat.zero_le _) (Nat.zero_le _) (zc_bitsOf_14_11 4 S0 n hn G_S0 (by omega)) (fun v23 S22 hP => ?_)
            obtain ⟨rfl, o24, o25⟩ := hP
            obtain rfl : v23 = 1 := by omega
            refine zz_iadd zd_14_12_17 ?_
            refine zz_eqv (v := 8) (by decide) ?_
            refine zz_istore_n [some (zl p0), none, some (zi 5), some (zi 8), some (zi 4)] zd_14_12_18 (by decide) rfl ?_
            refine zz_iinc [some (zl p0), none, some (zi 5), some (zi 8), some (zi 5)] zd_14_12_19 rfl rfl ?_
            refine zz_goto zd_14_12_22 ?_
            refine zz_iload (x := 5) rfl zd_14_12_5 ?_
            refine zz_iload_n (x := 5) rfl zd_14_12_7 ?_
            refine zz_icmp_ge (by omega) (by omega) zd_14_12_8 (fun c26 => ?_) (fun c26 => ?_)
            · refine zz_lload_n (x := p0) rfl zd_14_12_25 ?_
              refine zz_iload_n (x := 8) rfl zd_14_12_26 ?_
              refine zz_lushr zd_14_12_27 (fun v27 hv27 ev27 => ?_)
              refine zz_lconst (z := 1) (by decide) zd_14_12_28 ?_
              refine zz_iload_n (x := 5) rfl zd_14_12_29 ?_
              refine zz_callSI [zi 5] zd_14_12_30 zk_Md_215 rfl rfl ⟨Nat.le_of_ble_eq_true rfl, Nat.le_of_ble_eq_true rfl⟩ ⟨rfl, rfl⟩ (Nat.zero_le _) (Nat.zero_le _) (zc_bitsOf_14_11 5 S0 n hn G_S0 (by omega)) (fun v29 S28 hP => ?_)
              obtain ⟨rfl, o30, o31⟩ := hP
              obtain rfl : v29 = 12 := by omega
              refine zz_lshl zd_14_12_33 (fun v32 hv32 ev32 => ?_)
              have av32 := zz_sl1 (by omega) ev32
              refine zz_eqvl (v := 4096) (by omega) ?_
              refine zz_lconst (z := 1) (by decide) zd_14_12_34 ?_
              refine zz_lsub zd_14_12_35 ?_
              refine zz_eqvl (v := 4095) (by decide) ?_
              refine zz_land zd_14_12_36 (fun v33 hv33 ev33 => ?_)
              have av33 := zz_band64 (by omega) (by omega) ev33
              refine zz_l2i (by omega) zd_14_12_37 (fun v34 hv34 av34 ev34 => ?_)
              exact zz_iret zd_14_12_38 rfl (Nat.zero_le _) (Nat.zero_le _) ⟨_, _, rfl, rfl, by omega, by subst_vars; rfl⟩
            · exfalso; omega

-- TensorForge$Words nameOf (I)Ljava/lang/String;
abbrev zr_nameOf_12_12 : Room := { frames := 0, cells := 0, slots := 0, locals := 0 }
def zp_nameOf_12_12 (p0 : Int) (S0 : zz_S) : Nat → zz_S → Prop := fun r S => S0 = S ∧ (∃ u : Nat, r = 100 + u ∧ u < 59 ∧ (1 ≤ p0 → p0 ≤ 9 → (u : Int) = p0 - 1))
theorem zc_nameOf_12_12 {g : mm_G} {l : Launch} (p0 : Int) (S0 : zz_S) (n : Nat) (hn : zz_end ≤ n) (G_S0 : zz_G S0) (hp0 : (-2147483648) ≤ p0 ∧ p0 ≤ 2147483647) : mm_Met g l zy_nameOf_12_12 zr_nameOf_12_12 [zi p0] (zz_M S0 n) n (zz_QA n (zp_nameOf_12_12 p0 S0)) := by
  refine zz_enter (by decide) (Nat.le_of_ble_eq_true rfl) (zz_less (ls1 := [some (zi p0)]) ⟨rfl, trivial⟩ ?_)
  refine zz_iload_n (x := p0) rfl zd_12_12_0 ?_
  by_cases c1 : p0 = 1
  · refine zz_swIn 1 51 c1 (by decide) zd_12_12_1 rfl rfl ?_
    refine zz_ldcs (t := 0) (by decide +kernel) (by decide) zd_12_12_52 ?_
    exact zz_aret zd_12_12_54 rfl (Nat.zero_le _) (Nat.zero_le _) ⟨_, _, rfl, rfl, ⟨_, rfl, by decide, fun h1 h2 => by omega⟩⟩
  by_cases c2 : p0 = 2
  · refine zz_swIn 2 54 c2 (by decide) zd_12_12_1 rfl rfl ?_
    refine zz_ldcs (t := 1) (by decide +kernel) (by decide) zd_12_12_55 ?_
    exact zz_aret zd_12_12_57 rfl (Nat.zero_le _) (Nat.zero_le _) ⟨_, _, rfl, rfl, ⟨_, rfl, by decide, fun h1 h2 => by omega⟩⟩
  by_cases c3 : p0 = 3
  · refine zz_swIn 3 57 c3 (by decide) zd_12_12_1 rfl rfl ?_
    refine zz_ldcs (t := 2) (by decide +kernel) (by decide) zd_12_12_58 ?_
    exact zz_aret zd_12_12_60 rfl (Nat.zero_le _) (Nat.zero_le _) ⟨_, _, rfl, rfl, ⟨_, rfl, by decide, fun h1 h2 => by omega⟩⟩
  by_cases c4 : p0 = 4
  · refine zz_swIn 4 60 c4 (by decide) zd_12_12_1 rfl rfl ?_
    refine zz_ldcs (t := 3) (by decide +kernel) (by decide) zd_12_12_61 ?_
    exact zz_aret zd_12_12_63 rfl (Nat.zero_le _) (Nat.zero_le _) ⟨_, _, rfl, rfl, ⟨_, rfl, by decide, fun h1 h2 => by omega⟩⟩
  by_cases c5 : p0 = 5
  · refine zz_swIn 5 63 c5 (by decide) zd_12_12_1 rfl rfl ?_
    refine zz_ldcs (t := 4) (by decide +kernel) (by decide) zd_12_12_64 ?_
    exact zz_aret zd_12_12_66 rfl (Nat.zero_le _) (Nat.zero_le _) ⟨_, _, rfl, rfl, ⟨_, rfl, by decide, fun h1 h2 => by omega⟩⟩
  by_cases c6 : p0 = 6
  · refine zz_swIn 6 66 c6 (by decide) zd_12_12_1 rfl rfl ?_
    refine zz_ldcs (t := 5) (by decide +kernel) (by decide) zd_12_12_67 ?_
    exact zz_aret zd_12_12_69 rfl (Nat.zero_le _) (Nat.zero_le _) ⟨_, _, rfl, rfl, ⟨_, rfl, by decide, fun h1 h2 => by omega⟩⟩
  by_cases c7 : p0 = 7
  · refine zz_swIn 7 69 c7 (by decide) zd_12_12_1 rfl rfl ?_
    refine zz_ldcs (t := 6) (by decide +kernel) (by decide) zd_12_12_70 ?_
    exact zz_aret zd_12_12_72 rfl (Nat.zero_le _) (Nat.zero_le _) ⟨_, _, rfl, rfl, ⟨_, rfl, by decide, fun h1 h2 => by omega⟩⟩
  by_cases c8 : p0 = 8
  · refine zz_swIn 8 72 c8 (by decide) zd_12_12_1 rfl rfl ?_
    refine zz_ldcs (t := 7) (by decide +kernel) (by decide) zd_12_12_73 ?_
    exact zz_aret zd_12_12_75 rfl (Nat.zero_le _) (Nat.zero_le _) ⟨_, _, rfl, rfl, ⟨_, rfl, by decide, fun h1 h2 => by omega⟩⟩
  by_cases c9 : p0 = 9
  · refine zz_swIn 9 75 c9 (by decide) zd_12_12_1 rfl rfl ?_
    refine zz_ldcs (t := 8) (by decide +kernel) (by decide) zd_12_12_76 ?_
    exact zz_aret zd_12_12_78 rfl (Nat.zero_le _) (Nat.zero_le _) ⟨_, _, rfl, rfl, ⟨_, rfl, by decide, fun h1 h2 => by omega⟩⟩
  refine zz_swOut (by omega) (by omega) zd_12_12_1 rfl ?_
  refine zz_ldcs (t := 9) (by decide +kernel) (by decide) zd_12_12_79 ?_
  exact zz_aret zd_12_12_81 rfl (Nat.zero_le _) (Nat.zero_le _) ⟨_, _, rfl, rfl, ⟨_, rfl, by decide, fun h1 h2 => by omega⟩⟩
theorem zk_Assembler_57 : mm_Sl "TensorForge$Assembler" 57 1 zy_nameOf_12_12 := ⟨zyw_nameOf_12_12, mm_tb_1 581 (by decide +kernel) rfl, mm_tb_1 582 (by decide +kernel) rfl⟩
abbrev zy_isWord_11_9 : mm_Y := (⟨"TensorForge$Text", "isWord", "(Ljava/lang/String;)Z"⟩, prog_11_method_9_code, 3, (some .boolean))
theorem zyw_isWord_11_9 : mm_Yw zy_isWord_11_9 1 := ⟨mm_tb_1 597 (by decide +kernel) rfl, mm_tb_1 7 (by decide +kernel) rfl, ⟨by decide, by decide⟩, by decide +kernel⟩
abbrev zy_length_21_54 : mm_Y := (⟨"java/lang/String", "length", "()I"⟩, prog_21_method_54_code, 1, (some .int))
theorem zyw_length_21_54 : mm_Yw zy_length_21_54 0 := ⟨mm_tb_1 601 (by decide +kernel) rfl, mm_tb_1 21 (by decide +kernel) rfl, ⟨by decide, by decide⟩, by decide +kernel⟩
theorem zz_stl {t : Nat} (h : t < 59) : t < mm_txt.length := h
theorem zsf_java_lang_String_9 : Cond.fieldLink "java/lang/String" 9 "java/lang/String" "value" "[B" ∈ mm_tb := mm_tb_1 2315 (by decide +kernel) rfl
theorem zz_slen {t : Nat} (h : t < 59) : 0 ≤ ((mm_len.getD t 0 : Nat) : Int) ∧ ((mm_len.getD t 0 : Nat) : Int) ≤ 38 := by
  have h1 : ∀ t, t < 59 → mm_len.getD t 0 ≤ 38 := by decide +kernel
  have := h1 t h
  omega
abbrev zy_coder_21_152 : mm_Y := (⟨"java/lang/String", "coder", "()B"⟩, prog_21_method_152_code, 1, (some .byte))
theorem zyw_coder_21_152 : mm_Yw zy_coder_21_152 0 := ⟨mm_tb_1 605 (by decide +kernel) rfl, mm_tb_1 21 (by decide +kernel) rfl, ⟨by decide, by decide⟩, by decide +kernel⟩
theorem zsf_java_lang_String_38 : Cond.fieldLink "java/lang/String" 38 "java/lang/String" "COMPACT_STRINGS" "Z" ∈ mm_tb := mm_tb_1 606 (by decide +kernel) rfl
theorem zsf_java_lang_String_15 : Cond.fieldLink "java/lang/String" 15 "java/lang/String" "coder" "B" ∈ mm_tb := mm_tb_1 2316 (by decide +kernel) rfl
theorem zg_2_4_16 : zq_at zy_kindTold_2_4.2.1 16 182 ∧ zq_at zy_kindTold_2_4.2.1 17 0 ∧ zq_at zy_kindTold_2_4.2.1 18 61 := by decide +kernel
theorem zd_2_4_16 : zz_D zy_kindTold_2_4 16 (.invokevirtual 61) 3 19 := ⟨zq_182 zg_2_4_16.1 zg_2_4_16.2.1 zg_2_4_16.2.2 rfl, rfl⟩
theorem zg_11_9_0 : zq_at zy_isWord_11_9.2.1 0 42 ∧ zq_at zy_isWord_11_9.2.1 1 180 ∧ zq_at zy_isWord_11_9.2.1 2 0 ∧ zq_at zy_isWord_11_9.2.1 3 28 ∧ zq_at zy_isWord_11_9.2.1 4 4 ∧ zq_at zy_isWord_11_9.2.1 5 160 ∧ zq_at zy_isWord_11_9.2.1 6 0 ∧ zq_at zy_isWord_11_9.2.1 7 19 ∧ zq_at zy_isWord_11_9.2.1 24 3 ∧ zq_at zy_isWord_11_9.2.1 25 172 ∧ zq_at zy_isWord_11_9.2.1 8 42 ∧ zq_at zy_isWord_11_9.2.1 9 180 ∧ zq_at zy_isWord_11_9.2.1 10 0 ∧ zq_at zy_isWord_11_9.2.1 11 25 ∧ zq_at zy_isWord_11_9.2.1 12 42 ∧ zq_at zy_isWord_11_9.2.1 13 180 ∧ zq_at zy_isWord_11_9.2.1 14 0 ∧ zq_at zy_isWord_11_9.2.1 15 31 ∧ zq_at zy_isWord_11_9.2.1 16 100 ∧ zq_at zy_isWord_11_9.2.1 17 43 ∧ zq_at zy_isWord_11_9.2.1 18 182 ∧ zq_at zy_isWord_11_9.2.1 19 0 ∧ zq_at zy_isWord_11_9.2.1 20 37 := by decide +kernel
theorem zd_11_9_0 : zz_D zy_isWord_11_9 0 (.aload_n 0) 1 1 := ⟨zq_42 zg_11_9_0.1, rfl⟩
theorem zd_11_9_1 : zz_D zy_isWord_11_9 1 (.getfield 28) 3 4 := ⟨zq_180 zg_11_9_0.2.1 zg_11_9_0.2.2.1 zg_11_9_0.2.2.2.1 rfl, rfl⟩
theorem zd_11_9_4 : zz_D zy_isWord_11_9 4 (.iconst 1) 1 5 := ⟨zq_4 zg_11_9_0.2.2.2.2.1, rfl⟩
theorem zd_11_9_5 : zz_B zy_isWord_11_9 5 (Instr.if_icmp .ne) 24 8 := ⟨19, zq_160 zg_11_9_0.2.2.2.2.2.1 zg_11_9_0.2.2.2.2.2.2.1 zg_11_9_0.2.2.2.2.2.2.2.1 (by decide), rfl, rfl⟩
theorem zd_11_9_24 : zz_D zy_isWord_11_9 24 (.iconst 0) 1 25 := ⟨zq_3 zg_11_9_0.2.2.2.2.2.2.2.2.1, rfl⟩
theorem zd_11_9_25 : zz_D zy_isWord_11_9 25 (.ireturn) 1 26 := ⟨zq_172 zg_11_9_0.2.2.2.2.2.2.2.2.2.1, rfl⟩
theorem zd_11_9_8 : zz_D zy_isWord_11_9 8 (.aload_n 0) 1 9 := ⟨zq_42 zg_11_9_0.2.2.2.2.2.2.2.2.2.2.1, rfl⟩
theorem zd_11_9_9 : zz_D zy_isWord_11_9 9 (.getfield 25) 3 12 := ⟨zq_180 zg_11_9_0.2.2.2.2.2.2.2.2.2.2.2.1 zg_11_9_0.2.2.2.2.2.2.2.2.2.2.2.2.1 zg_11_9_0.2.2.2.2.2.2.2.2.2.2.2.2.2.1 rfl, rfl⟩
theorem zd_11_9_12 : zz_D zy_isWord_11_9 12 (.aload_n 0) 1 13 := ⟨zq_42 zg_11_9_0.2.2.2.2.2.2.2.2.2.2.2.2.2.2.1, rfl⟩
theorem zd_11_9_13 : zz_D zy_isWord_11_9 13 (.getfield 31) 3 16 := ⟨zq_180 zg_11_9_0.2.2.2.2.2.2.2.2.2.2.2.2.2.2.2.1 zg_11_9_0.2.2.2.2.2.2.2.2.2.2.2.2.2.2.2.2.1 zg_11_9_0.2.2.2.2.2.2.2.2.2.2.2.2.2.2.2.2.2.1 rfl, rfl⟩
theorem zd_11_9_16 : zz_D zy_isWord_11_9 16 (.isub) 1 17 := ⟨zq_100 zg_11_9_0.2.2.2.2.2.2.2.2.2.2.2.2.2.2.2.2.2.2.1, rfl⟩
theorem zd_11_9_17 : zz_D zy_isWord_11_9 17 (.aload_n 1) 1 18 := ⟨zq_43 zg_11_9_0.2.2.2.2.2.2.2.2.2.2.2.2.2.2.2.2.2.2.2.1, rfl⟩
theorem zd_11_9_18 : zz_D zy_isWord_11_9 18 (.invokevirtual 37) 3 21 := ⟨zq_182 zg_11_9_0.2.2.2.2.2.2.2.2.2.2.2.2.2.2.2.2.2.2.2.2.1 zg_11_9_0.2.2.2.2.2.2.2.2.2.2.2.2.2.2.2.2.2.2.2.2.2.1 zg_11_9_0.2.2.2.2.2.2.2.2.2.2.2.2.2.2.2.2.2.2.2.2.2.2 rfl, rfl⟩
theorem zg_21_54_0 : zq_at zy_length_21_54.2.1 0 42 ∧ zq_at zy_length_21_54.2.1 1 180 ∧ zq_at zy_length_21_54.2.1 2 0 ∧ zq_at zy_length_21_54.2.1 3 9 ∧ zq_at zy_length_21_54.2.1 4 190 ∧ zq_at zy_length_21_54.2.1 5 42 ∧ zq_at zy_length_21_54.2.1 6 182 ∧ zq_at zy_length_21_54.2.1 7 1 ∧ zq_at zy_length_21_54.2.1 8 79 := by decide +kernel
theorem zd_21_54_0 : zz_D zy_length_21_54 0 (.aload_n 0) 1 1 := ⟨zq_42 zg_21_54_0.1, rfl⟩
theorem zd_21_54_1 : zz_D zy_length_21_54 1 (.getfield 9) 3 4 := ⟨zq_180 zg_21_54_0.2.1 zg_21_54_0.2.2.1 zg_21_54_0.2.2.2.1 rfl, rfl⟩
theorem zd_21_54_4 : zz_D zy_length_21_54 4 (.arraylength) 1 5 := ⟨zq_190 zg_21_54_0.2.2.2.2.1, rfl⟩
theorem zd_21_54_5 : zz_D zy_length_21_54 5 (.aload_n 0) 1 6 := ⟨zq_42 zg_21_54_0.2.2.2.2.2.1, rfl⟩
theorem zd_21_54_6 : zz_D zy_length_21_54 6 (.invokevirtual 335) 3 9 := ⟨zq_182 zg_21_54_0.2.2.2.2.2.2.1 zg_21_54_0.2.2.2.2.2.2.2.1 zg_21_54_0.2.2.2.2.2.2.2.2 rfl, rfl⟩
theorem zg_21_152_0 : zq_at zy_coder_21_152.2.1 0 178 ∧ zq_at zy_coder_21_152.2.1 1 0 ∧ zq_at zy_coder_21_152.2.1 2 38 ∧ zq_at zy_coder_21_152.2.1 3 153 ∧ zq_at zy_coder_21_152.2.1 4 0 ∧ zq_at zy_coder_21_152.2.1 5 10 ∧ zq_at zy_coder_21_152.2.1 6 42 ∧ zq_at zy_coder_21_152.2.1 7 180 ∧ zq_at zy_coder_21_152.2.1 8 0 ∧ zq_at zy_coder_21_152.2.1 9 15 ∧ zq_at zy_coder_21_152.2.1 10 167 ∧ zq_at zy_coder_21_152.2.1 11 0 ∧ zq_at zy_coder_21_152.2.1 12 4 ∧ zq_at zy_coder_21_152.2.1 14 172 := by decide +kernel
theorem zd_21_152_0 : zz_D zy_coder_21_152 0 (.getstatic 38) 3 3 := ⟨zq_178 zg_21_152_0.1 zg_21_152_0.2.1 zg_21_152_0.2.2.1 rfl, rfl⟩
theorem zd_21_152_3 : zz_B zy_coder_21_152 3 (Instr.ifCond .eq) 13 6 := ⟨10, zq_153 zg_21_152_0.2.2.2.1 zg_21_152_0.2.2.2.2.1 zg_21_152_0.2.2.2.2.2.1 (by decide), rfl, rfl⟩
theorem zd_21_152_6 : zz_D zy_coder_21_152 6 (.aload_n 0) 1 7 := ⟨zq_42 zg_21_152_0.2.2.2.2.2.2.1, rfl⟩
theorem zd_21_152_7 : zz_D zy_coder_21_152 7 (.getfield 15) 3 10 := ⟨zq_180 zg_21_152_0.2.2.2.2.2.2.2.1 zg_21_152_0.2.2.2.2.2.2.2.2.1 zg_21_152_0.2.2.2.2.2.2.2.2.2.1 rfl, rfl⟩
theorem zd_21_152_10 : zz_B zy_coder_21_152 10 Instr.goto 14 13 := ⟨4, zq_167 zg_21_152_0.2.2.2.2.2.2.2.2.2.2.1 zg_21_152_0.2.2.2.2.2.2.2.2.2.2.2.1 zg_21_152_0.2.2.2.2.2.2.2.2.2.2.2.2.1 (by decide), rfl, rfl⟩
theorem zd_21_152_14 : zz_D zy_coder_21_152 14 (.ireturn) 1 15 := ⟨zq_172 zg_21_152_0.2.2.2.2.2.2.2.2.2.2.2.2.2, rfl⟩
-- java/lang/String coder ()B
abbrev zr_coder_21_152 : Room := { frames := 0, cells := 0, slots := 0, locals := 0 }
def zp_coder_21_152 (t : Nat) (S0 : zz_S) : Int → zz_S → Prop := fun r S => S0 = S ∧ (0 ≤ r ∧ r ≤ 0)
theorem zc_coder_21_152 {g : mm_G} {l : Launch} (t : Nat) (S0 : zz_S) (n : Nat) (hn : zz_end ≤ n) (G_S0 : zz_G S0) (ht : t < 59) : mm_Met g l zy_coder_21_152 zr_coder_21_152 [.ref (100 + t)] (zz_M S0 n) n (zz_QI n (zp_coder_21_152 t S0)) := by
  refine zz_enter (by decide) (Nat.le_of_ble_eq_true rfl) (zz_less (ls1 := [some (.ref (100 + t))]) ⟨rfl, trivial⟩ ?_)
  refine zz_gsZ zd_21_152_0 zsf_java_lang_String_38 ?_
  refine zz_if_eq (by omega) zd_21_152_3 (fun c1 => ?_) (fun c1 => ?_)
  · exfalso; omega
  · refine zz_aload_n (x := 100 + t) rfl zd_21_152_6 ?_
    refine zz_strC (zz_stl (by omega)) (by omega) zd_21_152_7 zsf_java_lang_String_15 ?_
    refine zz_goto zd_21_152_10 ?_
    exact zz_bret zd_21_152_14 rfl (by omega) (Nat.zero_le _) (Nat.zero_le _) ⟨_, _, rfl, rfl, by omega⟩
theorem zkT_java_lang_String_335 : mm_Yw zy_coder_21_152 0 ∧ Cond.methodLink "java/lang/String" 335 zy_coder_21_152.1 ∈ mm_tb ∧ Cond.instanceMethod zy_coder_21_152.1 ∈ mm_tb ∧ Cond.selects "java/lang/String" zy_coder_21_152.1 zy_coder_21_152.1 ∈ mm_tb := ⟨zyw_coder_21_152, mm_tb_1 602 (by decide +kernel) rfl, mm_tb_1 603 (by decide +kernel) rfl, mm_tb_1 604 (by decide +kernel) rfl⟩
theorem zg_21_54_9 : zq_at zy_length_21_54.2.1 9 122 ∧ zq_at zy_length_21_54.2.1 10 172 := by decide +kernel
theorem zd_21_54_9 : zz_D zy_length_21_54 9 (.ishr) 1 10 := ⟨zq_122 zg_21_54_9.1, rfl⟩
theorem zd_21_54_10 : zz_D zy_length_21_54 10 (.ireturn) 1 11 := ⟨zq_172 zg_21_54_9.2, rfl⟩
-- java/lang/String length ()I
abbrev zr_length_21_54 : Room := { frames := 1, cells := 0, slots := 0, locals := 13 }
def zp_length_21_54 (t : Nat) (S0 : zz_S) : Int → zz_S → Prop := fun r S => S0 = S ∧ (0 ≤ r ∧ r ≤ 38) ∧ (r = ((mm_len.getD t 0 : Nat) : Int))
theorem zc_length_21_54 {g : mm_G} {l : Launch} (t : Nat) (S0 : zz_S) (n : Nat) (hn : zz_end ≤ n) (G_S0 : zz_G S0) (ht : t < 59) : mm_Met g l zy_length_21_54 zr_length_21_54 [.ref (100 + t)] (zz_M S0 n) n (zz_QI n (zp_length_21_54 t S0)) := by
  refine zz_enter (by decide) (Nat.le_of_ble_eq_true rfl) (zz_less (ls1 := [some (.ref (100 + t))]) ⟨rfl, trivial⟩ ?_)
  refine zz_aload_n (x := 100 + t) rfl zd_21_54_0 ?_
  refine zz_strV (zz_stl (by omega)) (by omega) zd_21_54_1 zsf_java_lang_String_9 ?_
  have l1 := zz_slen (t := t) (by omega)
  refine zz_strL (zz_stl (by omega)) (by omega) zd_21_54_4 ?_
  refine zz_aload_n (x := 100 + t) rfl zd_21_54_5 ?_
  refine zz_callT (t := t) [] (zz_stl (by omega)) (by omega) zd_21_54_6 zkT_java_lang_String_335 rfl rfl ⟨Nat.le_of_ble_eq_true rfl, Nat.le_of_ble_eq_true rfl⟩ ⟨rfl, rfl⟩ (Nat.zero_le _) (Nat.zero_le _) (zc_coder_21_152 t S0 n hn G_S0 (by omega)) (fun v3 S2 hP => ?_)
  obtain ⟨rfl, o4⟩ := hP
  rcases (by omega : v3 = 0) with rfl
  · refine zz_ishr zd_21_54_9 (fun v5 hv5 ev5 => ?_)
    have av5 := zz_shr0 (by omega) ev5
    exact zz_iret zd_21_54_10 rfl (Nat.zero_le _) (Nat.zero_le _) ⟨_, _, rfl, rfl, by omega, by omega⟩
theorem zkT_Text_37 : mm_Yw zy_length_21_54 0 ∧ Cond.methodLink "TensorForge$Text" 37 zy_length_21_54.1 ∈ mm_tb ∧ Cond.instanceMethod zy_length_21_54.1 ∈ mm_tb ∧ Cond.selects "java/lang/String" zy_length_21_54.1 zy_length_21_54.1 ∈ mm_tb := ⟨zyw_length_21_54, mm_tb_1 598 (by decide +kernel) rfl, mm_tb_1 599 (by decide +kernel) rfl, mm_tb_1 600 (by decide +kernel) rfl⟩
abbrev zy_charAt_21_56 : mm_Y := (⟨"java/lang/String", "charAt", "(I)C"⟩, prog_21_method_56_code, 2, (some .char))
theorem zyw_charAt_21_56 : mm_Yw zy_charAt_21_56 1 := ⟨mm_tb_1 611 (by decide +kernel) rfl, mm_tb_1 21 (by decide +kernel) rfl, ⟨by decide, by decide⟩, by decide +kernel⟩
abbrev zy_isLatin1_21_154 : mm_Y := (⟨"java/lang/String", "isLatin1", "()Z"⟩, prog_21_method_154_code, 1, (some .boolean))
theorem zyw_isLatin1_21_154 : mm_Yw zy_isLatin1_21_154 0 := ⟨mm_tb_1 615 (by decide +kernel) rfl, mm_tb_1 21 (by decide +kernel) rfl, ⟨by decide, by decide⟩, by decide +kernel⟩
theorem zg_11_9_21 : zq_at zy_isWord_11_9.2.1 21 159 ∧ zq_at zy_isWord_11_9.2.1 22 0 ∧ zq_at zy_isWord_11_9.2.1 23 5 ∧ zq_at zy_isWord_11_9.2.1 26 3 ∧ zq_at zy_isWord_11_9.2.1 27 61 ∧ zq_at zy_isWord_11_9.2.1 28 28 ∧ zq_at zy_isWord_11_9.2.1 29 43 ∧ zq_at zy_isWord_11_9.2.1 30 182 ∧ zq_at zy_isWord_11_9.2.1 31 0 ∧ zq_at zy_isWord_11_9.2.1 32 37 ∧ zq_at zy_isWord_11_9.2.1 33 162 ∧ zq_at zy_isWord_11_9.2.1 34 0 ∧ zq_at zy_isWord_11_9.2.1 35 30 ∧ zq_at zy_isWord_11_9.2.1 63 4 ∧ zq_at zy_isWord_11_9.2.1 64 172 ∧ zq_at zy_isWord_11_9.2.1 36 42 ∧ zq_at zy_isWord_11_9.2.1 37 180 ∧ zq_at zy_isWord_11_9.2.1 38 0 ∧ zq_at zy_isWord_11_9.2.1 39 9 ∧ zq_at zy_isWord_11_9.2.1 40 42 ∧ zq_at zy_isWord_11_9.2.1 41 180 ∧ zq_at zy_isWord_11_9.2.1 42 0 ∧ zq_at zy_isWord_11_9.2.1 43 31 ∧ zq_at zy_isWord_11_9.2.1 44 28 := by decide +kernel
theorem zd_11_9_21 : zz_B zy_isWord_11_9 21 (Instr.if_icmp .eq) 26 24 := ⟨5, zq_159 zg_11_9_21.1 zg_11_9_21.2.1 zg_11_9_21.2.2.1 (by decide), rfl, rfl⟩
theorem zd_11_9_26 : zz_D zy_isWord_11_9 26 (.iconst 0) 1 27 := ⟨zq_3 zg_11_9_21.2.2.2.1, rfl⟩
theorem zd_11_9_27 : zz_D zy_isWord_11_9 27 (.istore_n 2) 1 28 := ⟨zq_61 zg_11_9_21.2.2.2.2.1, rfl⟩
theorem zd_11_9_28 : zz_D zy_isWord_11_9 28 (.iload_n 2) 1 29 := ⟨zq_28 zg_11_9_21.2.2.2.2.2.1, rfl⟩
theorem zd_11_9_29 : zz_D zy_isWord_11_9 29 (.aload_n 1) 1 30 := ⟨zq_43 zg_11_9_21.2.2.2.2.2.2.1, rfl⟩
theorem zd_11_9_30 : zz_D zy_isWord_11_9 30 (.invokevirtual 37) 3 33 := ⟨zq_182 zg_11_9_21.2.2.2.2.2.2.2.1 zg_11_9_21.2.2.2.2.2.2.2.2.1 zg_11_9_21.2.2.2.2.2.2.2.2.2.1 rfl, rfl⟩
theorem zd_11_9_33 : zz_B zy_isWord_11_9 33 (Instr.if_icmp .ge) 63 36 := ⟨30, zq_162 zg_11_9_21.2.2.2.2.2.2.2.2.2.2.1 zg_11_9_21.2.2.2.2.2.2.2.2.2.2.2.1 zg_11_9_21.2.2.2.2.2.2.2.2.2.2.2.2.1 (by decide), rfl, rfl⟩
theorem zd_11_9_63 : zz_D zy_isWord_11_9 63 (.iconst 1) 1 64 := ⟨zq_4 zg_11_9_21.2.2.2.2.2.2.2.2.2.2.2.2.2.1, rfl⟩
theorem zd_11_9_64 : zz_D zy_isWord_11_9 64 (.ireturn) 1 65 := ⟨zq_172 zg_11_9_21.2.2.2.2.2.2.2.2.2.2.2.2.2.2.1, rfl⟩
theorem zd_11_9_36 : zz_D zy_isWord_11_9 36 (.aload_n 0) 1 37 := ⟨zq_42 zg_11_9_21.2.2.2.2.2.2.2.2.2.2.2.2.2.2.2.1, rfl⟩
theorem zd_11_9_37 : zz_D zy_isWord_11_9 37 (.getfield 9) 3 40 := ⟨zq_180 zg_11_9_21.2.2.2.2.2.2.2.2.2.2.2.2.2.2.2.2.1 zg_11_9_21.2.2.2.2.2.2.2.2.2.2.2.2.2.2.2.2.2.1 zg_11_9_21.2.2.2.2.2.2.2.2.2.2.2.2.2.2.2.2.2.2.1 rfl, rfl⟩
theorem zd_11_9_40 : zz_D zy_isWord_11_9 40 (.aload_n 0) 1 41 := ⟨zq_42 zg_11_9_21.2.2.2.2.2.2.2.2.2.2.2.2.2.2.2.2.2.2.2.1, rfl⟩
theorem zd_11_9_41 : zz_D zy_isWord_11_9 41 (.getfield 31) 3 44 := ⟨zq_180 zg_11_9_21.2.2.2.2.2.2.2.2.2.2.2.2.2.2.2.2.2.2.2.2.1 zg_11_9_21.2.2.2.2.2.2.2.2.2.2.2.2.2.2.2.2.2.2.2.2.2.1 zg_11_9_21.2.2.2.2.2.2.2.2.2.2.2.2.2.2.2.2.2.2.2.2.2.2.1 rfl, rfl⟩
theorem zd_11_9_44 : zz_D zy_isWord_11_9 44 (.iload_n 2) 1 45 := ⟨zq_28 zg_11_9_21.2.2.2.2.2.2.2.2.2.2.2.2.2.2.2.2.2.2.2.2.2.2.2, rfl⟩
theorem zg_11_9_45 : zq_at zy_isWord_11_9.2.1 45 96 ∧ zq_at zy_isWord_11_9.2.1 46 52 ∧ zq_at zy_isWord_11_9.2.1 47 43 ∧ zq_at zy_isWord_11_9.2.1 48 28 ∧ zq_at zy_isWord_11_9.2.1 49 182 ∧ zq_at zy_isWord_11_9.2.1 50 0 ∧ zq_at zy_isWord_11_9.2.1 51 43 := by decide +kernel
theorem zd_11_9_45 : zz_D zy_isWord_11_9 45 (.iadd) 1 46 := ⟨zq_96 zg_11_9_45.1, rfl⟩
theorem zd_11_9_46 : zz_D zy_isWord_11_9 46 (.caload) 1 47 := ⟨zq_52 zg_11_9_45.2.1, rfl⟩
theorem zd_11_9_47 : zz_D zy_isWord_11_9 47 (.aload_n 1) 1 48 := ⟨zq_43 zg_11_9_45.2.2.1, rfl⟩
theorem zd_11_9_48 : zz_D zy_isWord_11_9 48 (.iload_n 2) 1 49 := ⟨zq_28 zg_11_9_45.2.2.2.1, rfl⟩
theorem zd_11_9_49 : zz_D zy_isWord_11_9 49 (.invokevirtual 43) 3 52 := ⟨zq_182 zg_11_9_45.2.2.2.2.1 zg_11_9_45.2.2.2.2.2.1 zg_11_9_45.2.2.2.2.2.2 rfl, rfl⟩
theorem zg_21_56_0 : zq_at zy_charAt_21_56.2.1 0 42 ∧ zq_at zy_charAt_21_56.2.1 1 182 ∧ zq_at zy_charAt_21_56.2.1 2 1 ∧ zq_at zy_charAt_21_56.2.1 3 236 := by decide +kernel
theorem zd_21_56_0 : zz_D zy_charAt_21_56 0 (.aload_n 0) 1 1 := ⟨zq_42 zg_21_56_0.1, rfl⟩
theorem zd_21_56_1 : zz_D zy_charAt_21_56 1 (.invokevirtual 492) 3 4 := ⟨zq_182 zg_21_56_0.2.1 zg_21_56_0.2.2.1 zg_21_56_0.2.2.2 rfl, rfl⟩
theorem zg_21_154_0 : zq_at zy_isLatin1_21_154.2.1 0 178 ∧ zq_at zy_isLatin1_21_154.2.1 1 0 ∧ zq_at zy_isLatin1_21_154.2.1 2 38 ∧ zq_at zy_isLatin1_21_154.2.1 3 153 ∧ zq_at zy_isLatin1_21_154.2.1 4 0 ∧ zq_at zy_isLatin1_21_154.2.1 5 14 ∧ zq_at zy_isLatin1_21_154.2.1 6 42 ∧ zq_at zy_isLatin1_21_154.2.1 7 180 ∧ zq_at zy_isLatin1_21_154.2.1 8 0 ∧ zq_at zy_isLatin1_21_154.2.1 9 15 ∧ zq_at zy_isLatin1_21_154.2.1 10 154 ∧ zq_at zy_isLatin1_21_154.2.1 11 0 ∧ zq_at zy_isLatin1_21_154.2.1 12 7 ∧ zq_at zy_isLatin1_21_154.2.1 13 4 ∧ zq_at zy_isLatin1_21_154.2.1 14 167 ∧ zq_at zy_isLatin1_21_154.2.1 15 0 ∧ zq_at zy_isLatin1_21_154.2.1 16 4 ∧ zq_at zy_isLatin1_21_154.2.1 18 172 := by decide +kernel
theorem zd_21_154_0 : zz_D zy_isLatin1_21_154 0 (.getstatic 38) 3 3 := ⟨zq_178 zg_21_154_0.1 zg_21_154_0.2.1 zg_21_154_0.2.2.1 rfl, rfl⟩
theorem zd_21_154_3 : zz_B zy_isLatin1_21_154 3 (Instr.ifCond .eq) 17 6 := ⟨14, zq_153 zg_21_154_0.2.2.2.1 zg_21_154_0.2.2.2.2.1 zg_21_154_0.2.2.2.2.2.1 (by decide), rfl, rfl⟩
theorem zd_21_154_6 : zz_D zy_isLatin1_21_154 6 (.aload_n 0) 1 7 := ⟨zq_42 zg_21_154_0.2.2.2.2.2.2.1, rfl⟩
theorem zd_21_154_7 : zz_D zy_isLatin1_21_154 7 (.getfield 15) 3 10 := ⟨zq_180 zg_21_154_0.2.2.2.2.2.2.2.1 zg_21_154_0.2.2.2.2.2.2.2.2.1 zg_21_154_0.2.2.2.2.2.2.2.2.2.1 rfl, rfl⟩
theorem zd_21_154_10 : zz_B zy_isLatin1_21_154 10 (Instr.ifCond .ne) 17 13 := ⟨7, zq_154 zg_21_154_0.2.2.2.2.2.2.2.2.2.2.1 zg_21_154_0.2.2.2.2.2.2.2.2.2.2.2.1 zg_21_154_0.2.2.2.2.2.2.2.2.2.2.2.2.1 (by decide), rfl, rfl⟩
theorem zd_21_154_13 : zz_D zy_isLatin1_21_154 13 (.iconst 1) 1 14 := ⟨zq_4 zg_21_154_0.2.2.2.2.2.2.2.2.2.2.2.2.2.1, rfl⟩
theorem zd_21_154_14 : zz_B zy_isLatin1_21_154 14 Instr.goto 18 17 := ⟨4, zq_167 zg_21_154_0.2.2.2.2.2.2.2.2.2.2.2.2.2.2.1 zg_21_154_0.2.2.2.2.2.2.2.2.2.2.2.2.2.2.2.1 zg_21_154_0.2.2.2.2.2.2.2.2.2.2.2.2.2.2.2.2.1 (by decide), rfl, rfl⟩
theorem zd_21_154_18 : zz_D zy_isLatin1_21_154 18 (.ireturn) 1 19 := ⟨zq_172 zg_21_154_0.2.2.2.2.2.2.2.2.2.2.2.2.2.2.2.2.2, rfl⟩
-- java/lang/String isLatin1 ()Z
abbrev zr_isLatin1_21_154 : Room := { frames := 0, cells := 0, slots := 0, locals := 0 }
def zp_isLatin1_21_154 (t : Nat) (S0 : zz_S) : Int → zz_S → Prop := fun r S => S0 = S ∧ (1 ≤ r ∧ r ≤ 1)
theorem zc_isLatin1_21_154 {g : mm_G} {l : Launch} (t : Nat) (S0 : zz_S) (n : Nat) (hn : zz_end ≤ n) (G_S0 : zz_G S0) (ht : t < 59) : mm_Met g l zy_isLatin1_21_154 zr_isLatin1_21_154 [.ref (100 + t)] (zz_M S0 n) n (zz_QI n (zp_isLatin1_21_154 t S0)) := by
  refine zz_enter (by decide) (Nat.le_of_ble_eq_true rfl) (zz_less (ls1 := [some (.ref (100 + t))]) ⟨rfl, trivial⟩ ?_)
  refine zz_gsZ zd_21_154_0 zsf_java_lang_String_38 ?_
  refine zz_if_eq (by omega) zd_21_154_3 (fun c1 => ?_) (fun c1 => ?_)
  · exfalso; omega
  · refine zz_aload_n (x := 100 + t) rfl zd_21_154_6 ?_
    refine zz_strC (zz_stl (by omega)) (by omega) zd_21_154_7 zsf_java_lang_String_15 ?_
    refine zz_if_ne (by omega) zd_21_154_10 (fun c2 => ?_) (fun c2 => ?_)
    · exfalso; omega
    · refine zz_iconst zd_21_154_13 ?_
      refine zz_goto zd_21_154_14 ?_
      exact zz_zret zd_21_154_18 rfl (by omega) (Nat.zero_le _) (Nat.zero_le _) ⟨_, _, rfl, rfl, by omega⟩
theorem zkT_java_lang_String_492 : mm_Yw zy_isLatin1_21_154 0 ∧ Cond.methodLink "java/lang/String" 492 zy_isLatin1_21_154.1 ∈ mm_tb ∧ Cond.instanceMethod zy_isLatin1_21_154.1 ∈ mm_tb ∧ Cond.selects "java/lang/String" zy_isLatin1_21_154.1 zy_isLatin1_21_154.1 ∈ mm_tb := ⟨zyw_isLatin1_21_154, mm_tb_1 612 (by decide +kernel) rfl, mm_tb_1 613 (by decide +kernel) rfl, mm_tb_1 614 (by decide +kernel) rfl⟩
abbrev zy_charAt_22_2 : mm_Y := (⟨"java/lang/StringLatin1", "charAt", "([BI)C"⟩, prog_22_method_2_code, 2, (some .char))
theorem zyw_charAt_22_2 : mm_Yw zy_charAt_22_2 2 := ⟨mm_tb_1 618 (by decide +kernel) rfl, mm_tb_1 22 (by decide +kernel) rfl, ⟨by decide, by decide⟩, by decide +kernel⟩
abbrev zy_checkIndex_21_155 : mm_Y := (⟨"java/lang/String", "checkIndex", "(II)V"⟩, prog_21_method_155_code, 2, none)
theorem zyw_checkIndex_21_155 : mm_Yw zy_checkIndex_21_155 2 := ⟨mm_tb_1 621 (by decide +kernel) rfl, mm_tb_1 21 (by decide +kernel) rfl, ⟨by decide, by decide⟩, by decide +kernel⟩
theorem zsf_java_lang_String_1053 : Cond.fieldLink "java/lang/String" 1053 "jdk/internal/util/Preconditions" "SIOOBE_FORMATTER" "Ljava/util/function/BiFunction;" ∈ mm_tb := mm_tb_1 622 (by decide +kernel) rfl
abbrev zy_checkIndex_28_11 : mm_Y := (⟨"jdk/internal/util/Preconditions", "checkIndex", "(IILjava/util/function/BiFunction;)I"⟩, prog_28_method_11_code, 3, (some .int))
theorem zyw_checkIndex_28_11 : mm_Yw zy_checkIndex_28_11 3 := ⟨mm_tb_1 626 (by decide +kernel) rfl, mm_tb_1 23 (by decide +kernel) rfl, ⟨by decide, by decide⟩, by decide +kernel⟩
theorem zg_21_56_4 : zq_at zy_charAt_21_56.2.1 4 153 ∧ zq_at zy_charAt_21_56.2.1 5 0 ∧ zq_at zy_charAt_21_56.2.1 6 12 ∧ zq_at zy_charAt_21_56.2.1 7 42 ∧ zq_at zy_charAt_21_56.2.1 8 180 ∧ zq_at zy_charAt_21_56.2.1 9 0 ∧ zq_at zy_charAt_21_56.2.1 10 9 ∧ zq_at zy_charAt_21_56.2.1 11 27 ∧ zq_at zy_charAt_21_56.2.1 12 184 ∧ zq_at zy_charAt_21_56.2.1 13 1 ∧ zq_at zy_charAt_21_56.2.1 14 239 := by decide +kernel
theorem zd_21_56_4 : zz_B zy_charAt_21_56 4 (Instr.ifCond .eq) 16 7 := ⟨12, zq_153 zg_21_56_4.1 zg_21_56_4.2.1 zg_21_56_4.2.2.1 (by decide), rfl, rfl⟩
theorem zd_21_56_7 : zz_D zy_charAt_21_56 7 (.aload_n 0) 1 8 := ⟨zq_42 zg_21_56_4.2.2.2.1, rfl⟩
theorem zd_21_56_8 : zz_D zy_charAt_21_56 8 (.getfield 9) 3 11 := ⟨zq_180 zg_21_56_4.2.2.2.2.1 zg_21_56_4.2.2.2.2.2.1 zg_21_56_4.2.2.2.2.2.2.1 rfl, rfl⟩
theorem zd_21_56_11 : zz_D zy_charAt_21_56 11 (.iload_n 1) 1 12 := ⟨zq_27 zg_21_56_4.2.2.2.2.2.2.2.1, rfl⟩
theorem zd_21_56_12 : zz_D zy_charAt_21_56 12 (.invokestatic 495) 3 15 := ⟨zq_184 zg_21_56_4.2.2.2.2.2.2.2.2.1 zg_21_56_4.2.2.2.2.2.2.2.2.2.1 zg_21_56_4.2.2.2.2.2.2.2.2.2.2 rfl, rfl⟩
theorem zg_22_2_0 : zq_at zy_charAt_22_2.2.1 0 27 ∧ zq_at zy_charAt_22_2.2.1 1 42 ∧ zq_at zy_charAt_22_2.2.1 2 190 ∧ zq_at zy_charAt_22_2.2.1 3 184 ∧ zq_at zy_charAt_22_2.2.1 4 0 ∧ zq_at zy_charAt_22_2.2.1 5 9 := by decide +kernel
theorem zd_22_2_0 : zz_D zy_charAt_22_2 0 (.iload_n 1) 1 1 := ⟨zq_27 zg_22_2_0.1, rfl⟩
theorem zd_22_2_1 : zz_D zy_charAt_22_2 1 (.aload_n 0) 1 2 := ⟨zq_42 zg_22_2_0.2.1, rfl⟩
theorem zd_22_2_2 : zz_D zy_charAt_22_2 2 (.arraylength) 1 3 := ⟨zq_190 zg_22_2_0.2.2.1, rfl⟩
theorem zd_22_2_3 : zz_D zy_charAt_22_2 3 (.invokestatic 9) 3 6 := ⟨zq_184 zg_22_2_0.2.2.2.1 zg_22_2_0.2.2.2.2.1 zg_22_2_0.2.2.2.2.2 rfl, rfl⟩
theorem zg_21_155_0 : zq_at zy_checkIndex_21_155.2.1 0 26 ∧ zq_at zy_checkIndex_21_155.2.1 1 27 ∧ zq_at zy_checkIndex_21_155.2.1 2 178 ∧ zq_at zy_checkIndex_21_155.2.1 3 4 ∧ zq_at zy_checkIndex_21_155.2.1 4 29 ∧ zq_at zy_checkIndex_21_155.2.1 5 184 ∧ zq_at zy_checkIndex_21_155.2.1 6 4 ∧ zq_at zy_checkIndex_21_155.2.1 7 35 := by decide +kernel
theorem zd_21_155_0 : zz_D zy_checkIndex_21_155 0 (.iload_n 0) 1 1 := ⟨zq_26 zg_21_155_0.1, rfl⟩
theorem zd_21_155_1 : zz_D zy_checkIndex_21_155 1 (.iload_n 1) 1 2 := ⟨zq_27 zg_21_155_0.2.1, rfl⟩
theorem zd_21_155_2 : zz_D zy_checkIndex_21_155 2 (.getstatic 1053) 3 5 := ⟨zq_178 zg_21_155_0.2.2.1 zg_21_155_0.2.2.2.1 zg_21_155_0.2.2.2.2.1 rfl, rfl⟩
theorem zd_21_155_5 : zz_D zy_checkIndex_21_155 5 (.invokestatic 1059) 3 8 := ⟨zq_184 zg_21_155_0.2.2.2.2.2.1 zg_21_155_0.2.2.2.2.2.2.1 zg_21_155_0.2.2.2.2.2.2.2 rfl, rfl⟩
theorem zg_28_11_0 : zq_at zy_checkIndex_28_11.2.1 0 26 ∧ zq_at zy_checkIndex_28_11.2.1 1 155 ∧ zq_at zy_checkIndex_28_11.2.1 2 0 ∧ zq_at zy_checkIndex_28_11.2.1 3 8 ∧ zq_at zy_checkIndex_28_11.2.1 4 26 ∧ zq_at zy_checkIndex_28_11.2.1 5 27 ∧ zq_at zy_checkIndex_28_11.2.1 6 161 ∧ zq_at zy_checkIndex_28_11.2.1 7 0 ∧ zq_at zy_checkIndex_28_11.2.1 8 10 ∧ zq_at zy_checkIndex_28_11.2.1 16 26 ∧ zq_at zy_checkIndex_28_11.2.1 17 172 := by decide +kernel
theorem zd_28_11_0 : zz_D zy_checkIndex_28_11 0 (.iload_n 0) 1 1 := ⟨zq_26 zg_28_11_0.1, rfl⟩
theorem zd_28_11_1 : zz_B zy_checkIndex_28_11 1 (Instr.ifCond .lt) 9 4 := ⟨8, zq_155 zg_28_11_0.2.1 zg_28_11_0.2.2.1 zg_28_11_0.2.2.2.1 (by decide), rfl, rfl⟩
theorem zd_28_11_4 : zz_D zy_checkIndex_28_11 4 (.iload_n 0) 1 5 := ⟨zq_26 zg_28_11_0.2.2.2.2.1, rfl⟩
theorem zd_28_11_5 : zz_D zy_checkIndex_28_11 5 (.iload_n 1) 1 6 := ⟨zq_27 zg_28_11_0.2.2.2.2.2.1, rfl⟩
theorem zd_28_11_6 : zz_B zy_checkIndex_28_11 6 (Instr.if_icmp .lt) 16 9 := ⟨10, zq_161 zg_28_11_0.2.2.2.2.2.2.1 zg_28_11_0.2.2.2.2.2.2.2.1 zg_28_11_0.2.2.2.2.2.2.2.2.1 (by decide), rfl, rfl⟩
theorem zd_28_11_16 : zz_D zy_checkIndex_28_11 16 (.iload_n 0) 1 17 := ⟨zq_26 zg_28_11_0.2.2.2.2.2.2.2.2.2.1, rfl⟩
theorem zd_28_11_17 : zz_D zy_checkIndex_28_11 17 (.ireturn) 1 18 := ⟨zq_172 zg_28_11_0.2.2.2.2.2.2.2.2.2.2, rfl⟩
-- jdk/internal/util/Preconditions checkIndex (IILjava/util/function/BiFunction;)I
abbrev zr_checkIndex_28_11_null : Room := { frames := 0, cells := 0, slots := 0, locals := 0 }
def zp_checkIndex_28_11_null (p0 : Int) (p1 : Int) (S0 : zz_S) : Int → zz_S → Prop := fun r S => S0 = S ∧ ((-2147483648) ≤ r ∧ r ≤ 2147483647)
theorem zc_checkIndex_28_11_null {g : mm_G} {l : Launch} (p0 : Int) (p1 : Int) (S0 : zz_S) (n : Nat) (hn : zz_end ≤ n) (G_S0 : zz_G S0) (hp0 : (-2147483648) ≤ p0 ∧ p0 ≤ 2147483647) (hp1 : (-2147483648) ≤ p1 ∧ p1 ≤ 2147483647) (hq : 0 ≤ p0 ∧ p0 < p1) : mm_Met g l zy_checkIndex_28_11 zr_checkIndex_28_11_null [zi p0, zi p1, .null] (zz_M S0 n) n (zz_QI n (zp_checkIndex_28_11_null p0 p1 S0)) := by
  refine zz_enter (by decide) (Nat.le_of_ble_eq_true rfl) (zz_less (ls1 := [some (zi p0), some (zi p1), some (.null)]) ⟨rfl, ⟨rfl, ⟨rfl, trivial⟩⟩⟩ ?_)
  refine zz_iload_n (x := p0) rfl zd_28_11_0 ?_
  refine zz_if_lt (by omega) zd_28_11_1 (fun c1 => ?_) (fun c1 => ?_)
  · exfalso; omega
  · refine zz_iload_n (x := p0) rfl zd_28_11_4 ?_
    refine zz_iload_n (x := p1) rfl zd_28_11_5 ?_
    refine zz_icmp_lt (by omega) (by omega) zd_28_11_6 (fun c2 => ?_) (fun c2 => ?_)
    · refine zz_iload_n (x := p0) rfl zd_28_11_16 ?_
      exact zz_iret zd_28_11_17 rfl (Nat.zero_le _) (Nat.zero_le _) ⟨_, _, rfl, rfl, by omega⟩
    · exfalso; omega
theorem zk_java_lang_String_1059 : mm_Sl "java/lang/String" 1059 3 zy_checkIndex_28_11 := ⟨zyw_checkIndex_28_11, mm_tb_1 624 (by decide +kernel) rfl, mm_tb_1 625 (by decide +kernel) rfl⟩
theorem zg_21_155_8 : zq_at zy_checkIndex_21_155.2.1 8 87 ∧ zq_at zy_checkIndex_21_155.2.1 9 177 := by decide +kernel
theorem zd_21_155_8 : zz_D zy_checkIndex_21_155 8 (.pop) 1 9 := ⟨zq_87 zg_21_155_8.1, rfl⟩
theorem zd_21_155_9 : zz_D zy_checkIndex_21_155 9 (.return_) 1 10 := ⟨zq_177 zg_21_155_8.2, rfl⟩
-- jdk/internal/util/Preconditions checkIndex (IILjava/util/function/BiFunction;)I
abbrev zr_checkIndex_28_11_999 : Room := { frames := 0, cells := 0, slots := 0, locals := 0 }
def zp_checkIndex_28_11_999 (p0 : Int) (p1 : Int) (S0 : zz_S) : Int → zz_S → Prop := fun r S => S0 = S ∧ ((-2147483648) ≤ r ∧ r ≤ 2147483647)
theorem zc_checkIndex_28_11_999 {g : mm_G} {l : Launch} (p0 : Int) (p1 : Int) (S0 : zz_S) (n : Nat) (hn : zz_end ≤ n) (G_S0 : zz_G S0) (hp0 : (-2147483648) ≤ p0 ∧ p0 ≤ 2147483647) (hp1 : (-2147483648) ≤ p1 ∧ p1 ≤ 2147483647) (hq : 0 ≤ p0 ∧ p0 < p1) : mm_Met g l zy_checkIndex_28_11 zr_checkIndex_28_11_999 [zi p0, zi p1, .ref 999] (zz_M S0 n) n (zz_QI n (zp_checkIndex_28_11_999 p0 p1 S0)) := by
  refine zz_enter (by decide) (Nat.le_of_ble_eq_true rfl) (zz_less (ls1 := [some (zi p0), some (zi p1), some (.ref 999)]) ⟨rfl, ⟨rfl, ⟨rfl, trivial⟩⟩⟩ ?_)
  refine zz_iload_n (x := p0) rfl zd_28_11_0 ?_
  refine zz_if_lt (by omega) zd_28_11_1 (fun c1 => ?_) (fun c1 => ?_)
  · exfalso; omega
  · refine zz_iload_n (x := p0) rfl zd_28_11_4 ?_
    refine zz_iload_n (x := p1) rfl zd_28_11_5 ?_
    refine zz_icmp_lt (by omega) (by omega) zd_28_11_6 (fun c2 => ?_) (fun c2 => ?_)
    · refine zz_iload_n (x := p0) rfl zd_28_11_16 ?_
      exact zz_iret zd_28_11_17 rfl (Nat.zero_le _) (Nat.zero_le _) ⟨_, _, rfl, rfl, by omega⟩
    · exfalso; omega
-- java/lang/String checkIndex (II)V
abbrev zr_checkIndex_21_155 : Room := { frames := 1, cells := 0, slots := 0, locals := 14 }
def zp_checkIndex_21_155 (p0 : Int) (p1 : Int) (S0 : zz_S) : zz_S → Prop := fun S => S0 = S
theorem zc_checkIndex_21_155 {g : mm_G} {l : Launch} (p0 : Int) (p1 : Int) (S0 : zz_S) (n : Nat) (hn : zz_end ≤ n) (G_S0 : zz_G S0) (hp0 : (-2147483648) ≤ p0 ∧ p0 ≤ 2147483647) (hp1 : (-2147483648) ≤ p1 ∧ p1 ≤ 2147483647) (hq : 0 ≤ p0 ∧ p0 < p1) : mm_Met g l zy_checkIndex_21_155 zr_checkIndex_21_155 [zi p0, zi p1] (zz_M S0 n) n (zz_QV n (zp_checkIndex_21_155 p0 p1 S0)) := by
  refine zz_enter (by decide) (Nat.le_of_ble_eq_true rfl) (zz_less (ls1 := [some (zi p0), some (zi p1)]) ⟨rfl, ⟨rfl, trivial⟩⟩ ?_)
  refine zz_iload_n (x := p0) rfl zd_21_155_0 ?_
  refine zz_iload_n (x := p1) rfl zd_21_155_1 ?_
  refine zz_gsQ zd_21_155_2 zsf_java_lang_String_1053 (fun w1 hw1 => ?_)
  rcases hw1 with rfl | rfl
  · refine zz_callSI [zi p0, zi p1, .null] zd_21_155_5 zk_java_lang_String_1059 rfl rfl ⟨Nat.le_of_ble_eq_true rfl, Nat.le_of_ble_eq_true rfl⟩ ⟨rfl, rfl⟩ (Nat.zero_le _) (Nat.zero_le _) (zc_checkIndex_28_11_null p0 p1 S0 n hn G_S0 (by omega) (by omega) (by omega)) (fun v3 S2 hP => ?_)
    obtain ⟨rfl, o4⟩ := hP
    refine zz_pop rfl zd_21_155_8 ?_
    exact zz_vret zd_21_155_9 rfl (Nat.zero_le _) (Nat.zero_le _) ⟨_, rfl, rfl⟩
  · refine zz_callSI [zi p0, zi p1, .ref 999] zd_21_155_5 zk_java_lang_String_1059 rfl rfl ⟨Nat.le_of_ble_eq_true rfl, Nat.le_of_ble_eq_true rfl⟩ ⟨rfl, rfl⟩ (Nat.zero_le _) (Nat.zero_le _) (zc_checkIndex_28_11_999 p0 p1 S0 n hn G_S0 (by omega) (by omega) (by omega)) (fun v6 S5 hP => ?_)
    obtain ⟨rfl, o7⟩ := hP
    refine zz_pop rfl zd_21_155_8 ?_
    exact zz_vret zd_21_155_9 rfl (Nat.zero_le _) (Nat.zero_le _) ⟨_, rfl, rfl⟩
theorem zk_java_lang_StringLatin1_9 : mm_Sl "java/lang/StringLatin1" 9 2 zy_checkIndex_21_155 := ⟨zyw_checkIndex_21_155, mm_tb_1 619 (by decide +kernel) rfl, mm_tb_1 620 (by decide +kernel) rfl⟩
theorem zg_22_2_6 : zq_at zy_charAt_22_2.2.1 6 42 ∧ zq_at zy_charAt_22_2.2.1 7 27 ∧ zq_at zy_charAt_22_2.2.1 8 51 ∧ zq_at zy_charAt_22_2.2.1 9 17 ∧ zq_at zy_charAt_22_2.2.1 10 0 ∧ zq_at zy_charAt_22_2.2.1 11 255 ∧ zq_at zy_charAt_22_2.2.1 12 126 ∧ zq_at zy_charAt_22_2.2.1 13 146 ∧ zq_at zy_charAt_22_2.2.1 14 172 := by decide +kernel
theorem zd_22_2_6 : zz_D zy_charAt_22_2 6 (.aload_n 0) 1 7 := ⟨zq_42 zg_22_2_6.1, rfl⟩
theorem zd_22_2_7 : zz_D zy_charAt_22_2 7 (.iload_n 1) 1 8 := ⟨zq_27 zg_22_2_6.2.1, rfl⟩
theorem zd_22_2_8 : zz_D zy_charAt_22_2 8 (.baload) 1 9 := ⟨zq_51 zg_22_2_6.2.2.1, rfl⟩
theorem zd_22_2_9 : zz_D zy_charAt_22_2 9 (.sipush 255) 3 12 := ⟨zq_17 zg_22_2_6.2.2.2.1 zg_22_2_6.2.2.2.2.1 zg_22_2_6.2.2.2.2.2.1 (by decide), rfl⟩
theorem zd_22_2_12 : zz_D zy_charAt_22_2 12 (.iand) 1 13 := ⟨zq_126 zg_22_2_6.2.2.2.2.2.2.1, rfl⟩
theorem zd_22_2_13 : zz_D zy_charAt_22_2 13 (.i2c) 1 14 := ⟨zq_146 zg_22_2_6.2.2.2.2.2.2.2.1, rfl⟩
theorem zd_22_2_14 : zz_D zy_charAt_22_2 14 (.ireturn) 1 15 := ⟨zq_172 zg_22_2_6.2.2.2.2.2.2.2.2, rfl⟩
-- java/lang/StringLatin1 charAt ([BI)C
abbrev zr_charAt_22_2 : Room := { frames := 2, cells := 0, slots := 0, locals := 27 }
def zp_charAt_22_2 (p0 : Nat) (p1 : Int) (S0 : zz_S) : Int → zz_S → Prop := fun r S => S0 = S ∧ (0 ≤ r ∧ r ≤ 255) ∧ (r = zt_by p0 p1.toNat)
theorem zc_charAt_22_2 {g : mm_G} {l : Launch} (p0 : Nat) (p1 : Int) (S0 : zz_S) (n : Nat) (hn : zz_end ≤ n) (G_S0 : zz_G S0) (hp0 : p0 < 59) (hp1 : (-2147483648) ≤ p1 ∧ p1 ≤ 2147483647) (hq : 0 ≤ p1 ∧ p1 < ((mm_len.getD p0 0 : Nat) : Int)) : mm_Met g l zy_charAt_22_2 zr_charAt_22_2 [.ref (500 + p0), zi p1] (zz_M S0 n) n (zz_QI n (zp_charAt_22_2 p0 p1 S0)) := by
  refine zz_enter (by decide) (Nat.le_of_ble_eq_true rfl) (zz_less (ls1 := [some (.ref (500 + p0)), some (zi p1)]) ⟨rfl, ⟨rfl, trivial⟩⟩ ?_)
  refine zz_iload_n (x := p1) rfl zd_22_2_0 ?_
  refine zz_aload_n (x := 500 + p0) rfl zd_22_2_1 ?_
  have l1 := zz_slen (t := p0) (by omega)
  refine zz_strL (zz_stl (by omega)) (by omega) zd_22_2_2 ?_
  refine zz_callSV [zi p1, zi ((mm_len.getD p0 0 : Nat) : Int)] zd_22_2_3 zk_java_lang_StringLatin1_9 rfl rfl ⟨Nat.le_of_ble_eq_true rfl, Nat.le_of_ble_eq_true rfl⟩ ⟨rfl, rfl⟩ (Nat.zero_le _) (Nat.zero_le _) (zc_checkIndex_21_155 p1 ((mm_len.getD p0 0 : Nat) : Int) S0 n hn G_S0 (by omega) (by omega) (by omega)) (fun S2 hP => ?_)
  obtain ⟨rfl⟩ := hP
  refine zz_aload_n (x := 500 + p0) rfl zd_22_2_6 ?_
  refine zz_iload_n (x := p1) rfl zd_22_2_7 ?_
  have l5 := zz_slen (t := p0) (by omega)
  have l6 := zt_byr (t := p0) (i := p1.toNat) (by omega)
  refine zt_strB (zz_stl (by omega)) (by omega) zd_22_2_8 (by omega) (by omega) (fun v4 hv4 ev4 => ?_)
  refine zz_sipush (by decide) zd_22_2_9 ?_
  refine zz_iand (by omega) (by omega) zd_22_2_12 (fun v7 hv7 av7 bv7 ev7 => ?_)
  have ha9 := zt_and255 (x := v4) (by omega) ev7
  refine zz_i2c (by omega) zd_22_2_13 ?_
  exact zz_cret zd_22_2_14 rfl (by omega) (Nat.zero_le _) (Nat.zero_le _) ⟨_, _, rfl, rfl, by omega, by omega⟩
theorem zk_java_lang_String_495 : mm_Sl "java/lang/String" 495 2 zy_charAt_22_2 := ⟨zyw_charAt_22_2, mm_tb_1 616 (by decide +kernel) rfl, mm_tb_1 617 (by decide +kernel) rfl⟩
theorem zg_21_56_15 : zq_at zy_charAt_21_56.2.1 15 172 := by decide +kernel
theorem zd_21_56_15 : zz_D zy_charAt_21_56 15 (.ireturn) 1 16 := ⟨zq_172 zg_21_56_15, rfl⟩
-- java/lang/String charAt (I)C
abbrev zr_charAt_21_56 : Room := { frames := 3, cells := 0, slots := 0, locals := 40 }
def zp_charAt_21_56 (t : Nat) (p0 : Int) (S0 : zz_S) : Int → zz_S → Prop := fun r S => S0 = S ∧ (0 ≤ r ∧ r ≤ 255) ∧ (r = zt_by t p0.toNat)
theorem zc_charAt_21_56 {g : mm_G} {l : Launch} (t : Nat) (p0 : Int) (S0 : zz_S) (n : Nat) (hn : zz_end ≤ n) (G_S0 : zz_G S0) (ht : t < 59) (hp0 : (-2147483648) ≤ p0 ∧ p0 ≤ 2147483647) (hq : 0 ≤ p0 ∧ p0 < ((mm_len.getD t 0 : Nat) : Int)) : mm_Met g l zy_charAt_21_56 zr_charAt_21_56 [.ref (100 + t), zi p0] (zz_M S0 n) n (zz_QI n (zp_charAt_21_56 t p0 S0)) := by
  refine zz_enter (by decide) (Nat.le_of_ble_eq_true rfl) (zz_less (ls1 := [some (.ref (100 + t)), some (zi p0)]) ⟨rfl, ⟨rfl, trivial⟩⟩ ?_)
  refine zz_aload_n (x := 100 + t) rfl zd_21_56_0 ?_
  refine zz_callT (t := t) [] (zz_stl (by omega)) (by omega) zd_21_56_1 zkT_java_lang_String_492 rfl rfl ⟨Nat.le_of_ble_eq_true rfl, Nat.le_of_ble_eq_true rfl⟩ ⟨rfl, rfl⟩ (Nat.zero_le _) (Nat.zero_le _) (zc_isLatin1_21_154 t S0 n hn G_S0 (by omega)) (fun v2 S1 hP => ?_)
  obtain ⟨rfl, o3⟩ := hP
  rcases (by omega : v2 = 1) with rfl
  · refine zz_if_eq (by omega) zd_21_56_4 (fun c4 => ?_) (fun c4 => ?_)
    · exfalso; omega
    · refine zz_aload_n (x := 100 + t) rfl zd_21_56_7 ?_
      refine zz_strV (zz_stl (by omega)) (by omega) zd_21_56_8 zsf_java_lang_String_9 ?_
      refine zz_iload_n (x := p0) rfl zd_21_56_11 ?_
      refine zz_callSI [.ref (500 + t), zi p0] zd_21_56_12 zk_java_lang_String_495 rfl rfl ⟨Nat.le_of_ble_eq_true rfl, Nat.le_of_ble_eq_true rfl⟩ ⟨rfl, rfl⟩ (Nat.zero_le _) (Nat.zero_le _) (zc_charAt_22_2 t p0 S0 n hn G_S0 (by omega) (by omega) (by omega)) (fun v6 S5 hP => ?_)
      obtain ⟨rfl, o7, o8⟩ := hP
      exact zz_cret zd_21_56_15 rfl (by omega) (Nat.zero_le _) (Nat.zero_le _) ⟨_, _, rfl, rfl, by omega, by omega⟩
theorem zkT_Text_43 : mm_Yw zy_charAt_21_56 1 ∧ Cond.methodLink "TensorForge$Text" 43 zy_charAt_21_56.1 ∈ mm_tb ∧ Cond.instanceMethod zy_charAt_21_56.1 ∈ mm_tb ∧ Cond.selects "java/lang/String" zy_charAt_21_56.1 zy_charAt_21_56.1 ∈ mm_tb := ⟨zyw_charAt_21_56, mm_tb_1 608 (by decide +kernel) rfl, mm_tb_1 609 (by decide +kernel) rfl, mm_tb_1 610 (by decide +kernel) rfl⟩
theorem zg_11_9_52 : zq_at zy_isWord_11_9.2.1 52 159 ∧ zq_at zy_isWord_11_9.2.1 53 0 ∧ zq_at zy_isWord_11_9.2.1 54 5 ∧ zq_at zy_isWord_11_9.2.1 57 132 ∧ zq_at zy_isWord_11_9.2.1 58 2 ∧ zq_at zy_isWord_11_9.2.1 59 1 ∧ zq_at zy_isWord_11_9.2.1 60 167 ∧ zq_at zy_isWord_11_9.2.1 61 255 ∧ zq_at zy_isWord_11_9.2.1 62 224 ∧ zq_at zy_isWord_11_9.2.1 55 3 ∧ zq_at zy_isWord_11_9.2.1 56 172 := by decide +kernel
theorem zd_11_9_52 : zz_B zy_isWord_11_9 52 (Instr.if_icmp .eq) 57 55 := ⟨5, zq_159 zg_11_9_52.1 zg_11_9_52.2.1 zg_11_9_52.2.2.1 (by decide), rfl, rfl⟩
theorem zd_11_9_57 : zz_D zy_isWord_11_9 57 (.iinc 2 1) 3 60 := ⟨zq_132 zg_11_9_52.2.2.2.1 zg_11_9_52.2.2.2.2.1 zg_11_9_52.2.2.2.2.2.1 (by decide), rfl⟩
theorem zd_11_9_60 : zz_B zy_isWord_11_9 60 Instr.goto 28 63 := ⟨(-32), zq_167 zg_11_9_52.2.2.2.2.2.2.1 zg_11_9_52.2.2.2.2.2.2.2.1 zg_11_9_52.2.2.2.2.2.2.2.2.1 (by decide), rfl, rfl⟩
theorem zd_11_9_55 : zz_D zy_isWord_11_9 55 (.iconst 0) 1 56 := ⟨zq_3 zg_11_9_52.2.2.2.2.2.2.2.2.2.1, rfl⟩
theorem zd_11_9_56 : zz_D zy_isWord_11_9 56 (.ireturn) 1 57 := ⟨zq_172 zg_11_9_52.2.2.2.2.2.2.2.2.2.2, rfl⟩
-- TensorForge$Text isWord (Ljava/lang/String;)Z
abbrev zr_isWord_11_9 : Room := { frames := 4, cells := 0, slots := 0, locals := 54 }
def zp_isWord_11_9 (p0 : Nat) (S0 : zz_S) : Int → zz_S → Prop := fun r S => S0 = S ∧ (0 ≤ r ∧ r ≤ 1) ∧ (zt_IS r (S0 1070 4) (S0 1071) (S0 1070 5) (S0 1070 3) p0)
theorem zb_isWord_11_9_28 {g : mm_G} {l : Launch} (p0 : Nat) (S0 : zz_S) (n : Nat) (hn : zz_end ≤ n) (G_S0 : zz_G S0) (hp0 : p0 < 59) (x2 : Int) (S : zz_S) (G_S : zz_G S) (F_S : zz_fr [] [] (fun _ _ => False) S0 S) (i28_0 : 0 ≤ x2 ∧ x2 ≤ 38) (i28_1 : S0 1070 4 = 1) (i28_2 : S0 1070 3 - S0 1070 5 = ((mm_len.getD p0 0 : Nat) : Int)) (i28_3 : zt_wm (S0 1071) (S0 1070 5) (zt_tw p0) x2) (R : Nat) (hR : (2147483647 - x2).toNat = R) (k28 : ∀ (x2 : Int) (S : zz_S), zz_G S → zz_fr [] [] (fun _ _ => False) S0 S → (0 ≤ x2 ∧ x2 ≤ 38) → (S0 1070 4 = 1) → (S0 1070 3 - S0 1070 5 = ((mm_len.getD p0 0 : Nat) : Int)) → (zt_wm (S0 1071) (S0 1070 5) (zt_tw p0) x2) → (2147483647 - x2).toNat < R → zz_E g l zy_isWord_11_9 zr_isWord_11_9 (zz_QI n (zp_isWord_11_9 p0 S0)) S n 28 [some (.ref 1070), some (.ref (100 + p0)), some (zi x2)] [] 0 0) : zz_E g l zy_isWord_11_9 zr_isWord_11_9 (zz_QI n (zp_isWord_11_9 p0 S0)) S n 28 [some (.ref 1070), some (.ref (100 + p0)), some (zi x2)] [] 0 0 := by
  have hat9 := zz_G.r G_S0 1070 3 0 1500 rfl rfl
  have hl9 := zt_twl p0 (by omega)
  refine zz_iload_n (x := x2) rfl zd_11_9_28 ?_
  refine zz_aload_n (x := 100 + p0) rfl zd_11_9_29 ?_
  refine zz_callT (t := p0) [] (zz_stl (by omega)) (by omega) zd_11_9_30 zkT_Text_37 rfl rfl ⟨Nat.le_of_ble_eq_true rfl, Nat.le_of_ble_eq_true rfl⟩ ⟨rfl, rfl⟩ (Nat.zero_le _) (Nat.zero_le _) (zc_length_21_54 p0 S n hn G_S (by omega)) (fun v11 S10 hP => ?_)
  obtain ⟨rfl, o12, o13⟩ := hP
  refine zz_icmp_ge (by omega) (by omega) zd_11_9_33 (fun c14 => ?_) (fun c14 => ?_)
  · refine zz_iconst zd_11_9_63 ?_
    exact zz_zret zd_11_9_64 rfl (by omega) (Nat.zero_le _) (Nat.zero_le _) ⟨_, _, rfl, zz_fr.eq F_S, by omega, (Or.inl ⟨rfl, by omega, by omega, zt_wmY i28_3 (by omega)⟩)⟩
  · refine zz_aload_n (x := 1070) rfl zd_11_9_36 ?_
    refine zz_getr (kd := 0) (z := 1071) zd_11_9_37 zf_Text_9 zT_1070 rfl (zz_ltn hn rfl) (zz_G.eq G_S 1070 0 1071 rfl rfl) (by decide) 1071 rfl ?_
    refine zz_aload_n (x := 1070) rfl zd_11_9_40 ?_
    have g15 := zz_G.r G_S0 1070 5 0 1500 rfl rfl
    refine zz_geti (z := S0 1070 5) zd_11_9_41 zf_Text_31 zT_1070 rfl (zz_ltn hn rfl) (zz_rc F_S rfl rfl (fun h => h) rfl) ?_
    refine zz_iload_n (x := x2) rfl zd_11_9_44 ?_
    refine zz_iadd zd_11_9_45 ?_
    have g16 := zz_G.r G_S0 1071 (((S0 1070 5) + x2).toNat) 0 65535 rfl rfl
    refine zz_cald (z := S0 1071 (((S0 1070 5) + x2).toNat)) zd_11_9_46 zT_1071 rfl (zz_ltn hn rfl) (by decide) (by omega) (zz_rc F_S (zz_nc1 rfl) rfl (fun h => h) rfl) ?_
    refine zz_aload_n (x := 100 + p0) rfl zd_11_9_47 ?_
    refine zz_iload_n (x := x2) rfl zd_11_9_48 ?_
    refine zz_callT (t := p0) [zi x2] (zz_stl (by omega)) (by omega) zd_11_9_49 zkT_Text_43 rfl rfl ⟨Nat.le_of_ble_eq_true rfl, Nat.le_of_ble_eq_true rfl⟩ ⟨rfl, rfl⟩ (Nat.zero_le _) (Nat.zero_le _) (zc_charAt_21_56 p0 x2 S n hn G_S (by omega) (by omega) (by omega)) (fun v18 S17 hP => ?_)
    obtain ⟨rfl, o19, o20⟩ := hP
    refine zz_icmp_eq (by omega) (by omega) zd_11_9_52 (fun c21 => ?_) (fun c21 => ?_)
    · refine zz_iinc [some (.ref 1070), some (.ref (100 + p0)), some (zi (x2 + 1))] zd_11_9_57 rfl rfl ?_
      refine zz_goto zd_11_9_60 ?_
      refine zz_less (ls1 := [some (.ref 1070), some (.ref (100 + p0)), some (zi (x2 + 1))]) ⟨rfl, ⟨rfl, ⟨rfl, trivial⟩⟩⟩ ?_
      exact k28 (x2 + 1) S G_S F_S (by omega) (by omega) (by omega) (zt_wmS (p := S0 1070 5 + x2) i28_3 (by omega) rfl (by show S0 1071 (S0 1070 5 + x2).toNat = zt_by p0 x2.toNat; omega) rfl) (by omega)
    · refine zz_iconst zd_11_9_55 ?_
      exact zz_zret zd_11_9_56 rfl (by omega) (Nat.zero_le _) (Nat.zero_le _) ⟨_, _, rfl, zz_fr.eq F_S, by omega, (Or.inr ⟨rfl, Or.inr (fun h8 => zt_wmN (p := S0 1070 5 + x2) i28_3 (by omega) rfl (by show S0 1071 (S0 1070 5 + x2).toNat ≠ zt_by p0 x2.toNat; omega) h8.2)⟩)⟩
theorem zi_isWord_11_9 {g : mm_G} {l : Launch} (p0 : Nat) (S0 : zz_S) (n : Nat) (hn : zz_end ≤ n) (G_S0 : zz_G S0) (hp0 : p0 < 59) : ∀ N : Nat, (∀ (x2 : Int) (S : zz_S), zz_G S → zz_fr [] [] (fun _ _ => False) S0 S → (0 ≤ x2 ∧ x2 ≤ 38) → (S0 1070 4 = 1) → (S0 1070 3 - S0 1070 5 = ((mm_len.getD p0 0 : Nat) : Int)) → (zt_wm (S0 1071) (S0 1070 5) (zt_tw p0) x2) → (2147483647 - x2).toNat < N → zz_E g l zy_isWord_11_9 zr_isWord_11_9 (zz_QI n (zp_isWord_11_9 p0 S0)) S n 28 [some (.ref 1070), some (.ref (100 + p0)), some (zi x2)] [] 0 0) := by
  intro N
  induction N with
  | zero => exact fun x2 S _ _ _ _ _ _ h => absurd h (Nat.not_lt_zero _)
  | succ N ih =>
    exact fun x2 S a b j0 j1 j2 j3 hR => zb_isWord_11_9_28 p0 S0 n hn G_S0 hp0 x2 S a b j0 j1 j2 j3 _ rfl (fun x2 S a b j0 j1 j2 j3 h => ih x2 S a b j0 j1 j2 j3 (Nat.lt_of_lt_of_le h (Nat.le_of_lt_succ hR)))
theorem zc_isWord_11_9 {g : mm_G} {l : Launch} (p0 : Nat) (S0 : zz_S) (n : Nat) (hn : zz_end ≤ n) (G_S0 : zz_G S0) (hp0 : p0 < 59) : mm_Met g l zy_isWord_11_9 zr_isWord_11_9 [.ref 1070, .ref (100 + p0)] (zz_M S0 n) n (zz_QI n (zp_isWord_11_9 p0 S0)) := by
  refine zz_enter (by decide) (Nat.le_of_ble_eq_true rfl) (zz_less (ls1 := [some (.ref 1070), some (.ref (100 + p0))]) ⟨rfl, ⟨rfl, trivial⟩⟩ ?_)
  have F_S0 : zz_fr [] [] (fun _ _ => False) S0 S0 := zz_fr.refl
  have k28 : ∀ (x2 : Int) (S : zz_S), zz_G S → zz_fr [] [] (fun _ _ => False) S0 S → (0 ≤ x2 ∧ x2 ≤ 38) → (S0 1070 4 = 1) → (S0 1070 3 - S0 1070 5 = ((mm_len.getD p0 0 : Nat) : Int)) → (zt_wm (S0 1071) (S0 1070 5) (zt_tw p0) x2) → zz_E g l zy_isWord_11_9 zr_isWord_11_9 (zz_QI n (zp_isWord_11_9 p0 S0)) S n 28 [some (.ref 1070), some (.ref (100 + p0)), some (zi x2)] [] 0 0 := fun x2 S a b j0 j1 j2 j3 => (zi_isWord_11_9 (g := g) (l := l) p0 S0 n hn G_S0 hp0 _) x2 S a b j0 j1 j2 j3 (Nat.lt_succ_self _)
  have hl9 := zt_twl p0 (by omega)
  refine zz_aload_n (x := 1070) rfl zd_11_9_0 ?_
  have g1 := zz_G.r G_S0 1070 4 (-2147483648) 2147483647 rfl rfl
  refine zz_geti (z := S0 1070 4) zd_11_9_1 zf_Text_28 zT_1070 rfl (zz_ltn hn rfl) rfl ?_
  refine zz_iconst zd_11_9_4 ?_
  refine zz_icmp_ne (by omega) (by omega) zd_11_9_5 (fun c2 => ?_) (fun c2 => ?_)
  · refine zz_iconst zd_11_9_24 ?_
    exact zz_zret zd_11_9_25 rfl (by omega) (Nat.zero_le _) (Nat.zero_le _) ⟨_, _, rfl, rfl, by omega, (Or.inr ⟨rfl, (Decidable.em (S0 1070 4 = 1)).elim (fun h9 => Or.inr (fun h8 => by have h7 := h8.1; omega)) Or.inl⟩)⟩
  · refine zz_aload_n (x := 1070) rfl zd_11_9_8 ?_
    have g3 := zz_G.r G_S0 1070 3 0 1500 rfl rfl
    refine zz_geti (z := S0 1070 3) zd_11_9_9 zf_Text_25 zT_1070 rfl (zz_ltn hn rfl) rfl ?_
    refine zz_aload_n (x := 1070) rfl zd_11_9_12 ?_
    have g4 := zz_G.r G_S0 1070 5 0 1500 rfl rfl
    refine zz_geti (z := S0 1070 5) zd_11_9_13 zf_Text_31 zT_1070 rfl (zz_ltn hn rfl) rfl ?_
    refine zz_isub zd_11_9_16 ?_
    refine zz_aload_n (x := 100 + p0) rfl zd_11_9_17 ?_
    refine zz_callT (t := p0) [] (zz_stl (by omega)) (by omega) zd_11_9_18 zkT_Text_37 rfl rfl ⟨Nat.le_of_ble_eq_true rfl, Nat.le_of_ble_eq_true rfl⟩ ⟨rfl, rfl⟩ (Nat.zero_le _) (Nat.zero_le _) (zc_length_21_54 p0 S0 n hn G_S0 (by omega)) (fun v6 S5 hP => ?_)
    obtain ⟨rfl, o7, o8⟩ := hP
    refine zz_icmp_eq (by omega) (by omega) zd_11_9_21 (fun c9 => ?_) (fun c9 => ?_)
    · refine zz_iconst zd_11_9_26 ?_
      refine zz_istore_n [some (.ref 1070), some (.ref (100 + p0)), some (zi 0)] zd_11_9_27 (by decide) rfl ?_
      refine zz_less (ls1 := [some (.ref 1070), some (.ref (100 + p0)), some (zi 0)]) ⟨rfl, ⟨rfl, ⟨rfl, trivial⟩⟩⟩ ?_
      exact k28 0 S0 G_S0 F_S0 (by omega) (by omega) (by omega) zt_wm0
    · refine zz_iconst zd_11_9_24 ?_
      exact zz_zret zd_11_9_25 rfl (by omega) (Nat.zero_le _) (Nat.zero_le _) ⟨_, _, rfl, rfl, by omega, (Or.inr ⟨rfl, (Decidable.em (S0 1070 4 = 1)).elim (fun h9 => Or.inr (fun h8 => by have h7 := h8.1; omega)) Or.inl⟩)⟩
theorem zk_Assembler_61 : mm_Vl "TensorForge$Assembler" 61 6 1 zy_isWord_11_9 := ⟨zyw_isWord_11_9, (R_Text, F_Text, 7), rfl, mm_tb_1 594 (by decide +kernel) rfl, mm_tb_1 595 (by decide +kernel) rfl, mm_tb_1 596 (by decide +kernel) rfl⟩
theorem zg_2_4_19 : zq_at zy_kindTold_2_4.2.1 19 153 ∧ zq_at zy_kindTold_2_4.2.1 20 0 ∧ zq_at zy_kindTold_2_4.2.1 21 5 ∧ zq_at zy_kindTold_2_4.2.1 24 132 ∧ zq_at zy_kindTold_2_4.2.1 25 1 ∧ zq_at zy_kindTold_2_4.2.1 26 1 ∧ zq_at zy_kindTold_2_4.2.1 27 167 ∧ zq_at zy_kindTold_2_4.2.1 28 255 ∧ zq_at zy_kindTold_2_4.2.1 29 231 ∧ zq_at zy_kindTold_2_4.2.1 22 27 ∧ zq_at zy_kindTold_2_4.2.1 23 172 := by decide +kernel
theorem zd_2_4_19 : zz_B zy_kindTold_2_4 19 (Instr.ifCond .eq) 24 22 := ⟨5, zq_153 zg_2_4_19.1 zg_2_4_19.2.1 zg_2_4_19.2.2.1 (by decide), rfl, rfl⟩
theorem zd_2_4_24 : zz_D zy_kindTold_2_4 24 (.iinc 1 1) 3 27 := ⟨zq_132 zg_2_4_19.2.2.2.1 zg_2_4_19.2.2.2.2.1 zg_2_4_19.2.2.2.2.2.1 (by decide), rfl⟩
theorem zd_2_4_27 : zz_B zy_kindTold_2_4 27 Instr.goto 2 30 := ⟨(-25), zq_167 zg_2_4_19.2.2.2.2.2.2.1 zg_2_4_19.2.2.2.2.2.2.2.1 zg_2_4_19.2.2.2.2.2.2.2.2.1 (by decide), rfl, rfl⟩
theorem zd_2_4_22 : zz_D zy_kindTold_2_4 22 (.iload_n 1) 1 23 := ⟨zq_27 zg_2_4_19.2.2.2.2.2.2.2.2.2.1, rfl⟩
theorem zd_2_4_23 : zz_D zy_kindTold_2_4 23 (.ireturn) 1 24 := ⟨zq_172 zg_2_4_19.2.2.2.2.2.2.2.2.2.2, rfl⟩
-- TensorForge$Assembler kindTold ()I
abbrev zr_kindTold_2_4 : Room := { frames := 5, cells := 0, slots := 0, locals := 68 }
def zp_kindTold_2_4  (S0 : zz_S) : Int → zz_S → Prop := fun r S => S0 = S ∧ ((-2147483648) ≤ r ∧ r ≤ 2147483647) ∧ ((r = zt_co (S0 1070 4) (zt_wl (S0 1071) (S0 1070 5) (S0 1070 3) 20) ∧ 1 ≤ r ∧ r ≤ 9) ∨ (r = -1 ∧ (zt_co (S0 1070 4) (zt_wl (S0 1071) (S0 1070 5) (S0 1070 3) 20) < 1 ∨ 9 < zt_co (S0 1070 4) (zt_wl (S0 1071) (S0 1070 5) (S0 1070 3) 20))))
theorem zb_kindTold_2_4_2 {g : mm_G} {l : Launch}  (S0 : zz_S) (n : Nat) (hn : zz_end ≤ n) (G_S0 : zz_G S0)  (x1 : Int) (S : zz_S) (G_S : zz_G S) (F_S : zz_fr [] [] (fun _ _ => False) S0 S) (i2_0 : 1 ≤ x1 ∧ x1 ≤ 10) (i2_1 : zt_co (S0 1070 4) (zt_wl (S0 1071) (S0 1070 5) (S0 1070 3) 20) < 1 ∨ x1 ≤ zt_co (S0 1070 4) (zt_wl (S0 1071) (S0 1070 5) (S0 1070 3) 20)) (R : Nat) (hR : (9 + 1 - x1).toNat = R) (k2 : ∀ (x1 : Int) (S : zz_S), zz_G S → zz_fr [] [] (fun _ _ => False) S0 S → (1 ≤ x1 ∧ x1 ≤ 10) → (zt_co (S0 1070 4) (zt_wl (S0 1071) (S0 1070 5) (S0 1070 3) 20) < 1 ∨ x1 ≤ zt_co (S0 1070 4) (zt_wl (S0 1071) (S0 1070 5) (S0 1070 3) 20)) → (9 + 1 - x1).toNat < R → zz_E g l zy_kindTold_2_4 zr_kindTold_2_4 (zz_QI n (zp_kindTold_2_4  S0)) S n 2 [some (.ref 1072), some (zi x1)] [] 0 0) : zz_E g l zy_kindTold_2_4 zr_kindTold_2_4 (zz_QI n (zp_kindTold_2_4  S0)) S n 2 [some (.ref 1072), some (zi x1)] [] 0 0 := by
  refine zz_iload_n (x := x1) rfl zd_2_4_2 ?_
  refine zz_bipush (by decide) zd_2_4_3 ?_
  refine zz_icmp_gt (by omega) (by omega) zd_2_4_5 (fun c4 => ?_) (fun c4 => ?_)
  · refine zz_iconst zd_2_4_30 ?_
    exact zz_iret zd_2_4_31 rfl (Nat.zero_le _) (Nat.zero_le _) ⟨_, _, rfl, zz_fr.eq F_S, by omega, by omega⟩
  · refine zz_aload_n (x := 1072) rfl zd_2_4_8 ?_
    refine zz_getr (kd := 0) (z := 1070) zd_2_4_9 zf_Assembler_9 zT_1072 rfl (zz_ltn hn rfl) (zz_G.eq G_S 1072 0 1070 rfl rfl) (by decide) 1070 rfl ?_
    refine zz_iload_n (x := x1) rfl zd_2_4_12 ?_
    refine zz_callSA [zi x1] zd_2_4_13 zk_Assembler_57 rfl rfl ⟨Nat.le_of_ble_eq_true rfl, Nat.le_of_ble_eq_true rfl⟩ ⟨rfl, rfl⟩ (Nat.zero_le _) (Nat.zero_le _) (zc_nameOf_12_12 x1 S n hn G_S (by omega)) (fun v6 S5 hP => ?_)
    obtain ⟨rfl, o7⟩ := hP
    obtain ⟨uv6, rfl, huv6, hkv6⟩ := o7
    have hjv6 := hkv6 (by omega) (by omega)
    have g8 := zz_G.r G_S0 1070 3 0 1500 rfl rfl
    have e9 : S 1070 3 = S0 1070 3 := (zz_rc F_S rfl rfl (fun h => h) rfl)
    have g10 := zz_G.r G_S0 1070 4 (-2147483648) 2147483647 rfl rfl
    have e11 : S 1070 4 = S0 1070 4 := (zz_rc F_S rfl rfl (fun h => h) rfl)
    have g12 := zz_G.r G_S0 1070 5 0 1500 rfl rfl
    have e13 : S 1070 5 = S0 1070 5 := (zz_rc F_S rfl rfl (fun h => h) rfl)
    refine zz_callVI [.ref (100 + uv6)] zd_2_4_16 zk_Assembler_61 zT_1070 (zz_ltn hn rfl) rfl rfl ⟨Nat.le_of_ble_eq_true rfl, Nat.le_of_ble_eq_true rfl⟩ ⟨rfl, rfl⟩ (Nat.zero_le _) (Nat.zero_le _) (zc_isWord_11_9 uv6 S n hn G_S (by omega)) (fun v15 S14 hP => ?_)
    obtain ⟨rfl, o16, o17⟩ := hP
    rw [show S 1071 = S0 1071 from funext (fun u => (zz_rc F_S (zz_nc1 rfl) rfl (fun h => h) rfl)), show S 1070 3 = S0 1070 3 from (zz_rc F_S rfl rfl (fun h => h) rfl), show S 1070 4 = S0 1070 4 from (zz_rc F_S rfl rfl (fun h => h) rfl), show S 1070 5 = S0 1070 5 from (zz_rc F_S rfl rfl (fun h => h) rfl)] at o17
    rcases (by omega : v15 = 0 ∨ v15 = 1) with rfl | rfl
    · have hw9 := zt_ISW (t := uv6) (w := x1) (by omega) (zt_Wk (by omega) (by assumption)) (by omega) o17
      refine zz_if_eq (by omega) zd_2_4_19 (fun c18 => ?_) (fun c18 => ?_)
      · refine zz_iinc [some (.ref 1072), some (zi (x1 + 1))] zd_2_4_24 rfl rfl ?_
        refine zz_goto zd_2_4_27 ?_
        refine zz_less (ls1 := [some (.ref 1072), some (zi (x1 + 1))]) ⟨rfl, ⟨rfl, trivial⟩⟩ ?_
        exact k2 (x1 + 1) S G_S F_S (by omega) (by omega) (by omega)
      · exfalso; omega
    · have hw9 := zt_ISW (t := uv6) (w := x1) (by omega) (zt_Wk (by omega) (by assumption)) (by omega) o17
      refine zz_if_eq (by omega) zd_2_4_19 (fun c19 => ?_) (fun c19 => ?_)
      · exfalso; omega
      · refine zz_iload_n (x := x1) rfl zd_2_4_22 ?_
        exact zz_iret zd_2_4_23 rfl (Nat.zero_le _) (Nat.zero_le _) ⟨_, _, rfl, zz_fr.eq F_S, by omega, by omega⟩
theorem zi_kindTold_2_4 {g : mm_G} {l : Launch}  (S0 : zz_S) (n : Nat) (hn : zz_end ≤ n) (G_S0 : zz_G S0)  : ∀ N : Nat, (∀ (x1 : Int) (S : zz_S), zz_G S → zz_fr [] [] (fun _ _ => False) S0 S → (1 ≤ x1 ∧ x1 ≤ 10) → (zt_co (S0 1070 4) (zt_wl (S0 1071) (S0 1070 5) (S0 1070 3) 20) < 1 ∨ x1 ≤ zt_co (S0 1070 4) (zt_wl (S0 1071) (S0 1070 5) (S0 1070 3) 20)) → (9 + 1 - x1).toNat < N → zz_E g l zy_kindTold_2_4 zr_kindTold_2_4 (zz_QI n (zp_kindTold_2_4  S0)) S n 2 [some (.ref 1072), some (zi x1)] [] 0 0) := by
  intro N
  induction N with
  | zero => exact fun x1 S _ _ _ _ h => absurd h (Nat.not_lt_zero _)
  | succ N ih =>
    exact fun x1 S a b j0 j1 hR => zb_kindTold_2_4_2  S0 n hn G_S0  x1 S a b j0 j1 _ rfl (fun x1 S a b j0 j1 h => ih x1 S a b j0 j1 (Nat.lt_of_lt_of_le h (Nat.le_of_lt_succ hR)))
theorem zc_kindTold_2_4 {g : mm_G} {l : Launch}  (S0 : zz_S) (n : Nat) (hn : zz_end ≤ n) (G_S0 : zz_G S0)  : mm_Met g l zy_kindTold_2_4 zr_kindTold_2_4 [.ref 1072] (zz_M S0 n) n (zz_QI n (zp_kindTold_2_4  S0)) := by
  refine zz_enter (by decide) (Nat.le_of_ble_eq_true rfl) (zz_less (ls1 := [some (.ref 1072)]) ⟨rfl, trivial⟩ ?_)
  have F_S0 : zz_fr [] [] (fun _ _ => False) S0 S0 := zz_fr.refl
  have k2 : ∀ (x1 : Int) (S : zz_S), zz_G S → zz_fr [] [] (fun _ _ => False) S0 S → (1 ≤ x1 ∧ x1 ≤ 10) → (zt_co (S0 1070 4) (zt_wl (S0 1071) (S0 1070 5) (S0 1070 3) 20) < 1 ∨ x1 ≤ zt_co (S0 1070 4) (zt_wl (S0 1071) (S0 1070 5) (S0 1070 3) 20)) → zz_E g l zy_kindTold_2_4 zr_kindTold_2_4 (zz_QI n (zp_kindTold_2_4  S0)) S n 2 [some (.ref 1072), some (zi x1)] [] 0 0 := fun x1 S a b j0 j1 => (zi_kindTold_2_4 (g := g) (l := l)  S0 n hn G_S0  _) x1 S a b j0 j1 (Nat.lt_succ_self _)
  refine zz_iconst zd_2_4_0 ?_
  refine zz_istore_n [some (.ref 1072), some (zi 1)] zd_2_4_1 (by decide) rfl ?_
  have g1 := zz_G.r G_S0 1070 3 0 1500 rfl rfl
  have g2 := zz_G.r G_S0 1070 4 (-2147483648) 2147483647 rfl rfl
  have g3 := zz_G.r G_S0 1070 5 0 1500 rfl rfl
  refine zz_less (ls1 := [some (.ref 1072), some (zi 1)]) ⟨rfl, ⟨rfl, trivial⟩⟩ ?_
  exact k2 1 S0 G_S0 F_S0 (by omega) (by omega)
theorem zk_Assembler_44 : mm_Vl "TensorForge$Assembler" 44 7 0 zy_kindTold_2_4 := ⟨zyw_kindTold_2_4, (R_Assembler, F_Assembler, 4), rfl, mm_tb_1 577 (by decide +kernel) rfl, mm_tb_1 579 (by decide +kernel) rfl, mm_tb_s 8 (by decide +kernel) rfl⟩
abbrev zy_bits_12_4 : mm_Y := (⟨"TensorForge$Words", "bits", "(II)J"⟩, prog_12_method_4_code, 2, (some .long))
theorem zyw_bits_12_4 : mm_Yw zy_bits_12_4 2 := ⟨mm_tb_1 648 (by decide +kernel) rfl, mm_tb_1 20 (by decide +kernel) rfl, ⟨by decide, by decide⟩, by decide +kernel⟩
theorem zg_2_3_4 : zq_at zy_readInstruction_2_3.2.1 4 60 ∧ zq_at zy_readInstruction_2_3.2.1 5 27 ∧ zq_at zy_readInstruction_2_3.2.1 6 2 ∧ zq_at zy_readInstruction_2_3.2.1 7 160 ∧ zq_at zy_readInstruction_2_3.2.1 8 0 ∧ zq_at zy_readInstruction_2_3.2.1 9 5 ∧ zq_at zy_readInstruction_2_3.2.1 12 42 ∧ zq_at zy_readInstruction_2_3.2.1 13 3 ∧ zq_at zy_readInstruction_2_3.2.1 14 27 ∧ zq_at zy_readInstruction_2_3.2.1 15 184 ∧ zq_at zy_readInstruction_2_3.2.1 16 0 ∧ zq_at zy_readInstruction_2_3.2.1 17 50 := by decide +kernel
theorem zd_2_3_4 : zz_D zy_readInstruction_2_3 4 (.istore_n 1) 1 5 := ⟨zq_60 zg_2_3_4.1, rfl⟩
theorem zd_2_3_5 : zz_D zy_readInstruction_2_3 5 (.iload_n 1) 1 6 := ⟨zq_27 zg_2_3_4.2.1, rfl⟩
theorem zd_2_3_6 : zz_D zy_readInstruction_2_3 6 (.iconst (-1)) 1 7 := ⟨zq_2 zg_2_3_4.2.2.1, rfl⟩
theorem zd_2_3_7 : zz_B zy_readInstruction_2_3 7 (Instr.if_icmp .ne) 12 10 := ⟨5, zq_160 zg_2_3_4.2.2.2.1 zg_2_3_4.2.2.2.2.1 zg_2_3_4.2.2.2.2.2.1 (by decide), rfl, rfl⟩
theorem zd_2_3_12 : zz_D zy_readInstruction_2_3 12 (.aload_n 0) 1 13 := ⟨zq_42 zg_2_3_4.2.2.2.2.2.2.1, rfl⟩
theorem zd_2_3_13 : zz_D zy_readInstruction_2_3 13 (.iconst 0) 1 14 := ⟨zq_3 zg_2_3_4.2.2.2.2.2.2.2.1, rfl⟩
theorem zd_2_3_14 : zz_D zy_readInstruction_2_3 14 (.iload_n 1) 1 15 := ⟨zq_27 zg_2_3_4.2.2.2.2.2.2.2.2.1, rfl⟩
theorem zd_2_3_15 : zz_D zy_readInstruction_2_3 15 (.invokestatic 50) 3 18 := ⟨zq_184 zg_2_3_4.2.2.2.2.2.2.2.2.2.1 zg_2_3_4.2.2.2.2.2.2.2.2.2.2.1 zg_2_3_4.2.2.2.2.2.2.2.2.2.2.2 rfl, rfl⟩
theorem zg_12_4_0 : zq_at zy_bits_12_4.2.1 0 26 ∧ zq_at zy_bits_12_4.2.1 1 155 ∧ zq_at zy_bits_12_4.2.1 2 0 ∧ zq_at zy_bits_12_4.2.1 3 9 ∧ zq_at zy_bits_12_4.2.1 10 9 ∧ zq_at zy_bits_12_4.2.1 11 173 ∧ zq_at zy_bits_12_4.2.1 4 26 ∧ zq_at zy_bits_12_4.2.1 5 16 ∧ zq_at zy_bits_12_4.2.1 6 12 ∧ zq_at zy_bits_12_4.2.1 7 161 ∧ zq_at zy_bits_12_4.2.1 8 0 ∧ zq_at zy_bits_12_4.2.1 9 5 ∧ zq_at zy_bits_12_4.2.1 12 27 ∧ zq_at zy_bits_12_4.2.1 13 178 ∧ zq_at zy_bits_12_4.2.1 14 0 ∧ zq_at zy_bits_12_4.2.1 15 13 ∧ zq_at zy_bits_12_4.2.1 16 26 ∧ zq_at zy_bits_12_4.2.1 17 46 ∧ zq_at zy_bits_12_4.2.1 18 126 ∧ zq_at zy_bits_12_4.2.1 19 133 ∧ zq_at zy_bits_12_4.2.1 20 178 ∧ zq_at zy_bits_12_4.2.1 21 0 ∧ zq_at zy_bits_12_4.2.1 22 9 ∧ zq_at zy_bits_12_4.2.1 23 26 := by decide +kernel
theorem zd_12_4_0 : zz_D zy_bits_12_4 0 (.iload_n 0) 1 1 := ⟨zq_26 zg_12_4_0.1, rfl⟩
theorem zd_12_4_1 : zz_B zy_bits_12_4 1 (Instr.ifCond .lt) 10 4 := ⟨9, zq_155 zg_12_4_0.2.1 zg_12_4_0.2.2.1 zg_12_4_0.2.2.2.1 (by decide), rfl, rfl⟩
theorem zd_12_4_10 : zz_D zy_bits_12_4 10 (.lconst 0) 1 11 := ⟨zq_9 zg_12_4_0.2.2.2.2.1, rfl⟩
theorem zd_12_4_11 : zz_D zy_bits_12_4 11 (.lreturn) 1 12 := ⟨zq_173 zg_12_4_0.2.2.2.2.2.1, rfl⟩
theorem zd_12_4_4 : zz_D zy_bits_12_4 4 (.iload_n 0) 1 5 := ⟨zq_26 zg_12_4_0.2.2.2.2.2.2.1, rfl⟩
theorem zd_12_4_5 : zz_D zy_bits_12_4 5 (.bipush 12) 2 7 := ⟨zq_16 zg_12_4_0.2.2.2.2.2.2.2.1 zg_12_4_0.2.2.2.2.2.2.2.2.1 (by decide), rfl⟩
theorem zd_12_4_7 : zz_B zy_bits_12_4 7 (Instr.if_icmp .lt) 12 10 := ⟨5, zq_161 zg_12_4_0.2.2.2.2.2.2.2.2.2.1 zg_12_4_0.2.2.2.2.2.2.2.2.2.2.1 zg_12_4_0.2.2.2.2.2.2.2.2.2.2.2.1 (by decide), rfl, rfl⟩
theorem zd_12_4_12 : zz_D zy_bits_12_4 12 (.iload_n 1) 1 13 := ⟨zq_27 zg_12_4_0.2.2.2.2.2.2.2.2.2.2.2.2.1, rfl⟩
theorem zd_12_4_13 : zz_D zy_bits_12_4 13 (.getstatic 13) 3 16 := ⟨zq_178 zg_12_4_0.2.2.2.2.2.2.2.2.2.2.2.2.2.1 zg_12_4_0.2.2.2.2.2.2.2.2.2.2.2.2.2.2.1 zg_12_4_0.2.2.2.2.2.2.2.2.2.2.2.2.2.2.2.1 rfl, rfl⟩
theorem zd_12_4_16 : zz_D zy_bits_12_4 16 (.iload_n 0) 1 17 := ⟨zq_26 zg_12_4_0.2.2.2.2.2.2.2.2.2.2.2.2.2.2.2.2.1, rfl⟩
theorem zd_12_4_17 : zz_D zy_bits_12_4 17 (.iaload) 1 18 := ⟨zq_46 zg_12_4_0.2.2.2.2.2.2.2.2.2.2.2.2.2.2.2.2.2.1, rfl⟩
theorem zd_12_4_18 : zz_D zy_bits_12_4 18 (.iand) 1 19 := ⟨zq_126 zg_12_4_0.2.2.2.2.2.2.2.2.2.2.2.2.2.2.2.2.2.2.1, rfl⟩
theorem zd_12_4_19 : zz_D zy_bits_12_4 19 (.i2l) 1 20 := ⟨zq_133 zg_12_4_0.2.2.2.2.2.2.2.2.2.2.2.2.2.2.2.2.2.2.2.1, rfl⟩
theorem zd_12_4_20 : zz_D zy_bits_12_4 20 (.getstatic 9) 3 23 := ⟨zq_178 zg_12_4_0.2.2.2.2.2.2.2.2.2.2.2.2.2.2.2.2.2.2.2.2.1 zg_12_4_0.2.2.2.2.2.2.2.2.2.2.2.2.2.2.2.2.2.2.2.2.2.1 zg_12_4_0.2.2.2.2.2.2.2.2.2.2.2.2.2.2.2.2.2.2.2.2.2.2.1 rfl, rfl⟩
theorem zd_12_4_23 : zz_D zy_bits_12_4 23 (.iload_n 0) 1 24 := ⟨zq_26 zg_12_4_0.2.2.2.2.2.2.2.2.2.2.2.2.2.2.2.2.2.2.2.2.2.2.2, rfl⟩
theorem zg_12_4_24 : zq_at zy_bits_12_4.2.1 24 46 ∧ zq_at zy_bits_12_4.2.1 25 121 ∧ zq_at zy_bits_12_4.2.1 26 173 := by decide +kernel
theorem zd_12_4_24 : zz_D zy_bits_12_4 24 (.iaload) 1 25 := ⟨zq_46 zg_12_4_24.1, rfl⟩
theorem zd_12_4_25 : zz_D zy_bits_12_4 25 (.lshl) 1 26 := ⟨zq_121 zg_12_4_24.2.1, rfl⟩
theorem zd_12_4_26 : zz_D zy_bits_12_4 26 (.lreturn) 1 27 := ⟨zq_173 zg_12_4_24.2.2, rfl⟩
-- TensorForge$Words bits (II)J
abbrev zr_bits_12_4 : Room := { frames := 0, cells := 0, slots := 0, locals := 0 }
def zp_bits_12_4 (p0 : Int) (p1 : Int) (S0 : zz_S) : Int → zz_S → Prop := fun r S => S0 = S ∧ ((-9223372036854775808) ≤ r ∧ r ≤ 9223372036854775807)
theorem zc_bits_12_4 {g : mm_G} {l : Launch} (p0 : Int) (p1 : Int) (S0 : zz_S) (n : Nat) (hn : zz_end ≤ n) (G_S0 : zz_G S0) (hp0 : (-2147483648) ≤ p0 ∧ p0 ≤ 2147483647) (hp1 : (-2147483648) ≤ p1 ∧ p1 ≤ 2147483647) : mm_Met g l zy_bits_12_4 zr_bits_12_4 [zi p0, zi p1] (zz_M S0 n) n (zz_QJ n (zp_bits_12_4 p0 p1 S0)) := by
  refine zz_enter (by decide) (Nat.le_of_ble_eq_true rfl) (zz_less (ls1 := [some (zi p0), some (zi p1)]) ⟨rfl, ⟨rfl, trivial⟩⟩ ?_)
  refine zz_iload_n (x := p0) rfl zd_12_4_0 ?_
  refine zz_if_lt (by omega) zd_12_4_1 (fun c1 => ?_) (fun c1 => ?_)
  · refine zz_lconst (z := 0) (by decide) zd_12_4_10 ?_
    exact zz_lret zd_12_4_11 rfl (Nat.zero_le _) (Nat.zero_le _) ⟨_, _, rfl, rfl, by omega⟩
  · refine zz_iload_n (x := p0) rfl zd_12_4_4 ?_
    refine zz_bipush (by decide) zd_12_4_5 ?_
    refine zz_icmp_lt (by omega) (by omega) zd_12_4_7 (fun c2 => ?_) (fun c2 => ?_)
    · refine zz_iload_n (x := p1) rfl zd_12_4_12 ?_
      refine zz_gets (q0 := 2) zd_12_4_13 rfl (by decide) zs_Words_13 ?_
      refine zz_iload_n (x := p0) rfl zd_12_4_16 ?_
      obtain ⟨v3, hv3, tv3⟩ := zz_sta2 (i := p0) (by omega)
      refine zz_tiald (N := 12) v3 zd_12_4_17 rfl (by decide) rfl (by decide) (by omega) tv3 ?_
      refine zz_iand (by omega) (by omega) zd_12_4_18 (fun v4 hv4 av4 bv4 ev4 => ?_)
      refine zz_i2l (by omega) zd_12_4_19 ?_
      refine zz_gets (q0 := 1) zd_12_4_20 rfl (by decide) zs_Words_9 ?_
      refine zz_iload_n (x := p0) rfl zd_12_4_23 ?_
      obtain ⟨v5, hv5, tv5⟩ := zz_sta1 (i := p0) (by omega)
      refine zz_tiald (N := 12) v5 zd_12_4_24 rfl (by decide) rfl (by decide) (by omega) tv5 ?_
      refine zz_lshl zd_12_4_25 (fun v6 hv6 ev6 => ?_)
      exact zz_lret zd_12_4_26 rfl (Nat.zero_le _) (Nat.zero_le _) ⟨_, _, rfl, rfl, by omega⟩
    · refine zz_lconst (z := 0) (by decide) zd_12_4_10 ?_
      exact zz_lret zd_12_4_11 rfl (Nat.zero_le _) (Nat.zero_le _) ⟨_, _, rfl, rfl, by omega⟩
theorem zk_Assembler_50 : mm_Sl "TensorForge$Assembler" 50 2 zy_bits_12_4 := ⟨zyw_bits_12_4, mm_tb_1 646 (by decide +kernel) rfl, mm_tb_1 647 (by decide +kernel) rfl⟩
abbrev zy_readPart_2_5 : mm_Y := (⟨"TensorForge$Assembler", "readPart", "()Z"⟩, prog_2_method_5_code, 1, (some .boolean))
theorem zyw_readPart_2_5 : mm_Yw zy_readPart_2_5 0 := ⟨mm_tb_1 652 (by decide +kernel) rfl, mm_tb_1 8 (by decide +kernel) rfl, ⟨by decide, by decide⟩, by decide +kernel⟩
abbrev zy_readNeighbour_2_7 : mm_Y := (⟨"TensorForge$Assembler", "readNeighbour", "(II)Z"⟩, prog_2_method_7_code, 3, (some .boolean))
theorem zyw_readNeighbour_2_7 : mm_Yw zy_readNeighbour_2_7 2 := ⟨mm_tb_1 685 (by decide +kernel) rfl, mm_tb_1 8 (by decide +kernel) rfl, ⟨by decide, by decide⟩, by decide +kernel⟩
abbrev zy_nextIsWord_11_10 : mm_Y := (⟨"TensorForge$Text", "nextIsWord", "(Ljava/lang/String;)Z"⟩, prog_11_method_10_code, 2, (some .boolean))
theorem zyw_nextIsWord_11_10 : mm_Yw zy_nextIsWord_11_10 1 := ⟨mm_tb_1 675 (by decide +kernel) rfl, mm_tb_1 7 (by decide +kernel) rfl, ⟨by decide, by decide⟩, by decide +kernel⟩
theorem zk_Text_47 : mm_Vl "TensorForge$Text" 47 6 0 zy_nextToken_11_7 := ⟨zyw_nextToken_11_7, (R_Text, F_Text, 7), rfl, mm_tb_1 662 (by decide +kernel) rfl, mm_tb_1 570 (by decide +kernel) rfl, mm_tb_1 571 (by decide +kernel) rfl⟩
theorem zk_Text_50 : mm_Vl "TensorForge$Text" 50 6 1 zy_isWord_11_9 := ⟨zyw_isWord_11_9, (R_Text, F_Text, 7), rfl, mm_tb_1 676 (by decide +kernel) rfl, mm_tb_1 595 (by decide +kernel) rfl, mm_tb_1 596 (by decide +kernel) rfl⟩
theorem zg_2_3_18 : zq_at zy_readInstruction_2_3.2.1 18 181 ∧ zq_at zy_readInstruction_2_3.2.1 19 0 ∧ zq_at zy_readInstruction_2_3.2.1 20 19 ∧ zq_at zy_readInstruction_2_3.2.1 21 42 ∧ zq_at zy_readInstruction_2_3.2.1 22 3 ∧ zq_at zy_readInstruction_2_3.2.1 23 181 ∧ zq_at zy_readInstruction_2_3.2.1 24 0 ∧ zq_at zy_readInstruction_2_3.2.1 25 23 ∧ zq_at zy_readInstruction_2_3.2.1 26 3 ∧ zq_at zy_readInstruction_2_3.2.1 27 61 ∧ zq_at zy_readInstruction_2_3.2.1 10 3 ∧ zq_at zy_readInstruction_2_3.2.1 11 172 ∧ zq_at zy_readInstruction_2_3.2.1 28 28 ∧ zq_at zy_readInstruction_2_3.2.1 29 17 ∧ zq_at zy_readInstruction_2_3.2.1 30 5 ∧ zq_at zy_readInstruction_2_3.2.1 31 220 ∧ zq_at zy_readInstruction_2_3.2.1 32 163 ∧ zq_at zy_readInstruction_2_3.2.1 33 0 ∧ zq_at zy_readInstruction_2_3.2.1 34 37 ∧ zq_at zy_readInstruction_2_3.2.1 69 3 ∧ zq_at zy_readInstruction_2_3.2.1 70 172 ∧ zq_at zy_readInstruction_2_3.2.1 35 42 := by decide +kernel
theorem zd_2_3_18 : zz_D zy_readInstruction_2_3 18 (.putfield 19) 3 21 := ⟨zq_181 zg_2_3_18.1 zg_2_3_18.2.1 zg_2_3_18.2.2.1 rfl, rfl⟩
theorem zd_2_3_21 : zz_D zy_readInstruction_2_3 21 (.aload_n 0) 1 22 := ⟨zq_42 zg_2_3_18.2.2.2.1, rfl⟩
theorem zd_2_3_22 : zz_D zy_readInstruction_2_3 22 (.iconst 0) 1 23 := ⟨zq_3 zg_2_3_18.2.2.2.2.1, rfl⟩
theorem zd_2_3_23 : zz_D zy_readInstruction_2_3 23 (.putfield 23) 3 26 := ⟨zq_181 zg_2_3_18.2.2.2.2.2.1 zg_2_3_18.2.2.2.2.2.2.1 zg_2_3_18.2.2.2.2.2.2.2.1 rfl, rfl⟩
theorem zd_2_3_26 : zz_D zy_readInstruction_2_3 26 (.iconst 0) 1 27 := ⟨zq_3 zg_2_3_18.2.2.2.2.2.2.2.2.1, rfl⟩
theorem zd_2_3_27 : zz_D zy_readInstruction_2_3 27 (.istore_n 2) 1 28 := ⟨zq_61 zg_2_3_18.2.2.2.2.2.2.2.2.2.1, rfl⟩
theorem zd_2_3_10 : zz_D zy_readInstruction_2_3 10 (.iconst 0) 1 11 := ⟨zq_3 zg_2_3_18.2.2.2.2.2.2.2.2.2.2.1, rfl⟩
theorem zd_2_3_11 : zz_D zy_readInstruction_2_3 11 (.ireturn) 1 12 := ⟨zq_172 zg_2_3_18.2.2.2.2.2.2.2.2.2.2.2.1, rfl⟩
theorem zd_2_3_28 : zz_D zy_readInstruction_2_3 28 (.iload_n 2) 1 29 := ⟨zq_28 zg_2_3_18.2.2.2.2.2.2.2.2.2.2.2.2.1, rfl⟩
theorem zd_2_3_29 : zz_D zy_readInstruction_2_3 29 (.sipush 1500) 3 32 := ⟨zq_17 zg_2_3_18.2.2.2.2.2.2.2.2.2.2.2.2.2.1 zg_2_3_18.2.2.2.2.2.2.2.2.2.2.2.2.2.2.1 zg_2_3_18.2.2.2.2.2.2.2.2.2.2.2.2.2.2.2.1 (by decide), rfl⟩
theorem zd_2_3_32 : zz_B zy_readInstruction_2_3 32 (Instr.if_icmp .gt) 69 35 := ⟨37, zq_163 zg_2_3_18.2.2.2.2.2.2.2.2.2.2.2.2.2.2.2.2.1 zg_2_3_18.2.2.2.2.2.2.2.2.2.2.2.2.2.2.2.2.2.1 zg_2_3_18.2.2.2.2.2.2.2.2.2.2.2.2.2.2.2.2.2.2.1 (by decide), rfl, rfl⟩
theorem zd_2_3_69 : zz_D zy_readInstruction_2_3 69 (.iconst 0) 1 70 := ⟨zq_3 zg_2_3_18.2.2.2.2.2.2.2.2.2.2.2.2.2.2.2.2.2.2.2.1, rfl⟩
theorem zd_2_3_70 : zz_D zy_readInstruction_2_3 70 (.ireturn) 1 71 := ⟨zq_172 zg_2_3_18.2.2.2.2.2.2.2.2.2.2.2.2.2.2.2.2.2.2.2.2.1, rfl⟩
theorem zd_2_3_35 : zz_D zy_readInstruction_2_3 35 (.aload_n 0) 1 36 := ⟨zq_42 zg_2_3_18.2.2.2.2.2.2.2.2.2.2.2.2.2.2.2.2.2.2.2.2.2, rfl⟩
theorem zg_2_3_36 : zq_at zy_readInstruction_2_3.2.1 36 180 ∧ zq_at zy_readInstruction_2_3.2.1 37 0 ∧ zq_at zy_readInstruction_2_3.2.1 38 9 ∧ zq_at zy_readInstruction_2_3.2.1 39 182 ∧ zq_at zy_readInstruction_2_3.2.1 40 0 ∧ zq_at zy_readInstruction_2_3.2.1 41 35 ∧ zq_at zy_readInstruction_2_3.2.1 42 42 ∧ zq_at zy_readInstruction_2_3.2.1 43 180 ∧ zq_at zy_readInstruction_2_3.2.1 44 0 ∧ zq_at zy_readInstruction_2_3.2.1 45 9 ∧ zq_at zy_readInstruction_2_3.2.1 46 180 ∧ zq_at zy_readInstruction_2_3.2.1 47 0 ∧ zq_at zy_readInstruction_2_3.2.1 48 38 ∧ zq_at zy_readInstruction_2_3.2.1 49 154 ∧ zq_at zy_readInstruction_2_3.2.1 50 0 ∧ zq_at zy_readInstruction_2_3.2.1 51 5 ∧ zq_at zy_readInstruction_2_3.2.1 54 42 ∧ zq_at zy_readInstruction_2_3.2.1 55 182 ∧ zq_at zy_readInstruction_2_3.2.1 56 0 ∧ zq_at zy_readInstruction_2_3.2.1 57 54 := by decide +kernel
theorem zd_2_3_36 : zz_D zy_readInstruction_2_3 36 (.getfield 9) 3 39 := ⟨zq_180 zg_2_3_36.1 zg_2_3_36.2.1 zg_2_3_36.2.2.1 rfl, rfl⟩
theorem zd_2_3_39 : zz_D zy_readInstruction_2_3 39 (.invokevirtual 35) 3 42 := ⟨zq_182 zg_2_3_36.2.2.2.1 zg_2_3_36.2.2.2.2.1 zg_2_3_36.2.2.2.2.2.1 rfl, rfl⟩
theorem zd_2_3_42 : zz_D zy_readInstruction_2_3 42 (.aload_n 0) 1 43 := ⟨zq_42 zg_2_3_36.2.2.2.2.2.2.1, rfl⟩
theorem zd_2_3_43 : zz_D zy_readInstruction_2_3 43 (.getfield 9) 3 46 := ⟨zq_180 zg_2_3_36.2.2.2.2.2.2.2.1 zg_2_3_36.2.2.2.2.2.2.2.2.1 zg_2_3_36.2.2.2.2.2.2.2.2.2.1 rfl, rfl⟩
theorem zd_2_3_46 : zz_D zy_readInstruction_2_3 46 (.getfield 38) 3 49 := ⟨zq_180 zg_2_3_36.2.2.2.2.2.2.2.2.2.2.1 zg_2_3_36.2.2.2.2.2.2.2.2.2.2.2.1 zg_2_3_36.2.2.2.2.2.2.2.2.2.2.2.2.1 rfl, rfl⟩
theorem zd_2_3_49 : zz_B zy_readInstruction_2_3 49 (Instr.ifCond .ne) 54 52 := ⟨5, zq_154 zg_2_3_36.2.2.2.2.2.2.2.2.2.2.2.2.2.1 zg_2_3_36.2.2.2.2.2.2.2.2.2.2.2.2.2.2.1 zg_2_3_36.2.2.2.2.2.2.2.2.2.2.2.2.2.2.2.1 (by decide), rfl, rfl⟩
theorem zd_2_3_54 : zz_D zy_readInstruction_2_3 54 (.aload_n 0) 1 55 := ⟨zq_42 zg_2_3_36.2.2.2.2.2.2.2.2.2.2.2.2.2.2.2.2.1, rfl⟩
theorem zd_2_3_55 : zz_D zy_readInstruction_2_3 55 (.invokevirtual 54) 3 58 := ⟨zq_182 zg_2_3_36.2.2.2.2.2.2.2.2.2.2.2.2.2.2.2.2.2.1 zg_2_3_36.2.2.2.2.2.2.2.2.2.2.2.2.2.2.2.2.2.2.1 zg_2_3_36.2.2.2.2.2.2.2.2.2.2.2.2.2.2.2.2.2.2.2 rfl, rfl⟩
theorem zg_2_5_0 : zq_at zy_readPart_2_5.2.1 0 42 ∧ zq_at zy_readPart_2_5.2.1 1 180 ∧ zq_at zy_readPart_2_5.2.1 2 0 ∧ zq_at zy_readPart_2_5.2.1 3 9 ∧ zq_at zy_readPart_2_5.2.1 4 18 ∧ zq_at zy_readPart_2_5.2.1 5 65 ∧ zq_at zy_readPart_2_5.2.1 6 182 ∧ zq_at zy_readPart_2_5.2.1 7 0 ∧ zq_at zy_readPart_2_5.2.1 8 61 ∧ zq_at zy_readPart_2_5.2.1 9 153 ∧ zq_at zy_readPart_2_5.2.1 10 0 ∧ zq_at zy_readPart_2_5.2.1 11 9 ∧ zq_at zy_readPart_2_5.2.1 18 42 ∧ zq_at zy_readPart_2_5.2.1 19 180 ∧ zq_at zy_readPart_2_5.2.1 20 0 ∧ zq_at zy_readPart_2_5.2.1 21 9 ∧ zq_at zy_readPart_2_5.2.1 22 18 ∧ zq_at zy_readPart_2_5.2.1 23 71 ∧ zq_at zy_readPart_2_5.2.1 24 182 ∧ zq_at zy_readPart_2_5.2.1 25 0 ∧ zq_at zy_readPart_2_5.2.1 26 61 ∧ zq_at zy_readPart_2_5.2.1 27 153 ∧ zq_at zy_readPart_2_5.2.1 28 0 ∧ zq_at zy_readPart_2_5.2.1 29 39 := by decide +kernel
theorem zd_2_5_0 : zz_D zy_readPart_2_5 0 (.aload_n 0) 1 1 := ⟨zq_42 zg_2_5_0.1, rfl⟩
theorem zd_2_5_1 : zz_D zy_readPart_2_5 1 (.getfield 9) 3 4 := ⟨zq_180 zg_2_5_0.2.1 zg_2_5_0.2.2.1 zg_2_5_0.2.2.2.1 rfl, rfl⟩
theorem zd_2_5_4 : zz_D zy_readPart_2_5 4 (.ldc 65) 2 6 := ⟨zq_18 zg_2_5_0.2.2.2.2.1 zg_2_5_0.2.2.2.2.2.1, rfl⟩
theorem zd_2_5_6 : zz_D zy_readPart_2_5 6 (.invokevirtual 61) 3 9 := ⟨zq_182 zg_2_5_0.2.2.2.2.2.2.1 zg_2_5_0.2.2.2.2.2.2.2.1 zg_2_5_0.2.2.2.2.2.2.2.2.1 rfl, rfl⟩
theorem zd_2_5_9 : zz_B zy_readPart_2_5 9 (Instr.ifCond .eq) 18 12 := ⟨9, zq_153 zg_2_5_0.2.2.2.2.2.2.2.2.2.1 zg_2_5_0.2.2.2.2.2.2.2.2.2.2.1 zg_2_5_0.2.2.2.2.2.2.2.2.2.2.2.1 (by decide), rfl, rfl⟩
theorem zd_2_5_18 : zz_D zy_readPart_2_5 18 (.aload_n 0) 1 19 := ⟨zq_42 zg_2_5_0.2.2.2.2.2.2.2.2.2.2.2.2.1, rfl⟩
theorem zd_2_5_19 : zz_D zy_readPart_2_5 19 (.getfield 9) 3 22 := ⟨zq_180 zg_2_5_0.2.2.2.2.2.2.2.2.2.2.2.2.2.1 zg_2_5_0.2.2.2.2.2.2.2.2.2.2.2.2.2.2.1 zg_2_5_0.2.2.2.2.2.2.2.2.2.2.2.2.2.2.2.1 rfl, rfl⟩
theorem zd_2_5_22 : zz_D zy_readPart_2_5 22 (.ldc 71) 2 24 := ⟨zq_18 zg_2_5_0.2.2.2.2.2.2.2.2.2.2.2.2.2.2.2.2.1 zg_2_5_0.2.2.2.2.2.2.2.2.2.2.2.2.2.2.2.2.2.1, rfl⟩
theorem zd_2_5_24 : zz_D zy_readPart_2_5 24 (.invokevirtual 61) 3 27 := ⟨zq_182 zg_2_5_0.2.2.2.2.2.2.2.2.2.2.2.2.2.2.2.2.2.2.1 zg_2_5_0.2.2.2.2.2.2.2.2.2.2.2.2.2.2.2.2.2.2.2.1 zg_2_5_0.2.2.2.2.2.2.2.2.2.2.2.2.2.2.2.2.2.2.2.2.1 rfl, rfl⟩
theorem zd_2_5_27 : zz_B zy_readPart_2_5 27 (Instr.ifCond .eq) 66 30 := ⟨39, zq_153 zg_2_5_0.2.2.2.2.2.2.2.2.2.2.2.2.2.2.2.2.2.2.2.2.2.1 zg_2_5_0.2.2.2.2.2.2.2.2.2.2.2.2.2.2.2.2.2.2.2.2.2.2.1 zg_2_5_0.2.2.2.2.2.2.2.2.2.2.2.2.2.2.2.2.2.2.2.2.2.2.2 (by decide), rfl, rfl⟩
theorem zg_2_5_66 : zq_at zy_readPart_2_5.2.1 66 42 ∧ zq_at zy_readPart_2_5.2.1 67 180 ∧ zq_at zy_readPart_2_5.2.1 68 0 ∧ zq_at zy_readPart_2_5.2.1 69 9 ∧ zq_at zy_readPart_2_5.2.1 70 18 ∧ zq_at zy_readPart_2_5.2.1 71 78 ∧ zq_at zy_readPart_2_5.2.1 72 182 ∧ zq_at zy_readPart_2_5.2.1 73 0 ∧ zq_at zy_readPart_2_5.2.1 74 61 ∧ zq_at zy_readPart_2_5.2.1 75 153 ∧ zq_at zy_readPart_2_5.2.1 76 0 ∧ zq_at zy_readPart_2_5.2.1 77 10 ∧ zq_at zy_readPart_2_5.2.1 85 42 ∧ zq_at zy_readPart_2_5.2.1 86 180 ∧ zq_at zy_readPart_2_5.2.1 87 0 ∧ zq_at zy_readPart_2_5.2.1 88 9 ∧ zq_at zy_readPart_2_5.2.1 89 18 ∧ zq_at zy_readPart_2_5.2.1 90 80 ∧ zq_at zy_readPart_2_5.2.1 91 182 ∧ zq_at zy_readPart_2_5.2.1 92 0 ∧ zq_at zy_readPart_2_5.2.1 93 61 ∧ zq_at zy_readPart_2_5.2.1 94 153 ∧ zq_at zy_readPart_2_5.2.1 95 0 ∧ zq_at zy_readPart_2_5.2.1 96 10 := by decide +kernel
theorem zd_2_5_66 : zz_D zy_readPart_2_5 66 (.aload_n 0) 1 67 := ⟨zq_42 zg_2_5_66.1, rfl⟩
theorem zd_2_5_67 : zz_D zy_readPart_2_5 67 (.getfield 9) 3 70 := ⟨zq_180 zg_2_5_66.2.1 zg_2_5_66.2.2.1 zg_2_5_66.2.2.2.1 rfl, rfl⟩
theorem zd_2_5_70 : zz_D zy_readPart_2_5 70 (.ldc 78) 2 72 := ⟨zq_18 zg_2_5_66.2.2.2.2.1 zg_2_5_66.2.2.2.2.2.1, rfl⟩
theorem zd_2_5_72 : zz_D zy_readPart_2_5 72 (.invokevirtual 61) 3 75 := ⟨zq_182 zg_2_5_66.2.2.2.2.2.2.1 zg_2_5_66.2.2.2.2.2.2.2.1 zg_2_5_66.2.2.2.2.2.2.2.2.1 rfl, rfl⟩
theorem zd_2_5_75 : zz_B zy_readPart_2_5 75 (Instr.ifCond .eq) 85 78 := ⟨10, zq_153 zg_2_5_66.2.2.2.2.2.2.2.2.2.1 zg_2_5_66.2.2.2.2.2.2.2.2.2.2.1 zg_2_5_66.2.2.2.2.2.2.2.2.2.2.2.1 (by decide), rfl, rfl⟩
theorem zd_2_5_85 : zz_D zy_readPart_2_5 85 (.aload_n 0) 1 86 := ⟨zq_42 zg_2_5_66.2.2.2.2.2.2.2.2.2.2.2.2.1, rfl⟩
theorem zd_2_5_86 : zz_D zy_readPart_2_5 86 (.getfield 9) 3 89 := ⟨zq_180 zg_2_5_66.2.2.2.2.2.2.2.2.2.2.2.2.2.1 zg_2_5_66.2.2.2.2.2.2.2.2.2.2.2.2.2.2.1 zg_2_5_66.2.2.2.2.2.2.2.2.2.2.2.2.2.2.2.1 rfl, rfl⟩
theorem zd_2_5_89 : zz_D zy_readPart_2_5 89 (.ldc 80) 2 91 := ⟨zq_18 zg_2_5_66.2.2.2.2.2.2.2.2.2.2.2.2.2.2.2.2.1 zg_2_5_66.2.2.2.2.2.2.2.2.2.2.2.2.2.2.2.2.2.1, rfl⟩
theorem zd_2_5_91 : zz_D zy_readPart_2_5 91 (.invokevirtual 61) 3 94 := ⟨zq_182 zg_2_5_66.2.2.2.2.2.2.2.2.2.2.2.2.2.2.2.2.2.2.1 zg_2_5_66.2.2.2.2.2.2.2.2.2.2.2.2.2.2.2.2.2.2.2.1 zg_2_5_66.2.2.2.2.2.2.2.2.2.2.2.2.2.2.2.2.2.2.2.2.1 rfl, rfl⟩
theorem zd_2_5_94 : zz_B zy_readPart_2_5 94 (Instr.ifCond .eq) 104 97 := ⟨10, zq_153 zg_2_5_66.2.2.2.2.2.2.2.2.2.2.2.2.2.2.2.2.2.2.2.2.2.1 zg_2_5_66.2.2.2.2.2.2.2.2.2.2.2.2.2.2.2.2.2.2.2.2.2.2.1 zg_2_5_66.2.2.2.2.2.2.2.2.2.2.2.2.2.2.2.2.2.2.2.2.2.2.2 (by decide), rfl, rfl⟩
theorem zg_2_5_104 : zq_at zy_readPart_2_5.2.1 104 42 ∧ zq_at zy_readPart_2_5.2.1 105 180 ∧ zq_at zy_readPart_2_5.2.1 106 0 ∧ zq_at zy_readPart_2_5.2.1 107 9 ∧ zq_at zy_readPart_2_5.2.1 108 18 ∧ zq_at zy_readPart_2_5.2.1 109 82 ∧ zq_at zy_readPart_2_5.2.1 110 182 ∧ zq_at zy_readPart_2_5.2.1 111 0 ∧ zq_at zy_readPart_2_5.2.1 112 61 ∧ zq_at zy_readPart_2_5.2.1 113 153 ∧ zq_at zy_readPart_2_5.2.1 114 0 ∧ zq_at zy_readPart_2_5.2.1 115 10 ∧ zq_at zy_readPart_2_5.2.1 123 42 ∧ zq_at zy_readPart_2_5.2.1 124 180 ∧ zq_at zy_readPart_2_5.2.1 125 0 ∧ zq_at zy_readPart_2_5.2.1 126 9 ∧ zq_at zy_readPart_2_5.2.1 127 18 ∧ zq_at zy_readPart_2_5.2.1 128 84 ∧ zq_at zy_readPart_2_5.2.1 129 182 ∧ zq_at zy_readPart_2_5.2.1 130 0 ∧ zq_at zy_readPart_2_5.2.1 131 61 ∧ zq_at zy_readPart_2_5.2.1 132 153 ∧ zq_at zy_readPart_2_5.2.1 133 0 ∧ zq_at zy_readPart_2_5.2.1 134 10 := by decide +kernel
theorem zd_2_5_104 : zz_D zy_readPart_2_5 104 (.aload_n 0) 1 105 := ⟨zq_42 zg_2_5_104.1, rfl⟩
theorem zd_2_5_105 : zz_D zy_readPart_2_5 105 (.getfield 9) 3 108 := ⟨zq_180 zg_2_5_104.2.1 zg_2_5_104.2.2.1 zg_2_5_104.2.2.2.1 rfl, rfl⟩
theorem zd_2_5_108 : zz_D zy_readPart_2_5 108 (.ldc 82) 2 110 := ⟨zq_18 zg_2_5_104.2.2.2.2.1 zg_2_5_104.2.2.2.2.2.1, rfl⟩
theorem zd_2_5_110 : zz_D zy_readPart_2_5 110 (.invokevirtual 61) 3 113 := ⟨zq_182 zg_2_5_104.2.2.2.2.2.2.1 zg_2_5_104.2.2.2.2.2.2.2.1 zg_2_5_104.2.2.2.2.2.2.2.2.1 rfl, rfl⟩
theorem zd_2_5_113 : zz_B zy_readPart_2_5 113 (Instr.ifCond .eq) 123 116 := ⟨10, zq_153 zg_2_5_104.2.2.2.2.2.2.2.2.2.1 zg_2_5_104.2.2.2.2.2.2.2.2.2.2.1 zg_2_5_104.2.2.2.2.2.2.2.2.2.2.2.1 (by decide), rfl, rfl⟩
theorem zd_2_5_123 : zz_D zy_readPart_2_5 123 (.aload_n 0) 1 124 := ⟨zq_42 zg_2_5_104.2.2.2.2.2.2.2.2.2.2.2.2.1, rfl⟩
theorem zd_2_5_124 : zz_D zy_readPart_2_5 124 (.getfield 9) 3 127 := ⟨zq_180 zg_2_5_104.2.2.2.2.2.2.2.2.2.2.2.2.2.1 zg_2_5_104.2.2.2.2.2.2.2.2.2.2.2.2.2.2.1 zg_2_5_104.2.2.2.2.2.2.2.2.2.2.2.2.2.2.2.1 rfl, rfl⟩
theorem zd_2_5_127 : zz_D zy_readPart_2_5 127 (.ldc 84) 2 129 := ⟨zq_18 zg_2_5_104.2.2.2.2.2.2.2.2.2.2.2.2.2.2.2.2.1 zg_2_5_104.2.2.2.2.2.2.2.2.2.2.2.2.2.2.2.2.2.1, rfl⟩
theorem zd_2_5_129 : zz_D zy_readPart_2_5 129 (.invokevirtual 61) 3 132 := ⟨zq_182 zg_2_5_104.2.2.2.2.2.2.2.2.2.2.2.2.2.2.2.2.2.2.1 zg_2_5_104.2.2.2.2.2.2.2.2.2.2.2.2.2.2.2.2.2.2.2.1 zg_2_5_104.2.2.2.2.2.2.2.2.2.2.2.2.2.2.2.2.2.2.2.2.1 rfl, rfl⟩
theorem zd_2_5_132 : zz_B zy_readPart_2_5 132 (Instr.ifCond .eq) 142 135 := ⟨10, zq_153 zg_2_5_104.2.2.2.2.2.2.2.2.2.2.2.2.2.2.2.2.2.2.2.2.2.1 zg_2_5_104.2.2.2.2.2.2.2.2.2.2.2.2.2.2.2.2.2.2.2.2.2.2.1 zg_2_5_104.2.2.2.2.2.2.2.2.2.2.2.2.2.2.2.2.2.2.2.2.2.2.2 (by decide), rfl, rfl⟩
theorem zg_2_5_142 : zq_at zy_readPart_2_5.2.1 142 42 ∧ zq_at zy_readPart_2_5.2.1 143 180 ∧ zq_at zy_readPart_2_5.2.1 144 0 ∧ zq_at zy_readPart_2_5.2.1 145 9 ∧ zq_at zy_readPart_2_5.2.1 146 18 ∧ zq_at zy_readPart_2_5.2.1 147 86 ∧ zq_at zy_readPart_2_5.2.1 148 182 ∧ zq_at zy_readPart_2_5.2.1 149 0 ∧ zq_at zy_readPart_2_5.2.1 150 61 ∧ zq_at zy_readPart_2_5.2.1 151 153 ∧ zq_at zy_readPart_2_5.2.1 152 0 ∧ zq_at zy_readPart_2_5.2.1 153 10 ∧ zq_at zy_readPart_2_5.2.1 161 42 ∧ zq_at zy_readPart_2_5.2.1 162 180 ∧ zq_at zy_readPart_2_5.2.1 163 0 ∧ zq_at zy_readPart_2_5.2.1 164 9 ∧ zq_at zy_readPart_2_5.2.1 165 18 ∧ zq_at zy_readPart_2_5.2.1 166 92 ∧ zq_at zy_readPart_2_5.2.1 167 182 ∧ zq_at zy_readPart_2_5.2.1 168 0 ∧ zq_at zy_readPart_2_5.2.1 169 61 ∧ zq_at zy_readPart_2_5.2.1 170 153 ∧ zq_at zy_readPart_2_5.2.1 171 0 ∧ zq_at zy_readPart_2_5.2.1 172 16 := by decide +kernel
theorem zd_2_5_142 : zz_D zy_readPart_2_5 142 (.aload_n 0) 1 143 := ⟨zq_42 zg_2_5_142.1, rfl⟩
theorem zd_2_5_143 : zz_D zy_readPart_2_5 143 (.getfield 9) 3 146 := ⟨zq_180 zg_2_5_142.2.1 zg_2_5_142.2.2.1 zg_2_5_142.2.2.2.1 rfl, rfl⟩
theorem zd_2_5_146 : zz_D zy_readPart_2_5 146 (.ldc 86) 2 148 := ⟨zq_18 zg_2_5_142.2.2.2.2.1 zg_2_5_142.2.2.2.2.2.1, rfl⟩
theorem zd_2_5_148 : zz_D zy_readPart_2_5 148 (.invokevirtual 61) 3 151 := ⟨zq_182 zg_2_5_142.2.2.2.2.2.2.1 zg_2_5_142.2.2.2.2.2.2.2.1 zg_2_5_142.2.2.2.2.2.2.2.2.1 rfl, rfl⟩
theorem zd_2_5_151 : zz_B zy_readPart_2_5 151 (Instr.ifCond .eq) 161 154 := ⟨10, zq_153 zg_2_5_142.2.2.2.2.2.2.2.2.2.1 zg_2_5_142.2.2.2.2.2.2.2.2.2.2.1 zg_2_5_142.2.2.2.2.2.2.2.2.2.2.2.1 (by decide), rfl, rfl⟩
theorem zd_2_5_161 : zz_D zy_readPart_2_5 161 (.aload_n 0) 1 162 := ⟨zq_42 zg_2_5_142.2.2.2.2.2.2.2.2.2.2.2.2.1, rfl⟩
theorem zd_2_5_162 : zz_D zy_readPart_2_5 162 (.getfield 9) 3 165 := ⟨zq_180 zg_2_5_142.2.2.2.2.2.2.2.2.2.2.2.2.2.1 zg_2_5_142.2.2.2.2.2.2.2.2.2.2.2.2.2.2.1 zg_2_5_142.2.2.2.2.2.2.2.2.2.2.2.2.2.2.2.1 rfl, rfl⟩
theorem zd_2_5_165 : zz_D zy_readPart_2_5 165 (.ldc 92) 2 167 := ⟨zq_18 zg_2_5_142.2.2.2.2.2.2.2.2.2.2.2.2.2.2.2.2.1 zg_2_5_142.2.2.2.2.2.2.2.2.2.2.2.2.2.2.2.2.2.1, rfl⟩
theorem zd_2_5_167 : zz_D zy_readPart_2_5 167 (.invokevirtual 61) 3 170 := ⟨zq_182 zg_2_5_142.2.2.2.2.2.2.2.2.2.2.2.2.2.2.2.2.2.2.1 zg_2_5_142.2.2.2.2.2.2.2.2.2.2.2.2.2.2.2.2.2.2.2.1 zg_2_5_142.2.2.2.2.2.2.2.2.2.2.2.2.2.2.2.2.2.2.2.2.1 rfl, rfl⟩
theorem zd_2_5_170 : zz_B zy_readPart_2_5 170 (Instr.ifCond .eq) 186 173 := ⟨16, zq_153 zg_2_5_142.2.2.2.2.2.2.2.2.2.2.2.2.2.2.2.2.2.2.2.2.2.1 zg_2_5_142.2.2.2.2.2.2.2.2.2.2.2.2.2.2.2.2.2.2.2.2.2.2.1 zg_2_5_142.2.2.2.2.2.2.2.2.2.2.2.2.2.2.2.2.2.2.2.2.2.2.2 (by decide), rfl, rfl⟩
theorem zg_2_5_186 : zq_at zy_readPart_2_5.2.1 186 3 ∧ zq_at zy_readPart_2_5.2.1 187 172 ∧ zq_at zy_readPart_2_5.2.1 173 42 ∧ zq_at zy_readPart_2_5.2.1 174 6 ∧ zq_at zy_readPart_2_5.2.1 175 7 ∧ zq_at zy_readPart_2_5.2.1 176 182 ∧ zq_at zy_readPart_2_5.2.1 177 0 ∧ zq_at zy_readPart_2_5.2.1 178 88 := by decide +kernel
theorem zd_2_5_186 : zz_D zy_readPart_2_5 186 (.iconst 0) 1 187 := ⟨zq_3 zg_2_5_186.1, rfl⟩
theorem zd_2_5_187 : zz_D zy_readPart_2_5 187 (.ireturn) 1 188 := ⟨zq_172 zg_2_5_186.2.1, rfl⟩
theorem zd_2_5_173 : zz_D zy_readPart_2_5 173 (.aload_n 0) 1 174 := ⟨zq_42 zg_2_5_186.2.2.1, rfl⟩
theorem zd_2_5_174 : zz_D zy_readPart_2_5 174 (.iconst 3) 1 175 := ⟨zq_6 zg_2_5_186.2.2.2.1, rfl⟩
theorem zd_2_5_175 : zz_D zy_readPart_2_5 175 (.iconst 4) 1 176 := ⟨zq_7 zg_2_5_186.2.2.2.2.1, rfl⟩
theorem zd_2_5_176 : zz_D zy_readPart_2_5 176 (.invokevirtual 88) 3 179 := ⟨zq_182 zg_2_5_186.2.2.2.2.2.1 zg_2_5_186.2.2.2.2.2.2.1 zg_2_5_186.2.2.2.2.2.2.2 rfl, rfl⟩
theorem zg_2_7_0 : zq_at zy_readNeighbour_2_7.2.1 0 42 ∧ zq_at zy_readNeighbour_2_7.2.1 1 180 ∧ zq_at zy_readNeighbour_2_7.2.1 2 0 ∧ zq_at zy_readNeighbour_2_7.2.1 3 9 ∧ zq_at zy_readNeighbour_2_7.2.1 4 18 ∧ zq_at zy_readNeighbour_2_7.2.1 5 107 ∧ zq_at zy_readNeighbour_2_7.2.1 6 182 ∧ zq_at zy_readNeighbour_2_7.2.1 7 0 ∧ zq_at zy_readNeighbour_2_7.2.1 8 75 := by decide +kernel
theorem zd_2_7_0 : zz_D zy_readNeighbour_2_7 0 (.aload_n 0) 1 1 := ⟨zq_42 zg_2_7_0.1, rfl⟩
theorem zd_2_7_1 : zz_D zy_readNeighbour_2_7 1 (.getfield 9) 3 4 := ⟨zq_180 zg_2_7_0.2.1 zg_2_7_0.2.2.1 zg_2_7_0.2.2.2.1 rfl, rfl⟩
theorem zd_2_7_4 : zz_D zy_readNeighbour_2_7 4 (.ldc 107) 2 6 := ⟨zq_18 zg_2_7_0.2.2.2.2.1 zg_2_7_0.2.2.2.2.2.1, rfl⟩
theorem zd_2_7_6 : zz_D zy_readNeighbour_2_7 6 (.invokevirtual 75) 3 9 := ⟨zq_182 zg_2_7_0.2.2.2.2.2.2.1 zg_2_7_0.2.2.2.2.2.2.2.1 zg_2_7_0.2.2.2.2.2.2.2.2 rfl, rfl⟩
theorem zg_11_10_0 : zq_at zy_nextIsWord_11_10.2.1 0 42 ∧ zq_at zy_nextIsWord_11_10.2.1 1 182 ∧ zq_at zy_nextIsWord_11_10.2.1 2 0 ∧ zq_at zy_nextIsWord_11_10.2.1 3 47 ∧ zq_at zy_nextIsWord_11_10.2.1 4 42 ∧ zq_at zy_nextIsWord_11_10.2.1 5 43 ∧ zq_at zy_nextIsWord_11_10.2.1 6 182 ∧ zq_at zy_nextIsWord_11_10.2.1 7 0 ∧ zq_at zy_nextIsWord_11_10.2.1 8 50 ∧ zq_at zy_nextIsWord_11_10.2.1 9 172 := by decide +kernel
theorem zd_11_10_0 : zz_D zy_nextIsWord_11_10 0 (.aload_n 0) 1 1 := ⟨zq_42 zg_11_10_0.1, rfl⟩
theorem zd_11_10_1 : zz_D zy_nextIsWord_11_10 1 (.invokevirtual 47) 3 4 := ⟨zq_182 zg_11_10_0.2.1 zg_11_10_0.2.2.1 zg_11_10_0.2.2.2.1 rfl, rfl⟩
theorem zd_11_10_4 : zz_D zy_nextIsWord_11_10 4 (.aload_n 0) 1 5 := ⟨zq_42 zg_11_10_0.2.2.2.2.1, rfl⟩
theorem zd_11_10_5 : zz_D zy_nextIsWord_11_10 5 (.aload_n 1) 1 6 := ⟨zq_43 zg_11_10_0.2.2.2.2.2.1, rfl⟩
theorem zd_11_10_6 : zz_D zy_nextIsWord_11_10 6 (.invokevirtual 50) 3 9 := ⟨zq_182 zg_11_10_0.2.2.2.2.2.2.1 zg_11_10_0.2.2.2.2.2.2.2.1 zg_11_10_0.2.2.2.2.2.2.2.2.1 rfl, rfl⟩
theorem zd_11_10_9 : zz_D zy_nextIsWord_11_10 9 (.ireturn) 1 10 := ⟨zq_172 zg_11_10_0.2.2.2.2.2.2.2.2.2, rfl⟩
-- TensorForge$Text nextIsWord (Ljava/lang/String;)Z
abbrev zr_nextIsWord_11_10 : Room := { frames := 5, cells := 0, slots := 0, locals := 68 }
def zp_nextIsWord_11_10 (p0 : Nat) (S0 : zz_S) : Int → zz_S → Prop := fun r S => zz_G S ∧ zz_fr [(1070, 3), (1070, 4), (1070, 5), (1070, 6)] [] (fun _ _ => False) S0 S ∧ (0 ≤ r ∧ r ≤ 1) ∧ (zt_co (S 1070 4) (zt_wl (S0 1071) (S 1070 5) (S 1070 3) 20) = zt_tk (S0 1071) (S0 1070 2) (S0 1070 3)) ∧ (S 1070 3 = zt_te (S0 1071) (S0 1070 2) (S0 1070 3)) ∧ (S 1070 4 = 2 → S 1070 6 = zt_tv (S0 1071) (S0 1070 2) (S0 1070 3)) ∧ (0 ≤ S 1070 4 ∧ S 1070 4 ≤ 3) ∧ (S0 1070 3 ≤ S 1070 3) ∧ (S 1070 4 = 1 ∨ S 1070 4 = 2 → S0 1070 3 < S 1070 3) ∧ (S 1070 4 = 2 → 0 ≤ S 1070 6 ∧ S 1070 6 ≤ 9999) ∧ (S0 1070 3 ≤ S0 1070 2 → S 1070 3 ≤ S0 1070 2) ∧ (zt_IS r (S 1070 4) (S0 1071) (S 1070 5) (S 1070 3) p0) ∧ (zt_NK (S0 1071) (S0 1070 2) (S0 1070 3) (S 1070 4) (S 1070 5) (S 1070 3))
theorem zc_nextIsWord_11_10 {g : mm_G} {l : Launch} (p0 : Nat) (S0 : zz_S) (n : Nat) (hn : zz_end ≤ n) (G_S0 : zz_G S0) (hp0 : p0 < 59) : mm_Met g l zy_nextIsWord_11_10 zr_nextIsWord_11_10 [.ref 1070, .ref (100 + p0)] (zz_M S0 n) n (zz_QI n (zp_nextIsWord_11_10 p0 S0)) := by
  refine zz_enter (by decide) (Nat.le_of_ble_eq_true rfl) (zz_less (ls1 := [some (.ref 1070), some (.ref (100 + p0))]) ⟨rfl, ⟨rfl, trivial⟩⟩ ?_)
  have F_S0 : zz_fr [(1070, 3), (1070, 4), (1070, 5), (1070, 6)] [] (fun _ _ => False) S0 S0 := zz_fr.refl
  refine zz_aload_n (x := 1070) rfl zd_11_10_0 ?_
  have g1 := zz_G.r G_S0 1070 2 (-1) 1500 rfl rfl
  have g2 := zz_G.r G_S0 1070 3 0 1500 rfl rfl
  refine zz_callVV [] zd_11_10_1 zk_Text_47 zT_1070 (zz_ltn hn rfl) rfl rfl ⟨Nat.le_of_ble_eq_true rfl, Nat.le_of_ble_eq_true rfl⟩ ⟨rfl, rfl⟩ (Nat.zero_le _) (Nat.zero_le _) (zc_nextToken_11_7  S0 n hn G_S0 ) (fun S3 hP => ?_)
  obtain ⟨G_S3, fS3, o5, o6, o7, o8, o9, o10, o11, o12, o13⟩ := hP
  have F_S3 := zz_fr.trans F_S0 fS3 rfl zz_nv
  refine zz_aload_n (x := 1070) rfl zd_11_10_4 ?_
  refine zz_aload_n (x := 100 + p0) rfl zd_11_10_5 ?_
  have g14 := zz_G.r G_S3 1070 3 0 1500 rfl rfl
  have g15 := zz_G.r G_S3 1070 4 (-2147483648) 2147483647 rfl rfl
  have g16 := zz_G.r G_S3 1070 5 0 1500 rfl rfl
  refine zz_callVI [.ref (100 + p0)] zd_11_10_6 zk_Text_50 zT_1070 (zz_ltn hn rfl) rfl rfl ⟨Nat.le_of_ble_eq_true rfl, Nat.le_of_ble_eq_true rfl⟩ ⟨rfl, rfl⟩ (Nat.zero_le _) (Nat.zero_le _) (zc_isWord_11_9 p0 S3 n hn G_S3 (by omega)) (fun v18 S17 hP => ?_)
  obtain ⟨rfl, o19, o20⟩ := hP
  rw [show S3 1071 = S0 1071 from funext (fun u => (zz_rc fS3 (zz_nc1 rfl) rfl (fun h => h) rfl))] at o20
  rcases (by omega : v18 = 0 ∨ v18 = 1) with rfl | rfl
  · have g21 := zz_G.r G_S3 1070 6 (-2147483648) 2147483647 rfl rfl
    exact zz_zret zd_11_10_9 rfl (by omega) (Nat.zero_le _) (Nat.zero_le _) ⟨_, _, rfl, G_S3, F_S3, by omega, by omega, by omega, by omega, by omega, by omega, by omega, by omega, by omega, o20, o13⟩
  · have g22 := zz_G.r G_S3 1070 6 (-2147483648) 2147483647 rfl rfl
    exact zz_zret zd_11_10_9 rfl (by omega) (Nat.zero_le _) (Nat.zero_le _) ⟨_, _, rfl, G_S3, F_S3, by omega, by omega, by omega, by omega, by omega, by omega, by omega, by omega, by omega, o20, o13⟩
theorem zk_Assembler_75 : mm_Vl "TensorForge$Assembler" 75 6 1 zy_nextIsWord_11_10 := ⟨zyw_nextIsWord_11_10, (R_Text, F_Text, 7), rfl, mm_tb_1 672 (by decide +kernel) rfl, mm_tb_1 673 (by decide +kernel) rfl, mm_tb_1 674 (by decide +kernel) rfl⟩
abbrev zy_setOnce_2_8 : mm_Y := (⟨"TensorForge$Assembler", "setOnce", "(II)Z"⟩, prog_2_method_8_code, 3, (some .boolean))
theorem zyw_setOnce_2_8 : mm_Yw zy_setOnce_2_8 2 := ⟨mm_tb_1 669 (by decide +kernel) rfl, mm_tb_1 8 (by decide +kernel) rfl, ⟨by decide, by decide⟩, by decide +kernel⟩
theorem zg_2_7_9 : zq_at zy_readNeighbour_2_7.2.1 9 153 ∧ zq_at zy_readNeighbour_2_7.2.1 10 0 ∧ zq_at zy_readNeighbour_2_7.2.1 11 10 ∧ zq_at zy_readNeighbour_2_7.2.1 19 42 ∧ zq_at zy_readNeighbour_2_7.2.1 20 180 ∧ zq_at zy_readNeighbour_2_7.2.1 21 0 ∧ zq_at zy_readNeighbour_2_7.2.1 22 9 ∧ zq_at zy_readNeighbour_2_7.2.1 23 18 ∧ zq_at zy_readNeighbour_2_7.2.1 24 109 ∧ zq_at zy_readNeighbour_2_7.2.1 25 182 ∧ zq_at zy_readNeighbour_2_7.2.1 26 0 ∧ zq_at zy_readNeighbour_2_7.2.1 27 61 ∧ zq_at zy_readNeighbour_2_7.2.1 28 153 ∧ zq_at zy_readNeighbour_2_7.2.1 29 0 ∧ zq_at zy_readNeighbour_2_7.2.1 30 16 ∧ zq_at zy_readNeighbour_2_7.2.1 44 3 ∧ zq_at zy_readNeighbour_2_7.2.1 45 172 ∧ zq_at zy_readNeighbour_2_7.2.1 31 42 ∧ zq_at zy_readNeighbour_2_7.2.1 32 28 ∧ zq_at zy_readNeighbour_2_7.2.1 33 4 ∧ zq_at zy_readNeighbour_2_7.2.1 34 182 ∧ zq_at zy_readNeighbour_2_7.2.1 35 0 ∧ zq_at zy_readNeighbour_2_7.2.1 36 104 := by decide +kernel
theorem zd_2_7_9 : zz_B zy_readNeighbour_2_7 9 (Instr.ifCond .eq) 19 12 := ⟨10, zq_153 zg_2_7_9.1 zg_2_7_9.2.1 zg_2_7_9.2.2.1 (by decide), rfl, rfl⟩
theorem zd_2_7_19 : zz_D zy_readNeighbour_2_7 19 (.aload_n 0) 1 20 := ⟨zq_42 zg_2_7_9.2.2.2.1, rfl⟩
theorem zd_2_7_20 : zz_D zy_readNeighbour_2_7 20 (.getfield 9) 3 23 := ⟨zq_180 zg_2_7_9.2.2.2.2.1 zg_2_7_9.2.2.2.2.2.1 zg_2_7_9.2.2.2.2.2.2.1 rfl, rfl⟩
theorem zd_2_7_23 : zz_D zy_readNeighbour_2_7 23 (.ldc 109) 2 25 := ⟨zq_18 zg_2_7_9.2.2.2.2.2.2.2.1 zg_2_7_9.2.2.2.2.2.2.2.2.1, rfl⟩
theorem zd_2_7_25 : zz_D zy_readNeighbour_2_7 25 (.invokevirtual 61) 3 28 := ⟨zq_182 zg_2_7_9.2.2.2.2.2.2.2.2.2.1 zg_2_7_9.2.2.2.2.2.2.2.2.2.2.1 zg_2_7_9.2.2.2.2.2.2.2.2.2.2.2.1 rfl, rfl⟩
theorem zd_2_7_28 : zz_B zy_readNeighbour_2_7 28 (Instr.ifCond .eq) 44 31 := ⟨16, zq_153 zg_2_7_9.2.2.2.2.2.2.2.2.2.2.2.2.1 zg_2_7_9.2.2.2.2.2.2.2.2.2.2.2.2.2.1 zg_2_7_9.2.2.2.2.2.2.2.2.2.2.2.2.2.2.1 (by decide), rfl, rfl⟩
theorem zd_2_7_44 : zz_D zy_readNeighbour_2_7 44 (.iconst 0) 1 45 := ⟨zq_3 zg_2_7_9.2.2.2.2.2.2.2.2.2.2.2.2.2.2.2.1, rfl⟩
theorem zd_2_7_45 : zz_D zy_readNeighbour_2_7 45 (.ireturn) 1 46 := ⟨zq_172 zg_2_7_9.2.2.2.2.2.2.2.2.2.2.2.2.2.2.2.2.1, rfl⟩
theorem zd_2_7_31 : zz_D zy_readNeighbour_2_7 31 (.aload_n 0) 1 32 := ⟨zq_42 zg_2_7_9.2.2.2.2.2.2.2.2.2.2.2.2.2.2.2.2.2.1, rfl⟩
theorem zd_2_7_32 : zz_D zy_readNeighbour_2_7 32 (.iload_n 2) 1 33 := ⟨zq_28 zg_2_7_9.2.2.2.2.2.2.2.2.2.2.2.2.2.2.2.2.2.2.1, rfl⟩
theorem zd_2_7_33 : zz_D zy_readNeighbour_2_7 33 (.iconst 1) 1 34 := ⟨zq_4 zg_2_7_9.2.2.2.2.2.2.2.2.2.2.2.2.2.2.2.2.2.2.2.1, rfl⟩
theorem zd_2_7_34 : zz_D zy_readNeighbour_2_7 34 (.invokevirtual 104) 3 37 := ⟨zq_182 zg_2_7_9.2.2.2.2.2.2.2.2.2.2.2.2.2.2.2.2.2.2.2.2.1 zg_2_7_9.2.2.2.2.2.2.2.2.2.2.2.2.2.2.2.2.2.2.2.2.2.1 zg_2_7_9.2.2.2.2.2.2.2.2.2.2.2.2.2.2.2.2.2.2.2.2.2.2 rfl, rfl⟩
theorem zg_2_8_0 : zq_at zy_setOnce_2_8.2.1 0 42 ∧ zq_at zy_setOnce_2_8.2.1 1 180 ∧ zq_at zy_setOnce_2_8.2.1 2 0 ∧ zq_at zy_setOnce_2_8.2.1 3 23 ∧ zq_at zy_setOnce_2_8.2.1 4 27 ∧ zq_at zy_setOnce_2_8.2.1 5 122 ∧ zq_at zy_setOnce_2_8.2.1 6 4 ∧ zq_at zy_setOnce_2_8.2.1 7 126 ∧ zq_at zy_setOnce_2_8.2.1 8 4 ∧ zq_at zy_setOnce_2_8.2.1 9 160 ∧ zq_at zy_setOnce_2_8.2.1 10 0 ∧ zq_at zy_setOnce_2_8.2.1 11 5 ∧ zq_at zy_setOnce_2_8.2.1 14 42 ∧ zq_at zy_setOnce_2_8.2.1 15 89 ∧ zq_at zy_setOnce_2_8.2.1 16 180 ∧ zq_at zy_setOnce_2_8.2.1 17 0 ∧ zq_at zy_setOnce_2_8.2.1 18 23 ∧ zq_at zy_setOnce_2_8.2.1 19 4 ∧ zq_at zy_setOnce_2_8.2.1 20 27 ∧ zq_at zy_setOnce_2_8.2.1 21 120 ∧ zq_at zy_setOnce_2_8.2.1 22 128 ∧ zq_at zy_setOnce_2_8.2.1 23 181 ∧ zq_at zy_setOnce_2_8.2.1 24 0 ∧ zq_at zy_setOnce_2_8.2.1 25 23 := by decide +kernel
theorem zd_2_8_0 : zz_D zy_setOnce_2_8 0 (.aload_n 0) 1 1 := ⟨zq_42 zg_2_8_0.1, rfl⟩
theorem zd_2_8_1 : zz_D zy_setOnce_2_8 1 (.getfield 23) 3 4 := ⟨zq_180 zg_2_8_0.2.1 zg_2_8_0.2.2.1 zg_2_8_0.2.2.2.1 rfl, rfl⟩
theorem zd_2_8_4 : zz_D zy_setOnce_2_8 4 (.iload_n 1) 1 5 := ⟨zq_27 zg_2_8_0.2.2.2.2.1, rfl⟩
theorem zd_2_8_5 : zz_D zy_setOnce_2_8 5 (.ishr) 1 6 := ⟨zq_122 zg_2_8_0.2.2.2.2.2.1, rfl⟩
theorem zd_2_8_6 : zz_D zy_setOnce_2_8 6 (.iconst 1) 1 7 := ⟨zq_4 zg_2_8_0.2.2.2.2.2.2.1, rfl⟩
theorem zd_2_8_7 : zz_D zy_setOnce_2_8 7 (.iand) 1 8 := ⟨zq_126 zg_2_8_0.2.2.2.2.2.2.2.1, rfl⟩
theorem zd_2_8_8 : zz_D zy_setOnce_2_8 8 (.iconst 1) 1 9 := ⟨zq_4 zg_2_8_0.2.2.2.2.2.2.2.2.1, rfl⟩
theorem zd_2_8_9 : zz_B zy_setOnce_2_8 9 (Instr.if_icmp .ne) 14 12 := ⟨5, zq_160 zg_2_8_0.2.2.2.2.2.2.2.2.2.1 zg_2_8_0.2.2.2.2.2.2.2.2.2.2.1 zg_2_8_0.2.2.2.2.2.2.2.2.2.2.2.1 (by decide), rfl, rfl⟩
theorem zd_2_8_14 : zz_D zy_setOnce_2_8 14 (.aload_n 0) 1 15 := ⟨zq_42 zg_2_8_0.2.2.2.2.2.2.2.2.2.2.2.2.1, rfl⟩
theorem zd_2_8_15 : zz_D zy_setOnce_2_8 15 (.dup) 1 16 := ⟨zq_89 zg_2_8_0.2.2.2.2.2.2.2.2.2.2.2.2.2.1, rfl⟩
theorem zd_2_8_16 : zz_D zy_setOnce_2_8 16 (.getfield 23) 3 19 := ⟨zq_180 zg_2_8_0.2.2.2.2.2.2.2.2.2.2.2.2.2.2.1 zg_2_8_0.2.2.2.2.2.2.2.2.2.2.2.2.2.2.2.1 zg_2_8_0.2.2.2.2.2.2.2.2.2.2.2.2.2.2.2.2.1 rfl, rfl⟩
theorem zd_2_8_19 : zz_D zy_setOnce_2_8 19 (.iconst 1) 1 20 := ⟨zq_4 zg_2_8_0.2.2.2.2.2.2.2.2.2.2.2.2.2.2.2.2.2.1, rfl⟩
theorem zd_2_8_20 : zz_D zy_setOnce_2_8 20 (.iload_n 1) 1 21 := ⟨zq_27 zg_2_8_0.2.2.2.2.2.2.2.2.2.2.2.2.2.2.2.2.2.2.1, rfl⟩
theorem zd_2_8_21 : zz_D zy_setOnce_2_8 21 (.ishl) 1 22 := ⟨zq_120 zg_2_8_0.2.2.2.2.2.2.2.2.2.2.2.2.2.2.2.2.2.2.2.1, rfl⟩
theorem zd_2_8_22 : zz_D zy_setOnce_2_8 22 (.ior) 1 23 := ⟨zq_128 zg_2_8_0.2.2.2.2.2.2.2.2.2.2.2.2.2.2.2.2.2.2.2.2.1, rfl⟩
theorem zd_2_8_23 : zz_D zy_setOnce_2_8 23 (.putfield 23) 3 26 := ⟨zq_181 zg_2_8_0.2.2.2.2.2.2.2.2.2.2.2.2.2.2.2.2.2.2.2.2.2.1 zg_2_8_0.2.2.2.2.2.2.2.2.2.2.2.2.2.2.2.2.2.2.2.2.2.2.1 zg_2_8_0.2.2.2.2.2.2.2.2.2.2.2.2.2.2.2.2.2.2.2.2.2.2.2 rfl, rfl⟩
theorem zg_2_8_26 : zq_at zy_setOnce_2_8.2.1 26 42 ∧ zq_at zy_setOnce_2_8.2.1 27 89 ∧ zq_at zy_setOnce_2_8.2.1 28 180 ∧ zq_at zy_setOnce_2_8.2.1 29 0 ∧ zq_at zy_setOnce_2_8.2.1 30 19 ∧ zq_at zy_setOnce_2_8.2.1 31 27 ∧ zq_at zy_setOnce_2_8.2.1 32 28 ∧ zq_at zy_setOnce_2_8.2.1 33 184 ∧ zq_at zy_setOnce_2_8.2.1 34 0 ∧ zq_at zy_setOnce_2_8.2.1 35 50 ∧ zq_at zy_setOnce_2_8.2.1 36 129 ∧ zq_at zy_setOnce_2_8.2.1 37 181 ∧ zq_at zy_setOnce_2_8.2.1 38 0 ∧ zq_at zy_setOnce_2_8.2.1 39 19 ∧ zq_at zy_setOnce_2_8.2.1 40 4 ∧ zq_at zy_setOnce_2_8.2.1 41 172 ∧ zq_at zy_setOnce_2_8.2.1 12 3 ∧ zq_at zy_setOnce_2_8.2.1 13 172 := by decide +kernel
theorem zd_2_8_26 : zz_D zy_setOnce_2_8 26 (.aload_n 0) 1 27 := ⟨zq_42 zg_2_8_26.1, rfl⟩
theorem zd_2_8_27 : zz_D zy_setOnce_2_8 27 (.dup) 1 28 := ⟨zq_89 zg_2_8_26.2.1, rfl⟩
theorem zd_2_8_28 : zz_D zy_setOnce_2_8 28 (.getfield 19) 3 31 := ⟨zq_180 zg_2_8_26.2.2.1 zg_2_8_26.2.2.2.1 zg_2_8_26.2.2.2.2.1 rfl, rfl⟩
theorem zd_2_8_31 : zz_D zy_setOnce_2_8 31 (.iload_n 1) 1 32 := ⟨zq_27 zg_2_8_26.2.2.2.2.2.1, rfl⟩
theorem zd_2_8_32 : zz_D zy_setOnce_2_8 32 (.iload_n 2) 1 33 := ⟨zq_28 zg_2_8_26.2.2.2.2.2.2.1, rfl⟩
theorem zd_2_8_33 : zz_D zy_setOnce_2_8 33 (.invokestatic 50) 3 36 := ⟨zq_184 zg_2_8_26.2.2.2.2.2.2.2.1 zg_2_8_26.2.2.2.2.2.2.2.2.1 zg_2_8_26.2.2.2.2.2.2.2.2.2.1 rfl, rfl⟩
theorem zd_2_8_36 : zz_D zy_setOnce_2_8 36 (.lor) 1 37 := ⟨zq_129 zg_2_8_26.2.2.2.2.2.2.2.2.2.2.1, rfl⟩
theorem zd_2_8_37 : zz_D zy_setOnce_2_8 37 (.putfield 19) 3 40 := ⟨zq_181 zg_2_8_26.2.2.2.2.2.2.2.2.2.2.2.1 zg_2_8_26.2.2.2.2.2.2.2.2.2.2.2.2.1 zg_2_8_26.2.2.2.2.2.2.2.2.2.2.2.2.2.1 rfl, rfl⟩
theorem zd_2_8_40 : zz_D zy_setOnce_2_8 40 (.iconst 1) 1 41 := ⟨zq_4 zg_2_8_26.2.2.2.2.2.2.2.2.2.2.2.2.2.2.1, rfl⟩
theorem zd_2_8_41 : zz_D zy_setOnce_2_8 41 (.ireturn) 1 42 := ⟨zq_172 zg_2_8_26.2.2.2.2.2.2.2.2.2.2.2.2.2.2.2.1, rfl⟩
theorem zd_2_8_12 : zz_D zy_setOnce_2_8 12 (.iconst 0) 1 13 := ⟨zq_3 zg_2_8_26.2.2.2.2.2.2.2.2.2.2.2.2.2.2.2.2.1, rfl⟩
theorem zd_2_8_13 : zz_D zy_setOnce_2_8 13 (.ireturn) 1 14 := ⟨zq_172 zg_2_8_26.2.2.2.2.2.2.2.2.2.2.2.2.2.2.2.2.2, rfl⟩
-- TensorForge$Assembler setOnce (II)Z
abbrev zr_setOnce_2_8_4 : Room := { frames := 1, cells := 0, slots := 0, locals := 16 }
def zp_setOnce_2_8_4 (p1 : Int) (S0 : zz_S) : Int → zz_S → Prop := fun r S => zz_G S ∧ zz_fr [(1072, 2), (1072, 3)] [] (fun _ _ => False) S0 S ∧ (0 ≤ r ∧ r ≤ 1) ∧ ((r = 1 ∧ zt_bi (S0 1072 3) 4 = 0) ∨ (r = 0 ∧ zt_bi (S0 1072 3) 4 = 1)) ∧ (r = 1 → zt_set (S0 1072 3) 4 (S 1072 3)) ∧ (r = 0 → S 1072 3 = S0 1072 3)
theorem zc_setOnce_2_8_4 {g : mm_G} {l : Launch} (p1 : Int) (S0 : zz_S) (n : Nat) (hn : zz_end ≤ n) (G_S0 : zz_G S0) (hp1 : (-2147483648) ≤ p1 ∧ p1 ≤ 2147483647) : mm_Met g l zy_setOnce_2_8 zr_setOnce_2_8_4 [.ref 1072, zi 4, zi p1] (zz_M S0 n) n (zz_QI n (zp_setOnce_2_8_4 p1 S0)) := by
  refine zz_enter (by decide) (Nat.le_of_ble_eq_true rfl) (zz_less (ls1 := [some (.ref 1072), some (zi 4), some (zi p1)]) ⟨rfl, ⟨rfl, ⟨rfl, trivial⟩⟩⟩ ?_)
  have F_S0 : zz_fr [(1072, 2), (1072, 3)] [] (fun _ _ => False) S0 S0 := zz_fr.refl
  refine zz_aload_n (x := 1072) rfl zd_2_8_0 ?_
  have g1 := zz_G.r G_S0 1072 3 (-2147483648) 2147483647 rfl rfl
  refine zz_geti (z := S0 1072 3) zd_2_8_1 zf_Assembler_23 zT_1072 rfl (zz_ltn hn rfl) rfl ?_
  refine zz_iload_n (x := 4) rfl zd_2_8_4 ?_
  refine zz_ishr zd_2_8_5 (fun v2 hv2 ev2 => ?_)
  refine zz_iconst zd_2_8_6 ?_
  refine zz_iand (by omega) (by omega) zd_2_8_7 (fun v3 hv3 av3 bv3 ev3 => ?_)
  have hb9 := zt_shb (s := S0 1072 3) (w := 4) (x := 4) (by decide) (by decide) (by assumption) (by assumption)
  refine zz_iconst zd_2_8_8 ?_
  refine zz_icmp_ne (by omega) (by omega) zd_2_8_9 (fun c4 => ?_) (fun c4 => ?_)
  · refine zz_aload_n (x := 1072) rfl zd_2_8_14 ?_
    refine zz_dup rfl zd_2_8_15 ?_
    refine zz_geti (z := S0 1072 3) zd_2_8_16 zf_Assembler_23 zT_1072 rfl (zz_ltn hn rfl) rfl ?_
    refine zz_iconst zd_2_8_19 ?_
    refine zz_iload_n (x := 4) rfl zd_2_8_20 ?_
    refine zz_ishl zd_2_8_21 (fun v5 hv5 ev5 => ?_)
    obtain rfl : v5 = 16 := ev5.trans (by decide)
    refine zz_ior (by omega) (by omega) zd_2_8_22 (fun v6 hv6 av6 ev6 => ?_)
    skip
    refine zz_puti zd_2_8_23 zf_Assembler_23 zT_1072 rfl (zz_ltn hn rfl) (fun S7 qS7 => ?_)
    have G_S7 := zz_G.put G_S0 qS7 (-2147483648) 2147483647 rfl (by omega)
    have F_S7 := zz_fr.puts F_S0 qS7 rfl
    refine zz_aload_n (x := 1072) rfl zd_2_8_26 ?_
    refine zz_dup rfl zd_2_8_27 ?_
    have g8 := zz_G.r G_S0 1072 2 (-9223372036854775808) 9223372036854775807 rfl rfl
    refine zz_getl (z := S0 1072 2) zd_2_8_28 zf_Assembler_19 zT_1072 rfl (zz_ltn hn rfl) (zz_ro qS7 (fun h => absurd h.2 (by decide)) rfl) ?_
    refine zz_iload_n (x := 4) rfl zd_2_8_31 ?_
    refine zz_iload_n (x := p1) rfl zd_2_8_32 ?_
    refine zz_callSJ [zi 4, zi p1] zd_2_8_33 zk_Assembler_50 rfl rfl ⟨Nat.le_of_ble_eq_true rfl, Nat.le_of_ble_eq_true rfl⟩ ⟨rfl, rfl⟩ (Nat.zero_le _) (Nat.zero_le _) (zc_bits_12_4 4 p1 S7 n hn G_S7 (by omega) (by omega)) (fun v10 S9 hP => ?_)
    obtain ⟨rfl, o11⟩ := hP
    refine zz_lor zd_2_8_36 (fun v12 hv12 ev12 => ?_)
    refine zz_putl zd_2_8_37 zf_Assembler_19 zT_1072 rfl (zz_ltn hn rfl) (fun S13 qS13 => ?_)
    have G_S13 := zz_G.put G_S7 qS13 (-9223372036854775808) 9223372036854775807 rfl (by omega)
    have F_S13 := zz_fr.puts F_S7 qS13 rfl
    refine zz_iconst zd_2_8_40 ?_
    have e14 : S13 1072 3 = v6 := (zz_ro qS13 (fun h => absurd h.2 (by decide)) (zz_rs qS7))
    exact zz_zret zd_2_8_41 rfl (by omega) (Nat.zero_le _) (Nat.zero_le _) ⟨_, _, rfl, G_S13, F_S13, by omega, by omega, fun _ => (by rw [show S13 1072 3 = v6 by omega]; exact zt_set1 (b := Int32.ofInt 16) (by decide) (by decide) (by assumption)), by omega⟩
  · refine zz_iconst zd_2_8_12 ?_
    exact zz_zret zd_2_8_13 rfl (by omega) (Nat.zero_le _) (Nat.zero_le _) ⟨_, _, rfl, G_S0, F_S0, by omega, by omega, fun h => absurd h (by decide), by omega⟩
theorem zk_Assembler_104 : mm_Vl "TensorForge$Assembler" 104 7 2 zy_setOnce_2_8 := ⟨zyw_setOnce_2_8, (R_Assembler, F_Assembler, 4), rfl, mm_tb_1 666 (by decide +kernel) rfl, mm_tb_1 668 (by decide +kernel) rfl, mm_tb_s 11 (by decide +kernel) rfl⟩
theorem zg_2_7_37 : zq_at zy_readNeighbour_2_7.2.1 37 153 ∧ zq_at zy_readNeighbour_2_7.2.1 38 0 ∧ zq_at zy_readNeighbour_2_7.2.1 39 7 ∧ zq_at zy_readNeighbour_2_7.2.1 40 4 ∧ zq_at zy_readNeighbour_2_7.2.1 41 167 ∧ zq_at zy_readNeighbour_2_7.2.1 42 0 ∧ zq_at zy_readNeighbour_2_7.2.1 43 4 ∧ zq_at zy_readNeighbour_2_7.2.1 12 42 ∧ zq_at zy_readNeighbour_2_7.2.1 13 27 ∧ zq_at zy_readNeighbour_2_7.2.1 14 4 ∧ zq_at zy_readNeighbour_2_7.2.1 15 182 ∧ zq_at zy_readNeighbour_2_7.2.1 16 0 ∧ zq_at zy_readNeighbour_2_7.2.1 17 104 := by decide +kernel
theorem zd_2_7_37 : zz_B zy_readNeighbour_2_7 37 (Instr.ifCond .eq) 44 40 := ⟨7, zq_153 zg_2_7_37.1 zg_2_7_37.2.1 zg_2_7_37.2.2.1 (by decide), rfl, rfl⟩
theorem zd_2_7_40 : zz_D zy_readNeighbour_2_7 40 (.iconst 1) 1 41 := ⟨zq_4 zg_2_7_37.2.2.2.1, rfl⟩
theorem zd_2_7_41 : zz_B zy_readNeighbour_2_7 41 Instr.goto 45 44 := ⟨4, zq_167 zg_2_7_37.2.2.2.2.1 zg_2_7_37.2.2.2.2.2.1 zg_2_7_37.2.2.2.2.2.2.1 (by decide), rfl, rfl⟩
theorem zd_2_7_12 : zz_D zy_readNeighbour_2_7 12 (.aload_n 0) 1 13 := ⟨zq_42 zg_2_7_37.2.2.2.2.2.2.2.1, rfl⟩
theorem zd_2_7_13 : zz_D zy_readNeighbour_2_7 13 (.iload_n 1) 1 14 := ⟨zq_27 zg_2_7_37.2.2.2.2.2.2.2.2.1, rfl⟩
theorem zd_2_7_14 : zz_D zy_readNeighbour_2_7 14 (.iconst 1) 1 15 := ⟨zq_4 zg_2_7_37.2.2.2.2.2.2.2.2.2.1, rfl⟩
theorem zd_2_7_15 : zz_D zy_readNeighbour_2_7 15 (.invokevirtual 104) 3 18 := ⟨zq_182 zg_2_7_37.2.2.2.2.2.2.2.2.2.2.1 zg_2_7_37.2.2.2.2.2.2.2.2.2.2.2.1 zg_2_7_37.2.2.2.2.2.2.2.2.2.2.2.2 rfl, rfl⟩
-- TensorForge$Assembler setOnce (II)Z
abbrev zr_setOnce_2_8_3 : Room := { frames := 1, cells := 0, slots := 0, locals := 16 }
def zp_setOnce_2_8_3 (p1 : Int) (S0 : zz_S) : Int → zz_S → Prop := fun r S => zz_G S ∧ zz_fr [(1072, 2), (1072, 3)] [] (fun _ _ => False) S0 S ∧ (0 ≤ r ∧ r ≤ 1) ∧ ((r = 1 ∧ zt_bi (S0 1072 3) 3 = 0) ∨ (r = 0 ∧ zt_bi (S0 1072 3) 3 = 1)) ∧ (r = 1 → zt_set (S0 1072 3) 3 (S 1072 3)) ∧ (r = 0 → S 1072 3 = S0 1072 3)
theorem zc_setOnce_2_8_3 {g : mm_G} {l : Launch} (p1 : Int) (S0 : zz_S) (n : Nat) (hn : zz_end ≤ n) (G_S0 : zz_G S0) (hp1 : (-2147483648) ≤ p1 ∧ p1 ≤ 2147483647) : mm_Met g l zy_setOnce_2_8 zr_setOnce_2_8_3 [.ref 1072, zi 3, zi p1] (zz_M S0 n) n (zz_QI n (zp_setOnce_2_8_3 p1 S0)) := by
  refine zz_enter (by decide) (Nat.le_of_ble_eq_true rfl) (zz_less (ls1 := [some (.ref 1072), some (zi 3), some (zi p1)]) ⟨rfl, ⟨rfl, ⟨rfl, trivial⟩⟩⟩ ?_)
  have F_S0 : zz_fr [(1072, 2), (1072, 3)] [] (fun _ _ => False) S0 S0 := zz_fr.refl
  refine zz_aload_n (x := 1072) rfl zd_2_8_0 ?_
  have g1 := zz_G.r G_S0 1072 3 (-2147483648) 2147483647 rfl rfl
  refine zz_geti (z := S0 1072 3) zd_2_8_1 zf_Assembler_23 zT_1072 rfl (zz_ltn hn rfl) rfl ?_
  refine zz_iload_n (x := 3) rfl zd_2_8_4 ?_
  refine zz_ishr zd_2_8_5 (fun v2 hv2 ev2 => ?_)
  refine zz_iconst zd_2_8_6 ?_
  refine zz_iand (by omega) (by omega) zd_2_8_7 (fun v3 hv3 av3 bv3 ev3 => ?_)
  have hb9 := zt_shb (s := S0 1072 3) (w := 3) (x := 3) (by decide) (by decide) (by assumption) (by assumption)
  refine zz_iconst zd_2_8_8 ?_
  refine zz_icmp_ne (by omega) (by omega) zd_2_8_9 (fun c4 => ?_) (fun c4 => ?_)
  · refine zz_aload_n (x := 1072) rfl zd_2_8_14 ?_
    refine zz_dup rfl zd_2_8_15 ?_
    refine zz_geti (z := S0 1072 3) zd_2_8_16 zf_Assembler_23 zT_1072 rfl (zz_ltn hn rfl) rfl ?_
    refine zz_iconst zd_2_8_19 ?_
    refine zz_iload_n (x := 3) rfl zd_2_8_20 ?_
    refine zz_ishl zd_2_8_21 (fun v5 hv5 ev5 => ?_)
    obtain rfl : v5 = 8 := ev5.trans (by decide)
    refine zz_ior (by omega) (by omega) zd_2_8_22 (fun v6 hv6 av6 ev6 => ?_)
    skip
    refine zz_puti zd_2_8_23 zf_Assembler_23 zT_1072 rfl (zz_ltn hn rfl) (fun S7 qS7 => ?_)
    have G_S7 := zz_G.put G_S0 qS7 (-2147483648) 2147483647 rfl (by omega)
    have F_S7 := zz_fr.puts F_S0 qS7 rfl
    refine zz_aload_n (x := 1072) rfl zd_2_8_26 ?_
    refine zz_dup rfl zd_2_8_27 ?_
    have g8 := zz_G.r G_S0 1072 2 (-9223372036854775808) 9223372036854775807 rfl rfl
    refine zz_getl (z := S0 1072 2) zd_2_8_28 zf_Assembler_19 zT_1072 rfl (zz_ltn hn rfl) (zz_ro qS7 (fun h => absurd h.2 (by decide)) rfl) ?_
    refine zz_iload_n (x := 3) rfl zd_2_8_31 ?_
    refine zz_iload_n (x := p1) rfl zd_2_8_32 ?_
    refine zz_callSJ [zi 3, zi p1] zd_2_8_33 zk_Assembler_50 rfl rfl ⟨Nat.le_of_ble_eq_true rfl, Nat.le_of_ble_eq_true rfl⟩ ⟨rfl, rfl⟩ (Nat.zero_le _) (Nat.zero_le _) (zc_bits_12_4 3 p1 S7 n hn G_S7 (by omega) (by omega)) (fun v10 S9 hP => ?_)
    obtain ⟨rfl, o11⟩ := hP
    refine zz_lor zd_2_8_36 (fun v12 hv12 ev12 => ?_)
    refine zz_putl zd_2_8_37 zf_Assembler_19 zT_1072 rfl (zz_ltn hn rfl) (fun S13 qS13 => ?_)
    have G_S13 := zz_G.put G_S7 qS13 (-9223372036854775808) 9223372036854775807 rfl (by omega)
    have F_S13 := zz_fr.puts F_S7 qS13 rfl
    refine zz_iconst zd_2_8_40 ?_
    have e14 : S13 1072 3 = v6 := (zz_ro qS13 (fun h => absurd h.2 (by decide)) (zz_rs qS7))
    exact zz_zret zd_2_8_41 rfl (by omega) (Nat.zero_le _) (Nat.zero_le _) ⟨_, _, rfl, G_S13, F_S13, by omega, by omega, fun _ => (by rw [show S13 1072 3 = v6 by omega]; exact zt_set1 (b := Int32.ofInt 8) (by decide) (by decide) (by assumption)), by omega⟩
  · refine zz_iconst zd_2_8_12 ?_
    exact zz_zret zd_2_8_13 rfl (by omega) (Nat.zero_le _) (Nat.zero_le _) ⟨_, _, rfl, G_S0, F_S0, by omega, by omega, fun h => absurd h (by decide), by omega⟩
theorem zg_2_7_18 : zq_at zy_readNeighbour_2_7.2.1 18 172 := by decide +kernel
theorem zd_2_7_18 : zz_D zy_readNeighbour_2_7 18 (.ireturn) 1 19 := ⟨zq_172 zg_2_7_18, rfl⟩
-- TensorForge$Assembler readNeighbour (II)Z
abbrev zr_readNeighbour_2_7_3_4 : Room := { frames := 6, cells := 0, slots := 0, locals := 81 }
def zp_readNeighbour_2_7_3_4  (S0 : zz_S) : Int → zz_S → Prop := fun r S => zz_G S ∧ zz_fr [(1070, 3), (1070, 4), (1070, 5), (1070, 6), (1072, 2), (1072, 3)] [] (fun _ _ => False) S0 S ∧ (0 ≤ r ∧ r ≤ 1) ∧ ((r = 1 ∧ zt_tk (S0 1071) (S0 1070 2) (S0 1070 3) = 19 ∧ zt_bi (S0 1072 3) 3 = 0 ∧ S 1070 3 = zt_te (S0 1071) (S0 1070 2) (S0 1070 3) ∧ S0 1070 3 < S 1070 3) ∨ (r = 1 ∧ zt_tk (S0 1071) (S0 1070 2) (S0 1070 3) = 20 ∧ zt_bi (S0 1072 3) 4 = 0 ∧ S 1070 3 = zt_te (S0 1071) (S0 1070 2) (S0 1070 3) ∧ S0 1070 3 < S 1070 3) ∨ (r = 0 ∧ ((zt_tk (S0 1071) (S0 1070 2) (S0 1070 3) = 19 ∧ zt_bi (S0 1072 3) 3 = 1) ∨ (zt_tk (S0 1071) (S0 1070 2) (S0 1070 3) = 20 ∧ zt_bi (S0 1072 3) 4 = 1) ∨ (zt_tk (S0 1071) (S0 1070 2) (S0 1070 3) ≠ 19 ∧ zt_tk (S0 1071) (S0 1070 2) (S0 1070 3) ≠ 20)))) ∧ (r = 1 → zt_tk (S0 1071) (S0 1070 2) (S0 1070 3) = 19 → zt_set (S0 1072 3) 3 (S 1072 3)) ∧ (r = 1 → zt_tk (S0 1071) (S0 1070 2) (S0 1070 3) = 20 → zt_set (S0 1072 3) 4 (S 1072 3)) ∧ (S0 1070 3 ≤ S 1070 3) ∧ (S0 1070 3 ≤ S0 1070 2 → S 1070 3 ≤ S0 1070 2)
theorem zc_readNeighbour_2_7_3_4 {g : mm_G} {l : Launch}  (S0 : zz_S) (n : Nat) (hn : zz_end ≤ n) (G_S0 : zz_G S0)  : mm_Met g l zy_readNeighbour_2_7 zr_readNeighbour_2_7_3_4 [.ref 1072, zi 3, zi 4] (zz_M S0 n) n (zz_QI n (zp_readNeighbour_2_7_3_4  S0)) := by
  refine zz_enter (by decide) (Nat.le_of_ble_eq_true rfl) (zz_less (ls1 := [some (.ref 1072), some (zi 3), some (zi 4)]) ⟨rfl, ⟨rfl, ⟨rfl, trivial⟩⟩⟩ ?_)
  have F_S0 : zz_fr [(1070, 3), (1070, 4), (1070, 5), (1070, 6), (1072, 2), (1072, 3)] [] (fun _ _ => False) S0 S0 := zz_fr.refl
  refine zz_aload_n (x := 1072) rfl zd_2_7_0 ?_
  refine zz_getr (kd := 0) (z := 1070) zd_2_7_1 zf_Assembler_9 zT_1072 rfl (zz_ltn hn rfl) (zz_G.eq G_S0 1072 0 1070 rfl rfl) (by decide) 1070 rfl ?_
  refine zz_ldcs (t := 18) (by decide +kernel) (by decide) zd_2_7_4 ?_
  have g1 := zz_G.r G_S0 1070 2 (-1) 1500 rfl rfl
  have g2 := zz_G.r G_S0 1070 3 0 1500 rfl rfl
  refine zz_callVI [.ref (100 + 18)] zd_2_7_6 zk_Assembler_75 zT_1070 (zz_ltn hn rfl) rfl rfl ⟨Nat.le_of_ble_eq_true rfl, Nat.le_of_ble_eq_true rfl⟩ ⟨rfl, rfl⟩ (Nat.zero_le _) (Nat.zero_le _) (zc_nextIsWord_11_10 18 S0 n hn G_S0 (by omega)) (fun v4 S3 hP => ?_)
  obtain ⟨G_S3, fS3, o5, o6, o7, o8, o9, o10, o11, o12, o13, o14, o15⟩ := hP
  have F_S3 := zz_fr.trans F_S0 fS3 rfl zz_nv
  rcases (by omega : v4 = 0 ∨ v4 = 1) with rfl | rfl
  · have hw18 := zt_ISW (t := 18) (w := 19) (by decide) rfl (by decide) o14
    refine zz_if_eq (by omega) zd_2_7_9 (fun c16 => ?_) (fun c16 => ?_)
    · refine zz_aload_n (x := 1072) rfl zd_2_7_19 ?_
      refine zz_getr (kd := 0) (z := 1070) zd_2_7_20 zf_Assembler_9 zT_1072 rfl (zz_ltn hn rfl) (zz_G.eq G_S3 1072 0 1070 rfl rfl) (by decide) 1070 rfl ?_
      refine zz_ldcs (t := 19) (by decide +kernel) (by decide) zd_2_7_23 ?_
      have g17 := zz_G.r G_S3 1070 3 0 1500 rfl rfl
      have g18 := zz_G.r G_S3 1070 4 (-2147483648) 2147483647 rfl rfl
      have g19 := zz_G.r G_S3 1070 5 0 1500 rfl rfl
      refine zz_callVI [.ref (100 + 19)] zd_2_7_25 zk_Assembler_61 zT_1070 (zz_ltn hn rfl) rfl rfl ⟨Nat.le_of_ble_eq_true rfl, Nat.le_of_ble_eq_true rfl⟩ ⟨rfl, rfl⟩ (Nat.zero_le _) (Nat.zero_le _) (zc_isWord_11_9 19 S3 n hn G_S3 (by omega)) (fun v21 S20 hP => ?_)
      obtain ⟨rfl, o22, o23⟩ := hP
      rw [show S3 1071 = S0 1071 from funext (fun u => (zz_rc fS3 (zz_nc1 rfl) rfl (fun h => h) rfl))] at o23
      rcases (by omega : v21 = 0 ∨ v21 = 1) with rfl | rfl
      · have hw19 := zt_ISW (t := 19) (w := 20) (by decide) rfl (by decide) o23
        refine zz_if_eq (by omega) zd_2_7_28 (fun c24 => ?_) (fun c24 => ?_)
        · refine zz_iconst zd_2_7_44 ?_
          have g25 := zz_G.r G_S0 1072 3 (-2147483648) 2147483647 rfl rfl
          have e26 : S3 1072 3 = S0 1072 3 := (zz_rc fS3 rfl rfl (fun h => h) rfl)
          exact zz_zret zd_2_7_45 rfl (by omega) (Nat.zero_le _) (Nat.zero_le _) ⟨_, _, rfl, G_S3, F_S3, by omega, by omega, fun h => absurd h (by decide), fun h => absurd h (by decide), by omega, by omega⟩
        · exfalso; omega
      · have hw19 := zt_ISW (t := 19) (w := 20) (by decide) rfl (by decide) o23
        refine zz_if_eq (by omega) zd_2_7_28 (fun c27 => ?_) (fun c27 => ?_)
        · exfalso; omega
        · skip
          refine zz_aload_n (x := 1072) rfl zd_2_7_31 ?_
          refine zz_iload_n (x := 4) rfl zd_2_7_32 ?_
          refine zz_iconst zd_2_7_33 ?_
          have g28 := zz_G.r G_S0 1072 3 (-2147483648) 2147483647 rfl rfl
          have e29 : S3 1072 3 = S0 1072 3 := (zz_rc fS3 rfl rfl (fun h => h) rfl)
          refine zz_callVI [zi 4, zi 1] zd_2_7_34 zk_Assembler_104 zT_1072 (zz_ltn hn rfl) rfl rfl ⟨Nat.le_of_ble_eq_true rfl, Nat.le_of_ble_eq_true rfl⟩ ⟨rfl, rfl⟩ (Nat.zero_le _) (Nat.zero_le _) (zc_setOnce_2_8_4 1 S3 n hn G_S3 (by omega)) (fun v31 S30 hP => ?_)
          obtain ⟨G_S30, fS30, o32, o33, o34, o35⟩ := hP
          rw [show S3 1072 3 = S0 1072 3 from (zz_rc fS3 rfl rfl (fun h => h) rfl)] at o33
          rw [show S3 1072 3 = S0 1072 3 from (zz_rc fS3 rfl rfl (fun h => h) rfl)] at o34
          rw [show S3 1072 3 = S0 1072 3 from (zz_rc fS3 rfl rfl (fun h => h) rfl)] at o35
          have F_S30 := zz_fr.trans F_S3 fS30 rfl zz_nv
          rcases (by omega : v31 = 0 ∨ v31 = 1) with rfl | rfl
          · refine zz_if_eq (by omega) zd_2_7_37 (fun c36 => ?_) (fun c36 => ?_)
            · refine zz_iconst zd_2_7_44 ?_
              have e37 : S30 1070 3 = S3 1070 3 := (zz_rc fS30 rfl rfl (fun h => h) rfl)
              have g38 := zz_G.r G_S30 1072 3 (-2147483648) 2147483647 rfl rfl
              exact zz_zret zd_2_7_45 rfl (by omega) (Nat.zero_le _) (Nat.zero_le _) ⟨_, _, rfl, G_S30, F_S30, by omega, by omega, fun h => absurd h (by decide), fun h => absurd h (by decide), by omega, by omega⟩
            · exfalso; omega
          · refine zz_if_eq (by omega) zd_2_7_37 (fun c39 => ?_) (fun c39 => ?_)
            · exfalso; omega
            · refine zz_iconst zd_2_7_40 ?_
              refine zz_goto zd_2_7_41 ?_
              have e40 : S30 1070 3 = S3 1070 3 := (zz_rc fS30 rfl rfl (fun h => h) rfl)
              have g41 := zz_G.r G_S30 1072 3 (-2147483648) 2147483647 rfl rfl
              exact zz_zret zd_2_7_45 rfl (by omega) (Nat.zero_le _) (Nat.zero_le _) ⟨_, _, rfl, G_S30, F_S30, by omega, by omega, fun _ h9 => by omega, fun _ _ => o34 rfl, by omega, by omega⟩
    · exfalso; omega
  · have hw18 := zt_ISW (t := 18) (w := 19) (by decide) rfl (by decide) o14
    refine zz_if_eq (by omega) zd_2_7_9 (fun c42 => ?_) (fun c42 => ?_)
    · exfalso; omega
    · refine zz_aload_n (x := 1072) rfl zd_2_7_12 ?_
      refine zz_iload_n (x := 3) rfl zd_2_7_13 ?_
      refine zz_iconst zd_2_7_14 ?_
      have g43 := zz_G.r G_S0 1072 3 (-2147483648) 2147483647 rfl rfl
      have e44 : S3 1072 3 = S0 1072 3 := (zz_rc fS3 rfl rfl (fun h => h) rfl)
      refine zz_callVI [zi 3, zi 1] zd_2_7_15 zk_Assembler_104 zT_1072 (zz_ltn hn rfl) rfl rfl ⟨Nat.le_of_ble_eq_true rfl, Nat.le_of_ble_eq_true rfl⟩ ⟨rfl, rfl⟩ (Nat.zero_le _) (Nat.zero_le _) (zc_setOnce_2_8_3 1 S3 n hn G_S3 (by omega)) (fun v46 S45 hP => ?_)
      obtain ⟨G_S45, fS45, o47, o48, o49, o50⟩ := hP
      rw [show S3 1072 3 = S0 1072 3 from (zz_rc fS3 rfl rfl (fun h => h) rfl)] at o48
      rw [show S3 1072 3 = S0 1072 3 from (zz_rc fS3 rfl rfl (fun h => h) rfl)] at o49
      rw [show S3 1072 3 = S0 1072 3 from (zz_rc fS3 rfl rfl (fun h => h) rfl)] at o50
      have F_S45 := zz_fr.trans F_S3 fS45 rfl zz_nv
      rcases (by omega : v46 = 0 ∨ v46 = 1) with rfl | rfl
      · have g51 := zz_G.r G_S3 1070 3 0 1500 rfl rfl
        have e52 : S45 1070 3 = S3 1070 3 := (zz_rc fS45 rfl rfl (fun h => h) rfl)
        have g53 := zz_G.r G_S45 1072 3 (-2147483648) 2147483647 rfl rfl
        exact zz_zret zd_2_7_18 rfl (by omega) (Nat.zero_le _) (Nat.zero_le _) ⟨_, _, rfl, G_S45, F_S45, by omega, by omega, fun h => absurd h (by decide), fun h => absurd h (by decide), by omega, by omega⟩
      · have g54 := zz_G.r G_S3 1070 3 0 1500 rfl rfl
        have e55 : S45 1070 3 = S3 1070 3 := (zz_rc fS45 rfl rfl (fun h => h) rfl)
        have g56 := zz_G.r G_S45 1072 3 (-2147483648) 2147483647 rfl rfl
        exact zz_zret zd_2_7_18 rfl (by omega) (Nat.zero_le _) (Nat.zero_le _) ⟨_, _, rfl, G_S45, F_S45, by omega, by omega, fun _ _ => o49 rfl, fun _ h9 => by omega, by omega, by omega⟩
theorem zk_Assembler_88 : mm_Vl "TensorForge$Assembler" 88 7 2 zy_readNeighbour_2_7 := ⟨zyw_readNeighbour_2_7, (R_Assembler, F_Assembler, 4), rfl, mm_tb_1 682 (by decide +kernel) rfl, mm_tb_1 684 (by decide +kernel) rfl, mm_tb_s 12 (by decide +kernel) rfl⟩
theorem zg_2_5_179 : zq_at zy_readPart_2_5.2.1 179 153 ∧ zq_at zy_readPart_2_5.2.1 180 0 ∧ zq_at zy_readPart_2_5.2.1 181 7 ∧ zq_at zy_readPart_2_5.2.1 182 4 ∧ zq_at zy_readPart_2_5.2.1 183 167 ∧ zq_at zy_readPart_2_5.2.1 184 0 ∧ zq_at zy_readPart_2_5.2.1 185 4 ∧ zq_at zy_readPart_2_5.2.1 154 42 ∧ zq_at zy_readPart_2_5.2.1 155 4 ∧ zq_at zy_readPart_2_5.2.1 156 5 ∧ zq_at zy_readPart_2_5.2.1 157 182 ∧ zq_at zy_readPart_2_5.2.1 158 0 ∧ zq_at zy_readPart_2_5.2.1 159 88 := by decide +kernel
theorem zd_2_5_179 : zz_B zy_readPart_2_5 179 (Instr.ifCond .eq) 186 182 := ⟨7, zq_153 zg_2_5_179.1 zg_2_5_179.2.1 zg_2_5_179.2.2.1 (by decide), rfl, rfl⟩
theorem zd_2_5_182 : zz_D zy_readPart_2_5 182 (.iconst 1) 1 183 := ⟨zq_4 zg_2_5_179.2.2.2.1, rfl⟩
theorem zd_2_5_183 : zz_B zy_readPart_2_5 183 Instr.goto 187 186 := ⟨4, zq_167 zg_2_5_179.2.2.2.2.1 zg_2_5_179.2.2.2.2.2.1 zg_2_5_179.2.2.2.2.2.2.1 (by decide), rfl, rfl⟩
theorem zd_2_5_154 : zz_D zy_readPart_2_5 154 (.aload_n 0) 1 155 := ⟨zq_42 zg_2_5_179.2.2.2.2.2.2.2.1, rfl⟩
theorem zd_2_5_155 : zz_D zy_readPart_2_5 155 (.iconst 1) 1 156 := ⟨zq_4 zg_2_5_179.2.2.2.2.2.2.2.2.1, rfl⟩
theorem zd_2_5_156 : zz_D zy_readPart_2_5 156 (.iconst 2) 1 157 := ⟨zq_5 zg_2_5_179.2.2.2.2.2.2.2.2.2.1, rfl⟩
theorem zd_2_5_157 : zz_D zy_readPart_2_5 157 (.invokevirtual 88) 3 160 := ⟨zq_182 zg_2_5_179.2.2.2.2.2.2.2.2.2.2.1 zg_2_5_179.2.2.2.2.2.2.2.2.2.2.2.1 zg_2_5_179.2.2.2.2.2.2.2.2.2.2.2.2 rfl, rfl⟩
-- TensorForge$Assembler setOnce (II)Z
abbrev zr_setOnce_2_8_2 : Room := { frames := 1, cells := 0, slots := 0, locals := 16 }
def zp_setOnce_2_8_2 (p1 : Int) (S0 : zz_S) : Int → zz_S → Prop := fun r S => zz_G S ∧ zz_fr [(1072, 2), (1072, 3)] [] (fun _ _ => False) S0 S ∧ (0 ≤ r ∧ r ≤ 1) ∧ ((r = 1 ∧ zt_bi (S0 1072 3) 2 = 0) ∨ (r = 0 ∧ zt_bi (S0 1072 3) 2 = 1)) ∧ (r = 1 → zt_set (S0 1072 3) 2 (S 1072 3)) ∧ (r = 0 → S 1072 3 = S0 1072 3)
theorem zc_setOnce_2_8_2 {g : mm_G} {l : Launch} (p1 : Int) (S0 : zz_S) (n : Nat) (hn : zz_end ≤ n) (G_S0 : zz_G S0) (hp1 : (-2147483648) ≤ p1 ∧ p1 ≤ 2147483647) : mm_Met g l zy_setOnce_2_8 zr_setOnce_2_8_2 [.ref 1072, zi 2, zi p1] (zz_M S0 n) n (zz_QI n (zp_setOnce_2_8_2 p1 S0)) := by
  refine zz_enter (by decide) (Nat.le_of_ble_eq_true rfl) (zz_less (ls1 := [some (.ref 1072), some (zi 2), some (zi p1)]) ⟨rfl, ⟨rfl, ⟨rfl, trivial⟩⟩⟩ ?_)
  have F_S0 : zz_fr [(1072, 2), (1072, 3)] [] (fun _ _ => False) S0 S0 := zz_fr.refl
  refine zz_aload_n (x := 1072) rfl zd_2_8_0 ?_
  have g1 := zz_G.r G_S0 1072 3 (-2147483648) 2147483647 rfl rfl
  refine zz_geti (z := S0 1072 3) zd_2_8_1 zf_Assembler_23 zT_1072 rfl (zz_ltn hn rfl) rfl ?_
  refine zz_iload_n (x := 2) rfl zd_2_8_4 ?_
  refine zz_ishr zd_2_8_5 (fun v2 hv2 ev2 => ?_)
  refine zz_iconst zd_2_8_6 ?_
  refine zz_iand (by omega) (by omega) zd_2_8_7 (fun v3 hv3 av3 bv3 ev3 => ?_)
  have hb9 := zt_shb (s := S0 1072 3) (w := 2) (x := 2) (by decide) (by decide) (by assumption) (by assumption)
  refine zz_iconst zd_2_8_8 ?_
  refine zz_icmp_ne (by omega) (by omega) zd_2_8_9 (fun c4 => ?_) (fun c4 => ?_)
  · refine zz_aload_n (x := 1072) rfl zd_2_8_14 ?_
    refine zz_dup rfl zd_2_8_15 ?_
    refine zz_geti (z := S0 1072 3) zd_2_8_16 zf_Assembler_23 zT_1072 rfl (zz_ltn hn rfl) rfl ?_
    refine zz_iconst zd_2_8_19 ?_
    refine zz_iload_n (x := 2) rfl zd_2_8_20 ?_
    refine zz_ishl zd_2_8_21 (fun v5 hv5 ev5 => ?_)
    obtain rfl : v5 = 4 := ev5.trans (by decide)
    refine zz_ior (by omega) (by omega) zd_2_8_22 (fun v6 hv6 av6 ev6 => ?_)
    skip
    refine zz_puti zd_2_8_23 zf_Assembler_23 zT_1072 rfl (zz_ltn hn rfl) (fun S7 qS7 => ?_)
    have G_S7 := zz_G.put G_S0 qS7 (-2147483648) 2147483647 rfl (by omega)
    have F_S7 := zz_fr.puts F_S0 qS7 rfl
    refine zz_aload_n (x := 1072) rfl zd_2_8_26 ?_
    refine zz_dup rfl zd_2_8_27 ?_
    have g8 := zz_G.r G_S0 1072 2 (-9223372036854775808) 9223372036854775807 rfl rfl
    refine zz_getl (z := S0 1072 2) zd_2_8_28 zf_Assembler_19 zT_1072 rfl (zz_ltn hn rfl) (zz_ro qS7 (fun h => absurd h.2 (by decide)) rfl) ?_
    refine zz_iload_n (x := 2) rfl zd_2_8_31 ?_
    refine zz_iload_n (x := p1) rfl zd_2_8_32 ?_
    refine zz_callSJ [zi 2, zi p1] zd_2_8_33 zk_Assembler_50 rfl rfl ⟨Nat.le_of_ble_eq_true rfl, Nat.le_of_ble_eq_true rfl⟩ ⟨rfl, rfl⟩ (Nat.zero_le _) (Nat.zero_le _) (zc_bits_12_4 2 p1 S7 n hn G_S7 (by omega) (by omega)) (fun v10 S9 hP => ?_)
    obtain ⟨rfl, o11⟩ := hP
    refine zz_lor zd_2_8_36 (fun v12 hv12 ev12 => ?_)
    refine zz_putl zd_2_8_37 zf_Assembler_19 zT_1072 rfl (zz_ltn hn rfl) (fun S13 qS13 => ?_)
    have G_S13 := zz_G.put G_S7 qS13 (-9223372036854775808) 9223372036854775807 rfl (by omega)
    have F_S13 := zz_fr.puts F_S7 qS13 rfl
    refine zz_iconst zd_2_8_40 ?_
    have e14 : S13 1072 3 = v6 := (zz_ro qS13 (fun h => absurd h.2 (by decide)) (zz_rs qS7))
    exact zz_zret zd_2_8_41 rfl (by omega) (Nat.zero_le _) (Nat.zero_le _) ⟨_, _, rfl, G_S13, F_S13, by omega, by omega, fun _ => (by rw [show S13 1072 3 = v6 by omega]; exact zt_set1 (b := Int32.ofInt 4) (by decide) (by decide) (by assumption)), by omega⟩
  · refine zz_iconst zd_2_8_12 ?_
    exact zz_zret zd_2_8_13 rfl (by omega) (Nat.zero_le _) (Nat.zero_le _) ⟨_, _, rfl, G_S0, F_S0, by omega, by omega, fun h => absurd h (by decide), by omega⟩
-- TensorForge$Assembler setOnce (II)Z
abbrev zr_setOnce_2_8_1 : Room := { frames := 1, cells := 0, slots := 0, locals := 16 }
def zp_setOnce_2_8_1 (p1 : Int) (S0 : zz_S) : Int → zz_S → Prop := fun r S => zz_G S ∧ zz_fr [(1072, 2), (1072, 3)] [] (fun _ _ => False) S0 S ∧ (0 ≤ r ∧ r ≤ 1) ∧ ((r = 1 ∧ zt_bi (S0 1072 3) 1 = 0) ∨ (r = 0 ∧ zt_bi (S0 1072 3) 1 = 1)) ∧ (r = 1 → zt_set (S0 1072 3) 1 (S 1072 3)) ∧ (r = 0 → S 1072 3 = S0 1072 3)
theorem zc_setOnce_2_8_1 {g : mm_G} {l : Launch} (p1 : Int) (S0 : zz_S) (n : Nat) (hn : zz_end ≤ n) (G_S0 : zz_G S0) (hp1 : (-2147483648) ≤ p1 ∧ p1 ≤ 2147483647) : mm_Met g l zy_setOnce_2_8 zr_setOnce_2_8_1 [.ref 1072, zi 1, zi p1] (zz_M S0 n) n (zz_QI n (zp_setOnce_2_8_1 p1 S0)) := by
  refine zz_enter (by decide) (Nat.le_of_ble_eq_true rfl) (zz_less (ls1 := [some (.ref 1072), some (zi 1), some (zi p1)]) ⟨rfl, ⟨rfl, ⟨rfl, trivial⟩⟩⟩ ?_)
  have F_S0 : zz_fr [(1072, 2), (1072, 3)] [] (fun _ _ => False) S0 S0 := zz_fr.refl
  refine zz_aload_n (x := 1072) rfl zd_2_8_0 ?_
  have g1 := zz_G.r G_S0 1072 3 (-2147483648) 2147483647 rfl rfl
  refine zz_geti (z := S0 1072 3) zd_2_8_1 zf_Assembler_23 zT_1072 rfl (zz_ltn hn rfl) rfl ?_
  refine zz_iload_n (x := 1) rfl zd_2_8_4 ?_
  refine zz_ishr zd_2_8_5 (fun v2 hv2 ev2 => ?_)
  refine zz_iconst zd_2_8_6 ?_
  refine zz_iand (by omega) (by omega) zd_2_8_7 (fun v3 hv3 av3 bv3 ev3 => ?_)
  have hb9 := zt_shb (s := S0 1072 3) (w := 1) (x := 1) (by decide) (by decide) (by assumption) (by assumption)
  refine zz_iconst zd_2_8_8 ?_
  refine zz_icmp_ne (by omega) (by omega) zd_2_8_9 (fun c4 => ?_) (fun c4 => ?_)
  · refine zz_aload_n (x := 1072) rfl zd_2_8_14 ?_
    refine zz_dup rfl zd_2_8_15 ?_
    refine zz_geti (z := S0 1072 3) zd_2_8_16 zf_Assembler_23 zT_1072 rfl (zz_ltn hn rfl) rfl ?_
    refine zz_iconst zd_2_8_19 ?_
    refine zz_iload_n (x := 1) rfl zd_2_8_20 ?_
    refine zz_ishl zd_2_8_21 (fun v5 hv5 ev5 => ?_)
    obtain rfl : v5 = 2 := ev5.trans (by decide)
    refine zz_ior (by omega) (by omega) zd_2_8_22 (fun v6 hv6 av6 ev6 => ?_)
    skip
    refine zz_puti zd_2_8_23 zf_Assembler_23 zT_1072 rfl (zz_ltn hn rfl) (fun S7 qS7 => ?_)
    have G_S7 := zz_G.put G_S0 qS7 (-2147483648) 2147483647 rfl (by omega)
    have F_S7 := zz_fr.puts F_S0 qS7 rfl
    refine zz_aload_n (x := 1072) rfl zd_2_8_26 ?_
    refine zz_dup rfl zd_2_8_27 ?_
    have g8 := zz_G.r G_S0 1072 2 (-9223372036854775808) 9223372036854775807 rfl rfl
    refine zz_getl (z := S0 1072 2) zd_2_8_28 zf_Assembler_19 zT_1072 rfl (zz_ltn hn rfl) (zz_ro qS7 (fun h => absurd h.2 (by decide)) rfl) ?_
    refine zz_iload_n (x := 1) rfl zd_2_8_31 ?_
    refine zz_iload_n (x := p1) rfl zd_2_8_32 ?_
    refine zz_callSJ [zi 1, zi p1] zd_2_8_33 zk_Assembler_50 rfl rfl ⟨Nat.le_of_ble_eq_true rfl, Nat.le_of_ble_eq_true rfl⟩ ⟨rfl, rfl⟩ (Nat.zero_le _) (Nat.zero_le _) (zc_bits_12_4 1 p1 S7 n hn G_S7 (by omega) (by omega)) (fun v10 S9 hP => ?_)
    obtain ⟨rfl, o11⟩ := hP
    refine zz_lor zd_2_8_36 (fun v12 hv12 ev12 => ?_)
    refine zz_putl zd_2_8_37 zf_Assembler_19 zT_1072 rfl (zz_ltn hn rfl) (fun S13 qS13 => ?_)
    have G_S13 := zz_G.put G_S7 qS13 (-9223372036854775808) 9223372036854775807 rfl (by omega)
    have F_S13 := zz_fr.puts F_S7 qS13 rfl
    refine zz_iconst zd_2_8_40 ?_
    have e14 : S13 1072 3 = v6 := (zz_ro qS13 (fun h => absurd h.2 (by decide)) (zz_rs qS7))
    exact zz_zret zd_2_8_41 rfl (by omega) (Nat.zero_le _) (Nat.zero_le _) ⟨_, _, rfl, G_S13, F_S13, by omega, by omega, fun _ => (by rw [show S13 1072 3 = v6 by omega]; exact zt_set1 (b := Int32.ofInt 2) (by decide) (by decide) (by assumption)), by omega⟩
  · refine zz_iconst zd_2_8_12 ?_
    exact zz_zret zd_2_8_13 rfl (by omega) (Nat.zero_le _) (Nat.zero_le _) ⟨_, _, rfl, G_S0, F_S0, by omega, by omega, fun h => absurd h (by decide), by omega⟩
-- TensorForge$Assembler readNeighbour (II)Z
abbrev zr_readNeighbour_2_7_1_2 : Room := { frames := 6, cells := 0, slots := 0, locals := 81 }
def zp_readNeighbour_2_7_1_2  (S0 : zz_S) : Int → zz_S → Prop := fun r S => zz_G S ∧ zz_fr [(1070, 3), (1070, 4), (1070, 5), (1070, 6), (1072, 2), (1072, 3)] [] (fun _ _ => False) S0 S ∧ (0 ≤ r ∧ r ≤ 1) ∧ ((r = 1 ∧ zt_tk (S0 1071) (S0 1070 2) (S0 1070 3) = 19 ∧ zt_bi (S0 1072 3) 1 = 0 ∧ S 1070 3 = zt_te (S0 1071) (S0 1070 2) (S0 1070 3) ∧ S0 1070 3 < S 1070 3) ∨ (r = 1 ∧ zt_tk (S0 1071) (S0 1070 2) (S0 1070 3) = 20 ∧ zt_bi (S0 1072 3) 2 = 0 ∧ S 1070 3 = zt_te (S0 1071) (S0 1070 2) (S0 1070 3) ∧ S0 1070 3 < S 1070 3) ∨ (r = 0 ∧ ((zt_tk (S0 1071) (S0 1070 2) (S0 1070 3) = 19 ∧ zt_bi (S0 1072 3) 1 = 1) ∨ (zt_tk (S0 1071) (S0 1070 2) (S0 1070 3) = 20 ∧ zt_bi (S0 1072 3) 2 = 1) ∨ (zt_tk (S0 1071) (S0 1070 2) (S0 1070 3) ≠ 19 ∧ zt_tk (S0 1071) (S0 1070 2) (S0 1070 3) ≠ 20)))) ∧ (r = 1 → zt_tk (S0 1071) (S0 1070 2) (S0 1070 3) = 19 → zt_set (S0 1072 3) 1 (S 1072 3)) ∧ (r = 1 → zt_tk (S0 1071) (S0 1070 2) (S0 1070 3) = 20 → zt_set (S0 1072 3) 2 (S 1072 3)) ∧ (S0 1070 3 ≤ S 1070 3) ∧ (S0 1070 3 ≤ S0 1070 2 → S 1070 3 ≤ S0 1070 2)
theorem zc_readNeighbour_2_7_1_2 {g : mm_G} {l : Launch}  (S0 : zz_S) (n : Nat) (hn : zz_end ≤ n) (G_S0 : zz_G S0)  : mm_Met g l zy_readNeighbour_2_7 zr_readNeighbour_2_7_1_2 [.ref 1072, zi 1, zi 2] (zz_M S0 n) n (zz_QI n (zp_readNeighbour_2_7_1_2  S0)) := by
  refine zz_enter (by decide) (Nat.le_of_ble_eq_true rfl) (zz_less (ls1 := [some (.ref 1072), some (zi 1), some (zi 2)]) ⟨rfl, ⟨rfl, ⟨rfl, trivial⟩⟩⟩ ?_)
  have F_S0 : zz_fr [(1070, 3), (1070, 4), (1070, 5), (1070, 6), (1072, 2), (1072, 3)] [] (fun _ _ => False) S0 S0 := zz_fr.refl
  refine zz_aload_n (x := 1072) rfl zd_2_7_0 ?_
  refine zz_getr (kd := 0) (z := 1070) zd_2_7_1 zf_Assembler_9 zT_1072 rfl (zz_ltn hn rfl) (zz_G.eq G_S0 1072 0 1070 rfl rfl) (by decide) 1070 rfl ?_
  refine zz_ldcs (t := 18) (by decide +kernel) (by decide) zd_2_7_4 ?_
  have g1 := zz_G.r G_S0 1070 2 (-1) 1500 rfl rfl
  have g2 := zz_G.r G_S0 1070 3 0 1500 rfl rfl
  refine zz_callVI [.ref (100 + 18)] zd_2_7_6 zk_Assembler_75 zT_1070 (zz_ltn hn rfl) rfl rfl ⟨Nat.le_of_ble_eq_true rfl, Nat.le_of_ble_eq_true rfl⟩ ⟨rfl, rfl⟩ (Nat.zero_le _) (Nat.zero_le _) (zc_nextIsWord_11_10 18 S0 n hn G_S0 (by omega)) (fun v4 S3 hP => ?_)
  obtain ⟨G_S3, fS3, o5, o6, o7, o8, o9, o10, o11, o12, o13, o14, o15⟩ := hP
  have F_S3 := zz_fr.trans F_S0 fS3 rfl zz_nv
  rcases (by omega : v4 = 0 ∨ v4 = 1) with rfl | rfl
  · have hw18 := zt_ISW (t := 18) (w := 19) (by decide) rfl (by decide) o14
    refine zz_if_eq (by omega) zd_2_7_9 (fun c16 => ?_) (fun c16 => ?_)
    · refine zz_aload_n (x := 1072) rfl zd_2_7_19 ?_
      refine zz_getr (kd := 0) (z := 1070) zd_2_7_20 zf_Assembler_9 zT_1072 rfl (zz_ltn hn rfl) (zz_G.eq G_S3 1072 0 1070 rfl rfl) (by decide) 1070 rfl ?_
      refine zz_ldcs (t := 19) (by decide +kernel) (by decide) zd_2_7_23 ?_
      have g17 := zz_G.r G_S3 1070 3 0 1500 rfl rfl
      have g18 := zz_G.r G_S3 1070 4 (-2147483648) 2147483647 rfl rfl
      have g19 := zz_G.r G_S3 1070 5 0 1500 rfl rfl
      refine zz_callVI [.ref (100 + 19)] zd_2_7_25 zk_Assembler_61 zT_1070 (zz_ltn hn rfl) rfl rfl ⟨Nat.le_of_ble_eq_true rfl, Nat.le_of_ble_eq_true rfl⟩ ⟨rfl, rfl⟩ (Nat.zero_le _) (Nat.zero_le _) (zc_isWord_11_9 19 S3 n hn G_S3 (by omega)) (fun v21 S20 hP => ?_)
      obtain ⟨rfl, o22, o23⟩ := hP
      rw [show S3 1071 = S0 1071 from funext (fun u => (zz_rc fS3 (zz_nc1 rfl) rfl (fun h => h) rfl))] at o23
      rcases (by omega : v21 = 0 ∨ v21 = 1) with rfl | rfl
      · have hw19 := zt_ISW (t := 19) (w := 20) (by decide) rfl (by decide) o23
        refine zz_if_eq (by omega) zd_2_7_28 (fun c24 => ?_) (fun c24 => ?_)
        · refine zz_iconst zd_2_7_44 ?_
          have g25 := zz_G.r G_S0 1072 3 (-2147483648) 2147483647 rfl rfl
          have e26 : S3 1072 3 = S0 1072 3 := (zz_rc fS3 rfl rfl (fun h => h) rfl)
          exact zz_zret zd_2_7_45 rfl (by omega) (Nat.zero_le _) (Nat.zero_le _) ⟨_, _, rfl, G_S3, F_S3, by omega, by omega, fun h => absurd h (by decide), fun h => absurd h (by decide), by omega, by omega⟩
        · exfalso; omega
      · have hw19 := zt_ISW (t := 19) (w := 20) (by decide) rfl (by decide) o23
        refine zz_if_eq (by omega) zd_2_7_28 (fun c27 => ?_) (fun c27 => ?_)
        · exfalso; omega
        · skip
          refine zz_aload_n (x := 1072) rfl zd_2_7_31 ?_
          refine zz_iload_n (x := 2) rfl zd_2_7_32 ?_
          refine zz_iconst zd_2_7_33 ?_
          have g28 := zz_G.r G_S0 1072 3 (-2147483648) 2147483647 rfl rfl
          have e29 : S3 1072 3 = S0 1072 3 := (zz_rc fS3 rfl rfl (fun h => h) rfl)
          refine zz_callVI [zi 2, zi 1] zd_2_7_34 zk_Assembler_104 zT_1072 (zz_ltn hn rfl) rfl rfl ⟨Nat.le_of_ble_eq_true rfl, Nat.le_of_ble_eq_true rfl⟩ ⟨rfl, rfl⟩ (Nat.zero_le _) (Nat.zero_le _) (zc_setOnce_2_8_2 1 S3 n hn G_S3 (by omega)) (fun v31 S30 hP => ?_)
          obtain ⟨G_S30, fS30, o32, o33, o34, o35⟩ := hP
          rw [show S3 1072 3 = S0 1072 3 from (zz_rc fS3 rfl rfl (fun h => h) rfl)] at o33
          rw [show S3 1072 3 = S0 1072 3 from (zz_rc fS3 rfl rfl (fun h => h) rfl)] at o34
          rw [show S3 1072 3 = S0 1072 3 from (zz_rc fS3 rfl rfl (fun h => h) rfl)] at o35
          have F_S30 := zz_fr.trans F_S3 fS30 rfl zz_nv
          rcases (by omega : v31 = 0 ∨ v31 = 1) with rfl | rfl
          · refine zz_if_eq (by omega) zd_2_7_37 (fun c36 => ?_) (fun c36 => ?_)
            · refine zz_iconst zd_2_7_44 ?_
              have e37 : S30 1070 3 = S3 1070 3 := (zz_rc fS30 rfl rfl (fun h => h) rfl)
              have g38 := zz_G.r G_S30 1072 3 (-2147483648) 2147483647 rfl rfl
              exact zz_zret zd_2_7_45 rfl (by omega) (Nat.zero_le _) (Nat.zero_le _) ⟨_, _, rfl, G_S30, F_S30, by omega, by omega, fun h => absurd h (by decide), fun h => absurd h (by decide), by omega, by omega⟩
            · exfalso; omega
          · refine zz_if_eq (by omega) zd_2_7_37 (fun c39 => ?_) (fun c39 => ?_)
            · exfalso; omega
            · refine zz_iconst zd_2_7_40 ?_
              refine zz_goto zd_2_7_41 ?_
              have e40 : S30 1070 3 = S3 1070 3 := (zz_rc fS30 rfl rfl (fun h => h) rfl)
              have g41 := zz_G.r G_S30 1072 3 (-2147483648) 2147483647 rfl rfl
              exact zz_zret zd_2_7_45 rfl (by omega) (Nat.zero_le _) (Nat.zero_le _) ⟨_, _, rfl, G_S30, F_S30, by omega, by omega, fun _ h9 => by omega, fun _ _ => o34 rfl, by omega, by omega⟩
    · exfalso; omega
  · have hw18 := zt_ISW (t := 18) (w := 19) (by decide) rfl (by decide) o14
    refine zz_if_eq (by omega) zd_2_7_9 (fun c42 => ?_) (fun c42 => ?_)
    · exfalso; omega
    · refine zz_aload_n (x := 1072) rfl zd_2_7_12 ?_
      refine zz_iload_n (x := 1) rfl zd_2_7_13 ?_
      refine zz_iconst zd_2_7_14 ?_
      have g43 := zz_G.r G_S0 1072 3 (-2147483648) 2147483647 rfl rfl
      have e44 : S3 1072 3 = S0 1072 3 := (zz_rc fS3 rfl rfl (fun h => h) rfl)
      refine zz_callVI [zi 1, zi 1] zd_2_7_15 zk_Assembler_104 zT_1072 (zz_ltn hn rfl) rfl rfl ⟨Nat.le_of_ble_eq_true rfl, Nat.le_of_ble_eq_true rfl⟩ ⟨rfl, rfl⟩ (Nat.zero_le _) (Nat.zero_le _) (zc_setOnce_2_8_1 1 S3 n hn G_S3 (by omega)) (fun v46 S45 hP => ?_)
      obtain ⟨G_S45, fS45, o47, o48, o49, o50⟩ := hP
      rw [show S3 1072 3 = S0 1072 3 from (zz_rc fS3 rfl rfl (fun h => h) rfl)] at o48
      rw [show S3 1072 3 = S0 1072 3 from (zz_rc fS3 rfl rfl (fun h => h) rfl)] at o49
      rw [show S3 1072 3 = S0 1072 3 from (zz_rc fS3 rfl rfl (fun h => h) rfl)] at o50
      have F_S45 := zz_fr.trans F_S3 fS45 rfl zz_nv
      rcases (by omega : v46 = 0 ∨ v46 = 1) with rfl | rfl
      · have g51 := zz_G.r G_S3 1070 3 0 1500 rfl rfl
        have e52 : S45 1070 3 = S3 1070 3 := (zz_rc fS45 rfl rfl (fun h => h) rfl)
        have g53 := zz_G.r G_S45 1072 3 (-2147483648) 2147483647 rfl rfl
        exact zz_zret zd_2_7_18 rfl (by omega) (Nat.zero_le _) (Nat.zero_le _) ⟨_, _, rfl, G_S45, F_S45, by omega, by omega, fun h => absurd h (by decide), fun h => absurd h (by decide), by omega, by omega⟩
      · have g54 := zz_G.r G_S3 1070 3 0 1500 rfl rfl
        have e55 : S45 1070 3 = S3 1070 3 := (zz_rc fS45 rfl rfl (fun h => h) rfl)
        have g56 := zz_G.r G_S45 1072 3 (-2147483648) 2147483647 rfl rfl
        exact zz_zret zd_2_7_18 rfl (by omega) (Nat.zero_le _) (Nat.zero_le _) ⟨_, _, rfl, G_S45, F_S45, by omega, by omega, fun _ _ => o49 rfl, fun _ h9 => by omega, by omega, by omega⟩
abbrev zy_readNumber_2_6 : mm_Y := (⟨"TensorForge$Assembler", "readNumber", "(I)Z"⟩, prog_2_method_6_code, 2, (some .boolean))
theorem zyw_readNumber_2_6 : mm_Yw zy_readNumber_2_6 1 := ⟨mm_tb_1 657 (by decide +kernel) rfl, mm_tb_1 8 (by decide +kernel) rfl, ⟨by decide, by decide⟩, by decide +kernel⟩
abbrev zy_nextIsNumber_11_11 : mm_Y := (⟨"TensorForge$Text", "nextIsNumber", "()Z"⟩, prog_11_method_11_code, 1, (some .boolean))
theorem zyw_nextIsNumber_11_11 : mm_Yw zy_nextIsNumber_11_11 0 := ⟨mm_tb_1 661 (by decide +kernel) rfl, mm_tb_1 7 (by decide +kernel) rfl, ⟨by decide, by decide⟩, by decide +kernel⟩
theorem zg_2_5_160 : zq_at zy_readPart_2_5.2.1 160 172 ∧ zq_at zy_readPart_2_5.2.1 135 42 ∧ zq_at zy_readPart_2_5.2.1 136 16 ∧ zq_at zy_readPart_2_5.2.1 137 11 ∧ zq_at zy_readPart_2_5.2.1 138 182 ∧ zq_at zy_readPart_2_5.2.1 139 0 ∧ zq_at zy_readPart_2_5.2.1 140 67 := by decide +kernel
theorem zd_2_5_160 : zz_D zy_readPart_2_5 160 (.ireturn) 1 161 := ⟨zq_172 zg_2_5_160.1, rfl⟩
theorem zd_2_5_135 : zz_D zy_readPart_2_5 135 (.aload_n 0) 1 136 := ⟨zq_42 zg_2_5_160.2.1, rfl⟩
theorem zd_2_5_136 : zz_D zy_readPart_2_5 136 (.bipush 11) 2 138 := ⟨zq_16 zg_2_5_160.2.2.1 zg_2_5_160.2.2.2.1 (by decide), rfl⟩
theorem zd_2_5_138 : zz_D zy_readPart_2_5 138 (.invokevirtual 67) 3 141 := ⟨zq_182 zg_2_5_160.2.2.2.2.1 zg_2_5_160.2.2.2.2.2.1 zg_2_5_160.2.2.2.2.2.2 rfl, rfl⟩
theorem zg_2_6_0 : zq_at zy_readNumber_2_6.2.1 0 42 ∧ zq_at zy_readNumber_2_6.2.1 1 180 ∧ zq_at zy_readNumber_2_6.2.1 2 0 ∧ zq_at zy_readNumber_2_6.2.1 3 9 ∧ zq_at zy_readNumber_2_6.2.1 4 182 ∧ zq_at zy_readNumber_2_6.2.1 5 0 ∧ zq_at zy_readNumber_2_6.2.1 6 94 := by decide +kernel
theorem zd_2_6_0 : zz_D zy_readNumber_2_6 0 (.aload_n 0) 1 1 := ⟨zq_42 zg_2_6_0.1, rfl⟩
theorem zd_2_6_1 : zz_D zy_readNumber_2_6 1 (.getfield 9) 3 4 := ⟨zq_180 zg_2_6_0.2.1 zg_2_6_0.2.2.1 zg_2_6_0.2.2.2.1 rfl, rfl⟩
theorem zd_2_6_4 : zz_D zy_readNumber_2_6 4 (.invokevirtual 94) 3 7 := ⟨zq_182 zg_2_6_0.2.2.2.2.1 zg_2_6_0.2.2.2.2.2.1 zg_2_6_0.2.2.2.2.2.2 rfl, rfl⟩
theorem zg_11_11_0 : zq_at zy_nextIsNumber_11_11.2.1 0 42 ∧ zq_at zy_nextIsNumber_11_11.2.1 1 182 ∧ zq_at zy_nextIsNumber_11_11.2.1 2 0 ∧ zq_at zy_nextIsNumber_11_11.2.1 3 47 ∧ zq_at zy_nextIsNumber_11_11.2.1 4 42 ∧ zq_at zy_nextIsNumber_11_11.2.1 5 180 ∧ zq_at zy_nextIsNumber_11_11.2.1 6 0 ∧ zq_at zy_nextIsNumber_11_11.2.1 7 28 ∧ zq_at zy_nextIsNumber_11_11.2.1 8 5 ∧ zq_at zy_nextIsNumber_11_11.2.1 9 160 ∧ zq_at zy_nextIsNumber_11_11.2.1 10 0 ∧ zq_at zy_nextIsNumber_11_11.2.1 11 7 ∧ zq_at zy_nextIsNumber_11_11.2.1 16 3 ∧ zq_at zy_nextIsNumber_11_11.2.1 17 172 ∧ zq_at zy_nextIsNumber_11_11.2.1 12 4 ∧ zq_at zy_nextIsNumber_11_11.2.1 13 167 ∧ zq_at zy_nextIsNumber_11_11.2.1 14 0 ∧ zq_at zy_nextIsNumber_11_11.2.1 15 4 := by decide +kernel
theorem zd_11_11_0 : zz_D zy_nextIsNumber_11_11 0 (.aload_n 0) 1 1 := ⟨zq_42 zg_11_11_0.1, rfl⟩
theorem zd_11_11_1 : zz_D zy_nextIsNumber_11_11 1 (.invokevirtual 47) 3 4 := ⟨zq_182 zg_11_11_0.2.1 zg_11_11_0.2.2.1 zg_11_11_0.2.2.2.1 rfl, rfl⟩
theorem zd_11_11_4 : zz_D zy_nextIsNumber_11_11 4 (.aload_n 0) 1 5 := ⟨zq_42 zg_11_11_0.2.2.2.2.1, rfl⟩
theorem zd_11_11_5 : zz_D zy_nextIsNumber_11_11 5 (.getfield 28) 3 8 := ⟨zq_180 zg_11_11_0.2.2.2.2.2.1 zg_11_11_0.2.2.2.2.2.2.1 zg_11_11_0.2.2.2.2.2.2.2.1 rfl, rfl⟩
theorem zd_11_11_8 : zz_D zy_nextIsNumber_11_11 8 (.iconst 2) 1 9 := ⟨zq_5 zg_11_11_0.2.2.2.2.2.2.2.2.1, rfl⟩
theorem zd_11_11_9 : zz_B zy_nextIsNumber_11_11 9 (Instr.if_icmp .ne) 16 12 := ⟨7, zq_160 zg_11_11_0.2.2.2.2.2.2.2.2.2.1 zg_11_11_0.2.2.2.2.2.2.2.2.2.2.1 zg_11_11_0.2.2.2.2.2.2.2.2.2.2.2.1 (by decide), rfl, rfl⟩
theorem zd_11_11_16 : zz_D zy_nextIsNumber_11_11 16 (.iconst 0) 1 17 := ⟨zq_3 zg_11_11_0.2.2.2.2.2.2.2.2.2.2.2.2.1, rfl⟩
theorem zd_11_11_17 : zz_D zy_nextIsNumber_11_11 17 (.ireturn) 1 18 := ⟨zq_172 zg_11_11_0.2.2.2.2.2.2.2.2.2.2.2.2.2.1, rfl⟩
theorem zd_11_11_12 : zz_D zy_nextIsNumber_11_11 12 (.iconst 1) 1 13 := ⟨zq_4 zg_11_11_0.2.2.2.2.2.2.2.2.2.2.2.2.2.2.1, rfl⟩
theorem zd_11_11_13 : zz_B zy_nextIsNumber_11_11 13 Instr.goto 17 16 := ⟨4, zq_167 zg_11_11_0.2.2.2.2.2.2.2.2.2.2.2.2.2.2.2.1 zg_11_11_0.2.2.2.2.2.2.2.2.2.2.2.2.2.2.2.2.1 zg_11_11_0.2.2.2.2.2.2.2.2.2.2.2.2.2.2.2.2.2 (by decide), rfl, rfl⟩
-- TensorForge$Text nextIsNumber ()Z
abbrev zr_nextIsNumber_11_11 : Room := { frames := 1, cells := 0, slots := 0, locals := 12 }
def zp_nextIsNumber_11_11  (S0 : zz_S) : Int → zz_S → Prop := fun r S => zz_G S ∧ zz_fr [(1070, 3), (1070, 4), (1070, 5), (1070, 6)] [] (fun _ _ => False) S0 S ∧ (0 ≤ r ∧ r ≤ 1) ∧ (zt_co (S 1070 4) (zt_wl (S0 1071) (S 1070 5) (S 1070 3) 20) = zt_tk (S0 1071) (S0 1070 2) (S0 1070 3)) ∧ (S 1070 3 = zt_te (S0 1071) (S0 1070 2) (S0 1070 3)) ∧ (S 1070 4 = 2 → S 1070 6 = zt_tv (S0 1071) (S0 1070 2) (S0 1070 3)) ∧ (0 ≤ S 1070 4 ∧ S 1070 4 ≤ 3) ∧ (S0 1070 3 ≤ S 1070 3) ∧ (S 1070 4 = 1 ∨ S 1070 4 = 2 → S0 1070 3 < S 1070 3) ∧ (S 1070 4 = 2 → 0 ≤ S 1070 6 ∧ S 1070 6 ≤ 9999) ∧ (S0 1070 3 ≤ S0 1070 2 → S 1070 3 ≤ S0 1070 2) ∧ ((r = 1 ∧ zt_tk (S0 1071) (S0 1070 2) (S0 1070 3) = 100 ∧ S 1070 4 = 2) ∨ (r = 0 ∧ zt_tk (S0 1071) (S0 1070 2) (S0 1070 3) ≠ 100 ∧ S 1070 4 ≠ 2)) ∧ (zt_NK (S0 1071) (S0 1070 2) (S0 1070 3) (S 1070 4) (S 1070 5) (S 1070 3))
theorem zc_nextIsNumber_11_11 {g : mm_G} {l : Launch}  (S0 : zz_S) (n : Nat) (hn : zz_end ≤ n) (G_S0 : zz_G S0)  : mm_Met g l zy_nextIsNumber_11_11 zr_nextIsNumber_11_11 [.ref 1070] (zz_M S0 n) n (zz_QI n (zp_nextIsNumber_11_11  S0)) := by
  refine zz_enter (by decide) (Nat.le_of_ble_eq_true rfl) (zz_less (ls1 := [some (.ref 1070)]) ⟨rfl, trivial⟩ ?_)
  have F_S0 : zz_fr [(1070, 3), (1070, 4), (1070, 5), (1070, 6)] [] (fun _ _ => False) S0 S0 := zz_fr.refl
  refine zz_aload_n (x := 1070) rfl zd_11_11_0 ?_
  have g1 := zz_G.r G_S0 1070 2 (-1) 1500 rfl rfl
  have g2 := zz_G.r G_S0 1070 3 0 1500 rfl rfl
  refine zz_callVV [] zd_11_11_1 zk_Text_47 zT_1070 (zz_ltn hn rfl) rfl rfl ⟨Nat.le_of_ble_eq_true rfl, Nat.le_of_ble_eq_true rfl⟩ ⟨rfl, rfl⟩ (Nat.zero_le _) (Nat.zero_le _) (zc_nextToken_11_7  S0 n hn G_S0 ) (fun S3 hP => ?_)
  obtain ⟨G_S3, fS3, o5, o6, o7, o8, o9, o10, o11, o12, o13⟩ := hP
  have F_S3 := zz_fr.trans F_S0 fS3 rfl zz_nv
  refine zz_aload_n (x := 1070) rfl zd_11_11_4 ?_
  have g14 := zz_G.r G_S3 1070 4 (-2147483648) 2147483647 rfl rfl
  refine zz_geti (z := S3 1070 4) zd_11_11_5 zf_Text_28 zT_1070 rfl (zz_ltn hn rfl) rfl ?_
  refine zz_iconst zd_11_11_8 ?_
  refine zz_icmp_ne (by omega) (by omega) zd_11_11_9 (fun c15 => ?_) (fun c15 => ?_)
  · refine zz_iconst zd_11_11_16 ?_
    have g16 := zz_G.r G_S3 1070 3 0 1500 rfl rfl
    have g17 := zz_G.r G_S3 1070 5 0 1500 rfl rfl
    have g18 := zz_G.r G_S3 1070 6 (-2147483648) 2147483647 rfl rfl
    exact zz_zret zd_11_11_17 rfl (by omega) (Nat.zero_le _) (Nat.zero_le _) ⟨_, _, rfl, G_S3, F_S3, by omega, by omega, by omega, by omega, by omega, by omega, by omega, by omega, by omega, (by have h9 := zt_c100 (s := S3 1070 4) (f := (S0 1071)) (q := S3 1070 5) (p := S3 1070 3) (by omega); have h8 : zt_co (S3 1070 4) (zt_wl (S0 1071) (S3 1070 5) (S3 1070 3) 20) = zt_tk (S0 1071) (S0 1070 2) (S0 1070 3) := o5; omega), o13⟩
  · refine zz_iconst zd_11_11_12 ?_
    refine zz_goto zd_11_11_13 ?_
    have g19 := zz_G.r G_S3 1070 3 0 1500 rfl rfl
    have g20 := zz_G.r G_S3 1070 5 0 1500 rfl rfl
    have g21 := zz_G.r G_S3 1070 6 (-2147483648) 2147483647 rfl rfl
    exact zz_zret zd_11_11_17 rfl (by omega) (Nat.zero_le _) (Nat.zero_le _) ⟨_, _, rfl, G_S3, F_S3, by omega, by omega, by omega, by omega, by omega, by omega, by omega, by omega, by omega, (by have h9 := zt_c100 (s := S3 1070 4) (f := (S0 1071)) (q := S3 1070 5) (p := S3 1070 3) (by omega); have h8 : zt_co (S3 1070 4) (zt_wl (S0 1071) (S3 1070 5) (S3 1070 3) 20) = zt_tk (S0 1071) (S0 1070 2) (S0 1070 3) := o5; omega), o13⟩
theorem zk_Assembler_94 : mm_Vl "TensorForge$Assembler" 94 6 0 zy_nextIsNumber_11_11 := ⟨zyw_nextIsNumber_11_11, (R_Text, F_Text, 7), rfl, mm_tb_1 658 (by decide +kernel) rfl, mm_tb_1 659 (by decide +kernel) rfl, mm_tb_1 660 (by decide +kernel) rfl⟩
theorem zf_Assembler_97 : mm_Fl "TensorForge$Assembler" 97 6 6 .int false := ⟨R_Text, F_Text, 7, t_Text, rfl, i_Text, by decide, mm_tb_1 297 (by decide +kernel) rfl, rfl, t_Text_ok, n_Text, rfl, by decide +kernel⟩
abbrev zy_most_12_7 : mm_Y := (⟨"TensorForge$Words", "most", "(I)I"⟩, prog_12_method_7_code, 1, (some .int))
theorem zyw_most_12_7 : mm_Yw zy_most_12_7 1 := ⟨mm_tb_1 665 (by decide +kernel) rfl, mm_tb_1 20 (by decide +kernel) rfl, ⟨by decide, by decide⟩, by decide +kernel⟩
theorem zg_2_6_7 : zq_at zy_readNumber_2_6.2.1 7 153 ∧ zq_at zy_readNumber_2_6.2.1 8 0 ∧ zq_at zy_readNumber_2_6.2.1 9 36 ∧ zq_at zy_readNumber_2_6.2.1 43 3 ∧ zq_at zy_readNumber_2_6.2.1 44 172 ∧ zq_at zy_readNumber_2_6.2.1 10 42 ∧ zq_at zy_readNumber_2_6.2.1 11 180 ∧ zq_at zy_readNumber_2_6.2.1 12 0 ∧ zq_at zy_readNumber_2_6.2.1 13 9 ∧ zq_at zy_readNumber_2_6.2.1 14 180 ∧ zq_at zy_readNumber_2_6.2.1 15 0 ∧ zq_at zy_readNumber_2_6.2.1 16 97 ∧ zq_at zy_readNumber_2_6.2.1 17 27 ∧ zq_at zy_readNumber_2_6.2.1 18 184 ∧ zq_at zy_readNumber_2_6.2.1 19 0 ∧ zq_at zy_readNumber_2_6.2.1 20 100 := by decide +kernel
theorem zd_2_6_7 : zz_B zy_readNumber_2_6 7 (Instr.ifCond .eq) 43 10 := ⟨36, zq_153 zg_2_6_7.1 zg_2_6_7.2.1 zg_2_6_7.2.2.1 (by decide), rfl, rfl⟩
theorem zd_2_6_43 : zz_D zy_readNumber_2_6 43 (.iconst 0) 1 44 := ⟨zq_3 zg_2_6_7.2.2.2.1, rfl⟩
theorem zd_2_6_44 : zz_D zy_readNumber_2_6 44 (.ireturn) 1 45 := ⟨zq_172 zg_2_6_7.2.2.2.2.1, rfl⟩
theorem zd_2_6_10 : zz_D zy_readNumber_2_6 10 (.aload_n 0) 1 11 := ⟨zq_42 zg_2_6_7.2.2.2.2.2.1, rfl⟩
theorem zd_2_6_11 : zz_D zy_readNumber_2_6 11 (.getfield 9) 3 14 := ⟨zq_180 zg_2_6_7.2.2.2.2.2.2.1 zg_2_6_7.2.2.2.2.2.2.2.1 zg_2_6_7.2.2.2.2.2.2.2.2.1 rfl, rfl⟩
theorem zd_2_6_14 : zz_D zy_readNumber_2_6 14 (.getfield 97) 3 17 := ⟨zq_180 zg_2_6_7.2.2.2.2.2.2.2.2.2.1 zg_2_6_7.2.2.2.2.2.2.2.2.2.2.1 zg_2_6_7.2.2.2.2.2.2.2.2.2.2.2.1 rfl, rfl⟩
theorem zd_2_6_17 : zz_D zy_readNumber_2_6 17 (.iload_n 1) 1 18 := ⟨zq_27 zg_2_6_7.2.2.2.2.2.2.2.2.2.2.2.2.1, rfl⟩
theorem zd_2_6_18 : zz_D zy_readNumber_2_6 18 (.invokestatic 100) 3 21 := ⟨zq_184 zg_2_6_7.2.2.2.2.2.2.2.2.2.2.2.2.2.1 zg_2_6_7.2.2.2.2.2.2.2.2.2.2.2.2.2.2.1 zg_2_6_7.2.2.2.2.2.2.2.2.2.2.2.2.2.2.2 rfl, rfl⟩
theorem zg_12_7_0 : zq_at zy_most_12_7.2.1 0 26 ∧ zq_at zy_most_12_7.2.1 1 155 ∧ zq_at zy_most_12_7.2.1 2 0 ∧ zq_at zy_most_12_7.2.1 3 9 ∧ zq_at zy_most_12_7.2.1 4 26 ∧ zq_at zy_most_12_7.2.1 5 16 ∧ zq_at zy_most_12_7.2.1 6 12 ∧ zq_at zy_most_12_7.2.1 7 161 ∧ zq_at zy_most_12_7.2.1 8 0 ∧ zq_at zy_most_12_7.2.1 9 7 ∧ zq_at zy_most_12_7.2.1 14 178 ∧ zq_at zy_most_12_7.2.1 15 0 ∧ zq_at zy_most_12_7.2.1 16 13 ∧ zq_at zy_most_12_7.2.1 17 26 ∧ zq_at zy_most_12_7.2.1 18 46 ∧ zq_at zy_most_12_7.2.1 19 172 := by decide +kernel
theorem zd_12_7_0 : zz_D zy_most_12_7 0 (.iload_n 0) 1 1 := ⟨zq_26 zg_12_7_0.1, rfl⟩
theorem zd_12_7_1 : zz_B zy_most_12_7 1 (Instr.ifCond .lt) 10 4 := ⟨9, zq_155 zg_12_7_0.2.1 zg_12_7_0.2.2.1 zg_12_7_0.2.2.2.1 (by decide), rfl, rfl⟩
theorem zd_12_7_4 : zz_D zy_most_12_7 4 (.iload_n 0) 1 5 := ⟨zq_26 zg_12_7_0.2.2.2.2.1, rfl⟩
theorem zd_12_7_5 : zz_D zy_most_12_7 5 (.bipush 12) 2 7 := ⟨zq_16 zg_12_7_0.2.2.2.2.2.1 zg_12_7_0.2.2.2.2.2.2.1 (by decide), rfl⟩
theorem zd_12_7_7 : zz_B zy_most_12_7 7 (Instr.if_icmp .lt) 14 10 := ⟨7, zq_161 zg_12_7_0.2.2.2.2.2.2.2.1 zg_12_7_0.2.2.2.2.2.2.2.2.1 zg_12_7_0.2.2.2.2.2.2.2.2.2.1 (by decide), rfl, rfl⟩
theorem zd_12_7_14 : zz_D zy_most_12_7 14 (.getstatic 13) 3 17 := ⟨zq_178 zg_12_7_0.2.2.2.2.2.2.2.2.2.2.1 zg_12_7_0.2.2.2.2.2.2.2.2.2.2.2.1 zg_12_7_0.2.2.2.2.2.2.2.2.2.2.2.2.1 rfl, rfl⟩
theorem zd_12_7_17 : zz_D zy_most_12_7 17 (.iload_n 0) 1 18 := ⟨zq_26 zg_12_7_0.2.2.2.2.2.2.2.2.2.2.2.2.2.1, rfl⟩
theorem zd_12_7_18 : zz_D zy_most_12_7 18 (.iaload) 1 19 := ⟨zq_46 zg_12_7_0.2.2.2.2.2.2.2.2.2.2.2.2.2.2.1, rfl⟩
theorem zd_12_7_19 : zz_D zy_most_12_7 19 (.ireturn) 1 20 := ⟨zq_172 zg_12_7_0.2.2.2.2.2.2.2.2.2.2.2.2.2.2.2, rfl⟩
-- TensorForge$Words most (I)I
abbrev zr_most_12_7x_11 : Room := { frames := 0, cells := 0, slots := 0, locals := 0 }
def zp_most_12_7x_11  (S0 : zz_S) : Int → zz_S → Prop := fun r S => S0 = S ∧ (31 ≤ r ∧ r ≤ 31)
theorem zc_most_12_7x_11 {g : mm_G} {l : Launch}  (S0 : zz_S) (n : Nat) (hn : zz_end ≤ n) (G_S0 : zz_G S0)  : mm_Met g l zy_most_12_7 zr_most_12_7x_11 [zi 11] (zz_M S0 n) n (zz_QI n (zp_most_12_7x_11  S0)) := by
  refine zz_enter (by decide) (Nat.le_of_ble_eq_true rfl) (zz_less (ls1 := [some (zi 11)]) ⟨rfl, trivial⟩ ?_)
  refine zz_iload_n (x := 11) rfl zd_12_7_0 ?_
  refine zz_if_lt (by omega) zd_12_7_1 (fun c1 => ?_) (fun c1 => ?_)
  · exfalso; omega
  · refine zz_iload_n (x := 11) rfl zd_12_7_4 ?_
    refine zz_bipush (by decide) zd_12_7_5 ?_
    refine zz_icmp_lt (by omega) (by omega) zd_12_7_7 (fun c2 => ?_) (fun c2 => ?_)
    · refine zz_gets (q0 := 2) zd_12_7_14 rfl (by decide) zs_Words_13 ?_
      refine zz_iload_n (x := 11) rfl zd_12_7_17 ?_
      refine zz_tiald 31 zd_12_7_18 rfl (by decide) rfl (by decide) (by decide) rfl ?_
      exact zz_iret zd_12_7_19 rfl (Nat.zero_le _) (Nat.zero_le _) ⟨_, _, rfl, rfl, by omega⟩
    · exfalso; omega
theorem zk_Assembler_100 : mm_Sl "TensorForge$Assembler" 100 1 zy_most_12_7 := ⟨zyw_most_12_7, mm_tb_1 663 (by decide +kernel) rfl, mm_tb_1 664 (by decide +kernel) rfl⟩
theorem zg_2_6_21 : zq_at zy_readNumber_2_6.2.1 21 163 ∧ zq_at zy_readNumber_2_6.2.1 22 0 ∧ zq_at zy_readNumber_2_6.2.1 23 22 ∧ zq_at zy_readNumber_2_6.2.1 24 42 ∧ zq_at zy_readNumber_2_6.2.1 25 27 ∧ zq_at zy_readNumber_2_6.2.1 26 42 ∧ zq_at zy_readNumber_2_6.2.1 27 180 ∧ zq_at zy_readNumber_2_6.2.1 28 0 ∧ zq_at zy_readNumber_2_6.2.1 29 9 ∧ zq_at zy_readNumber_2_6.2.1 30 180 ∧ zq_at zy_readNumber_2_6.2.1 31 0 ∧ zq_at zy_readNumber_2_6.2.1 32 97 ∧ zq_at zy_readNumber_2_6.2.1 33 182 ∧ zq_at zy_readNumber_2_6.2.1 34 0 ∧ zq_at zy_readNumber_2_6.2.1 35 104 := by decide +kernel
theorem zd_2_6_21 : zz_B zy_readNumber_2_6 21 (Instr.if_icmp .gt) 43 24 := ⟨22, zq_163 zg_2_6_21.1 zg_2_6_21.2.1 zg_2_6_21.2.2.1 (by decide), rfl, rfl⟩
theorem zd_2_6_24 : zz_D zy_readNumber_2_6 24 (.aload_n 0) 1 25 := ⟨zq_42 zg_2_6_21.2.2.2.1, rfl⟩
theorem zd_2_6_25 : zz_D zy_readNumber_2_6 25 (.iload_n 1) 1 26 := ⟨zq_27 zg_2_6_21.2.2.2.2.1, rfl⟩
theorem zd_2_6_26 : zz_D zy_readNumber_2_6 26 (.aload_n 0) 1 27 := ⟨zq_42 zg_2_6_21.2.2.2.2.2.1, rfl⟩
theorem zd_2_6_27 : zz_D zy_readNumber_2_6 27 (.getfield 9) 3 30 := ⟨zq_180 zg_2_6_21.2.2.2.2.2.2.1 zg_2_6_21.2.2.2.2.2.2.2.1 zg_2_6_21.2.2.2.2.2.2.2.2.1 rfl, rfl⟩
theorem zd_2_6_30 : zz_D zy_readNumber_2_6 30 (.getfield 97) 3 33 := ⟨zq_180 zg_2_6_21.2.2.2.2.2.2.2.2.2.1 zg_2_6_21.2.2.2.2.2.2.2.2.2.2.1 zg_2_6_21.2.2.2.2.2.2.2.2.2.2.2.1 rfl, rfl⟩
theorem zd_2_6_33 : zz_D zy_readNumber_2_6 33 (.invokevirtual 104) 3 36 := ⟨zq_182 zg_2_6_21.2.2.2.2.2.2.2.2.2.2.2.2.1 zg_2_6_21.2.2.2.2.2.2.2.2.2.2.2.2.2.1 zg_2_6_21.2.2.2.2.2.2.2.2.2.2.2.2.2.2 rfl, rfl⟩
-- TensorForge$Assembler setOnce (II)Z
abbrev zr_setOnce_2_8_11 : Room := { frames := 1, cells := 0, slots := 0, locals := 16 }
def zp_setOnce_2_8_11 (p1 : Int) (S0 : zz_S) : Int → zz_S → Prop := fun r S => zz_G S ∧ zz_fr [(1072, 2), (1072, 3)] [] (fun _ _ => False) S0 S ∧ (0 ≤ r ∧ r ≤ 1) ∧ ((r = 1 ∧ zt_bi (S0 1072 3) 11 = 0) ∨ (r = 0 ∧ zt_bi (S0 1072 3) 11 = 1)) ∧ (r = 1 → zt_set (S0 1072 3) 11 (S 1072 3)) ∧ (r = 0 → S 1072 3 = S0 1072 3)
theorem zc_setOnce_2_8_11 {g : mm_G} {l : Launch} (p1 : Int) (S0 : zz_S) (n : Nat) (hn : zz_end ≤ n) (G_S0 : zz_G S0) (hp1 : (-2147483648) ≤ p1 ∧ p1 ≤ 2147483647) : mm_Met g l zy_setOnce_2_8 zr_setOnce_2_8_11 [.ref 1072, zi 11, zi p1] (zz_M S0 n) n (zz_QI n (zp_setOnce_2_8_11 p1 S0)) := by
  refine zz_enter (by decide) (Nat.le_of_ble_eq_true rfl) (zz_less (ls1 := [some (.ref 1072), some (zi 11), some (zi p1)]) ⟨rfl, ⟨rfl, ⟨rfl, trivial⟩⟩⟩ ?_)
  have F_S0 : zz_fr [(1072, 2), (1072, 3)] [] (fun _ _ => False) S0 S0 := zz_fr.refl
  refine zz_aload_n (x := 1072) rfl zd_2_8_0 ?_
  have g1 := zz_G.r G_S0 1072 3 (-2147483648) 2147483647 rfl rfl
  refine zz_geti (z := S0 1072 3) zd_2_8_1 zf_Assembler_23 zT_1072 rfl (zz_ltn hn rfl) rfl ?_
  refine zz_iload_n (x := 11) rfl zd_2_8_4 ?_
  refine zz_ishr zd_2_8_5 (fun v2 hv2 ev2 => ?_)
  refine zz_iconst zd_2_8_6 ?_
  refine zz_iand (by omega) (by omega) zd_2_8_7 (fun v3 hv3 av3 bv3 ev3 => ?_)
  have hb9 := zt_shb (s := S0 1072 3) (w := 11) (x := 11) (by decide) (by decide) (by assumption) (by assumption)
  refine zz_iconst zd_2_8_8 ?_
  refine zz_icmp_ne (by omega) (by omega) zd_2_8_9 (fun c4 => ?_) (fun c4 => ?_)
  · refine zz_aload_n (x := 1072) rfl zd_2_8_14 ?_
    refine zz_dup rfl zd_2_8_15 ?_
    refine zz_geti (z := S0 1072 3) zd_2_8_16 zf_Assembler_23 zT_1072 rfl (zz_ltn hn rfl) rfl ?_
    refine zz_iconst zd_2_8_19 ?_
    refine zz_iload_n (x := 11) rfl zd_2_8_20 ?_
    refine zz_ishl zd_2_8_21 (fun v5 hv5 ev5 => ?_)
    obtain rfl : v5 = 2048 := ev5.trans (by decide)
    refine zz_ior (by omega) (by omega) zd_2_8_22 (fun v6 hv6 av6 ev6 => ?_)
    skip
    refine zz_puti zd_2_8_23 zf_Assembler_23 zT_1072 rfl (zz_ltn hn rfl) (fun S7 qS7 => ?_)
    have G_S7 := zz_G.put G_S0 qS7 (-2147483648) 2147483647 rfl (by omega)
    have F_S7 := zz_fr.puts F_S0 qS7 rfl
    refine zz_aload_n (x := 1072) rfl zd_2_8_26 ?_
    refine zz_dup rfl zd_2_8_27 ?_
    have g8 := zz_G.r G_S0 1072 2 (-9223372036854775808) 9223372036854775807 rfl rfl
    refine zz_getl (z := S0 1072 2) zd_2_8_28 zf_Assembler_19 zT_1072 rfl (zz_ltn hn rfl) (zz_ro qS7 (fun h => absurd h.2 (by decide)) rfl) ?_
    refine zz_iload_n (x := 11) rfl zd_2_8_31 ?_
    refine zz_iload_n (x := p1) rfl zd_2_8_32 ?_
    refine zz_callSJ [zi 11, zi p1] zd_2_8_33 zk_Assembler_50 rfl rfl ⟨Nat.le_of_ble_eq_true rfl, Nat.le_of_ble_eq_true rfl⟩ ⟨rfl, rfl⟩ (Nat.zero_le _) (Nat.zero_le _) (zc_bits_12_4 11 p1 S7 n hn G_S7 (by omega) (by omega)) (fun v10 S9 hP => ?_)
    obtain ⟨rfl, o11⟩ := hP
    refine zz_lor zd_2_8_36 (fun v12 hv12 ev12 => ?_)
    refine zz_putl zd_2_8_37 zf_Assembler_19 zT_1072 rfl (zz_ltn hn rfl) (fun S13 qS13 => ?_)
    have G_S13 := zz_G.put G_S7 qS13 (-9223372036854775808) 9223372036854775807 rfl (by omega)
    have F_S13 := zz_fr.puts F_S7 qS13 rfl
    refine zz_iconst zd_2_8_40 ?_
    have e14 : S13 1072 3 = v6 := (zz_ro qS13 (fun h => absurd h.2 (by decide)) (zz_rs qS7))
    exact zz_zret zd_2_8_41 rfl (by omega) (Nat.zero_le _) (Nat.zero_le _) ⟨_, _, rfl, G_S13, F_S13, by omega, by omega, fun _ => (by rw [show S13 1072 3 = v6 by omega]; exact zt_set1 (b := Int32.ofInt 2048) (by decide) (by decide) (by assumption)), by omega⟩
  · refine zz_iconst zd_2_8_12 ?_
    exact zz_zret zd_2_8_13 rfl (by omega) (Nat.zero_le _) (Nat.zero_le _) ⟨_, _, rfl, G_S0, F_S0, by omega, by omega, fun h => absurd h (by decide), by omega⟩
theorem zg_2_6_36 : zq_at zy_readNumber_2_6.2.1 36 153 ∧ zq_at zy_readNumber_2_6.2.1 37 0 ∧ zq_at zy_readNumber_2_6.2.1 38 7 ∧ zq_at zy_readNumber_2_6.2.1 39 4 ∧ zq_at zy_readNumber_2_6.2.1 40 167 ∧ zq_at zy_readNumber_2_6.2.1 41 0 ∧ zq_at zy_readNumber_2_6.2.1 42 4 := by decide +kernel
theorem zd_2_6_36 : zz_B zy_readNumber_2_6 36 (Instr.ifCond .eq) 43 39 := ⟨7, zq_153 zg_2_6_36.1 zg_2_6_36.2.1 zg_2_6_36.2.2.1 (by decide), rfl, rfl⟩
theorem zd_2_6_39 : zz_D zy_readNumber_2_6 39 (.iconst 1) 1 40 := ⟨zq_4 zg_2_6_36.2.2.2.1, rfl⟩
theorem zd_2_6_40 : zz_B zy_readNumber_2_6 40 Instr.goto 44 43 := ⟨4, zq_167 zg_2_6_36.2.2.2.2.1 zg_2_6_36.2.2.2.2.2.1 zg_2_6_36.2.2.2.2.2.2 (by decide), rfl, rfl⟩
-- TensorForge$Assembler readNumber (I)Z
abbrev zr_readNumber_2_6_11 : Room := { frames := 2, cells := 0, slots := 0, locals := 30 }
def zp_readNumber_2_6_11  (S0 : zz_S) : Int → zz_S → Prop := fun r S => zz_G S ∧ zz_fr [(1070, 3), (1070, 4), (1070, 5), (1070, 6), (1072, 2), (1072, 3)] [] (fun _ _ => False) S0 S ∧ (0 ≤ r ∧ r ≤ 1) ∧ ((r = 1 ∧ zt_tk (S0 1071) (S0 1070 2) (S0 1070 3) = 100 ∧ zt_tv (S0 1071) (S0 1070 2) (S0 1070 3) ≤ 31 ∧ zt_bi (S0 1072 3) 11 = 0 ∧ S 1070 3 = zt_te (S0 1071) (S0 1070 2) (S0 1070 3) ∧ S0 1070 3 < S 1070 3) ∨ (r = 0 ∧ (zt_tk (S0 1071) (S0 1070 2) (S0 1070 3) ≠ 100 ∨ 31 < zt_tv (S0 1071) (S0 1070 2) (S0 1070 3) ∨ zt_bi (S0 1072 3) 11 = 1))) ∧ (r = 1 → zt_set (S0 1072 3) 11 (S 1072 3)) ∧ (S0 1070 3 ≤ S 1070 3) ∧ (S0 1070 3 ≤ S0 1070 2 → S 1070 3 ≤ S0 1070 2)
theorem zc_readNumber_2_6_11 {g : mm_G} {l : Launch}  (S0 : zz_S) (n : Nat) (hn : zz_end ≤ n) (G_S0 : zz_G S0)  : mm_Met g l zy_readNumber_2_6 zr_readNumber_2_6_11 [.ref 1072, zi 11] (zz_M S0 n) n (zz_QI n (zp_readNumber_2_6_11  S0)) := by
  refine zz_enter (by decide) (Nat.le_of_ble_eq_true rfl) (zz_less (ls1 := [some (.ref 1072), some (zi 11)]) ⟨rfl, ⟨rfl, trivial⟩⟩ ?_)
  have F_S0 : zz_fr [(1070, 3), (1070, 4), (1070, 5), (1070, 6), (1072, 2), (1072, 3)] [] (fun _ _ => False) S0 S0 := zz_fr.refl
  refine zz_aload_n (x := 1072) rfl zd_2_6_0 ?_
  refine zz_getr (kd := 0) (z := 1070) zd_2_6_1 zf_Assembler_9 zT_1072 rfl (zz_ltn hn rfl) (zz_G.eq G_S0 1072 0 1070 rfl rfl) (by decide) 1070 rfl ?_
  have g1 := zz_G.r G_S0 1070 2 (-1) 1500 rfl rfl
  have g2 := zz_G.r G_S0 1070 3 0 1500 rfl rfl
  refine zz_callVI [] zd_2_6_4 zk_Assembler_94 zT_1070 (zz_ltn hn rfl) rfl rfl ⟨Nat.le_of_ble_eq_true rfl, Nat.le_of_ble_eq_true rfl⟩ ⟨rfl, rfl⟩ (Nat.zero_le _) (Nat.zero_le _) (zc_nextIsNumber_11_11  S0 n hn G_S0 ) (fun v4 S3 hP => ?_)
  obtain ⟨G_S3, fS3, o5, o6, o7, o8, o9, o10, o11, o12, o13, o14, o15⟩ := hP
  have F_S3 := zz_fr.trans F_S0 fS3 rfl zz_nv
  rcases (by omega : v4 = 0 ∨ v4 = 1) with rfl | rfl
  · refine zz_if_eq (by omega) zd_2_6_7 (fun c16 => ?_) (fun c16 => ?_)
    · refine zz_iconst zd_2_6_43 ?_
      have g17 := zz_G.r G_S3 1070 3 0 1500 rfl rfl
      have g18 := zz_G.r G_S0 1072 3 (-2147483648) 2147483647 rfl rfl
      have e19 : S3 1072 3 = S0 1072 3 := (zz_rc fS3 rfl rfl (fun h => h) rfl)
      exact zz_zret zd_2_6_44 rfl (by omega) (Nat.zero_le _) (Nat.zero_le _) ⟨_, _, rfl, G_S3, F_S3, by omega, by omega, fun h => absurd h (by decide), by omega, by omega⟩
    · exfalso; omega
  · refine zz_if_eq (by omega) zd_2_6_7 (fun c20 => ?_) (fun c20 => ?_)
    · exfalso; omega
    · refine zz_aload_n (x := 1072) rfl zd_2_6_10 ?_
      refine zz_getr (kd := 0) (z := 1070) zd_2_6_11 zf_Assembler_9 zT_1072 rfl (zz_ltn hn rfl) (zz_G.eq G_S3 1072 0 1070 rfl rfl) (by decide) 1070 rfl ?_
      have g21 := zz_G.r G_S3 1070 6 (-2147483648) 2147483647 rfl rfl
      refine zz_geti (z := S3 1070 6) zd_2_6_14 zf_Assembler_97 zT_1070 rfl (zz_ltn hn rfl) rfl ?_
      refine zz_iload_n (x := 11) rfl zd_2_6_17 ?_
      refine zz_callSI [zi 11] zd_2_6_18 zk_Assembler_100 rfl rfl ⟨Nat.le_of_ble_eq_true rfl, Nat.le_of_ble_eq_true rfl⟩ ⟨rfl, rfl⟩ (Nat.zero_le _) (Nat.zero_le _) (zc_most_12_7x_11  S3 n hn G_S3 ) (fun v23 S22 hP => ?_)
      obtain ⟨rfl, o24⟩ := hP
      refine zz_icmp_gt (by omega) (by omega) zd_2_6_21 (fun c25 => ?_) (fun c25 => ?_)
      · refine zz_iconst zd_2_6_43 ?_
        have g26 := zz_G.r G_S3 1070 3 0 1500 rfl rfl
        have g27 := zz_G.r G_S0 1072 3 (-2147483648) 2147483647 rfl rfl
        have e28 : S3 1072 3 = S0 1072 3 := (zz_rc fS3 rfl rfl (fun h => h) rfl)
        exact zz_zret zd_2_6_44 rfl (by omega) (Nat.zero_le _) (Nat.zero_le _) ⟨_, _, rfl, G_S3, F_S3, by omega, by omega, fun h => absurd h (by decide), by omega, by omega⟩
      · refine zz_aload_n (x := 1072) rfl zd_2_6_24 ?_
        refine zz_iload_n (x := 11) rfl zd_2_6_25 ?_
        refine zz_aload_n (x := 1072) rfl zd_2_6_26 ?_
        refine zz_getr (kd := 0) (z := 1070) zd_2_6_27 zf_Assembler_9 zT_1072 rfl (zz_ltn hn rfl) (zz_G.eq G_S3 1072 0 1070 rfl rfl) (by decide) 1070 rfl ?_
        refine zz_geti (z := S3 1070 6) zd_2_6_30 zf_Assembler_97 zT_1070 rfl (zz_ltn hn rfl) rfl ?_
        have g29 := zz_G.r G_S0 1072 3 (-2147483648) 2147483647 rfl rfl
        have e30 : S3 1072 3 = S0 1072 3 := (zz_rc fS3 rfl rfl (fun h => h) rfl)
        refine zz_callVI [zi 11, zi (S3 1070 6)] zd_2_6_33 zk_Assembler_104 zT_1072 (zz_ltn hn rfl) rfl rfl ⟨Nat.le_of_ble_eq_true rfl, Nat.le_of_ble_eq_true rfl⟩ ⟨rfl, rfl⟩ (Nat.zero_le _) (Nat.zero_le _) (zc_setOnce_2_8_11 (S3 1070 6) S3 n hn G_S3 (by omega)) (fun v32 S31 hP => ?_)
        obtain ⟨G_S31, fS31, o33, o34, o35, o36⟩ := hP
        rw [show S3 1072 3 = S0 1072 3 from (zz_rc fS3 rfl rfl (fun h => h) rfl)] at o34
        rw [show S3 1072 3 = S0 1072 3 from (zz_rc fS3 rfl rfl (fun h => h) rfl)] at o35
        rw [show S3 1072 3 = S0 1072 3 from (zz_rc fS3 rfl rfl (fun h => h) rfl)] at o36
        have F_S31 := zz_fr.trans F_S3 fS31 rfl zz_nv
        rcases (by omega : v32 = 0 ∨ v32 = 1) with rfl | rfl
        · refine zz_if_eq (by omega) zd_2_6_36 (fun c37 => ?_) (fun c37 => ?_)
          · refine zz_iconst zd_2_6_43 ?_
            have g38 := zz_G.r G_S3 1070 3 0 1500 rfl rfl
            have e39 : S31 1070 3 = S3 1070 3 := (zz_rc fS31 rfl rfl (fun h => h) rfl)
            have g40 := zz_G.r G_S31 1072 3 (-2147483648) 2147483647 rfl rfl
            exact zz_zret zd_2_6_44 rfl (by omega) (Nat.zero_le _) (Nat.zero_le _) ⟨_, _, rfl, G_S31, F_S31, by omega, by omega, fun h => absurd h (by decide), by omega, by omega⟩
          · exfalso; omega
        · refine zz_if_eq (by omega) zd_2_6_36 (fun c41 => ?_) (fun c41 => ?_)
          · exfalso; omega
          · refine zz_iconst zd_2_6_39 ?_
            refine zz_goto zd_2_6_40 ?_
            have g42 := zz_G.r G_S3 1070 3 0 1500 rfl rfl
            have e43 : S31 1070 3 = S3 1070 3 := (zz_rc fS31 rfl rfl (fun h => h) rfl)
            have g44 := zz_G.r G_S31 1072 3 (-2147483648) 2147483647 rfl rfl
            exact zz_zret zd_2_6_44 rfl (by omega) (Nat.zero_le _) (Nat.zero_le _) ⟨_, _, rfl, G_S31, F_S31, by omega, by omega, fun _ => o35 rfl, by omega, by omega⟩
theorem zk_Assembler_67 : mm_Vl "TensorForge$Assembler" 67 7 1 zy_readNumber_2_6 := ⟨zyw_readNumber_2_6, (R_Assembler, F_Assembler, 4), rfl, mm_tb_1 654 (by decide +kernel) rfl, mm_tb_1 656 (by decide +kernel) rfl, mm_tb_s 10 (by decide +kernel) rfl⟩
theorem zg_2_5_141 : zq_at zy_readPart_2_5.2.1 141 172 ∧ zq_at zy_readPart_2_5.2.1 116 42 ∧ zq_at zy_readPart_2_5.2.1 117 16 ∧ zq_at zy_readPart_2_5.2.1 118 10 ∧ zq_at zy_readPart_2_5.2.1 119 182 ∧ zq_at zy_readPart_2_5.2.1 120 0 ∧ zq_at zy_readPart_2_5.2.1 121 67 := by decide +kernel
theorem zd_2_5_141 : zz_D zy_readPart_2_5 141 (.ireturn) 1 142 := ⟨zq_172 zg_2_5_141.1, rfl⟩
theorem zd_2_5_116 : zz_D zy_readPart_2_5 116 (.aload_n 0) 1 117 := ⟨zq_42 zg_2_5_141.2.1, rfl⟩
theorem zd_2_5_117 : zz_D zy_readPart_2_5 117 (.bipush 10) 2 119 := ⟨zq_16 zg_2_5_141.2.2.1 zg_2_5_141.2.2.2.1 (by decide), rfl⟩
theorem zd_2_5_119 : zz_D zy_readPart_2_5 119 (.invokevirtual 67) 3 122 := ⟨zq_182 zg_2_5_141.2.2.2.2.1 zg_2_5_141.2.2.2.2.2.1 zg_2_5_141.2.2.2.2.2.2 rfl, rfl⟩
-- TensorForge$Words most (I)I
abbrev zr_most_12_7x_10 : Room := { frames := 0, cells := 0, slots := 0, locals := 0 }
def zp_most_12_7x_10  (S0 : zz_S) : Int → zz_S → Prop := fun r S => S0 = S ∧ (1023 ≤ r ∧ r ≤ 1023)
theorem zc_most_12_7x_10 {g : mm_G} {l : Launch}  (S0 : zz_S) (n : Nat) (hn : zz_end ≤ n) (G_S0 : zz_G S0)  : mm_Met g l zy_most_12_7 zr_most_12_7x_10 [zi 10] (zz_M S0 n) n (zz_QI n (zp_most_12_7x_10  S0)) := by
  refine zz_enter (by decide) (Nat.le_of_ble_eq_true rfl) (zz_less (ls1 := [some (zi 10)]) ⟨rfl, trivial⟩ ?_)
  refine zz_iload_n (x := 10) rfl zd_12_7_0 ?_
  refine zz_if_lt (by omega) zd_12_7_1 (fun c1 => ?_) (fun c1 => ?_)
  · exfalso; omega
  · refine zz_iload_n (x := 10) rfl zd_12_7_4 ?_
    refine zz_bipush (by decide) zd_12_7_5 ?_
    refine zz_icmp_lt (by omega) (by omega) zd_12_7_7 (fun c2 => ?_) (fun c2 => ?_)
    · refine zz_gets (q0 := 2) zd_12_7_14 rfl (by decide) zs_Words_13 ?_
      refine zz_iload_n (x := 10) rfl zd_12_7_17 ?_
      refine zz_tiald 1023 zd_12_7_18 rfl (by decide) rfl (by decide) (by decide) rfl ?_
      exact zz_iret zd_12_7_19 rfl (Nat.zero_le _) (Nat.zero_le _) ⟨_, _, rfl, rfl, by omega⟩
    · exfalso; omega
-- TensorForge$Assembler setOnce (II)Z
abbrev zr_setOnce_2_8_10 : Room := { frames := 1, cells := 0, slots := 0, locals := 16 }
def zp_setOnce_2_8_10 (p1 : Int) (S0 : zz_S) : Int → zz_S → Prop := fun r S => zz_G S ∧ zz_fr [(1072, 2), (1072, 3)] [] (fun _ _ => False) S0 S ∧ (0 ≤ r ∧ r ≤ 1) ∧ ((r = 1 ∧ zt_bi (S0 1072 3) 10 = 0) ∨ (r = 0 ∧ zt_bi (S0 1072 3) 10 = 1)) ∧ (r = 1 → zt_set (S0 1072 3) 10 (S 1072 3)) ∧ (r = 0 → S 1072 3 = S0 1072 3)
theorem zc_setOnce_2_8_10 {g : mm_G} {l : Launch} (p1 : Int) (S0 : zz_S) (n : Nat) (hn : zz_end ≤ n) (G_S0 : zz_G S0) (hp1 : (-2147483648) ≤ p1 ∧ p1 ≤ 2147483647) : mm_Met g l zy_setOnce_2_8 zr_setOnce_2_8_10 [.ref 1072, zi 10, zi p1] (zz_M S0 n) n (zz_QI n (zp_setOnce_2_8_10 p1 S0)) := by
  refine zz_enter (by decide) (Nat.le_of_ble_eq_true rfl) (zz_less (ls1 := [some (.ref 1072), some (zi 10), some (zi p1)]) ⟨rfl, ⟨rfl, ⟨rfl, trivial⟩⟩⟩ ?_)
  have F_S0 : zz_fr [(1072, 2), (1072, 3)] [] (fun _ _ => False) S0 S0 := zz_fr.refl
  refine zz_aload_n (x := 1072) rfl zd_2_8_0 ?_
  have g1 := zz_G.r G_S0 1072 3 (-2147483648) 2147483647 rfl rfl
  refine zz_geti (z := S0 1072 3) zd_2_8_1 zf_Assembler_23 zT_1072 rfl (zz_ltn hn rfl) rfl ?_
  refine zz_iload_n (x := 10) rfl zd_2_8_4 ?_
  refine zz_ishr zd_2_8_5 (fun v2 hv2 ev2 => ?_)
  refine zz_iconst zd_2_8_6 ?_
  refine zz_iand (by omega) (by omega) zd_2_8_7 (fun v3 hv3 av3 bv3 ev3 => ?_)
  have hb9 := zt_shb (s := S0 1072 3) (w := 10) (x := 10) (by decide) (by decide) (by assumption) (by assumption)
  refine zz_iconst zd_2_8_8 ?_
  refine zz_icmp_ne (by omega) (by omega) zd_2_8_9 (fun c4 => ?_) (fun c4 => ?_)
  · refine zz_aload_n (x := 1072) rfl zd_2_8_14 ?_
    refine zz_dup rfl zd_2_8_15 ?_
    refine zz_geti (z := S0 1072 3) zd_2_8_16 zf_Assembler_23 zT_1072 rfl (zz_ltn hn rfl) rfl ?_
    refine zz_iconst zd_2_8_19 ?_
    refine zz_iload_n (x := 10) rfl zd_2_8_20 ?_
    refine zz_ishl zd_2_8_21 (fun v5 hv5 ev5 => ?_)
    obtain rfl : v5 = 1024 := ev5.trans (by decide)
    refine zz_ior (by omega) (by omega) zd_2_8_22 (fun v6 hv6 av6 ev6 => ?_)
    skip
    refine zz_puti zd_2_8_23 zf_Assembler_23 zT_1072 rfl (zz_ltn hn rfl) (fun S7 qS7 => ?_)
    have G_S7 := zz_G.put G_S0 qS7 (-2147483648) 2147483647 rfl (by omega)
    have F_S7 := zz_fr.puts F_S0 qS7 rfl
    refine zz_aload_n (x := 1072) rfl zd_2_8_26 ?_
    refine zz_dup rfl zd_2_8_27 ?_
    have g8 := zz_G.r G_S0 1072 2 (-9223372036854775808) 9223372036854775807 rfl rfl
    refine zz_getl (z := S0 1072 2) zd_2_8_28 zf_Assembler_19 zT_1072 rfl (zz_ltn hn rfl) (zz_ro qS7 (fun h => absurd h.2 (by decide)) rfl) ?_
    refine zz_iload_n (x := 10) rfl zd_2_8_31 ?_
    refine zz_iload_n (x := p1) rfl zd_2_8_32 ?_
    refine zz_callSJ [zi 10, zi p1] zd_2_8_33 zk_Assembler_50 rfl rfl ⟨Nat.le_of_ble_eq_true rfl, Nat.le_of_ble_eq_true rfl⟩ ⟨rfl, rfl⟩ (Nat.zero_le _) (Nat.zero_le _) (zc_bits_12_4 10 p1 S7 n hn G_S7 (by omega) (by omega)) (fun v10 S9 hP => ?_)
    obtain ⟨rfl, o11⟩ := hP
    refine zz_lor zd_2_8_36 (fun v12 hv12 ev12 => ?_)
    refine zz_putl zd_2_8_37 zf_Assembler_19 zT_1072 rfl (zz_ltn hn rfl) (fun S13 qS13 => ?_)
    have G_S13 := zz_G.put G_S7 qS13 (-9223372036854775808) 9223372036854775807 rfl (by omega)
    have F_S13 := zz_fr.puts F_S7 qS13 rfl
    refine zz_iconst zd_2_8_40 ?_
    have e14 : S13 1072 3 = v6 := (zz_ro qS13 (fun h => absurd h.2 (by decide)) (zz_rs qS7))
    exact zz_zret zd_2_8_41 rfl (by omega) (Nat.zero_le _) (Nat.zero_le _) ⟨_, _, rfl, G_S13, F_S13, by omega, by omega, fun _ => (by rw [show S13 1072 3 = v6 by omega]; exact zt_set1 (b := Int32.ofInt 1024) (by decide) (by decide) (by assumption)), by omega⟩
  · refine zz_iconst zd_2_8_12 ?_
    exact zz_zret zd_2_8_13 rfl (by omega) (Nat.zero_le _) (Nat.zero_le _) ⟨_, _, rfl, G_S0, F_S0, by omega, by omega, fun h => absurd h (by decide), by omega⟩
-- TensorForge$Assembler readNumber (I)Z
abbrev zr_readNumber_2_6_10 : Room := { frames := 2, cells := 0, slots := 0, locals := 30 }
def zp_readNumber_2_6_10  (S0 : zz_S) : Int → zz_S → Prop := fun r S => zz_G S ∧ zz_fr [(1070, 3), (1070, 4), (1070, 5), (1070, 6), (1072, 2), (1072, 3)] [] (fun _ _ => False) S0 S ∧ (0 ≤ r ∧ r ≤ 1) ∧ ((r = 1 ∧ zt_tk (S0 1071) (S0 1070 2) (S0 1070 3) = 100 ∧ zt_tv (S0 1071) (S0 1070 2) (S0 1070 3) ≤ 1023 ∧ zt_bi (S0 1072 3) 10 = 0 ∧ S 1070 3 = zt_te (S0 1071) (S0 1070 2) (S0 1070 3) ∧ S0 1070 3 < S 1070 3) ∨ (r = 0 ∧ (zt_tk (S0 1071) (S0 1070 2) (S0 1070 3) ≠ 100 ∨ 1023 < zt_tv (S0 1071) (S0 1070 2) (S0 1070 3) ∨ zt_bi (S0 1072 3) 10 = 1))) ∧ (r = 1 → zt_set (S0 1072 3) 10 (S 1072 3)) ∧ (S0 1070 3 ≤ S 1070 3) ∧ (S0 1070 3 ≤ S0 1070 2 → S 1070 3 ≤ S0 1070 2)
theorem zc_readNumber_2_6_10 {g : mm_G} {l : Launch}  (S0 : zz_S) (n : Nat) (hn : zz_end ≤ n) (G_S0 : zz_G S0)  : mm_Met g l zy_readNumber_2_6 zr_readNumber_2_6_10 [.ref 1072, zi 10] (zz_M S0 n) n (zz_QI n (zp_readNumber_2_6_10  S0)) := by
  refine zz_enter (by decide) (Nat.le_of_ble_eq_true rfl) (zz_less (ls1 := [some (.ref 1072), some (zi 10)]) ⟨rfl, ⟨rfl, trivial⟩⟩ ?_)
  have F_S0 : zz_fr [(1070, 3), (1070, 4), (1070, 5), (1070, 6), (1072, 2), (1072, 3)] [] (fun _ _ => False) S0 S0 := zz_fr.refl
  refine zz_aload_n (x := 1072) rfl zd_2_6_0 ?_
  refine zz_getr (kd := 0) (z := 1070) zd_2_6_1 zf_Assembler_9 zT_1072 rfl (zz_ltn hn rfl) (zz_G.eq G_S0 1072 0 1070 rfl rfl) (by decide) 1070 rfl ?_
  have g1 := zz_G.r G_S0 1070 2 (-1) 1500 rfl rfl
  have g2 := zz_G.r G_S0 1070 3 0 1500 rfl rfl
  refine zz_callVI [] zd_2_6_4 zk_Assembler_94 zT_1070 (zz_ltn hn rfl) rfl rfl ⟨Nat.le_of_ble_eq_true rfl, Nat.le_of_ble_eq_true rfl⟩ ⟨rfl, rfl⟩ (Nat.zero_le _) (Nat.zero_le _) (zc_nextIsNumber_11_11  S0 n hn G_S0 ) (fun v4 S3 hP => ?_)
  obtain ⟨G_S3, fS3, o5, o6, o7, o8, o9, o10, o11, o12, o13, o14, o15⟩ := hP
  have F_S3 := zz_fr.trans F_S0 fS3 rfl zz_nv
  rcases (by omega : v4 = 0 ∨ v4 = 1) with rfl | rfl
  · refine zz_if_eq (by omega) zd_2_6_7 (fun c16 => ?_) (fun c16 => ?_)
    · refine zz_iconst zd_2_6_43 ?_
      have g17 := zz_G.r G_S3 1070 3 0 1500 rfl rfl
      have g18 := zz_G.r G_S0 1072 3 (-2147483648) 2147483647 rfl rfl
      have e19 : S3 1072 3 = S0 1072 3 := (zz_rc fS3 rfl rfl (fun h => h) rfl)
      exact zz_zret zd_2_6_44 rfl (by omega) (Nat.zero_le _) (Nat.zero_le _) ⟨_, _, rfl, G_S3, F_S3, by omega, by omega, fun h => absurd h (by decide), by omega, by omega⟩
    · exfalso; omega
  · refine zz_if_eq (by omega) zd_2_6_7 (fun c20 => ?_) (fun c20 => ?_)
    · exfalso; omega
    · refine zz_aload_n (x := 1072) rfl zd_2_6_10 ?_
      refine zz_getr (kd := 0) (z := 1070) zd_2_6_11 zf_Assembler_9 zT_1072 rfl (zz_ltn hn rfl) (zz_G.eq G_S3 1072 0 1070 rfl rfl) (by decide) 1070 rfl ?_
      have g21 := zz_G.r G_S3 1070 6 (-2147483648) 2147483647 rfl rfl
      refine zz_geti (z := S3 1070 6) zd_2_6_14 zf_Assembler_97 zT_1070 rfl (zz_ltn hn rfl) rfl ?_
      refine zz_iload_n (x := 10) rfl zd_2_6_17 ?_
      refine zz_callSI [zi 10] zd_2_6_18 zk_Assembler_100 rfl rfl ⟨Nat.le_of_ble_eq_true rfl, Nat.le_of_ble_eq_true rfl⟩ ⟨rfl, rfl⟩ (Nat.zero_le _) (Nat.zero_le _) (zc_most_12_7x_10  S3 n hn G_S3 ) (fun v23 S22 hP => ?_)
      obtain ⟨rfl, o24⟩ := hP
      refine zz_icmp_gt (by omega) (by omega) zd_2_6_21 (fun c25 => ?_) (fun c25 => ?_)
      · refine zz_iconst zd_2_6_43 ?_
        have g26 := zz_G.r G_S3 1070 3 0 1500 rfl rfl
        have g27 := zz_G.r G_S0 1072 3 (-2147483648) 2147483647 rfl rfl
        have e28 : S3 1072 3 = S0 1072 3 := (zz_rc fS3 rfl rfl (fun h => h) rfl)
        exact zz_zret zd_2_6_44 rfl (by omega) (Nat.zero_le _) (Nat.zero_le _) ⟨_, _, rfl, G_S3, F_S3, by omega, by omega, fun h => absurd h (by decide), by omega, by omega⟩
      · refine zz_aload_n (x := 1072) rfl zd_2_6_24 ?_
        refine zz_iload_n (x := 10) rfl zd_2_6_25 ?_
        refine zz_aload_n (x := 1072) rfl zd_2_6_26 ?_
        refine zz_getr (kd := 0) (z := 1070) zd_2_6_27 zf_Assembler_9 zT_1072 rfl (zz_ltn hn rfl) (zz_G.eq G_S3 1072 0 1070 rfl rfl) (by decide) 1070 rfl ?_
        refine zz_geti (z := S3 1070 6) zd_2_6_30 zf_Assembler_97 zT_1070 rfl (zz_ltn hn rfl) rfl ?_
        have g29 := zz_G.r G_S0 1072 3 (-2147483648) 2147483647 rfl rfl
        have e30 : S3 1072 3 = S0 1072 3 := (zz_rc fS3 rfl rfl (fun h => h) rfl)
        refine zz_callVI [zi 10, zi (S3 1070 6)] zd_2_6_33 zk_Assembler_104 zT_1072 (zz_ltn hn rfl) rfl rfl ⟨Nat.le_of_ble_eq_true rfl, Nat.le_of_ble_eq_true rfl⟩ ⟨rfl, rfl⟩ (Nat.zero_le _) (Nat.zero_le _) (zc_setOnce_2_8_10 (S3 1070 6) S3 n hn G_S3 (by omega)) (fun v32 S31 hP => ?_)
        obtain ⟨G_S31, fS31, o33, o34, o35, o36⟩ := hP
        rw [show S3 1072 3 = S0 1072 3 from (zz_rc fS3 rfl rfl (fun h => h) rfl)] at o34
        rw [show S3 1072 3 = S0 1072 3 from (zz_rc fS3 rfl rfl (fun h => h) rfl)] at o35
        rw [show S3 1072 3 = S0 1072 3 from (zz_rc fS3 rfl rfl (fun h => h) rfl)] at o36
        have F_S31 := zz_fr.trans F_S3 fS31 rfl zz_nv
        rcases (by omega : v32 = 0 ∨ v32 = 1) with rfl | rfl
        · refine zz_if_eq (by omega) zd_2_6_36 (fun c37 => ?_) (fun c37 => ?_)
          · refine zz_iconst zd_2_6_43 ?_
            have g38 := zz_G.r G_S3 1070 3 0 1500 rfl rfl
            have e39 : S31 1070 3 = S3 1070 3 := (zz_rc fS31 rfl rfl (fun h => h) rfl)
            have g40 := zz_G.r G_S31 1072 3 (-2147483648) 2147483647 rfl rfl
            exact zz_zret zd_2_6_44 rfl (by omega) (Nat.zero_le _) (Nat.zero_le _) ⟨_, _, rfl, G_S31, F_S31, by omega, by omega, fun h => absurd h (by decide), by omega, by omega⟩
          · exfalso; omega
        · refine zz_if_eq (by omega) zd_2_6_36 (fun c41 => ?_) (fun c41 => ?_)
          · exfalso; omega
          · refine zz_iconst zd_2_6_39 ?_
            refine zz_goto zd_2_6_40 ?_
            have g42 := zz_G.r G_S3 1070 3 0 1500 rfl rfl
            have e43 : S31 1070 3 = S3 1070 3 := (zz_rc fS31 rfl rfl (fun h => h) rfl)
            have g44 := zz_G.r G_S31 1072 3 (-2147483648) 2147483647 rfl rfl
            exact zz_zret zd_2_6_44 rfl (by omega) (Nat.zero_le _) (Nat.zero_le _) ⟨_, _, rfl, G_S31, F_S31, by omega, by omega, fun _ => o35 rfl, by omega, by omega⟩
theorem zg_2_5_122 : zq_at zy_readPart_2_5.2.1 122 172 ∧ zq_at zy_readPart_2_5.2.1 97 42 ∧ zq_at zy_readPart_2_5.2.1 98 16 ∧ zq_at zy_readPart_2_5.2.1 99 9 ∧ zq_at zy_readPart_2_5.2.1 100 182 ∧ zq_at zy_readPart_2_5.2.1 101 0 ∧ zq_at zy_readPart_2_5.2.1 102 67 := by decide +kernel
theorem zd_2_5_122 : zz_D zy_readPart_2_5 122 (.ireturn) 1 123 := ⟨zq_172 zg_2_5_122.1, rfl⟩
theorem zd_2_5_97 : zz_D zy_readPart_2_5 97 (.aload_n 0) 1 98 := ⟨zq_42 zg_2_5_122.2.1, rfl⟩
theorem zd_2_5_98 : zz_D zy_readPart_2_5 98 (.bipush 9) 2 100 := ⟨zq_16 zg_2_5_122.2.2.1 zg_2_5_122.2.2.2.1 (by decide), rfl⟩
theorem zd_2_5_100 : zz_D zy_readPart_2_5 100 (.invokevirtual 67) 3 103 := ⟨zq_182 zg_2_5_122.2.2.2.2.1 zg_2_5_122.2.2.2.2.2.1 zg_2_5_122.2.2.2.2.2.2 rfl, rfl⟩
-- TensorForge$Words most (I)I
abbrev zr_most_12_7x_9 : Room := { frames := 0, cells := 0, slots := 0, locals := 0 }
def zp_most_12_7x_9  (S0 : zz_S) : Int → zz_S → Prop := fun r S => S0 = S ∧ (511 ≤ r ∧ r ≤ 511)
theorem zc_most_12_7x_9 {g : mm_G} {l : Launch}  (S0 : zz_S) (n : Nat) (hn : zz_end ≤ n) (G_S0 : zz_G S0)  : mm_Met g l zy_most_12_7 zr_most_12_7x_9 [zi 9] (zz_M S0 n) n (zz_QI n (zp_most_12_7x_9  S0)) := by
  refine zz_enter (by decide) (Nat.le_of_ble_eq_true rfl) (zz_less (ls1 := [some (zi 9)]) ⟨rfl, trivial⟩ ?_)
  refine zz_iload_n (x := 9) rfl zd_12_7_0 ?_
  refine zz_if_lt (by omega) zd_12_7_1 (fun c1 => ?_) (fun c1 => ?_)
  · exfalso; omega
  · refine zz_iload_n (x := 9) rfl zd_12_7_4 ?_
    refine zz_bipush (by decide) zd_12_7_5 ?_
    refine zz_icmp_lt (by omega) (by omega) zd_12_7_7 (fun c2 => ?_) (fun c2 => ?_)
    · refine zz_gets (q0 := 2) zd_12_7_14 rfl (by decide) zs_Words_13 ?_
      refine zz_iload_n (x := 9) rfl zd_12_7_17 ?_
      refine zz_tiald 511 zd_12_7_18 rfl (by decide) rfl (by decide) (by decide) rfl ?_
      exact zz_iret zd_12_7_19 rfl (Nat.zero_le _) (Nat.zero_le _) ⟨_, _, rfl, rfl, by omega⟩
    · exfalso; omega
-- TensorForge$Assembler setOnce (II)Z
abbrev zr_setOnce_2_8_9 : Room := { frames := 1, cells := 0, slots := 0, locals := 16 }
def zp_setOnce_2_8_9 (p1 : Int) (S0 : zz_S) : Int → zz_S → Prop := fun r S => zz_G S ∧ zz_fr [(1072, 2), (1072, 3)] [] (fun _ _ => False) S0 S ∧ (0 ≤ r ∧ r ≤ 1) ∧ ((r = 1 ∧ zt_bi (S0 1072 3) 9 = 0) ∨ (r = 0 ∧ zt_bi (S0 1072 3) 9 = 1)) ∧ (r = 1 → zt_set (S0 1072 3) 9 (S 1072 3)) ∧ (r = 0 → S 1072 3 = S0 1072 3)
theorem zc_setOnce_2_8_9 {g : mm_G} {l : Launch} (p1 : Int) (S0 : zz_S) (n : Nat) (hn : zz_end ≤ n) (G_S0 : zz_G S0) (hp1 : (-2147483648) ≤ p1 ∧ p1 ≤ 2147483647) : mm_Met g l zy_setOnce_2_8 zr_setOnce_2_8_9 [.ref 1072, zi 9, zi p1] (zz_M S0 n) n (zz_QI n (zp_setOnce_2_8_9 p1 S0)) := by
  refine zz_enter (by decide) (Nat.le_of_ble_eq_true rfl) (zz_less (ls1 := [some (.ref 1072), some (zi 9), some (zi p1)]) ⟨rfl, ⟨rfl, ⟨rfl, trivial⟩⟩⟩ ?_)
  have F_S0 : zz_fr [(1072, 2), (1072, 3)] [] (fun _ _ => False) S0 S0 := zz_fr.refl
  refine zz_aload_n (x := 1072) rfl zd_2_8_0 ?_
  have g1 := zz_G.r G_S0 1072 3 (-2147483648) 2147483647 rfl rfl
  refine zz_geti (z := S0 1072 3) zd_2_8_1 zf_Assembler_23 zT_1072 rfl (zz_ltn hn rfl) rfl ?_
  refine zz_iload_n (x := 9) rfl zd_2_8_4 ?_
  refine zz_ishr zd_2_8_5 (fun v2 hv2 ev2 => ?_)
  refine zz_iconst zd_2_8_6 ?_
  refine zz_iand (by omega) (by omega) zd_2_8_7 (fun v3 hv3 av3 bv3 ev3 => ?_)
  have hb9 := zt_shb (s := S0 1072 3) (w := 9) (x := 9) (by decide) (by decide) (by assumption) (by assumption)
  refine zz_iconst zd_2_8_8 ?_
  refine zz_icmp_ne (by omega) (by omega) zd_2_8_9 (fun c4 => ?_) (fun c4 => ?_)
  · refine zz_aload_n (x := 1072) rfl zd_2_8_14 ?_
    refine zz_dup rfl zd_2_8_15 ?_
    refine zz_geti (z := S0 1072 3) zd_2_8_16 zf_Assembler_23 zT_1072 rfl (zz_ltn hn rfl) rfl ?_
    refine zz_iconst zd_2_8_19 ?_
    refine zz_iload_n (x := 9) rfl zd_2_8_20 ?_
    refine zz_ishl zd_2_8_21 (fun v5 hv5 ev5 => ?_)
    obtain rfl : v5 = 512 := ev5.trans (by decide)
    refine zz_ior (by omega) (by omega) zd_2_8_22 (fun v6 hv6 av6 ev6 => ?_)
    skip
    refine zz_puti zd_2_8_23 zf_Assembler_23 zT_1072 rfl (zz_ltn hn rfl) (fun S7 qS7 => ?_)
    have G_S7 := zz_G.put G_S0 qS7 (-2147483648) 2147483647 rfl (by omega)
    have F_S7 := zz_fr.puts F_S0 qS7 rfl
    refine zz_aload_n (x := 1072) rfl zd_2_8_26 ?_
    refine zz_dup rfl zd_2_8_27 ?_
    have g8 := zz_G.r G_S0 1072 2 (-9223372036854775808) 9223372036854775807 rfl rfl
    refine zz_getl (z := S0 1072 2) zd_2_8_28 zf_Assembler_19 zT_1072 rfl (zz_ltn hn rfl) (zz_ro qS7 (fun h => absurd h.2 (by decide)) rfl) ?_
    refine zz_iload_n (x := 9) rfl zd_2_8_31 ?_
    refine zz_iload_n (x := p1) rfl zd_2_8_32 ?_
    refine zz_callSJ [zi 9, zi p1] zd_2_8_33 zk_Assembler_50 rfl rfl ⟨Nat.le_of_ble_eq_true rfl, Nat.le_of_ble_eq_true rfl⟩ ⟨rfl, rfl⟩ (Nat.zero_le _) (Nat.zero_le _) (zc_bits_12_4 9 p1 S7 n hn G_S7 (by omega) (by omega)) (fun v10 S9 hP => ?_)
    obtain ⟨rfl, o11⟩ := hP
    refine zz_lor zd_2_8_36 (fun v12 hv12 ev12 => ?_)
    refine zz_putl zd_2_8_37 zf_Assembler_19 zT_1072 rfl (zz_ltn hn rfl) (fun S13 qS13 => ?_)
    have G_S13 := zz_G.put G_S7 qS13 (-9223372036854775808) 9223372036854775807 rfl (by omega)
    have F_S13 := zz_fr.puts F_S7 qS13 rfl
    refine zz_iconst zd_2_8_40 ?_
    have e14 : S13 1072 3 = v6 := (zz_ro qS13 (fun h => absurd h.2 (by decide)) (zz_rs qS7))
    exact zz_zret zd_2_8_41 rfl (by omega) (Nat.zero_le _) (Nat.zero_le _) ⟨_, _, rfl, G_S13, F_S13, by omega, by omega, fun _ => (by rw [show S13 1072 3 = v6 by omega]; exact zt_set1 (b := Int32.ofInt 512) (by decide) (by decide) (by assumption)), by omega⟩
  · refine zz_iconst zd_2_8_12 ?_
    exact zz_zret zd_2_8_13 rfl (by omega) (Nat.zero_le _) (Nat.zero_le _) ⟨_, _, rfl, G_S0, F_S0, by omega, by omega, fun h => absurd h (by decide), by omega⟩
-- TensorForge$Assembler readNumber (I)Z
abbrev zr_readNumber_2_6_9 : Room := { frames := 2, cells := 0, slots := 0, locals := 30 }
def zp_readNumber_2_6_9  (S0 : zz_S) : Int → zz_S → Prop := fun r S => zz_G S ∧ zz_fr [(1070, 3), (1070, 4), (1070, 5), (1070, 6), (1072, 2), (1072, 3)] [] (fun _ _ => False) S0 S ∧ (0 ≤ r ∧ r ≤ 1) ∧ ((r = 1 ∧ zt_tk (S0 1071) (S0 1070 2) (S0 1070 3) = 100 ∧ zt_tv (S0 1071) (S0 1070 2) (S0 1070 3) ≤ 511 ∧ zt_bi (S0 1072 3) 9 = 0 ∧ S 1070 3 = zt_te (S0 1071) (S0 1070 2) (S0 1070 3) ∧ S0 1070 3 < S 1070 3) ∨ (r = 0 ∧ (zt_tk (S0 1071) (S0 1070 2) (S0 1070 3) ≠ 100 ∨ 511 < zt_tv (S0 1071) (S0 1070 2) (S0 1070 3) ∨ zt_bi (S0 1072 3) 9 = 1))) ∧ (r = 1 → zt_set (S0 1072 3) 9 (S 1072 3)) ∧ (S0 1070 3 ≤ S 1070 3) ∧ (S0 1070 3 ≤ S0 1070 2 → S 1070 3 ≤ S0 1070 2)
theorem zc_readNumber_2_6_9 {g : mm_G} {l : Launch}  (S0 : zz_S) (n : Nat) (hn : zz_end ≤ n) (G_S0 : zz_G S0)  : mm_Met g l zy_readNumber_2_6 zr_readNumber_2_6_9 [.ref 1072, zi 9] (zz_M S0 n) n (zz_QI n (zp_readNumber_2_6_9  S0)) := by
  refine zz_enter (by decide) (Nat.le_of_ble_eq_true rfl) (zz_less (ls1 := [some (.ref 1072), some (zi 9)]) ⟨rfl, ⟨rfl, trivial⟩⟩ ?_)
  have F_S0 : zz_fr [(1070, 3), (1070, 4), (1070, 5), (1070, 6), (1072, 2), (1072, 3)] [] (fun _ _ => False) S0 S0 := zz_fr.refl
  refine zz_aload_n (x := 1072) rfl zd_2_6_0 ?_
  refine zz_getr (kd := 0) (z := 1070) zd_2_6_1 zf_Assembler_9 zT_1072 rfl (zz_ltn hn rfl) (zz_G.eq G_S0 1072 0 1070 rfl rfl) (by decide) 1070 rfl ?_
  have g1 := zz_G.r G_S0 1070 2 (-1) 1500 rfl rfl
  have g2 := zz_G.r G_S0 1070 3 0 1500 rfl rfl
  refine zz_callVI [] zd_2_6_4 zk_Assembler_94 zT_1070 (zz_ltn hn rfl) rfl rfl ⟨Nat.le_of_ble_eq_true rfl, Nat.le_of_ble_eq_true rfl⟩ ⟨rfl, rfl⟩ (Nat.zero_le _) (Nat.zero_le _) (zc_nextIsNumber_11_11  S0 n hn G_S0 ) (fun v4 S3 hP => ?_)
  obtain ⟨G_S3, fS3, o5, o6, o7, o8, o9, o10, o11, o12, o13, o14, o15⟩ := hP
  have F_S3 := zz_fr.trans F_S0 fS3 rfl zz_nv
  rcases (by omega : v4 = 0 ∨ v4 = 1) with rfl | rfl
  · refine zz_if_eq (by omega) zd_2_6_7 (fun c16 => ?_) (fun c16 => ?_)
    · refine zz_iconst zd_2_6_43 ?_
      have g17 := zz_G.r G_S3 1070 3 0 1500 rfl rfl
      have g18 := zz_G.r G_S0 1072 3 (-2147483648) 2147483647 rfl rfl
      have e19 : S3 1072 3 = S0 1072 3 := (zz_rc fS3 rfl rfl (fun h => h) rfl)
      exact zz_zret zd_2_6_44 rfl (by omega) (Nat.zero_le _) (Nat.zero_le _) ⟨_, _, rfl, G_S3, F_S3, by omega, by omega, fun h => absurd h (by decide), by omega, by omega⟩
    · exfalso; omega
  · refine zz_if_eq (by omega) zd_2_6_7 (fun c20 => ?_) (fun c20 => ?_)
    · exfalso; omega
    · refine zz_aload_n (x := 1072) rfl zd_2_6_10 ?_
      refine zz_getr (kd := 0) (z := 1070) zd_2_6_11 zf_Assembler_9 zT_1072 rfl (zz_ltn hn rfl) (zz_G.eq G_S3 1072 0 1070 rfl rfl) (by decide) 1070 rfl ?_
      have g21 := zz_G.r G_S3 1070 6 (-2147483648) 2147483647 rfl rfl
      refine zz_geti (z := S3 1070 6) zd_2_6_14 zf_Assembler_97 zT_1070 rfl (zz_ltn hn rfl) rfl ?_
      refine zz_iload_n (x := 9) rfl zd_2_6_17 ?_
      refine zz_callSI [zi 9] zd_2_6_18 zk_Assembler_100 rfl rfl ⟨Nat.le_of_ble_eq_true rfl, Nat.le_of_ble_eq_true rfl⟩ ⟨rfl, rfl⟩ (Nat.zero_le _) (Nat.zero_le _) (zc_most_12_7x_9  S3 n hn G_S3 ) (fun v23 S22 hP => ?_)
      obtain ⟨rfl, o24⟩ := hP
      refine zz_icmp_gt (by omega) (by omega) zd_2_6_21 (fun c25 => ?_) (fun c25 => ?_)
      · refine zz_iconst zd_2_6_43 ?_
        have g26 := zz_G.r G_S3 1070 3 0 1500 rfl rfl
        have g27 := zz_G.r G_S0 1072 3 (-2147483648) 2147483647 rfl rfl
        have e28 : S3 1072 3 = S0 1072 3 := (zz_rc fS3 rfl rfl (fun h => h) rfl)
        exact zz_zret zd_2_6_44 rfl (by omega) (Nat.zero_le _) (Nat.zero_le _) ⟨_, _, rfl, G_S3, F_S3, by omega, by omega, fun h => absurd h (by decide), by omega, by omega⟩
      · refine zz_aload_n (x := 1072) rfl zd_2_6_24 ?_
        refine zz_iload_n (x := 9) rfl zd_2_6_25 ?_
        refine zz_aload_n (x := 1072) rfl zd_2_6_26 ?_
        refine zz_getr (kd := 0) (z := 1070) zd_2_6_27 zf_Assembler_9 zT_1072 rfl (zz_ltn hn rfl) (zz_G.eq G_S3 1072 0 1070 rfl rfl) (by decide) 1070 rfl ?_
        refine zz_geti (z := S3 1070 6) zd_2_6_30 zf_Assembler_97 zT_1070 rfl (zz_ltn hn rfl) rfl ?_
        have g29 := zz_G.r G_S0 1072 3 (-2147483648) 2147483647 rfl rfl
        have e30 : S3 1072 3 = S0 1072 3 := (zz_rc fS3 rfl rfl (fun h => h) rfl)
        refine zz_callVI [zi 9, zi (S3 1070 6)] zd_2_6_33 zk_Assembler_104 zT_1072 (zz_ltn hn rfl) rfl rfl ⟨Nat.le_of_ble_eq_true rfl, Nat.le_of_ble_eq_true rfl⟩ ⟨rfl, rfl⟩ (Nat.zero_le _) (Nat.zero_le _) (zc_setOnce_2_8_9 (S3 1070 6) S3 n hn G_S3 (by omega)) (fun v32 S31 hP => ?_)
        obtain ⟨G_S31, fS31, o33, o34, o35, o36⟩ := hP
        rw [show S3 1072 3 = S0 1072 3 from (zz_rc fS3 rfl rfl (fun h => h) rfl)] at o34
        rw [show S3 1072 3 = S0 1072 3 from (zz_rc fS3 rfl rfl (fun h => h) rfl)] at o35
        rw [show S3 1072 3 = S0 1072 3 from (zz_rc fS3 rfl rfl (fun h => h) rfl)] at o36
        have F_S31 := zz_fr.trans F_S3 fS31 rfl zz_nv
        rcases (by omega : v32 = 0 ∨ v32 = 1) with rfl | rfl
        · refine zz_if_eq (by omega) zd_2_6_36 (fun c37 => ?_) (fun c37 => ?_)
          · refine zz_iconst zd_2_6_43 ?_
            have g38 := zz_G.r G_S3 1070 3 0 1500 rfl rfl
            have e39 : S31 1070 3 = S3 1070 3 := (zz_rc fS31 rfl rfl (fun h => h) rfl)
            have g40 := zz_G.r G_S31 1072 3 (-2147483648) 2147483647 rfl rfl
            exact zz_zret zd_2_6_44 rfl (by omega) (Nat.zero_le _) (Nat.zero_le _) ⟨_, _, rfl, G_S31, F_S31, by omega, by omega, fun h => absurd h (by decide), by omega, by omega⟩
          · exfalso; omega
        · refine zz_if_eq (by omega) zd_2_6_36 (fun c41 => ?_) (fun c41 => ?_)
          · exfalso; omega
          · refine zz_iconst zd_2_6_39 ?_
            refine zz_goto zd_2_6_40 ?_
            have g42 := zz_G.r G_S3 1070 3 0 1500 rfl rfl
            have e43 : S31 1070 3 = S3 1070 3 := (zz_rc fS31 rfl rfl (fun h => h) rfl)
            have g44 := zz_G.r G_S31 1072 3 (-2147483648) 2147483647 rfl rfl
            exact zz_zret zd_2_6_44 rfl (by omega) (Nat.zero_le _) (Nat.zero_le _) ⟨_, _, rfl, G_S31, F_S31, by omega, by omega, fun _ => o35 rfl, by omega, by omega⟩
theorem zg_2_5_103 : zq_at zy_readPart_2_5.2.1 103 172 ∧ zq_at zy_readPart_2_5.2.1 78 42 ∧ zq_at zy_readPart_2_5.2.1 79 16 ∧ zq_at zy_readPart_2_5.2.1 80 8 ∧ zq_at zy_readPart_2_5.2.1 81 182 ∧ zq_at zy_readPart_2_5.2.1 82 0 ∧ zq_at zy_readPart_2_5.2.1 83 67 := by decide +kernel
theorem zd_2_5_103 : zz_D zy_readPart_2_5 103 (.ireturn) 1 104 := ⟨zq_172 zg_2_5_103.1, rfl⟩
theorem zd_2_5_78 : zz_D zy_readPart_2_5 78 (.aload_n 0) 1 79 := ⟨zq_42 zg_2_5_103.2.1, rfl⟩
theorem zd_2_5_79 : zz_D zy_readPart_2_5 79 (.bipush 8) 2 81 := ⟨zq_16 zg_2_5_103.2.2.1 zg_2_5_103.2.2.2.1 (by decide), rfl⟩
theorem zd_2_5_81 : zz_D zy_readPart_2_5 81 (.invokevirtual 67) 3 84 := ⟨zq_182 zg_2_5_103.2.2.2.2.1 zg_2_5_103.2.2.2.2.2.1 zg_2_5_103.2.2.2.2.2.2 rfl, rfl⟩
-- TensorForge$Words most (I)I
abbrev zr_most_12_7x_8 : Room := { frames := 0, cells := 0, slots := 0, locals := 0 }
def zp_most_12_7x_8  (S0 : zz_S) : Int → zz_S → Prop := fun r S => S0 = S ∧ (511 ≤ r ∧ r ≤ 511)
theorem zc_most_12_7x_8 {g : mm_G} {l : Launch}  (S0 : zz_S) (n : Nat) (hn : zz_end ≤ n) (G_S0 : zz_G S0)  : mm_Met g l zy_most_12_7 zr_most_12_7x_8 [zi 8] (zz_M S0 n) n (zz_QI n (zp_most_12_7x_8  S0)) := by
  refine zz_enter (by decide) (Nat.le_of_ble_eq_true rfl) (zz_less (ls1 := [some (zi 8)]) ⟨rfl, trivial⟩ ?_)
  refine zz_iload_n (x := 8) rfl zd_12_7_0 ?_
  refine zz_if_lt (by omega) zd_12_7_1 (fun c1 => ?_) (fun c1 => ?_)
  · exfalso; omega
  · refine zz_iload_n (x := 8) rfl zd_12_7_4 ?_
    refine zz_bipush (by decide) zd_12_7_5 ?_
    refine zz_icmp_lt (by omega) (by omega) zd_12_7_7 (fun c2 => ?_) (fun c2 => ?_)
    · refine zz_gets (q0 := 2) zd_12_7_14 rfl (by decide) zs_Words_13 ?_
      refine zz_iload_n (x := 8) rfl zd_12_7_17 ?_
      refine zz_tiald 511 zd_12_7_18 rfl (by decide) rfl (by decide) (by decide) rfl ?_
      exact zz_iret zd_12_7_19 rfl (Nat.zero_le _) (Nat.zero_le _) ⟨_, _, rfl, rfl, by omega⟩
    · exfalso; omega
-- TensorForge$Assembler setOnce (II)Z
abbrev zr_setOnce_2_8_8 : Room := { frames := 1, cells := 0, slots := 0, locals := 16 }
def zp_setOnce_2_8_8 (p1 : Int) (S0 : zz_S) : Int → zz_S → Prop := fun r S => zz_G S ∧ zz_fr [(1072, 2), (1072, 3)] [] (fun _ _ => False) S0 S ∧ (0 ≤ r ∧ r ≤ 1) ∧ ((r = 1 ∧ zt_bi (S0 1072 3) 8 = 0) ∨ (r = 0 ∧ zt_bi (S0 1072 3) 8 = 1)) ∧ (r = 1 → zt_set (S0 1072 3) 8 (S 1072 3)) ∧ (r = 0 → S 1072 3 = S0 1072 3)
theorem zc_setOnce_2_8_8 {g : mm_G} {l : Launch} (p1 : Int) (S0 : zz_S) (n : Nat) (hn : zz_end ≤ n) (G_S0 : zz_G S0) (hp1 : (-2147483648) ≤ p1 ∧ p1 ≤ 2147483647) : mm_Met g l zy_setOnce_2_8 zr_setOnce_2_8_8 [.ref 1072, zi 8, zi p1] (zz_M S0 n) n (zz_QI n (zp_setOnce_2_8_8 p1 S0)) := by
  refine zz_enter (by decide) (Nat.le_of_ble_eq_true rfl) (zz_less (ls1 := [some (.ref 1072), some (zi 8), some (zi p1)]) ⟨rfl, ⟨rfl, ⟨rfl, trivial⟩⟩⟩ ?_)
  have F_S0 : zz_fr [(1072, 2), (1072, 3)] [] (fun _ _ => False) S0 S0 := zz_fr.refl
  refine zz_aload_n (x := 1072) rfl zd_2_8_0 ?_
  have g1 := zz_G.r G_S0 1072 3 (-2147483648) 2147483647 rfl rfl
  refine zz_geti (z := S0 1072 3) zd_2_8_1 zf_Assembler_23 zT_1072 rfl (zz_ltn hn rfl) rfl ?_
  refine zz_iload_n (x := 8) rfl zd_2_8_4 ?_
  refine zz_ishr zd_2_8_5 (fun v2 hv2 ev2 => ?_)
  refine zz_iconst zd_2_8_6 ?_
  refine zz_iand (by omega) (by omega) zd_2_8_7 (fun v3 hv3 av3 bv3 ev3 => ?_)
  have hb9 := zt_shb (s := S0 1072 3) (w := 8) (x := 8) (by decide) (by decide) (by assumption) (by assumption)
  refine zz_iconst zd_2_8_8 ?_
  refine zz_icmp_ne (by omega) (by omega) zd_2_8_9 (fun c4 => ?_) (fun c4 => ?_)
  · refine zz_aload_n (x := 1072) rfl zd_2_8_14 ?_
    refine zz_dup rfl zd_2_8_15 ?_
    refine zz_geti (z := S0 1072 3) zd_2_8_16 zf_Assembler_23 zT_1072 rfl (zz_ltn hn rfl) rfl ?_
    refine zz_iconst zd_2_8_19 ?_
    refine zz_iload_n (x := 8) rfl zd_2_8_20 ?_
    refine zz_ishl zd_2_8_21 (fun v5 hv5 ev5 => ?_)
    obtain rfl : v5 = 256 := ev5.trans (by decide)
    refine zz_ior (by omega) (by omega) zd_2_8_22 (fun v6 hv6 av6 ev6 => ?_)
    skip
    refine zz_puti zd_2_8_23 zf_Assembler_23 zT_1072 rfl (zz_ltn hn rfl) (fun S7 qS7 => ?_)
    have G_S7 := zz_G.put G_S0 qS7 (-2147483648) 2147483647 rfl (by omega)
    have F_S7 := zz_fr.puts F_S0 qS7 rfl
    refine zz_aload_n (x := 1072) rfl zd_2_8_26 ?_
    refine zz_dup rfl zd_2_8_27 ?_
    have g8 := zz_G.r G_S0 1072 2 (-9223372036854775808) 9223372036854775807 rfl rfl
    refine zz_getl (z := S0 1072 2) zd_2_8_28 zf_Assembler_19 zT_1072 rfl (zz_ltn hn rfl) (zz_ro qS7 (fun h => absurd h.2 (by decide)) rfl) ?_
    refine zz_iload_n (x := 8) rfl zd_2_8_31 ?_
    refine zz_iload_n (x := p1) rfl zd_2_8_32 ?_
    refine zz_callSJ [zi 8, zi p1] zd_2_8_33 zk_Assembler_50 rfl rfl ⟨Nat.le_of_ble_eq_true rfl, Nat.le_of_ble_eq_true rfl⟩ ⟨rfl, rfl⟩ (Nat.zero_le _) (Nat.zero_le _) (zc_bits_12_4 8 p1 S7 n hn G_S7 (by omega) (by omega)) (fun v10 S9 hP => ?_)
    obtain ⟨rfl, o11⟩ := hP
    refine zz_lor zd_2_8_36 (fun v12 hv12 ev12 => ?_)
    refine zz_putl zd_2_8_37 zf_Assembler_19 zT_1072 rfl (zz_ltn hn rfl) (fun S13 qS13 => ?_)
    have G_S13 := zz_G.put G_S7 qS13 (-9223372036854775808) 9223372036854775807 rfl (by omega)
    have F_S13 := zz_fr.puts F_S7 qS13 rfl
    refine zz_iconst zd_2_8_40 ?_
    have e14 : S13 1072 3 = v6 := (zz_ro qS13 (fun h => absurd h.2 (by decide)) (zz_rs qS7))
    exact zz_zret zd_2_8_41 rfl (by omega) (Nat.zero_le _) (Nat.zero_le _) ⟨_, _, rfl, G_S13, F_S13, by omega, by omega, fun _ => (by rw [show S13 1072 3 = v6 by omega]; exact zt_set1 (b := Int32.ofInt 256) (by decide) (by decide) (by assumption)), by omega⟩
  · refine zz_iconst zd_2_8_12 ?_
    exact zz_zret zd_2_8_13 rfl (by omega) (Nat.zero_le _) (Nat.zero_le _) ⟨_, _, rfl, G_S0, F_S0, by omega, by omega, fun h => absurd h (by decide), by omega⟩

-- TensorForge$Words nameOf (I)Ljava/lang/String;
abbrev zr_nameOf_12_12 : Room := { frames := 0, cells := 0, slots := 0, locals := 0 }
def zp_nameOf_12_12 (p0 : Int) (S0 : zz_S) : Nat → zz_S → Prop := fun r S => S0 = S ∧ (∃ u : Nat, r = 100 + u ∧ u < 59)
theorem zc_nameOf_12_12 {g : mm_G} {l : Launch} (p0 : Int) (S0 : zz_S) (n : Nat) (hn : zz_end ≤ n) (G_S0 : zz_G S0) (hp0 : (-2147483648) ≤ p0 ∧ p0 ≤ 2147483647) : mm_Met g l zy_nameOf_12_12 zr_nameOf_12_12 [zi p0] (zz_M S0 n) n (zz_QA n (zp_nameOf_12_12 p0 S0)) := by
  refine zz_enter (by decide) (Nat.le_of_ble_eq_true rfl) (zz_less (ls1 := [some (zi p0)]) ⟨rfl, trivial⟩ ?_)
  refine zz_iload_n (x := p0) rfl zd_12_12_0 ?_
  by_cases c1 : p0 = 1
  · refine zz_swIn 1 51 c1 (by decide) zd_12_12_1 rfl rfl ?_
    refine zz_ldcs (t := 0) (by decide +kernel) (by decide) zd_12_12_52 ?_
    exact zz_aret zd_12_12_54 rfl (Nat.zero_le _) (Nat.zero_le _) ⟨_, _, rfl, rfl, ⟨_, rfl, by decide⟩⟩
  by_cases c2 : p0 = 2
  · refine zz_swIn 2 54 c2 (by decide) zd_12_12_1 rfl rfl ?_
    refine zz_ldcs (t := 1) (by decide +kernel) (by decide) zd_12_12_55 ?_
    exact zz_aret zd_12_12_57 rfl (Nat.zero_le _) (Nat.zero_le _) ⟨_, _, rfl, rfl, ⟨_, rfl, by decide⟩⟩
  by_cases c3 : p0 = 3
  · refine zz_swIn 3 57 c3 (by decide) zd_12_12_1 rfl rfl ?_
    refine zz_ldcs (t := 2) (by decide +kernel) (by decide) zd_12_12_58 ?_
    exact zz_aret zd_12_12_60 rfl (Nat.zero_le _) (Nat.zero_le _) ⟨_, _, rfl, rfl, ⟨_, rfl, by decide⟩⟩
  by_cases c4 : p0 = 4
  · refine zz_swIn 4 60 c4 (by decide) zd_12_12_1 rfl rfl ?_
    refine zz_ldcs (t := 3) (by decide +kernel) (by decide) zd_12_12_61 ?_
    exact zz_aret zd_12_12_63 rfl (Nat.zero_le _) (Nat.zero_le _) ⟨_, _, rfl, rfl, ⟨_, rfl, by decide⟩⟩
  by_cases c5 : p0 = 5
  · refine zz_swIn 5 63 c5 (by decide) zd_12_12_1 rfl rfl ?_
    refine zz_ldcs (t := 4) (by decide +kernel) (by decide) zd_12_12_64 ?_
    exact zz_aret zd_12_12_66 rfl (Nat.zero_le _) (Nat.zero_le _) ⟨_, _, rfl, rfl, ⟨_, rfl, by decide⟩⟩
  by_cases c6 : p0 = 6
  · refine zz_swIn 6 66 c6 (by decide) zd_12_12_1 rfl rfl ?_
    refine zz_ldcs (t := 5) (by decide +kernel) (by decide) zd_12_12_67 ?_
    exact zz_aret zd_12_12_69 rfl (Nat.zero_le _) (Nat.zero_le _) ⟨_, _, rfl, rfl, ⟨_, rfl, by decide⟩⟩
  by_cases c7 : p0 = 7
  · refine zz_swIn 7 69 c7 (by decide) zd_12_12_1 rfl rfl ?_
    refine zz_ldcs (t := 6) (by decide +kernel) (by decide) zd_12_12_70 ?_
    exact zz_aret zd_12_12_72 rfl (Nat.zero_le _) (Nat.zero_le _) ⟨_, _, rfl, rfl, ⟨_, rfl, by decide⟩⟩
  by_cases c8 : p0 = 8
  · refine zz_swIn 8 72 c8 (by decide) zd_12_12_1 rfl rfl ?_
    refine zz_ldcs (t := 7) (by decide +kernel) (by decide) zd_12_12_73 ?_
    exact zz_aret zd_12_12_75 rfl (Nat.zero_le _) (Nat.zero_le _) ⟨_, _, rfl, rfl, ⟨_, rfl, by decide⟩⟩
  by_cases c9 : p0 = 9
  · refine zz_swIn 9 75 c9 (by decide) zd_12_12_1 rfl rfl ?_
    refine zz_ldcs (t := 8) (by decide +kernel) (by decide) zd_12_12_76 ?_
    exact zz_aret zd_12_12_78 rfl (Nat.zero_le _) (Nat.zero_le _) ⟨_, _, rfl, rfl, ⟨_, rfl, by decide⟩⟩
  refine zz_swOut (by omega) (by omega) zd_12_12_1 rfl ?_
  refine zz_ldcs (t := 9) (by decide +kernel) (by decide) zd_12_12_79 ?_
  exact zz_aret zd_12_12_81 rfl (Nat.zero_le _) (Nat.zero_le _) ⟨_, _, rfl, rfl, ⟨_, rfl, by decide⟩⟩
theorem zk_Assembler_57 : mm_Sl "TensorForge$Assembler" 57 1 zy_nameOf_12_12 := ⟨zyw_nameOf_12_12, mm_tb_1 581 (by decide +kernel) rfl, mm_tb_1 582 (by decide +kernel) rfl⟩
abbrev zy_isWord_11_9 : mm_Y := (⟨"TensorForge$Text", "isWord", "(Ljava/lang/String;)Z"⟩, prog_11_method_9_code, 3, (some .boolean))
theorem zyw_isWord_11_9 : mm_Yw zy_isWord_11_9 1 := ⟨mm_tb_1 597 (by decide +kernel) rfl, mm_tb_1 7 (by decide +kernel) rfl, ⟨by decide, by decide⟩, by decide +kernel⟩
abbrev zy_length_21_54 : mm_Y := (⟨"java/lang/String", "length", "()I"⟩, prog_21_method_54_code, 1, (some .int))
theorem zyw_length_21_54 : mm_Yw zy_length_21_54 0 := ⟨mm_tb_1 601 (by decide +kernel) rfl, mm_tb_1 21 (by decide +kernel) rfl, ⟨by decide, by decide⟩, by decide +kernel⟩
theorem zz_stl {t : Nat} (h : t < 59) : t < mm_txt.length := h
theorem zsf_java_lang_String_9 : Cond.fieldLink "java/lang/String" 9 "java/lang/String" "value" "[B" ∈ mm_tb := mm_tb_1 2311 (by decide +kernel) rfl
theorem zz_slen {t : Nat} (h : t < 59) : 0 ≤ ((mm_len.getD t 0 : Nat) : Int) ∧ ((mm_len.getD t 0 : Nat) : Int) ≤ 38 := by
  have h1 : ∀ t, t < 59 → mm_len.getD t 0 ≤ 38 := by decide +kernel
  have := h1 t h
  omega
abbrev zy_coder_21_152 : mm_Y := (⟨"java/lang/String", "coder", "()B"⟩, prog_21_method_152_code, 1, (some .byte))
theorem zyw_coder_21_152 : mm_Yw zy_coder_21_152 0 := ⟨mm_tb_1 605 (by decide +kernel) rfl, mm_tb_1 21 (by decide +kernel) rfl, ⟨by decide, by decide⟩, by decide +kernel⟩
theorem zsf_java_lang_String_38 : Cond.fieldLink "java/lang/String" 38 "java/lang/String" "COMPACT_STRINGS" "Z" ∈ mm_tb := mm_tb_1 606 (by decide +kernel) rfl
theorem zsf_java_lang_String_15 : Cond.fieldLink "java/lang/String" 15 "java/lang/String" "coder" "B" ∈ mm_tb := mm_tb_1 2312 (by decide +kernel) rfl
theorem zd_2_4_16 : zz_D zy_kindTold_2_4 16 (.invokevirtual 61) 3 19 := ⟨by decide +kernel, rfl⟩
theorem zg_11_9_0 : (decode zy_isWord_11_9.2.1 0 = .ok ((.aload_n 0), 1)) ∧ (decode zy_isWord_11_9.2.1 1 = .ok ((.getfield 28), 3)) ∧ (decode zy_isWord_11_9.2.1 4 = .ok ((.iconst 1), 1)) ∧ (decode zy_isWord_11_9.2.1 5 = .ok ((Instr.if_icmp .ne) 19, 3)) ∧ (decode zy_isWord_11_9.2.1 24 = .ok ((.iconst 0), 1)) ∧ (decode zy_isWord_11_9.2.1 25 = .ok ((.ireturn), 1)) ∧ (decode zy_isWord_11_9.2.1 8 = .ok ((.aload_n 0), 1)) ∧ (decode zy_isWord_11_9.2.1 9 = .ok ((.getfield 25), 3)) ∧ (decode zy_isWord_11_9.2.1 12 = .ok ((.aload_n 0), 1)) ∧ (decode zy_isWord_11_9.2.1 13 = .ok ((.getfield 31), 3)) := by decide +kernel
theorem zd_11_9_0 : zz_D zy_isWord_11_9 0 (.aload_n 0) 1 1 := ⟨zg_11_9_0.1, rfl⟩
theorem zd_11_9_1 : zz_D zy_isWord_11_9 1 (.getfield 28) 3 4 := ⟨zg_11_9_0.2.1, rfl⟩
theorem zd_11_9_4 : zz_D zy_isWord_11_9 4 (.iconst 1) 1 5 := ⟨zg_11_9_0.2.2.1, rfl⟩
theorem zd_11_9_5 : zz_B zy_isWord_11_9 5 (Instr.if_icmp .ne) 24 8 := ⟨19, zg_11_9_0.2.2.2.1, rfl, rfl⟩
theorem zd_11_9_24 : zz_D zy_isWord_11_9 24 (.iconst 0) 1 25 := ⟨zg_11_9_0.2.2.2.2.1, rfl⟩
theorem zd_11_9_25 : zz_D zy_isWord_11_9 25 (.ireturn) 1 26 := ⟨zg_11_9_0.2.2.2.2.2.1, rfl⟩
theorem zd_11_9_8 : zz_D zy_isWord_11_9 8 (.aload_n 0) 1 9 := ⟨zg_11_9_0.2.2.2.2.2.2.1, rfl⟩
theorem zd_11_9_9 : zz_D zy_isWord_11_9 9 (.getfield 25) 3 12 := ⟨zg_11_9_0.2.2.2.2.2.2.2.1, rfl⟩
theorem zd_11_9_12 : zz_D zy_isWord_11_9 12 (.aload_n 0) 1 13 := ⟨zg_11_9_0.2.2.2.2.2.2.2.2.1, rfl⟩
theorem zd_11_9_13 : zz_D zy_isWord_11_9 13 (.getfield 31) 3 16 := ⟨zg_11_9_0.2.2.2.2.2.2.2.2.2, rfl⟩
theorem zg_11_9_16 : (decode zy_isWord_11_9.2.1 16 = .ok ((.isub), 1)) ∧ (decode zy_isWord_11_9.2.1 17 = .ok ((.aload_n 1), 1)) ∧ (decode zy_isWord_11_9.2.1 18 = .ok ((.invokevirtual 37), 3)) := by decide +kernel
theorem zd_11_9_16 : zz_D zy_isWord_11_9 16 (.isub) 1 17 := ⟨zg_11_9_16.1, rfl⟩
theorem zd_11_9_17 : zz_D zy_isWord_11_9 17 (.aload_n 1) 1 18 := ⟨zg_11_9_16.2.1, rfl⟩
theorem zd_11_9_18 : zz_D zy_isWord_11_9 18 (.invokevirtual 37) 3 21 := ⟨zg_11_9_16.2.2, rfl⟩
theorem zg_21_54_0 : (decode zy_length_21_54.2.1 0 = .ok ((.aload_n 0), 1)) ∧ (decode zy_length_21_54.2.1 1 = .ok ((.getfield 9), 3)) ∧ (decode zy_length_21_54.2.1 4 = .ok ((.arraylength), 1)) ∧ (decode zy_length_21_54.2.1 5 = .ok ((.aload_n 0), 1)) ∧ (decode zy_length_21_54.2.1 6 = .ok ((.invokevirtual 335), 3)) := by decide +kernel
theorem zd_21_54_0 : zz_D zy_length_21_54 0 (.aload_n 0) 1 1 := ⟨zg_21_54_0.1, rfl⟩
theorem zd_21_54_1 : zz_D zy_length_21_54 1 (.getfield 9) 3 4 := ⟨zg_21_54_0.2.1, rfl⟩
theorem zd_21_54_4 : zz_D zy_length_21_54 4 (.arraylength) 1 5 := ⟨zg_21_54_0.2.2.1, rfl⟩
theorem zd_21_54_5 : zz_D zy_length_21_54 5 (.aload_n 0) 1 6 := ⟨zg_21_54_0.2.2.2.1, rfl⟩
theorem zd_21_54_6 : zz_D zy_length_21_54 6 (.invokevirtual 335) 3 9 := ⟨zg_21_54_0.2.2.2.2, rfl⟩
theorem zg_21_152_0 : (decode zy_coder_21_152.2.1 0 = .ok ((.getstatic 38), 3)) ∧ (decode zy_coder_21_152.2.1 3 = .ok ((Instr.ifCond .eq) 10, 3)) ∧ (decode zy_coder_21_152.2.1 6 = .ok ((.aload_n 0), 1)) ∧ (decode zy_coder_21_152.2.1 7 = .ok ((.getfield 15), 3)) ∧ (decode zy_coder_21_152.2.1 10 = .ok (Instr.goto 4, 3)) ∧ (decode zy_coder_21_152.2.1 14 = .ok ((.ireturn), 1)) := by decide +kernel
theorem zd_21_152_0 : zz_D zy_coder_21_152 0 (.getstatic 38) 3 3 := ⟨zg_21_152_0.1, rfl⟩
theorem zd_21_152_3 : zz_B zy_coder_21_152 3 (Instr.ifCond .eq) 13 6 := ⟨10, zg_21_152_0.2.1, rfl, rfl⟩
theorem zd_21_152_6 : zz_D zy_coder_21_152 6 (.aload_n 0) 1 7 := ⟨zg_21_152_0.2.2.1, rfl⟩
theorem zd_21_152_7 : zz_D zy_coder_21_152 7 (.getfield 15) 3 10 := ⟨zg_21_152_0.2.2.2.1, rfl⟩
theorem zd_21_152_10 : zz_B zy_coder_21_152 10 Instr.goto 14 13 := ⟨4, zg_21_152_0.2.2.2.2.1, rfl, rfl⟩
theorem zd_21_152_14 : zz_D zy_coder_21_152 14 (.ireturn) 1 15 := ⟨zg_21_152_0.2.2.2.2.2, rfl⟩
-- java/lang/String coder ()B
abbrev zr_coder_21_152 : Room := { frames := 0, cells := 0, slots := 0, locals := 0 }
def zp_coder_21_152 (t : Nat) (S0 : zz_S) : Int → zz_S → Prop := fun r S => S0 = S ∧ (0 ≤ r ∧ r ≤ 0)
theorem zc_coder_21_152 {g : mm_G} {l : Launch} (t : Nat) (S0 : zz_S) (n : Nat) (hn : zz_end ≤ n) (G_S0 : zz_G S0) (ht : t < 59) : mm_Met g l zy_coder_21_152 zr_coder_21_152 [.ref (100 + t)] (zz_M S0 n) n (zz_QI n (zp_coder_21_152 t S0)) := by
  refine zz_enter (by decide) (Nat.le_of_ble_eq_true rfl) (zz_less (ls1 := [some (.ref (100 + t))]) ⟨rfl, trivial⟩ ?_)
  refine zz_gsZ zd_21_152_0 zsf_java_lang_String_38 ?_
  refine zz_if_eq (by omega) zd_21_152_3 (fun c1 => ?_) (fun c1 => ?_)
  · exfalso; omega
  · refine zz_aload_n (x := 100 + t) rfl zd_21_152_6 ?_
    refine zz_strC (zz_stl (by omega)) (by omega) zd_21_152_7 zsf_java_lang_String_15 ?_
    refine zz_goto zd_21_152_10 ?_
    exact zz_bret zd_21_152_14 rfl (by omega) (Nat.zero_le _) (Nat.zero_le _) ⟨_, _, rfl, rfl, by omega⟩
theorem zkT_java_lang_String_335 : mm_Yw zy_coder_21_152 0 ∧ Cond.methodLink "java/lang/String" 335 zy_coder_21_152.1 ∈ mm_tb ∧ Cond.instanceMethod zy_coder_21_152.1 ∈ mm_tb ∧ Cond.selects "java/lang/String" zy_coder_21_152.1 zy_coder_21_152.1 ∈ mm_tb := ⟨zyw_coder_21_152, mm_tb_1 602 (by decide +kernel) rfl, mm_tb_1 603 (by decide +kernel) rfl, mm_tb_1 604 (by decide +kernel) rfl⟩
theorem zg_21_54_9 : (decode zy_length_21_54.2.1 9 = .ok ((.ishr), 1)) ∧ (decode zy_length_21_54.2.1 10 = .ok ((.ireturn), 1)) := by decide +kernel
theorem zd_21_54_9 : zz_D zy_length_21_54 9 (.ishr) 1 10 := ⟨zg_21_54_9.1, rfl⟩
theorem zd_21_54_10 : zz_D zy_length_21_54 10 (.ireturn) 1 11 := ⟨zg_21_54_9.2, rfl⟩
-- java/lang/String length ()I
abbrev zr_length_21_54 : Room := { frames := 1, cells := 0, slots := 0, locals := 13 }
def zp_length_21_54 (t : Nat) (S0 : zz_S) : Int → zz_S → Prop := fun r S => S0 = S ∧ (0 ≤ r ∧ r ≤ 38) ∧ (r = ((mm_len.getD t 0 : Nat) : Int))
theorem zc_length_21_54 {g : mm_G} {l : Launch} (t : Nat) (S0 : zz_S) (n : Nat) (hn : zz_end ≤ n) (G_S0 : zz_G S0) (ht : t < 59) : mm_Met g l zy_length_21_54 zr_length_21_54 [.ref (100 + t)] (zz_M S0 n) n (zz_QI n (zp_length_21_54 t S0)) := by
  refine zz_enter (by decide) (Nat.le_of_ble_eq_true rfl) (zz_less (ls1 := [some (.ref (100 + t))]) ⟨rfl, trivial⟩ ?_)
  refine zz_aload_n (x := 100 + t) rfl zd_21_54_0 ?_
  refine zz_strV (zz_stl (by omega)) (by omega) zd_21_54_1 zsf_java_lang_String_9 ?_
  have l1 := zz_slen (t := t) (by omega)
  refine zz_strL (zz_stl (by omega)) (by omega) zd_21_54_4 ?_
  refine zz_aload_n (x := 100 + t) rfl zd_21_54_5 ?_
  refine zz_callT (t := t) [] (zz_stl (by omega)) (by omega) zd_21_54_6 zkT_java_lang_String_335 rfl rfl ⟨Nat.le_of_ble_eq_true rfl, Nat.le_of_ble_eq_true rfl⟩ ⟨rfl, rfl⟩ (Nat.zero_le _) (Nat.zero_le _) (zc_coder_21_152 t S0 n hn G_S0 (by omega)) (fun v3 S2 hP => ?_)
  obtain ⟨rfl, o4⟩ := hP
  rcases (by omega : v3 = 0) with rfl
  · refine zz_ishr zd_21_54_9 (fun v5 hv5 ev5 => ?_)
    have av5 := zz_shr0 (by omega) ev5
    exact zz_iret zd_21_54_10 rfl (Nat.zero_le _) (Nat.zero_le _) ⟨_, _, rfl, rfl, by omega, by omega⟩
theorem zkT_Text_37 : mm_Yw zy_length_21_54 0 ∧ Cond.methodLink "TensorForge$Text" 37 zy_length_21_54.1 ∈ mm_tb ∧ Cond.instanceMethod zy_length_21_54.1 ∈ mm_tb ∧ Cond.selects "java/lang/String" zy_length_21_54.1 zy_length_21_54.1 ∈ mm_tb := ⟨zyw_length_21_54, mm_tb_1 598 (by decide +kernel) rfl, mm_tb_1 599 (by decide +kernel) rfl, mm_tb_1 600 (by decide +kernel) rfl⟩
abbrev zy_charAt_21_56 : mm_Y := (⟨"java/lang/String", "charAt", "(I)C"⟩, prog_21_method_56_code, 2, (some .char))
theorem zyw_charAt_21_56 : mm_Yw zy_charAt_21_56 1 := ⟨mm_tb_1 611 (by decide +kernel) rfl, mm_tb_1 21 (by decide +kernel) rfl, ⟨by decide, by decide⟩, by decide +kernel⟩
abbrev zy_isLatin1_21_154 : mm_Y := (⟨"java/lang/String", "isLatin1", "()Z"⟩, prog_21_method_154_code, 1, (some .boolean))
theorem zyw_isLatin1_21_154 : mm_Yw zy_isLatin1_21_154 0 := ⟨mm_tb_1 615 (by decide +kernel) rfl, mm_tb_1 21 (by decide +kernel) rfl, ⟨by decide, by decide⟩, by decide +kernel⟩
theorem zg_11_9_21 : (decode zy_isWord_11_9.2.1 21 = .ok ((Instr.if_icmp .eq) 5, 3)) ∧ (decode zy_isWord_11_9.2.1 26 = .ok ((.iconst 0), 1)) ∧ (decode zy_isWord_11_9.2.1 27 = .ok ((.istore_n 2), 1)) ∧ (decode zy_isWord_11_9.2.1 28 = .ok ((.iload_n 2), 1)) ∧ (decode zy_isWord_11_9.2.1 29 = .ok ((.aload_n 1), 1)) ∧ (decode zy_isWord_11_9.2.1 30 = .ok ((.invokevirtual 37), 3)) ∧ (decode zy_isWord_11_9.2.1 33 = .ok ((Instr.if_icmp .ge) 30, 3)) ∧ (decode zy_isWord_11_9.2.1 63 = .ok ((.iconst 1), 1)) ∧ (decode zy_isWord_11_9.2.1 64 = .ok ((.ireturn), 1)) ∧ (decode zy_isWord_11_9.2.1 36 = .ok ((.aload_n 0), 1)) := by decide +kernel
theorem zd_11_9_21 : zz_B zy_isWord_11_9 21 (Instr.if_icmp .eq) 26 24 := ⟨5, zg_11_9_21.1, rfl, rfl⟩
theorem zd_11_9_26 : zz_D zy_isWord_11_9 26 (.iconst 0) 1 27 := ⟨zg_11_9_21.2.1, rfl⟩
theorem zd_11_9_27 : zz_D zy_isWord_11_9 27 (.istore_n 2) 1 28 := ⟨zg_11_9_21.2.2.1, rfl⟩
theorem zd_11_9_28 : zz_D zy_isWord_11_9 28 (.iload_n 2) 1 29 := ⟨zg_11_9_21.2.2.2.1, rfl⟩
theorem zd_11_9_29 : zz_D zy_isWord_11_9 29 (.aload_n 1) 1 30 := ⟨zg_11_9_21.2.2.2.2.1, rfl⟩
theorem zd_11_9_30 : zz_D zy_isWord_11_9 30 (.invokevirtual 37) 3 33 := ⟨zg_11_9_21.2.2.2.2.2.1, rfl⟩
theorem zd_11_9_33 : zz_B zy_isWord_11_9 33 (Instr.if_icmp .ge) 63 36 := ⟨30, zg_11_9_21.2.2.2.2.2.2.1, rfl, rfl⟩
theorem zd_11_9_63 : zz_D zy_isWord_11_9 63 (.iconst 1) 1 64 := ⟨zg_11_9_21.2.2.2.2.2.2.2.1, rfl⟩
theorem zd_11_9_64 : zz_D zy_isWord_11_9 64 (.ireturn) 1 65 := ⟨zg_11_9_21.2.2.2.2.2.2.2.2.1, rfl⟩
theorem zd_11_9_36 : zz_D zy_isWord_11_9 36 (.aload_n 0) 1 37 := ⟨zg_11_9_21.2.2.2.2.2.2.2.2.2, rfl⟩
theorem zg_11_9_37 : (decode zy_isWord_11_9.2.1 37 = .ok ((.getfield 9), 3)) ∧ (decode zy_isWord_11_9.2.1 40 = .ok ((.aload_n 0), 1)) ∧ (decode zy_isWord_11_9.2.1 41 = .ok ((.getfield 31), 3)) ∧ (decode zy_isWord_11_9.2.1 44 = .ok ((.iload_n 2), 1)) ∧ (decode zy_isWord_11_9.2.1 45 = .ok ((.iadd), 1)) ∧ (decode zy_isWord_11_9.2.1 46 = .ok ((.caload), 1)) ∧ (decode zy_isWord_11_9.2.1 47 = .ok ((.aload_n 1), 1)) ∧ (decode zy_isWord_11_9.2.1 48 = .ok ((.iload_n 2), 1)) ∧ (decode zy_isWord_11_9.2.1 49 = .ok ((.invokevirtual 43), 3)) := by decide +kernel
theorem zd_11_9_37 : zz_D zy_isWord_11_9 37 (.getfield 9) 3 40 := ⟨zg_11_9_37.1, rfl⟩
theorem zd_11_9_40 : zz_D zy_isWord_11_9 40 (.aload_n 0) 1 41 := ⟨zg_11_9_37.2.1, rfl⟩
theorem zd_11_9_41 : zz_D zy_isWord_11_9 41 (.getfield 31) 3 44 := ⟨zg_11_9_37.2.2.1, rfl⟩
theorem zd_11_9_44 : zz_D zy_isWord_11_9 44 (.iload_n 2) 1 45 := ⟨zg_11_9_37.2.2.2.1, rfl⟩
theorem zd_11_9_45 : zz_D zy_isWord_11_9 45 (.iadd) 1 46 := ⟨zg_11_9_37.2.2.2.2.1, rfl⟩
theorem zd_11_9_46 : zz_D zy_isWord_11_9 46 (.caload) 1 47 := ⟨zg_11_9_37.2.2.2.2.2.1, rfl⟩
theorem zd_11_9_47 : zz_D zy_isWord_11_9 47 (.aload_n 1) 1 48 := ⟨zg_11_9_37.2.2.2.2.2.2.1, rfl⟩
theorem zd_11_9_48 : zz_D zy_isWord_11_9 48 (.iload_n 2) 1 49 := ⟨zg_11_9_37.2.2.2.2.2.2.2.1, rfl⟩
theorem zd_11_9_49 : zz_D zy_isWord_11_9 49 (.invokevirtual 43) 3 52 := ⟨zg_11_9_37.2.2.2.2.2.2.2.2, rfl⟩
theorem zg_21_56_0 : (decode zy_charAt_21_56.2.1 0 = .ok ((.aload_n 0), 1)) ∧ (decode zy_charAt_21_56.2.1 1 = .ok ((.invokevirtual 492), 3)) := by decide +kernel
theorem zd_21_56_0 : zz_D zy_charAt_21_56 0 (.aload_n 0) 1 1 := ⟨zg_21_56_0.1, rfl⟩
theorem zd_21_56_1 : zz_D zy_charAt_21_56 1 (.invokevirtual 492) 3 4 := ⟨zg_21_56_0.2, rfl⟩
theorem zg_21_154_0 : (decode zy_isLatin1_21_154.2.1 0 = .ok ((.getstatic 38), 3)) ∧ (decode zy_isLatin1_21_154.2.1 3 = .ok ((Instr.ifCond .eq) 14, 3)) ∧ (decode zy_isLatin1_21_154.2.1 6 = .ok ((.aload_n 0), 1)) ∧ (decode zy_isLatin1_21_154.2.1 7 = .ok ((.getfield 15), 3)) ∧ (decode zy_isLatin1_21_154.2.1 10 = .ok ((Instr.ifCond .ne) 7, 3)) ∧ (decode zy_isLatin1_21_154.2.1 13 = .ok ((.iconst 1), 1)) ∧ (decode zy_isLatin1_21_154.2.1 14 = .ok (Instr.goto 4, 3)) ∧ (decode zy_isLatin1_21_154.2.1 18 = .ok ((.ireturn), 1)) := by decide +kernel
theorem zd_21_154_0 : zz_D zy_isLatin1_21_154 0 (.getstatic 38) 3 3 := ⟨zg_21_154_0.1, rfl⟩
theorem zd_21_154_3 : zz_B zy_isLatin1_21_154 3 (Instr.ifCond .eq) 17 6 := ⟨14, zg_21_154_0.2.1, rfl, rfl⟩
theorem zd_21_154_6 : zz_D zy_isLatin1_21_154 6 (.aload_n 0) 1 7 := ⟨zg_21_154_0.2.2.1, rfl⟩
theorem zd_21_154_7 : zz_D zy_isLatin1_21_154 7 (.getfield 15) 3 10 := ⟨zg_21_154_0.2.2.2.1, rfl⟩
theorem zd_21_154_10 : zz_B zy_isLatin1_21_154 10 (Instr.ifCond .ne) 17 13 := ⟨7, zg_21_154_0.2.2.2.2.1, rfl, rfl⟩
theorem zd_21_154_13 : zz_D zy_isLatin1_21_154 13 (.iconst 1) 1 14 := ⟨zg_21_154_0.2.2.2.2.2.1, rfl⟩
theorem zd_21_154_14 : zz_B zy_isLatin1_21_154 14 Instr.goto 18 17 := ⟨4, zg_21_154_0.2.2.2.2.2.2.1, rfl, rfl⟩
theorem zd_21_154_18 : zz_D zy_isLatin1_21_154 18 (.ireturn) 1 19 := ⟨zg_21_154_0.2.2.2.2.2.2.2, rfl⟩
-- java/lang/String isLatin1 ()Z
abbrev zr_isLatin1_21_154 : Room := { frames := 0, cells := 0, slots := 0, locals := 0 }
def zp_isLatin1_21_154 (t : Nat) (S0 : zz_S) : Int → zz_S → Prop := fun r S => S0 = S ∧ (1 ≤ r ∧ r ≤ 1)
theorem zc_isLatin1_21_154 {g : mm_G} {l : Launch} (t : Nat) (S0 : zz_S) (n : Nat) (hn : zz_end ≤ n) (G_S0 : zz_G S0) (ht : t < 59) : mm_Met g l zy_isLatin1_21_154 zr_isLatin1_21_154 [.ref (100 + t)] (zz_M S0 n) n (zz_QI n (zp_isLatin1_21_154 t S0)) := by
  refine zz_enter (by decide) (Nat.le_of_ble_eq_true rfl) (zz_less (ls1 := [some (.ref (100 + t))]) ⟨rfl, trivial⟩ ?_)
  refine zz_gsZ zd_21_154_0 zsf_java_lang_String_38 ?_
  refine zz_if_eq (by omega) zd_21_154_3 (fun c1 => ?_) (fun c1 => ?_)
  · exfalso; omega
  · refine zz_aload_n (x := 100 + t) rfl zd_21_154_6 ?_
    refine zz_strC (zz_stl (by omega)) (by omega) zd_21_154_7 zsf_java_lang_String_15 ?_
    refine zz_if_ne (by omega) zd_21_154_10 (fun c2 => ?_) (fun c2 => ?_)
    · exfalso; omega
    · refine zz_iconst zd_21_154_13 ?_
      refine zz_goto zd_21_154_14 ?_
      exact zz_zret zd_21_154_18 rfl (by omega) (Nat.zero_le _) (Nat.zero_le _) ⟨_, _, rfl, rfl, by omega⟩
theorem zkT_java_lang_String_492 : mm_Yw zy_isLatin1_21_154 0 ∧ Cond.methodLink "java/lang/String" 492 zy_isLatin1_21_154.1 ∈ mm_tb ∧ Cond.instanceMethod zy_isLatin1_21_154.1 ∈ mm_tb ∧ Cond.selects "java/lang/String" zy_isLatin1_21_154.1 zy_isLatin1_21_154.1 ∈ mm_tb := ⟨zyw_isLatin1_21_154, mm_tb_1 612 (by decide +kernel) rfl, mm_tb_1 613 (by decide +kernel) rfl, mm_tb_1 614 (by decide +kernel) rfl⟩
abbrev zy_charAt_22_2 : mm_Y := (⟨"java/lang/StringLatin1", "charAt", "([BI)C"⟩, prog_22_method_2_code, 2, (some .char))
theorem zyw_charAt_22_2 : mm_Yw zy_charAt_22_2 2 := ⟨mm_tb_1 618 (by decide +kernel) rfl, mm_tb_1 22 (by decide +kernel) rfl, ⟨by decide, by decide⟩, by decide +kernel⟩
abbrev zy_checkIndex_21_155 : mm_Y := (⟨"java/lang/String", "checkIndex", "(II)V"⟩, prog_21_method_155_code, 2, none)
theorem zyw_checkIndex_21_155 : mm_Yw zy_checkIndex_21_155 2 := ⟨mm_tb_1 621 (by decide +kernel) rfl, mm_tb_1 21 (by decide +kernel) rfl, ⟨by decide, by decide⟩, by decide +kernel⟩
theorem zsf_java_lang_String_1053 : Cond.fieldLink "java/lang/String" 1053 "jdk/internal/util/Preconditions" "SIOOBE_FORMATTER" "Ljava/util/function/BiFunction;" ∈ mm_tb := mm_tb_1 622 (by decide +kernel) rfl
abbrev zy_checkIndex_28_11 : mm_Y := (⟨"jdk/internal/util/Preconditions", "checkIndex", "(IILjava/util/function/BiFunction;)I"⟩, prog_28_method_11_code, 3, (some .int))
theorem zyw_checkIndex_28_11 : mm_Yw zy_checkIndex_28_11 3 := ⟨mm_tb_1 626 (by decide +kernel) rfl, mm_tb_1 23 (by decide +kernel) rfl, ⟨by decide, by decide⟩, by decide +kernel⟩
theorem zg_21_56_4 : (decode zy_charAt_21_56.2.1 4 = .ok ((Instr.ifCond .eq) 12, 3)) ∧ (decode zy_charAt_21_56.2.1 7 = .ok ((.aload_n 0), 1)) ∧ (decode zy_charAt_21_56.2.1 8 = .ok ((.getfield 9), 3)) ∧ (decode zy_charAt_21_56.2.1 11 = .ok ((.iload_n 1), 1)) ∧ (decode zy_charAt_21_56.2.1 12 = .ok ((.invokestatic 495), 3)) := by decide +kernel
theorem zd_21_56_4 : zz_B zy_charAt_21_56 4 (Instr.ifCond .eq) 16 7 := ⟨12, zg_21_56_4.1, rfl, rfl⟩
theorem zd_21_56_7 : zz_D zy_charAt_21_56 7 (.aload_n 0) 1 8 := ⟨zg_21_56_4.2.1, rfl⟩
theorem zd_21_56_8 : zz_D zy_charAt_21_56 8 (.getfield 9) 3 11 := ⟨zg_21_56_4.2.2.1, rfl⟩
theorem zd_21_56_11 : zz_D zy_charAt_21_56 11 (.iload_n 1) 1 12 := ⟨zg_21_56_4.2.2.2.1, rfl⟩
theorem zd_21_56_12 : zz_D zy_charAt_21_56 12 (.invokestatic 495) 3 15 := ⟨zg_21_56_4.2.2.2.2, rfl⟩
theorem zg_22_2_0 : (decode zy_charAt_22_2.2.1 0 = .ok ((.iload_n 1), 1)) ∧ (decode zy_charAt_22_2.2.1 1 = .ok ((.aload_n 0), 1)) ∧ (decode zy_charAt_22_2.2.1 2 = .ok ((.arraylength), 1)) ∧ (decode zy_charAt_22_2.2.1 3 = .ok ((.invokestatic 9), 3)) := by decide +kernel
theorem zd_22_2_0 : zz_D zy_charAt_22_2 0 (.iload_n 1) 1 1 := ⟨zg_22_2_0.1, rfl⟩
theorem zd_22_2_1 : zz_D zy_charAt_22_2 1 (.aload_n 0) 1 2 := ⟨zg_22_2_0.2.1, rfl⟩
theorem zd_22_2_2 : zz_D zy_charAt_22_2 2 (.arraylength) 1 3 := ⟨zg_22_2_0.2.2.1, rfl⟩
theorem zd_22_2_3 : zz_D zy_charAt_22_2 3 (.invokestatic 9) 3 6 := ⟨zg_22_2_0.2.2.2, rfl⟩
theorem zg_21_155_0 : (decode zy_checkIndex_21_155.2.1 0 = .ok ((.iload_n 0), 1)) ∧ (decode zy_checkIndex_21_155.2.1 1 = .ok ((.iload_n 1), 1)) ∧ (decode zy_checkIndex_21_155.2.1 2 = .ok ((.getstatic 1053), 3)) ∧ (decode zy_checkIndex_21_155.2.1 5 = .ok ((.invokestatic 1059), 3)) := by decide +kernel
theorem zd_21_155_0 : zz_D zy_checkIndex_21_155 0 (.iload_n 0) 1 1 := ⟨zg_21_155_0.1, rfl⟩
theorem zd_21_155_1 : zz_D zy_checkIndex_21_155 1 (.iload_n 1) 1 2 := ⟨zg_21_155_0.2.1, rfl⟩
theorem zd_21_155_2 : zz_D zy_checkIndex_21_155 2 (.getstatic 1053) 3 5 := ⟨zg_21_155_0.2.2.1, rfl⟩
theorem zd_21_155_5 : zz_D zy_checkIndex_21_155 5 (.invokestatic 1059) 3 8 := ⟨zg_21_155_0.2.2.2, rfl⟩
theorem zg_28_11_0 : (decode zy_checkIndex_28_11.2.1 0 = .ok ((.iload_n 0), 1)) ∧ (decode zy_checkIndex_28_11.2.1 1 = .ok ((Instr.ifCond .lt) 8, 3)) ∧ (decode zy_checkIndex_28_11.2.1 4 = .ok ((.iload_n 0), 1)) ∧ (decode zy_checkIndex_28_11.2.1 5 = .ok ((.iload_n 1), 1)) ∧ (decode zy_checkIndex_28_11.2.1 6 = .ok ((Instr.if_icmp .lt) 10, 3)) ∧ (decode zy_checkIndex_28_11.2.1 16 = .ok ((.iload_n 0), 1)) ∧ (decode zy_checkIndex_28_11.2.1 17 = .ok ((.ireturn), 1)) := by decide +kernel
theorem zd_28_11_0 : zz_D zy_checkIndex_28_11 0 (.iload_n 0) 1 1 := ⟨zg_28_11_0.1, rfl⟩
theorem zd_28_11_1 : zz_B zy_checkIndex_28_11 1 (Instr.ifCond .lt) 9 4 := ⟨8, zg_28_11_0.2.1, rfl, rfl⟩
theorem zd_28_11_4 : zz_D zy_checkIndex_28_11 4 (.iload_n 0) 1 5 := ⟨zg_28_11_0.2.2.1, rfl⟩
theorem zd_28_11_5 : zz_D zy_checkIndex_28_11 5 (.iload_n 1) 1 6 := ⟨zg_28_11_0.2.2.2.1, rfl⟩
theorem zd_28_11_6 : zz_B zy_checkIndex_28_11 6 (Instr.if_icmp .lt) 16 9 := ⟨10, zg_28_11_0.2.2.2.2.1, rfl, rfl⟩
theorem zd_28_11_16 : zz_D zy_checkIndex_28_11 16 (.iload_n 0) 1 17 := ⟨zg_28_11_0.2.2.2.2.2.1, rfl⟩
theorem zd_28_11_17 : zz_D zy_checkIndex_28_11 17 (.ireturn) 1 18 := ⟨zg_28_11_0.2.2.2.2.2.2, rfl⟩
-- jdk/internal/util/Preconditions checkIndex (IILjava/util/function/BiFunction;)I
abbrev zr_checkIndex_28_11_null : Room := { frames := 0, cells := 0, slots := 0, locals := 0 }
def zp_checkIndex_28_11_null (p0 : Int) (p1 : Int) (S0 : zz_S) : Int → zz_S → Prop := fun r S => S0 = S ∧ ((-2147483648) ≤ r ∧ r ≤ 2147483647)
theorem zc_checkIndex_28_11_null {g : mm_G} {l : Launch} (p0 : Int) (p1 : Int) (S0 : zz_S) (n : Nat) (hn : zz_end ≤ n) (G_S0 : zz_G S0) (hp0 : (-2147483648) ≤ p0 ∧ p0 ≤ 2147483647) (hp1 : (-2147483648) ≤ p1 ∧ p1 ≤ 2147483647) (hq : 0 ≤ p0 ∧ p0 < p1) : mm_Met g l zy_checkIndex_28_11 zr_checkIndex_28_11_null [zi p0, zi p1, .null] (zz_M S0 n) n (zz_QI n (zp_checkIndex_28_11_null p0 p1 S0)) := by
  refine zz_enter (by decide) (Nat.le_of_ble_eq_true rfl) (zz_less (ls1 := [some (zi p0), some (zi p1), some (.null)]) ⟨rfl, ⟨rfl, ⟨rfl, trivial⟩⟩⟩ ?_)
  refine zz_iload_n (x := p0) rfl zd_28_11_0 ?_
  refine zz_if_lt (by omega) zd_28_11_1 (fun c1 => ?_) (fun c1 => ?_)
  · exfalso; omega
  · refine zz_iload_n (x := p0) rfl zd_28_11_4 ?_
    refine zz_iload_n (x := p1) rfl zd_28_11_5 ?_
    refine zz_icmp_lt (by omega) (by omega) zd_28_11_6 (fun c2 => ?_) (fun c2 => ?_)
    · refine zz_iload_n (x := p0) rfl zd_28_11_16 ?_
      exact zz_iret zd_28_11_17 rfl (Nat.zero_le _) (Nat.zero_le _) ⟨_, _, rfl, rfl, by omega⟩
    · exfalso; omega
theorem zk_java_lang_String_1059 : mm_Sl "java/lang/String" 1059 3 zy_checkIndex_28_11 := ⟨zyw_checkIndex_28_11, mm_tb_1 624 (by decide +kernel) rfl, mm_tb_1 625 (by decide +kernel) rfl⟩
theorem zg_21_155_8 : (decode zy_checkIndex_21_155.2.1 8 = .ok ((.pop), 1)) ∧ (decode zy_checkIndex_21_155.2.1 9 = .ok ((.return_), 1)) := by decide +kernel
theorem zd_21_155_8 : zz_D zy_checkIndex_21_155 8 (.pop) 1 9 := ⟨zg_21_155_8.1, rfl⟩
theorem zd_21_155_9 : zz_D zy_checkIndex_21_155 9 (.return_) 1 10 := ⟨zg_21_155_8.2, rfl⟩
-- jdk/internal/util/Preconditions checkIndex (IILjava/util/function/BiFunction;)I
abbrev zr_checkIndex_28_11_999 : Room := { frames := 0, cells := 0, slots := 0, locals := 0 }
def zp_checkIndex_28_11_999 (p0 : Int) (p1 : Int) (S0 : zz_S) : Int → zz_S → Prop := fun r S => S0 = S ∧ ((-2147483648) ≤ r ∧ r ≤ 2147483647)
theorem zc_checkIndex_28_11_999 {g : mm_G} {l : Launch} (p0 : Int) (p1 : Int) (S0 : zz_S) (n : Nat) (hn : zz_end ≤ n) (G_S0 : zz_G S0) (hp0 : (-2147483648) ≤ p0 ∧ p0 ≤ 2147483647) (hp1 : (-2147483648) ≤ p1 ∧ p1 ≤ 2147483647) (hq : 0 ≤ p0 ∧ p0 < p1) : mm_Met g l zy_checkIndex_28_11 zr_checkIndex_28_11_999 [zi p0, zi p1, .ref 999] (zz_M S0 n) n (zz_QI n (zp_checkIndex_28_11_999 p0 p1 S0)) := by
  refine zz_enter (by decide) (Nat.le_of_ble_eq_true rfl) (zz_less (ls1 := [some (zi p0), some (zi p1), some (.ref 999)]) ⟨rfl, ⟨rfl, ⟨rfl, trivial⟩⟩⟩ ?_)
  refine zz_iload_n (x := p0) rfl zd_28_11_0 ?_
  refine zz_if_lt (by omega) zd_28_11_1 (fun c1 => ?_) (fun c1 => ?_)
  · exfalso; omega
  · refine zz_iload_n (x := p0) rfl zd_28_11_4 ?_
    refine zz_iload_n (x := p1) rfl zd_28_11_5 ?_
    refine zz_icmp_lt (by omega) (by omega) zd_28_11_6 (fun c2 => ?_) (fun c2 => ?_)
    · refine zz_iload_n (x := p0) rfl zd_28_11_16 ?_
      exact zz_iret zd_28_11_17 rfl (Nat.zero_le _) (Nat.zero_le _) ⟨_, _, rfl, rfl, by omega⟩
    · exfalso; omega
-- java/lang/String checkIndex (II)V
abbrev zr_checkIndex_21_155 : Room := { frames := 1, cells := 0, slots := 0, locals := 14 }
def zp_checkIndex_21_155 (p0 : Int) (p1 : Int) (S0 : zz_S) : zz_S → Prop := fun S => S0 = S
theorem zc_checkIndex_21_155 {g : mm_G} {l : Launch} (p0 : Int) (p1 : Int) (S0 : zz_S) (n : Nat) (hn : zz_end ≤ n) (G_S0 : zz_G S0) (hp0 : (-2147483648) ≤ p0 ∧ p0 ≤ 2147483647) (hp1 : (-2147483648) ≤ p1 ∧ p1 ≤ 2147483647) (hq : 0 ≤ p0 ∧ p0 < p1) : mm_Met g l zy_checkIndex_21_155 zr_checkIndex_21_155 [zi p0, zi p1] (zz_M S0 n) n (zz_QV n (zp_checkIndex_21_155 p0 p1 S0)) := by
  refine zz_enter (by decide) (Nat.le_of_ble_eq_true rfl) (zz_less (ls1 := [some (zi p0), some (zi p1)]) ⟨rfl, ⟨rfl, trivial⟩⟩ ?_)
  refine zz_iload_n (x := p0) rfl zd_21_155_0 ?_
  refine zz_iload_n (x := p1) rfl zd_21_155_1 ?_
  refine zz_gsQ zd_21_155_2 zsf_java_lang_String_1053 (fun w1 hw1 => ?_)
  rcases hw1 with rfl | rfl
  · refine zz_callSI [zi p0, zi p1, .null] zd_21_155_5 zk_java_lang_String_1059 rfl rfl ⟨Nat.le_of_ble_eq_true rfl, Nat.le_of_ble_eq_true rfl⟩ ⟨rfl, rfl⟩ (Nat.zero_le _) (Nat.zero_le _) (zc_checkIndex_28_11_null p0 p1 S0 n hn G_S0 (by omega) (by omega) (by omega)) (fun v3 S2 hP => ?_)
    obtain ⟨rfl, o4⟩ := hP
    refine zz_pop rfl zd_21_155_8 ?_
    exact zz_vret zd_21_155_9 rfl (Nat.zero_le _) (Nat.zero_le _) ⟨_, rfl, rfl⟩
  · refine zz_callSI [zi p0, zi p1, .ref 999] zd_21_155_5 zk_java_lang_String_1059 rfl rfl ⟨Nat.le_of_ble_eq_true rfl, Nat.le_of_ble_eq_true rfl⟩ ⟨rfl, rfl⟩ (Nat.zero_le _) (Nat.zero_le _) (zc_checkIndex_28_11_999 p0 p1 S0 n hn G_S0 (by omega) (by omega) (by omega)) (fun v6 S5 hP => ?_)
    obtain ⟨rfl, o7⟩ := hP
    refine zz_pop rfl zd_21_155_8 ?_
    exact zz_vret zd_21_155_9 rfl (Nat.zero_le _) (Nat.zero_le _) ⟨_, rfl, rfl⟩
theorem zk_java_lang_StringLatin1_9 : mm_Sl "java/lang/StringLatin1" 9 2 zy_checkIndex_21_155 := ⟨zyw_checkIndex_21_155, mm_tb_1 619 (by decide +kernel) rfl, mm_tb_1 620 (by decide +kernel) rfl⟩
theorem zg_22_2_6 : (decode zy_charAt_22_2.2.1 6 = .ok ((.aload_n 0), 1)) ∧ (decode zy_charAt_22_2.2.1 7 = .ok ((.iload_n 1), 1)) ∧ (decode zy_charAt_22_2.2.1 8 = .ok ((.baload), 1)) ∧ (decode zy_charAt_22_2.2.1 9 = .ok ((.sipush 255), 3)) ∧ (decode zy_charAt_22_2.2.1 12 = .ok ((.iand), 1)) ∧ (decode zy_charAt_22_2.2.1 13 = .ok ((.i2c), 1)) ∧ (decode zy_charAt_22_2.2.1 14 = .ok ((.ireturn), 1)) := by decide +kernel
theorem zd_22_2_6 : zz_D zy_charAt_22_2 6 (.aload_n 0) 1 7 := ⟨zg_22_2_6.1, rfl⟩
theorem zd_22_2_7 : zz_D zy_charAt_22_2 7 (.iload_n 1) 1 8 := ⟨zg_22_2_6.2.1, rfl⟩
theorem zd_22_2_8 : zz_D zy_charAt_22_2 8 (.baload) 1 9 := ⟨zg_22_2_6.2.2.1, rfl⟩
theorem zd_22_2_9 : zz_D zy_charAt_22_2 9 (.sipush 255) 3 12 := ⟨zg_22_2_6.2.2.2.1, rfl⟩
theorem zd_22_2_12 : zz_D zy_charAt_22_2 12 (.iand) 1 13 := ⟨zg_22_2_6.2.2.2.2.1, rfl⟩
theorem zd_22_2_13 : zz_D zy_charAt_22_2 13 (.i2c) 1 14 := ⟨zg_22_2_6.2.2.2.2.2.1, rfl⟩
theorem zd_22_2_14 : zz_D zy_charAt_22_2 14 (.ireturn) 1 15 := ⟨zg_22_2_6.2.2.2.2.2.2, rfl⟩
-- java/lang/StringLatin1 charAt ([BI)C
abbrev zr_charAt_22_2 : Room := { frames := 2, cells := 0, slots := 0, locals := 27 }
def zp_charAt_22_2 (p0 : Nat) (p1 : Int) (S0 : zz_S) : Int → zz_S → Prop := fun r S => S0 = S ∧ (0 ≤ r ∧ r ≤ 255)
theorem zc_charAt_22_2 {g : mm_G} {l : Launch} (p0 : Nat) (p1 : Int) (S0 : zz_S) (n : Nat) (hn : zz_end ≤ n) (G_S0 : zz_G S0) (hp0 : p0 < 59) (hp1 : (-2147483648) ≤ p1 ∧ p1 ≤ 2147483647) (hq : 0 ≤ p1 ∧ p1 < ((mm_len.getD p0 0 : Nat) : Int)) : mm_Met g l zy_charAt_22_2 zr_charAt_22_2 [.ref (500 + p0), zi p1] (zz_M S0 n) n (zz_QI n (zp_charAt_22_2 p0 p1 S0)) := by
  refine zz_enter (by decide) (Nat.le_of_ble_eq_true rfl) (zz_less (ls1 := [some (.ref (500 + p0)), some (zi p1)]) ⟨rfl, ⟨rfl, trivial⟩⟩ ?_)
  refine zz_iload_n (x := p1) rfl zd_22_2_0 ?_
  refine zz_aload_n (x := 500 + p0) rfl zd_22_2_1 ?_
  have l1 := zz_slen (t := p0) (by omega)
  refine zz_strL (zz_stl (by omega)) (by omega) zd_22_2_2 ?_
  refine zz_callSV [zi p1, zi ((mm_len.getD p0 0 : Nat) : Int)] zd_22_2_3 zk_java_lang_StringLatin1_9 rfl rfl ⟨Nat.le_of_ble_eq_true rfl, Nat.le_of_ble_eq_true rfl⟩ ⟨rfl, rfl⟩ (Nat.zero_le _) (Nat.zero_le _) (zc_checkIndex_21_155 p1 ((mm_len.getD p0 0 : Nat) : Int) S0 n hn G_S0 (by omega) (by omega) (by omega)) (fun S2 hP => ?_)
  obtain ⟨rfl⟩ := hP
  refine zz_aload_n (x := 500 + p0) rfl zd_22_2_6 ?_
  refine zz_iload_n (x := p1) rfl zd_22_2_7 ?_
  have l5 := zz_slen (t := p0) (by omega)
  refine zz_strB (zz_stl (by omega)) (by omega) zd_22_2_8 (by omega) (by omega) (fun v4 hv4 => ?_)
  refine zz_sipush (by decide) zd_22_2_9 ?_
  refine zz_iand (by omega) (by omega) zd_22_2_12 (fun v6 hv6 av6 bv6 ev6 => ?_)
  refine zz_i2c (by omega) zd_22_2_13 ?_
  exact zz_cret zd_22_2_14 rfl (by omega) (Nat.zero_le _) (Nat.zero_le _) ⟨_, _, rfl, rfl, by omega⟩
theorem zk_java_lang_String_495 : mm_Sl "java/lang/String" 495 2 zy_charAt_22_2 := ⟨zyw_charAt_22_2, mm_tb_1 616 (by decide +kernel) rfl, mm_tb_1 617 (by decide +kernel) rfl⟩
theorem zd_21_56_15 : zz_D zy_charAt_21_56 15 (.ireturn) 1 16 := ⟨by decide +kernel, rfl⟩
-- java/lang/String charAt (I)C
abbrev zr_charAt_21_56 : Room := { frames := 3, cells := 0, slots := 0, locals := 40 }
def zp_charAt_21_56 (t : Nat) (p0 : Int) (S0 : zz_S) : Int → zz_S → Prop := fun r S => S0 = S ∧ (0 ≤ r ∧ r ≤ 255)
theorem zc_charAt_21_56 {g : mm_G} {l : Launch} (t : Nat) (p0 : Int) (S0 : zz_S) (n : Nat) (hn : zz_end ≤ n) (G_S0 : zz_G S0) (ht : t < 59) (hp0 : (-2147483648) ≤ p0 ∧ p0 ≤ 2147483647) (hq : 0 ≤ p0 ∧ p0 < ((mm_len.getD t 0 : Nat) : Int)) : mm_Met g l zy_charAt_21_56 zr_charAt_21_56 [.ref (100 + t), zi p0] (zz_M S0 n) n (zz_QI n (zp_charAt_21_56 t p0 S0)) := by
  refine zz_enter (by decide) (Nat.le_of_ble_eq_true rfl) (zz_less (ls1 := [some (.ref (100 + t)), some (zi p0)]) ⟨rfl, ⟨rfl, trivial⟩⟩ ?_)
  refine zz_aload_n (x := 100 + t) rfl zd_21_56_0 ?_
  refine zz_callT (t := t) [] (zz_stl (by omega)) (by omega) zd_21_56_1 zkT_java_lang_String_492 rfl rfl ⟨Nat.le_of_ble_eq_true rfl, Nat.le_of_ble_eq_true rfl⟩ ⟨rfl, rfl⟩ (Nat.zero_le _) (Nat.zero_le _) (zc_isLatin1_21_154 t S0 n hn G_S0 (by omega)) (fun v2 S1 hP => ?_)
  obtain ⟨rfl, o3⟩ := hP
  rcases (by omega : v2 = 1) with rfl
  · refine zz_if_eq (by omega) zd_21_56_4 (fun c4 => ?_) (fun c4 => ?_)
    · exfalso; omega
    · refine zz_aload_n (x := 100 + t) rfl zd_21_56_7 ?_
      refine zz_strV (zz_stl (by omega)) (by omega) zd_21_56_8 zsf_java_lang_String_9 ?_
      refine zz_iload_n (x := p0) rfl zd_21_56_11 ?_
      refine zz_callSI [.ref (500 + t), zi p0] zd_21_56_12 zk_java_lang_String_495 rfl rfl ⟨Nat.le_of_ble_eq_true rfl, Nat.le_of_ble_eq_true rfl⟩ ⟨rfl, rfl⟩ (Nat.zero_le _) (Nat.zero_le _) (zc_charAt_22_2 t p0 S0 n hn G_S0 (by omega) (by omega) (by omega)) (fun v6 S5 hP => ?_)
      obtain ⟨rfl, o7⟩ := hP
      exact zz_cret zd_21_56_15 rfl (by omega) (Nat.zero_le _) (Nat.zero_le _) ⟨_, _, rfl, rfl, by omega⟩
theorem zkT_Text_43 : mm_Yw zy_charAt_21_56 1 ∧ Cond.methodLink "TensorForge$Text" 43 zy_charAt_21_56.1 ∈ mm_tb ∧ Cond.instanceMethod zy_charAt_21_56.1 ∈ mm_tb ∧ Cond.selects "java/lang/String" zy_charAt_21_56.1 zy_charAt_21_56.1 ∈ mm_tb := ⟨zyw_charAt_21_56, mm_tb_1 608 (by decide +kernel) rfl, mm_tb_1 609 (by decide +kernel) rfl, mm_tb_1 610 (by decide +kernel) rfl⟩
theorem zg_11_9_52 : (decode zy_isWord_11_9.2.1 52 = .ok ((Instr.if_icmp .eq) 5, 3)) ∧ (decode zy_isWord_11_9.2.1 57 = .ok ((.iinc 2 1), 3)) ∧ (decode zy_isWord_11_9.2.1 60 = .ok (Instr.goto (-32), 3)) ∧ (decode zy_isWord_11_9.2.1 55 = .ok ((.iconst 0), 1)) ∧ (decode zy_isWord_11_9.2.1 56 = .ok ((.ireturn), 1)) := by decide +kernel
theorem zd_11_9_52 : zz_B zy_isWord_11_9 52 (Instr.if_icmp .eq) 57 55 := ⟨5, zg_11_9_52.1, rfl, rfl⟩
theorem zd_11_9_57 : zz_D zy_isWord_11_9 57 (.iinc 2 1) 3 60 := ⟨zg_11_9_52.2.1, rfl⟩
theorem zd_11_9_60 : zz_B zy_isWord_11_9 60 Instr.goto 28 63 := ⟨(-32), zg_11_9_52.2.2.1, rfl, rfl⟩
theorem zd_11_9_55 : zz_D zy_isWord_11_9 55 (.iconst 0) 1 56 := ⟨zg_11_9_52.2.2.2.1, rfl⟩
theorem zd_11_9_56 : zz_D zy_isWord_11_9 56 (.ireturn) 1 57 := ⟨zg_11_9_52.2.2.2.2, rfl⟩
-- TensorForge$Text isWord (Ljava/lang/String;)Z
abbrev zr_isWord_11_9 : Room := { frames := 4, cells := 0, slots := 0, locals := 54 }
def zp_isWord_11_9 (p0 : Nat) (S0 : zz_S) : Int → zz_S → Prop := fun r S => S0 = S ∧ (0 ≤ r ∧ r ≤ 1)
theorem zb_isWord_11_9_28 {g : mm_G} {l : Launch} (p0 : Nat) (S0 : zz_S) (n : Nat) (hn : zz_end ≤ n) (G_S0 : zz_G S0) (hp0 : p0 < 59) (x2 : Int) (S : zz_S) (G_S : zz_G S) (F_S : zz_fr [] [] (fun _ _ => False) S0 S) (i28_0 : 0 ≤ x2 ∧ x2 ≤ 38) (i28_1 : S0 1070 4 = 1) (i28_2 : S0 1070 3 - S0 1070 5 = ((mm_len.getD p0 0 : Nat) : Int)) (R : Nat) (hR : (2147483647 - x2).toNat = R) (k28 : ∀ (x2 : Int) (S : zz_S), zz_G S → zz_fr [] [] (fun _ _ => False) S0 S → (0 ≤ x2 ∧ x2 ≤ 38) → (S0 1070 4 = 1) → (S0 1070 3 - S0 1070 5 = ((mm_len.getD p0 0 : Nat) : Int)) → (2147483647 - x2).toNat < R → zz_E g l zy_isWord_11_9 zr_isWord_11_9 (zz_QI n (zp_isWord_11_9 p0 S0)) S n 28 [some (.ref 1070), some (.ref (100 + p0)), some (zi x2)] [] 0 0) : zz_E g l zy_isWord_11_9 zr_isWord_11_9 (zz_QI n (zp_isWord_11_9 p0 S0)) S n 28 [some (.ref 1070), some (.ref (100 + p0)), some (zi x2)] [] 0 0 := by
  have hat9 := zz_G.r G_S0 1070 3 0 1500 rfl rfl
  refine zz_iload_n (x := x2) rfl zd_11_9_28 ?_
  refine zz_aload_n (x := 100 + p0) rfl zd_11_9_29 ?_
  refine zz_callT (t := p0) [] (zz_stl (by omega)) (by omega) zd_11_9_30 zkT_Text_37 rfl rfl ⟨Nat.le_of_ble_eq_true rfl, Nat.le_of_ble_eq_true rfl⟩ ⟨rfl, rfl⟩ (Nat.zero_le _) (Nat.zero_le _) (zc_length_21_54 p0 S n hn G_S (by omega)) (fun v11 S10 hP => ?_)
  obtain ⟨rfl, o12, o13⟩ := hP
  refine zz_icmp_ge (by omega) (by omega) zd_11_9_33 (fun c14 => ?_) (fun c14 => ?_)
  · refine zz_iconst zd_11_9_63 ?_
    exact zz_zret zd_11_9_64 rfl (by omega) (Nat.zero_le _) (Nat.zero_le _) ⟨_, _, rfl, zz_fr.eq F_S, by omega⟩
  · refine zz_aload_n (x := 1070) rfl zd_11_9_36 ?_
    refine zz_getr (kd := 0) (z := 1071) zd_11_9_37 zf_Text_9 zT_1070 rfl (zz_ltn hn rfl) (zz_G.eq G_S 1070 0 1071 rfl rfl) (by decide) 1071 rfl ?_
    refine zz_aload_n (x := 1070) rfl zd_11_9_40 ?_
    have g15 := zz_G.r G_S0 1070 5 0 1500 rfl rfl
    refine zz_geti (z := S0 1070 5) zd_11_9_41 zf_Text_31 zT_1070 rfl (zz_ltn hn rfl) (zz_rc F_S rfl rfl (fun h => h) rfl) ?_
    refine zz_iload_n (x := x2) rfl zd_11_9_44 ?_
    refine zz_iadd zd_11_9_45 ?_
    have g16 := zz_G.r G_S0 1071 (((S0 1070 5) + x2).toNat) 0 65535 rfl rfl
    refine zz_cald (z := S0 1071 (((S0 1070 5) + x2).toNat)) zd_11_9_46 zT_1071 rfl (zz_ltn hn rfl) (by decide) (by omega) (zz_rc F_S (zz_nc1 rfl) rfl (fun h => h) rfl) ?_
    refine zz_aload_n (x := 100 + p0) rfl zd_11_9_47 ?_
    refine zz_iload_n (x := x2) rfl zd_11_9_48 ?_
    refine zz_callT (t := p0) [zi x2] (zz_stl (by omega)) (by omega) zd_11_9_49 zkT_Text_43 rfl rfl ⟨Nat.le_of_ble_eq_true rfl, Nat.le_of_ble_eq_true rfl⟩ ⟨rfl, rfl⟩ (Nat.zero_le _) (Nat.zero_le _) (zc_charAt_21_56 p0 x2 S n hn G_S (by omega) (by omega) (by omega)) (fun v18 S17 hP => ?_)
    obtain ⟨rfl, o19⟩ := hP
    refine zz_icmp_eq (by omega) (by omega) zd_11_9_52 (fun c20 => ?_) (fun c20 => ?_)
    · refine zz_iinc [some (.ref 1070), some (.ref (100 + p0)), some (zi (x2 + 1))] zd_11_9_57 rfl rfl ?_
      refine zz_goto zd_11_9_60 ?_
      refine zz_less (ls1 := [some (.ref 1070), some (.ref (100 + p0)), some (zi (x2 + 1))]) ⟨rfl, ⟨rfl, ⟨rfl, trivial⟩⟩⟩ ?_
      exact k28 (x2 + 1) S G_S F_S (by omega) (by omega) (by omega) (by omega)
    · refine zz_iconst zd_11_9_55 ?_
      exact zz_zret zd_11_9_56 rfl (by omega) (Nat.zero_le _) (Nat.zero_le _) ⟨_, _, rfl, zz_fr.eq F_S, by omega⟩
theorem zi_isWord_11_9 {g : mm_G} {l : Launch} (p0 : Nat) (S0 : zz_S) (n : Nat) (hn : zz_end ≤ n) (G_S0 : zz_G S0) (hp0 : p0 < 59) : ∀ N : Nat, (∀ (x2 : Int) (S : zz_S), zz_G S → zz_fr [] [] (fun _ _ => False) S0 S → (0 ≤ x2 ∧ x2 ≤ 38) → (S0 1070 4 = 1) → (S0 1070 3 - S0 1070 5 = ((mm_len.getD p0 0 : Nat) : Int)) → (2147483647 - x2).toNat < N → zz_E g l zy_isWord_11_9 zr_isWord_11_9 (zz_QI n (zp_isWord_11_9 p0 S0)) S n 28 [some (.ref 1070), some (.ref (100 + p0)), some (zi x2)] [] 0 0) := by
  intro N
  induction N with
  | zero => exact fun x2 S _ _ _ _ _ h => absurd h (Nat.not_lt_zero _)
  | succ N ih =>
    exact fun x2 S a b j0 j1 j2 hR => zb_isWord_11_9_28 p0 S0 n hn G_S0 hp0 x2 S a b j0 j1 j2 _ rfl (fun x2 S a b j0 j1 j2 h => ih x2 S a b j0 j1 j2 (Nat.lt_of_lt_of_le h (Nat.le_of_lt_succ hR)))
theorem zc_isWord_11_9 {g : mm_G} {l : Launch} (p0 : Nat) (S0 : zz_S) (n : Nat) (hn : zz_end ≤ n) (G_S0 : zz_G S0) (hp0 : p0 < 59) : mm_Met g l zy_isWord_11_9 zr_isWord_11_9 [.ref 1070, .ref (100 + p0)] (zz_M S0 n) n (zz_QI n (zp_isWord_11_9 p0 S0)) := by
  refine zz_enter (by decide) (Nat.le_of_ble_eq_true rfl) (zz_less (ls1 := [some (.ref 1070), some (.ref (100 + p0))]) ⟨rfl, ⟨rfl, trivial⟩⟩ ?_)
  have F_S0 : zz_fr [] [] (fun _ _ => False) S0 S0 := zz_fr.refl
  have k28 : ∀ (x2 : Int) (S : zz_S), zz_G S → zz_fr [] [] (fun _ _ => False) S0 S → (0 ≤ x2 ∧ x2 ≤ 38) → (S0 1070 4 = 1) → (S0 1070 3 - S0 1070 5 = ((mm_len.getD p0 0 : Nat) : Int)) → zz_E g l zy_isWord_11_9 zr_isWord_11_9 (zz_QI n (zp_isWord_11_9 p0 S0)) S n 28 [some (.ref 1070), some (.ref (100 + p0)), some (zi x2)] [] 0 0 := fun x2 S a b j0 j1 j2 => (zi_isWord_11_9 (g := g) (l := l) p0 S0 n hn G_S0 hp0 _) x2 S a b j0 j1 j2 (Nat.lt_succ_self _)
  refine zz_aload_n (x := 1070) rfl zd_11_9_0 ?_
  have g1 := zz_G.r G_S0 1070 4 (-2147483648) 2147483647 rfl rfl
  refine zz_geti (z := S0 1070 4) zd_11_9_1 zf_Text_28 zT_1070 rfl (zz_ltn hn rfl) rfl ?_
  refine zz_iconst zd_11_9_4 ?_
  refine zz_icmp_ne (by omega) (by omega) zd_11_9_5 (fun c2 => ?_) (fun c2 => ?_)
  · refine zz_iconst zd_11_9_24 ?_
    exact zz_zret zd_11_9_25 rfl (by omega) (Nat.zero_le _) (Nat.zero_le _) ⟨_, _, rfl, rfl, by omega⟩
  · refine zz_aload_n (x := 1070) rfl zd_11_9_8 ?_
    have g3 := zz_G.r G_S0 1070 3 0 1500 rfl rfl
    refine zz_geti (z := S0 1070 3) zd_11_9_9 zf_Text_25 zT_1070 rfl (zz_ltn hn rfl) rfl ?_
    refine zz_aload_n (x := 1070) rfl zd_11_9_12 ?_
    have g4 := zz_G.r G_S0 1070 5 0 1500 rfl rfl
    refine zz_geti (z := S0 1070 5) zd_11_9_13 zf_Text_31 zT_1070 rfl (zz_ltn hn rfl) rfl ?_
    refine zz_isub zd_11_9_16 ?_
    refine zz_aload_n (x := 100 + p0) rfl zd_11_9_17 ?_
    refine zz_callT (t := p0) [] (zz_stl (by omega)) (by omega) zd_11_9_18 zkT_Text_37 rfl rfl ⟨Nat.le_of_ble_eq_true rfl, Nat.le_of_ble_eq_true rfl⟩ ⟨rfl, rfl⟩ (Nat.zero_le _) (Nat.zero_le _) (zc_length_21_54 p0 S0 n hn G_S0 (by omega)) (fun v6 S5 hP => ?_)
    obtain ⟨rfl, o7, o8⟩ := hP
    refine zz_icmp_eq (by omega) (by omega) zd_11_9_21 (fun c9 => ?_) (fun c9 => ?_)
    · refine zz_iconst zd_11_9_26 ?_
      refine zz_istore_n [some (.ref 1070), some (.ref (100 + p0)), some (zi 0)] zd_11_9_27 (by decide) rfl ?_
      refine zz_less (ls1 := [some (.ref 1070), some (.ref (100 + p0)), some (zi 0)]) ⟨rfl, ⟨rfl, ⟨rfl, trivial⟩⟩⟩ ?_
      exact k28 0 S0 G_S0 F_S0 (by omega) (by omega) (by omega)
    · refine zz_iconst zd_11_9_24 ?_
      exact zz_zret zd_11_9_25 rfl (by omega) (Nat.zero_le _) (Nat.zero_le _) ⟨_, _, rfl, rfl, by omega⟩
theorem zk_Assembler_61 : mm_Vl "TensorForge$Assembler" 61 6 1 zy_isWord_11_9 := ⟨zyw_isWord_11_9, (R_Text, F_Text, 7), rfl, mm_tb_1 594 (by decide +kernel) rfl, mm_tb_1 595 (by decide +kernel) rfl, mm_tb_1 596 (by decide +kernel) rfl⟩
theorem zg_2_4_19 : (decode zy_kindTold_2_4.2.1 19 = .ok ((Instr.ifCond .eq) 5, 3)) ∧ (decode zy_kindTold_2_4.2.1 24 = .ok ((.iinc 1 1), 3)) ∧ (decode zy_kindTold_2_4.2.1 27 = .ok (Instr.goto (-25), 3)) ∧ (decode zy_kindTold_2_4.2.1 22 = .ok ((.iload_n 1), 1)) ∧ (decode zy_kindTold_2_4.2.1 23 = .ok ((.ireturn), 1)) ∧ (decode zy_kindTold_2_4.2.1 30 = .ok ((.iconst (-1)), 1)) ∧ (decode zy_kindTold_2_4.2.1 31 = .ok ((.ireturn), 1)) := by decide +kernel
theorem zd_2_4_19 : zz_B zy_kindTold_2_4 19 (Instr.ifCond .eq) 24 22 := ⟨5, zg_2_4_19.1, rfl, rfl⟩
theorem zd_2_4_24 : zz_D zy_kindTold_2_4 24 (.iinc 1 1) 3 27 := ⟨zg_2_4_19.2.1, rfl⟩
theorem zd_2_4_27 : zz_B zy_kindTold_2_4 27 Instr.goto 2 30 := ⟨(-25), zg_2_4_19.2.2.1, rfl, rfl⟩
theorem zd_2_4_22 : zz_D zy_kindTold_2_4 22 (.iload_n 1) 1 23 := ⟨zg_2_4_19.2.2.2.1, rfl⟩
theorem zd_2_4_23 : zz_D zy_kindTold_2_4 23 (.ireturn) 1 24 := ⟨zg_2_4_19.2.2.2.2.1, rfl⟩
theorem zd_2_4_30 : zz_D zy_kindTold_2_4 30 (.iconst (-1)) 1 31 := ⟨zg_2_4_19.2.2.2.2.2.1, rfl⟩
theorem zd_2_4_31 : zz_D zy_kindTold_2_4 31 (.ireturn) 1 32 := ⟨zg_2_4_19.2.2.2.2.2.2, rfl⟩
-- TensorForge$Assembler kindTold ()I
abbrev zr_kindTold_2_4 : Room := { frames := 5, cells := 0, slots := 0, locals := 68 }
def zp_kindTold_2_4  (S0 : zz_S) : Int → zz_S → Prop := fun r S => S0 = S ∧ ((-2147483648) ≤ r ∧ r ≤ 2147483647)
theorem zb_kindTold_2_4_2 {g : mm_G} {l : Launch}  (S0 : zz_S) (n : Nat) (hn : zz_end ≤ n) (G_S0 : zz_G S0)  (x1 : Int) (S : zz_S) (G_S : zz_G S) (F_S : zz_fr [] [] (fun _ _ => False) S0 S) (i2_0 : 1 ≤ x1 ∧ x1 ≤ 10) (R : Nat) (hR : (9 + 1 - x1).toNat = R) (k2 : ∀ (x1 : Int) (S : zz_S), zz_G S → zz_fr [] [] (fun _ _ => False) S0 S → (1 ≤ x1 ∧ x1 ≤ 10) → (9 + 1 - x1).toNat < R → zz_E g l zy_kindTold_2_4 zr_kindTold_2_4 (zz_QI n (zp_kindTold_2_4  S0)) S n 2 [some (.ref 1072), some (zi x1)] [] 0 0) : zz_E g l zy_kindTold_2_4 zr_kindTold_2_4 (zz_QI n (zp_kindTold_2_4  S0)) S n 2 [some (.ref 1072), some (zi x1)] [] 0 0 := by
  refine zz_iload_n (x := x1) rfl zd_2_4_2 ?_
  refine zz_bipush (by decide) zd_2_4_3 ?_
  refine zz_icmp_gt (by omega) (by omega) zd_2_4_5 (fun c1 => ?_) (fun c1 => ?_)
  · refine zz_iconst zd_2_4_30 ?_
    exact zz_iret zd_2_4_31 rfl (Nat.zero_le _) (Nat.zero_le _) ⟨_, _, rfl, zz_fr.eq F_S, by omega⟩
  · refine zz_aload_n (x := 1072) rfl zd_2_4_8 ?_
    refine zz_getr (kd := 0) (z := 1070) zd_2_4_9 zf_Assembler_9 zT_1072 rfl (zz_ltn hn rfl) (zz_G.eq G_S 1072 0 1070 rfl rfl) (by decide) 1070 rfl ?_
    refine zz_iload_n (x := x1) rfl zd_2_4_12 ?_
    refine zz_callSA [zi x1] zd_2_4_13 zk_Assembler_57 rfl rfl ⟨Nat.le_of_ble_eq_true rfl, Nat.le_of_ble_eq_true rfl⟩ ⟨rfl, rfl⟩ (Nat.zero_le _) (Nat.zero_le _) (zc_nameOf_12_12 x1 S n hn G_S (by omega)) (fun v3 S2 hP => ?_)
    obtain ⟨rfl, o4⟩ := hP
    obtain ⟨uv3, rfl, huv3⟩ := o4
    refine zz_callVI [.ref (100 + uv3)] zd_2_4_16 zk_Assembler_61 zT_1070 (zz_ltn hn rfl) rfl rfl ⟨Nat.le_of_ble_eq_true rfl, Nat.le_of_ble_eq_true rfl⟩ ⟨rfl, rfl⟩ (Nat.zero_le _) (Nat.zero_le _) (zc_isWord_11_9 uv3 S n hn G_S (by omega)) (fun v6 S5 hP => ?_)
    obtain ⟨rfl, o7⟩ := hP
    rcases (by omega : v6 = 0 ∨ v6 = 1) with rfl | rfl
    · refine zz_if_eq (by omega) zd_2_4_19 (fun c8 => ?_) (fun c8 => ?_)
      · refine zz_iinc [some (.ref 1072), some (zi (x1 + 1))] zd_2_4_24 rfl rfl ?_
        refine zz_goto zd_2_4_27 ?_
        refine zz_less (ls1 := [some (.ref 1072), some (zi (x1 + 1))]) ⟨rfl, ⟨rfl, trivial⟩⟩ ?_
        exact k2 (x1 + 1) S G_S F_S (by omega) (by omega)
      · exfalso; omega
    · refine zz_if_eq (by omega) zd_2_4_19 (fun c9 => ?_) (fun c9 => ?_)
      · exfalso; omega
      · refine zz_iload_n (x := x1) rfl zd_2_4_22 ?_
        exact zz_iret zd_2_4_23 rfl (Nat.zero_le _) (Nat.zero_le _) ⟨_, _, rfl, zz_fr.eq F_S, by omega⟩
theorem zi_kindTold_2_4 {g : mm_G} {l : Launch}  (S0 : zz_S) (n : Nat) (hn : zz_end ≤ n) (G_S0 : zz_G S0)  : ∀ N : Nat, (∀ (x1 : Int) (S : zz_S), zz_G S → zz_fr [] [] (fun _ _ => False) S0 S → (1 ≤ x1 ∧ x1 ≤ 10) → (9 + 1 - x1).toNat < N → zz_E g l zy_kindTold_2_4 zr_kindTold_2_4 (zz_QI n (zp_kindTold_2_4  S0)) S n 2 [some (.ref 1072), some (zi x1)] [] 0 0) := by
  intro N
  induction N with
  | zero => exact fun x1 S _ _ _ h => absurd h (Nat.not_lt_zero _)
  | succ N ih =>
    exact fun x1 S a b j0 hR => zb_kindTold_2_4_2  S0 n hn G_S0  x1 S a b j0 _ rfl (fun x1 S a b j0 h => ih x1 S a b j0 (Nat.lt_of_lt_of_le h (Nat.le_of_lt_succ hR)))
theorem zc_kindTold_2_4 {g : mm_G} {l : Launch}  (S0 : zz_S) (n : Nat) (hn : zz_end ≤ n) (G_S0 : zz_G S0)  : mm_Met g l zy_kindTold_2_4 zr_kindTold_2_4 [.ref 1072] (zz_M S0 n) n (zz_QI n (zp_kindTold_2_4  S0)) := by
  refine zz_enter (by decide) (Nat.le_of_ble_eq_true rfl) (zz_less (ls1 := [some (.ref 1072)]) ⟨rfl, trivial⟩ ?_)
  have F_S0 : zz_fr [] [] (fun _ _ => False) S0 S0 := zz_fr.refl
  have k2 : ∀ (x1 : Int) (S : zz_S), zz_G S → zz_fr [] [] (fun _ _ => False) S0 S → (1 ≤ x1 ∧ x1 ≤ 10) → zz_E g l zy_kindTold_2_4 zr_kindTold_2_4 (zz_QI n (zp_kindTold_2_4  S0)) S n 2 [some (.ref 1072), some (zi x1)] [] 0 0 := fun x1 S a b j0 => (zi_kindTold_2_4 (g := g) (l := l)  S0 n hn G_S0  _) x1 S a b j0 (Nat.lt_succ_self _)
  refine zz_iconst zd_2_4_0 ?_
  refine zz_istore_n [some (.ref 1072), some (zi 1)] zd_2_4_1 (by decide) rfl ?_
  refine zz_less (ls1 := [some (.ref 1072), some (zi 1)]) ⟨rfl, ⟨rfl, trivial⟩⟩ ?_
  exact k2 1 S0 G_S0 F_S0 (by omega)
theorem zk_Assembler_44 : mm_Vl "TensorForge$Assembler" 44 7 0 zy_kindTold_2_4 := ⟨zyw_kindTold_2_4, (R_Assembler, F_Assembler, 4), rfl, mm_tb_1 577 (by decide +kernel) rfl, mm_tb_1 579 (by decide +kernel) rfl, mm_tb_s 8 (by decide +kernel) rfl⟩
abbrev zy_bits_12_4 : mm_Y := (⟨"TensorForge$Words", "bits", "(II)J"⟩, prog_12_method_4_code, 2, (some .long))
theorem zyw_bits_12_4 : mm_Yw zy_bits_12_4 2 := ⟨mm_tb_1 648 (by decide +kernel) rfl, mm_tb_1 20 (by decide +kernel) rfl, ⟨by decide, by decide⟩, by decide +kernel⟩
theorem zg_2_3_4 : (decode zy_readInstruction_2_3.2.1 4 = .ok ((.istore_n 1), 1)) ∧ (decode zy_readInstruction_2_3.2.1 5 = .ok ((.iload_n 1), 1)) ∧ (decode zy_readInstruction_2_3.2.1 6 = .ok ((.iconst (-1)), 1)) ∧ (decode zy_readInstruction_2_3.2.1 7 = .ok ((Instr.if_icmp .ne) 5, 3)) ∧ (decode zy_readInstruction_2_3.2.1 12 = .ok ((.aload_n 0), 1)) ∧ (decode zy_readInstruction_2_3.2.1 13 = .ok ((.iconst 0), 1)) ∧ (decode zy_readInstruction_2_3.2.1 14 = .ok ((.iload_n 1), 1)) ∧ (decode zy_readInstruction_2_3.2.1 15 = .ok ((.invokestatic 50), 3)) := by decide +kernel
theorem zd_2_3_4 : zz_D zy_readInstruction_2_3 4 (.istore_n 1) 1 5 := ⟨zg_2_3_4.1, rfl⟩
theorem zd_2_3_5 : zz_D zy_readInstruction_2_3 5 (.iload_n 1) 1 6 := ⟨zg_2_3_4.2.1, rfl⟩
theorem zd_2_3_6 : zz_D zy_readInstruction_2_3 6 (.iconst (-1)) 1 7 := ⟨zg_2_3_4.2.2.1, rfl⟩
theorem zd_2_3_7 : zz_B zy_readInstruction_2_3 7 (Instr.if_icmp .ne) 12 10 := ⟨5, zg_2_3_4.2.2.2.1, rfl, rfl⟩
theorem zd_2_3_12 : zz_D zy_readInstruction_2_3 12 (.aload_n 0) 1 13 := ⟨zg_2_3_4.2.2.2.2.1, rfl⟩
theorem zd_2_3_13 : zz_D zy_readInstruction_2_3 13 (.iconst 0) 1 14 := ⟨zg_2_3_4.2.2.2.2.2.1, rfl⟩
theorem zd_2_3_14 : zz_D zy_readInstruction_2_3 14 (.iload_n 1) 1 15 := ⟨zg_2_3_4.2.2.2.2.2.2.1, rfl⟩
theorem zd_2_3_15 : zz_D zy_readInstruction_2_3 15 (.invokestatic 50) 3 18 := ⟨zg_2_3_4.2.2.2.2.2.2.2, rfl⟩
theorem zg_12_4_0 : (decode zy_bits_12_4.2.1 0 = .ok ((.iload_n 0), 1)) ∧ (decode zy_bits_12_4.2.1 1 = .ok ((Instr.ifCond .lt) 9, 3)) ∧ (decode zy_bits_12_4.2.1 10 = .ok ((.lconst 0), 1)) ∧ (decode zy_bits_12_4.2.1 11 = .ok ((.lreturn), 1)) ∧ (decode zy_bits_12_4.2.1 4 = .ok ((.iload_n 0), 1)) ∧ (decode zy_bits_12_4.2.1 5 = .ok ((.bipush 12), 2)) ∧ (decode zy_bits_12_4.2.1 7 = .ok ((Instr.if_icmp .lt) 5, 3)) ∧ (decode zy_bits_12_4.2.1 12 = .ok ((.iload_n 1), 1)) ∧ (decode zy_bits_12_4.2.1 13 = .ok ((.getstatic 13), 3)) ∧ (decode zy_bits_12_4.2.1 16 = .ok ((.iload_n 0), 1)) := by decide +kernel
theorem zd_12_4_0 : zz_D zy_bits_12_4 0 (.iload_n 0) 1 1 := ⟨zg_12_4_0.1, rfl⟩
theorem zd_12_4_1 : zz_B zy_bits_12_4 1 (Instr.ifCond .lt) 10 4 := ⟨9, zg_12_4_0.2.1, rfl, rfl⟩
theorem zd_12_4_10 : zz_D zy_bits_12_4 10 (.lconst 0) 1 11 := ⟨zg_12_4_0.2.2.1, rfl⟩
theorem zd_12_4_11 : zz_D zy_bits_12_4 11 (.lreturn) 1 12 := ⟨zg_12_4_0.2.2.2.1, rfl⟩
theorem zd_12_4_4 : zz_D zy_bits_12_4 4 (.iload_n 0) 1 5 := ⟨zg_12_4_0.2.2.2.2.1, rfl⟩
theorem zd_12_4_5 : zz_D zy_bits_12_4 5 (.bipush 12) 2 7 := ⟨zg_12_4_0.2.2.2.2.2.1, rfl⟩
theorem zd_12_4_7 : zz_B zy_bits_12_4 7 (Instr.if_icmp .lt) 12 10 := ⟨5, zg_12_4_0.2.2.2.2.2.2.1, rfl, rfl⟩
theorem zd_12_4_12 : zz_D zy_bits_12_4 12 (.iload_n 1) 1 13 := ⟨zg_12_4_0.2.2.2.2.2.2.2.1, rfl⟩
theorem zd_12_4_13 : zz_D zy_bits_12_4 13 (.getstatic 13) 3 16 := ⟨zg_12_4_0.2.2.2.2.2.2.2.2.1, rfl⟩
theorem zd_12_4_16 : zz_D zy_bits_12_4 16 (.iload_n 0) 1 17 := ⟨zg_12_4_0.2.2.2.2.2.2.2.2.2, rfl⟩
theorem zg_12_4_17 : (decode zy_bits_12_4.2.1 17 = .ok ((.iaload), 1)) ∧ (decode zy_bits_12_4.2.1 18 = .ok ((.iand), 1)) ∧ (decode zy_bits_12_4.2.1 19 = .ok ((.i2l), 1)) ∧ (decode zy_bits_12_4.2.1 20 = .ok ((.getstatic 9), 3)) ∧ (decode zy_bits_12_4.2.1 23 = .ok ((.iload_n 0), 1)) ∧ (decode zy_bits_12_4.2.1 24 = .ok ((.iaload), 1)) ∧ (decode zy_bits_12_4.2.1 25 = .ok ((.lshl), 1)) ∧ (decode zy_bits_12_4.2.1 26 = .ok ((.lreturn), 1)) := by decide +kernel
theorem zd_12_4_17 : zz_D zy_bits_12_4 17 (.iaload) 1 18 := ⟨zg_12_4_17.1, rfl⟩
theorem zd_12_4_18 : zz_D zy_bits_12_4 18 (.iand) 1 19 := ⟨zg_12_4_17.2.1, rfl⟩
theorem zd_12_4_19 : zz_D zy_bits_12_4 19 (.i2l) 1 20 := ⟨zg_12_4_17.2.2.1, rfl⟩
theorem zd_12_4_20 : zz_D zy_bits_12_4 20 (.getstatic 9) 3 23 := ⟨zg_12_4_17.2.2.2.1, rfl⟩
theorem zd_12_4_23 : zz_D zy_bits_12_4 23 (.iload_n 0) 1 24 := ⟨zg_12_4_17.2.2.2.2.1, rfl⟩
theorem zd_12_4_24 : zz_D zy_bits_12_4 24 (.iaload) 1 25 := ⟨zg_12_4_17.2.2.2.2.2.1, rfl⟩
theorem zd_12_4_25 : zz_D zy_bits_12_4 25 (.lshl) 1 26 := ⟨zg_12_4_17.2.2.2.2.2.2.1, rfl⟩
theorem zd_12_4_26 : zz_D zy_bits_12_4 26 (.lreturn) 1 27 := ⟨zg_12_4_17.2.2.2.2.2.2.2, rfl⟩
-- TensorForge$Words bits (II)J
abbrev zr_bits_12_4 : Room := { frames := 0, cells := 0, slots := 0, locals := 0 }
def zp_bits_12_4 (p0 : Int) (p1 : Int) (S0 : zz_S) : Int → zz_S → Prop := fun r S => S0 = S ∧ ((-9223372036854775808) ≤ r ∧ r ≤ 9223372036854775807)
theorem zc_bits_12_4 {g : mm_G} {l : Launch} (p0 : Int) (p1 : Int) (S0 : zz_S) (n : Nat) (hn : zz_end ≤ n) (G_S0 : zz_G S0) (hp0 : (-2147483648) ≤ p0 ∧ p0 ≤ 2147483647) (hp1 : (-2147483648) ≤ p1 ∧ p1 ≤ 2147483647) : mm_Met g l zy_bits_12_4 zr_bits_12_4 [zi p0, zi p1] (zz_M S0 n) n (zz_QJ n (zp_bits_12_4 p0 p1 S0)) := by
  refine zz_enter (by decide) (Nat.le_of_ble_eq_true rfl) (zz_less (ls1 := [some (zi p0), some (zi p1)]) ⟨rfl, ⟨rfl, trivial⟩⟩ ?_)
  refine zz_iload_n (x := p0) rfl zd_12_4_0 ?_
  refine zz_if_lt (by omega) zd_12_4_1 (fun c1 => ?_) (fun c1 => ?_)
  · refine zz_lconst (z := 0) (by decide) zd_12_4_10 ?_
    exact zz_lret zd_12_4_11 rfl (Nat.zero_le _) (Nat.zero_le _) ⟨_, _, rfl, rfl, by omega⟩
  · refine zz_iload_n (x := p0) rfl zd_12_4_4 ?_
    refine zz_bipush (by decide) zd_12_4_5 ?_
    refine zz_icmp_lt (by omega) (by omega) zd_12_4_7 (fun c2 => ?_) (fun c2 => ?_)
    · refine zz_iload_n (x := p1) rfl zd_12_4_12 ?_
      refine zz_gets (q0 := 2) zd_12_4_13 rfl (by decide) zs_Words_13 ?_
      refine zz_iload_n (x := p0) rfl zd_12_4_16 ?_
      obtain ⟨v3, hv3, tv3⟩ := zz_sta2 (i := p0) (by omega)
      refine zz_tiald (N := 12) v3 zd_12_4_17 rfl (by decide) rfl (by decide) (by omega) tv3 ?_
      refine zz_iand (by omega) (by omega) zd_12_4_18 (fun v4 hv4 av4 bv4 ev4 => ?_)
      refine zz_i2l (by omega) zd_12_4_19 ?_
      refine zz_gets (q0 := 1) zd_12_4_20 rfl (by decide) zs_Words_9 ?_
      refine zz_iload_n (x := p0) rfl zd_12_4_23 ?_
      obtain ⟨v5, hv5, tv5⟩ := zz_sta1 (i := p0) (by omega)
      refine zz_tiald (N := 12) v5 zd_12_4_24 rfl (by decide) rfl (by decide) (by omega) tv5 ?_
      refine zz_lshl zd_12_4_25 (fun v6 hv6 ev6 => ?_)
      exact zz_lret zd_12_4_26 rfl (Nat.zero_le _) (Nat.zero_le _) ⟨_, _, rfl, rfl, by omega⟩
    · refine zz_lconst (z := 0) (by decide) zd_12_4_10 ?_
      exact zz_lret zd_12_4_11 rfl (Nat.zero_le _) (Nat.zero_le _) ⟨_, _, rfl, rfl, by omega⟩
theorem zk_Assembler_50 : mm_Sl "TensorForge$Assembler" 50 2 zy_bits_12_4 := ⟨zyw_bits_12_4, mm_tb_1 646 (by decide +kernel) rfl, mm_tb_1 647 (by decide +kernel) rfl⟩
abbrev zy_readPart_2_5 : mm_Y := (⟨"TensorForge$Assembler", "readPart", "()Z"⟩, prog_2_method_5_code, 1, (some .boolean))
theorem zyw_readPart_2_5 : mm_Yw zy_readPart_2_5 0 := ⟨mm_tb_1 652 (by decide +kernel) rfl, mm_tb_1 8 (by decide +kernel) rfl, ⟨by decide, by decide⟩, by decide +kernel⟩
abbrev zy_readNeighbour_2_7 : mm_Y := (⟨"TensorForge$Assembler", "readNeighbour", "(II)Z"⟩, prog_2_method_7_code, 3, (some .boolean))
theorem zyw_readNeighbour_2_7 : mm_Yw zy_readNeighbour_2_7 2 := ⟨mm_tb_1 685 (by decide +kernel) rfl, mm_tb_1 8 (by decide +kernel) rfl, ⟨by decide, by decide⟩, by decide +kernel⟩
abbrev zy_nextIsWord_11_10 : mm_Y := (⟨"TensorForge$Text", "nextIsWord", "(Ljava/lang/String;)Z"⟩, prog_11_method_10_code, 2, (some .boolean))
theorem zyw_nextIsWord_11_10 : mm_Yw zy_nextIsWord_11_10 1 := ⟨mm_tb_1 675 (by decide +kernel) rfl, mm_tb_1 7 (by decide +kernel) rfl, ⟨by decide, by decide⟩, by decide +kernel⟩
theorem zk_Text_47 : mm_Vl "TensorForge$Text" 47 6 0 zy_nextToken_11_7 := ⟨zyw_nextToken_11_7, (R_Text, F_Text, 7), rfl, mm_tb_1 662 (by decide +kernel) rfl, mm_tb_1 570 (by decide +kernel) rfl, mm_tb_1 571 (by decide +kernel) rfl⟩
theorem zk_Text_50 : mm_Vl "TensorForge$Text" 50 6 1 zy_isWord_11_9 := ⟨zyw_isWord_11_9, (R_Text, F_Text, 7), rfl, mm_tb_1 676 (by decide +kernel) rfl, mm_tb_1 595 (by decide +kernel) rfl, mm_tb_1 596 (by decide +kernel) rfl⟩
theorem zg_2_3_18 : (decode zy_readInstruction_2_3.2.1 18 = .ok ((.putfield 19), 3)) ∧ (decode zy_readInstruction_2_3.2.1 21 = .ok ((.aload_n 0), 1)) ∧ (decode zy_readInstruction_2_3.2.1 22 = .ok ((.iconst 0), 1)) ∧ (decode zy_readInstruction_2_3.2.1 23 = .ok ((.putfield 23), 3)) ∧ (decode zy_readInstruction_2_3.2.1 26 = .ok ((.iconst 0), 1)) ∧ (decode zy_readInstruction_2_3.2.1 27 = .ok ((.istore_n 2), 1)) ∧ (decode zy_readInstruction_2_3.2.1 10 = .ok ((.iconst 0), 1)) ∧ (decode zy_readInstruction_2_3.2.1 11 = .ok ((.ireturn), 1)) ∧ (decode zy_readInstruction_2_3.2.1 28 = .ok ((.iload_n 2), 1)) ∧ (decode zy_readInstruction_2_3.2.1 29 = .ok ((.sipush 1500), 3)) := by decide +kernel
theorem zd_2_3_18 : zz_D zy_readInstruction_2_3 18 (.putfield 19) 3 21 := ⟨zg_2_3_18.1, rfl⟩
theorem zd_2_3_21 : zz_D zy_readInstruction_2_3 21 (.aload_n 0) 1 22 := ⟨zg_2_3_18.2.1, rfl⟩
theorem zd_2_3_22 : zz_D zy_readInstruction_2_3 22 (.iconst 0) 1 23 := ⟨zg_2_3_18.2.2.1, rfl⟩
theorem zd_2_3_23 : zz_D zy_readInstruction_2_3 23 (.putfield 23) 3 26 := ⟨zg_2_3_18.2.2.2.1, rfl⟩
theorem zd_2_3_26 : zz_D zy_readInstruction_2_3 26 (.iconst 0) 1 27 := ⟨zg_2_3_18.2.2.2.2.1, rfl⟩
theorem zd_2_3_27 : zz_D zy_readInstruction_2_3 27 (.istore_n 2) 1 28 := ⟨zg_2_3_18.2.2.2.2.2.1, rfl⟩
theorem zd_2_3_10 : zz_D zy_readInstruction_2_3 10 (.iconst 0) 1 11 := ⟨zg_2_3_18.2.2.2.2.2.2.1, rfl⟩
theorem zd_2_3_11 : zz_D zy_readInstruction_2_3 11 (.ireturn) 1 12 := ⟨zg_2_3_18.2.2.2.2.2.2.2.1, rfl⟩
theorem zd_2_3_28 : zz_D zy_readInstruction_2_3 28 (.iload_n 2) 1 29 := ⟨zg_2_3_18.2.2.2.2.2.2.2.2.1, rfl⟩
theorem zd_2_3_29 : zz_D zy_readInstruction_2_3 29 (.sipush 1500) 3 32 := ⟨zg_2_3_18.2.2.2.2.2.2.2.2.2, rfl⟩
theorem zg_2_3_32 : (decode zy_readInstruction_2_3.2.1 32 = .ok ((Instr.if_icmp .gt) 37, 3)) ∧ (decode zy_readInstruction_2_3.2.1 35 = .ok ((.aload_n 0), 1)) ∧ (decode zy_readInstruction_2_3.2.1 36 = .ok ((.getfield 9), 3)) ∧ (decode zy_readInstruction_2_3.2.1 39 = .ok ((.invokevirtual 35), 3)) ∧ (decode zy_readInstruction_2_3.2.1 42 = .ok ((.aload_n 0), 1)) ∧ (decode zy_readInstruction_2_3.2.1 43 = .ok ((.getfield 9), 3)) ∧ (decode zy_readInstruction_2_3.2.1 46 = .ok ((.getfield 38), 3)) ∧ (decode zy_readInstruction_2_3.2.1 49 = .ok ((Instr.ifCond .ne) 5, 3)) ∧ (decode zy_readInstruction_2_3.2.1 54 = .ok ((.aload_n 0), 1)) ∧ (decode zy_readInstruction_2_3.2.1 55 = .ok ((.invokevirtual 54), 3)) := by decide +kernel
theorem zd_2_3_32 : zz_B zy_readInstruction_2_3 32 (Instr.if_icmp .gt) 69 35 := ⟨37, zg_2_3_32.1, rfl, rfl⟩
theorem zd_2_3_35 : zz_D zy_readInstruction_2_3 35 (.aload_n 0) 1 36 := ⟨zg_2_3_32.2.1, rfl⟩
theorem zd_2_3_36 : zz_D zy_readInstruction_2_3 36 (.getfield 9) 3 39 := ⟨zg_2_3_32.2.2.1, rfl⟩
theorem zd_2_3_39 : zz_D zy_readInstruction_2_3 39 (.invokevirtual 35) 3 42 := ⟨zg_2_3_32.2.2.2.1, rfl⟩
theorem zd_2_3_42 : zz_D zy_readInstruction_2_3 42 (.aload_n 0) 1 43 := ⟨zg_2_3_32.2.2.2.2.1, rfl⟩
theorem zd_2_3_43 : zz_D zy_readInstruction_2_3 43 (.getfield 9) 3 46 := ⟨zg_2_3_32.2.2.2.2.2.1, rfl⟩
theorem zd_2_3_46 : zz_D zy_readInstruction_2_3 46 (.getfield 38) 3 49 := ⟨zg_2_3_32.2.2.2.2.2.2.1, rfl⟩
theorem zd_2_3_49 : zz_B zy_readInstruction_2_3 49 (Instr.ifCond .ne) 54 52 := ⟨5, zg_2_3_32.2.2.2.2.2.2.2.1, rfl, rfl⟩
theorem zd_2_3_54 : zz_D zy_readInstruction_2_3 54 (.aload_n 0) 1 55 := ⟨zg_2_3_32.2.2.2.2.2.2.2.2.1, rfl⟩
theorem zd_2_3_55 : zz_D zy_readInstruction_2_3 55 (.invokevirtual 54) 3 58 := ⟨zg_2_3_32.2.2.2.2.2.2.2.2.2, rfl⟩
theorem zg_2_5_0 : (decode zy_readPart_2_5.2.1 0 = .ok ((.aload_n 0), 1)) ∧ (decode zy_readPart_2_5.2.1 1 = .ok ((.getfield 9), 3)) ∧ (decode zy_readPart_2_5.2.1 4 = .ok ((.ldc 65), 2)) ∧ (decode zy_readPart_2_5.2.1 6 = .ok ((.invokevirtual 61), 3)) ∧ (decode zy_readPart_2_5.2.1 9 = .ok ((Instr.ifCond .eq) 9, 3)) ∧ (decode zy_readPart_2_5.2.1 18 = .ok ((.aload_n 0), 1)) ∧ (decode zy_readPart_2_5.2.1 19 = .ok ((.getfield 9), 3)) ∧ (decode zy_readPart_2_5.2.1 22 = .ok ((.ldc 71), 2)) ∧ (decode zy_readPart_2_5.2.1 24 = .ok ((.invokevirtual 61), 3)) ∧ (decode zy_readPart_2_5.2.1 27 = .ok ((Instr.ifCond .eq) 39, 3)) := by decide +kernel
theorem zd_2_5_0 : zz_D zy_readPart_2_5 0 (.aload_n 0) 1 1 := ⟨zg_2_5_0.1, rfl⟩
theorem zd_2_5_1 : zz_D zy_readPart_2_5 1 (.getfield 9) 3 4 := ⟨zg_2_5_0.2.1, rfl⟩
theorem zd_2_5_4 : zz_D zy_readPart_2_5 4 (.ldc 65) 2 6 := ⟨zg_2_5_0.2.2.1, rfl⟩
theorem zd_2_5_6 : zz_D zy_readPart_2_5 6 (.invokevirtual 61) 3 9 := ⟨zg_2_5_0.2.2.2.1, rfl⟩
theorem zd_2_5_9 : zz_B zy_readPart_2_5 9 (Instr.ifCond .eq) 18 12 := ⟨9, zg_2_5_0.2.2.2.2.1, rfl, rfl⟩
theorem zd_2_5_18 : zz_D zy_readPart_2_5 18 (.aload_n 0) 1 19 := ⟨zg_2_5_0.2.2.2.2.2.1, rfl⟩
theorem zd_2_5_19 : zz_D zy_readPart_2_5 19 (.getfield 9) 3 22 := ⟨zg_2_5_0.2.2.2.2.2.2.1, rfl⟩
theorem zd_2_5_22 : zz_D zy_readPart_2_5 22 (.ldc 71) 2 24 := ⟨zg_2_5_0.2.2.2.2.2.2.2.1, rfl⟩
theorem zd_2_5_24 : zz_D zy_readPart_2_5 24 (.invokevirtual 61) 3 27 := ⟨zg_2_5_0.2.2.2.2.2.2.2.2.1, rfl⟩
theorem zd_2_5_27 : zz_B zy_readPart_2_5 27 (Instr.ifCond .eq) 66 30 := ⟨39, zg_2_5_0.2.2.2.2.2.2.2.2.2, rfl, rfl⟩
theorem zg_2_5_66 : (decode zy_readPart_2_5.2.1 66 = .ok ((.aload_n 0), 1)) ∧ (decode zy_readPart_2_5.2.1 67 = .ok ((.getfield 9), 3)) ∧ (decode zy_readPart_2_5.2.1 70 = .ok ((.ldc 78), 2)) ∧ (decode zy_readPart_2_5.2.1 72 = .ok ((.invokevirtual 61), 3)) ∧ (decode zy_readPart_2_5.2.1 75 = .ok ((Instr.ifCond .eq) 10, 3)) ∧ (decode zy_readPart_2_5.2.1 85 = .ok ((.aload_n 0), 1)) ∧ (decode zy_readPart_2_5.2.1 86 = .ok ((.getfield 9), 3)) ∧ (decode zy_readPart_2_5.2.1 89 = .ok ((.ldc 80), 2)) ∧ (decode zy_readPart_2_5.2.1 91 = .ok ((.invokevirtual 61), 3)) ∧ (decode zy_readPart_2_5.2.1 94 = .ok ((Instr.ifCond .eq) 10, 3)) := by decide +kernel
theorem zd_2_5_66 : zz_D zy_readPart_2_5 66 (.aload_n 0) 1 67 := ⟨zg_2_5_66.1, rfl⟩
theorem zd_2_5_67 : zz_D zy_readPart_2_5 67 (.getfield 9) 3 70 := ⟨zg_2_5_66.2.1, rfl⟩
theorem zd_2_5_70 : zz_D zy_readPart_2_5 70 (.ldc 78) 2 72 := ⟨zg_2_5_66.2.2.1, rfl⟩
theorem zd_2_5_72 : zz_D zy_readPart_2_5 72 (.invokevirtual 61) 3 75 := ⟨zg_2_5_66.2.2.2.1, rfl⟩
theorem zd_2_5_75 : zz_B zy_readPart_2_5 75 (Instr.ifCond .eq) 85 78 := ⟨10, zg_2_5_66.2.2.2.2.1, rfl, rfl⟩
theorem zd_2_5_85 : zz_D zy_readPart_2_5 85 (.aload_n 0) 1 86 := ⟨zg_2_5_66.2.2.2.2.2.1, rfl⟩
theorem zd_2_5_86 : zz_D zy_readPart_2_5 86 (.getfield 9) 3 89 := ⟨zg_2_5_66.2.2.2.2.2.2.1, rfl⟩
theorem zd_2_5_89 : zz_D zy_readPart_2_5 89 (.ldc 80) 2 91 := ⟨zg_2_5_66.2.2.2.2.2.2.2.1, rfl⟩
theorem zd_2_5_91 : zz_D zy_readPart_2_5 91 (.invokevirtual 61) 3 94 := ⟨zg_2_5_66.2.2.2.2.2.2.2.2.1, rfl⟩
theorem zd_2_5_94 : zz_B zy_readPart_2_5 94 (Instr.ifCond .eq) 104 97 := ⟨10, zg_2_5_66.2.2.2.2.2.2.2.2.2, rfl, rfl⟩
theorem zg_2_5_104 : (decode zy_readPart_2_5.2.1 104 = .ok ((.aload_n 0), 1)) ∧ (decode zy_readPart_2_5.2.1 105 = .ok ((.getfield 9), 3)) ∧ (decode zy_readPart_2_5.2.1 108 = .ok ((.ldc 82), 2)) ∧ (decode zy_readPart_2_5.2.1 110 = .ok ((.invokevirtual 61), 3)) ∧ (decode zy_readPart_2_5.2.1 113 = .ok ((Instr.ifCond .eq) 10, 3)) ∧ (decode zy_readPart_2_5.2.1 123 = .ok ((.aload_n 0), 1)) ∧ (decode zy_readPart_2_5.2.1 124 = .ok ((.getfield 9), 3)) ∧ (decode zy_readPart_2_5.2.1 127 = .ok ((.ldc 84), 2)) ∧ (decode zy_readPart_2_5.2.1 129 = .ok ((.invokevirtual 61), 3)) ∧ (decode zy_readPart_2_5.2.1 132 = .ok ((Instr.ifCond .eq) 10, 3)) := by decide +kernel
theorem zd_2_5_104 : zz_D zy_readPart_2_5 104 (.aload_n 0) 1 105 := ⟨zg_2_5_104.1, rfl⟩
theorem zd_2_5_105 : zz_D zy_readPart_2_5 105 (.getfield 9) 3 108 := ⟨zg_2_5_104.2.1, rfl⟩
theorem zd_2_5_108 : zz_D zy_readPart_2_5 108 (.ldc 82) 2 110 := ⟨zg_2_5_104.2.2.1, rfl⟩
theorem zd_2_5_110 : zz_D zy_readPart_2_5 110 (.invokevirtual 61) 3 113 := ⟨zg_2_5_104.2.2.2.1, rfl⟩
theorem zd_2_5_113 : zz_B zy_readPart_2_5 113 (Instr.ifCond .eq) 123 116 := ⟨10, zg_2_5_104.2.2.2.2.1, rfl, rfl⟩
theorem zd_2_5_123 : zz_D zy_readPart_2_5 123 (.aload_n 0) 1 124 := ⟨zg_2_5_104.2.2.2.2.2.1, rfl⟩
theorem zd_2_5_124 : zz_D zy_readPart_2_5 124 (.getfield 9) 3 127 := ⟨zg_2_5_104.2.2.2.2.2.2.1, rfl⟩
theorem zd_2_5_127 : zz_D zy_readPart_2_5 127 (.ldc 84) 2 129 := ⟨zg_2_5_104.2.2.2.2.2.2.2.1, rfl⟩
theorem zd_2_5_129 : zz_D zy_readPart_2_5 129 (.invokevirtual 61) 3 132 := ⟨zg_2_5_104.2.2.2.2.2.2.2.2.1, rfl⟩
theorem zd_2_5_132 : zz_B zy_readPart_2_5 132 (Instr.ifCond .eq) 142 135 := ⟨10, zg_2_5_104.2.2.2.2.2.2.2.2.2, rfl, rfl⟩
theorem zg_2_5_142 : (decode zy_readPart_2_5.2.1 142 = .ok ((.aload_n 0), 1)) ∧ (decode zy_readPart_2_5.2.1 143 = .ok ((.getfield 9), 3)) ∧ (decode zy_readPart_2_5.2.1 146 = .ok ((.ldc 86), 2)) ∧ (decode zy_readPart_2_5.2.1 148 = .ok ((.invokevirtual 61), 3)) ∧ (decode zy_readPart_2_5.2.1 151 = .ok ((Instr.ifCond .eq) 10, 3)) ∧ (decode zy_readPart_2_5.2.1 161 = .ok ((.aload_n 0), 1)) ∧ (decode zy_readPart_2_5.2.1 162 = .ok ((.getfield 9), 3)) ∧ (decode zy_readPart_2_5.2.1 165 = .ok ((.ldc 92), 2)) ∧ (decode zy_readPart_2_5.2.1 167 = .ok ((.invokevirtual 61), 3)) ∧ (decode zy_readPart_2_5.2.1 170 = .ok ((Instr.ifCond .eq) 16, 3)) := by decide +kernel
theorem zd_2_5_142 : zz_D zy_readPart_2_5 142 (.aload_n 0) 1 143 := ⟨zg_2_5_142.1, rfl⟩
theorem zd_2_5_143 : zz_D zy_readPart_2_5 143 (.getfield 9) 3 146 := ⟨zg_2_5_142.2.1, rfl⟩
theorem zd_2_5_146 : zz_D zy_readPart_2_5 146 (.ldc 86) 2 148 := ⟨zg_2_5_142.2.2.1, rfl⟩
theorem zd_2_5_148 : zz_D zy_readPart_2_5 148 (.invokevirtual 61) 3 151 := ⟨zg_2_5_142.2.2.2.1, rfl⟩
theorem zd_2_5_151 : zz_B zy_readPart_2_5 151 (Instr.ifCond .eq) 161 154 := ⟨10, zg_2_5_142.2.2.2.2.1, rfl, rfl⟩
theorem zd_2_5_161 : zz_D zy_readPart_2_5 161 (.aload_n 0) 1 162 := ⟨zg_2_5_142.2.2.2.2.2.1, rfl⟩
theorem zd_2_5_162 : zz_D zy_readPart_2_5 162 (.getfield 9) 3 165 := ⟨zg_2_5_142.2.2.2.2.2.2.1, rfl⟩
theorem zd_2_5_165 : zz_D zy_readPart_2_5 165 (.ldc 92) 2 167 := ⟨zg_2_5_142.2.2.2.2.2.2.2.1, rfl⟩
theorem zd_2_5_167 : zz_D zy_readPart_2_5 167 (.invokevirtual 61) 3 170 := ⟨zg_2_5_142.2.2.2.2.2.2.2.2.1, rfl⟩
theorem zd_2_5_170 : zz_B zy_readPart_2_5 170 (Instr.ifCond .eq) 186 173 := ⟨16, zg_2_5_142.2.2.2.2.2.2.2.2.2, rfl, rfl⟩
theorem zg_2_5_186 : (decode zy_readPart_2_5.2.1 186 = .ok ((.iconst 0), 1)) ∧ (decode zy_readPart_2_5.2.1 187 = .ok ((.ireturn), 1)) ∧ (decode zy_readPart_2_5.2.1 173 = .ok ((.aload_n 0), 1)) ∧ (decode zy_readPart_2_5.2.1 174 = .ok ((.iconst 3), 1)) ∧ (decode zy_readPart_2_5.2.1 175 = .ok ((.iconst 4), 1)) ∧ (decode zy_readPart_2_5.2.1 176 = .ok ((.invokevirtual 88), 3)) := by decide +kernel
theorem zd_2_5_186 : zz_D zy_readPart_2_5 186 (.iconst 0) 1 187 := ⟨zg_2_5_186.1, rfl⟩
theorem zd_2_5_187 : zz_D zy_readPart_2_5 187 (.ireturn) 1 188 := ⟨zg_2_5_186.2.1, rfl⟩
theorem zd_2_5_173 : zz_D zy_readPart_2_5 173 (.aload_n 0) 1 174 := ⟨zg_2_5_186.2.2.1, rfl⟩
theorem zd_2_5_174 : zz_D zy_readPart_2_5 174 (.iconst 3) 1 175 := ⟨zg_2_5_186.2.2.2.1, rfl⟩
theorem zd_2_5_175 : zz_D zy_readPart_2_5 175 (.iconst 4) 1 176 := ⟨zg_2_5_186.2.2.2.2.1, rfl⟩
theorem zd_2_5_176 : zz_D zy_readPart_2_5 176 (.invokevirtual 88) 3 179 := ⟨zg_2_5_186.2.2.2.2.2, rfl⟩
theorem zg_2_7_0 : (decode zy_readNeighbour_2_7.2.1 0 = .ok ((.aload_n 0), 1)) ∧ (decode zy_readNeighbour_2_7.2.1 1 = .ok ((.getfield 9), 3)) ∧ (decode zy_readNeighbour_2_7.2.1 4 = .ok ((.ldc 107), 2)) ∧ (decode zy_readNeighbour_2_7.2.1 6 = .ok ((.invokevirtual 75), 3)) := by decide +kernel
theorem zd_2_7_0 : zz_D zy_readNeighbour_2_7 0 (.aload_n 0) 1 1 := ⟨zg_2_7_0.1, rfl⟩
theorem zd_2_7_1 : zz_D zy_readNeighbour_2_7 1 (.getfield 9) 3 4 := ⟨zg_2_7_0.2.1, rfl⟩
theorem zd_2_7_4 : zz_D zy_readNeighbour_2_7 4 (.ldc 107) 2 6 := ⟨zg_2_7_0.2.2.1, rfl⟩
theorem zd_2_7_6 : zz_D zy_readNeighbour_2_7 6 (.invokevirtual 75) 3 9 := ⟨zg_2_7_0.2.2.2, rfl⟩
theorem zg_11_10_0 : (decode zy_nextIsWord_11_10.2.1 0 = .ok ((.aload_n 0), 1)) ∧ (decode zy_nextIsWord_11_10.2.1 1 = .ok ((.invokevirtual 47), 3)) ∧ (decode zy_nextIsWord_11_10.2.1 4 = .ok ((.aload_n 0), 1)) ∧ (decode zy_nextIsWord_11_10.2.1 5 = .ok ((.aload_n 1), 1)) ∧ (decode zy_nextIsWord_11_10.2.1 6 = .ok ((.invokevirtual 50), 3)) ∧ (decode zy_nextIsWord_11_10.2.1 9 = .ok ((.ireturn), 1)) := by decide +kernel
theorem zd_11_10_0 : zz_D zy_nextIsWord_11_10 0 (.aload_n 0) 1 1 := ⟨zg_11_10_0.1, rfl⟩
theorem zd_11_10_1 : zz_D zy_nextIsWord_11_10 1 (.invokevirtual 47) 3 4 := ⟨zg_11_10_0.2.1, rfl⟩
theorem zd_11_10_4 : zz_D zy_nextIsWord_11_10 4 (.aload_n 0) 1 5 := ⟨zg_11_10_0.2.2.1, rfl⟩
theorem zd_11_10_5 : zz_D zy_nextIsWord_11_10 5 (.aload_n 1) 1 6 := ⟨zg_11_10_0.2.2.2.1, rfl⟩
theorem zd_11_10_6 : zz_D zy_nextIsWord_11_10 6 (.invokevirtual 50) 3 9 := ⟨zg_11_10_0.2.2.2.2.1, rfl⟩
theorem zd_11_10_9 : zz_D zy_nextIsWord_11_10 9 (.ireturn) 1 10 := ⟨zg_11_10_0.2.2.2.2.2, rfl⟩
-- TensorForge$Text nextIsWord (Ljava/lang/String;)Z
abbrev zr_nextIsWord_11_10 : Room := { frames := 5, cells := 0, slots := 0, locals := 68 }
def zp_nextIsWord_11_10 (p0 : Nat) (S0 : zz_S) : Int → zz_S → Prop := fun r S => zz_G S ∧ zz_fr [(1070, 3), (1070, 4), (1070, 5), (1070, 6)] [] (fun _ _ => False) S0 S ∧ (0 ≤ r ∧ r ≤ 1)
theorem zc_nextIsWord_11_10 {g : mm_G} {l : Launch} (p0 : Nat) (S0 : zz_S) (n : Nat) (hn : zz_end ≤ n) (G_S0 : zz_G S0) (hp0 : p0 < 59) : mm_Met g l zy_nextIsWord_11_10 zr_nextIsWord_11_10 [.ref 1070, .ref (100 + p0)] (zz_M S0 n) n (zz_QI n (zp_nextIsWord_11_10 p0 S0)) := by
  refine zz_enter (by decide) (Nat.le_of_ble_eq_true rfl) (zz_less (ls1 := [some (.ref 1070), some (.ref (100 + p0))]) ⟨rfl, ⟨rfl, trivial⟩⟩ ?_)
  have F_S0 : zz_fr [(1070, 3), (1070, 4), (1070, 5), (1070, 6)] [] (fun _ _ => False) S0 S0 := zz_fr.refl
  refine zz_aload_n (x := 1070) rfl zd_11_10_0 ?_
  refine zz_callVV [] zd_11_10_1 zk_Text_47 zT_1070 (zz_ltn hn rfl) rfl rfl ⟨Nat.le_of_ble_eq_true rfl, Nat.le_of_ble_eq_true rfl⟩ ⟨rfl, rfl⟩ (Nat.zero_le _) (Nat.zero_le _) (zc_nextToken_11_7  S0 n hn G_S0 ) (fun S1 hP => ?_)
  obtain ⟨G_S1, fS1⟩ := hP
  have F_S1 := zz_fr.trans F_S0 fS1 rfl zz_nv
  refine zz_aload_n (x := 1070) rfl zd_11_10_4 ?_
  refine zz_aload_n (x := 100 + p0) rfl zd_11_10_5 ?_
  refine zz_callVI [.ref (100 + p0)] zd_11_10_6 zk_Text_50 zT_1070 (zz_ltn hn rfl) rfl rfl ⟨Nat.le_of_ble_eq_true rfl, Nat.le_of_ble_eq_true rfl⟩ ⟨rfl, rfl⟩ (Nat.zero_le _) (Nat.zero_le _) (zc_isWord_11_9 p0 S1 n hn G_S1 (by omega)) (fun v4 S3 hP => ?_)
  obtain ⟨rfl, o5⟩ := hP
  rcases (by omega : v4 = 0 ∨ v4 = 1) with rfl | rfl
  · exact zz_zret zd_11_10_9 rfl (by omega) (Nat.zero_le _) (Nat.zero_le _) ⟨_, _, rfl, G_S1, F_S1, by omega⟩
  · exact zz_zret zd_11_10_9 rfl (by omega) (Nat.zero_le _) (Nat.zero_le _) ⟨_, _, rfl, G_S1, F_S1, by omega⟩
theorem zk_Assembler_75 : mm_Vl "TensorForge$Assembler" 75 6 1 zy_nextIsWord_11_10 := ⟨zyw_nextIsWord_11_10, (R_Text, F_Text, 7), rfl, mm_tb_1 672 (by decide +kernel) rfl, mm_tb_1 673 (by decide +kernel) rfl, mm_tb_1 674 (by decide +kernel) rfl⟩
abbrev zy_setOnce_2_8 : mm_Y := (⟨"TensorForge$Assembler", "setOnce", "(II)Z"⟩, prog_2_method_8_code, 3, (some .boolean))
theorem zyw_setOnce_2_8 : mm_Yw zy_setOnce_2_8 2 := ⟨mm_tb_1 669 (by decide +kernel) rfl, mm_tb_1 8 (by decide +kernel) rfl, ⟨by decide, by decide⟩, by decide +kernel⟩
theorem zg_2_7_9 : (decode zy_readNeighbour_2_7.2.1 9 = .ok ((Instr.ifCond .eq) 10, 3)) ∧ (decode zy_readNeighbour_2_7.2.1 19 = .ok ((.aload_n 0), 1)) ∧ (decode zy_readNeighbour_2_7.2.1 20 = .ok ((.getfield 9), 3)) ∧ (decode zy_readNeighbour_2_7.2.1 23 = .ok ((.ldc 109), 2)) ∧ (decode zy_readNeighbour_2_7.2.1 25 = .ok ((.invokevirtual 61), 3)) ∧ (decode zy_readNeighbour_2_7.2.1 28 = .ok ((Instr.ifCond .eq) 16, 3)) ∧ (decode zy_readNeighbour_2_7.2.1 44 = .ok ((.iconst 0), 1)) ∧ (decode zy_readNeighbour_2_7.2.1 45 = .ok ((.ireturn), 1)) ∧ (decode zy_readNeighbour_2_7.2.1 31 = .ok ((.aload_n 0), 1)) ∧ (decode zy_readNeighbour_2_7.2.1 32 = .ok ((.iload_n 2), 1)) := by decide +kernel
theorem zd_2_7_9 : zz_B zy_readNeighbour_2_7 9 (Instr.ifCond .eq) 19 12 := ⟨10, zg_2_7_9.1, rfl, rfl⟩
theorem zd_2_7_19 : zz_D zy_readNeighbour_2_7 19 (.aload_n 0) 1 20 := ⟨zg_2_7_9.2.1, rfl⟩
theorem zd_2_7_20 : zz_D zy_readNeighbour_2_7 20 (.getfield 9) 3 23 := ⟨zg_2_7_9.2.2.1, rfl⟩
theorem zd_2_7_23 : zz_D zy_readNeighbour_2_7 23 (.ldc 109) 2 25 := ⟨zg_2_7_9.2.2.2.1, rfl⟩
theorem zd_2_7_25 : zz_D zy_readNeighbour_2_7 25 (.invokevirtual 61) 3 28 := ⟨zg_2_7_9.2.2.2.2.1, rfl⟩
theorem zd_2_7_28 : zz_B zy_readNeighbour_2_7 28 (Instr.ifCond .eq) 44 31 := ⟨16, zg_2_7_9.2.2.2.2.2.1, rfl, rfl⟩
theorem zd_2_7_44 : zz_D zy_readNeighbour_2_7 44 (.iconst 0) 1 45 := ⟨zg_2_7_9.2.2.2.2.2.2.1, rfl⟩
theorem zd_2_7_45 : zz_D zy_readNeighbour_2_7 45 (.ireturn) 1 46 := ⟨zg_2_7_9.2.2.2.2.2.2.2.1, rfl⟩
theorem zd_2_7_31 : zz_D zy_readNeighbour_2_7 31 (.aload_n 0) 1 32 := ⟨zg_2_7_9.2.2.2.2.2.2.2.2.1, rfl⟩
theorem zd_2_7_32 : zz_D zy_readNeighbour_2_7 32 (.iload_n 2) 1 33 := ⟨zg_2_7_9.2.2.2.2.2.2.2.2.2, rfl⟩
theorem zg_2_7_33 : (decode zy_readNeighbour_2_7.2.1 33 = .ok ((.iconst 1), 1)) ∧ (decode zy_readNeighbour_2_7.2.1 34 = .ok ((.invokevirtual 104), 3)) := by decide +kernel
theorem zd_2_7_33 : zz_D zy_readNeighbour_2_7 33 (.iconst 1) 1 34 := ⟨zg_2_7_33.1, rfl⟩
theorem zd_2_7_34 : zz_D zy_readNeighbour_2_7 34 (.invokevirtual 104) 3 37 := ⟨zg_2_7_33.2, rfl⟩
theorem zg_2_8_0 : (decode zy_setOnce_2_8.2.1 0 = .ok ((.aload_n 0), 1)) ∧ (decode zy_setOnce_2_8.2.1 1 = .ok ((.getfield 23), 3)) ∧ (decode zy_setOnce_2_8.2.1 4 = .ok ((.iload_n 1), 1)) ∧ (decode zy_setOnce_2_8.2.1 5 = .ok ((.ishr), 1)) ∧ (decode zy_setOnce_2_8.2.1 6 = .ok ((.iconst 1), 1)) ∧ (decode zy_setOnce_2_8.2.1 7 = .ok ((.iand), 1)) ∧ (decode zy_setOnce_2_8.2.1 8 = .ok ((.iconst 1), 1)) ∧ (decode zy_setOnce_2_8.2.1 9 = .ok ((Instr.if_icmp .ne) 5, 3)) ∧ (decode zy_setOnce_2_8.2.1 14 = .ok ((.aload_n 0), 1)) ∧ (decode zy_setOnce_2_8.2.1 15 = .ok ((.dup), 1)) := by decide +kernel
theorem zd_2_8_0 : zz_D zy_setOnce_2_8 0 (.aload_n 0) 1 1 := ⟨zg_2_8_0.1, rfl⟩
theorem zd_2_8_1 : zz_D zy_setOnce_2_8 1 (.getfield 23) 3 4 := ⟨zg_2_8_0.2.1, rfl⟩
theorem zd_2_8_4 : zz_D zy_setOnce_2_8 4 (.iload_n 1) 1 5 := ⟨zg_2_8_0.2.2.1, rfl⟩
theorem zd_2_8_5 : zz_D zy_setOnce_2_8 5 (.ishr) 1 6 := ⟨zg_2_8_0.2.2.2.1, rfl⟩
theorem zd_2_8_6 : zz_D zy_setOnce_2_8 6 (.iconst 1) 1 7 := ⟨zg_2_8_0.2.2.2.2.1, rfl⟩
theorem zd_2_8_7 : zz_D zy_setOnce_2_8 7 (.iand) 1 8 := ⟨zg_2_8_0.2.2.2.2.2.1, rfl⟩
theorem zd_2_8_8 : zz_D zy_setOnce_2_8 8 (.iconst 1) 1 9 := ⟨zg_2_8_0.2.2.2.2.2.2.1, rfl⟩
theorem zd_2_8_9 : zz_B zy_setOnce_2_8 9 (Instr.if_icmp .ne) 14 12 := ⟨5, zg_2_8_0.2.2.2.2.2.2.2.1, rfl, rfl⟩
theorem zd_2_8_14 : zz_D zy_setOnce_2_8 14 (.aload_n 0) 1 15 := ⟨zg_2_8_0.2.2.2.2.2.2.2.2.1, rfl⟩
theorem zd_2_8_15 : zz_D zy_setOnce_2_8 15 (.dup) 1 16 := ⟨zg_2_8_0.2.2.2.2.2.2.2.2.2, rfl⟩
theorem zg_2_8_16 : (decode zy_setOnce_2_8.2.1 16 = .ok ((.getfield 23), 3)) ∧ (decode zy_setOnce_2_8.2.1 19 = .ok ((.iconst 1), 1)) ∧ (decode zy_setOnce_2_8.2.1 20 = .ok ((.iload_n 1), 1)) ∧ (decode zy_setOnce_2_8.2.1 21 = .ok ((.ishl), 1)) ∧ (decode zy_setOnce_2_8.2.1 22 = .ok ((.ior), 1)) ∧ (decode zy_setOnce_2_8.2.1 23 = .ok ((.putfield 23), 3)) ∧ (decode zy_setOnce_2_8.2.1 26 = .ok ((.aload_n 0), 1)) ∧ (decode zy_setOnce_2_8.2.1 27 = .ok ((.dup), 1)) ∧ (decode zy_setOnce_2_8.2.1 28 = .ok ((.getfield 19), 3)) ∧ (decode zy_setOnce_2_8.2.1 31 = .ok ((.iload_n 1), 1)) := by decide +kernel
theorem zd_2_8_16 : zz_D zy_setOnce_2_8 16 (.getfield 23) 3 19 := ⟨zg_2_8_16.1, rfl⟩
theorem zd_2_8_19 : zz_D zy_setOnce_2_8 19 (.iconst 1) 1 20 := ⟨zg_2_8_16.2.1, rfl⟩
theorem zd_2_8_20 : zz_D zy_setOnce_2_8 20 (.iload_n 1) 1 21 := ⟨zg_2_8_16.2.2.1, rfl⟩
theorem zd_2_8_21 : zz_D zy_setOnce_2_8 21 (.ishl) 1 22 := ⟨zg_2_8_16.2.2.2.1, rfl⟩
theorem zd_2_8_22 : zz_D zy_setOnce_2_8 22 (.ior) 1 23 := ⟨zg_2_8_16.2.2.2.2.1, rfl⟩
theorem zd_2_8_23 : zz_D zy_setOnce_2_8 23 (.putfield 23) 3 26 := ⟨zg_2_8_16.2.2.2.2.2.1, rfl⟩
theorem zd_2_8_26 : zz_D zy_setOnce_2_8 26 (.aload_n 0) 1 27 := ⟨zg_2_8_16.2.2.2.2.2.2.1, rfl⟩
theorem zd_2_8_27 : zz_D zy_setOnce_2_8 27 (.dup) 1 28 := ⟨zg_2_8_16.2.2.2.2.2.2.2.1, rfl⟩
theorem zd_2_8_28 : zz_D zy_setOnce_2_8 28 (.getfield 19) 3 31 := ⟨zg_2_8_16.2.2.2.2.2.2.2.2.1, rfl⟩
theorem zd_2_8_31 : zz_D zy_setOnce_2_8 31 (.iload_n 1) 1 32 := ⟨zg_2_8_16.2.2.2.2.2.2.2.2.2, rfl⟩
theorem zg_2_8_32 : (decode zy_setOnce_2_8.2.1 32 = .ok ((.iload_n 2), 1)) ∧ (decode zy_setOnce_2_8.2.1 33 = .ok ((.invokestatic 50), 3)) ∧ (decode zy_setOnce_2_8.2.1 36 = .ok ((.lor), 1)) ∧ (decode zy_setOnce_2_8.2.1 37 = .ok ((.putfield 19), 3)) ∧ (decode zy_setOnce_2_8.2.1 40 = .ok ((.iconst 1), 1)) ∧ (decode zy_setOnce_2_8.2.1 41 = .ok ((.ireturn), 1)) ∧ (decode zy_setOnce_2_8.2.1 12 = .ok ((.iconst 0), 1)) ∧ (decode zy_setOnce_2_8.2.1 13 = .ok ((.ireturn), 1)) := by decide +kernel
theorem zd_2_8_32 : zz_D zy_setOnce_2_8 32 (.iload_n 2) 1 33 := ⟨zg_2_8_32.1, rfl⟩
theorem zd_2_8_33 : zz_D zy_setOnce_2_8 33 (.invokestatic 50) 3 36 := ⟨zg_2_8_32.2.1, rfl⟩
theorem zd_2_8_36 : zz_D zy_setOnce_2_8 36 (.lor) 1 37 := ⟨zg_2_8_32.2.2.1, rfl⟩
theorem zd_2_8_37 : zz_D zy_setOnce_2_8 37 (.putfield 19) 3 40 := ⟨zg_2_8_32.2.2.2.1, rfl⟩
theorem zd_2_8_40 : zz_D zy_setOnce_2_8 40 (.iconst 1) 1 41 := ⟨zg_2_8_32.2.2.2.2.1, rfl⟩
theorem zd_2_8_41 : zz_D zy_setOnce_2_8 41 (.ireturn) 1 42 := ⟨zg_2_8_32.2.2.2.2.2.1, rfl⟩
theorem zd_2_8_12 : zz_D zy_setOnce_2_8 12 (.iconst 0) 1 13 := ⟨zg_2_8_32.2.2.2.2.2.2.1, rfl⟩
theorem zd_2_8_13 : zz_D zy_setOnce_2_8 13 (.ireturn) 1 14 := ⟨zg_2_8_32.2.2.2.2.2.2.2, rfl⟩
-- TensorForge$Assembler setOnce (II)Z
abbrev zr_setOnce_2_8 : Room := { frames := 1, cells := 0, slots := 0, locals := 16 }
def zp_setOnce_2_8 (p0 : Int) (p1 : Int) (S0 : zz_S) : Int → zz_S → Prop := fun r S => zz_G S ∧ zz_fr [(1072, 2), (1072, 3)] [] (fun _ _ => False) S0 S ∧ (0 ≤ r ∧ r ≤ 1)
theorem zc_setOnce_2_8 {g : mm_G} {l : Launch} (p0 : Int) (p1 : Int) (S0 : zz_S) (n : Nat) (hn : zz_end ≤ n) (G_S0 : zz_G S0) (hp0 : (-2147483648) ≤ p0 ∧ p0 ≤ 2147483647) (hp1 : (-2147483648) ≤ p1 ∧ p1 ≤ 2147483647) : mm_Met g l zy_setOnce_2_8 zr_setOnce_2_8 [.ref 1072, zi p0, zi p1] (zz_M S0 n) n (zz_QI n (zp_setOnce_2_8 p0 p1 S0)) := by
  refine zz_enter (by decide) (Nat.le_of_ble_eq_true rfl) (zz_less (ls1 := [some (.ref 1072), some (zi p0), some (zi p1)]) ⟨rfl, ⟨rfl, ⟨rfl, trivial⟩⟩⟩ ?_)
  have F_S0 : zz_fr [(1072, 2), (1072, 3)] [] (fun _ _ => False) S0 S0 := zz_fr.refl
  refine zz_aload_n (x := 1072) rfl zd_2_8_0 ?_
  have g1 := zz_G.r G_S0 1072 3 (-2147483648) 2147483647 rfl rfl
  refine zz_geti (z := S0 1072 3) zd_2_8_1 zf_Assembler_23 zT_1072 rfl (zz_ltn hn rfl) rfl ?_
  refine zz_iload_n (x := p0) rfl zd_2_8_4 ?_
  refine zz_ishr zd_2_8_5 (fun v2 hv2 ev2 => ?_)
  refine zz_iconst zd_2_8_6 ?_
  refine zz_iand (by omega) (by omega) zd_2_8_7 (fun v3 hv3 av3 bv3 ev3 => ?_)
  refine zz_iconst zd_2_8_8 ?_
  refine zz_icmp_ne (by omega) (by omega) zd_2_8_9 (fun c4 => ?_) (fun c4 => ?_)
  · refine zz_aload_n (x := 1072) rfl zd_2_8_14 ?_
    refine zz_dup rfl zd_2_8_15 ?_
    refine zz_geti (z := S0 1072 3) zd_2_8_16 zf_Assembler_23 zT_1072 rfl (zz_ltn hn rfl) rfl ?_
    refine zz_iconst zd_2_8_19 ?_
    refine zz_iload_n (x := p0) rfl zd_2_8_20 ?_
    refine zz_ishl zd_2_8_21 (fun v5 hv5 ev5 => ?_)
    refine zz_ior (by omega) (by omega) zd_2_8_22 (fun v6 hv6 av6 ev6 => ?_)
    refine zz_puti zd_2_8_23 zf_Assembler_23 zT_1072 rfl (zz_ltn hn rfl) (fun S7 qS7 => ?_)
    have G_S7 := zz_G.put G_S0 qS7 (-2147483648) 2147483647 rfl (by omega)
    have F_S7 := zz_fr.puts F_S0 qS7 rfl
    refine zz_aload_n (x := 1072) rfl zd_2_8_26 ?_
    refine zz_dup rfl zd_2_8_27 ?_
    have g8 := zz_G.r G_S0 1072 2 (-9223372036854775808) 9223372036854775807 rfl rfl
    refine zz_getl (z := S0 1072 2) zd_2_8_28 zf_Assembler_19 zT_1072 rfl (zz_ltn hn rfl) (zz_ro qS7 (fun h => absurd h.2 (by decide)) rfl) ?_
    refine zz_iload_n (x := p0) rfl zd_2_8_31 ?_
    refine zz_iload_n (x := p1) rfl zd_2_8_32 ?_
    refine zz_callSJ [zi p0, zi p1] zd_2_8_33 zk_Assembler_50 rfl rfl ⟨Nat.le_of_ble_eq_true rfl, Nat.le_of_ble_eq_true rfl⟩ ⟨rfl, rfl⟩ (Nat.zero_le _) (Nat.zero_le _) (zc_bits_12_4 p0 p1 S7 n hn G_S7 (by omega) (by omega)) (fun v10 S9 hP => ?_)
    obtain ⟨rfl, o11⟩ := hP
    refine zz_lor zd_2_8_36 (fun v12 hv12 ev12 => ?_)
    refine zz_putl zd_2_8_37 zf_Assembler_19 zT_1072 rfl (zz_ltn hn rfl) (fun S13 qS13 => ?_)
    have G_S13 := zz_G.put G_S7 qS13 (-9223372036854775808) 9223372036854775807 rfl (by omega)
    have F_S13 := zz_fr.puts F_S7 qS13 rfl
    refine zz_iconst zd_2_8_40 ?_
    exact zz_zret zd_2_8_41 rfl (by omega) (Nat.zero_le _) (Nat.zero_le _) ⟨_, _, rfl, G_S13, F_S13, by omega⟩
  · refine zz_iconst zd_2_8_12 ?_
    exact zz_zret zd_2_8_13 rfl (by omega) (Nat.zero_le _) (Nat.zero_le _) ⟨_, _, rfl, G_S0, F_S0, by omega⟩
theorem zk_Assembler_104 : mm_Vl "TensorForge$Assembler" 104 7 2 zy_setOnce_2_8 := ⟨zyw_setOnce_2_8, (R_Assembler, F_Assembler, 4), rfl, mm_tb_1 666 (by decide +kernel) rfl, mm_tb_1 668 (by decide +kernel) rfl, mm_tb_s 11 (by decide +kernel) rfl⟩
theorem zg_2_7_37 : (decode zy_readNeighbour_2_7.2.1 37 = .ok ((Instr.ifCond .eq) 7, 3)) ∧ (decode zy_readNeighbour_2_7.2.1 40 = .ok ((.iconst 1), 1)) ∧ (decode zy_readNeighbour_2_7.2.1 41 = .ok (Instr.goto 4, 3)) ∧ (decode zy_readNeighbour_2_7.2.1 12 = .ok ((.aload_n 0), 1)) ∧ (decode zy_readNeighbour_2_7.2.1 13 = .ok ((.iload_n 1), 1)) ∧ (decode zy_readNeighbour_2_7.2.1 14 = .ok ((.iconst 1), 1)) ∧ (decode zy_readNeighbour_2_7.2.1 15 = .ok ((.invokevirtual 104), 3)) ∧ (decode zy_readNeighbour_2_7.2.1 18 = .ok ((.ireturn), 1)) := by decide +kernel
theorem zd_2_7_37 : zz_B zy_readNeighbour_2_7 37 (Instr.ifCond .eq) 44 40 := ⟨7, zg_2_7_37.1, rfl, rfl⟩
theorem zd_2_7_40 : zz_D zy_readNeighbour_2_7 40 (.iconst 1) 1 41 := ⟨zg_2_7_37.2.1, rfl⟩
theorem zd_2_7_41 : zz_B zy_readNeighbour_2_7 41 Instr.goto 45 44 := ⟨4, zg_2_7_37.2.2.1, rfl, rfl⟩
theorem zd_2_7_12 : zz_D zy_readNeighbour_2_7 12 (.aload_n 0) 1 13 := ⟨zg_2_7_37.2.2.2.1, rfl⟩
theorem zd_2_7_13 : zz_D zy_readNeighbour_2_7 13 (.iload_n 1) 1 14 := ⟨zg_2_7_37.2.2.2.2.1, rfl⟩
theorem zd_2_7_14 : zz_D zy_readNeighbour_2_7 14 (.iconst 1) 1 15 := ⟨zg_2_7_37.2.2.2.2.2.1, rfl⟩
theorem zd_2_7_15 : zz_D zy_readNeighbour_2_7 15 (.invokevirtual 104) 3 18 := ⟨zg_2_7_37.2.2.2.2.2.2.1, rfl⟩
theorem zd_2_7_18 : zz_D zy_readNeighbour_2_7 18 (.ireturn) 1 19 := ⟨zg_2_7_37.2.2.2.2.2.2.2, rfl⟩
-- TensorForge$Assembler readNeighbour (II)Z
abbrev zr_readNeighbour_2_7 : Room := { frames := 6, cells := 0, slots := 0, locals := 81 }
def zp_readNeighbour_2_7 (p0 : Int) (p1 : Int) (S0 : zz_S) : Int → zz_S → Prop := fun r S => zz_G S ∧ zz_fr [(1070, 3), (1070, 4), (1070, 5), (1070, 6), (1072, 2), (1072, 3)] [] (fun _ _ => False) S0 S ∧ (0 ≤ r ∧ r ≤ 1)
theorem zc_readNeighbour_2_7 {g : mm_G} {l : Launch} (p0 : Int) (p1 : Int) (S0 : zz_S) (n : Nat) (hn : zz_end ≤ n) (G_S0 : zz_G S0) (hp0 : (-2147483648) ≤ p0 ∧ p0 ≤ 2147483647) (hp1 : (-2147483648) ≤ p1 ∧ p1 ≤ 2147483647) : mm_Met g l zy_readNeighbour_2_7 zr_readNeighbour_2_7 [.ref 1072, zi p0, zi p1] (zz_M S0 n) n (zz_QI n (zp_readNeighbour_2_7 p0 p1 S0)) := by
  refine zz_enter (by decide) (Nat.le_of_ble_eq_true rfl) (zz_less (ls1 := [some (.ref 1072), some (zi p0), some (zi p1)]) ⟨rfl, ⟨rfl, ⟨rfl, trivial⟩⟩⟩ ?_)
  have F_S0 : zz_fr [(1070, 3), (1070, 4), (1070, 5), (1070, 6), (1072, 2), (1072, 3)] [] (fun _ _ => False) S0 S0 := zz_fr.refl
  refine zz_aload_n (x := 1072) rfl zd_2_7_0 ?_
  refine zz_getr (kd := 0) (z := 1070) zd_2_7_1 zf_Assembler_9 zT_1072 rfl (zz_ltn hn rfl) (zz_G.eq G_S0 1072 0 1070 rfl rfl) (by decide) 1070 rfl ?_
  refine zz_ldcs (t := 18) (by decide +kernel) (by decide) zd_2_7_4 ?_
  refine zz_callVI [.ref (100 + 18)] zd_2_7_6 zk_Assembler_75 zT_1070 (zz_ltn hn rfl) rfl rfl ⟨Nat.le_of_ble_eq_true rfl, Nat.le_of_ble_eq_true rfl⟩ ⟨rfl, rfl⟩ (Nat.zero_le _) (Nat.zero_le _) (zc_nextIsWord_11_10 18 S0 n hn G_S0 (by omega)) (fun v2 S1 hP => ?_)
  obtain ⟨G_S1, fS1, o3⟩ := hP
  have F_S1 := zz_fr.trans F_S0 fS1 rfl zz_nv
  rcases (by omega : v2 = 0 ∨ v2 = 1) with rfl | rfl
  · refine zz_if_eq (by omega) zd_2_7_9 (fun c4 => ?_) (fun c4 => ?_)
    · refine zz_aload_n (x := 1072) rfl zd_2_7_19 ?_
      refine zz_getr (kd := 0) (z := 1070) zd_2_7_20 zf_Assembler_9 zT_1072 rfl (zz_ltn hn rfl) (zz_G.eq G_S1 1072 0 1070 rfl rfl) (by decide) 1070 rfl ?_
      refine zz_ldcs (t := 19) (by decide +kernel) (by decide) zd_2_7_23 ?_
      refine zz_callVI [.ref (100 + 19)] zd_2_7_25 zk_Assembler_61 zT_1070 (zz_ltn hn rfl) rfl rfl ⟨Nat.le_of_ble_eq_true rfl, Nat.le_of_ble_eq_true rfl⟩ ⟨rfl, rfl⟩ (Nat.zero_le _) (Nat.zero_le _) (zc_isWord_11_9 19 S1 n hn G_S1 (by omega)) (fun v6 S5 hP => ?_)
      obtain ⟨rfl, o7⟩ := hP
      rcases (by omega : v6 = 0 ∨ v6 = 1) with rfl | rfl
      · refine zz_if_eq (by omega) zd_2_7_28 (fun c8 => ?_) (fun c8 => ?_)
        · refine zz_iconst zd_2_7_44 ?_
          exact zz_zret zd_2_7_45 rfl (by omega) (Nat.zero_le _) (Nat.zero_le _) ⟨_, _, rfl, G_S1, F_S1, by omega⟩
        · exfalso; omega
      · refine zz_if_eq (by omega) zd_2_7_28 (fun c9 => ?_) (fun c9 => ?_)
        · exfalso; omega
        · refine zz_aload_n (x := 1072) rfl zd_2_7_31 ?_
          refine zz_iload_n (x := p1) rfl zd_2_7_32 ?_
          refine zz_iconst zd_2_7_33 ?_
          refine zz_callVI [zi p1, zi 1] zd_2_7_34 zk_Assembler_104 zT_1072 (zz_ltn hn rfl) rfl rfl ⟨Nat.le_of_ble_eq_true rfl, Nat.le_of_ble_eq_true rfl⟩ ⟨rfl, rfl⟩ (Nat.zero_le _) (Nat.zero_le _) (zc_setOnce_2_8 p1 1 S1 n hn G_S1 (by omega) (by omega)) (fun v11 S10 hP => ?_)
          obtain ⟨G_S10, fS10, o12⟩ := hP
          have F_S10 := zz_fr.trans F_S1 fS10 rfl zz_nv
          rcases (by omega : v11 = 0 ∨ v11 = 1) with rfl | rfl
          · refine zz_if_eq (by omega) zd_2_7_37 (fun c13 => ?_) (fun c13 => ?_)
            · refine zz_iconst zd_2_7_44 ?_
              exact zz_zret zd_2_7_45 rfl (by omega) (Nat.zero_le _) (Nat.zero_le _) ⟨_, _, rfl, G_S10, F_S10, by omega⟩
            · exfalso; omega
          · refine zz_if_eq (by omega) zd_2_7_37 (fun c14 => ?_) (fun c14 => ?_)
            · exfalso; omega
            · refine zz_iconst zd_2_7_40 ?_
              refine zz_goto zd_2_7_41 ?_
              exact zz_zret zd_2_7_45 rfl (by omega) (Nat.zero_le _) (Nat.zero_le _) ⟨_, _, rfl, G_S10, F_S10, by omega⟩
    · exfalso; omega
  · refine zz_if_eq (by omega) zd_2_7_9 (fun c15 => ?_) (fun c15 => ?_)
    · exfalso; omega
    · refine zz_aload_n (x := 1072) rfl zd_2_7_12 ?_
      refine zz_iload_n (x := p0) rfl zd_2_7_13 ?_
      refine zz_iconst zd_2_7_14 ?_
      refine zz_callVI [zi p0, zi 1] zd_2_7_15 zk_Assembler_104 zT_1072 (zz_ltn hn rfl) rfl rfl ⟨Nat.le_of_ble_eq_true rfl, Nat.le_of_ble_eq_true rfl⟩ ⟨rfl, rfl⟩ (Nat.zero_le _) (Nat.zero_le _) (zc_setOnce_2_8 p0 1 S1 n hn G_S1 (by omega) (by omega)) (fun v17 S16 hP => ?_)
      obtain ⟨G_S16, fS16, o18⟩ := hP
      have F_S16 := zz_fr.trans F_S1 fS16 rfl zz_nv
      rcases (by omega : v17 = 0 ∨ v17 = 1) with rfl | rfl
      · exact zz_zret zd_2_7_18 rfl (by omega) (Nat.zero_le _) (Nat.zero_le _) ⟨_, _, rfl, G_S16, F_S16, by omega⟩
      · exact zz_zret zd_2_7_18 rfl (by omega) (Nat.zero_le _) (Nat.zero_le _) ⟨_, _, rfl, G_S16, F_S16, by omega⟩
theorem zk_Assembler_88 : mm_Vl "TensorForge$Assembler" 88 7 2 zy_readNeighbour_2_7 := ⟨zyw_readNeighbour_2_7, (R_Assembler, F_Assembler, 4), rfl, mm_tb_1 682 (by decide +kernel) rfl, mm_tb_1 684 (by decide +kernel) rfl, mm_tb_s 12 (by decide +kernel) rfl⟩
abbrev zy_readNumber_2_6 : mm_Y := (⟨"TensorForge$Assembler", "readNumber", "(I)Z"⟩, prog_2_method_6_code, 2, (some .boolean))
theorem zyw_readNumber_2_6 : mm_Yw zy_readNumber_2_6 1 := ⟨mm_tb_1 657 (by decide +kernel) rfl, mm_tb_1 8 (by decide +kernel) rfl, ⟨by decide, by decide⟩, by decide +kernel⟩
abbrev zy_nextIsNumber_11_11 : mm_Y := (⟨"TensorForge$Text", "nextIsNumber", "()Z"⟩, prog_11_method_11_code, 1, (some .boolean))
theorem zyw_nextIsNumber_11_11 : mm_Yw zy_nextIsNumber_11_11 0 := ⟨mm_tb_1 661 (by decide +kernel) rfl, mm_tb_1 7 (by decide +kernel) rfl, ⟨by decide, by decide⟩, by decide +kernel⟩
theorem zg_2_5_179 : (decode zy_readPart_2_5.2.1 179 = .ok ((Instr.ifCond .eq) 7, 3)) ∧ (decode zy_readPart_2_5.2.1 182 = .ok ((.iconst 1), 1)) ∧ (decode zy_readPart_2_5.2.1 183 = .ok (Instr.goto 4, 3)) ∧ (decode zy_readPart_2_5.2.1 154 = .ok ((.aload_n 0), 1)) ∧ (decode zy_readPart_2_5.2.1 155 = .ok ((.iconst 1), 1)) ∧ (decode zy_readPart_2_5.2.1 156 = .ok ((.iconst 2), 1)) ∧ (decode zy_readPart_2_5.2.1 157 = .ok ((.invokevirtual 88), 3)) ∧ (decode zy_readPart_2_5.2.1 160 = .ok ((.ireturn), 1)) ∧ (decode zy_readPart_2_5.2.1 135 = .ok ((.aload_n 0), 1)) ∧ (decode zy_readPart_2_5.2.1 136 = .ok ((.bipush 11), 2)) := by decide +kernel
theorem zd_2_5_179 : zz_B zy_readPart_2_5 179 (Instr.ifCond .eq) 186 182 := ⟨7, zg_2_5_179.1, rfl, rfl⟩
theorem zd_2_5_182 : zz_D zy_readPart_2_5 182 (.iconst 1) 1 183 := ⟨zg_2_5_179.2.1, rfl⟩
theorem zd_2_5_183 : zz_B zy_readPart_2_5 183 Instr.goto 187 186 := ⟨4, zg_2_5_179.2.2.1, rfl, rfl⟩
theorem zd_2_5_154 : zz_D zy_readPart_2_5 154 (.aload_n 0) 1 155 := ⟨zg_2_5_179.2.2.2.1, rfl⟩
theorem zd_2_5_155 : zz_D zy_readPart_2_5 155 (.iconst 1) 1 156 := ⟨zg_2_5_179.2.2.2.2.1, rfl⟩
theorem zd_2_5_156 : zz_D zy_readPart_2_5 156 (.iconst 2) 1 157 := ⟨zg_2_5_179.2.2.2.2.2.1, rfl⟩
theorem zd_2_5_157 : zz_D zy_readPart_2_5 157 (.invokevirtual 88) 3 160 := ⟨zg_2_5_179.2.2.2.2.2.2.1, rfl⟩
theorem zd_2_5_160 : zz_D zy_readPart_2_5 160 (.ireturn) 1 161 := ⟨zg_2_5_179.2.2.2.2.2.2.2.1, rfl⟩
theorem zd_2_5_135 : zz_D zy_readPart_2_5 135 (.aload_n 0) 1 136 := ⟨zg_2_5_179.2.2.2.2.2.2.2.2.1, rfl⟩
theorem zd_2_5_136 : zz_D zy_readPart_2_5 136 (.bipush 11) 2 138 := ⟨zg_2_5_179.2.2.2.2.2.2.2.2.2, rfl⟩
theorem zd_2_5_138 : zz_D zy_readPart_2_5 138 (.invokevirtual 67) 3 141 := ⟨by decide +kernel, rfl⟩
theorem zg_2_6_0 : (decode zy_readNumber_2_6.2.1 0 = .ok ((.aload_n 0), 1)) ∧ (decode zy_readNumber_2_6.2.1 1 = .ok ((.getfield 9), 3)) ∧ (decode zy_readNumber_2_6.2.1 4 = .ok ((.invokevirtual 94), 3)) := by decide +kernel
theorem zd_2_6_0 : zz_D zy_readNumber_2_6 0 (.aload_n 0) 1 1 := ⟨zg_2_6_0.1, rfl⟩
theorem zd_2_6_1 : zz_D zy_readNumber_2_6 1 (.getfield 9) 3 4 := ⟨zg_2_6_0.2.1, rfl⟩
theorem zd_2_6_4 : zz_D zy_readNumber_2_6 4 (.invokevirtual 94) 3 7 := ⟨zg_2_6_0.2.2, rfl⟩
theorem zg_11_11_0 : (decode zy_nextIsNumber_11_11.2.1 0 = .ok ((.aload_n 0), 1)) ∧ (decode zy_nextIsNumber_11_11.2.1 1 = .ok ((.invokevirtual 47), 3)) ∧ (decode zy_nextIsNumber_11_11.2.1 4 = .ok ((.aload_n 0), 1)) ∧ (decode zy_nextIsNumber_11_11.2.1 5 = .ok ((.getfield 28), 3)) ∧ (decode zy_nextIsNumber_11_11.2.1 8 = .ok ((.iconst 2), 1)) ∧ (decode zy_nextIsNumber_11_11.2.1 9 = .ok ((Instr.if_icmp .ne) 7, 3)) ∧ (decode zy_nextIsNumber_11_11.2.1 16 = .ok ((.iconst 0), 1)) ∧ (decode zy_nextIsNumber_11_11.2.1 17 = .ok ((.ireturn), 1)) ∧ (decode zy_nextIsNumber_11_11.2.1 12 = .ok ((.iconst 1), 1)) ∧ (decode zy_nextIsNumber_11_11.2.1 13 = .ok (Instr.goto 4, 3)) := by decide +kernel
theorem zd_11_11_0 : zz_D zy_nextIsNumber_11_11 0 (.aload_n 0) 1 1 := ⟨zg_11_11_0.1, rfl⟩
theorem zd_11_11_1 : zz_D zy_nextIsNumber_11_11 1 (.invokevirtual 47) 3 4 := ⟨zg_11_11_0.2.1, rfl⟩
theorem zd_11_11_4 : zz_D zy_nextIsNumber_11_11 4 (.aload_n 0) 1 5 := ⟨zg_11_11_0.2.2.1, rfl⟩
theorem zd_11_11_5 : zz_D zy_nextIsNumber_11_11 5 (.getfield 28) 3 8 := ⟨zg_11_11_0.2.2.2.1, rfl⟩
theorem zd_11_11_8 : zz_D zy_nextIsNumber_11_11 8 (.iconst 2) 1 9 := ⟨zg_11_11_0.2.2.2.2.1, rfl⟩
theorem zd_11_11_9 : zz_B zy_nextIsNumber_11_11 9 (Instr.if_icmp .ne) 16 12 := ⟨7, zg_11_11_0.2.2.2.2.2.1, rfl, rfl⟩
theorem zd_11_11_16 : zz_D zy_nextIsNumber_11_11 16 (.iconst 0) 1 17 := ⟨zg_11_11_0.2.2.2.2.2.2.1, rfl⟩
theorem zd_11_11_17 : zz_D zy_nextIsNumber_11_11 17 (.ireturn) 1 18 := ⟨zg_11_11_0.2.2.2.2.2.2.2.1, rfl⟩
theorem zd_11_11_12 : zz_D zy_nextIsNumber_11_11 12 (.iconst 1) 1 13 := ⟨zg_11_11_0.2.2.2.2.2.2.2.2.1, rfl⟩
theorem zd_11_11_13 : zz_B zy_nextIsNumber_11_11 13 Instr.goto 17 16 := ⟨4, zg_11_11_0.2.2.2.2.2.2.2.2.2, rfl, rfl⟩
-- TensorForge$Text nextIsNumber ()Z
abbrev zr_nextIsNumber_11_11 : Room := { frames := 1, cells := 0, slots := 0, locals := 12 }
def zp_nextIsNumber_11_11  (S0 : zz_S) : Int → zz_S → Prop := fun r S => zz_G S ∧ zz_fr [(1070, 3), (1070, 4), (1070, 5), (1070, 6)] [] (fun _ _ => False) S0 S ∧ (0 ≤ r ∧ r ≤ 1)
theorem zc_nextIsNumber_11_11 {g : mm_G} {l : Launch}  (S0 : zz_S) (n : Nat) (hn : zz_end ≤ n) (G_S0 : zz_G S0)  : mm_Met g l zy_nextIsNumber_11_11 zr_nextIsNumber_11_11 [.ref 1070] (zz_M S0 n) n (zz_QI n (zp_nextIsNumber_11_11  S0)) := by
  refine zz_enter (by decide) (Nat.le_of_ble_eq_true rfl) (zz_less (ls1 := [some (.ref 1070)]) ⟨rfl, trivial⟩ ?_)
  have F_S0 : zz_fr [(1070, 3), (1070, 4), (1070, 5), (1070, 6)] [] (fun _ _ => False) S0 S0 := zz_fr.refl
  refine zz_aload_n (x := 1070) rfl zd_11_11_0 ?_
  refine zz_callVV [] zd_11_11_1 zk_Text_47 zT_1070 (zz_ltn hn rfl) rfl rfl ⟨Nat.le_of_ble_eq_true rfl, Nat.le_of_ble_eq_true rfl⟩ ⟨rfl, rfl⟩ (Nat.zero_le _) (Nat.zero_le _) (zc_nextToken_11_7  S0 n hn G_S0 ) (fun S1 hP => ?_)
  obtain ⟨G_S1, fS1⟩ := hP
  have F_S1 := zz_fr.trans F_S0 fS1 rfl zz_nv
  refine zz_aload_n (x := 1070) rfl zd_11_11_4 ?_
  have g3 := zz_G.r G_S1 1070 4 (-2147483648) 2147483647 rfl rfl
  refine zz_geti (z := S1 1070 4) zd_11_11_5 zf_Text_28 zT_1070 rfl (zz_ltn hn rfl) rfl ?_
  refine zz_iconst zd_11_11_8 ?_
  refine zz_icmp_ne (by omega) (by omega) zd_11_11_9 (fun c4 => ?_) (fun c4 => ?_)
  · refine zz_iconst zd_11_11_16 ?_
    exact zz_zret zd_11_11_17 rfl (by omega) (Nat.zero_le _) (Nat.zero_le _) ⟨_, _, rfl, G_S1, F_S1, by omega⟩
  · refine zz_iconst zd_11_11_12 ?_
    refine zz_goto zd_11_11_13 ?_
    exact zz_zret zd_11_11_17 rfl (by omega) (Nat.zero_le _) (Nat.zero_le _) ⟨_, _, rfl, G_S1, F_S1, by omega⟩
theorem zk_Assembler_94 : mm_Vl "TensorForge$Assembler" 94 6 0 zy_nextIsNumber_11_11 := ⟨zyw_nextIsNumber_11_11, (R_Text, F_Text, 7), rfl, mm_tb_1 658 (by decide +kernel) rfl, mm_tb_1 659 (by decide +kernel) rfl, mm_tb_1 660 (by decide +kernel) rfl⟩
theorem zf_Assembler_97 : mm_Fl "TensorForge$Assembler" 97 6 6 .int false := ⟨R_Text, F_Text, 7, t_Text, rfl, i_Text, by decide, mm_tb_1 297 (by decide +kernel) rfl, rfl, t_Text_ok, n_Text, rfl, by decide +kernel⟩
abbrev zy_most_12_7 : mm_Y := (⟨"TensorForge$Words", "most", "(I)I"⟩, prog_12_method_7_code, 1, (some .int))
theorem zyw_most_12_7 : mm_Yw zy_most_12_7 1 := ⟨mm_tb_1 665 (by decide +kernel) rfl, mm_tb_1 20 (by decide +kernel) rfl, ⟨by decide, by decide⟩, by decide +kernel⟩
theorem zg_2_6_7 : (decode zy_readNumber_2_6.2.1 7 = .ok ((Instr.ifCond .eq) 36, 3)) ∧ (decode zy_readNumber_2_6.2.1 43 = .ok ((.iconst 0), 1)) ∧ (decode zy_readNumber_2_6.2.1 44 = .ok ((.ireturn), 1)) ∧ (decode zy_readNumber_2_6.2.1 10 = .ok ((.aload_n 0), 1)) ∧ (decode zy_readNumber_2_6.2.1 11 = .ok ((.getfield 9), 3)) ∧ (decode zy_readNumber_2_6.2.1 14 = .ok ((.getfield 97), 3)) ∧ (decode zy_readNumber_2_6.2.1 17 = .ok ((.iload_n 1), 1)) ∧ (decode zy_readNumber_2_6.2.1 18 = .ok ((.invokestatic 100), 3)) := by decide +kernel
theorem zd_2_6_7 : zz_B zy_readNumber_2_6 7 (Instr.ifCond .eq) 43 10 := ⟨36, zg_2_6_7.1, rfl, rfl⟩
theorem zd_2_6_43 : zz_D zy_readNumber_2_6 43 (.iconst 0) 1 44 := ⟨zg_2_6_7.2.1, rfl⟩
theorem zd_2_6_44 : zz_D zy_readNumber_2_6 44 (.ireturn) 1 45 := ⟨zg_2_6_7.2.2.1, rfl⟩
theorem zd_2_6_10 : zz_D zy_readNumber_2_6 10 (.aload_n 0) 1 11 := ⟨zg_2_6_7.2.2.2.1, rfl⟩
theorem zd_2_6_11 : zz_D zy_readNumber_2_6 11 (.getfield 9) 3 14 := ⟨zg_2_6_7.2.2.2.2.1, rfl⟩
theorem zd_2_6_14 : zz_D zy_readNumber_2_6 14 (.getfield 97) 3 17 := ⟨zg_2_6_7.2.2.2.2.2.1, rfl⟩
theorem zd_2_6_17 : zz_D zy_readNumber_2_6 17 (.iload_n 1) 1 18 := ⟨zg_2_6_7.2.2.2.2.2.2.1, rfl⟩
theorem zd_2_6_18 : zz_D zy_readNumber_2_6 18 (.invokestatic 100) 3 21 := ⟨zg_2_6_7.2.2.2.2.2.2.2, rfl⟩
theorem zg_12_7_0 : (decode zy_most_12_7.2.1 0 = .ok ((.iload_n 0), 1)) ∧ (decode zy_most_12_7.2.1 1 = .ok ((Instr.ifCond .lt) 9, 3)) ∧ (decode zy_most_12_7.2.1 10 = .ok ((.iconst 0), 1)) ∧ (decode zy_most_12_7.2.1 11 = .ok (Instr.goto 8, 3)) ∧ (decode zy_most_12_7.2.1 19 = .ok ((.ireturn), 1)) ∧ (decode zy_most_12_7.2.1 4 = .ok ((.iload_n 0), 1)) ∧ (decode zy_most_12_7.2.1 5 = .ok ((.bipush 12), 2)) ∧ (decode zy_most_12_7.2.1 7 = .ok ((Instr.if_icmp .lt) 7, 3)) ∧ (decode zy_most_12_7.2.1 14 = .ok ((.getstatic 13), 3)) ∧ (decode zy_most_12_7.2.1 17 = .ok ((.iload_n 0), 1)) := by decide +kernel
theorem zd_12_7_0 : zz_D zy_most_12_7 0 (.iload_n 0) 1 1 := ⟨zg_12_7_0.1, rfl⟩
theorem zd_12_7_1 : zz_B zy_most_12_7 1 (Instr.ifCond .lt) 10 4 := ⟨9, zg_12_7_0.2.1, rfl, rfl⟩
theorem zd_12_7_10 : zz_D zy_most_12_7 10 (.iconst 0) 1 11 := ⟨zg_12_7_0.2.2.1, rfl⟩
theorem zd_12_7_11 : zz_B zy_most_12_7 11 Instr.goto 19 14 := ⟨8, zg_12_7_0.2.2.2.1, rfl, rfl⟩
theorem zd_12_7_19 : zz_D zy_most_12_7 19 (.ireturn) 1 20 := ⟨zg_12_7_0.2.2.2.2.1, rfl⟩
theorem zd_12_7_4 : zz_D zy_most_12_7 4 (.iload_n 0) 1 5 := ⟨zg_12_7_0.2.2.2.2.2.1, rfl⟩
theorem zd_12_7_5 : zz_D zy_most_12_7 5 (.bipush 12) 2 7 := ⟨zg_12_7_0.2.2.2.2.2.2.1, rfl⟩
theorem zd_12_7_7 : zz_B zy_most_12_7 7 (Instr.if_icmp .lt) 14 10 := ⟨7, zg_12_7_0.2.2.2.2.2.2.2.1, rfl, rfl⟩
theorem zd_12_7_14 : zz_D zy_most_12_7 14 (.getstatic 13) 3 17 := ⟨zg_12_7_0.2.2.2.2.2.2.2.2.1, rfl⟩
theorem zd_12_7_17 : zz_D zy_most_12_7 17 (.iload_n 0) 1 18 := ⟨zg_12_7_0.2.2.2.2.2.2.2.2.2, rfl⟩
theorem zd_12_7_18 : zz_D zy_most_12_7 18 (.iaload) 1 19 := ⟨by decide +kernel, rfl⟩
-- TensorForge$Words most (I)I
abbrev zr_most_12_7 : Room := { frames := 0, cells := 0, slots := 0, locals := 0 }
def zp_most_12_7 (p0 : Int) (S0 : zz_S) : Int → zz_S → Prop := fun r S => S0 = S ∧ ((-2147483648) ≤ r ∧ r ≤ 2147483647)
theorem zc_most_12_7 {g : mm_G} {l : Launch} (p0 : Int) (S0 : zz_S) (n : Nat) (hn : zz_end ≤ n) (G_S0 : zz_G S0) (hp0 : (-2147483648) ≤ p0 ∧ p0 ≤ 2147483647) : mm_Met g l zy_most_12_7 zr_most_12_7 [zi p0] (zz_M S0 n) n (zz_QI n (zp_most_12_7 p0 S0)) := by
  refine zz_enter (by decide) (Nat.le_of_ble_eq_true rfl) (zz_less (ls1 := [some (zi p0)]) ⟨rfl, trivial⟩ ?_)
  refine zz_iload_n (x := p0) rfl zd_12_7_0 ?_
  refine zz_if_lt (by omega) zd_12_7_1 (fun c1 => ?_) (fun c1 => ?_)
  · refine zz_iconst zd_12_7_10 ?_
    refine zz_goto zd_12_7_11 ?_
    exact zz_iret zd_12_7_19 rfl (Nat.zero_le _) (Nat.zero_le _) ⟨_, _, rfl, rfl, by omega⟩
  · refine zz_iload_n (x := p0) rfl zd_12_7_4 ?_
    refine zz_bipush (by decide) zd_12_7_5 ?_
    refine zz_icmp_lt (by omega) (by omega) zd_12_7_7 (fun c2 => ?_) (fun c2 => ?_)
    · refine zz_gets (q0 := 2) zd_12_7_14 rfl (by decide) zs_Words_13 ?_
      refine zz_iload_n (x := p0) rfl zd_12_7_17 ?_
      obtain ⟨v3, hv3, tv3⟩ := zz_sta2 (i := p0) (by omega)
      refine zz_tiald (N := 12) v3 zd_12_7_18 rfl (by decide) rfl (by decide) (by omega) tv3 ?_
      exact zz_iret zd_12_7_19 rfl (Nat.zero_le _) (Nat.zero_le _) ⟨_, _, rfl, rfl, by omega⟩
    · refine zz_iconst zd_12_7_10 ?_
      refine zz_goto zd_12_7_11 ?_
      exact zz_iret zd_12_7_19 rfl (Nat.zero_le _) (Nat.zero_le _) ⟨_, _, rfl, rfl, by omega⟩
theorem zk_Assembler_100 : mm_Sl "TensorForge$Assembler" 100 1 zy_most_12_7 := ⟨zyw_most_12_7, mm_tb_1 663 (by decide +kernel) rfl, mm_tb_1 664 (by decide +kernel) rfl⟩
theorem zg_2_6_21 : (decode zy_readNumber_2_6.2.1 21 = .ok ((Instr.if_icmp .gt) 22, 3)) ∧ (decode zy_readNumber_2_6.2.1 24 = .ok ((.aload_n 0), 1)) ∧ (decode zy_readNumber_2_6.2.1 25 = .ok ((.iload_n 1), 1)) ∧ (decode zy_readNumber_2_6.2.1 26 = .ok ((.aload_n 0), 1)) ∧ (decode zy_readNumber_2_6.2.1 27 = .ok ((.getfield 9), 3)) ∧ (decode zy_readNumber_2_6.2.1 30 = .ok ((.getfield 97), 3)) ∧ (decode zy_readNumber_2_6.2.1 33 = .ok ((.invokevirtual 104), 3)) ∧ (decode zy_readNumber_2_6.2.1 36 = .ok ((Instr.ifCond .eq) 7, 3)) ∧ (decode zy_readNumber_2_6.2.1 39 = .ok ((.iconst 1), 1)) ∧ (decode zy_readNumber_2_6.2.1 40 = .ok (Instr.goto 4, 3)) := by decide +kernel
theorem zd_2_6_21 : zz_B zy_readNumber_2_6 21 (Instr.if_icmp .gt) 43 24 := ⟨22, zg_2_6_21.1, rfl, rfl⟩
theorem zd_2_6_24 : zz_D zy_readNumber_2_6 24 (.aload_n 0) 1 25 := ⟨zg_2_6_21.2.1, rfl⟩
theorem zd_2_6_25 : zz_D zy_readNumber_2_6 25 (.iload_n 1) 1 26 := ⟨zg_2_6_21.2.2.1, rfl⟩
theorem zd_2_6_26 : zz_D zy_readNumber_2_6 26 (.aload_n 0) 1 27 := ⟨zg_2_6_21.2.2.2.1, rfl⟩
theorem zd_2_6_27 : zz_D zy_readNumber_2_6 27 (.getfield 9) 3 30 := ⟨zg_2_6_21.2.2.2.2.1, rfl⟩
theorem zd_2_6_30 : zz_D zy_readNumber_2_6 30 (.getfield 97) 3 33 := ⟨zg_2_6_21.2.2.2.2.2.1, rfl⟩
theorem zd_2_6_33 : zz_D zy_readNumber_2_6 33 (.invokevirtual 104) 3 36 := ⟨zg_2_6_21.2.2.2.2.2.2.1, rfl⟩
theorem zd_2_6_36 : zz_B zy_readNumber_2_6 36 (Instr.ifCond .eq) 43 39 := ⟨7, zg_2_6_21.2.2.2.2.2.2.2.1, rfl, rfl⟩
theorem zd_2_6_39 : zz_D zy_readNumber_2_6 39 (.iconst 1) 1 40 := ⟨zg_2_6_21.2.2.2.2.2.2.2.2.1, rfl⟩
theorem zd_2_6_40 : zz_B zy_readNumber_2_6 40 Instr.goto 44 43 := ⟨4, zg_2_6_21.2.2.2.2.2.2.2.2.2, rfl, rfl⟩
-- TensorForge$Assembler readNumber (I)Z
abbrev zr_readNumber_2_6 : Room := { frames := 2, cells := 0, slots := 0, locals := 30 }
def zp_readNumber_2_6 (p0 : Int) (S0 : zz_S) : Int → zz_S → Prop := fun r S => zz_G S ∧ zz_fr [(1070, 3), (1070, 4), (1070, 5), (1070, 6), (1072, 2), (1072, 3)] [] (fun _ _ => False) S0 S ∧ (0 ≤ r ∧ r ≤ 1)
theorem zc_readNumber_2_6 {g : mm_G} {l : Launch} (p0 : Int) (S0 : zz_S) (n : Nat) (hn : zz_end ≤ n) (G_S0 : zz_G S0) (hp0 : (-2147483648) ≤ p0 ∧ p0 ≤ 2147483647) : mm_Met g l zy_readNumber_2_6 zr_readNumber_2_6 [.ref 1072, zi p0] (zz_M S0 n) n (zz_QI n (zp_readNumber_2_6 p0 S0)) := by
  refine zz_enter (by decide) (Nat.le_of_ble_eq_true rfl) (zz_less (ls1 := [some (.ref 1072), some (zi p0)]) ⟨rfl, ⟨rfl, trivial⟩⟩ ?_)
  have F_S0 : zz_fr [(1070, 3), (1070, 4), (1070, 5), (1070, 6), (1072, 2), (1072, 3)] [] (fun _ _ => False) S0 S0 := zz_fr.refl
  refine zz_aload_n (x := 1072) rfl zd_2_6_0 ?_
  refine zz_getr (kd := 0) (z := 1070) zd_2_6_1 zf_Assembler_9 zT_1072 rfl (zz_ltn hn rfl) (zz_G.eq G_S0 1072 0 1070 rfl rfl) (by decide) 1070 rfl ?_
  refine zz_callVI [] zd_2_6_4 zk_Assembler_94 zT_1070 (zz_ltn hn rfl) rfl rfl ⟨Nat.le_of_ble_eq_true rfl, Nat.le_of_ble_eq_true rfl⟩ ⟨rfl, rfl⟩ (Nat.zero_le _) (Nat.zero_le _) (zc_nextIsNumber_11_11  S0 n hn G_S0 ) (fun v2 S1 hP => ?_)
  obtain ⟨G_S1, fS1, o3⟩ := hP
  have F_S1 := zz_fr.trans F_S0 fS1 rfl zz_nv
  rcases (by omega : v2 = 0 ∨ v2 = 1) with rfl | rfl
  · refine zz_if_eq (by omega) zd_2_6_7 (fun c4 => ?_) (fun c4 => ?_)
    · refine zz_iconst zd_2_6_43 ?_
      exact zz_zret zd_2_6_44 rfl (by omega) (Nat.zero_le _) (Nat.zero_le _) ⟨_, _, rfl, G_S1, F_S1, by omega⟩
    · exfalso; omega
  · refine zz_if_eq (by omega) zd_2_6_7 (fun c5 => ?_) (fun c5 => ?_)
    · exfalso; omega
    · refine zz_aload_n (x := 1072) rfl zd_2_6_10 ?_
      refine zz_getr (kd := 0) (z := 1070) zd_2_6_11 zf_Assembler_9 zT_1072 rfl (zz_ltn hn rfl) (zz_G.eq G_S1 1072 0 1070 rfl rfl) (by decide) 1070 rfl ?_
      have g6 := zz_G.r G_S1 1070 6 (-2147483648) 2147483647 rfl rfl
      refine zz_geti (z := S1 1070 6) zd_2_6_14 zf_Assembler_97 zT_1070 rfl (zz_ltn hn rfl) rfl ?_
      refine zz_iload_n (x := p0) rfl zd_2_6_17 ?_
      refine zz_callSI [zi p0] zd_2_6_18 zk_Assembler_100 rfl rfl ⟨Nat.le_of_ble_eq_true rfl, Nat.le_of_ble_eq_true rfl⟩ ⟨rfl, rfl⟩ (Nat.zero_le _) (Nat.zero_le _) (zc_most_12_7 p0 S1 n hn G_S1 (by omega)) (fun v8 S7 hP => ?_)
      obtain ⟨rfl, o9⟩ := hP
      refine zz_icmp_gt (by omega) (by omega) zd_2_6_21 (fun c10 => ?_) (fun c10 => ?_)
      · refine zz_iconst zd_2_6_43 ?_
        exact zz_zret zd_2_6_44 rfl (by omega) (Nat.zero_le _) (Nat.zero_le _) ⟨_, _, rfl, G_S1, F_S1, by omega⟩
      · refine zz_aload_n (x := 1072) rfl zd_2_6_24 ?_
        refine zz_iload_n (x := p0) rfl zd_2_6_25 ?_
        refine zz_aload_n (x := 1072) rfl zd_2_6_26 ?_
        refine zz_getr (kd := 0) (z := 1070) zd_2_6_27 zf_Assembler_9 zT_1072 rfl (zz_ltn hn rfl) (zz_G.eq G_S1 1072 0 1070 rfl rfl) (by decide) 1070 rfl ?_
        refine zz_geti (z := S1 1070 6) zd_2_6_30 zf_Assembler_97 zT_1070 rfl (zz_ltn hn rfl) rfl ?_
        refine zz_callVI [zi p0, zi (S1 1070 6)] zd_2_6_33 zk_Assembler_104 zT_1072 (zz_ltn hn rfl) rfl rfl ⟨Nat.le_of_ble_eq_true rfl, Nat.le_of_ble_eq_true rfl⟩ ⟨rfl, rfl⟩ (Nat.zero_le _) (Nat.zero_le _) (zc_setOnce_2_8 p0 (S1 1070 6) S1 n hn G_S1 (by omega) (by omega)) (fun v12 S11 hP => ?_)
        obtain ⟨G_S11, fS11, o13⟩ := hP
        have F_S11 := zz_fr.trans F_S1 fS11 rfl zz_nv
        rcases (by omega : v12 = 0 ∨ v12 = 1) with rfl | rfl
        · refine zz_if_eq (by omega) zd_2_6_36 (fun c14 => ?_) (fun c14 => ?_)
          · refine zz_iconst zd_2_6_43 ?_
            exact zz_zret zd_2_6_44 rfl (by omega) (Nat.zero_le _) (Nat.zero_le _) ⟨_, _, rfl, G_S11, F_S11, by omega⟩
          · exfalso; omega
        · refine zz_if_eq (by omega) zd_2_6_36 (fun c15 => ?_) (fun c15 => ?_)
          · exfalso; omega
          · refine zz_iconst zd_2_6_39 ?_
            refine zz_goto zd_2_6_40 ?_
            exact zz_zret zd_2_6_44 rfl (by omega) (Nat.zero_le _) (Nat.zero_le _) ⟨_, _, rfl, G_S11, F_S11, by omega⟩
theorem zk_Assembler_67 : mm_Vl "TensorForge$Assembler" 67 7 1 zy_readNumber_2_6 := ⟨zyw_readNumber_2_6, (R_Assembler, F_Assembler, 4), rfl, mm_tb_1 654 (by decide +kernel) rfl, mm_tb_1 656 (by decide +kernel) rfl, mm_tb_s 10 (by decide +kernel) rfl⟩
theorem zg_2_5_141 : (decode zy_readPart_2_5.2.1 141 = .ok ((.ireturn), 1)) ∧ (decode zy_readPart_2_5.2.1 116 = .ok ((.aload_n 0), 1)) ∧ (decode zy_readPart_2_5.2.1 117 = .ok ((.bipush 10), 2)) ∧ (decode zy_readPart_2_5.2.1 119 = .ok ((.invokevirtual 67), 3)) ∧ (decode zy_readPart_2_5.2.1 122 = .ok ((.ireturn), 1)) ∧ (decode zy_readPart_2_5.2.1 97 = .ok ((.aload_n 0), 1)) ∧ (decode zy_readPart_2_5.2.1 98 = .ok ((.bipush 9), 2)) ∧ (decode zy_readPart_2_5.2.1 100 = .ok ((.invokevirtual 67), 3)) ∧ (decode zy_readPart_2_5.2.1 103 = .ok ((.ireturn), 1)) ∧ (decode zy_readPart_2_5.2.1 78 = .ok ((.aload_n 0), 1)) := by decide +kernel
theorem zd_2_5_141 : zz_D zy_readPart_2_5 141 (.ireturn) 1 142 := ⟨zg_2_5_141.1, rfl⟩
theorem zd_2_5_116 : zz_D zy_readPart_2_5 116 (.aload_n 0) 1 117 := ⟨zg_2_5_141.2.1, rfl⟩
theorem zd_2_5_117 : zz_D zy_readPart_2_5 117 (.bipush 10) 2 119 := ⟨zg_2_5_141.2.2.1, rfl⟩
theorem zd_2_5_119 : zz_D zy_readPart_2_5 119 (.invokevirtual 67) 3 122 := ⟨zg_2_5_141.2.2.2.1, rfl⟩
theorem zd_2_5_122 : zz_D zy_readPart_2_5 122 (.ireturn) 1 123 := ⟨zg_2_5_141.2.2.2.2.1, rfl⟩
theorem zd_2_5_97 : zz_D zy_readPart_2_5 97 (.aload_n 0) 1 98 := ⟨zg_2_5_141.2.2.2.2.2.1, rfl⟩
theorem zd_2_5_98 : zz_D zy_readPart_2_5 98 (.bipush 9) 2 100 := ⟨zg_2_5_141.2.2.2.2.2.2.1, rfl⟩
theorem zd_2_5_100 : zz_D zy_readPart_2_5 100 (.invokevirtual 67) 3 103 := ⟨zg_2_5_141.2.2.2.2.2.2.2.1, rfl⟩
theorem zd_2_5_103 : zz_D zy_readPart_2_5 103 (.ireturn) 1 104 := ⟨zg_2_5_141.2.2.2.2.2.2.2.2.1, rfl⟩
theorem zd_2_5_78 : zz_D zy_readPart_2_5 78 (.aload_n 0) 1 79 := ⟨zg_2_5_141.2.2.2.2.2.2.2.2.2, rfl⟩
theorem zg_2_5_79 : (decode zy_readPart_2_5.2.1 79 = .ok ((.bipush 8), 2)) ∧ (decode zy_readPart_2_5.2.1 81 = .ok ((.invokevirtual 67), 3)) ∧ (decode zy_readPart_2_5.2.1 84 = .ok ((.ireturn), 1)) ∧ (decode zy_readPart_2_5.2.1 30 = .ok ((.aload_n 0), 1)) ∧ (decode zy_readPart_2_5.2.1 31 = .ok ((.bipush 6), 2)) ∧ (decode zy_readPart_2_5.2.1 33 = .ok ((.invokevirtual 67), 3)) ∧ (decode zy_readPart_2_5.2.1 36 = .ok ((Instr.ifCond .eq) 28, 3)) ∧ (decode zy_readPart_2_5.2.1 64 = .ok ((.iconst 0), 1)) ∧ (decode zy_readPart_2_5.2.1 65 = .ok ((.ireturn), 1)) ∧ (decode zy_readPart_2_5.2.1 39 = .ok ((.aload_n 0), 1)) := by decide +kernel
theorem zd_2_5_79 : zz_D zy_readPart_2_5 79 (.bipush 8) 2 81 := ⟨zg_2_5_79.1, rfl⟩
theorem zd_2_5_81 : zz_D zy_readPart_2_5 81 (.invokevirtual 67) 3 84 := ⟨zg_2_5_79.2.1, rfl⟩
theorem zd_2_5_84 : zz_D zy_readPart_2_5 84 (.ireturn) 1 85 := ⟨zg_2_5_79.2.2.1, rfl⟩
theorem zd_2_5_30 : zz_D zy_readPart_2_5 30 (.aload_n 0) 1 31 := ⟨zg_2_5_79.2.2.2.1, rfl⟩
theorem zd_2_5_31 : zz_D zy_readPart_2_5 31 (.bipush 6) 2 33 := ⟨zg_2_5_79.2.2.2.2.1, rfl⟩
theorem zd_2_5_33 : zz_D zy_readPart_2_5 33 (.invokevirtual 67) 3 36 := ⟨zg_2_5_79.2.2.2.2.2.1, rfl⟩
theorem zd_2_5_36 : zz_B zy_readPart_2_5 36 (Instr.ifCond .eq) 64 39 := ⟨28, zg_2_5_79.2.2.2.2.2.2.1, rfl, rfl⟩
theorem zd_2_5_64 : zz_D zy_readPart_2_5 64 (.iconst 0) 1 65 := ⟨zg_2_5_79.2.2.2.2.2.2.2.1, rfl⟩
theorem zd_2_5_65 : zz_D zy_readPart_2_5 65 (.ireturn) 1 66 := ⟨zg_2_5_79.2.2.2.2.2.2.2.2.1, rfl⟩
theorem zd_2_5_39 : zz_D zy_readPart_2_5 39 (.aload_n 0) 1 40 := ⟨zg_2_5_79.2.2.2.2.2.2.2.2.2, rfl⟩
theorem zg_2_5_40 : (decode zy_readPart_2_5.2.1 40 = .ok ((.getfield 9), 3)) ∧ (decode zy_readPart_2_5.2.1 43 = .ok ((.ldc 73), 2)) ∧ (decode zy_readPart_2_5.2.1 45 = .ok ((.invokevirtual 75), 3)) ∧ (decode zy_readPart_2_5.2.1 48 = .ok ((Instr.ifCond .eq) 16, 3)) ∧ (decode zy_readPart_2_5.2.1 51 = .ok ((.aload_n 0), 1)) ∧ (decode zy_readPart_2_5.2.1 52 = .ok ((.bipush 7), 2)) ∧ (decode zy_readPart_2_5.2.1 54 = .ok ((.invokevirtual 67), 3)) ∧ (decode zy_readPart_2_5.2.1 57 = .ok ((Instr.ifCond .eq) 7, 3)) ∧ (decode zy_readPart_2_5.2.1 60 = .ok ((.iconst 1), 1)) ∧ (decode zy_readPart_2_5.2.1 61 = .ok (Instr.goto 4, 3)) := by decide +kernel
theorem zd_2_5_40 : zz_D zy_readPart_2_5 40 (.getfield 9) 3 43 := ⟨zg_2_5_40.1, rfl⟩
theorem zd_2_5_43 : zz_D zy_readPart_2_5 43 (.ldc 73) 2 45 := ⟨zg_2_5_40.2.1, rfl⟩
theorem zd_2_5_45 : zz_D zy_readPart_2_5 45 (.invokevirtual 75) 3 48 := ⟨zg_2_5_40.2.2.1, rfl⟩
theorem zd_2_5_48 : zz_B zy_readPart_2_5 48 (Instr.ifCond .eq) 64 51 := ⟨16, zg_2_5_40.2.2.2.1, rfl, rfl⟩
theorem zd_2_5_51 : zz_D zy_readPart_2_5 51 (.aload_n 0) 1 52 := ⟨zg_2_5_40.2.2.2.2.1, rfl⟩
theorem zd_2_5_52 : zz_D zy_readPart_2_5 52 (.bipush 7) 2 54 := ⟨zg_2_5_40.2.2.2.2.2.1, rfl⟩
theorem zd_2_5_54 : zz_D zy_readPart_2_5 54 (.invokevirtual 67) 3 57 := ⟨zg_2_5_40.2.2.2.2.2.2.1, rfl⟩
theorem zd_2_5_57 : zz_B zy_readPart_2_5 57 (Instr.ifCond .eq) 64 60 := ⟨7, zg_2_5_40.2.2.2.2.2.2.2.1, rfl, rfl⟩
theorem zd_2_5_60 : zz_D zy_readPart_2_5 60 (.iconst 1) 1 61 := ⟨zg_2_5_40.2.2.2.2.2.2.2.2.1, rfl⟩
theorem zd_2_5_61 : zz_B zy_readPart_2_5 61 Instr.goto 65 64 := ⟨4, zg_2_5_40.2.2.2.2.2.2.2.2.2, rfl, rfl⟩
theorem zg_2_5_12 : (decode zy_readPart_2_5.2.1 12 = .ok ((.aload_n 0), 1)) ∧ (decode zy_readPart_2_5.2.1 13 = .ok ((.iconst 5), 1)) ∧ (decode zy_readPart_2_5.2.1 14 = .ok ((.invokevirtual 67), 3)) ∧ (decode zy_readPart_2_5.2.1 17 = .ok ((.ireturn), 1)) := by decide +kernel
theorem zd_2_5_12 : zz_D zy_readPart_2_5 12 (.aload_n 0) 1 13 := ⟨zg_2_5_12.1, rfl⟩
theorem zd_2_5_13 : zz_D zy_readPart_2_5 13 (.iconst 5) 1 14 := ⟨zg_2_5_12.2.1, rfl⟩
theorem zd_2_5_14 : zz_D zy_readPart_2_5 14 (.invokevirtual 67) 3 17 := ⟨zg_2_5_12.2.2.1, rfl⟩
theorem zd_2_5_17 : zz_D zy_readPart_2_5 17 (.ireturn) 1 18 := ⟨zg_2_5_12.2.2.2, rfl⟩
-- TensorForge$Assembler readPart ()Z
abbrev zr_readPart_2_5 : Room := { frames := 7, cells := 0, slots := 0, locals := 95 }
def zp_readPart_2_5  (S0 : zz_S) : Int → zz_S → Prop := fun r S => zz_G S ∧ zz_fr [(1070, 3), (1070, 4), (1070, 5), (1070, 6), (1072, 2), (1072, 3)] [] (fun _ _ => False) S0 S ∧ (0 ≤ r ∧ r ≤ 1)
theorem zc_readPart_2_5 {g : mm_G} {l : Launch}  (S0 : zz_S) (n : Nat) (hn : zz_end ≤ n) (G_S0 : zz_G S0)  : mm_Met g l zy_readPart_2_5 zr_readPart_2_5 [.ref 1072] (zz_M S0 n) n (zz_QI n (zp_readPart_2_5  S0)) := by
  refine zz_enter (by decide) (Nat.le_of_ble_eq_true rfl) (zz_less (ls1 := [some (.ref 1072)]) ⟨rfl, trivial⟩ ?_)
  have F_S0 : zz_fr [(1070, 3), (1070, 4), (1070, 5), (1070, 6), (1072, 2), (1072, 3)] [] (fun _ _ => False) S0 S0 := zz_fr.refl
  refine zz_aload_n (x := 1072) rfl zd_2_5_0 ?_
  refine zz_getr (kd := 0) (z := 1070) zd_2_5_1 zf_Assembler_9 zT_1072 rfl (zz_ltn hn rfl) (zz_G.eq G_S0 1072 0 1070 rfl rfl) (by decide) 1070 rfl ?_
  refine zz_ldcs (t := 10) (by decide +kernel) (by decide) zd_2_5_4 ?_
  refine zz_callVI [.ref (100 + 10)] zd_2_5_6 zk_Assembler_61 zT_1070 (zz_ltn hn rfl) rfl rfl ⟨Nat.le_of_ble_eq_true rfl, Nat.le_of_ble_eq_true rfl⟩ ⟨rfl, rfl⟩ (Nat.zero_le _) (Nat.zero_le _) (zc_isWord_11_9 10 S0 n hn G_S0 (by omega)) (fun v2 S1 hP => ?_)
  obtain ⟨rfl, o3⟩ := hP
  rcases (by omega : v2 = 0 ∨ v2 = 1) with rfl | rfl
  · refine zz_if_eq (by omega) zd_2_5_9 (fun c4 => ?_) (fun c4 => ?_)
    · refine zz_aload_n (x := 1072) rfl zd_2_5_18 ?_
      refine zz_getr (kd := 0) (z := 1070) zd_2_5_19 zf_Assembler_9 zT_1072 rfl (zz_ltn hn rfl) (zz_G.eq G_S0 1072 0 1070 rfl rfl) (by decide) 1070 rfl ?_
      refine zz_ldcs (t := 11) (by decide +kernel) (by decide) zd_2_5_22 ?_
      refine zz_callVI [.ref (100 + 11)] zd_2_5_24 zk_Assembler_61 zT_1070 (zz_ltn hn rfl) rfl rfl ⟨Nat.le_of_ble_eq_true rfl, Nat.le_of_ble_eq_true rfl⟩ ⟨rfl, rfl⟩ (Nat.zero_le _) (Nat.zero_le _) (zc_isWord_11_9 11 S0 n hn G_S0 (by omega)) (fun v6 S5 hP => ?_)
      obtain ⟨rfl, o7⟩ := hP
      rcases (by omega : v6 = 0 ∨ v6 = 1) with rfl | rfl
      · refine zz_if_eq (by omega) zd_2_5_27 (fun c8 => ?_) (fun c8 => ?_)
        · refine zz_aload_n (x := 1072) rfl zd_2_5_66 ?_
          refine zz_getr (kd := 0) (z := 1070) zd_2_5_67 zf_Assembler_9 zT_1072 rfl (zz_ltn hn rfl) (zz_G.eq G_S0 1072 0 1070 rfl rfl) (by decide) 1070 rfl ?_
          refine zz_ldcs (t := 13) (by decide +kernel) (by decide) zd_2_5_70 ?_
          refine zz_callVI [.ref (100 + 13)] zd_2_5_72 zk_Assembler_61 zT_1070 (zz_ltn hn rfl) rfl rfl ⟨Nat.le_of_ble_eq_true rfl, Nat.le_of_ble_eq_true rfl⟩ ⟨rfl, rfl⟩ (Nat.zero_le _) (Nat.zero_le _) (zc_isWord_11_9 13 S0 n hn G_S0 (by omega)) (fun v10 S9 hP => ?_)
          obtain ⟨rfl, o11⟩ := hP
          rcases (by omega : v10 = 0 ∨ v10 = 1) with rfl | rfl
          · refine zz_if_eq (by omega) zd_2_5_75 (fun c12 => ?_) (fun c12 => ?_)
            · refine zz_aload_n (x := 1072) rfl zd_2_5_85 ?_
              refine zz_getr (kd := 0) (z := 1070) zd_2_5_86 zf_Assembler_9 zT_1072 rfl (zz_ltn hn rfl) (zz_G.eq G_S0 1072 0 1070 rfl rfl) (by decide) 1070 rfl ?_
              refine zz_ldcs (t := 14) (by decide +kernel) (by decide) zd_2_5_89 ?_
              refine zz_callVI [.ref (100 + 14)] zd_2_5_91 zk_Assembler_61 zT_1070 (zz_ltn hn rfl) rfl rfl ⟨Nat.le_of_ble_eq_true rfl, Nat.le_of_ble_eq_true rfl⟩ ⟨rfl, rfl⟩ (Nat.zero_le _) (Nat.zero_le _) (zc_isWord_11_9 14 S0 n hn G_S0 (by omega)) (fun v14 S13 hP => ?_)
              obtain ⟨rfl, o15⟩ := hP
              rcases (by omega : v14 = 0 ∨ v14 = 1) with rfl | rfl
              · refine zz_if_eq (by omega) zd_2_5_94 (fun c16 => ?_) (fun c16 => ?_)
                · refine zz_aload_n (x := 1072) rfl zd_2_5_104 ?_
                  refine zz_getr (kd := 0) (z := 1070) zd_2_5_105 zf_Assembler_9 zT_1072 rfl (zz_ltn hn rfl) (zz_G.eq G_S0 1072 0 1070 rfl rfl) (by decide) 1070 rfl ?_
                  refine zz_ldcs (t := 15) (by decide +kernel) (by decide) zd_2_5_108 ?_
                  refine zz_callVI [.ref (100 + 15)] zd_2_5_110 zk_Assembler_61 zT_1070 (zz_ltn hn rfl) rfl rfl ⟨Nat.le_of_ble_eq_true rfl, Nat.le_of_ble_eq_true rfl⟩ ⟨rfl, rfl⟩ (Nat.zero_le _) (Nat.zero_le _) (zc_isWord_11_9 15 S0 n hn G_S0 (by omega)) (fun v18 S17 hP => ?_)
                  obtain ⟨rfl, o19⟩ := hP
                  rcases (by omega : v18 = 0 ∨ v18 = 1) with rfl | rfl
                  · refine zz_if_eq (by omega) zd_2_5_113 (fun c20 => ?_) (fun c20 => ?_)
                    · refine zz_aload_n (x := 1072) rfl zd_2_5_123 ?_
                      refine zz_getr (kd := 0) (z := 1070) zd_2_5_124 zf_Assembler_9 zT_1072 rfl (zz_ltn hn rfl) (zz_G.eq G_S0 1072 0 1070 rfl rfl) (by decide) 1070 rfl ?_
                      refine zz_ldcs (t := 16) (by decide +kernel) (by decide) zd_2_5_127 ?_
                      refine zz_callVI [.ref (100 + 16)] zd_2_5_129 zk_Assembler_61 zT_1070 (zz_ltn hn rfl) rfl rfl ⟨Nat.le_of_ble_eq_true rfl, Nat.le_of_ble_eq_true rfl⟩ ⟨rfl, rfl⟩ (Nat.zero_le _) (Nat.zero_le _) (zc_isWord_11_9 16 S0 n hn G_S0 (by omega)) (fun v22 S21 hP => ?_)
                      obtain ⟨rfl, o23⟩ := hP
                      rcases (by omega : v22 = 0 ∨ v22 = 1) with rfl | rfl
                      · refine zz_if_eq (by omega) zd_2_5_132 (fun c24 => ?_) (fun c24 => ?_)
                        · refine zz_aload_n (x := 1072) rfl zd_2_5_142 ?_
                          refine zz_getr (kd := 0) (z := 1070) zd_2_5_143 zf_Assembler_9 zT_1072 rfl (zz_ltn hn rfl) (zz_G.eq G_S0 1072 0 1070 rfl rfl) (by decide) 1070 rfl ?_
                          refine zz_ldcs (t := 17) (by decide +kernel) (by decide) zd_2_5_146 ?_
                          refine zz_callVI [.ref (100 + 17)] zd_2_5_148 zk_Assembler_61 zT_1070 (zz_ltn hn rfl) rfl rfl ⟨Nat.le_of_ble_eq_true rfl, Nat.le_of_ble_eq_true rfl⟩ ⟨rfl, rfl⟩ (Nat.zero_le _) (Nat.zero_le _) (zc_isWord_11_9 17 S0 n hn G_S0 (by omega)) (fun v26 S25 hP => ?_)
                          obtain ⟨rfl, o27⟩ := hP
                          rcases (by omega : v26 = 0 ∨ v26 = 1) with rfl | rfl
                          · refine zz_if_eq (by omega) zd_2_5_151 (fun c28 => ?_) (fun c28 => ?_)
                            · refine zz_aload_n (x := 1072) rfl zd_2_5_161 ?_
                              refine zz_getr (kd := 0) (z := 1070) zd_2_5_162 zf_Assembler_9 zT_1072 rfl (zz_ltn hn rfl) (zz_G.eq G_S0 1072 0 1070 rfl rfl) (by decide) 1070 rfl ?_
                              refine zz_ldcs (t := 20) (by decide +kernel) (by decide) zd_2_5_165 ?_
                              refine zz_callVI [.ref (100 + 20)] zd_2_5_167 zk_Assembler_61 zT_1070 (zz_ltn hn rfl) rfl rfl ⟨Nat.le_of_ble_eq_true rfl, Nat.le_of_ble_eq_true rfl⟩ ⟨rfl, rfl⟩ (Nat.zero_le _) (Nat.zero_le _) (zc_isWord_11_9 20 S0 n hn G_S0 (by omega)) (fun v30 S29 hP => ?_)
                              obtain ⟨rfl, o31⟩ := hP
                              rcases (by omega : v30 = 0 ∨ v30 = 1) with rfl | rfl
                              · refine zz_if_eq (by omega) zd_2_5_170 (fun c32 => ?_) (fun c32 => ?_)
                                · refine zz_iconst zd_2_5_186 ?_
                                  exact zz_zret zd_2_5_187 rfl (by omega) (Nat.zero_le _) (Nat.zero_le _) ⟨_, _, rfl, G_S0, F_S0, by omega⟩
                                · exfalso; omega
                              · refine zz_if_eq (by omega) zd_2_5_170 (fun c33 => ?_) (fun c33 => ?_)
                                · exfalso; omega
                                · refine zz_aload_n (x := 1072) rfl zd_2_5_173 ?_
                                  refine zz_iconst zd_2_5_174 ?_
                                  refine zz_iconst zd_2_5_175 ?_
                                  refine zz_callVI [zi 3, zi 4] zd_2_5_176 zk_Assembler_88 zT_1072 (zz_ltn hn rfl) rfl rfl ⟨Nat.le_of_ble_eq_true rfl, Nat.le_of_ble_eq_true rfl⟩ ⟨rfl, rfl⟩ (Nat.zero_le _) (Nat.zero_le _) (zc_readNeighbour_2_7 3 4 S0 n hn G_S0 (by omega) (by omega)) (fun v35 S34 hP => ?_)
                                  obtain ⟨G_S34, fS34, o36⟩ := hP
                                  have F_S34 := zz_fr.trans F_S0 fS34 rfl zz_nv
                                  rcases (by omega : v35 = 0 ∨ v35 = 1) with rfl | rfl
                                  · refine zz_if_eq (by omega) zd_2_5_179 (fun c37 => ?_) (fun c37 => ?_)
                                    · refine zz_iconst zd_2_5_186 ?_
                                      exact zz_zret zd_2_5_187 rfl (by omega) (Nat.zero_le _) (Nat.zero_le _) ⟨_, _, rfl, G_S34, F_S34, by omega⟩
                                    · exfalso; omega
                                  · refine zz_if_eq (by omega) zd_2_5_179 (fun c38 => ?_) (fun c38 => ?_)
                                    · exfalso; omega
                                    · refine zz_iconst zd_2_5_182 ?_
                                      refine zz_goto zd_2_5_183 ?_
                                      exact zz_zret zd_2_5_187 rfl (by omega) (Nat.zero_le _) (Nat.zero_le _) ⟨_, _, rfl, G_S34, F_S34, by omega⟩
                            · exfalso; omega
                          · refine zz_if_eq (by omega) zd_2_5_151 (fun c39 => ?_) (fun c39 => ?_)
                            · exfalso; omega
                            · refine zz_aload_n (x := 1072) rfl zd_2_5_154 ?_
                              refine zz_iconst zd_2_5_155 ?_
                              refine zz_iconst zd_2_5_156 ?_
                              refine zz_callVI [zi 1, zi 2] zd_2_5_157 zk_Assembler_88 zT_1072 (zz_ltn hn rfl) rfl rfl ⟨Nat.le_of_ble_eq_true rfl, Nat.le_of_ble_eq_true rfl⟩ ⟨rfl, rfl⟩ (Nat.zero_le _) (Nat.zero_le _) (zc_readNeighbour_2_7 1 2 S0 n hn G_S0 (by omega) (by omega)) (fun v41 S40 hP => ?_)
                              obtain ⟨G_S40, fS40, o42⟩ := hP
                              have F_S40 := zz_fr.trans F_S0 fS40 rfl zz_nv
                              rcases (by omega : v41 = 0 ∨ v41 = 1) with rfl | rfl
                              · exact zz_zret zd_2_5_160 rfl (by omega) (Nat.zero_le _) (Nat.zero_le _) ⟨_, _, rfl, G_S40, F_S40, by omega⟩
                              · exact zz_zret zd_2_5_160 rfl (by omega) (Nat.zero_le _) (Nat.zero_le _) ⟨_, _, rfl, G_S40, F_S40, by omega⟩
                        · exfalso; omega
                      · refine zz_if_eq (by omega) zd_2_5_132 (fun c43 => ?_) (fun c43 => ?_)
                        · exfalso; omega
                        · refine zz_aload_n (x := 1072) rfl zd_2_5_135 ?_
                          refine zz_bipush (by decide) zd_2_5_136 ?_
                          refine zz_callVI [zi 11] zd_2_5_138 zk_Assembler_67 zT_1072 (zz_ltn hn rfl) rfl rfl ⟨Nat.le_of_ble_eq_true rfl, Nat.le_of_ble_eq_true rfl⟩ ⟨rfl, rfl⟩ (Nat.zero_le _) (Nat.zero_le _) (zc_readNumber_2_6 11 S0 n hn G_S0 (by omega)) (fun v45 S44 hP => ?_)
                          obtain ⟨G_S44, fS44, o46⟩ := hP
                          have F_S44 := zz_fr.trans F_S0 fS44 rfl zz_nv
                          rcases (by omega : v45 = 0 ∨ v45 = 1) with rfl | rfl
                          · exact zz_zret zd_2_5_141 rfl (by omega) (Nat.zero_le _) (Nat.zero_le _) ⟨_, _, rfl, G_S44, F_S44, by omega⟩
                          · exact zz_zret zd_2_5_141 rfl (by omega) (Nat.zero_le _) (Nat.zero_le _) ⟨_, _, rfl, G_S44, F_S44, by omega⟩
                    · exfalso; omega
                  · refine zz_if_eq (by omega) zd_2_5_113 (fun c47 => ?_) (fun c47 => ?_)
                    · exfalso; omega
                    · refine zz_aload_n (x := 1072) rfl zd_2_5_116 ?_
                      refine zz_bipush (by decide) zd_2_5_117 ?_
                      refine zz_callVI [zi 10] zd_2_5_119 zk_Assembler_67 zT_1072 (zz_ltn hn rfl) rfl rfl ⟨Nat.le_of_ble_eq_true rfl, Nat.le_of_ble_eq_true rfl⟩ ⟨rfl, rfl⟩ (Nat.zero_le _) (Nat.zero_le _) (zc_readNumber_2_6 10 S0 n hn G_S0 (by omega)) (fun v49 S48 hP => ?_)
                      obtain ⟨G_S48, fS48, o50⟩ := hP
                      have F_S48 := zz_fr.trans F_S0 fS48 rfl zz_nv
                      rcases (by omega : v49 = 0 ∨ v49 = 1) with rfl | rfl
                      · exact zz_zret zd_2_5_122 rfl (by omega) (Nat.zero_le _) (Nat.zero_le _) ⟨_, _, rfl, G_S48, F_S48, by omega⟩
                      · exact zz_zret zd_2_5_122 rfl (by omega) (Nat.zero_le _) (Nat.zero_le _) ⟨_, _, rfl, G_S48, F_S48, by omega⟩
                · exfalso; omega
              · refine zz_if_eq (by omega) zd_2_5_94 (fun c51 => ?_) (fun c51 => ?_)
                · exfalso; omega
                · refine zz_aload_n (x := 1072) rfl zd_2_5_97 ?_
                  refine zz_bipush (by decide) zd_2_5_98 ?_
                  refine zz_callVI [zi 9] zd_2_5_100 zk_Assembler_67 zT_1072 (zz_ltn hn rfl) rfl rfl ⟨Nat.le_of_ble_eq_true rfl, Nat.le_of_ble_eq_true rfl⟩ ⟨rfl, rfl⟩ (Nat.zero_le _) (Nat.zero_le _) (zc_readNumber_2_6 9 S0 n hn G_S0 (by omega)) (fun v53 S52 hP => ?_)
                  obtain ⟨G_S52, fS52, o54⟩ := hP
                  have F_S52 := zz_fr.trans F_S0 fS52 rfl zz_nv
                  rcases (by omega : v53 = 0 ∨ v53 = 1) with rfl | rfl
                  · exact zz_zret zd_2_5_103 rfl (by omega) (Nat.zero_le _) (Nat.zero_le _) ⟨_, _, rfl, G_S52, F_S52, by omega⟩
                  · exact zz_zret zd_2_5_103 rfl (by omega) (Nat.zero_le _) (Nat.zero_le _) ⟨_, _, rfl, G_S52, F_S52, by omega⟩
            · exfalso; omega
          · refine zz_if_eq (by omega) zd_2_5_75 (fun c55 => ?_) (fun c55 => ?_)
            · exfalso; omega
            · refine zz_aload_n (x := 1072) rfl zd_2_5_78 ?_
              refine zz_bipush (by decide) zd_2_5_79 ?_
              refine zz_callVI [zi 8] zd_2_5_81 zk_Assembler_67 zT_1072 (zz_ltn hn rfl) rfl rfl ⟨Nat.le_of_ble_eq_true rfl, Nat.le_of_ble_eq_true rfl⟩ ⟨rfl, rfl⟩ (Nat.zero_le _) (Nat.zero_le _) (zc_readNumber_2_6 8 S0 n hn G_S0 (by omega)) (fun v57 S56 hP => ?_)
              obtain ⟨G_S56, fS56, o58⟩ := hP
              have F_S56 := zz_fr.trans F_S0 fS56 rfl zz_nv
              rcases (by omega : v57 = 0 ∨ v57 = 1) with rfl | rfl
              · exact zz_zret zd_2_5_84 rfl (by omega) (Nat.zero_le _) (Nat.zero_le _) ⟨_, _, rfl, G_S56, F_S56, by omega⟩
              · exact zz_zret zd_2_5_84 rfl (by omega) (Nat.zero_le _) (Nat.zero_le _) ⟨_, _, rfl, G_S56, F_S56, by omega⟩
        · exfalso; omega
      · refine zz_if_eq (by omega) zd_2_5_27 (fun c59 => ?_) (fun c59 => ?_)
        · exfalso; omega
        · refine zz_aload_n (x := 1072) rfl zd_2_5_30 ?_
          refine zz_bipush (by decide) zd_2_5_31 ?_
          refine zz_callVI [zi 6] zd_2_5_33 zk_Assembler_67 zT_1072 (zz_ltn hn rfl) rfl rfl ⟨Nat.le_of_ble_eq_true rfl, Nat.le_of_ble_eq_true rfl⟩ ⟨rfl, rfl⟩ (Nat.zero_le _) (Nat.zero_le _) (zc_readNumber_2_6 6 S0 n hn G_S0 (by omega)) (fun v61 S60 hP => ?_)
          obtain ⟨G_S60, fS60, o62⟩ := hP
          have F_S60 := zz_fr.trans F_S0 fS60 rfl zz_nv
          rcases (by omega : v61 = 0 ∨ v61 = 1) with rfl | rfl
          · refine zz_if_eq (by omega) zd_2_5_36 (fun c63 => ?_) (fun c63 => ?_)
            · refine zz_iconst zd_2_5_64 ?_
              exact zz_zret zd_2_5_65 rfl (by omega) (Nat.zero_le _) (Nat.zero_le _) ⟨_, _, rfl, G_S60, F_S60, by omega⟩
            · exfalso; omega
          · refine zz_if_eq (by omega) zd_2_5_36 (fun c64 => ?_) (fun c64 => ?_)
            · exfalso; omega
            · refine zz_aload_n (x := 1072) rfl zd_2_5_39 ?_
              refine zz_getr (kd := 0) (z := 1070) zd_2_5_40 zf_Assembler_9 zT_1072 rfl (zz_ltn hn rfl) (zz_G.eq G_S60 1072 0 1070 rfl rfl) (by decide) 1070 rfl ?_
              refine zz_ldcs (t := 12) (by decide +kernel) (by decide) zd_2_5_43 ?_
              refine zz_callVI [.ref (100 + 12)] zd_2_5_45 zk_Assembler_75 zT_1070 (zz_ltn hn rfl) rfl rfl ⟨Nat.le_of_ble_eq_true rfl, Nat.le_of_ble_eq_true rfl⟩ ⟨rfl, rfl⟩ (Nat.zero_le _) (Nat.zero_le _) (zc_nextIsWord_11_10 12 S60 n hn G_S60 (by omega)) (fun v66 S65 hP => ?_)
              obtain ⟨G_S65, fS65, o67⟩ := hP
              have F_S65 := zz_fr.trans F_S60 fS65 rfl zz_nv
              rcases (by omega : v66 = 0 ∨ v66 = 1) with rfl | rfl
              · refine zz_if_eq (by omega) zd_2_5_48 (fun c68 => ?_) (fun c68 => ?_)
                · refine zz_iconst zd_2_5_64 ?_
                  exact zz_zret zd_2_5_65 rfl (by omega) (Nat.zero_le _) (Nat.zero_le _) ⟨_, _, rfl, G_S65, F_S65, by omega⟩
                · exfalso; omega
              · refine zz_if_eq (by omega) zd_2_5_48 (fun c69 => ?_) (fun c69 => ?_)
                · exfalso; omega
                · refine zz_aload_n (x := 1072) rfl zd_2_5_51 ?_
                  refine zz_bipush (by decide) zd_2_5_52 ?_
                  refine zz_callVI [zi 7] zd_2_5_54 zk_Assembler_67 zT_1072 (zz_ltn hn rfl) rfl rfl ⟨Nat.le_of_ble_eq_true rfl, Nat.le_of_ble_eq_true rfl⟩ ⟨rfl, rfl⟩ (Nat.zero_le _) (Nat.zero_le _) (zc_readNumber_2_6 7 S65 n hn G_S65 (by omega)) (fun v71 S70 hP => ?_)
                  obtain ⟨G_S70, fS70, o72⟩ := hP
                  have F_S70 := zz_fr.trans F_S65 fS70 rfl zz_nv
                  rcases (by omega : v71 = 0 ∨ v71 = 1) with rfl | rfl
                  · refine zz_if_eq (by omega) zd_2_5_57 (fun c73 => ?_) (fun c73 => ?_)
                    · refine zz_iconst zd_2_5_64 ?_
                      exact zz_zret zd_2_5_65 rfl (by omega) (Nat.zero_le _) (Nat.zero_le _) ⟨_, _, rfl, G_S70, F_S70, by omega⟩
                    · exfalso; omega
                  · refine zz_if_eq (by omega) zd_2_5_57 (fun c74 => ?_) (fun c74 => ?_)
                    · exfalso; omega
                    · refine zz_iconst zd_2_5_60 ?_
                      refine zz_goto zd_2_5_61 ?_
                      exact zz_zret zd_2_5_65 rfl (by omega) (Nat.zero_le _) (Nat.zero_le _) ⟨_, _, rfl, G_S70, F_S70, by omega⟩
    · exfalso; omega
  · refine zz_if_eq (by omega) zd_2_5_9 (fun c75 => ?_) (fun c75 => ?_)
    · exfalso; omega
    · refine zz_aload_n (x := 1072) rfl zd_2_5_12 ?_
      refine zz_iconst zd_2_5_13 ?_
      refine zz_callVI [zi 5] zd_2_5_14 zk_Assembler_67 zT_1072 (zz_ltn hn rfl) rfl rfl ⟨Nat.le_of_ble_eq_true rfl, Nat.le_of_ble_eq_true rfl⟩ ⟨rfl, rfl⟩ (Nat.zero_le _) (Nat.zero_le _) (zc_readNumber_2_6 5 S0 n hn G_S0 (by omega)) (fun v77 S76 hP => ?_)
      obtain ⟨G_S76, fS76, o78⟩ := hP
      have F_S76 := zz_fr.trans F_S0 fS76 rfl zz_nv
      rcases (by omega : v77 = 0 ∨ v77 = 1) with rfl | rfl
      · exact zz_zret zd_2_5_17 rfl (by omega) (Nat.zero_le _) (Nat.zero_le _) ⟨_, _, rfl, G_S76, F_S76, by omega⟩
      · exact zz_zret zd_2_5_17 rfl (by omega) (Nat.zero_le _) (Nat.zero_le _) ⟨_, _, rfl, G_S76, F_S76, by omega⟩
theorem zk_Assembler_54 : mm_Vl "TensorForge$Assembler" 54 7 0 zy_readPart_2_5 := ⟨zyw_readPart_2_5, (R_Assembler, F_Assembler, 4), rfl, mm_tb_1 649 (by decide +kernel) rfl, mm_tb_1 651 (by decide +kernel) rfl, mm_tb_s 9 (by decide +kernel) rfl⟩
theorem zg_2_3_58 : (decode zy_readInstruction_2_3.2.1 58 = .ok ((Instr.ifCond .ne) 5, 3)) ∧ (decode zy_readInstruction_2_3.2.1 61 = .ok ((.iconst 0), 1)) ∧ (decode zy_readInstruction_2_3.2.1 62 = .ok ((.ireturn), 1)) ∧ (decode zy_readInstruction_2_3.2.1 63 = .ok ((.iinc 2 1), 3)) ∧ (decode zy_readInstruction_2_3.2.1 66 = .ok (Instr.goto (-38), 3)) ∧ (decode zy_readInstruction_2_3.2.1 52 = .ok ((.iconst 1), 1)) ∧ (decode zy_readInstruction_2_3.2.1 53 = .ok ((.ireturn), 1)) ∧ (decode zy_readInstruction_2_3.2.1 69 = .ok ((.iconst 0), 1)) ∧ (decode zy_readInstruction_2_3.2.1 70 = .ok ((.ireturn), 1)) := by decide +kernel
theorem zd_2_3_58 : zz_B zy_readInstruction_2_3 58 (Instr.ifCond .ne) 63 61 := ⟨5, zg_2_3_58.1, rfl, rfl⟩
theorem zd_2_3_61 : zz_D zy_readInstruction_2_3 61 (.iconst 0) 1 62 := ⟨zg_2_3_58.2.1, rfl⟩
theorem zd_2_3_62 : zz_D zy_readInstruction_2_3 62 (.ireturn) 1 63 := ⟨zg_2_3_58.2.2.1, rfl⟩
theorem zd_2_3_63 : zz_D zy_readInstruction_2_3 63 (.iinc 2 1) 3 66 := ⟨zg_2_3_58.2.2.2.1, rfl⟩
theorem zd_2_3_66 : zz_B zy_readInstruction_2_3 66 Instr.goto 28 69 := ⟨(-38), zg_2_3_58.2.2.2.2.1, rfl, rfl⟩
theorem zd_2_3_52 : zz_D zy_readInstruction_2_3 52 (.iconst 1) 1 53 := ⟨zg_2_3_58.2.2.2.2.2.1, rfl⟩
theorem zd_2_3_53 : zz_D zy_readInstruction_2_3 53 (.ireturn) 1 54 := ⟨zg_2_3_58.2.2.2.2.2.2.1, rfl⟩
theorem zd_2_3_69 : zz_D zy_readInstruction_2_3 69 (.iconst 0) 1 70 := ⟨zg_2_3_58.2.2.2.2.2.2.2.1, rfl⟩
theorem zd_2_3_70 : zz_D zy_readInstruction_2_3 70 (.ireturn) 1 71 := ⟨zg_2_3_58.2.2.2.2.2.2.2.2, rfl⟩
-- TensorForge$Assembler readInstruction ()Z
abbrev zr_readInstruction_2_3 : Room := { frames := 8, cells := 0, slots := 0, locals := 107 }
def zp_readInstruction_2_3  (S0 : zz_S) : Int → zz_S → Prop := fun r S => zz_G S ∧ zz_fr [(1070, 3), (1070, 4), (1070, 5), (1070, 6), (1072, 2), (1072, 3)] [] (fun _ _ => False) S0 S ∧ (0 ≤ r ∧ r ≤ 1)
theorem zb_readInstruction_2_3_28 {g : mm_G} {l : Launch}  (S0 : zz_S) (n : Nat) (hn : zz_end ≤ n) (G_S0 : zz_G S0)  (x2 : Int) (S : zz_S) (G_S : zz_G S) (F_S : zz_fr [(1070, 3), (1070, 4), (1070, 5), (1070, 6), (1072, 2), (1072, 3)] [] (fun _ _ => False) S0 S) (i28_0 : 0 ≤ x2 ∧ x2 ≤ 1501) (R : Nat) (hR : (1500 + 1 - x2).toNat = R) (k28 : ∀ (x2 : Int) (S : zz_S), zz_G S → zz_fr [(1070, 3), (1070, 4), (1070, 5), (1070, 6), (1072, 2), (1072, 3)] [] (fun _ _ => False) S0 S → (0 ≤ x2 ∧ x2 ≤ 1501) → (1500 + 1 - x2).toNat < R → zz_E g l zy_readInstruction_2_3 zr_readInstruction_2_3 (zz_QI n (zp_readInstruction_2_3  S0)) S n 28 [some (.ref 1072), none, some (zi x2)] [] 0 0) : zz_E g l zy_readInstruction_2_3 zr_readInstruction_2_3 (zz_QI n (zp_readInstruction_2_3  S0)) S n 28 [some (.ref 1072), none, some (zi x2)] [] 0 0 := by
  refine zz_iload_n (x := x2) rfl zd_2_3_28 ?_
  refine zz_sipush (by decide) zd_2_3_29 ?_
  refine zz_icmp_gt (by omega) (by omega) zd_2_3_32 (fun c10 => ?_) (fun c10 => ?_)
  · refine zz_iconst zd_2_3_69 ?_
    exact zz_zret zd_2_3_70 rfl (by omega) (Nat.zero_le _) (Nat.zero_le _) ⟨_, _, rfl, G_S, F_S, by omega⟩
  · refine zz_aload_n (x := 1072) rfl zd_2_3_35 ?_
    refine zz_getr (kd := 0) (z := 1070) zd_2_3_36 zf_Assembler_9 zT_1072 rfl (zz_ltn hn rfl) (zz_G.eq G_S 1072 0 1070 rfl rfl) (by decide) 1070 rfl ?_
    refine zz_callVV [] zd_2_3_39 zk_Assembler_35 zT_1070 (zz_ltn hn rfl) rfl rfl ⟨Nat.le_of_ble_eq_true rfl, Nat.le_of_ble_eq_true rfl⟩ ⟨rfl, rfl⟩ (Nat.zero_le _) (Nat.zero_le _) (zc_nextToken_11_7  S n hn G_S ) (fun S11 hP => ?_)
    obtain ⟨G_S11, fS11⟩ := hP
    have F_S11 := zz_fr.trans F_S fS11 rfl zz_nv
    refine zz_aload_n (x := 1072) rfl zd_2_3_42 ?_
    refine zz_getr (kd := 0) (z := 1070) zd_2_3_43 zf_Assembler_9 zT_1072 rfl (zz_ltn hn rfl) (zz_G.eq G_S11 1072 0 1070 rfl rfl) (by decide) 1070 rfl ?_
    have g13 := zz_G.r G_S11 1070 4 (-2147483648) 2147483647 rfl rfl
    refine zz_geti (z := S11 1070 4) zd_2_3_46 zf_Assembler_38 zT_1070 rfl (zz_ltn hn rfl) rfl ?_
    refine zz_if_ne (by omega) zd_2_3_49 (fun c14 => ?_) (fun c14 => ?_)
    · refine zz_aload_n (x := 1072) rfl zd_2_3_54 ?_
      refine zz_callVI [] zd_2_3_55 zk_Assembler_54 zT_1072 (zz_ltn hn rfl) rfl rfl ⟨Nat.le_of_ble_eq_true rfl, Nat.le_of_ble_eq_true rfl⟩ ⟨rfl, rfl⟩ (Nat.zero_le _) (Nat.zero_le _) (zc_readPart_2_5  S11 n hn G_S11 ) (fun v16 S15 hP => ?_)
      obtain ⟨G_S15, fS15, o17⟩ := hP
      have F_S15 := zz_fr.trans F_S11 fS15 rfl zz_nv
      rcases (by omega : v16 = 0 ∨ v16 = 1) with rfl | rfl
      · refine zz_if_ne (by omega) zd_2_3_58 (fun c18 => ?_) (fun c18 => ?_)
        · exfalso; omega
        · refine zz_iconst zd_2_3_61 ?_
          exact zz_zret zd_2_3_62 rfl (by omega) (Nat.zero_le _) (Nat.zero_le _) ⟨_, _, rfl, G_S15, F_S15, by omega⟩
      · refine zz_if_ne (by omega) zd_2_3_58 (fun c19 => ?_) (fun c19 => ?_)
        · refine zz_iinc [some (.ref 1072), none, some (zi (x2 + 1))] zd_2_3_63 rfl rfl ?_
          refine zz_goto zd_2_3_66 ?_
          refine zz_less (ls1 := [some (.ref 1072), none, some (zi (x2 + 1))]) ⟨rfl, ⟨rfl, trivial⟩⟩ ?_
          exact k28 (x2 + 1) S15 G_S15 F_S15 (by omega) (by omega)
        · exfalso; omega
    · refine zz_iconst zd_2_3_52 ?_
      exact zz_zret zd_2_3_53 rfl (by omega) (Nat.zero_le _) (Nat.zero_le _) ⟨_, _, rfl, G_S11, F_S11, by omega⟩
theorem zi_readInstruction_2_3 {g : mm_G} {l : Launch}  (S0 : zz_S) (n : Nat) (hn : zz_end ≤ n) (G_S0 : zz_G S0)  : ∀ N : Nat, (∀ (x2 : Int) (S : zz_S), zz_G S → zz_fr [(1070, 3), (1070, 4), (1070, 5), (1070, 6), (1072, 2), (1072, 3)] [] (fun _ _ => False) S0 S → (0 ≤ x2 ∧ x2 ≤ 1501) → (1500 + 1 - x2).toNat < N → zz_E g l zy_readInstruction_2_3 zr_readInstruction_2_3 (zz_QI n (zp_readInstruction_2_3  S0)) S n 28 [some (.ref 1072), none, some (zi x2)] [] 0 0) := by
  intro N
  induction N with
  | zero => exact fun x2 S _ _ _ h => absurd h (Nat.not_lt_zero _)
  | succ N ih =>
    exact fun x2 S a b j0 hR => zb_readInstruction_2_3_28  S0 n hn G_S0  x2 S a b j0 _ rfl (fun x2 S a b j0 h => ih x2 S a b j0 (Nat.lt_of_lt_of_le h (Nat.le_of_lt_succ hR)))
theorem zc_readInstruction_2_3 {g : mm_G} {l : Launch}  (S0 : zz_S) (n : Nat) (hn : zz_end ≤ n) (G_S0 : zz_G S0)  : mm_Met g l zy_readInstruction_2_3 zr_readInstruction_2_3 [.ref 1072] (zz_M S0 n) n (zz_QI n (zp_readInstruction_2_3  S0)) := by
  refine zz_enter (by decide) (Nat.le_of_ble_eq_true rfl) (zz_less (ls1 := [some (.ref 1072)]) ⟨rfl, trivial⟩ ?_)
  have F_S0 : zz_fr [(1070, 3), (1070, 4), (1070, 5), (1070, 6), (1072, 2), (1072, 3)] [] (fun _ _ => False) S0 S0 := zz_fr.refl
  have k28 : ∀ (x2 : Int) (S : zz_S), zz_G S → zz_fr [(1070, 3), (1070, 4), (1070, 5), (1070, 6), (1072, 2), (1072, 3)] [] (fun _ _ => False) S0 S → (0 ≤ x2 ∧ x2 ≤ 1501) → zz_E g l zy_readInstruction_2_3 zr_readInstruction_2_3 (zz_QI n (zp_readInstruction_2_3  S0)) S n 28 [some (.ref 1072), none, some (zi x2)] [] 0 0 := fun x2 S a b j0 => (zi_readInstruction_2_3 (g := g) (l := l)  S0 n hn G_S0  _) x2 S a b j0 (Nat.lt_succ_self _)
  refine zz_aload_n (x := 1072) rfl zd_2_3_0 ?_
  refine zz_callVI [] zd_2_3_1 zk_Assembler_44 zT_1072 (zz_ltn hn rfl) rfl rfl ⟨Nat.le_of_ble_eq_true rfl, Nat.le_of_ble_eq_true rfl⟩ ⟨rfl, rfl⟩ (Nat.zero_le _) (Nat.zero_le _) (zc_kindTold_2_4  S0 n hn G_S0 ) (fun v2 S1 hP => ?_)
  obtain ⟨rfl, o3⟩ := hP
  refine zz_istore_n [some (.ref 1072), some (zi v2)] zd_2_3_4 (by decide) rfl ?_
  refine zz_iload_n (x := v2) rfl zd_2_3_5 ?_
  refine zz_iconst zd_2_3_6 ?_
  refine zz_icmp_ne (by omega) (by omega) zd_2_3_7 (fun c4 => ?_) (fun c4 => ?_)
  · refine zz_aload_n (x := 1072) rfl zd_2_3_12 ?_
    refine zz_iconst zd_2_3_13 ?_
    refine zz_iload_n (x := v2) rfl zd_2_3_14 ?_
    refine zz_callSJ [zi 0, zi v2] zd_2_3_15 zk_Assembler_50 rfl rfl ⟨Nat.le_of_ble_eq_true rfl, Nat.le_of_ble_eq_true rfl⟩ ⟨rfl, rfl⟩ (Nat.zero_le _) (Nat.zero_le _) (zc_bits_12_4 0 v2 S0 n hn G_S0 (by omega) (by omega)) (fun v6 S5 hP => ?_)
    obtain ⟨rfl, o7⟩ := hP
    refine zz_putl zd_2_3_18 zf_Assembler_19 zT_1072 rfl (zz_ltn hn rfl) (fun S8 qS8 => ?_)
    have G_S8 := zz_G.put G_S0 qS8 (-9223372036854775808) 9223372036854775807 rfl (by omega)
    have F_S8 := zz_fr.puts F_S0 qS8 rfl
    refine zz_aload_n (x := 1072) rfl zd_2_3_21 ?_
    refine zz_iconst zd_2_3_22 ?_
    refine zz_puti zd_2_3_23 zf_Assembler_23 zT_1072 rfl (zz_ltn hn rfl) (fun S9 qS9 => ?_)
    have G_S9 := zz_G.put G_S8 qS9 (-2147483648) 2147483647 rfl (by omega)
    have F_S9 := zz_fr.puts F_S8 qS9 rfl
    refine zz_iconst zd_2_3_26 ?_
    refine zz_istore_n [some (.ref 1072), some (zi v2), some (zi 0)] zd_2_3_27 (by decide) rfl ?_
    refine zz_less (ls1 := [some (.ref 1072), none, some (zi 0)]) ⟨rfl, ⟨rfl, trivial⟩⟩ ?_
    exact k28 0 S9 G_S9 F_S9 (by omega)
  · refine zz_iconst zd_2_3_10 ?_
    exact zz_zret zd_2_3_11 rfl (by omega) (Nat.zero_le _) (Nat.zero_le _) ⟨_, _, rfl, G_S0, F_S0, by omega⟩
theorem zk_Assembler_41 : mm_Vl "TensorForge$Assembler" 41 7 0 zy_readInstruction_2_3 := ⟨zyw_readInstruction_2_3, (R_Assembler, F_Assembler, 4), rfl, mm_tb_1 573 (by decide +kernel) rfl, mm_tb_1 575 (by decide +kernel) rfl, mm_tb_s 7 (by decide +kernel) rfl⟩
theorem zg_2_2_71 : (decode zy_readInto_2_2.2.1 71 = .ok ((Instr.ifCond .ne) 5, 3)) ∧ (decode zy_readInto_2_2.2.1 76 = .ok ((.aload_n 1), 1)) ∧ (decode zy_readInto_2_2.2.1 77 = .ok ((.aload_n 0), 1)) ∧ (decode zy_readInto_2_2.2.1 78 = .ok ((.getfield 15), 3)) ∧ (decode zy_readInto_2_2.2.1 81 = .ok ((.aload_n 0), 1)) ∧ (decode zy_readInto_2_2.2.1 82 = .ok ((.getfield 19), 3)) ∧ (decode zy_readInto_2_2.2.1 85 = .ok ((.lastore), 1)) ∧ (decode zy_readInto_2_2.2.1 86 = .ok ((.aload_n 0), 1)) ∧ (decode zy_readInto_2_2.2.1 87 = .ok ((.dup), 1)) ∧ (decode zy_readInto_2_2.2.1 88 = .ok ((.getfield 15), 3)) := by decide +kernel
theorem zd_2_2_71 : zz_B zy_readInto_2_2 71 (Instr.ifCond .ne) 76 74 := ⟨5, zg_2_2_71.1, rfl, rfl⟩
theorem zd_2_2_76 : zz_D zy_readInto_2_2 76 (.aload_n 1) 1 77 := ⟨zg_2_2_71.2.1, rfl⟩
theorem zd_2_2_77 : zz_D zy_readInto_2_2 77 (.aload_n 0) 1 78 := ⟨zg_2_2_71.2.2.1, rfl⟩
theorem zd_2_2_78 : zz_D zy_readInto_2_2 78 (.getfield 15) 3 81 := ⟨zg_2_2_71.2.2.2.1, rfl⟩
theorem zd_2_2_81 : zz_D zy_readInto_2_2 81 (.aload_n 0) 1 82 := ⟨zg_2_2_71.2.2.2.2.1, rfl⟩
theorem zd_2_2_82 : zz_D zy_readInto_2_2 82 (.getfield 19) 3 85 := ⟨zg_2_2_71.2.2.2.2.2.1, rfl⟩
theorem zd_2_2_85 : zz_D zy_readInto_2_2 85 (.lastore) 1 86 := ⟨zg_2_2_71.2.2.2.2.2.2.1, rfl⟩
theorem zd_2_2_86 : zz_D zy_readInto_2_2 86 (.aload_n 0) 1 87 := ⟨zg_2_2_71.2.2.2.2.2.2.2.1, rfl⟩
theorem zd_2_2_87 : zz_D zy_readInto_2_2 87 (.dup) 1 88 := ⟨zg_2_2_71.2.2.2.2.2.2.2.2.1, rfl⟩
theorem zd_2_2_88 : zz_D zy_readInto_2_2 88 (.getfield 15) 3 91 := ⟨zg_2_2_71.2.2.2.2.2.2.2.2.2, rfl⟩
theorem zg_2_2_91 : (decode zy_readInto_2_2.2.1 91 = .ok ((.iconst 1), 1)) ∧ (decode zy_readInto_2_2.2.1 92 = .ok ((.iadd), 1)) ∧ (decode zy_readInto_2_2.2.1 93 = .ok ((.putfield 15), 3)) := by decide +kernel
theorem zd_2_2_91 : zz_D zy_readInto_2_2 91 (.iconst 1) 1 92 := ⟨zg_2_2_91.1, rfl⟩
theorem zd_2_2_92 : zz_D zy_readInto_2_2 92 (.iadd) 1 93 := ⟨zg_2_2_91.2.1, rfl⟩
theorem zd_2_2_93 : zz_D zy_readInto_2_2 93 (.putfield 15) 3 96 := ⟨zg_2_2_91.2.2, rfl⟩
-- TensorForge$Assembler readInto ([J)I
abbrev zr_readInto_2_2 : Room := { frames := 9, cells := 0, slots := 0, locals := 121 }
def zp_readInto_2_2 (p0 : Int) (S0 : zz_S) : Int → zz_S → Prop := fun r S => zz_G S ∧ zz_fr [(1070, 2), (1070, 3), (1070, 4), (1070, 5), (1070, 6), (1072, 1), (1072, 2), (1072, 3)] [] (fun a i => a = zz_rf 4 p0) S0 S ∧ ((-2147483648) ≤ r ∧ r ≤ 2147483647)
theorem zb_readInto_2_2_14 {g : mm_G} {l : Launch} (p0 : Int) (S0 : zz_S) (n : Nat) (hn : zz_end ≤ n) (G_S0 : zz_G S0) (hp0 : 0 ≤ p0 ∧ p0 ≤ 1) (x2 : Int) (S : zz_S) (G_S : zz_G S) (F_S : zz_fr [(1070, 2), (1070, 3), (1070, 4), (1070, 5), (1070, 6), (1072, 1), (1072, 2), (1072, 3)] [] (fun a i => a = zz_rf 4 p0) S0 S) (i14_0 : 0 ≤ x2 ∧ x2 ≤ 1501) (R : Nat) (hR : (1500 + 1 - x2).toNat = R) (k14 : ∀ (x2 : Int) (S : zz_S), zz_G S → zz_fr [(1070, 2), (1070, 3), (1070, 4), (1070, 5), (1070, 6), (1072, 1), (1072, 2), (1072, 3)] [] (fun a i => a = zz_rf 4 p0) S0 S → (0 ≤ x2 ∧ x2 ≤ 1501) → (1500 + 1 - x2).toNat < R → zz_E g l zy_readInto_2_2 zr_readInto_2_2 (zz_QI n (zp_readInto_2_2 p0 S0)) S n 14 [some (.ref 1072), some (.ref (zz_rf 4 p0)), some (zi x2)] [] 0 0) : zz_E g l zy_readInto_2_2 zr_readInto_2_2 (zz_QI n (zp_readInto_2_2 p0 S0)) S n 14 [some (.ref 1072), some (.ref (zz_rf 4 p0)), some (zi x2)] [] 0 0 := by
  have b_p0 := zz_rf4 (z := p0) (by omega)
  refine zz_iload_n (x := x2) rfl zd_2_2_14 ?_
  refine zz_sipush (by decide) zd_2_2_15 ?_
  refine zz_icmp_gt (by omega) (by omega) zd_2_2_18 (fun c4 => ?_) (fun c4 => ?_)
  · refine zz_iconst zd_2_2_102 ?_
    exact zz_iret zd_2_2_103 rfl (Nat.zero_le _) (Nat.zero_le _) ⟨_, _, rfl, G_S, F_S, by omega⟩
  · refine zz_aload_n (x := 1072) rfl zd_2_2_21 ?_
    refine zz_getr (kd := 0) (z := 1070) zd_2_2_22 zf_Assembler_9 zT_1072 rfl (zz_ltn hn rfl) (zz_G.eq G_S 1072 0 1070 rfl rfl) (by decide) 1070 rfl ?_
    refine zz_callVI [] zd_2_2_25 zk_Assembler_31 zT_1070 (zz_ltn hn rfl) rfl rfl ⟨Nat.le_of_ble_eq_true rfl, Nat.le_of_ble_eq_true rfl⟩ ⟨rfl, rfl⟩ (Nat.zero_le _) (Nat.zero_le _) (zc_nextLine_11_6  S n hn G_S ) (fun v6 S5 hP => ?_)
    obtain ⟨G_S5, fS5, o7⟩ := hP
    have F_S5 := zz_fr.trans F_S fS5 rfl zz_nv
    rcases (by omega : v6 = 0 ∨ v6 = 1) with rfl | rfl
    · refine zz_if_eq (by omega) zd_2_2_28 (fun c8 => ?_) (fun c8 => ?_)
      · refine zz_iconst zd_2_2_102 ?_
        exact zz_iret zd_2_2_103 rfl (Nat.zero_le _) (Nat.zero_le _) ⟨_, _, rfl, G_S5, F_S5, by omega⟩
      · exfalso; omega
    · refine zz_if_eq (by omega) zd_2_2_28 (fun c9 => ?_) (fun c9 => ?_)
      · exfalso; omega
      · refine zz_aload_n (x := 1072) rfl zd_2_2_31 ?_
        refine zz_getr (kd := 0) (z := 1070) zd_2_2_32 zf_Assembler_9 zT_1072 rfl (zz_ltn hn rfl) (zz_G.eq G_S5 1072 0 1070 rfl rfl) (by decide) 1070 rfl ?_
        refine zz_callVV [] zd_2_2_35 zk_Assembler_35 zT_1070 (zz_ltn hn rfl) rfl rfl ⟨Nat.le_of_ble_eq_true rfl, Nat.le_of_ble_eq_true rfl⟩ ⟨rfl, rfl⟩ (Nat.zero_le _) (Nat.zero_le _) (zc_nextToken_11_7  S5 n hn G_S5 ) (fun S10 hP => ?_)
        obtain ⟨G_S10, fS10⟩ := hP
        have F_S10 := zz_fr.trans F_S5 fS10 rfl zz_nv
        refine zz_aload_n (x := 1072) rfl zd_2_2_38 ?_
        refine zz_getr (kd := 0) (z := 1070) zd_2_2_39 zf_Assembler_9 zT_1072 rfl (zz_ltn hn rfl) (zz_G.eq G_S10 1072 0 1070 rfl rfl) (by decide) 1070 rfl ?_
        have g12 := zz_G.r G_S10 1070 4 (-2147483648) 2147483647 rfl rfl
        refine zz_geti (z := S10 1070 4) zd_2_2_42 zf_Assembler_38 zT_1070 rfl (zz_ltn hn rfl) rfl ?_
        refine zz_if_eq (by omega) zd_2_2_45 (fun c13 => ?_) (fun c13 => ?_)
        · refine zz_iinc [some (.ref 1072), some (.ref (zz_rf 4 p0)), some (zi (x2 + 1))] zd_2_2_96 rfl rfl ?_
          refine zz_goto zd_2_2_99 ?_
          refine zz_less (ls1 := [some (.ref 1072), some (.ref (zz_rf 4 p0)), some (zi (x2 + 1))]) ⟨rfl, ⟨rfl, ⟨rfl, trivial⟩⟩⟩ ?_
          exact k14 (x2 + 1) S10 G_S10 F_S10 (by omega) (by omega)
        · refine zz_aload_n (x := 1072) rfl zd_2_2_48 ?_
          have g14 := zz_G.r G_S 1072 1 0 600 rfl rfl
          refine zz_geti (z := S 1072 1) zd_2_2_49 zf_Assembler_15 zT_1072 rfl (zz_ltn hn rfl) (zz_rc fS10 rfl rfl (fun h => h) (zz_rc fS5 rfl rfl (fun h => h) rfl)) ?_
          refine zz_sipush (by decide) zd_2_2_52 ?_
          refine zz_icmp_ge (by omega) (by omega) zd_2_2_55 (fun c15 => ?_) (fun c15 => ?_)
          · refine zz_iload_n (x := x2) rfl zd_2_2_74 ?_
            exact zz_iret zd_2_2_75 rfl (Nat.zero_le _) (Nat.zero_le _) ⟨_, _, rfl, G_S10, F_S10, by omega⟩
          · refine zz_aload_n (x := 1072) rfl zd_2_2_58 ?_
            refine zz_geti (z := S 1072 1) zd_2_2_59 zf_Assembler_15 zT_1072 rfl (zz_ltn hn rfl) (zz_rc fS10 rfl rfl (fun h => h) (zz_rc fS5 rfl rfl (fun h => h) rfl)) ?_
            refine zz_aload_n (x := zz_rf 4 p0) rfl zd_2_2_62 ?_
            refine zz_alen zd_2_2_63 (zT_k4 (by omega)) rfl (zN_k4 hn (by omega)) ?_
            refine zz_icmp_ge (by omega) (by omega) zd_2_2_64 (fun c16 => ?_) (fun c16 => ?_)
            · exfalso; omega
            · refine zz_aload_n (x := 1072) rfl zd_2_2_67 ?_
              refine zz_callVI [] zd_2_2_68 zk_Assembler_41 zT_1072 (zz_ltn hn rfl) rfl rfl ⟨Nat.le_of_ble_eq_true rfl, Nat.le_of_ble_eq_true rfl⟩ ⟨rfl, rfl⟩ (Nat.zero_le _) (Nat.zero_le _) (zc_readInstruction_2_3  S10 n hn G_S10 ) (fun v18 S17 hP => ?_)
              obtain ⟨G_S17, fS17, o19⟩ := hP
              have F_S17 := zz_fr.trans F_S10 fS17 rfl zz_nv
              rcases (by omega : v18 = 0 ∨ v18 = 1) with rfl | rfl
              · refine zz_if_ne (by omega) zd_2_2_71 (fun c20 => ?_) (fun c20 => ?_)
                · exfalso; omega
                · refine zz_iload_n (x := x2) rfl zd_2_2_74 ?_
                  exact zz_iret zd_2_2_75 rfl (Nat.zero_le _) (Nat.zero_le _) ⟨_, _, rfl, G_S17, F_S17, by omega⟩
              · refine zz_if_ne (by omega) zd_2_2_71 (fun c21 => ?_) (fun c21 => ?_)
                · refine zz_aload_n (x := zz_rf 4 p0) rfl zd_2_2_76 ?_
                  refine zz_aload_n (x := 1072) rfl zd_2_2_77 ?_
                  refine zz_geti (z := S 1072 1) zd_2_2_78 zf_Assembler_15 zT_1072 rfl (zz_ltn hn rfl) (zz_rc fS17 rfl rfl (fun h => h) (zz_rc fS10 rfl rfl (fun h => h) (zz_rc fS5 rfl rfl (fun h => h) rfl))) ?_
                  refine zz_aload_n (x := 1072) rfl zd_2_2_81 ?_
                  have g22 := zz_G.r G_S17 1072 2 (-9223372036854775808) 9223372036854775807 rfl rfl
                  refine zz_getl (z := S17 1072 2) zd_2_2_82 zf_Assembler_19 zT_1072 rfl (zz_ltn hn rfl) rfl ?_
                  refine zz_last zd_2_2_85 (zT_k4 (by omega)) rfl (zN_k4 hn (by omega)) (by decide) (by omega) (fun S23 qS23 => ?_)
                  have G_S23 := zz_G.put G_S17 qS23 (-9223372036854775808) 9223372036854775807 (zR_k4 (by omega)) (by omega)
                  have F_S23 := zz_fr.putv F_S17 qS23 (rfl)
                  refine zz_aload_n (x := 1072) rfl zd_2_2_86 ?_
                  refine zz_dup rfl zd_2_2_87 ?_
                  refine zz_geti (z := S 1072 1) zd_2_2_88 zf_Assembler_15 zT_1072 rfl (zz_ltn hn rfl) (zz_ro qS23 (fun h => absurd h.1 (by have := zz_rf4 (z := p0) (by omega); omega)) (zz_rc fS17 rfl rfl (fun h => h) (zz_rc fS10 rfl rfl (fun h => h) (zz_rc fS5 rfl rfl (fun h => h) rfl)))) ?_
                  refine zz_iconst zd_2_2_91 ?_
                  refine zz_iadd zd_2_2_92 ?_
                  refine zz_puti zd_2_2_93 zf_Assembler_15 zT_1072 rfl (zz_ltn hn rfl) (fun S24 qS24 => ?_)
                  have G_S24 := zz_G.put G_S23 qS24 0 600 rfl (by omega)
                  have F_S24 := zz_fr.puts F_S23 qS24 rfl
                  refine zz_iinc [some (.ref 1072), some (.ref (zz_rf 4 p0)), some (zi (x2 + 1))] zd_2_2_96 rfl rfl ?_
                  refine zz_goto zd_2_2_99 ?_
                  refine zz_less (ls1 := [some (.ref 1072), some (.ref (zz_rf 4 p0)), some (zi (x2 + 1))]) ⟨rfl, ⟨rfl, ⟨rfl, trivial⟩⟩⟩ ?_
                  exact k14 (x2 + 1) S24 G_S24 F_S24 (by omega) (by omega)
                · exfalso; omega
theorem zi_readInto_2_2 {g : mm_G} {l : Launch} (p0 : Int) (S0 : zz_S) (n : Nat) (hn : zz_end ≤ n) (G_S0 : zz_G S0) (hp0 : 0 ≤ p0 ∧ p0 ≤ 1) : ∀ N : Nat, (∀ (x2 : Int) (S : zz_S), zz_G S → zz_fr [(1070, 2), (1070, 3), (1070, 4), (1070, 5), (1070, 6), (1072, 1), (1072, 2), (1072, 3)] [] (fun a i => a = zz_rf 4 p0) S0 S → (0 ≤ x2 ∧ x2 ≤ 1501) → (1500 + 1 - x2).toNat < N → zz_E g l zy_readInto_2_2 zr_readInto_2_2 (zz_QI n (zp_readInto_2_2 p0 S0)) S n 14 [some (.ref 1072), some (.ref (zz_rf 4 p0)), some (zi x2)] [] 0 0) := by
  intro N
  induction N with
  | zero => exact fun x2 S _ _ _ h => absurd h (Nat.not_lt_zero _)
  | succ N ih =>
    exact fun x2 S a b j0 hR => zb_readInto_2_2_14 p0 S0 n hn G_S0 hp0 x2 S a b j0 _ rfl (fun x2 S a b j0 h => ih x2 S a b j0 (Nat.lt_of_lt_of_le h (Nat.le_of_lt_succ hR)))
theorem zc_readInto_2_2 {g : mm_G} {l : Launch} (p0 : Int) (S0 : zz_S) (n : Nat) (hn : zz_end ≤ n) (G_S0 : zz_G S0) (hp0 : 0 ≤ p0 ∧ p0 ≤ 1) : mm_Met g l zy_readInto_2_2 zr_readInto_2_2 [.ref 1072, .ref (zz_rf 4 p0)] (zz_M S0 n) n (zz_QI n (zp_readInto_2_2 p0 S0)) := by
  refine zz_enter (by decide) (Nat.le_of_ble_eq_true rfl) (zz_less (ls1 := [some (.ref 1072), some (.ref (zz_rf 4 p0))]) ⟨rfl, ⟨rfl, trivial⟩⟩ ?_)
  have F_S0 : zz_fr [(1070, 2), (1070, 3), (1070, 4), (1070, 5), (1070, 6), (1072, 1), (1072, 2), (1072, 3)] [] (fun a i => a = zz_rf 4 p0) S0 S0 := zz_fr.refl
  have k14 : ∀ (x2 : Int) (S : zz_S), zz_G S → zz_fr [(1070, 2), (1070, 3), (1070, 4), (1070, 5), (1070, 6), (1072, 1), (1072, 2), (1072, 3)] [] (fun a i => a = zz_rf 4 p0) S0 S → (0 ≤ x2 ∧ x2 ≤ 1501) → zz_E g l zy_readInto_2_2 zr_readInto_2_2 (zz_QI n (zp_readInto_2_2 p0 S0)) S n 14 [some (.ref 1072), some (.ref (zz_rf 4 p0)), some (zi x2)] [] 0 0 := fun x2 S a b j0 => (zi_readInto_2_2 (g := g) (l := l) p0 S0 n hn G_S0 hp0 _) x2 S a b j0 (Nat.lt_succ_self _)
  have b_p0 := zz_rf4 (z := p0) (by omega)
  refine zz_aload_n (x := 1072) rfl zd_2_2_0 ?_
  refine zz_iconst zd_2_2_1 ?_
  refine zz_puti zd_2_2_2 zf_Assembler_15 zT_1072 rfl (zz_ltn hn rfl) (fun S1 qS1 => ?_)
  have G_S1 := zz_G.put G_S0 qS1 0 600 rfl (by omega)
  have F_S1 := zz_fr.puts F_S0 qS1 rfl
  refine zz_aload_n (x := 1072) rfl zd_2_2_5 ?_
  refine zz_getr (kd := 0) (z := 1070) zd_2_2_6 zf_Assembler_9 zT_1072 rfl (zz_ltn hn rfl) (zz_G.eq G_S1 1072 0 1070 rfl rfl) (by decide) 1070 rfl ?_
  refine zz_callVV [] zd_2_2_9 zk_Assembler_26 zT_1070 (zz_ltn hn rfl) rfl rfl ⟨Nat.le_of_ble_eq_true rfl, Nat.le_of_ble_eq_true rfl⟩ ⟨rfl, rfl⟩ (Nat.zero_le _) (Nat.zero_le _) (zc_rewind_11_5  S1 n hn G_S1 ) (fun S2 hP => ?_)
  obtain ⟨G_S2, fS2⟩ := hP
  have F_S2 := zz_fr.trans F_S1 fS2 rfl zz_nv
  refine zz_iconst zd_2_2_12 ?_
  refine zz_istore_n [some (.ref 1072), some (.ref (zz_rf 4 p0)), some (zi 0)] zd_2_2_13 (by decide) rfl ?_
  refine zz_less (ls1 := [some (.ref 1072), some (.ref (zz_rf 4 p0)), some (zi 0)]) ⟨rfl, ⟨rfl, ⟨rfl, trivial⟩⟩⟩ ?_
  exact k14 0 S2 G_S2 F_S2 (by omega)
theorem zk_TF_162 : mm_Vl "TensorForge" 162 7 1 zy_readInto_2_2 := ⟨zyw_readInto_2_2, (R_Assembler, F_Assembler, 4), rfl, mm_tb_1 560 (by decide +kernel) rfl, mm_tb_1 561 (by decide +kernel) rfl, mm_tb_1 562 (by decide +kernel) rfl⟩
theorem zf_TF_166 : mm_Fl "TensorForge" 166 7 1 .int false := ⟨R_Assembler, F_Assembler, 4, t_Assembler, rfl, i_Assembler, by decide, mm_tb_1 322 (by decide +kernel) rfl, rfl, t_Assembler_ok, n_Assembler, rfl, by decide +kernel⟩
abbrev zy_takeSpareWords_1_30 : mm_Y := (⟨"TensorForge", "takeSpareWords", "(I)V"⟩, prog_1_method_30_code, 3, none)
theorem zyw_takeSpareWords_1_30 : mm_Yw zy_takeSpareWords_1_30 1 := ⟨mm_tb_1 692 (by decide +kernel) rfl, mm_tb_1 1 (by decide +kernel) rfl, ⟨by decide, by decide⟩, by decide +kernel⟩
theorem zg_1_13_11 : (decode zy_assemble_1_13.2.1 11 = .ok ((.istore_n 1), 1)) ∧ (decode zy_assemble_1_13.2.1 12 = .ok ((.iload_n 1), 1)) ∧ (decode zy_assemble_1_13.2.1 13 = .ok ((.iconst (-1)), 1)) ∧ (decode zy_assemble_1_13.2.1 14 = .ok ((Instr.if_icmp .ne) 14, 3)) ∧ (decode zy_assemble_1_13.2.1 28 = .ok ((.iload_n 1), 1)) ∧ (decode zy_assemble_1_13.2.1 29 = .ok ((.ireturn), 1)) ∧ (decode zy_assemble_1_13.2.1 17 = .ok ((.aload_n 0), 1)) ∧ (decode zy_assemble_1_13.2.1 18 = .ok ((.aload_n 0), 1)) ∧ (decode zy_assemble_1_13.2.1 19 = .ok ((.getfield 58), 3)) ∧ (decode zy_assemble_1_13.2.1 22 = .ok ((.getfield 166), 3)) := by decide +kernel
theorem zd_1_13_11 : zz_D zy_assemble_1_13 11 (.istore_n 1) 1 12 := ⟨zg_1_13_11.1, rfl⟩
theorem zd_1_13_12 : zz_D zy_assemble_1_13 12 (.iload_n 1) 1 13 := ⟨zg_1_13_11.2.1, rfl⟩
theorem zd_1_13_13 : zz_D zy_assemble_1_13 13 (.iconst (-1)) 1 14 := ⟨zg_1_13_11.2.2.1, rfl⟩
theorem zd_1_13_14 : zz_B zy_assemble_1_13 14 (Instr.if_icmp .ne) 28 17 := ⟨14, zg_1_13_11.2.2.2.1, rfl, rfl⟩
theorem zd_1_13_28 : zz_D zy_assemble_1_13 28 (.iload_n 1) 1 29 := ⟨zg_1_13_11.2.2.2.2.1, rfl⟩
theorem zd_1_13_29 : zz_D zy_assemble_1_13 29 (.ireturn) 1 30 := ⟨zg_1_13_11.2.2.2.2.2.1, rfl⟩
theorem zd_1_13_17 : zz_D zy_assemble_1_13 17 (.aload_n 0) 1 18 := ⟨zg_1_13_11.2.2.2.2.2.2.1, rfl⟩
theorem zd_1_13_18 : zz_D zy_assemble_1_13 18 (.aload_n 0) 1 19 := ⟨zg_1_13_11.2.2.2.2.2.2.2.1, rfl⟩
theorem zd_1_13_19 : zz_D zy_assemble_1_13 19 (.getfield 58) 3 22 := ⟨zg_1_13_11.2.2.2.2.2.2.2.2.1, rfl⟩
theorem zd_1_13_22 : zz_D zy_assemble_1_13 22 (.getfield 166) 3 25 := ⟨zg_1_13_11.2.2.2.2.2.2.2.2.2, rfl⟩
theorem zd_1_13_25 : zz_D zy_assemble_1_13 25 (.invokevirtual 169) 3 28 := ⟨by decide +kernel, rfl⟩
theorem zg_1_30_0 : (decode zy_takeSpareWords_1_30.2.1 0 = .ok ((.aload_n 0), 1)) ∧ (decode zy_takeSpareWords_1_30.2.1 1 = .ok ((.getfield 19), 3)) ∧ (decode zy_takeSpareWords_1_30.2.1 4 = .ok ((.astore_n 2), 1)) ∧ (decode zy_takeSpareWords_1_30.2.1 5 = .ok ((.aload_n 0), 1)) ∧ (decode zy_takeSpareWords_1_30.2.1 6 = .ok ((.aload_n 0), 1)) ∧ (decode zy_takeSpareWords_1_30.2.1 7 = .ok ((.getfield 23), 3)) ∧ (decode zy_takeSpareWords_1_30.2.1 10 = .ok ((.putfield 19), 3)) ∧ (decode zy_takeSpareWords_1_30.2.1 13 = .ok ((.aload_n 0), 1)) ∧ (decode zy_takeSpareWords_1_30.2.1 14 = .ok ((.aload_n 2), 1)) ∧ (decode zy_takeSpareWords_1_30.2.1 15 = .ok ((.putfield 23), 3)) := by decide +kernel
theorem zd_1_30_0 : zz_D zy_takeSpareWords_1_30 0 (.aload_n 0) 1 1 := ⟨zg_1_30_0.1, rfl⟩
theorem zd_1_30_1 : zz_D zy_takeSpareWords_1_30 1 (.getfield 19) 3 4 := ⟨zg_1_30_0.2.1, rfl⟩
theorem zd_1_30_4 : zz_D zy_takeSpareWords_1_30 4 (.astore_n 2) 1 5 := ⟨zg_1_30_0.2.2.1, rfl⟩
theorem zd_1_30_5 : zz_D zy_takeSpareWords_1_30 5 (.aload_n 0) 1 6 := ⟨zg_1_30_0.2.2.2.1, rfl⟩
theorem zd_1_30_6 : zz_D zy_takeSpareWords_1_30 6 (.aload_n 0) 1 7 := ⟨zg_1_30_0.2.2.2.2.1, rfl⟩
theorem zd_1_30_7 : zz_D zy_takeSpareWords_1_30 7 (.getfield 23) 3 10 := ⟨zg_1_30_0.2.2.2.2.2.1, rfl⟩
theorem zd_1_30_10 : zz_D zy_takeSpareWords_1_30 10 (.putfield 19) 3 13 := ⟨zg_1_30_0.2.2.2.2.2.2.1, rfl⟩
theorem zd_1_30_13 : zz_D zy_takeSpareWords_1_30 13 (.aload_n 0) 1 14 := ⟨zg_1_30_0.2.2.2.2.2.2.2.1, rfl⟩
theorem zd_1_30_14 : zz_D zy_takeSpareWords_1_30 14 (.aload_n 2) 1 15 := ⟨zg_1_30_0.2.2.2.2.2.2.2.2.1, rfl⟩
theorem zd_1_30_15 : zz_D zy_takeSpareWords_1_30 15 (.putfield 23) 3 18 := ⟨zg_1_30_0.2.2.2.2.2.2.2.2.2, rfl⟩
theorem zg_1_30_18 : (decode zy_takeSpareWords_1_30.2.1 18 = .ok ((.aload_n 0), 1)) ∧ (decode zy_takeSpareWords_1_30.2.1 19 = .ok ((.iload_n 1), 1)) ∧ (decode zy_takeSpareWords_1_30.2.1 20 = .ok ((.putfield 26), 3)) ∧ (decode zy_takeSpareWords_1_30.2.1 23 = .ok ((.return_), 1)) := by decide +kernel
theorem zd_1_30_18 : zz_D zy_takeSpareWords_1_30 18 (.aload_n 0) 1 19 := ⟨zg_1_30_18.1, rfl⟩
theorem zd_1_30_19 : zz_D zy_takeSpareWords_1_30 19 (.iload_n 1) 1 20 := ⟨zg_1_30_18.2.1, rfl⟩
theorem zd_1_30_20 : zz_D zy_takeSpareWords_1_30 20 (.putfield 26) 3 23 := ⟨zg_1_30_18.2.2.1, rfl⟩
theorem zd_1_30_23 : zz_D zy_takeSpareWords_1_30 23 (.return_) 1 24 := ⟨zg_1_30_18.2.2.2, rfl⟩
-- TensorForge takeSpareWords (I)V
abbrev zr_takeSpareWords_1_30 : Room := { frames := 0, cells := 0, slots := 0, locals := 0 }
def zp_takeSpareWords_1_30 (p0 : Int) (S0 : zz_S) : zz_S → Prop := fun S => zz_G S ∧ zz_fr [(1000, 9), (1000, 10), (1000, 11)] [] (fun _ _ => False) S0 S
theorem zc_takeSpareWords_1_30 {g : mm_G} {l : Launch} (p0 : Int) (S0 : zz_S) (n : Nat) (hn : zz_end ≤ n) (G_S0 : zz_G S0) (hp0 : 0 ≤ p0 ∧ p0 ≤ 600) : mm_Met g l zy_takeSpareWords_1_30 zr_takeSpareWords_1_30 [.ref 1000, zi p0] (zz_M S0 n) n (zz_QV n (zp_takeSpareWords_1_30 p0 S0)) := by
  refine zz_enter (by decide) (Nat.le_of_ble_eq_true rfl) (zz_less (ls1 := [some (.ref 1000), some (zi p0)]) ⟨rfl, ⟨rfl, trivial⟩⟩ ?_)
  have F_S0 : zz_fr [(1000, 9), (1000, 10), (1000, 11)] [] (fun _ _ => False) S0 S0 := zz_fr.refl
  refine zz_aload_n (x := 1000) rfl zd_1_30_0 ?_
  have g1 := zz_G.r G_S0 1000 9 0 1 rfl rfl
  refine zz_getr (kd := 2) (z := S0 1000 9) zd_1_30_1 zf_TF_19 zT_1000 rfl (zz_ltn hn rfl) rfl (by omega) (zz_rf 4 (S0 1000 9)) rfl ?_
  refine zz_astore_n [some (.ref 1000), some (zi p0), some (.ref (zz_rf 4 (S0 1000 9)))] zd_1_30_4 (by decide) rfl ?_
  refine zz_aload_n (x := 1000) rfl zd_1_30_5 ?_
  refine zz_aload_n (x := 1000) rfl zd_1_30_6 ?_
  have g2 := zz_G.r G_S0 1000 10 0 1 rfl rfl
  refine zz_getr (kd := 2) (z := S0 1000 10) zd_1_30_7 zf_TF_23 zT_1000 rfl (zz_ltn hn rfl) rfl (by omega) (zz_rf 4 (S0 1000 10)) rfl ?_
  refine zz_putr (kd := 2) (S0 1000 10) zd_1_30_10 zf_TF_19 zT_1000 rfl (zz_ltn hn rfl) (by omega) rfl (fun _ => rfl) (fun _ => rfl) (fun S3 qS3 => ?_)
  have G_S3 := zz_G.put G_S0 qS3 0 1 rfl (by omega)
  have F_S3 := zz_fr.puts F_S0 qS3 rfl
  refine zz_aload_n (x := 1000) rfl zd_1_30_13 ?_
  refine zz_aload_n (x := zz_rf 4 (S0 1000 9)) rfl zd_1_30_14 ?_
  refine zz_putr (kd := 2) (S0 1000 9) zd_1_30_15 zf_TF_23 zT_1000 rfl (zz_ltn hn rfl) (by omega) rfl (fun _ => rfl) (fun _ => rfl) (fun S4 qS4 => ?_)
  have G_S4 := zz_G.put G_S3 qS4 0 1 rfl (by omega)
  have F_S4 := zz_fr.puts F_S3 qS4 rfl
  refine zz_aload_n (x := 1000) rfl zd_1_30_18 ?_
  refine zz_iload_n (x := p0) rfl zd_1_30_19 ?_
  refine zz_puti zd_1_30_20 zf_TF_26 zT_1000 rfl (zz_ltn hn rfl) (fun S5 qS5 => ?_)
  have G_S5 := zz_G.put G_S4 qS5 0 600 rfl (by omega)
  have F_S5 := zz_fr.puts F_S4 qS5 rfl
  exact zz_vret zd_1_30_23 rfl (Nat.zero_le _) (Nat.zero_le _) ⟨_, rfl, G_S5, F_S5⟩
theorem zk_TF_169 : mm_Vl "TensorForge" 169 0 1 zy_takeSpareWords_1_30 := ⟨zyw_takeSpareWords_1_30, (R_TF, F_TF, 12), rfl, mm_tb_1 689 (by decide +kernel) rfl, mm_tb_1 691 (by decide +kernel) rfl, mm_tb_s 13 (by decide +kernel) rfl⟩
-- TensorForge assemble ()I
abbrev zr_assemble_1_13 : Room := { frames := 10, cells := 0, slots := 0, locals := 135 }
def zp_assemble_1_13  (S0 : zz_S) : Int → zz_S → Prop := fun r S => zz_G S ∧ zz_fr [(1000, 9), (1000, 10), (1000, 11), (1070, 2), (1070, 3), (1070, 4), (1070, 5), (1070, 6), (1072, 1), (1072, 2), (1072, 3)] [] (fun a i => a = zz_rf 4 (S0 1000 10)) S0 S ∧ ((-2147483648) ≤ r ∧ r ≤ 2147483647)
theorem zc_assemble_1_13 {g : mm_G} {l : Launch}  (S0 : zz_S) (n : Nat) (hn : zz_end ≤ n) (G_S0 : zz_G S0)  : mm_Met g l zy_assemble_1_13 zr_assemble_1_13 [.ref 1000] (zz_M S0 n) n (zz_QI n (zp_assemble_1_13  S0)) := by
  refine zz_enter (by decide) (Nat.le_of_ble_eq_true rfl) (zz_less (ls1 := [some (.ref 1000)]) ⟨rfl, trivial⟩ ?_)
  have F_S0 : zz_fr [(1000, 9), (1000, 10), (1000, 11), (1070, 2), (1070, 3), (1070, 4), (1070, 5), (1070, 6), (1072, 1), (1072, 2), (1072, 3)] [] (fun a i => a = zz_rf 4 (S0 1000 10)) S0 S0 := zz_fr.refl
  refine zz_aload_n (x := 1000) rfl zd_1_13_0 ?_
  refine zz_getr (kd := 0) (z := 1072) zd_1_13_1 zf_TF_58 zT_1000 rfl (zz_ltn hn rfl) (zz_G.eq G_S0 1000 3 1072 rfl rfl) (by decide) 1072 rfl ?_
  refine zz_aload_n (x := 1000) rfl zd_1_13_4 ?_
  have g1 := zz_G.r G_S0 1000 10 0 1 rfl rfl
  refine zz_getr (kd := 2) (z := S0 1000 10) zd_1_13_5 zf_TF_23 zT_1000 rfl (zz_ltn hn rfl) rfl (by omega) (zz_rf 4 (S0 1000 10)) rfl ?_
  refine zz_callVI [.ref (zz_rf 4 (S0 1000 10))] zd_1_13_8 zk_TF_162 zT_1072 (zz_ltn hn rfl) rfl rfl ⟨Nat.le_of_ble_eq_true rfl, Nat.le_of_ble_eq_true rfl⟩ ⟨rfl, rfl⟩ (Nat.zero_le _) (Nat.zero_le _) (zc_readInto_2_2 (S0 1000 10) S0 n hn G_S0 (by omega)) (fun v3 S2 hP => ?_)
  obtain ⟨G_S2, fS2, o4⟩ := hP
  have g5 := zz_G.r G_S0 1000 10 0 1 rfl rfl
  have F_S2 := zz_fr.trans F_S0 fS2 rfl (fun a i h => Or.inr (Or.inr (h)))
  have b6 := zz_rf4 (z := (S0 1000 10)) (by omega)
  refine zz_istore_n [some (.ref 1000), some (zi v3)] zd_1_13_11 (by decide) rfl ?_
  refine zz_iload_n (x := v3) rfl zd_1_13_12 ?_
  refine zz_iconst zd_1_13_13 ?_
  refine zz_icmp_ne (by omega) (by omega) zd_1_13_14 (fun c7 => ?_) (fun c7 => ?_)
  · refine zz_iload_n (x := v3) rfl zd_1_13_28 ?_
    exact zz_iret zd_1_13_29 rfl (Nat.zero_le _) (Nat.zero_le _) ⟨_, _, rfl, G_S2, F_S2, by omega⟩
  · refine zz_aload_n (x := 1000) rfl zd_1_13_17 ?_
    refine zz_aload_n (x := 1000) rfl zd_1_13_18 ?_
    refine zz_getr (kd := 0) (z := 1072) zd_1_13_19 zf_TF_58 zT_1000 rfl (zz_ltn hn rfl) (zz_G.eq G_S2 1000 3 1072 rfl rfl) (by decide) 1072 rfl ?_
    have g8 := zz_G.r G_S2 1072 1 0 600 rfl rfl
    refine zz_geti (z := S2 1072 1) zd_1_13_22 zf_TF_166 zT_1072 rfl (zz_ltn hn rfl) rfl ?_
    refine zz_callVV [zi (S2 1072 1)] zd_1_13_25 zk_TF_169 zT_1000 (zz_ltn hn rfl) rfl rfl ⟨Nat.le_of_ble_eq_true rfl, Nat.le_of_ble_eq_true rfl⟩ ⟨rfl, rfl⟩ (Nat.zero_le _) (Nat.zero_le _) (zc_takeSpareWords_1_30 (S2 1072 1) S2 n hn G_S2 (by omega)) (fun S9 hP => ?_)
    obtain ⟨G_S9, fS9⟩ := hP
    have F_S9 := zz_fr.trans F_S2 fS9 rfl zz_nv
    refine zz_iload_n (x := v3) rfl zd_1_13_28 ?_
    exact zz_iret zd_1_13_29 rfl (Nat.zero_le _) (Nat.zero_le _) ⟨_, _, rfl, G_S9, F_S9, by omega⟩
abbrev zy_listing_1_14 : mm_Y := (⟨"TensorForge", "listing", "(II)I"⟩, prog_1_method_14_code, 3, (some .int))
theorem zyw_listing_1_14 : mm_Yw zy_listing_1_14 2 := ⟨mm_tb_1 1250 (by decide +kernel) rfl, mm_tb_1 1 (by decide +kernel) rfl, ⟨by decide, by decide⟩, by decide +kernel⟩
theorem zt_1_14_16 : zz_Thr zy_listing_1_14 16 101 172 105 := ⟨by decide +kernel, by decide +kernel, by decide +kernel, by decide +kernel, by decide +kernel⟩
theorem zxl_TF_101_172_105 : mm_Xl "TensorForge" 101 172 105 1 := ⟨mm_tb_1 1133 (by decide +kernel) rfl, mm_tb_1 1134 (by decide +kernel) rfl, mm_tb_1 18 (by decide +kernel) rfl, ⟨41, by decide +kernel⟩, zxa_TF_105⟩
abbrev zy_writeInstruction_5_3 : mm_Y := (⟨"TensorForge$Line", "writeInstruction", "(J)V"⟩, prog_5_method_3_code, 3, none)
theorem zyw_writeInstruction_5_3 : mm_Yw zy_writeInstruction_5_3 1 := ⟨mm_tb_1 1255 (by decide +kernel) rfl, mm_tb_1 11 (by decide +kernel) rfl, ⟨by decide, by decide⟩, by decide +kernel⟩
theorem zk_Line_21 : mm_Sl "TensorForge$Line" 21 2 zy_get_12_2 := ⟨zyw_get_12_2, mm_tb_1 1256 (by decide +kernel) rfl, mm_tb_1 493 (by decide +kernel) rfl⟩
theorem zk_Line_25 : mm_Sl "TensorForge$Line" 25 1 zy_nameOf_12_12 := ⟨zyw_nameOf_12_12, mm_tb_1 1257 (by decide +kernel) rfl, mm_tb_1 582 (by decide +kernel) rfl⟩
abbrev zy_addToken_5_10 : mm_Y := (⟨"TensorForge$Line", "addToken", "(Ljava/lang/String;)V"⟩, prog_5_method_10_code, 3, none)
theorem zyw_addToken_5_10 : mm_Yw zy_addToken_5_10 1 := ⟨mm_tb_1 1261 (by decide +kernel) rfl, mm_tb_1 11 (by decide +kernel) rfl, ⟨by decide, by decide⟩, by decide +kernel⟩
abbrev zy_addSign_5_12 : mm_Y := (⟨"TensorForge$Line", "addSign", "(C)V"⟩, prog_5_method_12_code, 2, none)
theorem zyw_addSign_5_12 : mm_Yw zy_addSign_5_12 1 := ⟨mm_tb_1 1265 (by decide +kernel) rfl, mm_tb_1 11 (by decide +kernel) rfl, ⟨by decide, by decide⟩, by decide +kernel⟩
theorem zg_1_14_0 : (decode zy_listing_1_14.2.1 0 = .ok ((.iload_n 1), 1)) ∧ (decode zy_listing_1_14.2.1 1 = .ok ((Instr.ifCond .lt) 15, 3)) ∧ (decode zy_listing_1_14.2.1 4 = .ok ((.iload_n 1), 1)) ∧ (decode zy_listing_1_14.2.1 5 = .ok ((.aload_n 0), 1)) ∧ (decode zy_listing_1_14.2.1 6 = .ok ((.getfield 26), 3)) ∧ (decode zy_listing_1_14.2.1 9 = .ok ((Instr.if_icmp .ge) 7, 3)) ∧ (decode zy_listing_1_14.2.1 12 = .ok ((.iload_n 2), 1)) ∧ (decode zy_listing_1_14.2.1 13 = .ok ((Instr.ifCond .ge) 13, 3)) ∧ (decode zy_listing_1_14.2.1 26 = .ok ((.aload_n 0), 1)) ∧ (decode zy_listing_1_14.2.1 27 = .ok ((.getfield 83), 3)) := by decide +kernel
theorem zd_1_14_0 : zz_D zy_listing_1_14 0 (.iload_n 1) 1 1 := ⟨zg_1_14_0.1, rfl⟩
theorem zd_1_14_1 : zz_B zy_listing_1_14 1 (Instr.ifCond .lt) 16 4 := ⟨15, zg_1_14_0.2.1, rfl, rfl⟩
theorem zd_1_14_4 : zz_D zy_listing_1_14 4 (.iload_n 1) 1 5 := ⟨zg_1_14_0.2.2.1, rfl⟩
theorem zd_1_14_5 : zz_D zy_listing_1_14 5 (.aload_n 0) 1 6 := ⟨zg_1_14_0.2.2.2.1, rfl⟩
theorem zd_1_14_6 : zz_D zy_listing_1_14 6 (.getfield 26) 3 9 := ⟨zg_1_14_0.2.2.2.2.1, rfl⟩
theorem zd_1_14_9 : zz_B zy_listing_1_14 9 (Instr.if_icmp .ge) 16 12 := ⟨7, zg_1_14_0.2.2.2.2.2.1, rfl, rfl⟩
theorem zd_1_14_12 : zz_D zy_listing_1_14 12 (.iload_n 2) 1 13 := ⟨zg_1_14_0.2.2.2.2.2.2.1, rfl⟩
theorem zd_1_14_13 : zz_B zy_listing_1_14 13 (Instr.ifCond .ge) 26 16 := ⟨13, zg_1_14_0.2.2.2.2.2.2.2.1, rfl, rfl⟩
theorem zd_1_14_26 : zz_D zy_listing_1_14 26 (.aload_n 0) 1 27 := ⟨zg_1_14_0.2.2.2.2.2.2.2.2.1, rfl⟩
theorem zd_1_14_27 : zz_D zy_listing_1_14 27 (.getfield 83) 3 30 := ⟨zg_1_14_0.2.2.2.2.2.2.2.2.2, rfl⟩
theorem zg_1_14_30 : (decode zy_listing_1_14.2.1 30 = .ok ((.aload_n 0), 1)) ∧ (decode zy_listing_1_14.2.1 31 = .ok ((.getfield 19), 3)) ∧ (decode zy_listing_1_14.2.1 34 = .ok ((.iload_n 1), 1)) ∧ (decode zy_listing_1_14.2.1 35 = .ok ((.laload), 1)) ∧ (decode zy_listing_1_14.2.1 36 = .ok ((.invokevirtual 174), 3)) := by decide +kernel
theorem zd_1_14_30 : zz_D zy_listing_1_14 30 (.aload_n 0) 1 31 := ⟨zg_1_14_30.1, rfl⟩
theorem zd_1_14_31 : zz_D zy_listing_1_14 31 (.getfield 19) 3 34 := ⟨zg_1_14_30.2.1, rfl⟩
theorem zd_1_14_34 : zz_D zy_listing_1_14 34 (.iload_n 1) 1 35 := ⟨zg_1_14_30.2.2.1, rfl⟩
theorem zd_1_14_35 : zz_D zy_listing_1_14 35 (.laload) 1 36 := ⟨zg_1_14_30.2.2.2.1, rfl⟩
theorem zd_1_14_36 : zz_D zy_listing_1_14 36 (.invokevirtual 174) 3 39 := ⟨zg_1_14_30.2.2.2.2, rfl⟩
theorem zg_5_3_0 : (decode zy_writeInstruction_5_3.2.1 0 = .ok ((.aload_n 0), 1)) ∧ (decode zy_writeInstruction_5_3.2.1 1 = .ok ((.iconst 0), 1)) ∧ (decode zy_writeInstruction_5_3.2.1 2 = .ok ((.putfield 15), 3)) ∧ (decode zy_writeInstruction_5_3.2.1 5 = .ok ((.aload_n 0), 1)) ∧ (decode zy_writeInstruction_5_3.2.1 6 = .ok ((.lload_n 1), 1)) ∧ (decode zy_writeInstruction_5_3.2.1 7 = .ok ((.iconst 0), 1)) ∧ (decode zy_writeInstruction_5_3.2.1 8 = .ok ((.invokestatic 21), 3)) ∧ (decode zy_writeInstruction_5_3.2.1 11 = .ok ((.invokestatic 25), 3)) ∧ (decode zy_writeInstruction_5_3.2.1 14 = .ok ((.invokevirtual 29), 3)) := by decide +kernel
theorem zd_5_3_0 : zz_D zy_writeInstruction_5_3 0 (.aload_n 0) 1 1 := ⟨zg_5_3_0.1, rfl⟩
theorem zd_5_3_1 : zz_D zy_writeInstruction_5_3 1 (.iconst 0) 1 2 := ⟨zg_5_3_0.2.1, rfl⟩
theorem zd_5_3_2 : zz_D zy_writeInstruction_5_3 2 (.putfield 15) 3 5 := ⟨zg_5_3_0.2.2.1, rfl⟩
theorem zd_5_3_5 : zz_D zy_writeInstruction_5_3 5 (.aload_n 0) 1 6 := ⟨zg_5_3_0.2.2.2.1, rfl⟩
theorem zd_5_3_6 : zz_D zy_writeInstruction_5_3 6 (.lload_n 1) 1 7 := ⟨zg_5_3_0.2.2.2.2.1, rfl⟩
theorem zd_5_3_7 : zz_D zy_writeInstruction_5_3 7 (.iconst 0) 1 8 := ⟨zg_5_3_0.2.2.2.2.2.1, rfl⟩
theorem zd_5_3_8 : zz_D zy_writeInstruction_5_3 8 (.invokestatic 21) 3 11 := ⟨zg_5_3_0.2.2.2.2.2.2.1, rfl⟩
theorem zd_5_3_11 : zz_D zy_writeInstruction_5_3 11 (.invokestatic 25) 3 14 := ⟨zg_5_3_0.2.2.2.2.2.2.2.1, rfl⟩
theorem zd_5_3_14 : zz_D zy_writeInstruction_5_3 14 (.invokevirtual 29) 3 17 := ⟨zg_5_3_0.2.2.2.2.2.2.2.2, rfl⟩
theorem zg_5_10_0 : (decode zy_addToken_5_10.2.1 0 = .ok ((.aload_n 0), 1)) ∧ (decode zy_addToken_5_10.2.1 1 = .ok ((.getfield 15), 3)) ∧ (decode zy_addToken_5_10.2.1 4 = .ok ((Instr.ifCond .le) 9, 3)) ∧ (decode zy_addToken_5_10.2.1 13 = .ok ((.iconst 0), 1)) ∧ (decode zy_addToken_5_10.2.1 14 = .ok ((.istore_n 2), 1)) ∧ (decode zy_addToken_5_10.2.1 7 = .ok ((.aload_n 0), 1)) ∧ (decode zy_addToken_5_10.2.1 8 = .ok ((.bipush 32), 2)) ∧ (decode zy_addToken_5_10.2.1 10 = .ok ((.invokevirtual 69), 3)) := by decide +kernel
theorem zd_5_10_0 : zz_D zy_addToken_5_10 0 (.aload_n 0) 1 1 := ⟨zg_5_10_0.1, rfl⟩
theorem zd_5_10_1 : zz_D zy_addToken_5_10 1 (.getfield 15) 3 4 := ⟨zg_5_10_0.2.1, rfl⟩
theorem zd_5_10_4 : zz_B zy_addToken_5_10 4 (Instr.ifCond .le) 13 7 := ⟨9, zg_5_10_0.2.2.1, rfl, rfl⟩
theorem zd_5_10_13 : zz_D zy_addToken_5_10 13 (.iconst 0) 1 14 := ⟨zg_5_10_0.2.2.2.1, rfl⟩
theorem zd_5_10_14 : zz_D zy_addToken_5_10 14 (.istore_n 2) 1 15 := ⟨zg_5_10_0.2.2.2.2.1, rfl⟩
theorem zd_5_10_7 : zz_D zy_addToken_5_10 7 (.aload_n 0) 1 8 := ⟨zg_5_10_0.2.2.2.2.2.1, rfl⟩
theorem zd_5_10_8 : zz_D zy_addToken_5_10 8 (.bipush 32) 2 10 := ⟨zg_5_10_0.2.2.2.2.2.2.1, rfl⟩
theorem zd_5_10_10 : zz_D zy_addToken_5_10 10 (.invokevirtual 69) 3 13 := ⟨zg_5_10_0.2.2.2.2.2.2.2, rfl⟩
theorem zg_5_12_0 : (decode zy_addSign_5_12.2.1 0 = .ok ((.aload_n 0), 1)) ∧ (decode zy_addSign_5_12.2.1 1 = .ok ((.getfield 15), 3)) ∧ (decode zy_addSign_5_12.2.1 4 = .ok ((.aload_n 0), 1)) ∧ (decode zy_addSign_5_12.2.1 5 = .ok ((.getfield 11), 3)) ∧ (decode zy_addSign_5_12.2.1 8 = .ok ((.arraylength), 1)) ∧ (decode zy_addSign_5_12.2.1 9 = .ok ((Instr.if_icmp .ge) 23, 3)) ∧ (decode zy_addSign_5_12.2.1 32 = .ok ((.return_), 1)) ∧ (decode zy_addSign_5_12.2.1 12 = .ok ((.aload_n 0), 1)) ∧ (decode zy_addSign_5_12.2.1 13 = .ok ((.getfield 11), 3)) ∧ (decode zy_addSign_5_12.2.1 16 = .ok ((.aload_n 0), 1)) := by decide +kernel
theorem zd_5_12_0 : zz_D zy_addSign_5_12 0 (.aload_n 0) 1 1 := ⟨zg_5_12_0.1, rfl⟩
theorem zd_5_12_1 : zz_D zy_addSign_5_12 1 (.getfield 15) 3 4 := ⟨zg_5_12_0.2.1, rfl⟩
theorem zd_5_12_4 : zz_D zy_addSign_5_12 4 (.aload_n 0) 1 5 := ⟨zg_5_12_0.2.2.1, rfl⟩
theorem zd_5_12_5 : zz_D zy_addSign_5_12 5 (.getfield 11) 3 8 := ⟨zg_5_12_0.2.2.2.1, rfl⟩
theorem zd_5_12_8 : zz_D zy_addSign_5_12 8 (.arraylength) 1 9 := ⟨zg_5_12_0.2.2.2.2.1, rfl⟩
theorem zd_5_12_9 : zz_B zy_addSign_5_12 9 (Instr.if_icmp .ge) 32 12 := ⟨23, zg_5_12_0.2.2.2.2.2.1, rfl, rfl⟩
theorem zd_5_12_32 : zz_D zy_addSign_5_12 32 (.return_) 1 33 := ⟨zg_5_12_0.2.2.2.2.2.2.1, rfl⟩
theorem zd_5_12_12 : zz_D zy_addSign_5_12 12 (.aload_n 0) 1 13 := ⟨zg_5_12_0.2.2.2.2.2.2.2.1, rfl⟩
theorem zd_5_12_13 : zz_D zy_addSign_5_12 13 (.getfield 11) 3 16 := ⟨zg_5_12_0.2.2.2.2.2.2.2.2.1, rfl⟩
theorem zd_5_12_16 : zz_D zy_addSign_5_12 16 (.aload_n 0) 1 17 := ⟨zg_5_12_0.2.2.2.2.2.2.2.2.2, rfl⟩
theorem zg_5_12_17 : (decode zy_addSign_5_12.2.1 17 = .ok ((.getfield 15), 3)) ∧ (decode zy_addSign_5_12.2.1 20 = .ok ((.iload_n 1), 1)) ∧ (decode zy_addSign_5_12.2.1 21 = .ok ((.castore), 1)) ∧ (decode zy_addSign_5_12.2.1 22 = .ok ((.aload_n 0), 1)) ∧ (decode zy_addSign_5_12.2.1 23 = .ok ((.dup), 1)) ∧ (decode zy_addSign_5_12.2.1 24 = .ok ((.getfield 15), 3)) ∧ (decode zy_addSign_5_12.2.1 27 = .ok ((.iconst 1), 1)) ∧ (decode zy_addSign_5_12.2.1 28 = .ok ((.iadd), 1)) ∧ (decode zy_addSign_5_12.2.1 29 = .ok ((.putfield 15), 3)) := by decide +kernel
theorem zd_5_12_17 : zz_D zy_addSign_5_12 17 (.getfield 15) 3 20 := ⟨zg_5_12_17.1, rfl⟩
theorem zd_5_12_20 : zz_D zy_addSign_5_12 20 (.iload_n 1) 1 21 := ⟨zg_5_12_17.2.1, rfl⟩
theorem zd_5_12_21 : zz_D zy_addSign_5_12 21 (.castore) 1 22 := ⟨zg_5_12_17.2.2.1, rfl⟩
theorem zd_5_12_22 : zz_D zy_addSign_5_12 22 (.aload_n 0) 1 23 := ⟨zg_5_12_17.2.2.2.1, rfl⟩
theorem zd_5_12_23 : zz_D zy_addSign_5_12 23 (.dup) 1 24 := ⟨zg_5_12_17.2.2.2.2.1, rfl⟩
theorem zd_5_12_24 : zz_D zy_addSign_5_12 24 (.getfield 15) 3 27 := ⟨zg_5_12_17.2.2.2.2.2.1, rfl⟩
theorem zd_5_12_27 : zz_D zy_addSign_5_12 27 (.iconst 1) 1 28 := ⟨zg_5_12_17.2.2.2.2.2.2.1, rfl⟩
theorem zd_5_12_28 : zz_D zy_addSign_5_12 28 (.iadd) 1 29 := ⟨zg_5_12_17.2.2.2.2.2.2.2.1, rfl⟩
theorem zd_5_12_29 : zz_D zy_addSign_5_12 29 (.putfield 15) 3 32 := ⟨zg_5_12_17.2.2.2.2.2.2.2.2, rfl⟩
-- TensorForge$Line addSign (C)V
abbrev zr_addSign_5_12 : Room := { frames := 0, cells := 0, slots := 0, locals := 0 }
def zp_addSign_5_12 (p0 : Int) (S0 : zz_S) : zz_S → Prop := fun S => zz_G S ∧ zz_fr [(1077, 1)] [1078] (fun _ _ => False) S0 S
theorem zc_addSign_5_12 {g : mm_G} {l : Launch} (p0 : Int) (S0 : zz_S) (n : Nat) (hn : zz_end ≤ n) (G_S0 : zz_G S0) (hp0 : 0 ≤ p0 ∧ p0 ≤ 65535) : mm_Met g l zy_addSign_5_12 zr_addSign_5_12 [.ref 1077, zi p0] (zz_M S0 n) n (zz_QV n (zp_addSign_5_12 p0 S0)) := by
  refine zz_enter (by decide) (Nat.le_of_ble_eq_true rfl) (zz_less (ls1 := [some (.ref 1077), some (zi p0)]) ⟨rfl, ⟨rfl, trivial⟩⟩ ?_)
  have F_S0 : zz_fr [(1077, 1)] [1078] (fun _ _ => False) S0 S0 := zz_fr.refl
  refine zz_aload_n (x := 1077) rfl zd_5_12_0 ?_
  have g1 := zz_G.r G_S0 1077 1 0 128 rfl rfl
  refine zz_geti (z := S0 1077 1) zd_5_12_1 zf_Line_15 zT_1077 rfl (zz_ltn hn rfl) rfl ?_
  refine zz_aload_n (x := 1077) rfl zd_5_12_4 ?_
  refine zz_getr (kd := 0) (z := 1078) zd_5_12_5 zf_Line_11 zT_1077 rfl (zz_ltn hn rfl) (zz_G.eq G_S0 1077 0 1078 rfl rfl) (by decide) 1078 rfl ?_
  refine zz_alen zd_5_12_8 zT_1078 rfl (zz_ltn hn rfl) ?_
  refine zz_icmp_ge (by omega) (by omega) zd_5_12_9 (fun c2 => ?_) (fun c2 => ?_)
  · exact zz_vret zd_5_12_32 rfl (Nat.zero_le _) (Nat.zero_le _) ⟨_, rfl, G_S0, F_S0⟩
  · refine zz_aload_n (x := 1077) rfl zd_5_12_12 ?_
    refine zz_getr (kd := 0) (z := 1078) zd_5_12_13 zf_Line_11 zT_1077 rfl (zz_ltn hn rfl) (zz_G.eq G_S0 1077 0 1078 rfl rfl) (by decide) 1078 rfl ?_
    refine zz_aload_n (x := 1077) rfl zd_5_12_16 ?_
    refine zz_geti (z := S0 1077 1) zd_5_12_17 zf_Line_15 zT_1077 rfl (zz_ltn hn rfl) rfl ?_
    refine zz_iload_n (x := p0) rfl zd_5_12_20 ?_
    refine zz_cast zd_5_12_21 zT_1078 rfl (zz_ltn hn rfl) (by decide) (by omega) (by omega) (fun S3 qS3 => ?_)
    have G_S3 := zz_G.put G_S0 qS3 0 65535 rfl (by omega)
    have F_S3 := zz_fr.putc F_S0 qS3 rfl
    refine zz_aload_n (x := 1077) rfl zd_5_12_22 ?_
    refine zz_dup rfl zd_5_12_23 ?_
    refine zz_geti (z := S0 1077 1) zd_5_12_24 zf_Line_15 zT_1077 rfl (zz_ltn hn rfl) (zz_ro qS3 (fun h => absurd h.1 (by decide)) rfl) ?_
    refine zz_iconst zd_5_12_27 ?_
    refine zz_iadd zd_5_12_28 ?_
    refine zz_puti zd_5_12_29 zf_Line_15 zT_1077 rfl (zz_ltn hn rfl) (fun S4 qS4 => ?_)
    have G_S4 := zz_G.put G_S3 qS4 0 128 rfl (by omega)
    have F_S4 := zz_fr.puts F_S3 qS4 rfl
    exact zz_vret zd_5_12_32 rfl (Nat.zero_le _) (Nat.zero_le _) ⟨_, rfl, G_S4, F_S4⟩
theorem zk_Line_69 : mm_Vl "TensorForge$Line" 69 10 1 zy_addSign_5_12 := ⟨zyw_addSign_5_12, (R_Line, F_Line, 2), rfl, mm_tb_1 1262 (by decide +kernel) rfl, mm_tb_1 1264 (by decide +kernel) rfl, mm_tb_s 55 (by decide +kernel) rfl⟩
theorem zkT_Line_141 : mm_Yw zy_length_21_54 0 ∧ Cond.methodLink "TensorForge$Line" 141 zy_length_21_54.1 ∈ mm_tb ∧ Cond.instanceMethod zy_length_21_54.1 ∈ mm_tb ∧ Cond.selects "java/lang/String" zy_length_21_54.1 zy_length_21_54.1 ∈ mm_tb := ⟨zyw_length_21_54, mm_tb_1 1266 (by decide +kernel) rfl, mm_tb_1 599 (by decide +kernel) rfl, mm_tb_1 600 (by decide +kernel) rfl⟩
theorem zkT_Line_147 : mm_Yw zy_charAt_21_56 1 ∧ Cond.methodLink "TensorForge$Line" 147 zy_charAt_21_56.1 ∈ mm_tb ∧ Cond.instanceMethod zy_charAt_21_56.1 ∈ mm_tb ∧ Cond.selects "java/lang/String" zy_charAt_21_56.1 zy_charAt_21_56.1 ∈ mm_tb := ⟨zyw_charAt_21_56, mm_tb_1 1267 (by decide +kernel) rfl, mm_tb_1 609 (by decide +kernel) rfl, mm_tb_1 610 (by decide +kernel) rfl⟩
theorem zg_5_10_15 : (decode zy_addToken_5_10.2.1 15 = .ok ((.iload_n 2), 1)) ∧ (decode zy_addToken_5_10.2.1 16 = .ok ((.aload_n 1), 1)) ∧ (decode zy_addToken_5_10.2.1 17 = .ok ((.invokevirtual 141), 3)) ∧ (decode zy_addToken_5_10.2.1 20 = .ok ((Instr.if_icmp .ge) 18, 3)) ∧ (decode zy_addToken_5_10.2.1 38 = .ok ((.return_), 1)) ∧ (decode zy_addToken_5_10.2.1 23 = .ok ((.aload_n 0), 1)) ∧ (decode zy_addToken_5_10.2.1 24 = .ok ((.aload_n 1), 1)) ∧ (decode zy_addToken_5_10.2.1 25 = .ok ((.iload_n 2), 1)) ∧ (decode zy_addToken_5_10.2.1 26 = .ok ((.invokevirtual 147), 3)) ∧ (decode zy_addToken_5_10.2.1 29 = .ok ((.invokevirtual 69), 3)) := by decide +kernel
theorem zd_5_10_15 : zz_D zy_addToken_5_10 15 (.iload_n 2) 1 16 := ⟨zg_5_10_15.1, rfl⟩
theorem zd_5_10_16 : zz_D zy_addToken_5_10 16 (.aload_n 1) 1 17 := ⟨zg_5_10_15.2.1, rfl⟩
theorem zd_5_10_17 : zz_D zy_addToken_5_10 17 (.invokevirtual 141) 3 20 := ⟨zg_5_10_15.2.2.1, rfl⟩
theorem zd_5_10_20 : zz_B zy_addToken_5_10 20 (Instr.if_icmp .ge) 38 23 := ⟨18, zg_5_10_15.2.2.2.1, rfl, rfl⟩
theorem zd_5_10_38 : zz_D zy_addToken_5_10 38 (.return_) 1 39 := ⟨zg_5_10_15.2.2.2.2.1, rfl⟩
theorem zd_5_10_23 : zz_D zy_addToken_5_10 23 (.aload_n 0) 1 24 := ⟨zg_5_10_15.2.2.2.2.2.1, rfl⟩
theorem zd_5_10_24 : zz_D zy_addToken_5_10 24 (.aload_n 1) 1 25 := ⟨zg_5_10_15.2.2.2.2.2.2.1, rfl⟩
theorem zd_5_10_25 : zz_D zy_addToken_5_10 25 (.iload_n 2) 1 26 := ⟨zg_5_10_15.2.2.2.2.2.2.2.1, rfl⟩
theorem zd_5_10_26 : zz_D zy_addToken_5_10 26 (.invokevirtual 147) 3 29 := ⟨zg_5_10_15.2.2.2.2.2.2.2.2.1, rfl⟩
theorem zd_5_10_29 : zz_D zy_addToken_5_10 29 (.invokevirtual 69) 3 32 := ⟨zg_5_10_15.2.2.2.2.2.2.2.2.2, rfl⟩
theorem zg_5_10_32 : (decode zy_addToken_5_10.2.1 32 = .ok ((.iinc 2 1), 3)) ∧ (decode zy_addToken_5_10.2.1 35 = .ok (Instr.goto (-20), 3)) := by decide +kernel
theorem zd_5_10_32 : zz_D zy_addToken_5_10 32 (.iinc 2 1) 3 35 := ⟨zg_5_10_32.1, rfl⟩
theorem zd_5_10_35 : zz_B zy_addToken_5_10 35 Instr.goto 15 38 := ⟨(-20), zg_5_10_32.2, rfl, rfl⟩
-- TensorForge$Line addToken (Ljava/lang/String;)V
abbrev zr_addToken_5_10 : Room := { frames := 4, cells := 0, slots := 0, locals := 54 }
def zp_addToken_5_10 (p0 : Nat) (S0 : zz_S) : zz_S → Prop := fun S => zz_G S ∧ zz_fr [(1077, 1)] [1078] (fun _ _ => False) S0 S
theorem zb_addToken_5_10_15 {g : mm_G} {l : Launch} (p0 : Nat) (S0 : zz_S) (n : Nat) (hn : zz_end ≤ n) (G_S0 : zz_G S0) (hp0 : p0 < 59) (x2 : Int) (S : zz_S) (G_S : zz_G S) (F_S : zz_fr [(1077, 1)] [1078] (fun _ _ => False) S0 S) (i15_0 : 0 ≤ x2 ∧ x2 ≤ 38) (R : Nat) (hR : (2147483647 - x2).toNat = R) (k15 : ∀ (x2 : Int) (S : zz_S), zz_G S → zz_fr [(1077, 1)] [1078] (fun _ _ => False) S0 S → (0 ≤ x2 ∧ x2 ≤ 38) → (2147483647 - x2).toNat < R → zz_E g l zy_addToken_5_10 zr_addToken_5_10 (zz_QV n (zp_addToken_5_10 p0 S0)) S n 15 [some (.ref 1077), some (.ref (100 + p0)), some (zi x2)] [] 0 0) : zz_E g l zy_addToken_5_10 zr_addToken_5_10 (zz_QV n (zp_addToken_5_10 p0 S0)) S n 15 [some (.ref 1077), some (.ref (100 + p0)), some (zi x2)] [] 0 0 := by
  refine zz_iload_n (x := x2) rfl zd_5_10_15 ?_
  refine zz_aload_n (x := 100 + p0) rfl zd_5_10_16 ?_
  refine zz_callT (t := p0) [] (zz_stl (by omega)) (by omega) zd_5_10_17 zkT_Line_141 rfl rfl ⟨Nat.le_of_ble_eq_true rfl, Nat.le_of_ble_eq_true rfl⟩ ⟨rfl, rfl⟩ (Nat.zero_le _) (Nat.zero_le _) (zc_length_21_54 p0 S n hn G_S (by omega)) (fun v6 S5 hP => ?_)
  obtain ⟨rfl, o7, o8⟩ := hP
  refine zz_icmp_ge (by omega) (by omega) zd_5_10_20 (fun c9 => ?_) (fun c9 => ?_)
  · exact zz_vret zd_5_10_38 rfl (Nat.zero_le _) (Nat.zero_le _) ⟨_, rfl, G_S, F_S⟩
  · refine zz_aload_n (x := 1077) rfl zd_5_10_23 ?_
    refine zz_aload_n (x := 100 + p0) rfl zd_5_10_24 ?_
    refine zz_iload_n (x := x2) rfl zd_5_10_25 ?_
    refine zz_callT (t := p0) [zi x2] (zz_stl (by omega)) (by omega) zd_5_10_26 zkT_Line_147 rfl rfl ⟨Nat.le_of_ble_eq_true rfl, Nat.le_of_ble_eq_true rfl⟩ ⟨rfl, rfl⟩ (Nat.zero_le _) (Nat.zero_le _) (zc_charAt_21_56 p0 x2 S n hn G_S (by omega) (by omega) (by omega)) (fun v11 S10 hP => ?_)
    obtain ⟨rfl, o12⟩ := hP
    refine zz_callVV [zi v11] zd_5_10_29 zk_Line_69 zT_1077 (zz_ltn hn rfl) rfl rfl ⟨Nat.le_of_ble_eq_true rfl, Nat.le_of_ble_eq_true rfl⟩ ⟨rfl, rfl⟩ (Nat.zero_le _) (Nat.zero_le _) (zc_addSign_5_12 v11 S n hn G_S (by omega)) (fun S13 hP => ?_)
    obtain ⟨G_S13, fS13⟩ := hP
    have F_S13 := zz_fr.trans F_S fS13 rfl zz_nv
    refine zz_iinc [some (.ref 1077), some (.ref (100 + p0)), some (zi (x2 + 1))] zd_5_10_32 rfl rfl ?_
    refine zz_goto zd_5_10_35 ?_
    refine zz_less (ls1 := [some (.ref 1077), some (.ref (100 + p0)), some (zi (x2 + 1))]) ⟨rfl, ⟨rfl, ⟨rfl, trivial⟩⟩⟩ ?_
    exact k15 (x2 + 1) S13 G_S13 F_S13 (by omega) (by omega)
theorem zi_addToken_5_10 {g : mm_G} {l : Launch} (p0 : Nat) (S0 : zz_S) (n : Nat) (hn : zz_end ≤ n) (G_S0 : zz_G S0) (hp0 : p0 < 59) : ∀ N : Nat, (∀ (x2 : Int) (S : zz_S), zz_G S → zz_fr [(1077, 1)] [1078] (fun _ _ => False) S0 S → (0 ≤ x2 ∧ x2 ≤ 38) → (2147483647 - x2).toNat < N → zz_E g l zy_addToken_5_10 zr_addToken_5_10 (zz_QV n (zp_addToken_5_10 p0 S0)) S n 15 [some (.ref 1077), some (.ref (100 + p0)), some (zi x2)] [] 0 0) := by
  intro N
  induction N with
  | zero => exact fun x2 S _ _ _ h => absurd h (Nat.not_lt_zero _)
  | succ N ih =>
    exact fun x2 S a b j0 hR => zb_addToken_5_10_15 p0 S0 n hn G_S0 hp0 x2 S a b j0 _ rfl (fun x2 S a b j0 h => ih x2 S a b j0 (Nat.lt_of_lt_of_le h (Nat.le_of_lt_succ hR)))
theorem zc_addToken_5_10 {g : mm_G} {l : Launch} (p0 : Nat) (S0 : zz_S) (n : Nat) (hn : zz_end ≤ n) (G_S0 : zz_G S0) (hp0 : p0 < 59) : mm_Met g l zy_addToken_5_10 zr_addToken_5_10 [.ref 1077, .ref (100 + p0)] (zz_M S0 n) n (zz_QV n (zp_addToken_5_10 p0 S0)) := by
  refine zz_enter (by decide) (Nat.le_of_ble_eq_true rfl) (zz_less (ls1 := [some (.ref 1077), some (.ref (100 + p0))]) ⟨rfl, ⟨rfl, trivial⟩⟩ ?_)
  have F_S0 : zz_fr [(1077, 1)] [1078] (fun _ _ => False) S0 S0 := zz_fr.refl
  have k15 : ∀ (x2 : Int) (S : zz_S), zz_G S → zz_fr [(1077, 1)] [1078] (fun _ _ => False) S0 S → (0 ≤ x2 ∧ x2 ≤ 38) → zz_E g l zy_addToken_5_10 zr_addToken_5_10 (zz_QV n (zp_addToken_5_10 p0 S0)) S n 15 [some (.ref 1077), some (.ref (100 + p0)), some (zi x2)] [] 0 0 := fun x2 S a b j0 => (zi_addToken_5_10 (g := g) (l := l) p0 S0 n hn G_S0 hp0 _) x2 S a b j0 (Nat.lt_succ_self _)
  refine zz_aload_n (x := 1077) rfl zd_5_10_0 ?_
  have g1 := zz_G.r G_S0 1077 1 0 128 rfl rfl
  refine zz_geti (z := S0 1077 1) zd_5_10_1 zf_Line_15 zT_1077 rfl (zz_ltn hn rfl) rfl ?_
  refine zz_if_le (by omega) zd_5_10_4 (fun c2 => ?_) (fun c2 => ?_)
  · refine zz_iconst zd_5_10_13 ?_
    refine zz_istore_n [some (.ref 1077), some (.ref (100 + p0)), some (zi 0)] zd_5_10_14 (by decide) rfl ?_
    refine zz_less (ls1 := [some (.ref 1077), some (.ref (100 + p0)), some (zi 0)]) ⟨rfl, ⟨rfl, ⟨rfl, trivial⟩⟩⟩ ?_
    exact k15 0 S0 G_S0 F_S0 (by omega)
  · refine zz_aload_n (x := 1077) rfl zd_5_10_7 ?_
    refine zz_bipush (by decide) zd_5_10_8 ?_
    refine zz_callVV [zi 32] zd_5_10_10 zk_Line_69 zT_1077 (zz_ltn hn rfl) rfl rfl ⟨Nat.le_of_ble_eq_true rfl, Nat.le_of_ble_eq_true rfl⟩ ⟨rfl, rfl⟩ (Nat.zero_le _) (Nat.zero_le _) (zc_addSign_5_12 32 S0 n hn G_S0 (by omega)) (fun S3 hP => ?_)
    obtain ⟨G_S3, fS3⟩ := hP
    have F_S3 := zz_fr.trans F_S0 fS3 rfl zz_nv
    refine zz_iconst zd_5_10_13 ?_
    refine zz_istore_n [some (.ref 1077), some (.ref (100 + p0)), some (zi 0)] zd_5_10_14 (by decide) rfl ?_
    refine zz_less (ls1 := [some (.ref 1077), some (.ref (100 + p0)), some (zi 0)]) ⟨rfl, ⟨rfl, ⟨rfl, trivial⟩⟩⟩ ?_
    exact k15 0 S3 G_S3 F_S3 (by omega)
theorem zk_Line_29 : mm_Vl "TensorForge$Line" 29 10 1 zy_addToken_5_10 := ⟨zyw_addToken_5_10, (R_Line, F_Line, 2), rfl, mm_tb_1 1258 (by decide +kernel) rfl, mm_tb_1 1260 (by decide +kernel) rfl, mm_tb_s 54 (by decide +kernel) rfl⟩
abbrev zy_addUnlessNothing_5_6 : mm_Y := (⟨"TensorForge$Line", "addUnlessNothing", "(Ljava/lang/String;JI)V"⟩, prog_5_method_6_code, 5, none)
theorem zyw_addUnlessNothing_5_6 : mm_Yw zy_addUnlessNothing_5_6 3 := ⟨mm_tb_1 1272 (by decide +kernel) rfl, mm_tb_1 11 (by decide +kernel) rfl, ⟨by decide, by decide⟩, by decide +kernel⟩
theorem zg_5_3_17 : (decode zy_writeInstruction_5_3.2.1 17 = .ok ((.aload_n 0), 1)) ∧ (decode zy_writeInstruction_5_3.2.1 18 = .ok ((.ldc 33), 2)) ∧ (decode zy_writeInstruction_5_3.2.1 20 = .ok ((.lload_n 1), 1)) ∧ (decode zy_writeInstruction_5_3.2.1 21 = .ok ((.iconst 5), 1)) ∧ (decode zy_writeInstruction_5_3.2.1 22 = .ok ((.invokevirtual 35), 3)) := by decide +kernel
theorem zd_5_3_17 : zz_D zy_writeInstruction_5_3 17 (.aload_n 0) 1 18 := ⟨zg_5_3_17.1, rfl⟩
theorem zd_5_3_18 : zz_D zy_writeInstruction_5_3 18 (.ldc 33) 2 20 := ⟨zg_5_3_17.2.1, rfl⟩
theorem zd_5_3_20 : zz_D zy_writeInstruction_5_3 20 (.lload_n 1) 1 21 := ⟨zg_5_3_17.2.2.1, rfl⟩
theorem zd_5_3_21 : zz_D zy_writeInstruction_5_3 21 (.iconst 5) 1 22 := ⟨zg_5_3_17.2.2.2.1, rfl⟩
theorem zd_5_3_22 : zz_D zy_writeInstruction_5_3 22 (.invokevirtual 35) 3 25 := ⟨zg_5_3_17.2.2.2.2, rfl⟩
theorem zg_5_6_0 : (decode zy_addUnlessNothing_5_6.2.1 0 = .ok ((.lload_n 2), 1)) ∧ (decode zy_addUnlessNothing_5_6.2.1 1 = .ok ((.iload 4), 2)) ∧ (decode zy_addUnlessNothing_5_6.2.1 3 = .ok ((.invokestatic 39), 3)) := by decide +kernel
theorem zd_5_6_0 : zz_D zy_addUnlessNothing_5_6 0 (.lload_n 2) 1 1 := ⟨zg_5_6_0.1, rfl⟩
theorem zd_5_6_1 : zz_D zy_addUnlessNothing_5_6 1 (.iload 4) 2 3 := ⟨zg_5_6_0.2.1, rfl⟩
theorem zd_5_6_3 : zz_D zy_addUnlessNothing_5_6 3 (.invokestatic 39) 3 6 := ⟨zg_5_6_0.2.2, rfl⟩
theorem zg_12_2_10 : (decode zy_get_12_2.2.1 10 = .ok ((.iconst 0), 1)) ∧ (decode zy_get_12_2.2.1 11 = .ok ((.ireturn), 1)) := by decide +kernel
theorem zd_12_2_10 : zz_D zy_get_12_2 10 (.iconst 0) 1 11 := ⟨zg_12_2_10.1, rfl⟩
theorem zd_12_2_11 : zz_D zy_get_12_2 11 (.ireturn) 1 12 := ⟨zg_12_2_10.2, rfl⟩

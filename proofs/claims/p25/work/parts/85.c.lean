-- TensorForge$Line addIf (ZLjava/lang/String;)V
abbrev zr_addIf_5_7 : Room := { frames := 5, cells := 0, slots := 0, locals := 68 }
def zp_addIf_5_7 (p0 : Int) (p1 : Nat) (S0 : zz_S) : zz_S → Prop := fun S => zz_G S ∧ zz_fr [(1077, 1)] [1078] (fun _ _ => False) S0 S
theorem zc_addIf_5_7 {g : mm_G} {l : Launch} (p0 : Int) (p1 : Nat) (S0 : zz_S) (n : Nat) (hn : zz_end ≤ n) (G_S0 : zz_G S0) (hp0 : 0 ≤ p0 ∧ p0 ≤ 1) (hp1 : p1 < 59) : mm_Met g l zy_addIf_5_7 zr_addIf_5_7 [.ref 1077, zi p0, .ref (100 + p1)] (zz_M S0 n) n (zz_QV n (zp_addIf_5_7 p0 p1 S0)) := by
  refine zz_enter (by decide) (Nat.le_of_ble_eq_true rfl) (zz_less (ls1 := [some (.ref 1077), some (zi p0), some (.ref (100 + p1))]) ⟨rfl, ⟨rfl, ⟨rfl, trivial⟩⟩⟩ ?_)
  have F_S0 : zz_fr [(1077, 1)] [1078] (fun _ _ => False) S0 S0 := zz_fr.refl
  refine zz_iload_n (x := p0) rfl zd_5_7_0 ?_
  refine zz_if_eq (by omega) zd_5_7_1 (fun c1 => ?_) (fun c1 => ?_)
  · exact zz_vret zd_5_7_9 rfl (Nat.zero_le _) (Nat.zero_le _) ⟨_, rfl, G_S0, F_S0⟩
  · refine zz_aload_n (x := 1077) rfl zd_5_7_4 ?_
    refine zz_aload_n (x := 100 + p1) rfl zd_5_7_5 ?_
    refine zz_callVV [.ref (100 + p1)] zd_5_7_6 zk_Line_29 zT_1077 (zz_ltn hn rfl) rfl rfl ⟨Nat.le_of_ble_eq_true rfl, Nat.le_of_ble_eq_true rfl⟩ ⟨rfl, rfl⟩ (Nat.zero_le _) (Nat.zero_le _) (zc_addToken_5_10 p1 S0 n hn G_S0 (by omega)) (fun S2 hP => ?_)
    obtain ⟨G_S2, fS2⟩ := hP
    have F_S2 := zz_fr.trans F_S0 fS2 rfl zz_nv
    exact zz_vret zd_5_7_9 rfl (Nat.zero_le _) (Nat.zero_le _) ⟨_, rfl, G_S2, F_S2⟩
theorem zk_Line_59 : mm_Vl "TensorForge$Line" 59 10 2 zy_addIf_5_7 := ⟨zyw_addIf_5_7, (R_Line, F_Line, 2), rfl, mm_tb_1 1293 (by decide +kernel) rfl, mm_tb_1 1295 (by decide +kernel) rfl, mm_tb_s 60 (by decide +kernel) rfl⟩
abbrev zy_addPair_5_8 : mm_Y := (⟨"TensorForge$Line", "addPair", "(Ljava/lang/String;II)V"⟩, prog_5_method_8_code, 4, none)
theorem zyw_addPair_5_8 : mm_Yw zy_addPair_5_8 3 := ⟨mm_tb_1 1286 (by decide +kernel) rfl, mm_tb_1 11 (by decide +kernel) rfl, ⟨by decide, by decide⟩, by decide +kernel⟩
theorem zg_5_3_108 : zq_at zy_writeInstruction_5_3.2.1 108 42 ∧ zq_at zy_writeInstruction_5_3.2.1 109 31 ∧ zq_at zy_writeInstruction_5_3.2.1 110 5 ∧ zq_at zy_writeInstruction_5_3.2.1 111 184 ∧ zq_at zy_writeInstruction_5_3.2.1 112 0 ∧ zq_at zy_writeInstruction_5_3.2.1 113 39 ∧ zq_at zy_writeInstruction_5_3.2.1 114 18 ∧ zq_at zy_writeInstruction_5_3.2.1 115 63 ∧ zq_at zy_writeInstruction_5_3.2.1 116 182 ∧ zq_at zy_writeInstruction_5_3.2.1 117 0 ∧ zq_at zy_writeInstruction_5_3.2.1 118 59 ∧ zq_at zy_writeInstruction_5_3.2.1 119 42 ∧ zq_at zy_writeInstruction_5_3.2.1 120 31 ∧ zq_at zy_writeInstruction_5_3.2.1 121 6 ∧ zq_at zy_writeInstruction_5_3.2.1 122 184 ∧ zq_at zy_writeInstruction_5_3.2.1 123 0 ∧ zq_at zy_writeInstruction_5_3.2.1 124 39 ∧ zq_at zy_writeInstruction_5_3.2.1 125 18 ∧ zq_at zy_writeInstruction_5_3.2.1 126 65 ∧ zq_at zy_writeInstruction_5_3.2.1 127 182 ∧ zq_at zy_writeInstruction_5_3.2.1 128 0 ∧ zq_at zy_writeInstruction_5_3.2.1 129 59 ∧ zq_at zy_writeInstruction_5_3.2.1 130 42 ∧ zq_at zy_writeInstruction_5_3.2.1 131 31 := by decide +kernel
theorem zd_5_3_108 : zz_D zy_writeInstruction_5_3 108 (.aload_n 0) 1 109 := ⟨zq_42 zg_5_3_108.1, rfl⟩
theorem zd_5_3_109 : zz_D zy_writeInstruction_5_3 109 (.lload_n 1) 1 110 := ⟨zq_31 zg_5_3_108.2.1, rfl⟩
theorem zd_5_3_110 : zz_D zy_writeInstruction_5_3 110 (.iconst 2) 1 111 := ⟨zq_5 zg_5_3_108.2.2.1, rfl⟩
theorem zd_5_3_111 : zz_D zy_writeInstruction_5_3 111 (.invokestatic 39) 3 114 := ⟨zq_184 zg_5_3_108.2.2.2.1 zg_5_3_108.2.2.2.2.1 zg_5_3_108.2.2.2.2.2.1 rfl, rfl⟩
theorem zd_5_3_114 : zz_D zy_writeInstruction_5_3 114 (.ldc 63) 2 116 := ⟨zq_18 zg_5_3_108.2.2.2.2.2.2.1 zg_5_3_108.2.2.2.2.2.2.2.1, rfl⟩
theorem zd_5_3_116 : zz_D zy_writeInstruction_5_3 116 (.invokevirtual 59) 3 119 := ⟨zq_182 zg_5_3_108.2.2.2.2.2.2.2.2.1 zg_5_3_108.2.2.2.2.2.2.2.2.2.1 zg_5_3_108.2.2.2.2.2.2.2.2.2.2.1 rfl, rfl⟩
theorem zd_5_3_119 : zz_D zy_writeInstruction_5_3 119 (.aload_n 0) 1 120 := ⟨zq_42 zg_5_3_108.2.2.2.2.2.2.2.2.2.2.2.1, rfl⟩
theorem zd_5_3_120 : zz_D zy_writeInstruction_5_3 120 (.lload_n 1) 1 121 := ⟨zq_31 zg_5_3_108.2.2.2.2.2.2.2.2.2.2.2.2.1, rfl⟩
theorem zd_5_3_121 : zz_D zy_writeInstruction_5_3 121 (.iconst 3) 1 122 := ⟨zq_6 zg_5_3_108.2.2.2.2.2.2.2.2.2.2.2.2.2.1, rfl⟩
theorem zd_5_3_122 : zz_D zy_writeInstruction_5_3 122 (.invokestatic 39) 3 125 := ⟨zq_184 zg_5_3_108.2.2.2.2.2.2.2.2.2.2.2.2.2.2.1 zg_5_3_108.2.2.2.2.2.2.2.2.2.2.2.2.2.2.2.1 zg_5_3_108.2.2.2.2.2.2.2.2.2.2.2.2.2.2.2.2.1 rfl, rfl⟩
theorem zd_5_3_125 : zz_D zy_writeInstruction_5_3 125 (.ldc 65) 2 127 := ⟨zq_18 zg_5_3_108.2.2.2.2.2.2.2.2.2.2.2.2.2.2.2.2.2.1 zg_5_3_108.2.2.2.2.2.2.2.2.2.2.2.2.2.2.2.2.2.2.1, rfl⟩
theorem zd_5_3_127 : zz_D zy_writeInstruction_5_3 127 (.invokevirtual 59) 3 130 := ⟨zq_182 zg_5_3_108.2.2.2.2.2.2.2.2.2.2.2.2.2.2.2.2.2.2.2.1 zg_5_3_108.2.2.2.2.2.2.2.2.2.2.2.2.2.2.2.2.2.2.2.2.1 zg_5_3_108.2.2.2.2.2.2.2.2.2.2.2.2.2.2.2.2.2.2.2.2.2.1 rfl, rfl⟩
theorem zd_5_3_130 : zz_D zy_writeInstruction_5_3 130 (.aload_n 0) 1 131 := ⟨zq_42 zg_5_3_108.2.2.2.2.2.2.2.2.2.2.2.2.2.2.2.2.2.2.2.2.2.2.1, rfl⟩
theorem zd_5_3_131 : zz_D zy_writeInstruction_5_3 131 (.lload_n 1) 1 132 := ⟨zq_31 zg_5_3_108.2.2.2.2.2.2.2.2.2.2.2.2.2.2.2.2.2.2.2.2.2.2.2, rfl⟩
theorem zg_5_3_132 : zq_at zy_writeInstruction_5_3.2.1 132 7 ∧ zq_at zy_writeInstruction_5_3.2.1 133 184 ∧ zq_at zy_writeInstruction_5_3.2.1 134 0 ∧ zq_at zy_writeInstruction_5_3.2.1 135 39 ∧ zq_at zy_writeInstruction_5_3.2.1 136 18 ∧ zq_at zy_writeInstruction_5_3.2.1 137 67 ∧ zq_at zy_writeInstruction_5_3.2.1 138 182 ∧ zq_at zy_writeInstruction_5_3.2.1 139 0 ∧ zq_at zy_writeInstruction_5_3.2.1 140 59 ∧ zq_at zy_writeInstruction_5_3.2.1 141 42 ∧ zq_at zy_writeInstruction_5_3.2.1 142 16 ∧ zq_at zy_writeInstruction_5_3.2.1 143 10 ∧ zq_at zy_writeInstruction_5_3.2.1 144 182 ∧ zq_at zy_writeInstruction_5_3.2.1 145 0 ∧ zq_at zy_writeInstruction_5_3.2.1 146 69 ∧ zq_at zy_writeInstruction_5_3.2.1 147 177 ∧ zq_at zy_writeInstruction_5_3.2.1 43 42 ∧ zq_at zy_writeInstruction_5_3.2.1 44 18 ∧ zq_at zy_writeInstruction_5_3.2.1 45 43 ∧ zq_at zy_writeInstruction_5_3.2.1 46 31 ∧ zq_at zy_writeInstruction_5_3.2.1 47 16 ∧ zq_at zy_writeInstruction_5_3.2.1 48 6 := by decide +kernel
theorem zd_5_3_132 : zz_D zy_writeInstruction_5_3 132 (.iconst 4) 1 133 := ⟨zq_7 zg_5_3_132.1, rfl⟩
theorem zd_5_3_133 : zz_D zy_writeInstruction_5_3 133 (.invokestatic 39) 3 136 := ⟨zq_184 zg_5_3_132.2.1 zg_5_3_132.2.2.1 zg_5_3_132.2.2.2.1 rfl, rfl⟩
theorem zd_5_3_136 : zz_D zy_writeInstruction_5_3 136 (.ldc 67) 2 138 := ⟨zq_18 zg_5_3_132.2.2.2.2.1 zg_5_3_132.2.2.2.2.2.1, rfl⟩
theorem zd_5_3_138 : zz_D zy_writeInstruction_5_3 138 (.invokevirtual 59) 3 141 := ⟨zq_182 zg_5_3_132.2.2.2.2.2.2.1 zg_5_3_132.2.2.2.2.2.2.2.1 zg_5_3_132.2.2.2.2.2.2.2.2.1 rfl, rfl⟩
theorem zd_5_3_141 : zz_D zy_writeInstruction_5_3 141 (.aload_n 0) 1 142 := ⟨zq_42 zg_5_3_132.2.2.2.2.2.2.2.2.2.1, rfl⟩
theorem zd_5_3_142 : zz_D zy_writeInstruction_5_3 142 (.bipush 10) 2 144 := ⟨zq_16 zg_5_3_132.2.2.2.2.2.2.2.2.2.2.1 zg_5_3_132.2.2.2.2.2.2.2.2.2.2.2.1 (by decide), rfl⟩
theorem zd_5_3_144 : zz_D zy_writeInstruction_5_3 144 (.invokevirtual 69) 3 147 := ⟨zq_182 zg_5_3_132.2.2.2.2.2.2.2.2.2.2.2.2.1 zg_5_3_132.2.2.2.2.2.2.2.2.2.2.2.2.2.1 zg_5_3_132.2.2.2.2.2.2.2.2.2.2.2.2.2.2.1 rfl, rfl⟩
theorem zd_5_3_147 : zz_D zy_writeInstruction_5_3 147 (.return_) 1 148 := ⟨zq_177 zg_5_3_132.2.2.2.2.2.2.2.2.2.2.2.2.2.2.2.1, rfl⟩
theorem zd_5_3_43 : zz_D zy_writeInstruction_5_3 43 (.aload_n 0) 1 44 := ⟨zq_42 zg_5_3_132.2.2.2.2.2.2.2.2.2.2.2.2.2.2.2.2.1, rfl⟩
theorem zd_5_3_44 : zz_D zy_writeInstruction_5_3 44 (.ldc 43) 2 46 := ⟨zq_18 zg_5_3_132.2.2.2.2.2.2.2.2.2.2.2.2.2.2.2.2.2.1 zg_5_3_132.2.2.2.2.2.2.2.2.2.2.2.2.2.2.2.2.2.2.1, rfl⟩
theorem zd_5_3_46 : zz_D zy_writeInstruction_5_3 46 (.lload_n 1) 1 47 := ⟨zq_31 zg_5_3_132.2.2.2.2.2.2.2.2.2.2.2.2.2.2.2.2.2.2.2.1, rfl⟩
theorem zd_5_3_47 : zz_D zy_writeInstruction_5_3 47 (.bipush 6) 2 49 := ⟨zq_16 zg_5_3_132.2.2.2.2.2.2.2.2.2.2.2.2.2.2.2.2.2.2.2.2.1 zg_5_3_132.2.2.2.2.2.2.2.2.2.2.2.2.2.2.2.2.2.2.2.2.2 (by decide), rfl⟩
theorem zg_5_3_49 : zq_at zy_writeInstruction_5_3.2.1 49 184 ∧ zq_at zy_writeInstruction_5_3.2.1 50 0 ∧ zq_at zy_writeInstruction_5_3.2.1 51 21 ∧ zq_at zy_writeInstruction_5_3.2.1 52 31 ∧ zq_at zy_writeInstruction_5_3.2.1 53 16 ∧ zq_at zy_writeInstruction_5_3.2.1 54 7 ∧ zq_at zy_writeInstruction_5_3.2.1 55 184 ∧ zq_at zy_writeInstruction_5_3.2.1 56 0 ∧ zq_at zy_writeInstruction_5_3.2.1 57 21 ∧ zq_at zy_writeInstruction_5_3.2.1 58 182 ∧ zq_at zy_writeInstruction_5_3.2.1 59 0 ∧ zq_at zy_writeInstruction_5_3.2.1 60 45 := by decide +kernel
theorem zd_5_3_49 : zz_D zy_writeInstruction_5_3 49 (.invokestatic 21) 3 52 := ⟨zq_184 zg_5_3_49.1 zg_5_3_49.2.1 zg_5_3_49.2.2.1 rfl, rfl⟩
theorem zd_5_3_52 : zz_D zy_writeInstruction_5_3 52 (.lload_n 1) 1 53 := ⟨zq_31 zg_5_3_49.2.2.2.1, rfl⟩
theorem zd_5_3_53 : zz_D zy_writeInstruction_5_3 53 (.bipush 7) 2 55 := ⟨zq_16 zg_5_3_49.2.2.2.2.1 zg_5_3_49.2.2.2.2.2.1 (by decide), rfl⟩
theorem zd_5_3_55 : zz_D zy_writeInstruction_5_3 55 (.invokestatic 21) 3 58 := ⟨zq_184 zg_5_3_49.2.2.2.2.2.2.1 zg_5_3_49.2.2.2.2.2.2.2.1 zg_5_3_49.2.2.2.2.2.2.2.2.1 rfl, rfl⟩
theorem zd_5_3_58 : zz_D zy_writeInstruction_5_3 58 (.invokevirtual 45) 3 61 := ⟨zq_182 zg_5_3_49.2.2.2.2.2.2.2.2.2.1 zg_5_3_49.2.2.2.2.2.2.2.2.2.2.1 zg_5_3_49.2.2.2.2.2.2.2.2.2.2.2 rfl, rfl⟩
theorem zg_5_8_0 : zq_at zy_addPair_5_8.2.1 0 42 ∧ zq_at zy_addPair_5_8.2.1 1 43 ∧ zq_at zy_addPair_5_8.2.1 2 28 ∧ zq_at zy_addPair_5_8.2.1 3 182 ∧ zq_at zy_addPair_5_8.2.1 4 0 ∧ zq_at zy_addPair_5_8.2.1 5 83 ∧ zq_at zy_addPair_5_8.2.1 6 42 ∧ zq_at zy_addPair_5_8.2.1 7 18 ∧ zq_at zy_addPair_5_8.2.1 8 120 ∧ zq_at zy_addPair_5_8.2.1 9 29 ∧ zq_at zy_addPair_5_8.2.1 10 182 ∧ zq_at zy_addPair_5_8.2.1 11 0 ∧ zq_at zy_addPair_5_8.2.1 12 83 ∧ zq_at zy_addPair_5_8.2.1 13 177 := by decide +kernel
theorem zd_5_8_0 : zz_D zy_addPair_5_8 0 (.aload_n 0) 1 1 := ⟨zq_42 zg_5_8_0.1, rfl⟩
theorem zd_5_8_1 : zz_D zy_addPair_5_8 1 (.aload_n 1) 1 2 := ⟨zq_43 zg_5_8_0.2.1, rfl⟩
theorem zd_5_8_2 : zz_D zy_addPair_5_8 2 (.iload_n 2) 1 3 := ⟨zq_28 zg_5_8_0.2.2.1, rfl⟩
theorem zd_5_8_3 : zz_D zy_addPair_5_8 3 (.invokevirtual 83) 3 6 := ⟨zq_182 zg_5_8_0.2.2.2.1 zg_5_8_0.2.2.2.2.1 zg_5_8_0.2.2.2.2.2.1 rfl, rfl⟩
theorem zd_5_8_6 : zz_D zy_addPair_5_8 6 (.aload_n 0) 1 7 := ⟨zq_42 zg_5_8_0.2.2.2.2.2.2.1, rfl⟩
theorem zd_5_8_7 : zz_D zy_addPair_5_8 7 (.ldc 120) 2 9 := ⟨zq_18 zg_5_8_0.2.2.2.2.2.2.2.1 zg_5_8_0.2.2.2.2.2.2.2.2.1, rfl⟩
theorem zd_5_8_9 : zz_D zy_addPair_5_8 9 (.iload_n 3) 1 10 := ⟨zq_29 zg_5_8_0.2.2.2.2.2.2.2.2.2.1, rfl⟩
theorem zd_5_8_10 : zz_D zy_addPair_5_8 10 (.invokevirtual 83) 3 13 := ⟨zq_182 zg_5_8_0.2.2.2.2.2.2.2.2.2.2.1 zg_5_8_0.2.2.2.2.2.2.2.2.2.2.2.1 zg_5_8_0.2.2.2.2.2.2.2.2.2.2.2.2.1 rfl, rfl⟩
theorem zd_5_8_13 : zz_D zy_addPair_5_8 13 (.return_) 1 14 := ⟨zq_177 zg_5_8_0.2.2.2.2.2.2.2.2.2.2.2.2.2, rfl⟩
-- TensorForge$Line addPair (Ljava/lang/String;II)V
abbrev zr_addPair_5_8 : Room := { frames := 6, cells := 0, slots := 0, locals := 82 }
def zp_addPair_5_8 (p0 : Nat) (p1 : Int) (p2 : Int) (S0 : zz_S) : zz_S → Prop := fun S => zz_G S ∧ zz_fr [(1077, 1)] [1078] (fun _ _ => False) S0 S
theorem zc_addPair_5_8 {g : mm_G} {l : Launch} (p0 : Nat) (p1 : Int) (p2 : Int) (S0 : zz_S) (n : Nat) (hn : zz_end ≤ n) (G_S0 : zz_G S0) (hp0 : p0 < 59) (hp1 : (-2147483648) ≤ p1 ∧ p1 ≤ 2147483647) (hp2 : (-2147483648) ≤ p2 ∧ p2 ≤ 2147483647) : mm_Met g l zy_addPair_5_8 zr_addPair_5_8 [.ref 1077, .ref (100 + p0), zi p1, zi p2] (zz_M S0 n) n (zz_QV n (zp_addPair_5_8 p0 p1 p2 S0)) := by
  refine zz_enter (by decide) (Nat.le_of_ble_eq_true rfl) (zz_less (ls1 := [some (.ref 1077), some (.ref (100 + p0)), some (zi p1), some (zi p2)]) ⟨rfl, ⟨rfl, ⟨rfl, ⟨rfl, trivial⟩⟩⟩⟩ ?_)
  have F_S0 : zz_fr [(1077, 1)] [1078] (fun _ _ => False) S0 S0 := zz_fr.refl
  refine zz_aload_n (x := 1077) rfl zd_5_8_0 ?_
  refine zz_aload_n (x := 100 + p0) rfl zd_5_8_1 ?_
  refine zz_iload_n (x := p1) rfl zd_5_8_2 ?_
  refine zz_callVV [.ref (100 + p0), zi p1] zd_5_8_3 zk_Line_83 zT_1077 (zz_ltn hn rfl) rfl rfl ⟨Nat.le_of_ble_eq_true rfl, Nat.le_of_ble_eq_true rfl⟩ ⟨rfl, rfl⟩ (Nat.zero_le _) (Nat.zero_le _) (zc_addNumbered_5_9 p0 p1 S0 n hn G_S0 (by omega) (by omega)) (fun S1 hP => ?_)
  obtain ⟨G_S1, fS1⟩ := hP
  have F_S1 := zz_fr.trans F_S0 fS1 rfl zz_nv
  refine zz_aload_n (x := 1077) rfl zd_5_8_6 ?_
  refine zz_ldcs (t := 12) (by decide +kernel) (by decide) zd_5_8_7 ?_
  refine zz_iload_n (x := p2) rfl zd_5_8_9 ?_
  refine zz_callVV [.ref (100 + 12), zi p2] zd_5_8_10 zk_Line_83 zT_1077 (zz_ltn hn rfl) rfl rfl ⟨Nat.le_of_ble_eq_true rfl, Nat.le_of_ble_eq_true rfl⟩ ⟨rfl, rfl⟩ (Nat.zero_le _) (Nat.zero_le _) (zc_addNumbered_5_9 12 p2 S1 n hn G_S1 (by omega) (by omega)) (fun S3 hP => ?_)
  obtain ⟨G_S3, fS3⟩ := hP
  have F_S3 := zz_fr.trans F_S1 fS3 rfl zz_nv
  exact zz_vret zd_5_8_13 rfl (Nat.zero_le _) (Nat.zero_le _) ⟨_, rfl, G_S3, F_S3⟩
theorem zk_Line_45 : mm_Vl "TensorForge$Line" 45 10 3 zy_addPair_5_8 := ⟨zyw_addPair_5_8, (R_Line, F_Line, 2), rfl, mm_tb_1 1283 (by decide +kernel) rfl, mm_tb_1 1285 (by decide +kernel) rfl, mm_tb_s 59 (by decide +kernel) rfl⟩
-- TensorForge$Line writeInstruction (J)V
abbrev zr_writeInstruction_5_3 : Room := { frames := 7, cells := 0, slots := 0, locals := 98 }
def zp_writeInstruction_5_3 (p0 : Int) (S0 : zz_S) : zz_S → Prop := fun S => zz_G S ∧ zz_fr [(1077, 1)] [1078] (fun _ _ => False) S0 S
theorem zc_writeInstruction_5_3 {g : mm_G} {l : Launch} (p0 : Int) (S0 : zz_S) (n : Nat) (hn : zz_end ≤ n) (G_S0 : zz_G S0) (hp0 : (-9223372036854775808) ≤ p0 ∧ p0 ≤ 9223372036854775807) : mm_Met g l zy_writeInstruction_5_3 zr_writeInstruction_5_3 [.ref 1077, zl p0] (zz_M S0 n) n (zz_QV n (zp_writeInstruction_5_3 p0 S0)) := by
  refine zz_enter (by decide) (Nat.le_of_ble_eq_true rfl) (zz_less (ls1 := [some (.ref 1077), some (zl p0), none]) ⟨rfl, ⟨rfl, trivial⟩⟩ ?_)
  have F_S0 : zz_fr [(1077, 1)] [1078] (fun _ _ => False) S0 S0 := zz_fr.refl
  refine zz_aload_n (x := 1077) rfl zd_5_3_0 ?_
  refine zz_iconst zd_5_3_1 ?_
  refine zz_puti zd_5_3_2 zf_Line_15 zT_1077 rfl (zz_ltn hn rfl) (fun S1 qS1 => ?_)
  have G_S1 := zz_G.put G_S0 qS1 0 128 rfl (by omega)
  have F_S1 := zz_fr.puts F_S0 qS1 rfl
  refine zz_aload_n (x := 1077) rfl zd_5_3_5 ?_
  refine zz_lload_n (x := p0) rfl zd_5_3_6 ?_
  refine zz_iconst zd_5_3_7 ?_
  refine zz_callSI [zl p0, zi 0] zd_5_3_8 zk_Line_21 rfl rfl ⟨Nat.le_of_ble_eq_true rfl, Nat.le_of_ble_eq_true rfl⟩ ⟨rfl, rfl⟩ (Nat.zero_le _) (Nat.zero_le _) (zc_get_12_2x_0 p0 S1 n hn G_S1 (by omega)) (fun v3 S2 hP => ?_)
  obtain ⟨rfl, o4, o5⟩ := hP
  subst o5
  refine zz_callSA [zi (zz_fy p0 0 15)] zd_5_3_11 zk_Line_25 rfl rfl ⟨Nat.le_of_ble_eq_true rfl, Nat.le_of_ble_eq_true rfl⟩ ⟨rfl, rfl⟩ (Nat.zero_le _) (Nat.zero_le _) (zc_nameOf_12_12 (zz_fy p0 0 15) S1 n hn G_S1 (by omega)) (fun v7 S6 hP => ?_)
  obtain ⟨rfl, o8⟩ := hP
  obtain ⟨uv7, rfl, huv7, hkv7⟩ := o8
  refine zz_callVV [.ref (100 + uv7)] zd_5_3_14 zk_Line_29 zT_1077 (zz_ltn hn rfl) rfl rfl ⟨Nat.le_of_ble_eq_true rfl, Nat.le_of_ble_eq_true rfl⟩ ⟨rfl, rfl⟩ (Nat.zero_le _) (Nat.zero_le _) (zc_addToken_5_10 uv7 S1 n hn G_S1 (by omega)) (fun S9 hP => ?_)
  obtain ⟨G_S9, fS9⟩ := hP
  have F_S9 := zz_fr.trans F_S1 fS9 rfl zz_nv
  refine zz_aload_n (x := 1077) rfl zd_5_3_17 ?_
  refine zz_ldcs (t := 10) (by decide +kernel) (by decide) zd_5_3_18 ?_
  refine zz_lload_n (x := p0) rfl zd_5_3_20 ?_
  refine zz_iconst zd_5_3_21 ?_
  refine zz_callVV [.ref (100 + 10), zl p0, zi 5] zd_5_3_22 zk_Line_35 zT_1077 (zz_ltn hn rfl) rfl rfl ⟨Nat.le_of_ble_eq_true rfl, Nat.le_of_ble_eq_true rfl⟩ ⟨rfl, rfl⟩ (Nat.zero_le _) (Nat.zero_le _) (zc_addUnlessNothing_5_6 10 p0 5 S9 n hn G_S9 (by omega) (by omega) (by omega)) (fun S11 hP => ?_)
  obtain ⟨G_S11, fS11⟩ := hP
  have F_S11 := zz_fr.trans F_S9 fS11 rfl zz_nv
  refine zz_lload_n (x := p0) rfl zd_5_3_25 ?_
  refine zz_bipush (by decide) zd_5_3_26 ?_
  refine zz_callSI [zl p0, zi 6] zd_5_3_28 zk_Line_39 rfl rfl ⟨Nat.le_of_ble_eq_true rfl, Nat.le_of_ble_eq_true rfl⟩ ⟨rfl, rfl⟩ (Nat.zero_le _) (Nat.zero_le _) (zc_has_12_3x_6 p0 S11 n hn G_S11 (by omega)) (fun v14 S13 hP => ?_)
  obtain ⟨rfl, o15, o16⟩ := hP
  rcases (by omega : v14 = 0 ∨ v14 = 1) with rfl | rfl
  · refine zz_if_ne (by omega) zd_5_3_31 (fun c17 => ?_) (fun c17 => ?_)
    · exfalso; omega
    · refine zz_lload_n (x := p0) rfl zd_5_3_34 ?_
      refine zz_bipush (by decide) zd_5_3_35 ?_
      refine zz_callSI [zl p0, zi 7] zd_5_3_37 zk_Line_39 rfl rfl ⟨Nat.le_of_ble_eq_true rfl, Nat.le_of_ble_eq_true rfl⟩ ⟨rfl, rfl⟩ (Nat.zero_le _) (Nat.zero_le _) (zc_has_12_3x_7 p0 S11 n hn G_S11 (by omega)) (fun v19 S18 hP => ?_)
      obtain ⟨rfl, o20, o21⟩ := hP
      rcases (by omega : v19 = 0 ∨ v19 = 1) with rfl | rfl
      · refine zz_if_eq (by omega) zd_5_3_40 (fun c22 => ?_) (fun c22 => ?_)
        · refine zz_aload_n (x := 1077) rfl zd_5_3_61 ?_
          refine zz_ldcs (t := 13) (by decide +kernel) (by decide) zd_5_3_62 ?_
          refine zz_lload_n (x := p0) rfl zd_5_3_64 ?_
          refine zz_bipush (by decide) zd_5_3_65 ?_
          refine zz_callVV [.ref (100 + 13), zl p0, zi 8] zd_5_3_67 zk_Line_35 zT_1077 (zz_ltn hn rfl) rfl rfl ⟨Nat.le_of_ble_eq_true rfl, Nat.le_of_ble_eq_true rfl⟩ ⟨rfl, rfl⟩ (Nat.zero_le _) (Nat.zero_le _) (zc_addUnlessNothing_5_6 13 p0 8 S11 n hn G_S11 (by omega) (by omega) (by omega)) (fun S23 hP => ?_)
          obtain ⟨G_S23, fS23⟩ := hP
          have F_S23 := zz_fr.trans F_S11 fS23 rfl zz_nv
          refine zz_aload_n (x := 1077) rfl zd_5_3_70 ?_
          refine zz_ldcs (t := 14) (by decide +kernel) (by decide) zd_5_3_71 ?_
          refine zz_lload_n (x := p0) rfl zd_5_3_73 ?_
          refine zz_bipush (by decide) zd_5_3_74 ?_
          refine zz_callVV [.ref (100 + 14), zl p0, zi 9] zd_5_3_76 zk_Line_35 zT_1077 (zz_ltn hn rfl) rfl rfl ⟨Nat.le_of_ble_eq_true rfl, Nat.le_of_ble_eq_true rfl⟩ ⟨rfl, rfl⟩ (Nat.zero_le _) (Nat.zero_le _) (zc_addUnlessNothing_5_6 14 p0 9 S23 n hn G_S23 (by omega) (by omega) (by omega)) (fun S25 hP => ?_)
          obtain ⟨G_S25, fS25⟩ := hP
          have F_S25 := zz_fr.trans F_S23 fS25 rfl zz_nv
          refine zz_aload_n (x := 1077) rfl zd_5_3_79 ?_
          refine zz_ldcs (t := 15) (by decide +kernel) (by decide) zd_5_3_80 ?_
          refine zz_lload_n (x := p0) rfl zd_5_3_82 ?_
          refine zz_bipush (by decide) zd_5_3_83 ?_
          refine zz_callVV [.ref (100 + 15), zl p0, zi 10] zd_5_3_85 zk_Line_35 zT_1077 (zz_ltn hn rfl) rfl rfl ⟨Nat.le_of_ble_eq_true rfl, Nat.le_of_ble_eq_true rfl⟩ ⟨rfl, rfl⟩ (Nat.zero_le _) (Nat.zero_le _) (zc_addUnlessNothing_5_6 15 p0 10 S25 n hn G_S25 (by omega) (by omega) (by omega)) (fun S27 hP => ?_)
          obtain ⟨G_S27, fS27⟩ := hP
          have F_S27 := zz_fr.trans F_S25 fS27 rfl zz_nv
          refine zz_aload_n (x := 1077) rfl zd_5_3_88 ?_
          refine zz_ldcs (t := 16) (by decide +kernel) (by decide) zd_5_3_89 ?_
          refine zz_lload_n (x := p0) rfl zd_5_3_91 ?_
          refine zz_bipush (by decide) zd_5_3_92 ?_
          refine zz_callVV [.ref (100 + 16), zl p0, zi 11] zd_5_3_94 zk_Line_35 zT_1077 (zz_ltn hn rfl) rfl rfl ⟨Nat.le_of_ble_eq_true rfl, Nat.le_of_ble_eq_true rfl⟩ ⟨rfl, rfl⟩ (Nat.zero_le _) (Nat.zero_le _) (zc_addUnlessNothing_5_6 16 p0 11 S27 n hn G_S27 (by omega) (by omega) (by omega)) (fun S29 hP => ?_)
          obtain ⟨G_S29, fS29⟩ := hP
          have F_S29 := zz_fr.trans F_S27 fS29 rfl zz_nv
          refine zz_aload_n (x := 1077) rfl zd_5_3_97 ?_
          refine zz_lload_n (x := p0) rfl zd_5_3_98 ?_
          refine zz_iconst zd_5_3_99 ?_
          refine zz_callSI [zl p0, zi 1] zd_5_3_100 zk_Line_39 rfl rfl ⟨Nat.le_of_ble_eq_true rfl, Nat.le_of_ble_eq_true rfl⟩ ⟨rfl, rfl⟩ (Nat.zero_le _) (Nat.zero_le _) (zc_has_12_3x_1 p0 S29 n hn G_S29 (by omega)) (fun v32 S31 hP => ?_)
          obtain ⟨rfl, o33, o34⟩ := hP
          rcases (by omega : v32 = 0 ∨ v32 = 1) with rfl | rfl
          · refine zz_ldcs (t := 42) (by decide +kernel) (by decide) zd_5_3_103 ?_
            refine zz_callVV [zi 0, .ref (100 + 42)] zd_5_3_105 zk_Line_59 zT_1077 (zz_ltn hn rfl) rfl rfl ⟨Nat.le_of_ble_eq_true rfl, Nat.le_of_ble_eq_true rfl⟩ ⟨rfl, rfl⟩ (Nat.zero_le _) (Nat.zero_le _) (zc_addIf_5_7 0 42 S29 n hn G_S29 (by omega) (by omega)) (fun S35 hP => ?_)
            obtain ⟨G_S35, fS35⟩ := hP
            have F_S35 := zz_fr.trans F_S29 fS35 rfl zz_nv
            refine zz_aload_n (x := 1077) rfl zd_5_3_108 ?_
            refine zz_lload_n (x := p0) rfl zd_5_3_109 ?_
            refine zz_iconst zd_5_3_110 ?_
            refine zz_callSI [zl p0, zi 2] zd_5_3_111 zk_Line_39 rfl rfl ⟨Nat.le_of_ble_eq_true rfl, Nat.le_of_ble_eq_true rfl⟩ ⟨rfl, rfl⟩ (Nat.zero_le _) (Nat.zero_le _) (zc_has_12_3x_2 p0 S35 n hn G_S35 (by omega)) (fun v38 S37 hP => ?_)
            obtain ⟨rfl, o39, o40⟩ := hP
            rcases (by omega : v38 = 0 ∨ v38 = 1) with rfl | rfl
            · refine zz_ldcs (t := 43) (by decide +kernel) (by decide) zd_5_3_114 ?_
              refine zz_callVV [zi 0, .ref (100 + 43)] zd_5_3_116 zk_Line_59 zT_1077 (zz_ltn hn rfl) rfl rfl ⟨Nat.le_of_ble_eq_true rfl, Nat.le_of_ble_eq_true rfl⟩ ⟨rfl, rfl⟩ (Nat.zero_le _) (Nat.zero_le _) (zc_addIf_5_7 0 43 S35 n hn G_S35 (by omega) (by omega)) (fun S41 hP => ?_)
              obtain ⟨G_S41, fS41⟩ := hP
              have F_S41 := zz_fr.trans F_S35 fS41 rfl zz_nv
              refine zz_aload_n (x := 1077) rfl zd_5_3_119 ?_
              refine zz_lload_n (x := p0) rfl zd_5_3_120 ?_
              refine zz_iconst zd_5_3_121 ?_
              refine zz_callSI [zl p0, zi 3] zd_5_3_122 zk_Line_39 rfl rfl ⟨Nat.le_of_ble_eq_true rfl, Nat.le_of_ble_eq_true rfl⟩ ⟨rfl, rfl⟩ (Nat.zero_le _) (Nat.zero_le _) (zc_has_12_3x_3 p0 S41 n hn G_S41 (by omega)) (fun v44 S43 hP => ?_)
              obtain ⟨rfl, o45, o46⟩ := hP
              rcases (by omega : v44 = 0 ∨ v44 = 1) with rfl | rfl
              · refine zz_ldcs (t := 44) (by decide +kernel) (by decide) zd_5_3_125 ?_
                refine zz_callVV [zi 0, .ref (100 + 44)] zd_5_3_127 zk_Line_59 zT_1077 (zz_ltn hn rfl) rfl rfl ⟨Nat.le_of_ble_eq_true rfl, Nat.le_of_ble_eq_true rfl⟩ ⟨rfl, rfl⟩ (Nat.zero_le _) (Nat.zero_le _) (zc_addIf_5_7 0 44 S41 n hn G_S41 (by omega) (by omega)) (fun S47 hP => ?_)
                obtain ⟨G_S47, fS47⟩ := hP
                have F_S47 := zz_fr.trans F_S41 fS47 rfl zz_nv
                refine zz_aload_n (x := 1077) rfl zd_5_3_130 ?_
                refine zz_lload_n (x := p0) rfl zd_5_3_131 ?_
                refine zz_iconst zd_5_3_132 ?_
                refine zz_callSI [zl p0, zi 4] zd_5_3_133 zk_Line_39 rfl rfl ⟨Nat.le_of_ble_eq_true rfl, Nat.le_of_ble_eq_true rfl⟩ ⟨rfl, rfl⟩ (Nat.zero_le _) (Nat.zero_le _) (zc_has_12_3x_4 p0 S47 n hn G_S47 (by omega)) (fun v50 S49 hP => ?_)
                obtain ⟨rfl, o51, o52⟩ := hP
                rcases (by omega : v50 = 0 ∨ v50 = 1) with rfl | rfl
                · refine zz_ldcs (t := 45) (by decide +kernel) (by decide) zd_5_3_136 ?_
                  refine zz_callVV [zi 0, .ref (100 + 45)] zd_5_3_138 zk_Line_59 zT_1077 (zz_ltn hn rfl) rfl rfl ⟨Nat.le_of_ble_eq_true rfl, Nat.le_of_ble_eq_true rfl⟩ ⟨rfl, rfl⟩ (Nat.zero_le _) (Nat.zero_le _) (zc_addIf_5_7 0 45 S47 n hn G_S47 (by omega) (by omega)) (fun S53 hP => ?_)
                  obtain ⟨G_S53, fS53⟩ := hP
                  have F_S53 := zz_fr.trans F_S47 fS53 rfl zz_nv
                  refine zz_aload_n (x := 1077) rfl zd_5_3_141 ?_
                  refine zz_bipush (by decide) zd_5_3_142 ?_
                  refine zz_callVV [zi 10] zd_5_3_144 zk_Line_69 zT_1077 (zz_ltn hn rfl) rfl rfl ⟨Nat.le_of_ble_eq_true rfl, Nat.le_of_ble_eq_true rfl⟩ ⟨rfl, rfl⟩ (Nat.zero_le _) (Nat.zero_le _) (zc_addSign_5_12 10 S53 n hn G_S53 (by omega)) (fun S55 hP => ?_)
                  obtain ⟨G_S55, fS55⟩ := hP
                  have F_S55 := zz_fr.trans F_S53 fS55 rfl zz_nv
                  exact zz_vret zd_5_3_147 rfl (Nat.zero_le _) (Nat.zero_le _) ⟨_, rfl, G_S55, F_S55⟩
                · refine zz_ldcs (t := 45) (by decide +kernel) (by decide) zd_5_3_136 ?_
                  refine zz_callVV [zi 1, .ref (100 + 45)] zd_5_3_138 zk_Line_59 zT_1077 (zz_ltn hn rfl) rfl rfl ⟨Nat.le_of_ble_eq_true rfl, Nat.le_of_ble_eq_true rfl⟩ ⟨rfl, rfl⟩ (Nat.zero_le _) (Nat.zero_le _) (zc_addIf_5_7 1 45 S47 n hn G_S47 (by omega) (by omega)) (fun S57 hP => ?_)
                  obtain ⟨G_S57, fS57⟩ := hP
                  have F_S57 := zz_fr.trans F_S47 fS57 rfl zz_nv
                  refine zz_aload_n (x := 1077) rfl zd_5_3_141 ?_
                  refine zz_bipush (by decide) zd_5_3_142 ?_
                  refine zz_callVV [zi 10] zd_5_3_144 zk_Line_69 zT_1077 (zz_ltn hn rfl) rfl rfl ⟨Nat.le_of_ble_eq_true rfl, Nat.le_of_ble_eq_true rfl⟩ ⟨rfl, rfl⟩ (Nat.zero_le _) (Nat.zero_le _) (zc_addSign_5_12 10 S57 n hn G_S57 (by omega)) (fun S59 hP => ?_)
                  obtain ⟨G_S59, fS59⟩ := hP
                  have F_S59 := zz_fr.trans F_S57 fS59 rfl zz_nv
                  exact zz_vret zd_5_3_147 rfl (Nat.zero_le _) (Nat.zero_le _) ⟨_, rfl, G_S59, F_S59⟩
              · refine zz_ldcs (t := 44) (by decide +kernel) (by decide) zd_5_3_125 ?_
                refine zz_callVV [zi 1, .ref (100 + 44)] zd_5_3_127 zk_Line_59 zT_1077 (zz_ltn hn rfl) rfl rfl ⟨Nat.le_of_ble_eq_true rfl, Nat.le_of_ble_eq_true rfl⟩ ⟨rfl, rfl⟩ (Nat.zero_le _) (Nat.zero_le _) (zc_addIf_5_7 1 44 S41 n hn G_S41 (by omega) (by omega)) (fun S61 hP => ?_)
                obtain ⟨G_S61, fS61⟩ := hP
                have F_S61 := zz_fr.trans F_S41 fS61 rfl zz_nv
                refine zz_aload_n (x := 1077) rfl zd_5_3_130 ?_
                refine zz_lload_n (x := p0) rfl zd_5_3_131 ?_
                refine zz_iconst zd_5_3_132 ?_
                refine zz_callSI [zl p0, zi 4] zd_5_3_133 zk_Line_39 rfl rfl ⟨Nat.le_of_ble_eq_true rfl, Nat.le_of_ble_eq_true rfl⟩ ⟨rfl, rfl⟩ (Nat.zero_le _) (Nat.zero_le _) (zc_has_12_3x_4 p0 S61 n hn G_S61 (by omega)) (fun v64 S63 hP => ?_)
                obtain ⟨rfl, o65, o66⟩ := hP
                rcases (by omega : v64 = 0 ∨ v64 = 1) with rfl | rfl
                · refine zz_ldcs (t := 45) (by decide +kernel) (by decide) zd_5_3_136 ?_
                  refine zz_callVV [zi 0, .ref (100 + 45)] zd_5_3_138 zk_Line_59 zT_1077 (zz_ltn hn rfl) rfl rfl ⟨Nat.le_of_ble_eq_true rfl, Nat.le_of_ble_eq_true rfl⟩ ⟨rfl, rfl⟩ (Nat.zero_le _) (Nat.zero_le _) (zc_addIf_5_7 0 45 S61 n hn G_S61 (by omega) (by omega)) (fun S67 hP => ?_)
                  obtain ⟨G_S67, fS67⟩ := hP
                  have F_S67 := zz_fr.trans F_S61 fS67 rfl zz_nv
                  refine zz_aload_n (x := 1077) rfl zd_5_3_141 ?_
                  refine zz_bipush (by decide) zd_5_3_142 ?_
                  refine zz_callVV [zi 10] zd_5_3_144 zk_Line_69 zT_1077 (zz_ltn hn rfl) rfl rfl ⟨Nat.le_of_ble_eq_true rfl, Nat.le_of_ble_eq_true rfl⟩ ⟨rfl, rfl⟩ (Nat.zero_le _) (Nat.zero_le _) (zc_addSign_5_12 10 S67 n hn G_S67 (by omega)) (fun S69 hP => ?_)
                  obtain ⟨G_S69, fS69⟩ := hP
                  have F_S69 := zz_fr.trans F_S67 fS69 rfl zz_nv
                  exact zz_vret zd_5_3_147 rfl (Nat.zero_le _) (Nat.zero_le _) ⟨_, rfl, G_S69, F_S69⟩
                · refine zz_ldcs (t := 45) (by decide +kernel) (by decide) zd_5_3_136 ?_
                  refine zz_callVV [zi 1, .ref (100 + 45)] zd_5_3_138 zk_Line_59 zT_1077 (zz_ltn hn rfl) rfl rfl ⟨Nat.le_of_ble_eq_true rfl, Nat.le_of_ble_eq_true rfl⟩ ⟨rfl, rfl⟩ (Nat.zero_le _) (Nat.zero_le _) (zc_addIf_5_7 1 45 S61 n hn G_S61 (by omega) (by omega)) (fun S71 hP => ?_)
                  obtain ⟨G_S71, fS71⟩ := hP
                  have F_S71 := zz_fr.trans F_S61 fS71 rfl zz_nv
                  refine zz_aload_n (x := 1077) rfl zd_5_3_141 ?_
                  refine zz_bipush (by decide) zd_5_3_142 ?_
                  refine zz_callVV [zi 10] zd_5_3_144 zk_Line_69 zT_1077 (zz_ltn hn rfl) rfl rfl ⟨Nat.le_of_ble_eq_true rfl, Nat.le_of_ble_eq_true rfl⟩ ⟨rfl, rfl⟩ (Nat.zero_le _) (Nat.zero_le _) (zc_addSign_5_12 10 S71 n hn G_S71 (by omega)) (fun S73 hP => ?_)
                  obtain ⟨G_S73, fS73⟩ := hP
                  have F_S73 := zz_fr.trans F_S71 fS73 rfl zz_nv
                  exact zz_vret zd_5_3_147 rfl (Nat.zero_le _) (Nat.zero_le _) ⟨_, rfl, G_S73, F_S73⟩
            · refine zz_ldcs (t := 43) (by decide +kernel) (by decide) zd_5_3_114 ?_
              refine zz_callVV [zi 1, .ref (100 + 43)] zd_5_3_116 zk_Line_59 zT_1077 (zz_ltn hn rfl) rfl rfl ⟨Nat.le_of_ble_eq_true rfl, Nat.le_of_ble_eq_true rfl⟩ ⟨rfl, rfl⟩ (Nat.zero_le _) (Nat.zero_le _) (zc_addIf_5_7 1 43 S35 n hn G_S35 (by omega) (by omega)) (fun S75 hP => ?_)
              obtain ⟨G_S75, fS75⟩ := hP
              have F_S75 := zz_fr.trans F_S35 fS75 rfl zz_nv
              refine zz_aload_n (x := 1077) rfl zd_5_3_119 ?_
              refine zz_lload_n (x := p0) rfl zd_5_3_120 ?_
              refine zz_iconst zd_5_3_121 ?_
              refine zz_callSI [zl p0, zi 3] zd_5_3_122 zk_Line_39 rfl rfl ⟨Nat.le_of_ble_eq_true rfl, Nat.le_of_ble_eq_true rfl⟩ ⟨rfl, rfl⟩ (Nat.zero_le _) (Nat.zero_le _) (zc_has_12_3x_3 p0 S75 n hn G_S75 (by omega)) (fun v78 S77 hP => ?_)
              obtain ⟨rfl, o79, o80⟩ := hP
              rcases (by omega : v78 = 0 ∨ v78 = 1) with rfl | rfl
              · refine zz_ldcs (t := 44) (by decide +kernel) (by decide) zd_5_3_125 ?_
                refine zz_callVV [zi 0, .ref (100 + 44)] zd_5_3_127 zk_Line_59 zT_1077 (zz_ltn hn rfl) rfl rfl ⟨Nat.le_of_ble_eq_true rfl, Nat.le_of_ble_eq_true rfl⟩ ⟨rfl, rfl⟩ (Nat.zero_le _) (Nat.zero_le _) (zc_addIf_5_7 0 44 S75 n hn G_S75 (by omega) (by omega)) (fun S81 hP => ?_)
                obtain ⟨G_S81, fS81⟩ := hP
                have F_S81 := zz_fr.trans F_S75 fS81 rfl zz_nv
                refine zz_aload_n (x := 1077) rfl zd_5_3_130 ?_
                refine zz_lload_n (x := p0) rfl zd_5_3_131 ?_
                refine zz_iconst zd_5_3_132 ?_
                refine zz_callSI [zl p0, zi 4] zd_5_3_133 zk_Line_39 rfl rfl ⟨Nat.le_of_ble_eq_true rfl, Nat.le_of_ble_eq_true rfl⟩ ⟨rfl, rfl⟩ (Nat.zero_le _) (Nat.zero_le _) (zc_has_12_3x_4 p0 S81 n hn G_S81 (by omega)) (fun v84 S83 hP => ?_)
                obtain ⟨rfl, o85, o86⟩ := hP
                rcases (by omega : v84 = 0 ∨ v84 = 1) with rfl | rfl
                · refine zz_ldcs (t := 45) (by decide +kernel) (by decide) zd_5_3_136 ?_
                  refine zz_callVV [zi 0, .ref (100 + 45)] zd_5_3_138 zk_Line_59 zT_1077 (zz_ltn hn rfl) rfl rfl ⟨Nat.le_of_ble_eq_true rfl, Nat.le_of_ble_eq_true rfl⟩ ⟨rfl, rfl⟩ (Nat.zero_le _) (Nat.zero_le _) (zc_addIf_5_7 0 45 S81 n hn G_S81 (by omega) (by omega)) (fun S87 hP => ?_)
                  obtain ⟨G_S87, fS87⟩ := hP
                  have F_S87 := zz_fr.trans F_S81 fS87 rfl zz_nv
                  refine zz_aload_n (x := 1077) rfl zd_5_3_141 ?_
                  refine zz_bipush (by decide) zd_5_3_142 ?_
                  refine zz_callVV [zi 10] zd_5_3_144 zk_Line_69 zT_1077 (zz_ltn hn rfl) rfl rfl ⟨Nat.le_of_ble_eq_true rfl, Nat.le_of_ble_eq_true rfl⟩ ⟨rfl, rfl⟩ (Nat.zero_le _) (Nat.zero_le _) (zc_addSign_5_12 10 S87 n hn G_S87 (by omega)) (fun S89 hP => ?_)
                  obtain ⟨G_S89, fS89⟩ := hP
                  have F_S89 := zz_fr.trans F_S87 fS89 rfl zz_nv
                  exact zz_vret zd_5_3_147 rfl (Nat.zero_le _) (Nat.zero_le _) ⟨_, rfl, G_S89, F_S89⟩
                · refine zz_ldcs (t := 45) (by decide +kernel) (by decide) zd_5_3_136 ?_
                  refine zz_callVV [zi 1, .ref (100 + 45)] zd_5_3_138 zk_Line_59 zT_1077 (zz_ltn hn rfl) rfl rfl ⟨Nat.le_of_ble_eq_true rfl, Nat.le_of_ble_eq_true rfl⟩ ⟨rfl, rfl⟩ (Nat.zero_le _) (Nat.zero_le _) (zc_addIf_5_7 1 45 S81 n hn G_S81 (by omega) (by omega)) (fun S91 hP => ?_)
                  obtain ⟨G_S91, fS91⟩ := hP
                  have F_S91 := zz_fr.trans F_S81 fS91 rfl zz_nv
                  refine zz_aload_n (x := 1077) rfl zd_5_3_141 ?_
                  refine zz_bipush (by decide) zd_5_3_142 ?_
                  refine zz_callVV [zi 10] zd_5_3_144 zk_Line_69 zT_1077 (zz_ltn hn rfl) rfl rfl ⟨Nat.le_of_ble_eq_true rfl, Nat.le_of_ble_eq_true rfl⟩ ⟨rfl, rfl⟩ (Nat.zero_le _) (Nat.zero_le _) (zc_addSign_5_12 10 S91 n hn G_S91 (by omega)) (fun S93 hP => ?_)
                  obtain ⟨G_S93, fS93⟩ := hP
                  have F_S93 := zz_fr.trans F_S91 fS93 rfl zz_nv
                  exact zz_vret zd_5_3_147 rfl (Nat.zero_le _) (Nat.zero_le _) ⟨_, rfl, G_S93, F_S93⟩
              · refine zz_ldcs (t := 44) (by decide +kernel) (by decide) zd_5_3_125 ?_
                refine zz_callVV [zi 1, .ref (100 + 44)] zd_5_3_127 zk_Line_59 zT_1077 (zz_ltn hn rfl) rfl rfl ⟨Nat.le_of_ble_eq_true rfl, Nat.le_of_ble_eq_true rfl⟩ ⟨rfl, rfl⟩ (Nat.zero_le _) (Nat.zero_le _) (zc_addIf_5_7 1 44 S75 n hn G_S75 (by omega) (by omega)) (fun S95 hP => ?_)
                obtain ⟨G_S95, fS95⟩ := hP
                have F_S95 := zz_fr.trans F_S75 fS95 rfl zz_nv
                refine zz_aload_n (x := 1077) rfl zd_5_3_130 ?_
                refine zz_lload_n (x := p0) rfl zd_5_3_131 ?_
                refine zz_iconst zd_5_3_132 ?_
                refine zz_callSI [zl p0, zi 4] zd_5_3_133 zk_Line_39 rfl rfl ⟨Nat.le_of_ble_eq_true rfl, Nat.le_of_ble_eq_true rfl⟩ ⟨rfl, rfl⟩ (Nat.zero_le _) (Nat.zero_le _) (zc_has_12_3x_4 p0 S95 n hn G_S95 (by omega)) (fun v98 S97 hP => ?_)
                obtain ⟨rfl, o99, o100⟩ := hP
                rcases (by omega : v98 = 0 ∨ v98 = 1) with rfl | rfl
                · refine zz_ldcs (t := 45) (by decide +kernel) (by decide) zd_5_3_136 ?_
                  refine zz_callVV [zi 0, .ref (100 + 45)] zd_5_3_138 zk_Line_59 zT_1077 (zz_ltn hn rfl) rfl rfl ⟨Nat.le_of_ble_eq_true rfl, Nat.le_of_ble_eq_true rfl⟩ ⟨rfl, rfl⟩ (Nat.zero_le _) (Nat.zero_le _) (zc_addIf_5_7 0 45 S95 n hn G_S95 (by omega) (by omega)) (fun S101 hP => ?_)
                  obtain ⟨G_S101, fS101⟩ := hP
                  have F_S101 := zz_fr.trans F_S95 fS101 rfl zz_nv
                  refine zz_aload_n (x := 1077) rfl zd_5_3_141 ?_
                  refine zz_bipush (by decide) zd_5_3_142 ?_
                  refine zz_callVV [zi 10] zd_5_3_144 zk_Line_69 zT_1077 (zz_ltn hn rfl) rfl rfl ⟨Nat.le_of_ble_eq_true rfl, Nat.le_of_ble_eq_true rfl⟩ ⟨rfl, rfl⟩ (Nat.zero_le _) (Nat.zero_le _) (zc_addSign_5_12 10 S101 n hn G_S101 (by omega)) (fun S103 hP => ?_)
                  obtain ⟨G_S103, fS103⟩ := hP
                  have F_S103 := zz_fr.trans F_S101 fS103 rfl zz_nv
                  exact zz_vret zd_5_3_147 rfl (Nat.zero_le _) (Nat.zero_le _) ⟨_, rfl, G_S103, F_S103⟩
                · refine zz_ldcs (t := 45) (by decide +kernel) (by decide) zd_5_3_136 ?_
                  refine zz_callVV [zi 1, .ref (100 + 45)] zd_5_3_138 zk_Line_59 zT_1077 (zz_ltn hn rfl) rfl rfl ⟨Nat.le_of_ble_eq_true rfl, Nat.le_of_ble_eq_true rfl⟩ ⟨rfl, rfl⟩ (Nat.zero_le _) (Nat.zero_le _) (zc_addIf_5_7 1 45 S95 n hn G_S95 (by omega) (by omega)) (fun S105 hP => ?_)
                  obtain ⟨G_S105, fS105⟩ := hP
                  have F_S105 := zz_fr.trans F_S95 fS105 rfl zz_nv
                  refine zz_aload_n (x := 1077) rfl zd_5_3_141 ?_
                  refine zz_bipush (by decide) zd_5_3_142 ?_
                  refine zz_callVV [zi 10] zd_5_3_144 zk_Line_69 zT_1077 (zz_ltn hn rfl) rfl rfl ⟨Nat.le_of_ble_eq_true rfl, Nat.le_of_ble_eq_true rfl⟩ ⟨rfl, rfl⟩ (Nat.zero_le _) (Nat.zero_le _) (zc_addSign_5_12 10 S105 n hn G_S105 (by omega)) (fun S107 hP => ?_)
                  obtain ⟨G_S107, fS107⟩ := hP
                  have F_S107 := zz_fr.trans F_S105 fS107 rfl zz_nv
                  exact zz_vret zd_5_3_147 rfl (Nat.zero_le _) (Nat.zero_le _) ⟨_, rfl, G_S107, F_S107⟩
          · refine zz_ldcs (t := 42) (by decide +kernel) (by decide) zd_5_3_103 ?_
            refine zz_callVV [zi 1, .ref (100 + 42)] zd_5_3_105 zk_Line_59 zT_1077 (zz_ltn hn rfl) rfl rfl ⟨Nat.le_of_ble_eq_true rfl, Nat.le_of_ble_eq_true rfl⟩ ⟨rfl, rfl⟩ (Nat.zero_le _) (Nat.zero_le _) (zc_addIf_5_7 1 42 S29 n hn G_S29 (by omega) (by omega)) (fun S109 hP => ?_)
            obtain ⟨G_S109, fS109⟩ := hP
            have F_S109 := zz_fr.trans F_S29 fS109 rfl zz_nv
            refine zz_aload_n (x := 1077) rfl zd_5_3_108 ?_
            refine zz_lload_n (x := p0) rfl zd_5_3_109 ?_
            refine zz_iconst zd_5_3_110 ?_
            refine zz_callSI [zl p0, zi 2] zd_5_3_111 zk_Line_39 rfl rfl ⟨Nat.le_of_ble_eq_true rfl, Nat.le_of_ble_eq_true rfl⟩ ⟨rfl, rfl⟩ (Nat.zero_le _) (Nat.zero_le _) (zc_has_12_3x_2 p0 S109 n hn G_S109 (by omega)) (fun v112 S111 hP => ?_)
            obtain ⟨rfl, o113, o114⟩ := hP
            rcases (by omega : v112 = 0 ∨ v112 = 1) with rfl | rfl
            · refine zz_ldcs (t := 43) (by decide +kernel) (by decide) zd_5_3_114 ?_
              refine zz_callVV [zi 0, .ref (100 + 43)] zd_5_3_116 zk_Line_59 zT_1077 (zz_ltn hn rfl) rfl rfl ⟨Nat.le_of_ble_eq_true rfl, Nat.le_of_ble_eq_true rfl⟩ ⟨rfl, rfl⟩ (Nat.zero_le _) (Nat.zero_le _) (zc_addIf_5_7 0 43 S109 n hn G_S109 (by omega) (by omega)) (fun S115 hP => ?_)
              obtain ⟨G_S115, fS115⟩ := hP
              have F_S115 := zz_fr.trans F_S109 fS115 rfl zz_nv
              refine zz_aload_n (x := 1077) rfl zd_5_3_119 ?_
              refine zz_lload_n (x := p0) rfl zd_5_3_120 ?_
              refine zz_iconst zd_5_3_121 ?_
              refine zz_callSI [zl p0, zi 3] zd_5_3_122 zk_Line_39 rfl rfl ⟨Nat.le_of_ble_eq_true rfl, Nat.le_of_ble_eq_true rfl⟩ ⟨rfl, rfl⟩ (Nat.zero_le _) (Nat.zero_le _) (zc_has_12_3x_3 p0 S115 n hn G_S115 (by omega)) (fun v118 S117 hP => ?_)
              obtain ⟨rfl, o119, o120⟩ := hP
              rcases (by omega : v118 = 0 ∨ v118 = 1) with rfl | rfl
              · refine zz_ldcs (t := 44) (by decide +kernel) (by decide) zd_5_3_125 ?_
                refine zz_callVV [zi 0, .ref (100 + 44)] zd_5_3_127 zk_Line_59 zT_1077 (zz_ltn hn rfl) rfl rfl ⟨Nat.le_of_ble_eq_true rfl, Nat.le_of_ble_eq_true rfl⟩ ⟨rfl, rfl⟩ (Nat.zero_le _) (Nat.zero_le _) (zc_addIf_5_7 0 44 S115 n hn G_S115 (by omega) (by omega)) (fun S121 hP => ?_)
                obtain ⟨G_S121, fS121⟩ := hP
                have F_S121 := zz_fr.trans F_S115 fS121 rfl zz_nv
                refine zz_aload_n (x := 1077) rfl zd_5_3_130 ?_
                refine zz_lload_n (x := p0) rfl zd_5_3_131 ?_
                refine zz_iconst zd_5_3_132 ?_
                refine zz_callSI [zl p0, zi 4] zd_5_3_133 zk_Line_39 rfl rfl ⟨Nat.le_of_ble_eq_true rfl, Nat.le_of_ble_eq_true rfl⟩ ⟨rfl, rfl⟩ (Nat.zero_le _) (Nat.zero_le _) (zc_has_12_3x_4 p0 S121 n hn G_S121 (by omega)) (fun v124 S123 hP => ?_)
                obtain ⟨rfl, o125, o126⟩ := hP
                rcases (by omega : v124 = 0 ∨ v124 = 1) with rfl | rfl
                · refine zz_ldcs (t := 45) (by decide +kernel) (by decide) zd_5_3_136 ?_
                  refine zz_callVV [zi 0, .ref (100 + 45)] zd_5_3_138 zk_Line_59 zT_1077 (zz_ltn hn rfl) rfl rfl ⟨Nat.le_of_ble_eq_true rfl, Nat.le_of_ble_eq_true rfl⟩ ⟨rfl, rfl⟩ (Nat.zero_le _) (Nat.zero_le _) (zc_addIf_5_7 0 45 S121 n hn G_S121 (by omega) (by omega)) (fun S127 hP => ?_)
                  obtain ⟨G_S127, fS127⟩ := hP
                  have F_S127 := zz_fr.trans F_S121 fS127 rfl zz_nv
                  refine zz_aload_n (x := 1077) rfl zd_5_3_141 ?_
                  refine zz_bipush (by decide) zd_5_3_142 ?_
                  refine zz_callVV [zi 10] zd_5_3_144 zk_Line_69 zT_1077 (zz_ltn hn rfl) rfl rfl ⟨Nat.le_of_ble_eq_true rfl, Nat.le_of_ble_eq_true rfl⟩ ⟨rfl, rfl⟩ (Nat.zero_le _) (Nat.zero_le _) (zc_addSign_5_12 10 S127 n hn G_S127 (by omega)) (fun S129 hP => ?_)
                  obtain ⟨G_S129, fS129⟩ := hP
                  have F_S129 := zz_fr.trans F_S127 fS129 rfl zz_nv
                  exact zz_vret zd_5_3_147 rfl (Nat.zero_le _) (Nat.zero_le _) ⟨_, rfl, G_S129, F_S129⟩
                · refine zz_ldcs (t := 45) (by decide +kernel) (by decide) zd_5_3_136 ?_
                  refine zz_callVV [zi 1, .ref (100 + 45)] zd_5_3_138 zk_Line_59 zT_1077 (zz_ltn hn rfl) rfl rfl ⟨Nat.le_of_ble_eq_true rfl, Nat.le_of_ble_eq_true rfl⟩ ⟨rfl, rfl⟩ (Nat.zero_le _) (Nat.zero_le _) (zc_addIf_5_7 1 45 S121 n hn G_S121 (by omega) (by omega)) (fun S131 hP => ?_)
                  obtain ⟨G_S131, fS131⟩ := hP
                  have F_S131 := zz_fr.trans F_S121 fS131 rfl zz_nv
                  refine zz_aload_n (x := 1077) rfl zd_5_3_141 ?_
                  refine zz_bipush (by decide) zd_5_3_142 ?_
                  refine zz_callVV [zi 10] zd_5_3_144 zk_Line_69 zT_1077 (zz_ltn hn rfl) rfl rfl ⟨Nat.le_of_ble_eq_true rfl, Nat.le_of_ble_eq_true rfl⟩ ⟨rfl, rfl⟩ (Nat.zero_le _) (Nat.zero_le _) (zc_addSign_5_12 10 S131 n hn G_S131 (by omega)) (fun S133 hP => ?_)
                  obtain ⟨G_S133, fS133⟩ := hP
                  have F_S133 := zz_fr.trans F_S131 fS133 rfl zz_nv
                  exact zz_vret zd_5_3_147 rfl (Nat.zero_le _) (Nat.zero_le _) ⟨_, rfl, G_S133, F_S133⟩
              · refine zz_ldcs (t := 44) (by decide +kernel) (by decide) zd_5_3_125 ?_
                refine zz_callVV [zi 1, .ref (100 + 44)] zd_5_3_127 zk_Line_59 zT_1077 (zz_ltn hn rfl) rfl rfl ⟨Nat.le_of_ble_eq_true rfl, Nat.le_of_ble_eq_true rfl⟩ ⟨rfl, rfl⟩ (Nat.zero_le _) (Nat.zero_le _) (zc_addIf_5_7 1 44 S115 n hn G_S115 (by omega) (by omega)) (fun S135 hP => ?_)
                obtain ⟨G_S135, fS135⟩ := hP
                have F_S135 := zz_fr.trans F_S115 fS135 rfl zz_nv
                refine zz_aload_n (x := 1077) rfl zd_5_3_130 ?_
                refine zz_lload_n (x := p0) rfl zd_5_3_131 ?_
                refine zz_iconst zd_5_3_132 ?_
                refine zz_callSI [zl p0, zi 4] zd_5_3_133 zk_Line_39 rfl rfl ⟨Nat.le_of_ble_eq_true rfl, Nat.le_of_ble_eq_true rfl⟩ ⟨rfl, rfl⟩ (Nat.zero_le _) (Nat.zero_le _) (zc_has_12_3x_4 p0 S135 n hn G_S135 (by omega)) (fun v138 S137 hP => ?_)
                obtain ⟨rfl, o139, o140⟩ := hP
                rcases (by omega : v138 = 0 ∨ v138 = 1) with rfl | rfl
                · refine zz_ldcs (t := 45) (by decide +kernel) (by decide) zd_5_3_136 ?_
                  refine zz_callVV [zi 0, .ref (100 + 45)] zd_5_3_138 zk_Line_59 zT_1077 (zz_ltn hn rfl) rfl rfl ⟨Nat.le_of_ble_eq_true rfl, Nat.le_of_ble_eq_true rfl⟩ ⟨rfl, rfl⟩ (Nat.zero_le _) (Nat.zero_le _) (zc_addIf_5_7 0 45 S135 n hn G_S135 (by omega) (by omega)) (fun S141 hP => ?_)
                  obtain ⟨G_S141, fS141⟩ := hP
                  have F_S141 := zz_fr.trans F_S135 fS141 rfl zz_nv
                  refine zz_aload_n (x := 1077) rfl zd_5_3_141 ?_
                  refine zz_bipush (by decide) zd_5_3_142 ?_
                  refine zz_callVV [zi 10] zd_5_3_144 zk_Line_69 zT_1077 (zz_ltn hn rfl) rfl rfl ⟨Nat.le_of_ble_eq_true rfl, Nat.le_of_ble_eq_true rfl⟩ ⟨rfl, rfl⟩ (Nat.zero_le _) (Nat.zero_le _) (zc_addSign_5_12 10 S141 n hn G_S141 (by omega)) (fun S143 hP => ?_)
                  obtain ⟨G_S143, fS143⟩ := hP
                  have F_S143 := zz_fr.trans F_S141 fS143 rfl zz_nv
                  exact zz_vret zd_5_3_147 rfl (Nat.zero_le _) (Nat.zero_le _) ⟨_, rfl, G_S143, F_S143⟩
                · refine zz_ldcs (t := 45) (by decide +kernel) (by decide) zd_5_3_136 ?_
                  refine zz_callVV [zi 1, .ref (100 + 45)] zd_5_3_138 zk_Line_59 zT_1077 (zz_ltn hn rfl) rfl rfl ⟨Nat.le_of_ble_eq_true rfl, Nat.le_of_ble_eq_true rfl⟩ ⟨rfl, rfl⟩ (Nat.zero_le _) (Nat.zero_le _) (zc_addIf_5_7 1 45 S135 n hn G_S135 (by omega) (by omega)) (fun S145 hP => ?_)
                  obtain ⟨G_S145, fS145⟩ := hP
                  have F_S145 := zz_fr.trans F_S135 fS145 rfl zz_nv
                  refine zz_aload_n (x := 1077) rfl zd_5_3_141 ?_
                  refine zz_bipush (by decide) zd_5_3_142 ?_
                  refine zz_callVV [zi 10] zd_5_3_144 zk_Line_69 zT_1077 (zz_ltn hn rfl) rfl rfl ⟨Nat.le_of_ble_eq_true rfl, Nat.le_of_ble_eq_true rfl⟩ ⟨rfl, rfl⟩ (Nat.zero_le _) (Nat.zero_le _) (zc_addSign_5_12 10 S145 n hn G_S145 (by omega)) (fun S147 hP => ?_)
                  obtain ⟨G_S147, fS147⟩ := hP
                  have F_S147 := zz_fr.trans F_S145 fS147 rfl zz_nv
                  exact zz_vret zd_5_3_147 rfl (Nat.zero_le _) (Nat.zero_le _) ⟨_, rfl, G_S147, F_S147⟩
            · refine zz_ldcs (t := 43) (by decide +kernel) (by decide) zd_5_3_114 ?_
              refine zz_callVV [zi 1, .ref (100 + 43)] zd_5_3_116 zk_Line_59 zT_1077 (zz_ltn hn rfl) rfl rfl ⟨Nat.le_of_ble_eq_true rfl, Nat.le_of_ble_eq_true rfl⟩ ⟨rfl, rfl⟩ (Nat.zero_le _) (Nat.zero_le _) (zc_addIf_5_7 1 43 S109 n hn G_S109 (by omega) (by omega)) (fun S149 hP => ?_)
              obtain ⟨G_S149, fS149⟩ := hP
              have F_S149 := zz_fr.trans F_S109 fS149 rfl zz_nv
              refine zz_aload_n (x := 1077) rfl zd_5_3_119 ?_
              refine zz_lload_n (x := p0) rfl zd_5_3_120 ?_
              refine zz_iconst zd_5_3_121 ?_
              refine zz_callSI [zl p0, zi 3] zd_5_3_122 zk_Line_39 rfl rfl ⟨Nat.le_of_ble_eq_true rfl, Nat.le_of_ble_eq_true rfl⟩ ⟨rfl, rfl⟩ (Nat.zero_le _) (Nat.zero_le _) (zc_has_12_3x_3 p0 S149 n hn G_S149 (by omega)) (fun v152 S151 hP => ?_)
              obtain ⟨rfl, o153, o154⟩ := hP
              rcases (by omega : v152 = 0 ∨ v152 = 1) with rfl | rfl
              · refine zz_ldcs (t := 44) (by decide +kernel) (by decide) zd_5_3_125 ?_
                refine zz_callVV [zi 0, .ref (100 + 44)] zd_5_3_127 zk_Line_59 zT_1077 (zz_ltn hn rfl) rfl rfl ⟨Nat.le_of_ble_eq_true rfl, Nat.le_of_ble_eq_true rfl⟩ ⟨rfl, rfl⟩ (Nat.zero_le _) (Nat.zero_le _) (zc_addIf_5_7 0 44 S149 n hn G_S149 (by omega) (by omega)) (fun S155 hP => ?_)
                obtain ⟨G_S155, fS155⟩ := hP
                have F_S155 := zz_fr.trans F_S149 fS155 rfl zz_nv
                refine zz_aload_n (x := 1077) rfl zd_5_3_130 ?_
                refine zz_lload_n (x := p0) rfl zd_5_3_131 ?_
                refine zz_iconst zd_5_3_132 ?_
                refine zz_callSI [zl p0, zi 4] zd_5_3_133 zk_Line_39 rfl rfl ⟨Nat.le_of_ble_eq_true rfl, Nat.le_of_ble_eq_true rfl⟩ ⟨rfl, rfl⟩ (Nat.zero_le _) (Nat.zero_le _) (zc_has_12_3x_4 p0 S155 n hn G_S155 (by omega)) (fun v158 S157 hP => ?_)
                obtain ⟨rfl, o159, o160⟩ := hP
                rcases (by omega : v158 = 0 ∨ v158 = 1) with rfl | rfl
                · refine zz_ldcs (t := 45) (by decide +kernel) (by decide) zd_5_3_136 ?_
                  refine zz_callVV [zi 0, .ref (100 + 45)] zd_5_3_138 zk_Line_59 zT_1077 (zz_ltn hn rfl) rfl rfl ⟨Nat.le_of_ble_eq_true rfl, Nat.le_of_ble_eq_true rfl⟩ ⟨rfl, rfl⟩ (Nat.zero_le _) (Nat.zero_le _) (zc_addIf_5_7 0 45 S155 n hn G_S155 (by omega) (by omega)) (fun S161 hP => ?_)
                  obtain ⟨G_S161, fS161⟩ := hP
                  have F_S161 := zz_fr.trans F_S155 fS161 rfl zz_nv
                  refine zz_aload_n (x := 1077) rfl zd_5_3_141 ?_
                  refine zz_bipush (by decide) zd_5_3_142 ?_
                  refine zz_callVV [zi 10] zd_5_3_144 zk_Line_69 zT_1077 (zz_ltn hn rfl) rfl rfl ⟨Nat.le_of_ble_eq_true rfl, Nat.le_of_ble_eq_true rfl⟩ ⟨rfl, rfl⟩ (Nat.zero_le _) (Nat.zero_le _) (zc_addSign_5_12 10 S161 n hn G_S161 (by omega)) (fun S163 hP => ?_)
                  obtain ⟨G_S163, fS163⟩ := hP
                  have F_S163 := zz_fr.trans F_S161 fS163 rfl zz_nv
                  exact zz_vret zd_5_3_147 rfl (Nat.zero_le _) (Nat.zero_le _) ⟨_, rfl, G_S163, F_S163⟩
                · refine zz_ldcs (t := 45) (by decide +kernel) (by decide) zd_5_3_136 ?_
                  refine zz_callVV [zi 1, .ref (100 + 45)] zd_5_3_138 zk_Line_59 zT_1077 (zz_ltn hn rfl) rfl rfl ⟨Nat.le_of_ble_eq_true rfl, Nat.le_of_ble_eq_true rfl⟩ ⟨rfl, rfl⟩ (Nat.zero_le _) (Nat.zero_le _) (zc_addIf_5_7 1 45 S155 n hn G_S155 (by omega) (by omega)) (fun S165 hP => ?_)
                  obtain ⟨G_S165, fS165⟩ := hP
                  have F_S165 := zz_fr.trans F_S155 fS165 rfl zz_nv
                  refine zz_aload_n (x := 1077) rfl zd_5_3_141 ?_
                  refine zz_bipush (by decide) zd_5_3_142 ?_
                  refine zz_callVV [zi 10] zd_5_3_144 zk_Line_69 zT_1077 (zz_ltn hn rfl) rfl rfl ⟨Nat.le_of_ble_eq_true rfl, Nat.le_of_ble_eq_true rfl⟩ ⟨rfl, rfl⟩ (Nat.zero_le _) (Nat.zero_le _) (zc_addSign_5_12 10 S165 n hn G_S165 (by omega)) (fun S167 hP => ?_)
                  obtain ⟨G_S167, fS167⟩ := hP
                  have F_S167 := zz_fr.trans F_S165 fS167 rfl zz_nv
                  exact zz_vret zd_5_3_147 rfl (Nat.zero_le _) (Nat.zero_le _) ⟨_, rfl, G_S167, F_S167⟩
              · refine zz_ldcs (t := 44) (by decide +kernel) (by decide) zd_5_3_125 ?_
                refine zz_callVV [zi 1, .ref (100 + 44)] zd_5_3_127 zk_Line_59 zT_1077 (zz_ltn hn rfl) rfl rfl ⟨Nat.le_of_ble_eq_true rfl, Nat.le_of_ble_eq_true rfl⟩ ⟨rfl, rfl⟩ (Nat.zero_le _) (Nat.zero_le _) (zc_addIf_5_7 1 44 S149 n hn G_S149 (by omega) (by omega)) (fun S169 hP => ?_)
                obtain ⟨G_S169, fS169⟩ := hP
                have F_S169 := zz_fr.trans F_S149 fS169 rfl zz_nv
                refine zz_aload_n (x := 1077) rfl zd_5_3_130 ?_
                refine zz_lload_n (x := p0) rfl zd_5_3_131 ?_
                refine zz_iconst zd_5_3_132 ?_
                refine zz_callSI [zl p0, zi 4] zd_5_3_133 zk_Line_39 rfl rfl ⟨Nat.le_of_ble_eq_true rfl, Nat.le_of_ble_eq_true rfl⟩ ⟨rfl, rfl⟩ (Nat.zero_le _) (Nat.zero_le _) (zc_has_12_3x_4 p0 S169 n hn G_S169 (by omega)) (fun v172 S171 hP => ?_)
                obtain ⟨rfl, o173, o174⟩ := hP
                rcases (by omega : v172 = 0 ∨ v172 = 1) with rfl | rfl
                · refine zz_ldcs (t := 45) (by decide +kernel) (by decide) zd_5_3_136 ?_
                  refine zz_callVV [zi 0, .ref (100 + 45)] zd_5_3_138 zk_Line_59 zT_1077 (zz_ltn hn rfl) rfl rfl ⟨Nat.le_of_ble_eq_true rfl, Nat.le_of_ble_eq_true rfl⟩ ⟨rfl, rfl⟩ (Nat.zero_le _) (Nat.zero_le _) (zc_addIf_5_7 0 45 S169 n hn G_S169 (by omega) (by omega)) (fun S175 hP => ?_)
                  obtain ⟨G_S175, fS175⟩ := hP
                  have F_S175 := zz_fr.trans F_S169 fS175 rfl zz_nv
                  refine zz_aload_n (x := 1077) rfl zd_5_3_141 ?_
                  refine zz_bipush (by decide) zd_5_3_142 ?_
                  refine zz_callVV [zi 10] zd_5_3_144 zk_Line_69 zT_1077 (zz_ltn hn rfl) rfl rfl ⟨Nat.le_of_ble_eq_true rfl, Nat.le_of_ble_eq_true rfl⟩ ⟨rfl, rfl⟩ (Nat.zero_le _) (Nat.zero_le _) (zc_addSign_5_12 10 S175 n hn G_S175 (by omega)) (fun S177 hP => ?_)
                  obtain ⟨G_S177, fS177⟩ := hP
                  have F_S177 := zz_fr.trans F_S175 fS177 rfl zz_nv
                  exact zz_vret zd_5_3_147 rfl (Nat.zero_le _) (Nat.zero_le _) ⟨_, rfl, G_S177, F_S177⟩
                · refine zz_ldcs (t := 45) (by decide +kernel) (by decide) zd_5_3_136 ?_
                  refine zz_callVV [zi 1, .ref (100 + 45)] zd_5_3_138 zk_Line_59 zT_1077 (zz_ltn hn rfl) rfl rfl ⟨Nat.le_of_ble_eq_true rfl, Nat.le_of_ble_eq_true rfl⟩ ⟨rfl, rfl⟩ (Nat.zero_le _) (Nat.zero_le _) (zc_addIf_5_7 1 45 S169 n hn G_S169 (by omega) (by omega)) (fun S179 hP => ?_)
                  obtain ⟨G_S179, fS179⟩ := hP
                  have F_S179 := zz_fr.trans F_S169 fS179 rfl zz_nv
                  refine zz_aload_n (x := 1077) rfl zd_5_3_141 ?_
                  refine zz_bipush (by decide) zd_5_3_142 ?_
                  refine zz_callVV [zi 10] zd_5_3_144 zk_Line_69 zT_1077 (zz_ltn hn rfl) rfl rfl ⟨Nat.le_of_ble_eq_true rfl, Nat.le_of_ble_eq_true rfl⟩ ⟨rfl, rfl⟩ (Nat.zero_le _) (Nat.zero_le _) (zc_addSign_5_12 10 S179 n hn G_S179 (by omega)) (fun S181 hP => ?_)
                  obtain ⟨G_S181, fS181⟩ := hP
                  have F_S181 := zz_fr.trans F_S179 fS181 rfl zz_nv
                  exact zz_vret zd_5_3_147 rfl (Nat.zero_le _) (Nat.zero_le _) ⟨_, rfl, G_S181, F_S181⟩
        · exfalso; omega
      · refine zz_if_eq (by omega) zd_5_3_40 (fun c183 => ?_) (fun c183 => ?_)
        · exfalso; omega
        · refine zz_aload_n (x := 1077) rfl zd_5_3_43 ?_
          refine zz_ldcs (t := 11) (by decide +kernel) (by decide) zd_5_3_44 ?_
          refine zz_lload_n (x := p0) rfl zd_5_3_46 ?_
          refine zz_bipush (by decide) zd_5_3_47 ?_
          refine zz_callSI [zl p0, zi 6] zd_5_3_49 zk_Line_21 rfl rfl ⟨Nat.le_of_ble_eq_true rfl, Nat.le_of_ble_eq_true rfl⟩ ⟨rfl, rfl⟩ (Nat.zero_le _) (Nat.zero_le _) (zc_get_12_2x_6 p0 S11 n hn G_S11 (by omega)) (fun v185 S184 hP => ?_)
          obtain ⟨rfl, o186, o187⟩ := hP
          subst o187
          refine zz_lload_n (x := p0) rfl zd_5_3_52 ?_
          refine zz_bipush (by decide) zd_5_3_53 ?_
          refine zz_callSI [zl p0, zi 7] zd_5_3_55 zk_Line_21 rfl rfl ⟨Nat.le_of_ble_eq_true rfl, Nat.le_of_ble_eq_true rfl⟩ ⟨rfl, rfl⟩ (Nat.zero_le _) (Nat.zero_le _) (zc_get_12_2x_7 p0 S11 n hn G_S11 (by omega)) (fun v189 S188 hP => ?_)
          obtain ⟨rfl, o190, o191⟩ := hP
          subst o191
          refine zz_callVV [.ref (100 + 11), zi (zz_fy p0 20 63), zi (zz_fy p0 26 31)] zd_5_3_58 zk_Line_45 zT_1077 (zz_ltn hn rfl) rfl rfl ⟨Nat.le_of_ble_eq_true rfl, Nat.le_of_ble_eq_true rfl⟩ ⟨rfl, rfl⟩ (Nat.zero_le _) (Nat.zero_le _) (zc_addPair_5_8 11 (zz_fy p0 20 63) (zz_fy p0 26 31) S11 n hn G_S11 (by omega) (by omega) (by omega)) (fun S192 hP => ?_)
          obtain ⟨G_S192, fS192⟩ := hP
          have F_S192 := zz_fr.trans F_S11 fS192 rfl zz_nv
          refine zz_aload_n (x := 1077) rfl zd_5_3_61 ?_
          refine zz_ldcs (t := 13) (by decide +kernel) (by decide) zd_5_3_62 ?_
          refine zz_lload_n (x := p0) rfl zd_5_3_64 ?_
          refine zz_bipush (by decide) zd_5_3_65 ?_
          refine zz_callVV [.ref (100 + 13), zl p0, zi 8] zd_5_3_67 zk_Line_35 zT_1077 (zz_ltn hn rfl) rfl rfl ⟨Nat.le_of_ble_eq_true rfl, Nat.le_of_ble_eq_true rfl⟩ ⟨rfl, rfl⟩ (Nat.zero_le _) (Nat.zero_le _) (zc_addUnlessNothing_5_6 13 p0 8 S192 n hn G_S192 (by omega) (by omega) (by omega)) (fun S194 hP => ?_)
          obtain ⟨G_S194, fS194⟩ := hP
          have F_S194 := zz_fr.trans F_S192 fS194 rfl zz_nv
          refine zz_aload_n (x := 1077) rfl zd_5_3_70 ?_
          refine zz_ldcs (t := 14) (by decide +kernel) (by decide) zd_5_3_71 ?_
          refine zz_lload_n (x := p0) rfl zd_5_3_73 ?_
          refine zz_bipush (by decide) zd_5_3_74 ?_
          refine zz_callVV [.ref (100 + 14), zl p0, zi 9] zd_5_3_76 zk_Line_35 zT_1077 (zz_ltn hn rfl) rfl rfl ⟨Nat.le_of_ble_eq_true rfl, Nat.le_of_ble_eq_true rfl⟩ ⟨rfl, rfl⟩ (Nat.zero_le _) (Nat.zero_le _) (zc_addUnlessNothing_5_6 14 p0 9 S194 n hn G_S194 (by omega) (by omega) (by omega)) (fun S196 hP => ?_)
          obtain ⟨G_S196, fS196⟩ := hP
          have F_S196 := zz_fr.trans F_S194 fS196 rfl zz_nv
          refine zz_aload_n (x := 1077) rfl zd_5_3_79 ?_
          refine zz_ldcs (t := 15) (by decide +kernel) (by decide) zd_5_3_80 ?_
          refine zz_lload_n (x := p0) rfl zd_5_3_82 ?_
          refine zz_bipush (by decide) zd_5_3_83 ?_
          refine zz_callVV [.ref (100 + 15), zl p0, zi 10] zd_5_3_85 zk_Line_35 zT_1077 (zz_ltn hn rfl) rfl rfl ⟨Nat.le_of_ble_eq_true rfl, Nat.le_of_ble_eq_true rfl⟩ ⟨rfl, rfl⟩ (Nat.zero_le _) (Nat.zero_le _) (zc_addUnlessNothing_5_6 15 p0 10 S196 n hn G_S196 (by omega) (by omega) (by omega)) (fun S198 hP => ?_)
          obtain ⟨G_S198, fS198⟩ := hP
          have F_S198 := zz_fr.trans F_S196 fS198 rfl zz_nv
          refine zz_aload_n (x := 1077) rfl zd_5_3_88 ?_
          refine zz_ldcs (t := 16) (by decide +kernel) (by decide) zd_5_3_89 ?_
          refine zz_lload_n (x := p0) rfl zd_5_3_91 ?_
          refine zz_bipush (by decide) zd_5_3_92 ?_
          refine zz_callVV [.ref (100 + 16), zl p0, zi 11] zd_5_3_94 zk_Line_35 zT_1077 (zz_ltn hn rfl) rfl rfl ⟨Nat.le_of_ble_eq_true rfl, Nat.le_of_ble_eq_true rfl⟩ ⟨rfl, rfl⟩ (Nat.zero_le _) (Nat.zero_le _) (zc_addUnlessNothing_5_6 16 p0 11 S198 n hn G_S198 (by omega) (by omega) (by omega)) (fun S200 hP => ?_)
          obtain ⟨G_S200, fS200⟩ := hP
          have F_S200 := zz_fr.trans F_S198 fS200 rfl zz_nv
          refine zz_aload_n (x := 1077) rfl zd_5_3_97 ?_
          refine zz_lload_n (x := p0) rfl zd_5_3_98 ?_
          refine zz_iconst zd_5_3_99 ?_
          refine zz_callSI [zl p0, zi 1] zd_5_3_100 zk_Line_39 rfl rfl ⟨Nat.le_of_ble_eq_true rfl, Nat.le_of_ble_eq_true rfl⟩ ⟨rfl, rfl⟩ (Nat.zero_le _) (Nat.zero_le _) (zc_has_12_3x_1 p0 S200 n hn G_S200 (by omega)) (fun v203 S202 hP => ?_)
          obtain ⟨rfl, o204, o205⟩ := hP
          rcases (by omega : v203 = 0 ∨ v203 = 1) with rfl | rfl
          · refine zz_ldcs (t := 42) (by decide +kernel) (by decide) zd_5_3_103 ?_
            refine zz_callVV [zi 0, .ref (100 + 42)] zd_5_3_105 zk_Line_59 zT_1077 (zz_ltn hn rfl) rfl rfl ⟨Nat.le_of_ble_eq_true rfl, Nat.le_of_ble_eq_true rfl⟩ ⟨rfl, rfl⟩ (Nat.zero_le _) (Nat.zero_le _) (zc_addIf_5_7 0 42 S200 n hn G_S200 (by omega) (by omega)) (fun S206 hP => ?_)
            obtain ⟨G_S206, fS206⟩ := hP
            have F_S206 := zz_fr.trans F_S200 fS206 rfl zz_nv
            refine zz_aload_n (x := 1077) rfl zd_5_3_108 ?_
            refine zz_lload_n (x := p0) rfl zd_5_3_109 ?_
            refine zz_iconst zd_5_3_110 ?_
            refine zz_callSI [zl p0, zi 2] zd_5_3_111 zk_Line_39 rfl rfl ⟨Nat.le_of_ble_eq_true rfl, Nat.le_of_ble_eq_true rfl⟩ ⟨rfl, rfl⟩ (Nat.zero_le _) (Nat.zero_le _) (zc_has_12_3x_2 p0 S206 n hn G_S206 (by omega)) (fun v209 S208 hP => ?_)
            obtain ⟨rfl, o210, o211⟩ := hP
            rcases (by omega : v209 = 0 ∨ v209 = 1) with rfl | rfl
            · refine zz_ldcs (t := 43) (by decide +kernel) (by decide) zd_5_3_114 ?_
              refine zz_callVV [zi 0, .ref (100 + 43)] zd_5_3_116 zk_Line_59 zT_1077 (zz_ltn hn rfl) rfl rfl ⟨Nat.le_of_ble_eq_true rfl, Nat.le_of_ble_eq_true rfl⟩ ⟨rfl, rfl⟩ (Nat.zero_le _) (Nat.zero_le _) (zc_addIf_5_7 0 43 S206 n hn G_S206 (by omega) (by omega)) (fun S212 hP => ?_)
              obtain ⟨G_S212, fS212⟩ := hP
              have F_S212 := zz_fr.trans F_S206 fS212 rfl zz_nv
              refine zz_aload_n (x := 1077) rfl zd_5_3_119 ?_
              refine zz_lload_n (x := p0) rfl zd_5_3_120 ?_
              refine zz_iconst zd_5_3_121 ?_
              refine zz_callSI [zl p0, zi 3] zd_5_3_122 zk_Line_39 rfl rfl ⟨Nat.le_of_ble_eq_true rfl, Nat.le_of_ble_eq_true rfl⟩ ⟨rfl, rfl⟩ (Nat.zero_le _) (Nat.zero_le _) (zc_has_12_3x_3 p0 S212 n hn G_S212 (by omega)) (fun v215 S214 hP => ?_)
              obtain ⟨rfl, o216, o217⟩ := hP
              rcases (by omega : v215 = 0 ∨ v215 = 1) with rfl | rfl
              · refine zz_ldcs (t := 44) (by decide +kernel) (by decide) zd_5_3_125 ?_
                refine zz_callVV [zi 0, .ref (100 + 44)] zd_5_3_127 zk_Line_59 zT_1077 (zz_ltn hn rfl) rfl rfl ⟨Nat.le_of_ble_eq_true rfl, Nat.le_of_ble_eq_true rfl⟩ ⟨rfl, rfl⟩ (Nat.zero_le _) (Nat.zero_le _) (zc_addIf_5_7 0 44 S212 n hn G_S212 (by omega) (by omega)) (fun S218 hP => ?_)
                obtain ⟨G_S218, fS218⟩ := hP
                have F_S218 := zz_fr.trans F_S212 fS218 rfl zz_nv
                refine zz_aload_n (x := 1077) rfl zd_5_3_130 ?_
                refine zz_lload_n (x := p0) rfl zd_5_3_131 ?_
                refine zz_iconst zd_5_3_132 ?_
                refine zz_callSI [zl p0, zi 4] zd_5_3_133 zk_Line_39 rfl rfl ⟨Nat.le_of_ble_eq_true rfl, Nat.le_of_ble_eq_true rfl⟩ ⟨rfl, rfl⟩ (Nat.zero_le _) (Nat.zero_le _) (zc_has_12_3x_4 p0 S218 n hn G_S218 (by omega)) (fun v221 S220 hP => ?_)
                obtain ⟨rfl, o222, o223⟩ := hP
                rcases (by omega : v221 = 0 ∨ v221 = 1) with rfl | rfl
                · refine zz_ldcs (t := 45) (by decide +kernel) (by decide) zd_5_3_136 ?_
                  refine zz_callVV [zi 0, .ref (100 + 45)] zd_5_3_138 zk_Line_59 zT_1077 (zz_ltn hn rfl) rfl rfl ⟨Nat.le_of_ble_eq_true rfl, Nat.le_of_ble_eq_true rfl⟩ ⟨rfl, rfl⟩ (Nat.zero_le _) (Nat.zero_le _) (zc_addIf_5_7 0 45 S218 n hn G_S218 (by omega) (by omega)) (fun S224 hP => ?_)
                  obtain ⟨G_S224, fS224⟩ := hP
                  have F_S224 := zz_fr.trans F_S218 fS224 rfl zz_nv
                  refine zz_aload_n (x := 1077) rfl zd_5_3_141 ?_
                  refine zz_bipush (by decide) zd_5_3_142 ?_
                  refine zz_callVV [zi 10] zd_5_3_144 zk_Line_69 zT_1077 (zz_ltn hn rfl) rfl rfl ⟨Nat.le_of_ble_eq_true rfl, Nat.le_of_ble_eq_true rfl⟩ ⟨rfl, rfl⟩ (Nat.zero_le _) (Nat.zero_le _) (zc_addSign_5_12 10 S224 n hn G_S224 (by omega)) (fun S226 hP => ?_)
                  obtain ⟨G_S226, fS226⟩ := hP
                  have F_S226 := zz_fr.trans F_S224 fS226 rfl zz_nv
                  exact zz_vret zd_5_3_147 rfl (Nat.zero_le _) (Nat.zero_le _) ⟨_, rfl, G_S226, F_S226⟩
                · refine zz_ldcs (t := 45) (by decide +kernel) (by decide) zd_5_3_136 ?_
                  refine zz_callVV [zi 1, .ref (100 + 45)] zd_5_3_138 zk_Line_59 zT_1077 (zz_ltn hn rfl) rfl rfl ⟨Nat.le_of_ble_eq_true rfl, Nat.le_of_ble_eq_true rfl⟩ ⟨rfl, rfl⟩ (Nat.zero_le _) (Nat.zero_le _) (zc_addIf_5_7 1 45 S218 n hn G_S218 (by omega) (by omega)) (fun S228 hP => ?_)
                  obtain ⟨G_S228, fS228⟩ := hP
                  have F_S228 := zz_fr.trans F_S218 fS228 rfl zz_nv
                  refine zz_aload_n (x := 1077) rfl zd_5_3_141 ?_
                  refine zz_bipush (by decide) zd_5_3_142 ?_
                  refine zz_callVV [zi 10] zd_5_3_144 zk_Line_69 zT_1077 (zz_ltn hn rfl) rfl rfl ⟨Nat.le_of_ble_eq_true rfl, Nat.le_of_ble_eq_true rfl⟩ ⟨rfl, rfl⟩ (Nat.zero_le _) (Nat.zero_le _) (zc_addSign_5_12 10 S228 n hn G_S228 (by omega)) (fun S230 hP => ?_)
                  obtain ⟨G_S230, fS230⟩ := hP
                  have F_S230 := zz_fr.trans F_S228 fS230 rfl zz_nv
                  exact zz_vret zd_5_3_147 rfl (Nat.zero_le _) (Nat.zero_le _) ⟨_, rfl, G_S230, F_S230⟩
              · refine zz_ldcs (t := 44) (by decide +kernel) (by decide) zd_5_3_125 ?_
                refine zz_callVV [zi 1, .ref (100 + 44)] zd_5_3_127 zk_Line_59 zT_1077 (zz_ltn hn rfl) rfl rfl ⟨Nat.le_of_ble_eq_true rfl, Nat.le_of_ble_eq_true rfl⟩ ⟨rfl, rfl⟩ (Nat.zero_le _) (Nat.zero_le _) (zc_addIf_5_7 1 44 S212 n hn G_S212 (by omega) (by omega)) (fun S232 hP => ?_)
                obtain ⟨G_S232, fS232⟩ := hP
                have F_S232 := zz_fr.trans F_S212 fS232 rfl zz_nv
                refine zz_aload_n (x := 1077) rfl zd_5_3_130 ?_
                refine zz_lload_n (x := p0) rfl zd_5_3_131 ?_
                refine zz_iconst zd_5_3_132 ?_
                refine zz_callSI [zl p0, zi 4] zd_5_3_133 zk_Line_39 rfl rfl ⟨Nat.le_of_ble_eq_true rfl, Nat.le_of_ble_eq_true rfl⟩ ⟨rfl, rfl⟩ (Nat.zero_le _) (Nat.zero_le _) (zc_has_12_3x_4 p0 S232 n hn G_S232 (by omega)) (fun v235 S234 hP => ?_)
                obtain ⟨rfl, o236, o237⟩ := hP
                rcases (by omega : v235 = 0 ∨ v235 = 1) with rfl | rfl
                · refine zz_ldcs (t := 45) (by decide +kernel) (by decide) zd_5_3_136 ?_
                  refine zz_callVV [zi 0, .ref (100 + 45)] zd_5_3_138 zk_Line_59 zT_1077 (zz_ltn hn rfl) rfl rfl ⟨Nat.le_of_ble_eq_true rfl, Nat.le_of_ble_eq_true rfl⟩ ⟨rfl, rfl⟩ (Nat.zero_le _) (Nat.zero_le _) (zc_addIf_5_7 0 45 S232 n hn G_S232 (by omega) (by omega)) (fun S238 hP => ?_)
                  obtain ⟨G_S238, fS238⟩ := hP
                  have F_S238 := zz_fr.trans F_S232 fS238 rfl zz_nv
                  refine zz_aload_n (x := 1077) rfl zd_5_3_141 ?_
                  refine zz_bipush (by decide) zd_5_3_142 ?_
                  refine zz_callVV [zi 10] zd_5_3_144 zk_Line_69 zT_1077 (zz_ltn hn rfl) rfl rfl ⟨Nat.le_of_ble_eq_true rfl, Nat.le_of_ble_eq_true rfl⟩ ⟨rfl, rfl⟩ (Nat.zero_le _) (Nat.zero_le _) (zc_addSign_5_12 10 S238 n hn G_S238 (by omega)) (fun S240 hP => ?_)
                  obtain ⟨G_S240, fS240⟩ := hP
                  have F_S240 := zz_fr.trans F_S238 fS240 rfl zz_nv
                  exact zz_vret zd_5_3_147 rfl (Nat.zero_le _) (Nat.zero_le _) ⟨_, rfl, G_S240, F_S240⟩
                · refine zz_ldcs (t := 45) (by decide +kernel) (by decide) zd_5_3_136 ?_
                  refine zz_callVV [zi 1, .ref (100 + 45)] zd_5_3_138 zk_Line_59 zT_1077 (zz_ltn hn rfl) rfl rfl ⟨Nat.le_of_ble_eq_true rfl, Nat.le_of_ble_eq_true rfl⟩ ⟨rfl, rfl⟩ (Nat.zero_le _) (Nat.zero_le _) (zc_addIf_5_7 1 45 S232 n hn G_S232 (by omega) (by omega)) (fun S242 hP => ?_)
                  obtain ⟨G_S242, fS242⟩ := hP
                  have F_S242 := zz_fr.trans F_S232 fS242 rfl zz_nv
                  refine zz_aload_n (x := 1077) rfl zd_5_3_141 ?_
                  refine zz_bipush (by decide) zd_5_3_142 ?_
                  refine zz_callVV [zi 10] zd_5_3_144 zk_Line_69 zT_1077 (zz_ltn hn rfl) rfl rfl ⟨Nat.le_of_ble_eq_true rfl, Nat.le_of_ble_eq_true rfl⟩ ⟨rfl, rfl⟩ (Nat.zero_le _) (Nat.zero_le _) (zc_addSign_5_12 10 S242 n hn G_S242 (by omega)) (fun S244 hP => ?_)
                  obtain ⟨G_S244, fS244⟩ := hP
                  have F_S244 := zz_fr.trans F_S242 fS244 rfl zz_nv
                  exact zz_vret zd_5_3_147 rfl (Nat.zero_le _) (Nat.zero_le _) ⟨_, rfl, G_S244, F_S244⟩
            · refine zz_ldcs (t := 43) (by decide +kernel) (by decide) zd_5_3_114 ?_
              refine zz_callVV [zi 1, .ref (100 + 43)] zd_5_3_116 zk_Line_59 zT_1077 (zz_ltn hn rfl) rfl rfl ⟨Nat.le_of_ble_eq_true rfl, Nat.le_of_ble_eq_true rfl⟩ ⟨rfl, rfl⟩ (Nat.zero_le _) (Nat.zero_le _) (zc_addIf_5_7 1 43 S206 n hn G_S206 (by omega) (by omega)) (fun S246 hP => ?_)
              obtain ⟨G_S246, fS246⟩ := hP
              have F_S246 := zz_fr.trans F_S206 fS246 rfl zz_nv
              refine zz_aload_n (x := 1077) rfl zd_5_3_119 ?_
              refine zz_lload_n (x := p0) rfl zd_5_3_120 ?_
              refine zz_iconst zd_5_3_121 ?_
              refine zz_callSI [zl p0, zi 3] zd_5_3_122 zk_Line_39 rfl rfl ⟨Nat.le_of_ble_eq_true rfl, Nat.le_of_ble_eq_true rfl⟩ ⟨rfl, rfl⟩ (Nat.zero_le _) (Nat.zero_le _) (zc_has_12_3x_3 p0 S246 n hn G_S246 (by omega)) (fun v249 S248 hP => ?_)
              obtain ⟨rfl, o250, o251⟩ := hP
              rcases (by omega : v249 = 0 ∨ v249 = 1) with rfl | rfl
              · refine zz_ldcs (t := 44) (by decide +kernel) (by decide) zd_5_3_125 ?_
                refine zz_callVV [zi 0, .ref (100 + 44)] zd_5_3_127 zk_Line_59 zT_1077 (zz_ltn hn rfl) rfl rfl ⟨Nat.le_of_ble_eq_true rfl, Nat.le_of_ble_eq_true rfl⟩ ⟨rfl, rfl⟩ (Nat.zero_le _) (Nat.zero_le _) (zc_addIf_5_7 0 44 S246 n hn G_S246 (by omega) (by omega)) (fun S252 hP => ?_)
                obtain ⟨G_S252, fS252⟩ := hP
                have F_S252 := zz_fr.trans F_S246 fS252 rfl zz_nv
                refine zz_aload_n (x := 1077) rfl zd_5_3_130 ?_
                refine zz_lload_n (x := p0) rfl zd_5_3_131 ?_
                refine zz_iconst zd_5_3_132 ?_
                refine zz_callSI [zl p0, zi 4] zd_5_3_133 zk_Line_39 rfl rfl ⟨Nat.le_of_ble_eq_true rfl, Nat.le_of_ble_eq_true rfl⟩ ⟨rfl, rfl⟩ (Nat.zero_le _) (Nat.zero_le _) (zc_has_12_3x_4 p0 S252 n hn G_S252 (by omega)) (fun v255 S254 hP => ?_)
                obtain ⟨rfl, o256, o257⟩ := hP
                rcases (by omega : v255 = 0 ∨ v255 = 1) with rfl | rfl
                · refine zz_ldcs (t := 45) (by decide +kernel) (by decide) zd_5_3_136 ?_
                  refine zz_callVV [zi 0, .ref (100 + 45)] zd_5_3_138 zk_Line_59 zT_1077 (zz_ltn hn rfl) rfl rfl ⟨Nat.le_of_ble_eq_true rfl, Nat.le_of_ble_eq_true rfl⟩ ⟨rfl, rfl⟩ (Nat.zero_le _) (Nat.zero_le _) (zc_addIf_5_7 0 45 S252 n hn G_S252 (by omega) (by omega)) (fun S258 hP => ?_)
                  obtain ⟨G_S258, fS258⟩ := hP
                  have F_S258 := zz_fr.trans F_S252 fS258 rfl zz_nv
                  refine zz_aload_n (x := 1077) rfl zd_5_3_141 ?_
                  refine zz_bipush (by decide) zd_5_3_142 ?_
                  refine zz_callVV [zi 10] zd_5_3_144 zk_Line_69 zT_1077 (zz_ltn hn rfl) rfl rfl ⟨Nat.le_of_ble_eq_true rfl, Nat.le_of_ble_eq_true rfl⟩ ⟨rfl, rfl⟩ (Nat.zero_le _) (Nat.zero_le _) (zc_addSign_5_12 10 S258 n hn G_S258 (by omega)) (fun S260 hP => ?_)
                  obtain ⟨G_S260, fS260⟩ := hP
                  have F_S260 := zz_fr.trans F_S258 fS260 rfl zz_nv
                  exact zz_vret zd_5_3_147 rfl (Nat.zero_le _) (Nat.zero_le _) ⟨_, rfl, G_S260, F_S260⟩
                · refine zz_ldcs (t := 45) (by decide +kernel) (by decide) zd_5_3_136 ?_
                  refine zz_callVV [zi 1, .ref (100 + 45)] zd_5_3_138 zk_Line_59 zT_1077 (zz_ltn hn rfl) rfl rfl ⟨Nat.le_of_ble_eq_true rfl, Nat.le_of_ble_eq_true rfl⟩ ⟨rfl, rfl⟩ (Nat.zero_le _) (Nat.zero_le _) (zc_addIf_5_7 1 45 S252 n hn G_S252 (by omega) (by omega)) (fun S262 hP => ?_)
                  obtain ⟨G_S262, fS262⟩ := hP
                  have F_S262 := zz_fr.trans F_S252 fS262 rfl zz_nv
                  refine zz_aload_n (x := 1077) rfl zd_5_3_141 ?_
                  refine zz_bipush (by decide) zd_5_3_142 ?_
                  refine zz_callVV [zi 10] zd_5_3_144 zk_Line_69 zT_1077 (zz_ltn hn rfl) rfl rfl ⟨Nat.le_of_ble_eq_true rfl, Nat.le_of_ble_eq_true rfl⟩ ⟨rfl, rfl⟩ (Nat.zero_le _) (Nat.zero_le _) (zc_addSign_5_12 10 S262 n hn G_S262 (by omega)) (fun S264 hP => ?_)
                  obtain ⟨G_S264, fS264⟩ := hP
                  have F_S264 := zz_fr.trans F_S262 fS264 rfl zz_nv
                  exact zz_vret zd_5_3_147 rfl (Nat.zero_le _) (Nat.zero_le _) ⟨_, rfl, G_S264, F_S264⟩
              · refine zz_ldcs (t := 44) (by decide +kernel) (by decide) zd_5_3_125 ?_
                refine zz_callVV [zi 1, .ref (100 + 44)] zd_5_3_127 zk_Line_59 zT_1077 (zz_ltn hn rfl) rfl rfl ⟨Nat.le_of_ble_eq_true rfl, Nat.le_of_ble_eq_true rfl⟩ ⟨rfl, rfl⟩ (Nat.zero_le _) (Nat.zero_le _) (zc_addIf_5_7 1 44 S246 n hn G_S246 (by omega) (by omega)) (fun S266 hP => ?_)
                obtain ⟨G_S266, fS266⟩ := hP
                have F_S266 := zz_fr.trans F_S246 fS266 rfl zz_nv
                refine zz_aload_n (x := 1077) rfl zd_5_3_130 ?_
                refine zz_lload_n (x := p0) rfl zd_5_3_131 ?_
                refine zz_iconst zd_5_3_132 ?_
                refine zz_callSI [zl p0, zi 4] zd_5_3_133 zk_Line_39 rfl rfl ⟨Nat.le_of_ble_eq_true rfl, Nat.le_of_ble_eq_true rfl⟩ ⟨rfl, rfl⟩ (Nat.zero_le _) (Nat.zero_le _) (zc_has_12_3x_4 p0 S266 n hn G_S266 (by omega)) (fun v269 S268 hP => ?_)
                obtain ⟨rfl, o270, o271⟩ := hP
                rcases (by omega : v269 = 0 ∨ v269 = 1) with rfl | rfl
                · refine zz_ldcs (t := 45) (by decide +kernel) (by decide) zd_5_3_136 ?_
                  refine zz_callVV [zi 0, .ref (100 + 45)] zd_5_3_138 zk_Line_59 zT_1077 (zz_ltn hn rfl) rfl rfl ⟨Nat.le_of_ble_eq_true rfl, Nat.le_of_ble_eq_true rfl⟩ ⟨rfl, rfl⟩ (Nat.zero_le _) (Nat.zero_le _) (zc_addIf_5_7 0 45 S266 n hn G_S266 (by omega) (by omega)) (fun S272 hP => ?_)
                  obtain ⟨G_S272, fS272⟩ := hP
                  have F_S272 := zz_fr.trans F_S266 fS272 rfl zz_nv
                  refine zz_aload_n (x := 1077) rfl zd_5_3_141 ?_
                  refine zz_bipush (by decide) zd_5_3_142 ?_
                  refine zz_callVV [zi 10] zd_5_3_144 zk_Line_69 zT_1077 (zz_ltn hn rfl) rfl rfl ⟨Nat.le_of_ble_eq_true rfl, Nat.le_of_ble_eq_true rfl⟩ ⟨rfl, rfl⟩ (Nat.zero_le _) (Nat.zero_le _) (zc_addSign_5_12 10 S272 n hn G_S272 (by omega)) (fun S274 hP => ?_)
                  obtain ⟨G_S274, fS274⟩ := hP
                  have F_S274 := zz_fr.trans F_S272 fS274 rfl zz_nv
                  exact zz_vret zd_5_3_147 rfl (Nat.zero_le _) (Nat.zero_le _) ⟨_, rfl, G_S274, F_S274⟩
                · refine zz_ldcs (t := 45) (by decide +kernel) (by decide) zd_5_3_136 ?_
                  refine zz_callVV [zi 1, .ref (100 + 45)] zd_5_3_138 zk_Line_59 zT_1077 (zz_ltn hn rfl) rfl rfl ⟨Nat.le_of_ble_eq_true rfl, Nat.le_of_ble_eq_true rfl⟩ ⟨rfl, rfl⟩ (Nat.zero_le _) (Nat.zero_le _) (zc_addIf_5_7 1 45 S266 n hn G_S266 (by omega) (by omega)) (fun S276 hP => ?_)
                  obtain ⟨G_S276, fS276⟩ := hP
                  have F_S276 := zz_fr.trans F_S266 fS276 rfl zz_nv
                  refine zz_aload_n (x := 1077) rfl zd_5_3_141 ?_
                  refine zz_bipush (by decide) zd_5_3_142 ?_
                  refine zz_callVV [zi 10] zd_5_3_144 zk_Line_69 zT_1077 (zz_ltn hn rfl) rfl rfl ⟨Nat.le_of_ble_eq_true rfl, Nat.le_of_ble_eq_true rfl⟩ ⟨rfl, rfl⟩ (Nat.zero_le _) (Nat.zero_le _) (zc_addSign_5_12 10 S276 n hn G_S276 (by omega)) (fun S278 hP => ?_)
                  obtain ⟨G_S278, fS278⟩ := hP
                  have F_S278 := zz_fr.trans F_S276 fS278 rfl zz_nv
                  exact zz_vret zd_5_3_147 rfl (Nat.zero_le _) (Nat.zero_le _) ⟨_, rfl, G_S278, F_S278⟩
          · refine zz_ldcs (t := 42) (by decide +kernel) (by decide) zd_5_3_103 ?_
            refine zz_callVV [zi 1, .ref (100 + 42)] zd_5_3_105 zk_Line_59 zT_1077 (zz_ltn hn rfl) rfl rfl ⟨Nat.le_of_ble_eq_true rfl, Nat.le_of_ble_eq_true rfl⟩ ⟨rfl, rfl⟩ (Nat.zero_le _) (Nat.zero_le _) (zc_addIf_5_7 1 42 S200 n hn G_S200 (by omega) (by omega)) (fun S280 hP => ?_)
            obtain ⟨G_S280, fS280⟩ := hP
            have F_S280 := zz_fr.trans F_S200 fS280 rfl zz_nv
            refine zz_aload_n (x := 1077) rfl zd_5_3_108 ?_
            refine zz_lload_n (x := p0) rfl zd_5_3_109 ?_
            refine zz_iconst zd_5_3_110 ?_
            refine zz_callSI [zl p0, zi 2] zd_5_3_111 zk_Line_39 rfl rfl ⟨Nat.le_of_ble_eq_true rfl, Nat.le_of_ble_eq_true rfl⟩ ⟨rfl, rfl⟩ (Nat.zero_le _) (Nat.zero_le _) (zc_has_12_3x_2 p0 S280 n hn G_S280 (by omega)) (fun v283 S282 hP => ?_)
            obtain ⟨rfl, o284, o285⟩ := hP
            rcases (by omega : v283 = 0 ∨ v283 = 1) with rfl | rfl
            · refine zz_ldcs (t := 43) (by decide +kernel) (by decide) zd_5_3_114 ?_
              refine zz_callVV [zi 0, .ref (100 + 43)] zd_5_3_116 zk_Line_59 zT_1077 (zz_ltn hn rfl) rfl rfl ⟨Nat.le_of_ble_eq_true rfl, Nat.le_of_ble_eq_true rfl⟩ ⟨rfl, rfl⟩ (Nat.zero_le _) (Nat.zero_le _) (zc_addIf_5_7 0 43 S280 n hn G_S280 (by omega) (by omega)) (fun S286 hP => ?_)
              obtain ⟨G_S286, fS286⟩ := hP
              have F_S286 := zz_fr.trans F_S280 fS286 rfl zz_nv
              refine zz_aload_n (x := 1077) rfl zd_5_3_119 ?_
              refine zz_lload_n (x := p0) rfl zd_5_3_120 ?_
              refine zz_iconst zd_5_3_121 ?_
              refine zz_callSI [zl p0, zi 3] zd_5_3_122 zk_Line_39 rfl rfl ⟨Nat.le_of_ble_eq_true rfl, Nat.le_of_ble_eq_true rfl⟩ ⟨rfl, rfl⟩ (Nat.zero_le _) (Nat.zero_le _) (zc_has_12_3x_3 p0 S286 n hn G_S286 (by omega)) (fun v289 S288 hP => ?_)
              obtain ⟨rfl, o290, o291⟩ := hP
              rcases (by omega : v289 = 0 ∨ v289 = 1) with rfl | rfl
              · refine zz_ldcs (t := 44) (by decide +kernel) (by decide) zd_5_3_125 ?_
                refine zz_callVV [zi 0, .ref (100 + 44)] zd_5_3_127 zk_Line_59 zT_1077 (zz_ltn hn rfl) rfl rfl ⟨Nat.le_of_ble_eq_true rfl, Nat.le_of_ble_eq_true rfl⟩ ⟨rfl, rfl⟩ (Nat.zero_le _) (Nat.zero_le _) (zc_addIf_5_7 0 44 S286 n hn G_S286 (by omega) (by omega)) (fun S292 hP => ?_)
                obtain ⟨G_S292, fS292⟩ := hP
                have F_S292 := zz_fr.trans F_S286 fS292 rfl zz_nv
                refine zz_aload_n (x := 1077) rfl zd_5_3_130 ?_
                refine zz_lload_n (x := p0) rfl zd_5_3_131 ?_
                refine zz_iconst zd_5_3_132 ?_
                refine zz_callSI [zl p0, zi 4] zd_5_3_133 zk_Line_39 rfl rfl ⟨Nat.le_of_ble_eq_true rfl, Nat.le_of_ble_eq_true rfl⟩ ⟨rfl, rfl⟩ (Nat.zero_le _) (Nat.zero_le _) (zc_has_12_3x_4 p0 S292 n hn G_S292 (by omega)) (fun v295 S294 hP => ?_)
                obtain ⟨rfl, o296, o297⟩ := hP
                rcases (by omega : v295 = 0 ∨ v295 = 1) with rfl | rfl
                · refine zz_ldcs (t := 45) (by decide +kernel) (by decide) zd_5_3_136 ?_
                  refine zz_callVV [zi 0, .ref (100 + 45)] zd_5_3_138 zk_Line_59 zT_1077 (zz_ltn hn rfl) rfl rfl ⟨Nat.le_of_ble_eq_true rfl, Nat.le_of_ble_eq_true rfl⟩ ⟨rfl, rfl⟩ (Nat.zero_le _) (Nat.zero_le _) (zc_addIf_5_7 0 45 S292 n hn G_S292 (by omega) (by omega)) (fun S298 hP => ?_)
                  obtain ⟨G_S298, fS298⟩ := hP
                  have F_S298 := zz_fr.trans F_S292 fS298 rfl zz_nv
                  refine zz_aload_n (x := 1077) rfl zd_5_3_141 ?_
                  refine zz_bipush (by decide) zd_5_3_142 ?_
                  refine zz_callVV [zi 10] zd_5_3_144 zk_Line_69 zT_1077 (zz_ltn hn rfl) rfl rfl ⟨Nat.le_of_ble_eq_true rfl, Nat.le_of_ble_eq_true rfl⟩ ⟨rfl, rfl⟩ (Nat.zero_le _) (Nat.zero_le _) (zc_addSign_5_12 10 S298 n hn G_S298 (by omega)) (fun S300 hP => ?_)
                  obtain ⟨G_S300, fS300⟩ := hP
                  have F_S300 := zz_fr.trans F_S298 fS300 rfl zz_nv
                  exact zz_vret zd_5_3_147 rfl (Nat.zero_le _) (Nat.zero_le _) ⟨_, rfl, G_S300, F_S300⟩
                · refine zz_ldcs (t := 45) (by decide +kernel) (by decide) zd_5_3_136 ?_
                  refine zz_callVV [zi 1, .ref (100 + 45)] zd_5_3_138 zk_Line_59 zT_1077 (zz_ltn hn rfl) rfl rfl ⟨Nat.le_of_ble_eq_true rfl, Nat.le_of_ble_eq_true rfl⟩ ⟨rfl, rfl⟩ (Nat.zero_le _) (Nat.zero_le _) (zc_addIf_5_7 1 45 S292 n hn G_S292 (by omega) (by omega)) (fun S302 hP => ?_)
                  obtain ⟨G_S302, fS302⟩ := hP
                  have F_S302 := zz_fr.trans F_S292 fS302 rfl zz_nv
                  refine zz_aload_n (x := 1077) rfl zd_5_3_141 ?_
                  refine zz_bipush (by decide) zd_5_3_142 ?_
                  refine zz_callVV [zi 10] zd_5_3_144 zk_Line_69 zT_1077 (zz_ltn hn rfl) rfl rfl ⟨Nat.le_of_ble_eq_true rfl, Nat.le_of_ble_eq_true rfl⟩ ⟨rfl, rfl⟩ (Nat.zero_le _) (Nat.zero_le _) (zc_addSign_5_12 10 S302 n hn G_S302 (by omega)) (fun S304 hP => ?_)
                  obtain ⟨G_S304, fS304⟩ := hP
                  have F_S304 := zz_fr.trans F_S302 fS304 rfl zz_nv
                  exact zz_vret zd_5_3_147 rfl (Nat.zero_le _) (Nat.zero_le _) ⟨_, rfl, G_S304, F_S304⟩
              · refine zz_ldcs (t := 44) (by decide +kernel) (by decide) zd_5_3_125 ?_
                refine zz_callVV [zi 1, .ref (100 + 44)] zd_5_3_127 zk_Line_59 zT_1077 (zz_ltn hn rfl) rfl rfl ⟨Nat.le_of_ble_eq_true rfl, Nat.le_of_ble_eq_true rfl⟩ ⟨rfl, rfl⟩ (Nat.zero_le _) (Nat.zero_le _) (zc_addIf_5_7 1 44 S286 n hn G_S286 (by omega) (by omega)) (fun S306 hP => ?_)
                obtain ⟨G_S306, fS306⟩ := hP
                have F_S306 := zz_fr.trans F_S286 fS306 rfl zz_nv
                refine zz_aload_n (x := 1077) rfl zd_5_3_130 ?_
                refine zz_lload_n (x := p0) rfl zd_5_3_131 ?_
                refine zz_iconst zd_5_3_132 ?_
                refine zz_callSI [zl p0, zi 4] zd_5_3_133 zk_Line_39 rfl rfl ⟨Nat.le_of_ble_eq_true rfl, Nat.le_of_ble_eq_true rfl⟩ ⟨rfl, rfl⟩ (Nat.zero_le _) (Nat.zero_le _) (zc_has_12_3x_4 p0 S306 n hn G_S306 (by omega)) (fun v309 S308 hP => ?_)
                obtain ⟨rfl, o310, o311⟩ := hP
                rcases (by omega : v309 = 0 ∨ v309 = 1) with rfl | rfl
                · refine zz_ldcs (t := 45) (by decide +kernel) (by decide) zd_5_3_136 ?_
                  refine zz_callVV [zi 0, .ref (100 + 45)] zd_5_3_138 zk_Line_59 zT_1077 (zz_ltn hn rfl) rfl rfl ⟨Nat.le_of_ble_eq_true rfl, Nat.le_of_ble_eq_true rfl⟩ ⟨rfl, rfl⟩ (Nat.zero_le _) (Nat.zero_le _) (zc_addIf_5_7 0 45 S306 n hn G_S306 (by omega) (by omega)) (fun S312 hP => ?_)
                  obtain ⟨G_S312, fS312⟩ := hP
                  have F_S312 := zz_fr.trans F_S306 fS312 rfl zz_nv
                  refine zz_aload_n (x := 1077) rfl zd_5_3_141 ?_
                  refine zz_bipush (by decide) zd_5_3_142 ?_
                  refine zz_callVV [zi 10] zd_5_3_144 zk_Line_69 zT_1077 (zz_ltn hn rfl) rfl rfl ⟨Nat.le_of_ble_eq_true rfl, Nat.le_of_ble_eq_true rfl⟩ ⟨rfl, rfl⟩ (Nat.zero_le _) (Nat.zero_le _) (zc_addSign_5_12 10 S312 n hn G_S312 (by omega)) (fun S314 hP => ?_)
                  obtain ⟨G_S314, fS314⟩ := hP
                  have F_S314 := zz_fr.trans F_S312 fS314 rfl zz_nv
                  exact zz_vret zd_5_3_147 rfl (Nat.zero_le _) (Nat.zero_le _) ⟨_, rfl, G_S314, F_S314⟩
                · refine zz_ldcs (t := 45) (by decide +kernel) (by decide) zd_5_3_136 ?_
                  refine zz_callVV [zi 1, .ref (100 + 45)] zd_5_3_138 zk_Line_59 zT_1077 (zz_ltn hn rfl) rfl rfl ⟨Nat.le_of_ble_eq_true rfl, Nat.le_of_ble_eq_true rfl⟩ ⟨rfl, rfl⟩ (Nat.zero_le _) (Nat.zero_le _) (zc_addIf_5_7 1 45 S306 n hn G_S306 (by omega) (by omega)) (fun S316 hP => ?_)
                  obtain ⟨G_S316, fS316⟩ := hP
                  have F_S316 := zz_fr.trans F_S306 fS316 rfl zz_nv
                  refine zz_aload_n (x := 1077) rfl zd_5_3_141 ?_
                  refine zz_bipush (by decide) zd_5_3_142 ?_
                  refine zz_callVV [zi 10] zd_5_3_144 zk_Line_69 zT_1077 (zz_ltn hn rfl) rfl rfl ⟨Nat.le_of_ble_eq_true rfl, Nat.le_of_ble_eq_true rfl⟩ ⟨rfl, rfl⟩ (Nat.zero_le _) (Nat.zero_le _) (zc_addSign_5_12 10 S316 n hn G_S316 (by omega)) (fun S318 hP => ?_)
                  obtain ⟨G_S318, fS318⟩ := hP
                  have F_S318 := zz_fr.trans F_S316 fS318 rfl zz_nv
                  exact zz_vret zd_5_3_147 rfl (Nat.zero_le _) (Nat.zero_le _) ⟨_, rfl, G_S318, F_S318⟩
            · refine zz_ldcs (t := 43) (by decide +kernel) (by decide) zd_5_3_114 ?_
              refine zz_callVV [zi 1, .ref (100 + 43)] zd_5_3_116 zk_Line_59 zT_1077 (zz_ltn hn rfl) rfl rfl ⟨Nat.le_of_ble_eq_true rfl, Nat.le_of_ble_eq_true rfl⟩ ⟨rfl, rfl⟩ (Nat.zero_le _) (Nat.zero_le _) (zc_addIf_5_7 1 43 S280 n hn G_S280 (by omega) (by omega)) (fun S320 hP => ?_)
              obtain ⟨G_S320, fS320⟩ := hP
              have F_S320 := zz_fr.trans F_S280 fS320 rfl zz_nv
              refine zz_aload_n (x := 1077) rfl zd_5_3_119 ?_
              refine zz_lload_n (x := p0) rfl zd_5_3_120 ?_
              refine zz_iconst zd_5_3_121 ?_
              refine zz_callSI [zl p0, zi 3] zd_5_3_122 zk_Line_39 rfl rfl ⟨Nat.le_of_ble_eq_true rfl, Nat.le_of_ble_eq_true rfl⟩ ⟨rfl, rfl⟩ (Nat.zero_le _) (Nat.zero_le _) (zc_has_12_3x_3 p0 S320 n hn G_S320 (by omega)) (fun v323 S322 hP => ?_)
              obtain ⟨rfl, o324, o325⟩ := hP
              rcases (by omega : v323 = 0 ∨ v323 = 1) with rfl | rfl
              · refine zz_ldcs (t := 44) (by decide +kernel) (by decide) zd_5_3_125 ?_
                refine zz_callVV [zi 0, .ref (100 + 44)] zd_5_3_127 zk_Line_59 zT_1077 (zz_ltn hn rfl) rfl rfl ⟨Nat.le_of_ble_eq_true rfl, Nat.le_of_ble_eq_true rfl⟩ ⟨rfl, rfl⟩ (Nat.zero_le _) (Nat.zero_le _) (zc_addIf_5_7 0 44 S320 n hn G_S320 (by omega) (by omega)) (fun S326 hP => ?_)
                obtain ⟨G_S326, fS326⟩ := hP
                have F_S326 := zz_fr.trans F_S320 fS326 rfl zz_nv
                refine zz_aload_n (x := 1077) rfl zd_5_3_130 ?_
                refine zz_lload_n (x := p0) rfl zd_5_3_131 ?_
                refine zz_iconst zd_5_3_132 ?_
                refine zz_callSI [zl p0, zi 4] zd_5_3_133 zk_Line_39 rfl rfl ⟨Nat.le_of_ble_eq_true rfl, Nat.le_of_ble_eq_true rfl⟩ ⟨rfl, rfl⟩ (Nat.zero_le _) (Nat.zero_le _) (zc_has_12_3x_4 p0 S326 n hn G_S326 (by omega)) (fun v329 S328 hP => ?_)
                obtain ⟨rfl, o330, o331⟩ := hP
                rcases (by omega : v329 = 0 ∨ v329 = 1) with rfl | rfl
                · refine zz_ldcs (t := 45) (by decide +kernel) (by decide) zd_5_3_136 ?_
                  refine zz_callVV [zi 0, .ref (100 + 45)] zd_5_3_138 zk_Line_59 zT_1077 (zz_ltn hn rfl) rfl rfl ⟨Nat.le_of_ble_eq_true rfl, Nat.le_of_ble_eq_true rfl⟩ ⟨rfl, rfl⟩ (Nat.zero_le _) (Nat.zero_le _) (zc_addIf_5_7 0 45 S326 n hn G_S326 (by omega) (by omega)) (fun S332 hP => ?_)
                  obtain ⟨G_S332, fS332⟩ := hP
                  have F_S332 := zz_fr.trans F_S326 fS332 rfl zz_nv
                  refine zz_aload_n (x := 1077) rfl zd_5_3_141 ?_
                  refine zz_bipush (by decide) zd_5_3_142 ?_
                  refine zz_callVV [zi 10] zd_5_3_144 zk_Line_69 zT_1077 (zz_ltn hn rfl) rfl rfl ⟨Nat.le_of_ble_eq_true rfl, Nat.le_of_ble_eq_true rfl⟩ ⟨rfl, rfl⟩ (Nat.zero_le _) (Nat.zero_le _) (zc_addSign_5_12 10 S332 n hn G_S332 (by omega)) (fun S334 hP => ?_)
                  obtain ⟨G_S334, fS334⟩ := hP
                  have F_S334 := zz_fr.trans F_S332 fS334 rfl zz_nv
                  exact zz_vret zd_5_3_147 rfl (Nat.zero_le _) (Nat.zero_le _) ⟨_, rfl, G_S334, F_S334⟩
                · refine zz_ldcs (t := 45) (by decide +kernel) (by decide) zd_5_3_136 ?_
                  refine zz_callVV [zi 1, .ref (100 + 45)] zd_5_3_138 zk_Line_59 zT_1077 (zz_ltn hn rfl) rfl rfl ⟨Nat.le_of_ble_eq_true rfl, Nat.le_of_ble_eq_true rfl⟩ ⟨rfl, rfl⟩ (Nat.zero_le _) (Nat.zero_le _) (zc_addIf_5_7 1 45 S326 n hn G_S326 (by omega) (by omega)) (fun S336 hP => ?_)
                  obtain ⟨G_S336, fS336⟩ := hP
                  have F_S336 := zz_fr.trans F_S326 fS336 rfl zz_nv
                  refine zz_aload_n (x := 1077) rfl zd_5_3_141 ?_
                  refine zz_bipush (by decide) zd_5_3_142 ?_
                  refine zz_callVV [zi 10] zd_5_3_144 zk_Line_69 zT_1077 (zz_ltn hn rfl) rfl rfl ⟨Nat.le_of_ble_eq_true rfl, Nat.le_of_ble_eq_true rfl⟩ ⟨rfl, rfl⟩ (Nat.zero_le _) (Nat.zero_le _) (zc_addSign_5_12 10 S336 n hn G_S336 (by omega)) (fun S338 hP => ?_)
                  obtain ⟨G_S338, fS338⟩ := hP
                  have F_S338 := zz_fr.trans F_S336 fS338 rfl zz_nv
                  exact zz_vret zd_5_3_147 rfl (Nat.zero_le _) (Nat.zero_le _) ⟨_, rfl, G_S338, F_S338⟩
              · refine zz_ldcs (t := 44) (by decide +kernel) (by decide) zd_5_3_125 ?_
                refine zz_callVV [zi 1, .ref (100 + 44)] zd_5_3_127 zk_Line_59 zT_1077 (zz_ltn hn rfl) rfl rfl ⟨Nat.le_of_ble_eq_true rfl, Nat.le_of_ble_eq_true rfl⟩ ⟨rfl, rfl⟩ (Nat.zero_le _) (Nat.zero_le _) (zc_addIf_5_7 1 44 S320 n hn G_S320 (by omega) (by omega)) (fun S340 hP => ?_)
                obtain ⟨G_S340, fS340⟩ := hP
                have F_S340 := zz_fr.trans F_S320 fS340 rfl zz_nv
                refine zz_aload_n (x := 1077) rfl zd_5_3_130 ?_
                refine zz_lload_n (x := p0) rfl zd_5_3_131 ?_
                refine zz_iconst zd_5_3_132 ?_
                refine zz_callSI [zl p0, zi 4] zd_5_3_133 zk_Line_39 rfl rfl ⟨Nat.le_of_ble_eq_true rfl, Nat.le_of_ble_eq_true rfl⟩ ⟨rfl, rfl⟩ (Nat.zero_le _) (Nat.zero_le _) (zc_has_12_3x_4 p0 S340 n hn G_S340 (by omega)) (fun v343 S342 hP => ?_)
                obtain ⟨rfl, o344, o345⟩ := hP
                rcases (by omega : v343 = 0 ∨ v343 = 1) with rfl | rfl
                · refine zz_ldcs (t := 45) (by decide +kernel) (by decide) zd_5_3_136 ?_
                  refine zz_callVV [zi 0, .ref (100 + 45)] zd_5_3_138 zk_Line_59 zT_1077 (zz_ltn hn rfl) rfl rfl ⟨Nat.le_of_ble_eq_true rfl, Nat.le_of_ble_eq_true rfl⟩ ⟨rfl, rfl⟩ (Nat.zero_le _) (Nat.zero_le _) (zc_addIf_5_7 0 45 S340 n hn G_S340 (by omega) (by omega)) (fun S346 hP => ?_)
                  obtain ⟨G_S346, fS346⟩ := hP
                  have F_S346 := zz_fr.trans F_S340 fS346 rfl zz_nv
                  refine zz_aload_n (x := 1077) rfl zd_5_3_141 ?_
                  refine zz_bipush (by decide) zd_5_3_142 ?_
                  refine zz_callVV [zi 10] zd_5_3_144 zk_Line_69 zT_1077 (zz_ltn hn rfl) rfl rfl ⟨Nat.le_of_ble_eq_true rfl, Nat.le_of_ble_eq_true rfl⟩ ⟨rfl, rfl⟩ (Nat.zero_le _) (Nat.zero_le _) (zc_addSign_5_12 10 S346 n hn G_S346 (by omega)) (fun S348 hP => ?_)
                  obtain ⟨G_S348, fS348⟩ := hP
                  have F_S348 := zz_fr.trans F_S346 fS348 rfl zz_nv
                  exact zz_vret zd_5_3_147 rfl (Nat.zero_le _) (Nat.zero_le _) ⟨_, rfl, G_S348, F_S348⟩
                · refine zz_ldcs (t := 45) (by decide +kernel) (by decide) zd_5_3_136 ?_
                  refine zz_callVV [zi 1, .ref (100 + 45)] zd_5_3_138 zk_Line_59 zT_1077 (zz_ltn hn rfl) rfl rfl ⟨Nat.le_of_ble_eq_true rfl, Nat.le_of_ble_eq_true rfl⟩ ⟨rfl, rfl⟩ (Nat.zero_le _) (Nat.zero_le _) (zc_addIf_5_7 1 45 S340 n hn G_S340 (by omega) (by omega)) (fun S350 hP => ?_)
                  obtain ⟨G_S350, fS350⟩ := hP
                  have F_S350 := zz_fr.trans F_S340 fS350 rfl zz_nv
                  refine zz_aload_n (x := 1077) rfl zd_5_3_141 ?_
                  refine zz_bipush (by decide) zd_5_3_142 ?_
                  refine zz_callVV [zi 10] zd_5_3_144 zk_Line_69 zT_1077 (zz_ltn hn rfl) rfl rfl ⟨Nat.le_of_ble_eq_true rfl, Nat.le_of_ble_eq_true rfl⟩ ⟨rfl, rfl⟩ (Nat.zero_le _) (Nat.zero_le _) (zc_addSign_5_12 10 S350 n hn G_S350 (by omega)) (fun S352 hP => ?_)
                  obtain ⟨G_S352, fS352⟩ := hP
                  have F_S352 := zz_fr.trans F_S350 fS352 rfl zz_nv
                  exact zz_vret zd_5_3_147 rfl (Nat.zero_le _) (Nat.zero_le _) ⟨_, rfl, G_S352, F_S352⟩
  · refine zz_if_ne (by omega) zd_5_3_31 (fun c354 => ?_) (fun c354 => ?_)
    · refine zz_aload_n (x := 1077) rfl zd_5_3_43 ?_
      refine zz_ldcs (t := 11) (by decide +kernel) (by decide) zd_5_3_44 ?_
      refine zz_lload_n (x := p0) rfl zd_5_3_46 ?_
      refine zz_bipush (by decide) zd_5_3_47 ?_
      refine zz_callSI [zl p0, zi 6] zd_5_3_49 zk_Line_21 rfl rfl ⟨Nat.le_of_ble_eq_true rfl, Nat.le_of_ble_eq_true rfl⟩ ⟨rfl, rfl⟩ (Nat.zero_le _) (Nat.zero_le _) (zc_get_12_2x_6 p0 S11 n hn G_S11 (by omega)) (fun v356 S355 hP => ?_)
      obtain ⟨rfl, o357, o358⟩ := hP
      subst o358
      refine zz_lload_n (x := p0) rfl zd_5_3_52 ?_
      refine zz_bipush (by decide) zd_5_3_53 ?_
      refine zz_callSI [zl p0, zi 7] zd_5_3_55 zk_Line_21 rfl rfl ⟨Nat.le_of_ble_eq_true rfl, Nat.le_of_ble_eq_true rfl⟩ ⟨rfl, rfl⟩ (Nat.zero_le _) (Nat.zero_le _) (zc_get_12_2x_7 p0 S11 n hn G_S11 (by omega)) (fun v360 S359 hP => ?_)
      obtain ⟨rfl, o361, o362⟩ := hP
      subst o362
      refine zz_callVV [.ref (100 + 11), zi (zz_fy p0 20 63), zi (zz_fy p0 26 31)] zd_5_3_58 zk_Line_45 zT_1077 (zz_ltn hn rfl) rfl rfl ⟨Nat.le_of_ble_eq_true rfl, Nat.le_of_ble_eq_true rfl⟩ ⟨rfl, rfl⟩ (Nat.zero_le _) (Nat.zero_le _) (zc_addPair_5_8 11 (zz_fy p0 20 63) (zz_fy p0 26 31) S11 n hn G_S11 (by omega) (by omega) (by omega)) (fun S363 hP => ?_)
      obtain ⟨G_S363, fS363⟩ := hP
      have F_S363 := zz_fr.trans F_S11 fS363 rfl zz_nv
      refine zz_aload_n (x := 1077) rfl zd_5_3_61 ?_
      refine zz_ldcs (t := 13) (by decide +kernel) (by decide) zd_5_3_62 ?_
      refine zz_lload_n (x := p0) rfl zd_5_3_64 ?_
      refine zz_bipush (by decide) zd_5_3_65 ?_
      refine zz_callVV [.ref (100 + 13), zl p0, zi 8] zd_5_3_67 zk_Line_35 zT_1077 (zz_ltn hn rfl) rfl rfl ⟨Nat.le_of_ble_eq_true rfl, Nat.le_of_ble_eq_true rfl⟩ ⟨rfl, rfl⟩ (Nat.zero_le _) (Nat.zero_le _) (zc_addUnlessNothing_5_6 13 p0 8 S363 n hn G_S363 (by omega) (by omega) (by omega)) (fun S365 hP => ?_)
      obtain ⟨G_S365, fS365⟩ := hP
      have F_S365 := zz_fr.trans F_S363 fS365 rfl zz_nv
      refine zz_aload_n (x := 1077) rfl zd_5_3_70 ?_
      refine zz_ldcs (t := 14) (by decide +kernel) (by decide) zd_5_3_71 ?_
      refine zz_lload_n (x := p0) rfl zd_5_3_73 ?_
      refine zz_bipush (by decide) zd_5_3_74 ?_
      refine zz_callVV [.ref (100 + 14), zl p0, zi 9] zd_5_3_76 zk_Line_35 zT_1077 (zz_ltn hn rfl) rfl rfl ⟨Nat.le_of_ble_eq_true rfl, Nat.le_of_ble_eq_true rfl⟩ ⟨rfl, rfl⟩ (Nat.zero_le _) (Nat.zero_le _) (zc_addUnlessNothing_5_6 14 p0 9 S365 n hn G_S365 (by omega) (by omega) (by omega)) (fun S367 hP => ?_)
      obtain ⟨G_S367, fS367⟩ := hP
      have F_S367 := zz_fr.trans F_S365 fS367 rfl zz_nv
      refine zz_aload_n (x := 1077) rfl zd_5_3_79 ?_
      refine zz_ldcs (t := 15) (by decide +kernel) (by decide) zd_5_3_80 ?_
      refine zz_lload_n (x := p0) rfl zd_5_3_82 ?_
      refine zz_bipush (by decide) zd_5_3_83 ?_
      refine zz_callVV [.ref (100 + 15), zl p0, zi 10] zd_5_3_85 zk_Line_35 zT_1077 (zz_ltn hn rfl) rfl rfl ⟨Nat.le_of_ble_eq_true rfl, Nat.le_of_ble_eq_true rfl⟩ ⟨rfl, rfl⟩ (Nat.zero_le _) (Nat.zero_le _) (zc_addUnlessNothing_5_6 15 p0 10 S367 n hn G_S367 (by omega) (by omega) (by omega)) (fun S369 hP => ?_)
      obtain ⟨G_S369, fS369⟩ := hP
      have F_S369 := zz_fr.trans F_S367 fS369 rfl zz_nv
      refine zz_aload_n (x := 1077) rfl zd_5_3_88 ?_
      refine zz_ldcs (t := 16) (by decide +kernel) (by decide) zd_5_3_89 ?_
      refine zz_lload_n (x := p0) rfl zd_5_3_91 ?_
      refine zz_bipush (by decide) zd_5_3_92 ?_
      refine zz_callVV [.ref (100 + 16), zl p0, zi 11] zd_5_3_94 zk_Line_35 zT_1077 (zz_ltn hn rfl) rfl rfl ⟨Nat.le_of_ble_eq_true rfl, Nat.le_of_ble_eq_true rfl⟩ ⟨rfl, rfl⟩ (Nat.zero_le _) (Nat.zero_le _) (zc_addUnlessNothing_5_6 16 p0 11 S369 n hn G_S369 (by omega) (by omega) (by omega)) (fun S371 hP => ?_)
      obtain ⟨G_S371, fS371⟩ := hP
      have F_S371 := zz_fr.trans F_S369 fS371 rfl zz_nv
      refine zz_aload_n (x := 1077) rfl zd_5_3_97 ?_
      refine zz_lload_n (x := p0) rfl zd_5_3_98 ?_
      refine zz_iconst zd_5_3_99 ?_
      refine zz_callSI [zl p0, zi 1] zd_5_3_100 zk_Line_39 rfl rfl ⟨Nat.le_of_ble_eq_true rfl, Nat.le_of_ble_eq_true rfl⟩ ⟨rfl, rfl⟩ (Nat.zero_le _) (Nat.zero_le _) (zc_has_12_3x_1 p0 S371 n hn G_S371 (by omega)) (fun v374 S373 hP => ?_)
      obtain ⟨rfl, o375, o376⟩ := hP
      rcases (by omega : v374 = 0 ∨ v374 = 1) with rfl | rfl
      · refine zz_ldcs (t := 42) (by decide +kernel) (by decide) zd_5_3_103 ?_
        refine zz_callVV [zi 0, .ref (100 + 42)] zd_5_3_105 zk_Line_59 zT_1077 (zz_ltn hn rfl) rfl rfl ⟨Nat.le_of_ble_eq_true rfl, Nat.le_of_ble_eq_true rfl⟩ ⟨rfl, rfl⟩ (Nat.zero_le _) (Nat.zero_le _) (zc_addIf_5_7 0 42 S371 n hn G_S371 (by omega) (by omega)) (fun S377 hP => ?_)
        obtain ⟨G_S377, fS377⟩ := hP
        have F_S377 := zz_fr.trans F_S371 fS377 rfl zz_nv
        refine zz_aload_n (x := 1077) rfl zd_5_3_108 ?_
        refine zz_lload_n (x := p0) rfl zd_5_3_109 ?_
        refine zz_iconst zd_5_3_110 ?_
        refine zz_callSI [zl p0, zi 2] zd_5_3_111 zk_Line_39 rfl rfl ⟨Nat.le_of_ble_eq_true rfl, Nat.le_of_ble_eq_true rfl⟩ ⟨rfl, rfl⟩ (Nat.zero_le _) (Nat.zero_le _) (zc_has_12_3x_2 p0 S377 n hn G_S377 (by omega)) (fun v380 S379 hP => ?_)
        obtain ⟨rfl, o381, o382⟩ := hP
        rcases (by omega : v380 = 0 ∨ v380 = 1) with rfl | rfl
        · refine zz_ldcs (t := 43) (by decide +kernel) (by decide) zd_5_3_114 ?_
          refine zz_callVV [zi 0, .ref (100 + 43)] zd_5_3_116 zk_Line_59 zT_1077 (zz_ltn hn rfl) rfl rfl ⟨Nat.le_of_ble_eq_true rfl, Nat.le_of_ble_eq_true rfl⟩ ⟨rfl, rfl⟩ (Nat.zero_le _) (Nat.zero_le _) (zc_addIf_5_7 0 43 S377 n hn G_S377 (by omega) (by omega)) (fun S383 hP => ?_)
          obtain ⟨G_S383, fS383⟩ := hP
          have F_S383 := zz_fr.trans F_S377 fS383 rfl zz_nv
          refine zz_aload_n (x := 1077) rfl zd_5_3_119 ?_
          refine zz_lload_n (x := p0) rfl zd_5_3_120 ?_
          refine zz_iconst zd_5_3_121 ?_
          refine zz_callSI [zl p0, zi 3] zd_5_3_122 zk_Line_39 rfl rfl ⟨Nat.le_of_ble_eq_true rfl, Nat.le_of_ble_eq_true rfl⟩ ⟨rfl, rfl⟩ (Nat.zero_le _) (Nat.zero_le _) (zc_has_12_3x_3 p0 S383 n hn G_S383 (by omega)) (fun v386 S385 hP => ?_)
          obtain ⟨rfl, o387, o388⟩ := hP
          rcases (by omega : v386 = 0 ∨ v386 = 1) with rfl | rfl
          · refine zz_ldcs (t := 44) (by decide +kernel) (by decide) zd_5_3_125 ?_
            refine zz_callVV [zi 0, .ref (100 + 44)] zd_5_3_127 zk_Line_59 zT_1077 (zz_ltn hn rfl) rfl rfl ⟨Nat.le_of_ble_eq_true rfl, Nat.le_of_ble_eq_true rfl⟩ ⟨rfl, rfl⟩ (Nat.zero_le _) (Nat.zero_le _) (zc_addIf_5_7 0 44 S383 n hn G_S383 (by omega) (by omega)) (fun S389 hP => ?_)
            obtain ⟨G_S389, fS389⟩ := hP
            have F_S389 := zz_fr.trans F_S383 fS389 rfl zz_nv
            refine zz_aload_n (x := 1077) rfl zd_5_3_130 ?_
            refine zz_lload_n (x := p0) rfl zd_5_3_131 ?_
            refine zz_iconst zd_5_3_132 ?_
            refine zz_callSI [zl p0, zi 4] zd_5_3_133 zk_Line_39 rfl rfl ⟨Nat.le_of_ble_eq_true rfl, Nat.le_of_ble_eq_true rfl⟩ ⟨rfl, rfl⟩ (Nat.zero_le _) (Nat.zero_le _) (zc_has_12_3x_4 p0 S389 n hn G_S389 (by omega)) (fun v392 S391 hP => ?_)
            obtain ⟨rfl, o393, o394⟩ := hP
            rcases (by omega : v392 = 0 ∨ v392 = 1) with rfl | rfl
            · refine zz_ldcs (t := 45) (by decide +kernel) (by decide) zd_5_3_136 ?_
              refine zz_callVV [zi 0, .ref (100 + 45)] zd_5_3_138 zk_Line_59 zT_1077 (zz_ltn hn rfl) rfl rfl ⟨Nat.le_of_ble_eq_true rfl, Nat.le_of_ble_eq_true rfl⟩ ⟨rfl, rfl⟩ (Nat.zero_le _) (Nat.zero_le _) (zc_addIf_5_7 0 45 S389 n hn G_S389 (by omega) (by omega)) (fun S395 hP => ?_)
              obtain ⟨G_S395, fS395⟩ := hP
              have F_S395 := zz_fr.trans F_S389 fS395 rfl zz_nv
              refine zz_aload_n (x := 1077) rfl zd_5_3_141 ?_
              refine zz_bipush (by decide) zd_5_3_142 ?_
              refine zz_callVV [zi 10] zd_5_3_144 zk_Line_69 zT_1077 (zz_ltn hn rfl) rfl rfl ⟨Nat.le_of_ble_eq_true rfl, Nat.le_of_ble_eq_true rfl⟩ ⟨rfl, rfl⟩ (Nat.zero_le _) (Nat.zero_le _) (zc_addSign_5_12 10 S395 n hn G_S395 (by omega)) (fun S397 hP => ?_)
              obtain ⟨G_S397, fS397⟩ := hP
              have F_S397 := zz_fr.trans F_S395 fS397 rfl zz_nv
              exact zz_vret zd_5_3_147 rfl (Nat.zero_le _) (Nat.zero_le _) ⟨_, rfl, G_S397, F_S397⟩
            · refine zz_ldcs (t := 45) (by decide +kernel) (by decide) zd_5_3_136 ?_
              refine zz_callVV [zi 1, .ref (100 + 45)] zd_5_3_138 zk_Line_59 zT_1077 (zz_ltn hn rfl) rfl rfl ⟨Nat.le_of_ble_eq_true rfl, Nat.le_of_ble_eq_true rfl⟩ ⟨rfl, rfl⟩ (Nat.zero_le _) (Nat.zero_le _) (zc_addIf_5_7 1 45 S389 n hn G_S389 (by omega) (by omega)) (fun S399 hP => ?_)
              obtain ⟨G_S399, fS399⟩ := hP
              have F_S399 := zz_fr.trans F_S389 fS399 rfl zz_nv
              refine zz_aload_n (x := 1077) rfl zd_5_3_141 ?_
              refine zz_bipush (by decide) zd_5_3_142 ?_
              refine zz_callVV [zi 10] zd_5_3_144 zk_Line_69 zT_1077 (zz_ltn hn rfl) rfl rfl ⟨Nat.le_of_ble_eq_true rfl, Nat.le_of_ble_eq_true rfl⟩ ⟨rfl, rfl⟩ (Nat.zero_le _) (Nat.zero_le _) (zc_addSign_5_12 10 S399 n hn G_S399 (by omega)) (fun S401 hP => ?_)
              obtain ⟨G_S401, fS401⟩ := hP
              have F_S401 := zz_fr.trans F_S399 fS401 rfl zz_nv
              exact zz_vret zd_5_3_147 rfl (Nat.zero_le _) (Nat.zero_le _) ⟨_, rfl, G_S401, F_S401⟩
          · refine zz_ldcs (t := 44) (by decide +kernel) (by decide) zd_5_3_125 ?_
            refine zz_callVV [zi 1, .ref (100 + 44)] zd_5_3_127 zk_Line_59 zT_1077 (zz_ltn hn rfl) rfl rfl ⟨Nat.le_of_ble_eq_true rfl, Nat.le_of_ble_eq_true rfl⟩ ⟨rfl, rfl⟩ (Nat.zero_le _) (Nat.zero_le _) (zc_addIf_5_7 1 44 S383 n hn G_S383 (by omega) (by omega)) (fun S403 hP => ?_)
            obtain ⟨G_S403, fS403⟩ := hP
            have F_S403 := zz_fr.trans F_S383 fS403 rfl zz_nv
            refine zz_aload_n (x := 1077) rfl zd_5_3_130 ?_
            refine zz_lload_n (x := p0) rfl zd_5_3_131 ?_
            refine zz_iconst zd_5_3_132 ?_
            refine zz_callSI [zl p0, zi 4] zd_5_3_133 zk_Line_39 rfl rfl ⟨Nat.le_of_ble_eq_true rfl, Nat.le_of_ble_eq_true rfl⟩ ⟨rfl, rfl⟩ (Nat.zero_le _) (Nat.zero_le _) (zc_has_12_3x_4 p0 S403 n hn G_S403 (by omega)) (fun v406 S405 hP => ?_)
            obtain ⟨rfl, o407, o408⟩ := hP
            rcases (by omega : v406 = 0 ∨ v406 = 1) with rfl | rfl
            · refine zz_ldcs (t := 45) (by decide +kernel) (by decide) zd_5_3_136 ?_
              refine zz_callVV [zi 0, .ref (100 + 45)] zd_5_3_138 zk_Line_59 zT_1077 (zz_ltn hn rfl) rfl rfl ⟨Nat.le_of_ble_eq_true rfl, Nat.le_of_ble_eq_true rfl⟩ ⟨rfl, rfl⟩ (Nat.zero_le _) (Nat.zero_le _) (zc_addIf_5_7 0 45 S403 n hn G_S403 (by omega) (by omega)) (fun S409 hP => ?_)
              obtain ⟨G_S409, fS409⟩ := hP
              have F_S409 := zz_fr.trans F_S403 fS409 rfl zz_nv
              refine zz_aload_n (x := 1077) rfl zd_5_3_141 ?_
              refine zz_bipush (by decide) zd_5_3_142 ?_
              refine zz_callVV [zi 10] zd_5_3_144 zk_Line_69 zT_1077 (zz_ltn hn rfl) rfl rfl ⟨Nat.le_of_ble_eq_true rfl, Nat.le_of_ble_eq_true rfl⟩ ⟨rfl, rfl⟩ (Nat.zero_le _) (Nat.zero_le _) (zc_addSign_5_12 10 S409 n hn G_S409 (by omega)) (fun S411 hP => ?_)
              obtain ⟨G_S411, fS411⟩ := hP
              have F_S411 := zz_fr.trans F_S409 fS411 rfl zz_nv
              exact zz_vret zd_5_3_147 rfl (Nat.zero_le _) (Nat.zero_le _) ⟨_, rfl, G_S411, F_S411⟩
            · refine zz_ldcs (t := 45) (by decide +kernel) (by decide) zd_5_3_136 ?_
              refine zz_callVV [zi 1, .ref (100 + 45)] zd_5_3_138 zk_Line_59 zT_1077 (zz_ltn hn rfl) rfl rfl ⟨Nat.le_of_ble_eq_true rfl, Nat.le_of_ble_eq_true rfl⟩ ⟨rfl, rfl⟩ (Nat.zero_le _) (Nat.zero_le _) (zc_addIf_5_7 1 45 S403 n hn G_S403 (by omega) (by omega)) (fun S413 hP => ?_)
              obtain ⟨G_S413, fS413⟩ := hP
              have F_S413 := zz_fr.trans F_S403 fS413 rfl zz_nv
              refine zz_aload_n (x := 1077) rfl zd_5_3_141 ?_
              refine zz_bipush (by decide) zd_5_3_142 ?_
              refine zz_callVV [zi 10] zd_5_3_144 zk_Line_69 zT_1077 (zz_ltn hn rfl) rfl rfl ⟨Nat.le_of_ble_eq_true rfl, Nat.le_of_ble_eq_true rfl⟩ ⟨rfl, rfl⟩ (Nat.zero_le _) (Nat.zero_le _) (zc_addSign_5_12 10 S413 n hn G_S413 (by omega)) (fun S415 hP => ?_)
              obtain ⟨G_S415, fS415⟩ := hP
              have F_S415 := zz_fr.trans F_S413 fS415 rfl zz_nv
              exact zz_vret zd_5_3_147 rfl (Nat.zero_le _) (Nat.zero_le _) ⟨_, rfl, G_S415, F_S415⟩
        · refine zz_ldcs (t := 43) (by decide +kernel) (by decide) zd_5_3_114 ?_
          refine zz_callVV [zi 1, .ref (100 + 43)] zd_5_3_116 zk_Line_59 zT_1077 (zz_ltn hn rfl) rfl rfl ⟨Nat.le_of_ble_eq_true rfl, Nat.le_of_ble_eq_true rfl⟩ ⟨rfl, rfl⟩ (Nat.zero_le _) (Nat.zero_le _) (zc_addIf_5_7 1 43 S377 n hn G_S377 (by omega) (by omega)) (fun S417 hP => ?_)
          obtain ⟨G_S417, fS417⟩ := hP
          have F_S417 := zz_fr.trans F_S377 fS417 rfl zz_nv
          refine zz_aload_n (x := 1077) rfl zd_5_3_119 ?_
          refine zz_lload_n (x := p0) rfl zd_5_3_120 ?_
          refine zz_iconst zd_5_3_121 ?_
          refine zz_callSI [zl p0, zi 3] zd_5_3_122 zk_Line_39 rfl rfl ⟨Nat.le_of_ble_eq_true rfl, Nat.le_of_ble_eq_true rfl⟩ ⟨rfl, rfl⟩ (Nat.zero_le _) (Nat.zero_le _) (zc_has_12_3x_3 p0 S417 n hn G_S417 (by omega)) (fun v420 S419 hP => ?_)
          obtain ⟨rfl, o421, o422⟩ := hP
          rcases (by omega : v420 = 0 ∨ v420 = 1) with rfl | rfl
          · refine zz_ldcs (t := 44) (by decide +kernel) (by decide) zd_5_3_125 ?_
            refine zz_callVV [zi 0, .ref (100 + 44)] zd_5_3_127 zk_Line_59 zT_1077 (zz_ltn hn rfl) rfl rfl ⟨Nat.le_of_ble_eq_true rfl, Nat.le_of_ble_eq_true rfl⟩ ⟨rfl, rfl⟩ (Nat.zero_le _) (Nat.zero_le _) (zc_addIf_5_7 0 44 S417 n hn G_S417 (by omega) (by omega)) (fun S423 hP => ?_)
            obtain ⟨G_S423, fS423⟩ := hP
            have F_S423 := zz_fr.trans F_S417 fS423 rfl zz_nv
            refine zz_aload_n (x := 1077) rfl zd_5_3_130 ?_
            refine zz_lload_n (x := p0) rfl zd_5_3_131 ?_
            refine zz_iconst zd_5_3_132 ?_
            refine zz_callSI [zl p0, zi 4] zd_5_3_133 zk_Line_39 rfl rfl ⟨Nat.le_of_ble_eq_true rfl, Nat.le_of_ble_eq_true rfl⟩ ⟨rfl, rfl⟩ (Nat.zero_le _) (Nat.zero_le _) (zc_has_12_3x_4 p0 S423 n hn G_S423 (by omega)) (fun v426 S425 hP => ?_)
            obtain ⟨rfl, o427, o428⟩ := hP
            rcases (by omega : v426 = 0 ∨ v426 = 1) with rfl | rfl
            · refine zz_ldcs (t := 45) (by decide +kernel) (by decide) zd_5_3_136 ?_
              refine zz_callVV [zi 0, .ref (100 + 45)] zd_5_3_138 zk_Line_59 zT_1077 (zz_ltn hn rfl) rfl rfl ⟨Nat.le_of_ble_eq_true rfl, Nat.le_of_ble_eq_true rfl⟩ ⟨rfl, rfl⟩ (Nat.zero_le _) (Nat.zero_le _) (zc_addIf_5_7 0 45 S423 n hn G_S423 (by omega) (by omega)) (fun S429 hP => ?_)
              obtain ⟨G_S429, fS429⟩ := hP
              have F_S429 := zz_fr.trans F_S423 fS429 rfl zz_nv
              refine zz_aload_n (x := 1077) rfl zd_5_3_141 ?_
              refine zz_bipush (by decide) zd_5_3_142 ?_
              refine zz_callVV [zi 10] zd_5_3_144 zk_Line_69 zT_1077 (zz_ltn hn rfl) rfl rfl ⟨Nat.le_of_ble_eq_true rfl, Nat.le_of_ble_eq_true rfl⟩ ⟨rfl, rfl⟩ (Nat.zero_le _) (Nat.zero_le _) (zc_addSign_5_12 10 S429 n hn G_S429 (by omega)) (fun S431 hP => ?_)
              obtain ⟨G_S431, fS431⟩ := hP
              have F_S431 := zz_fr.trans F_S429 fS431 rfl zz_nv
              exact zz_vret zd_5_3_147 rfl (Nat.zero_le _) (Nat.zero_le _) ⟨_, rfl, G_S431, F_S431⟩
            · refine zz_ldcs (t := 45) (by decide +kernel) (by decide) zd_5_3_136 ?_
              refine zz_callVV [zi 1, .ref (100 + 45)] zd_5_3_138 zk_Line_59 zT_1077 (zz_ltn hn rfl) rfl rfl ⟨Nat.le_of_ble_eq_true rfl, Nat.le_of_ble_eq_true rfl⟩ ⟨rfl, rfl⟩ (Nat.zero_le _) (Nat.zero_le _) (zc_addIf_5_7 1 45 S423 n hn G_S423 (by omega) (by omega)) (fun S433 hP => ?_)
              obtain ⟨G_S433, fS433⟩ := hP
              have F_S433 := zz_fr.trans F_S423 fS433 rfl zz_nv
              refine zz_aload_n (x := 1077) rfl zd_5_3_141 ?_
              refine zz_bipush (by decide) zd_5_3_142 ?_
              refine zz_callVV [zi 10] zd_5_3_144 zk_Line_69 zT_1077 (zz_ltn hn rfl) rfl rfl ⟨Nat.le_of_ble_eq_true rfl, Nat.le_of_ble_eq_true rfl⟩ ⟨rfl, rfl⟩ (Nat.zero_le _) (Nat.zero_le _) (zc_addSign_5_12 10 S433 n hn G_S433 (by omega)) (fun S435 hP => ?_)
              obtain ⟨G_S435, fS435⟩ := hP
              have F_S435 := zz_fr.trans F_S433 fS435 rfl zz_nv
              exact zz_vret zd_5_3_147 rfl (Nat.zero_le _) (Nat.zero_le _) ⟨_, rfl, G_S435, F_S435⟩
          · refine zz_ldcs (t := 44) (by decide +kernel) (by decide) zd_5_3_125 ?_
            refine zz_callVV [zi 1, .ref (100 + 44)] zd_5_3_127 zk_Line_59 zT_1077 (zz_ltn hn rfl) rfl rfl ⟨Nat.le_of_ble_eq_true rfl, Nat.le_of_ble_eq_true rfl⟩ ⟨rfl, rfl⟩ (Nat.zero_le _) (Nat.zero_le _) (zc_addIf_5_7 1 44 S417 n hn G_S417 (by omega) (by omega)) (fun S437 hP => ?_)
            obtain ⟨G_S437, fS437⟩ := hP
            have F_S437 := zz_fr.trans F_S417 fS437 rfl zz_nv
            refine zz_aload_n (x := 1077) rfl zd_5_3_130 ?_
            refine zz_lload_n (x := p0) rfl zd_5_3_131 ?_
            refine zz_iconst zd_5_3_132 ?_
            refine zz_callSI [zl p0, zi 4] zd_5_3_133 zk_Line_39 rfl rfl ⟨Nat.le_of_ble_eq_true rfl, Nat.le_of_ble_eq_true rfl⟩ ⟨rfl, rfl⟩ (Nat.zero_le _) (Nat.zero_le _) (zc_has_12_3x_4 p0 S437 n hn G_S437 (by omega)) (fun v440 S439 hP => ?_)
            obtain ⟨rfl, o441, o442⟩ := hP
            rcases (by omega : v440 = 0 ∨ v440 = 1) with rfl | rfl
            · refine zz_ldcs (t := 45) (by decide +kernel) (by decide) zd_5_3_136 ?_
              refine zz_callVV [zi 0, .ref (100 + 45)] zd_5_3_138 zk_Line_59 zT_1077 (zz_ltn hn rfl) rfl rfl ⟨Nat.le_of_ble_eq_true rfl, Nat.le_of_ble_eq_true rfl⟩ ⟨rfl, rfl⟩ (Nat.zero_le _) (Nat.zero_le _) (zc_addIf_5_7 0 45 S437 n hn G_S437 (by omega) (by omega)) (fun S443 hP => ?_)
              obtain ⟨G_S443, fS443⟩ := hP
              have F_S443 := zz_fr.trans F_S437 fS443 rfl zz_nv
              refine zz_aload_n (x := 1077) rfl zd_5_3_141 ?_
              refine zz_bipush (by decide) zd_5_3_142 ?_
              refine zz_callVV [zi 10] zd_5_3_144 zk_Line_69 zT_1077 (zz_ltn hn rfl) rfl rfl ⟨Nat.le_of_ble_eq_true rfl, Nat.le_of_ble_eq_true rfl⟩ ⟨rfl, rfl⟩ (Nat.zero_le _) (Nat.zero_le _) (zc_addSign_5_12 10 S443 n hn G_S443 (by omega)) (fun S445 hP => ?_)
              obtain ⟨G_S445, fS445⟩ := hP
              have F_S445 := zz_fr.trans F_S443 fS445 rfl zz_nv
              exact zz_vret zd_5_3_147 rfl (Nat.zero_le _) (Nat.zero_le _) ⟨_, rfl, G_S445, F_S445⟩
            · refine zz_ldcs (t := 45) (by decide +kernel) (by decide) zd_5_3_136 ?_
              refine zz_callVV [zi 1, .ref (100 + 45)] zd_5_3_138 zk_Line_59 zT_1077 (zz_ltn hn rfl) rfl rfl ⟨Nat.le_of_ble_eq_true rfl, Nat.le_of_ble_eq_true rfl⟩ ⟨rfl, rfl⟩ (Nat.zero_le _) (Nat.zero_le _) (zc_addIf_5_7 1 45 S437 n hn G_S437 (by omega) (by omega)) (fun S447 hP => ?_)
              obtain ⟨G_S447, fS447⟩ := hP
              have F_S447 := zz_fr.trans F_S437 fS447 rfl zz_nv
              refine zz_aload_n (x := 1077) rfl zd_5_3_141 ?_
              refine zz_bipush (by decide) zd_5_3_142 ?_
              refine zz_callVV [zi 10] zd_5_3_144 zk_Line_69 zT_1077 (zz_ltn hn rfl) rfl rfl ⟨Nat.le_of_ble_eq_true rfl, Nat.le_of_ble_eq_true rfl⟩ ⟨rfl, rfl⟩ (Nat.zero_le _) (Nat.zero_le _) (zc_addSign_5_12 10 S447 n hn G_S447 (by omega)) (fun S449 hP => ?_)
              obtain ⟨G_S449, fS449⟩ := hP
              have F_S449 := zz_fr.trans F_S447 fS449 rfl zz_nv
              exact zz_vret zd_5_3_147 rfl (Nat.zero_le _) (Nat.zero_le _) ⟨_, rfl, G_S449, F_S449⟩
      · refine zz_ldcs (t := 42) (by decide +kernel) (by decide) zd_5_3_103 ?_
        refine zz_callVV [zi 1, .ref (100 + 42)] zd_5_3_105 zk_Line_59 zT_1077 (zz_ltn hn rfl) rfl rfl ⟨Nat.le_of_ble_eq_true rfl, Nat.le_of_ble_eq_true rfl⟩ ⟨rfl, rfl⟩ (Nat.zero_le _) (Nat.zero_le _) (zc_addIf_5_7 1 42 S371 n hn G_S371 (by omega) (by omega)) (fun S451 hP => ?_)
        obtain ⟨G_S451, fS451⟩ := hP
        have F_S451 := zz_fr.trans F_S371 fS451 rfl zz_nv
        refine zz_aload_n (x := 1077) rfl zd_5_3_108 ?_
        refine zz_lload_n (x := p0) rfl zd_5_3_109 ?_
        refine zz_iconst zd_5_3_110 ?_
        refine zz_callSI [zl p0, zi 2] zd_5_3_111 zk_Line_39 rfl rfl ⟨Nat.le_of_ble_eq_true rfl, Nat.le_of_ble_eq_true rfl⟩ ⟨rfl, rfl⟩ (Nat.zero_le _) (Nat.zero_le _) (zc_has_12_3x_2 p0 S451 n hn G_S451 (by omega)) (fun v454 S453 hP => ?_)
        obtain ⟨rfl, o455, o456⟩ := hP
        rcases (by omega : v454 = 0 ∨ v454 = 1) with rfl | rfl
        · refine zz_ldcs (t := 43) (by decide +kernel) (by decide) zd_5_3_114 ?_
          refine zz_callVV [zi 0, .ref (100 + 43)] zd_5_3_116 zk_Line_59 zT_1077 (zz_ltn hn rfl) rfl rfl ⟨Nat.le_of_ble_eq_true rfl, Nat.le_of_ble_eq_true rfl⟩ ⟨rfl, rfl⟩ (Nat.zero_le _) (Nat.zero_le _) (zc_addIf_5_7 0 43 S451 n hn G_S451 (by omega) (by omega)) (fun S457 hP => ?_)
          obtain ⟨G_S457, fS457⟩ := hP
          have F_S457 := zz_fr.trans F_S451 fS457 rfl zz_nv
          refine zz_aload_n (x := 1077) rfl zd_5_3_119 ?_
          refine zz_lload_n (x := p0) rfl zd_5_3_120 ?_
          refine zz_iconst zd_5_3_121 ?_
          refine zz_callSI [zl p0, zi 3] zd_5_3_122 zk_Line_39 rfl rfl ⟨Nat.le_of_ble_eq_true rfl, Nat.le_of_ble_eq_true rfl⟩ ⟨rfl, rfl⟩ (Nat.zero_le _) (Nat.zero_le _) (zc_has_12_3x_3 p0 S457 n hn G_S457 (by omega)) (fun v460 S459 hP => ?_)
          obtain ⟨rfl, o461, o462⟩ := hP
          rcases (by omega : v460 = 0 ∨ v460 = 1) with rfl | rfl
          · refine zz_ldcs (t := 44) (by decide +kernel) (by decide) zd_5_3_125 ?_
            refine zz_callVV [zi 0, .ref (100 + 44)] zd_5_3_127 zk_Line_59 zT_1077 (zz_ltn hn rfl) rfl rfl ⟨Nat.le_of_ble_eq_true rfl, Nat.le_of_ble_eq_true rfl⟩ ⟨rfl, rfl⟩ (Nat.zero_le _) (Nat.zero_le _) (zc_addIf_5_7 0 44 S457 n hn G_S457 (by omega) (by omega)) (fun S463 hP => ?_)
            obtain ⟨G_S463, fS463⟩ := hP
            have F_S463 := zz_fr.trans F_S457 fS463 rfl zz_nv
            refine zz_aload_n (x := 1077) rfl zd_5_3_130 ?_
            refine zz_lload_n (x := p0) rfl zd_5_3_131 ?_
            refine zz_iconst zd_5_3_132 ?_
            refine zz_callSI [zl p0, zi 4] zd_5_3_133 zk_Line_39 rfl rfl ⟨Nat.le_of_ble_eq_true rfl, Nat.le_of_ble_eq_true rfl⟩ ⟨rfl, rfl⟩ (Nat.zero_le _) (Nat.zero_le _) (zc_has_12_3x_4 p0 S463 n hn G_S463 (by omega)) (fun v466 S465 hP => ?_)
            obtain ⟨rfl, o467, o468⟩ := hP
            rcases (by omega : v466 = 0 ∨ v466 = 1) with rfl | rfl
            · refine zz_ldcs (t := 45) (by decide +kernel) (by decide) zd_5_3_136 ?_
              refine zz_callVV [zi 0, .ref (100 + 45)] zd_5_3_138 zk_Line_59 zT_1077 (zz_ltn hn rfl) rfl rfl ⟨Nat.le_of_ble_eq_true rfl, Nat.le_of_ble_eq_true rfl⟩ ⟨rfl, rfl⟩ (Nat.zero_le _) (Nat.zero_le _) (zc_addIf_5_7 0 45 S463 n hn G_S463 (by omega) (by omega)) (fun S469 hP => ?_)
              obtain ⟨G_S469, fS469⟩ := hP
              have F_S469 := zz_fr.trans F_S463 fS469 rfl zz_nv
              refine zz_aload_n (x := 1077) rfl zd_5_3_141 ?_
              refine zz_bipush (by decide) zd_5_3_142 ?_
              refine zz_callVV [zi 10] zd_5_3_144 zk_Line_69 zT_1077 (zz_ltn hn rfl) rfl rfl ⟨Nat.le_of_ble_eq_true rfl, Nat.le_of_ble_eq_true rfl⟩ ⟨rfl, rfl⟩ (Nat.zero_le _) (Nat.zero_le _) (zc_addSign_5_12 10 S469 n hn G_S469 (by omega)) (fun S471 hP => ?_)
              obtain ⟨G_S471, fS471⟩ := hP
              have F_S471 := zz_fr.trans F_S469 fS471 rfl zz_nv
              exact zz_vret zd_5_3_147 rfl (Nat.zero_le _) (Nat.zero_le _) ⟨_, rfl, G_S471, F_S471⟩
            · refine zz_ldcs (t := 45) (by decide +kernel) (by decide) zd_5_3_136 ?_
              refine zz_callVV [zi 1, .ref (100 + 45)] zd_5_3_138 zk_Line_59 zT_1077 (zz_ltn hn rfl) rfl rfl ⟨Nat.le_of_ble_eq_true rfl, Nat.le_of_ble_eq_true rfl⟩ ⟨rfl, rfl⟩ (Nat.zero_le _) (Nat.zero_le _) (zc_addIf_5_7 1 45 S463 n hn G_S463 (by omega) (by omega)) (fun S473 hP => ?_)
              obtain ⟨G_S473, fS473⟩ := hP
              have F_S473 := zz_fr.trans F_S463 fS473 rfl zz_nv
              refine zz_aload_n (x := 1077) rfl zd_5_3_141 ?_
              refine zz_bipush (by decide) zd_5_3_142 ?_
              refine zz_callVV [zi 10] zd_5_3_144 zk_Line_69 zT_1077 (zz_ltn hn rfl) rfl rfl ⟨Nat.le_of_ble_eq_true rfl, Nat.le_of_ble_eq_true rfl⟩ ⟨rfl, rfl⟩ (Nat.zero_le _) (Nat.zero_le _) (zc_addSign_5_12 10 S473 n hn G_S473 (by omega)) (fun S475 hP => ?_)
              obtain ⟨G_S475, fS475⟩ := hP
              have F_S475 := zz_fr.trans F_S473 fS475 rfl zz_nv
              exact zz_vret zd_5_3_147 rfl (Nat.zero_le _) (Nat.zero_le _) ⟨_, rfl, G_S475, F_S475⟩
          · refine zz_ldcs (t := 44) (by decide +kernel) (by decide) zd_5_3_125 ?_
            refine zz_callVV [zi 1, .ref (100 + 44)] zd_5_3_127 zk_Line_59 zT_1077 (zz_ltn hn rfl) rfl rfl ⟨Nat.le_of_ble_eq_true rfl, Nat.le_of_ble_eq_true rfl⟩ ⟨rfl, rfl⟩ (Nat.zero_le _) (Nat.zero_le _) (zc_addIf_5_7 1 44 S457 n hn G_S457 (by omega) (by omega)) (fun S477 hP => ?_)
            obtain ⟨G_S477, fS477⟩ := hP
            have F_S477 := zz_fr.trans F_S457 fS477 rfl zz_nv
            refine zz_aload_n (x := 1077) rfl zd_5_3_130 ?_
            refine zz_lload_n (x := p0) rfl zd_5_3_131 ?_
            refine zz_iconst zd_5_3_132 ?_
            refine zz_callSI [zl p0, zi 4] zd_5_3_133 zk_Line_39 rfl rfl ⟨Nat.le_of_ble_eq_true rfl, Nat.le_of_ble_eq_true rfl⟩ ⟨rfl, rfl⟩ (Nat.zero_le _) (Nat.zero_le _) (zc_has_12_3x_4 p0 S477 n hn G_S477 (by omega)) (fun v480 S479 hP => ?_)
            obtain ⟨rfl, o481, o482⟩ := hP
            rcases (by omega : v480 = 0 ∨ v480 = 1) with rfl | rfl
            · refine zz_ldcs (t := 45) (by decide +kernel) (by decide) zd_5_3_136 ?_
              refine zz_callVV [zi 0, .ref (100 + 45)] zd_5_3_138 zk_Line_59 zT_1077 (zz_ltn hn rfl) rfl rfl ⟨Nat.le_of_ble_eq_true rfl, Nat.le_of_ble_eq_true rfl⟩ ⟨rfl, rfl⟩ (Nat.zero_le _) (Nat.zero_le _) (zc_addIf_5_7 0 45 S477 n hn G_S477 (by omega) (by omega)) (fun S483 hP => ?_)
              obtain ⟨G_S483, fS483⟩ := hP
              have F_S483 := zz_fr.trans F_S477 fS483 rfl zz_nv
              refine zz_aload_n (x := 1077) rfl zd_5_3_141 ?_
              refine zz_bipush (by decide) zd_5_3_142 ?_
              refine zz_callVV [zi 10] zd_5_3_144 zk_Line_69 zT_1077 (zz_ltn hn rfl) rfl rfl ⟨Nat.le_of_ble_eq_true rfl, Nat.le_of_ble_eq_true rfl⟩ ⟨rfl, rfl⟩ (Nat.zero_le _) (Nat.zero_le _) (zc_addSign_5_12 10 S483 n hn G_S483 (by omega)) (fun S485 hP => ?_)
              obtain ⟨G_S485, fS485⟩ := hP
              have F_S485 := zz_fr.trans F_S483 fS485 rfl zz_nv
              exact zz_vret zd_5_3_147 rfl (Nat.zero_le _) (Nat.zero_le _) ⟨_, rfl, G_S485, F_S485⟩
            · refine zz_ldcs (t := 45) (by decide +kernel) (by decide) zd_5_3_136 ?_
              refine zz_callVV [zi 1, .ref (100 + 45)] zd_5_3_138 zk_Line_59 zT_1077 (zz_ltn hn rfl) rfl rfl ⟨Nat.le_of_ble_eq_true rfl, Nat.le_of_ble_eq_true rfl⟩ ⟨rfl, rfl⟩ (Nat.zero_le _) (Nat.zero_le _) (zc_addIf_5_7 1 45 S477 n hn G_S477 (by omega) (by omega)) (fun S487 hP => ?_)
              obtain ⟨G_S487, fS487⟩ := hP
              have F_S487 := zz_fr.trans F_S477 fS487 rfl zz_nv
              refine zz_aload_n (x := 1077) rfl zd_5_3_141 ?_
              refine zz_bipush (by decide) zd_5_3_142 ?_
              refine zz_callVV [zi 10] zd_5_3_144 zk_Line_69 zT_1077 (zz_ltn hn rfl) rfl rfl ⟨Nat.le_of_ble_eq_true rfl, Nat.le_of_ble_eq_true rfl⟩ ⟨rfl, rfl⟩ (Nat.zero_le _) (Nat.zero_le _) (zc_addSign_5_12 10 S487 n hn G_S487 (by omega)) (fun S489 hP => ?_)
              obtain ⟨G_S489, fS489⟩ := hP
              have F_S489 := zz_fr.trans F_S487 fS489 rfl zz_nv
              exact zz_vret zd_5_3_147 rfl (Nat.zero_le _) (Nat.zero_le _) ⟨_, rfl, G_S489, F_S489⟩
        · refine zz_ldcs (t := 43) (by decide +kernel) (by decide) zd_5_3_114 ?_
          refine zz_callVV [zi 1, .ref (100 + 43)] zd_5_3_116 zk_Line_59 zT_1077 (zz_ltn hn rfl) rfl rfl ⟨Nat.le_of_ble_eq_true rfl, Nat.le_of_ble_eq_true rfl⟩ ⟨rfl, rfl⟩ (Nat.zero_le _) (Nat.zero_le _) (zc_addIf_5_7 1 43 S451 n hn G_S451 (by omega) (by omega)) (fun S491 hP => ?_)
          obtain ⟨G_S491, fS491⟩ := hP
          have F_S491 := zz_fr.trans F_S451 fS491 rfl zz_nv
          refine zz_aload_n (x := 1077) rfl zd_5_3_119 ?_
          refine zz_lload_n (x := p0) rfl zd_5_3_120 ?_
          refine zz_iconst zd_5_3_121 ?_
          refine zz_callSI [zl p0, zi 3] zd_5_3_122 zk_Line_39 rfl rfl ⟨Nat.le_of_ble_eq_true rfl, Nat.le_of_ble_eq_true rfl⟩ ⟨rfl, rfl⟩ (Nat.zero_le _) (Nat.zero_le _) (zc_has_12_3x_3 p0 S491 n hn G_S491 (by omega)) (fun v494 S493 hP => ?_)
          obtain ⟨rfl, o495, o496⟩ := hP
          rcases (by omega : v494 = 0 ∨ v494 = 1) with rfl | rfl
          · refine zz_ldcs (t := 44) (by decide +kernel) (by decide) zd_5_3_125 ?_
            refine zz_callVV [zi 0, .ref (100 + 44)] zd_5_3_127 zk_Line_59 zT_1077 (zz_ltn hn rfl) rfl rfl ⟨Nat.le_of_ble_eq_true rfl, Nat.le_of_ble_eq_true rfl⟩ ⟨rfl, rfl⟩ (Nat.zero_le _) (Nat.zero_le _) (zc_addIf_5_7 0 44 S491 n hn G_S491 (by omega) (by omega)) (fun S497 hP => ?_)
            obtain ⟨G_S497, fS497⟩ := hP
            have F_S497 := zz_fr.trans F_S491 fS497 rfl zz_nv
            refine zz_aload_n (x := 1077) rfl zd_5_3_130 ?_
            refine zz_lload_n (x := p0) rfl zd_5_3_131 ?_
            refine zz_iconst zd_5_3_132 ?_
            refine zz_callSI [zl p0, zi 4] zd_5_3_133 zk_Line_39 rfl rfl ⟨Nat.le_of_ble_eq_true rfl, Nat.le_of_ble_eq_true rfl⟩ ⟨rfl, rfl⟩ (Nat.zero_le _) (Nat.zero_le _) (zc_has_12_3x_4 p0 S497 n hn G_S497 (by omega)) (fun v500 S499 hP => ?_)
            obtain ⟨rfl, o501, o502⟩ := hP
            rcases (by omega : v500 = 0 ∨ v500 = 1) with rfl | rfl
            · refine zz_ldcs (t := 45) (by decide +kernel) (by decide) zd_5_3_136 ?_
              refine zz_callVV [zi 0, .ref (100 + 45)] zd_5_3_138 zk_Line_59 zT_1077 (zz_ltn hn rfl) rfl rfl ⟨Nat.le_of_ble_eq_true rfl, Nat.le_of_ble_eq_true rfl⟩ ⟨rfl, rfl⟩ (Nat.zero_le _) (Nat.zero_le _) (zc_addIf_5_7 0 45 S497 n hn G_S497 (by omega) (by omega)) (fun S503 hP => ?_)
              obtain ⟨G_S503, fS503⟩ := hP
              have F_S503 := zz_fr.trans F_S497 fS503 rfl zz_nv
              refine zz_aload_n (x := 1077) rfl zd_5_3_141 ?_
              refine zz_bipush (by decide) zd_5_3_142 ?_
              refine zz_callVV [zi 10] zd_5_3_144 zk_Line_69 zT_1077 (zz_ltn hn rfl) rfl rfl ⟨Nat.le_of_ble_eq_true rfl, Nat.le_of_ble_eq_true rfl⟩ ⟨rfl, rfl⟩ (Nat.zero_le _) (Nat.zero_le _) (zc_addSign_5_12 10 S503 n hn G_S503 (by omega)) (fun S505 hP => ?_)
              obtain ⟨G_S505, fS505⟩ := hP
              have F_S505 := zz_fr.trans F_S503 fS505 rfl zz_nv
              exact zz_vret zd_5_3_147 rfl (Nat.zero_le _) (Nat.zero_le _) ⟨_, rfl, G_S505, F_S505⟩
            · refine zz_ldcs (t := 45) (by decide +kernel) (by decide) zd_5_3_136 ?_
              refine zz_callVV [zi 1, .ref (100 + 45)] zd_5_3_138 zk_Line_59 zT_1077 (zz_ltn hn rfl) rfl rfl ⟨Nat.le_of_ble_eq_true rfl, Nat.le_of_ble_eq_true rfl⟩ ⟨rfl, rfl⟩ (Nat.zero_le _) (Nat.zero_le _) (zc_addIf_5_7 1 45 S497 n hn G_S497 (by omega) (by omega)) (fun S507 hP => ?_)
              obtain ⟨G_S507, fS507⟩ := hP
              have F_S507 := zz_fr.trans F_S497 fS507 rfl zz_nv
              refine zz_aload_n (x := 1077) rfl zd_5_3_141 ?_
              refine zz_bipush (by decide) zd_5_3_142 ?_
              refine zz_callVV [zi 10] zd_5_3_144 zk_Line_69 zT_1077 (zz_ltn hn rfl) rfl rfl ⟨Nat.le_of_ble_eq_true rfl, Nat.le_of_ble_eq_true rfl⟩ ⟨rfl, rfl⟩ (Nat.zero_le _) (Nat.zero_le _) (zc_addSign_5_12 10 S507 n hn G_S507 (by omega)) (fun S509 hP => ?_)
              obtain ⟨G_S509, fS509⟩ := hP
              have F_S509 := zz_fr.trans F_S507 fS509 rfl zz_nv
              exact zz_vret zd_5_3_147 rfl (Nat.zero_le _) (Nat.zero_le _) ⟨_, rfl, G_S509, F_S509⟩
          · refine zz_ldcs (t := 44) (by decide +kernel) (by decide) zd_5_3_125 ?_
            refine zz_callVV [zi 1, .ref (100 + 44)] zd_5_3_127 zk_Line_59 zT_1077 (zz_ltn hn rfl) rfl rfl ⟨Nat.le_of_ble_eq_true rfl, Nat.le_of_ble_eq_true rfl⟩ ⟨rfl, rfl⟩ (Nat.zero_le _) (Nat.zero_le _) (zc_addIf_5_7 1 44 S491 n hn G_S491 (by omega) (by omega)) (fun S511 hP => ?_)
            obtain ⟨G_S511, fS511⟩ := hP
            have F_S511 := zz_fr.trans F_S491 fS511 rfl zz_nv
            refine zz_aload_n (x := 1077) rfl zd_5_3_130 ?_
            refine zz_lload_n (x := p0) rfl zd_5_3_131 ?_
            refine zz_iconst zd_5_3_132 ?_
            refine zz_callSI [zl p0, zi 4] zd_5_3_133 zk_Line_39 rfl rfl ⟨Nat.le_of_ble_eq_true rfl, Nat.le_of_ble_eq_true rfl⟩ ⟨rfl, rfl⟩ (Nat.zero_le _) (Nat.zero_le _) (zc_has_12_3x_4 p0 S511 n hn G_S511 (by omega)) (fun v514 S513 hP => ?_)
            obtain ⟨rfl, o515, o516⟩ := hP
            rcases (by omega : v514 = 0 ∨ v514 = 1) with rfl | rfl
            · refine zz_ldcs (t := 45) (by decide +kernel) (by decide) zd_5_3_136 ?_
              refine zz_callVV [zi 0, .ref (100 + 45)] zd_5_3_138 zk_Line_59 zT_1077 (zz_ltn hn rfl) rfl rfl ⟨Nat.le_of_ble_eq_true rfl, Nat.le_of_ble_eq_true rfl⟩ ⟨rfl, rfl⟩ (Nat.zero_le _) (Nat.zero_le _) (zc_addIf_5_7 0 45 S511 n hn G_S511 (by omega) (by omega)) (fun S517 hP => ?_)
              obtain ⟨G_S517, fS517⟩ := hP
              have F_S517 := zz_fr.trans F_S511 fS517 rfl zz_nv
              refine zz_aload_n (x := 1077) rfl zd_5_3_141 ?_
              refine zz_bipush (by decide) zd_5_3_142 ?_
              refine zz_callVV [zi 10] zd_5_3_144 zk_Line_69 zT_1077 (zz_ltn hn rfl) rfl rfl ⟨Nat.le_of_ble_eq_true rfl, Nat.le_of_ble_eq_true rfl⟩ ⟨rfl, rfl⟩ (Nat.zero_le _) (Nat.zero_le _) (zc_addSign_5_12 10 S517 n hn G_S517 (by omega)) (fun S519 hP => ?_)
              obtain ⟨G_S519, fS519⟩ := hP
              have F_S519 := zz_fr.trans F_S517 fS519 rfl zz_nv
              exact zz_vret zd_5_3_147 rfl (Nat.zero_le _) (Nat.zero_le _) ⟨_, rfl, G_S519, F_S519⟩
            · refine zz_ldcs (t := 45) (by decide +kernel) (by decide) zd_5_3_136 ?_
              refine zz_callVV [zi 1, .ref (100 + 45)] zd_5_3_138 zk_Line_59 zT_1077 (zz_ltn hn rfl) rfl rfl ⟨Nat.le_of_ble_eq_true rfl, Nat.le_of_ble_eq_true rfl⟩ ⟨rfl, rfl⟩ (Nat.zero_le _) (Nat.zero_le _) (zc_addIf_5_7 1 45 S511 n hn G_S511 (by omega) (by omega)) (fun S521 hP => ?_)
              obtain ⟨G_S521, fS521⟩ := hP
              have F_S521 := zz_fr.trans F_S511 fS521 rfl zz_nv
              refine zz_aload_n (x := 1077) rfl zd_5_3_141 ?_
              refine zz_bipush (by decide) zd_5_3_142 ?_
              refine zz_callVV [zi 10] zd_5_3_144 zk_Line_69 zT_1077 (zz_ltn hn rfl) rfl rfl ⟨Nat.le_of_ble_eq_true rfl, Nat.le_of_ble_eq_true rfl⟩ ⟨rfl, rfl⟩ (Nat.zero_le _) (Nat.zero_le _) (zc_addSign_5_12 10 S521 n hn G_S521 (by omega)) (fun S523 hP => ?_)
              obtain ⟨G_S523, fS523⟩ := hP
              have F_S523 := zz_fr.trans F_S521 fS523 rfl zz_nv
              exact zz_vret zd_5_3_147 rfl (Nat.zero_le _) (Nat.zero_le _) ⟨_, rfl, G_S523, F_S523⟩
    · exfalso; omega
theorem zk_TF_174 : mm_Vl "TensorForge" 174 10 1 zy_writeInstruction_5_3 := ⟨zyw_writeInstruction_5_3, (R_Line, F_Line, 2), rfl, mm_tb_1 1252 (by decide +kernel) rfl, mm_tb_1 1253 (by decide +kernel) rfl, mm_tb_1 1254 (by decide +kernel) rfl⟩
abbrev zy_signAt_5_2 : mm_Y := (⟨"TensorForge$Line", "signAt", "(I)I"⟩, prog_5_method_2_code, 2, (some .int))
theorem zyw_signAt_5_2 : mm_Yw zy_signAt_5_2 1 := ⟨mm_tb_1 1303 (by decide +kernel) rfl, mm_tb_1 11 (by decide +kernel) rfl, ⟨by decide, by decide⟩, by decide +kernel⟩
theorem zg_1_14_39 : zq_at zy_listing_1_14.2.1 39 42 ∧ zq_at zy_listing_1_14.2.1 40 180 ∧ zq_at zy_listing_1_14.2.1 41 0 ∧ zq_at zy_listing_1_14.2.1 42 83 ∧ zq_at zy_listing_1_14.2.1 43 28 ∧ zq_at zy_listing_1_14.2.1 44 182 ∧ zq_at zy_listing_1_14.2.1 45 0 ∧ zq_at zy_listing_1_14.2.1 46 178 := by decide +kernel
theorem zd_1_14_39 : zz_D zy_listing_1_14 39 (.aload_n 0) 1 40 := ⟨zq_42 zg_1_14_39.1, rfl⟩
theorem zd_1_14_40 : zz_D zy_listing_1_14 40 (.getfield 83) 3 43 := ⟨zq_180 zg_1_14_39.2.1 zg_1_14_39.2.2.1 zg_1_14_39.2.2.2.1 rfl, rfl⟩
theorem zd_1_14_43 : zz_D zy_listing_1_14 43 (.iload_n 2) 1 44 := ⟨zq_28 zg_1_14_39.2.2.2.2.1, rfl⟩
theorem zd_1_14_44 : zz_D zy_listing_1_14 44 (.invokevirtual 178) 3 47 := ⟨zq_182 zg_1_14_39.2.2.2.2.2.1 zg_1_14_39.2.2.2.2.2.2.1 zg_1_14_39.2.2.2.2.2.2.2 rfl, rfl⟩
theorem zg_5_2_0 : zq_at zy_signAt_5_2.2.1 0 27 ∧ zq_at zy_signAt_5_2.2.1 1 155 ∧ zq_at zy_signAt_5_2.2.1 2 0 ∧ zq_at zy_signAt_5_2.2.1 3 11 ∧ zq_at zy_signAt_5_2.2.1 12 2 ∧ zq_at zy_signAt_5_2.2.1 13 167 ∧ zq_at zy_signAt_5_2.2.1 14 0 ∧ zq_at zy_signAt_5_2.2.1 15 9 ∧ zq_at zy_signAt_5_2.2.1 22 172 ∧ zq_at zy_signAt_5_2.2.1 4 27 ∧ zq_at zy_signAt_5_2.2.1 5 42 ∧ zq_at zy_signAt_5_2.2.1 6 180 ∧ zq_at zy_signAt_5_2.2.1 7 0 ∧ zq_at zy_signAt_5_2.2.1 8 15 ∧ zq_at zy_signAt_5_2.2.1 9 161 ∧ zq_at zy_signAt_5_2.2.1 10 0 ∧ zq_at zy_signAt_5_2.2.1 11 7 ∧ zq_at zy_signAt_5_2.2.1 16 42 ∧ zq_at zy_signAt_5_2.2.1 17 180 ∧ zq_at zy_signAt_5_2.2.1 18 0 ∧ zq_at zy_signAt_5_2.2.1 19 11 ∧ zq_at zy_signAt_5_2.2.1 20 27 ∧ zq_at zy_signAt_5_2.2.1 21 52 := by decide +kernel
theorem zd_5_2_0 : zz_D zy_signAt_5_2 0 (.iload_n 1) 1 1 := ⟨zq_27 zg_5_2_0.1, rfl⟩
theorem zd_5_2_1 : zz_B zy_signAt_5_2 1 (Instr.ifCond .lt) 12 4 := ⟨11, zq_155 zg_5_2_0.2.1 zg_5_2_0.2.2.1 zg_5_2_0.2.2.2.1 (by decide), rfl, rfl⟩
theorem zd_5_2_12 : zz_D zy_signAt_5_2 12 (.iconst (-1)) 1 13 := ⟨zq_2 zg_5_2_0.2.2.2.2.1, rfl⟩
theorem zd_5_2_13 : zz_B zy_signAt_5_2 13 Instr.goto 22 16 := ⟨9, zq_167 zg_5_2_0.2.2.2.2.2.1 zg_5_2_0.2.2.2.2.2.2.1 zg_5_2_0.2.2.2.2.2.2.2.1 (by decide), rfl, rfl⟩
theorem zd_5_2_22 : zz_D zy_signAt_5_2 22 (.ireturn) 1 23 := ⟨zq_172 zg_5_2_0.2.2.2.2.2.2.2.2.1, rfl⟩
theorem zd_5_2_4 : zz_D zy_signAt_5_2 4 (.iload_n 1) 1 5 := ⟨zq_27 zg_5_2_0.2.2.2.2.2.2.2.2.2.1, rfl⟩
theorem zd_5_2_5 : zz_D zy_signAt_5_2 5 (.aload_n 0) 1 6 := ⟨zq_42 zg_5_2_0.2.2.2.2.2.2.2.2.2.2.1, rfl⟩
theorem zd_5_2_6 : zz_D zy_signAt_5_2 6 (.getfield 15) 3 9 := ⟨zq_180 zg_5_2_0.2.2.2.2.2.2.2.2.2.2.2.1 zg_5_2_0.2.2.2.2.2.2.2.2.2.2.2.2.1 zg_5_2_0.2.2.2.2.2.2.2.2.2.2.2.2.2.1 rfl, rfl⟩
theorem zd_5_2_9 : zz_B zy_signAt_5_2 9 (Instr.if_icmp .lt) 16 12 := ⟨7, zq_161 zg_5_2_0.2.2.2.2.2.2.2.2.2.2.2.2.2.2.1 zg_5_2_0.2.2.2.2.2.2.2.2.2.2.2.2.2.2.2.1 zg_5_2_0.2.2.2.2.2.2.2.2.2.2.2.2.2.2.2.2.1 (by decide), rfl, rfl⟩
theorem zd_5_2_16 : zz_D zy_signAt_5_2 16 (.aload_n 0) 1 17 := ⟨zq_42 zg_5_2_0.2.2.2.2.2.2.2.2.2.2.2.2.2.2.2.2.2.1, rfl⟩
theorem zd_5_2_17 : zz_D zy_signAt_5_2 17 (.getfield 11) 3 20 := ⟨zq_180 zg_5_2_0.2.2.2.2.2.2.2.2.2.2.2.2.2.2.2.2.2.2.1 zg_5_2_0.2.2.2.2.2.2.2.2.2.2.2.2.2.2.2.2.2.2.2.1 zg_5_2_0.2.2.2.2.2.2.2.2.2.2.2.2.2.2.2.2.2.2.2.2.1 rfl, rfl⟩
theorem zd_5_2_20 : zz_D zy_signAt_5_2 20 (.iload_n 1) 1 21 := ⟨zq_27 zg_5_2_0.2.2.2.2.2.2.2.2.2.2.2.2.2.2.2.2.2.2.2.2.2.1, rfl⟩
theorem zd_5_2_21 : zz_D zy_signAt_5_2 21 (.caload) 1 22 := ⟨zq_52 zg_5_2_0.2.2.2.2.2.2.2.2.2.2.2.2.2.2.2.2.2.2.2.2.2.2, rfl⟩
-- TensorForge$Line signAt (I)I
abbrev zr_signAt_5_2 : Room := { frames := 0, cells := 0, slots := 0, locals := 0 }
def zp_signAt_5_2 (p0 : Int) (S0 : zz_S) : Int → zz_S → Prop := fun r S => S0 = S ∧ ((-2147483648) ≤ r ∧ r ≤ 2147483647)
theorem zc_signAt_5_2 {g : mm_G} {l : Launch} (p0 : Int) (S0 : zz_S) (n : Nat) (hn : zz_end ≤ n) (G_S0 : zz_G S0) (hp0 : (-2147483648) ≤ p0 ∧ p0 ≤ 2147483647) : mm_Met g l zy_signAt_5_2 zr_signAt_5_2 [.ref 1077, zi p0] (zz_M S0 n) n (zz_QI n (zp_signAt_5_2 p0 S0)) := by
  refine zz_enter (by decide) (Nat.le_of_ble_eq_true rfl) (zz_less (ls1 := [some (.ref 1077), some (zi p0)]) ⟨rfl, ⟨rfl, trivial⟩⟩ ?_)
  refine zz_iload_n (x := p0) rfl zd_5_2_0 ?_
  refine zz_if_lt (by omega) zd_5_2_1 (fun c1 => ?_) (fun c1 => ?_)
  · refine zz_iconst zd_5_2_12 ?_
    refine zz_goto zd_5_2_13 ?_
    exact zz_iret zd_5_2_22 rfl (Nat.zero_le _) (Nat.zero_le _) ⟨_, _, rfl, rfl, by omega⟩
  · refine zz_iload_n (x := p0) rfl zd_5_2_4 ?_
    refine zz_aload_n (x := 1077) rfl zd_5_2_5 ?_
    have g2 := zz_G.r G_S0 1077 1 0 128 rfl rfl
    refine zz_geti (z := S0 1077 1) zd_5_2_6 zf_Line_15 zT_1077 rfl (zz_ltn hn rfl) rfl ?_
    refine zz_icmp_lt (by omega) (by omega) zd_5_2_9 (fun c3 => ?_) (fun c3 => ?_)
    · refine zz_aload_n (x := 1077) rfl zd_5_2_16 ?_
      refine zz_getr (kd := 0) (z := 1078) zd_5_2_17 zf_Line_11 zT_1077 rfl (zz_ltn hn rfl) (zz_G.eq G_S0 1077 0 1078 rfl rfl) (by decide) 1078 rfl ?_
      refine zz_iload_n (x := p0) rfl zd_5_2_20 ?_
      have g4 := zz_G.r G_S0 1078 p0.toNat 0 65535 rfl rfl
      refine zz_cald (z := S0 1078 p0.toNat) zd_5_2_21 zT_1078 rfl (zz_ltn hn rfl) (by decide) (by omega) rfl ?_
      exact zz_iret zd_5_2_22 rfl (Nat.zero_le _) (Nat.zero_le _) ⟨_, _, rfl, rfl, by omega⟩
    · refine zz_iconst zd_5_2_12 ?_
      refine zz_goto zd_5_2_13 ?_
      exact zz_iret zd_5_2_22 rfl (Nat.zero_le _) (Nat.zero_le _) ⟨_, _, rfl, rfl, by omega⟩
theorem zk_TF_178 : mm_Vl "TensorForge" 178 10 1 zy_signAt_5_2 := ⟨zyw_signAt_5_2, (R_Line, F_Line, 2), rfl, mm_tb_1 1300 (by decide +kernel) rfl, mm_tb_1 1301 (by decide +kernel) rfl, mm_tb_1 1302 (by decide +kernel) rfl⟩
theorem zg_1_14_47 : zq_at zy_listing_1_14.2.1 47 172 := by decide +kernel
theorem zd_1_14_47 : zz_D zy_listing_1_14 47 (.ireturn) 1 48 := ⟨zq_172 zg_1_14_47, rfl⟩
-- TensorForge listing (II)I
abbrev zr_listing_1_14 : Room := { frames := 8, cells := 1, slots := 6, locals := 112 }
def zp_listing_1_14 (p0 : Int) (p1 : Int) (S0 : zz_S) : Int → zz_S → Prop := fun r S => zz_G S ∧ zz_fr [(1077, 1)] [1078] (fun _ _ => False) S0 S ∧ ((-2147483648) ≤ r ∧ r ≤ 2147483647)
def zx_listing_1_14 (p0 : Int) (p1 : Int) (S0 : zz_S) : Nat → zz_S → Prop := fun i S => zz_G S ∧ zz_fr [(1077, 1)] [1078] (fun _ _ => False) S0 S ∧ (i < 4) ∧ (i = 1)
theorem zc_listing_1_14 {g : mm_G} {l : Launch} (p0 : Int) (p1 : Int) (S0 : zz_S) (n : Nat) (hn : zz_end ≤ n) (hfl : l.flags = flags0) (G_S0 : zz_G S0) (hp0 : (-2147483648) ≤ p0 ∧ p0 ≤ 2147483647) (hp1 : (-2147483648) ≤ p1 ∧ p1 ≤ 2147483647) : mm_Met g l zy_listing_1_14 zr_listing_1_14 [.ref 1000, zi p0, zi p1] (zz_M S0 n) n (zz_XI n (zp_listing_1_14 p0 p1 S0) (zx_listing_1_14 p0 p1 S0)) := by
  refine zz_enter (by decide) (Nat.le_of_ble_eq_true rfl) (zz_less (ls1 := [some (.ref 1000), some (zi p0), some (zi p1)]) ⟨rfl, ⟨rfl, ⟨rfl, trivial⟩⟩⟩ ?_)
  have F_S0 : zz_fr [(1077, 1)] [1078] (fun _ _ => False) S0 S0 := zz_fr.refl
  refine zz_iload_n (x := p0) rfl zd_1_14_0 ?_
  refine zz_if_lt (by omega) zd_1_14_1 (fun c1 => ?_) (fun c1 => ?_)
  · exact zz_throw (i := 1) hfl hn zt_1_14_16 zyw_listing_1_14 zxl_TF_101_172_105 (Nat.le_of_ble_eq_true rfl) (Nat.le_of_ble_eq_true rfl) ⟨Nat.le_of_ble_eq_true rfl, Nat.le_of_ble_eq_true rfl⟩ (Or.inr ⟨_, _, rfl, G_S0, F_S0, by omega, by omega⟩)
  · refine zz_iload_n (x := p0) rfl zd_1_14_4 ?_
    refine zz_aload_n (x := 1000) rfl zd_1_14_5 ?_
    have g2 := zz_G.r G_S0 1000 11 0 600 rfl rfl
    refine zz_geti (z := S0 1000 11) zd_1_14_6 zf_TF_26 zT_1000 rfl (zz_ltn hn rfl) rfl ?_
    refine zz_icmp_ge (by omega) (by omega) zd_1_14_9 (fun c3 => ?_) (fun c3 => ?_)
    · exact zz_throw (i := 1) hfl hn zt_1_14_16 zyw_listing_1_14 zxl_TF_101_172_105 (Nat.le_of_ble_eq_true rfl) (Nat.le_of_ble_eq_true rfl) ⟨Nat.le_of_ble_eq_true rfl, Nat.le_of_ble_eq_true rfl⟩ (Or.inr ⟨_, _, rfl, G_S0, F_S0, by omega, by omega⟩)
    · refine zz_iload_n (x := p1) rfl zd_1_14_12 ?_
      refine zz_if_ge (by omega) zd_1_14_13 (fun c4 => ?_) (fun c4 => ?_)
      · refine zz_aload_n (x := 1000) rfl zd_1_14_26 ?_
        refine zz_getr (kd := 0) (z := 1077) zd_1_14_27 zf_TF_83 zT_1000 rfl (zz_ltn hn rfl) (zz_G.eq G_S0 1000 6 1077 rfl rfl) (by decide) 1077 rfl ?_
        refine zz_aload_n (x := 1000) rfl zd_1_14_30 ?_
        have g5 := zz_G.r G_S0 1000 9 0 1 rfl rfl
        refine zz_getr (kd := 2) (z := S0 1000 9) zd_1_14_31 zf_TF_19 zT_1000 rfl (zz_ltn hn rfl) rfl (by omega) (zz_rf 4 (S0 1000 9)) rfl ?_
        refine zz_iload_n (x := p0) rfl zd_1_14_34 ?_
        have g6 := zz_G.r G_S0 (zz_rf 4 (S0 1000 9)) p0.toNat (-9223372036854775808) 9223372036854775807 (zR_k4 (by omega)) (zB_k4 (by omega))
        refine zz_lald (z := S0 (zz_rf 4 (S0 1000 9)) p0.toNat) zd_1_14_35 (zT_k4 (by omega)) rfl (zN_k4 hn (by omega)) (by decide) (by omega) rfl ?_
        refine zz_callVV [zl (S0 (zz_rf 4 (S0 1000 9)) p0.toNat)] zd_1_14_36 zk_TF_174 zT_1077 (zz_ltn hn rfl) rfl rfl ⟨Nat.le_of_ble_eq_true rfl, Nat.le_of_ble_eq_true rfl⟩ ⟨rfl, rfl⟩ (Nat.zero_le _) (Nat.zero_le _) (zc_writeInstruction_5_3 (S0 (zz_rf 4 (S0 1000 9)) p0.toNat) S0 n hn G_S0 (by omega)) (fun S7 hP => ?_)
        obtain ⟨G_S7, fS7⟩ := hP
        have F_S7 := zz_fr.trans F_S0 fS7 rfl zz_nv
        refine zz_aload_n (x := 1000) rfl zd_1_14_39 ?_
        refine zz_getr (kd := 0) (z := 1077) zd_1_14_40 zf_TF_83 zT_1000 rfl (zz_ltn hn rfl) (zz_G.eq G_S7 1000 6 1077 rfl rfl) (by decide) 1077 rfl ?_
        refine zz_iload_n (x := p1) rfl zd_1_14_43 ?_
        refine zz_callVI [zi p1] zd_1_14_44 zk_TF_178 zT_1077 (zz_ltn hn rfl) rfl rfl ⟨Nat.le_of_ble_eq_true rfl, Nat.le_of_ble_eq_true rfl⟩ ⟨rfl, rfl⟩ (Nat.zero_le _) (Nat.zero_le _) (zc_signAt_5_2 p1 S7 n hn G_S7 (by omega)) (fun v10 S9 hP => ?_)
        obtain ⟨rfl, o11⟩ := hP
        exact zz_iret zd_1_14_47 rfl (Nat.le_of_ble_eq_true rfl) (Nat.le_of_ble_eq_true rfl) (Or.inl ⟨_, _, rfl, G_S7, F_S7, by omega⟩)
      · exact zz_throw (i := 1) hfl hn zt_1_14_16 zyw_listing_1_14 zxl_TF_101_172_105 (Nat.le_of_ble_eq_true rfl) (Nat.le_of_ble_eq_true rfl) ⟨Nat.le_of_ble_eq_true rfl, Nat.le_of_ble_eq_true rfl⟩ (Or.inr ⟨_, _, rfl, G_S0, F_S0, by omega, by omega⟩)
abbrev zy_run_1_15 : mm_Y := (⟨"TensorForge", "run", "()I"⟩, prog_1_method_15_code, 1, (some .int))
theorem zyw_run_1_15 : mm_Yw zy_run_1_15 0 := ⟨mm_tb_1 696 (by decide +kernel) rfl, mm_tb_1 1 (by decide +kernel) rfl, ⟨by decide, by decide⟩, by decide +kernel⟩
abbrev zy_follow_10_2 : mm_Y := (⟨"TensorForge$Run", "follow", "([JI)V"⟩, prog_10_method_2_code, 9, none)
theorem zyw_follow_10_2 : mm_Yw zy_follow_10_2 2 := ⟨mm_tb_1 700 (by decide +kernel) rfl, mm_tb_1 6 (by decide +kernel) rfl, ⟨by decide, by decide⟩, by decide +kernel⟩
abbrev zy_prepare_10_3 : mm_Y := (⟨"TensorForge$Run", "prepare", "([JI)V"⟩, prog_10_method_3_code, 4, none)
theorem zyw_prepare_10_3 : mm_Yw zy_prepare_10_3 2 := ⟨mm_tb_1 704 (by decide +kernel) rfl, mm_tb_1 6 (by decide +kernel) rfl, ⟨by decide, by decide⟩, by decide +kernel⟩
theorem zm_Run_77 : Cond.methodLink "TensorForge$Run" 77 Lib.Math.min.name ∈ mm_tb ∧ Cond.static Lib.Math.min.name ∈ mm_tb ∧ Cond.initialized "java/lang/Math" ∈ mm_tb ∧ Cond.code Lib.Math.min.name Lib.Math.min.code 2 (some .int) ∈ mm_tb := ⟨mm_tb_1 705 (by decide +kernel) rfl, mm_tb_1 706 (by decide +kernel) rfl, mm_tb_1 25 (by decide +kernel) rfl, mm_tb_1 707 (by decide +kernel) rfl⟩
theorem zm_Run_83 : Cond.methodLink "TensorForge$Run" 83 Lib.Math.max.name ∈ mm_tb ∧ Cond.static Lib.Math.max.name ∈ mm_tb ∧ Cond.initialized "java/lang/Math" ∈ mm_tb ∧ Cond.code Lib.Math.max.name Lib.Math.max.code 2 (some .int) ∈ mm_tb := ⟨mm_tb_1 708 (by decide +kernel) rfl, mm_tb_1 709 (by decide +kernel) rfl, mm_tb_1 25 (by decide +kernel) rfl, mm_tb_1 710 (by decide +kernel) rfl⟩
theorem zac_Run_86 : Cond.methodLink "TensorForge$Run" 86 arraycopyName ∈ mm_tb ∧ Cond.native arraycopyName ∈ mm_tb ∧ Cond.static arraycopyName ∈ mm_tb ∧ Cond.initialized "java/lang/System" ∈ mm_tb := ⟨mm_tb_1 711 (by decide +kernel) rfl, mm_tb_1 713 (by decide +kernel) rfl, mm_tb_1 712 (by decide +kernel) rfl, mm_tb_1 26 (by decide +kernel) rfl⟩
theorem zg_1_15_0 : zq_at zy_run_1_15.2.1 0 42 ∧ zq_at zy_run_1_15.2.1 1 180 ∧ zq_at zy_run_1_15.2.1 2 0 ∧ zq_at zy_run_1_15.2.1 3 42 ∧ zq_at zy_run_1_15.2.1 4 42 ∧ zq_at zy_run_1_15.2.1 5 180 ∧ zq_at zy_run_1_15.2.1 6 0 ∧ zq_at zy_run_1_15.2.1 7 19 ∧ zq_at zy_run_1_15.2.1 8 42 ∧ zq_at zy_run_1_15.2.1 9 180 ∧ zq_at zy_run_1_15.2.1 10 0 ∧ zq_at zy_run_1_15.2.1 11 26 ∧ zq_at zy_run_1_15.2.1 12 182 ∧ zq_at zy_run_1_15.2.1 13 0 ∧ zq_at zy_run_1_15.2.1 14 182 := by decide +kernel
theorem zd_1_15_0 : zz_D zy_run_1_15 0 (.aload_n 0) 1 1 := ⟨zq_42 zg_1_15_0.1, rfl⟩
theorem zd_1_15_1 : zz_D zy_run_1_15 1 (.getfield 42) 3 4 := ⟨zq_180 zg_1_15_0.2.1 zg_1_15_0.2.2.1 zg_1_15_0.2.2.2.1 rfl, rfl⟩
theorem zd_1_15_4 : zz_D zy_run_1_15 4 (.aload_n 0) 1 5 := ⟨zq_42 zg_1_15_0.2.2.2.2.1, rfl⟩
theorem zd_1_15_5 : zz_D zy_run_1_15 5 (.getfield 19) 3 8 := ⟨zq_180 zg_1_15_0.2.2.2.2.2.1 zg_1_15_0.2.2.2.2.2.2.1 zg_1_15_0.2.2.2.2.2.2.2.1 rfl, rfl⟩
theorem zd_1_15_8 : zz_D zy_run_1_15 8 (.aload_n 0) 1 9 := ⟨zq_42 zg_1_15_0.2.2.2.2.2.2.2.2.1, rfl⟩
theorem zd_1_15_9 : zz_D zy_run_1_15 9 (.getfield 26) 3 12 := ⟨zq_180 zg_1_15_0.2.2.2.2.2.2.2.2.2.1 zg_1_15_0.2.2.2.2.2.2.2.2.2.2.1 zg_1_15_0.2.2.2.2.2.2.2.2.2.2.2.1 rfl, rfl⟩
theorem zd_1_15_12 : zz_D zy_run_1_15 12 (.invokevirtual 182) 3 15 := ⟨zq_182 zg_1_15_0.2.2.2.2.2.2.2.2.2.2.2.2.1 zg_1_15_0.2.2.2.2.2.2.2.2.2.2.2.2.2.1 zg_1_15_0.2.2.2.2.2.2.2.2.2.2.2.2.2.2 rfl, rfl⟩
theorem zg_10_2_0 : zq_at zy_follow_10_2.2.1 0 42 ∧ zq_at zy_follow_10_2.2.1 1 43 ∧ zq_at zy_follow_10_2.2.1 2 28 ∧ zq_at zy_follow_10_2.2.1 3 182 ∧ zq_at zy_follow_10_2.2.1 4 0 ∧ zq_at zy_follow_10_2.2.1 5 50 := by decide +kernel
theorem zd_10_2_0 : zz_D zy_follow_10_2 0 (.aload_n 0) 1 1 := ⟨zq_42 zg_10_2_0.1, rfl⟩
theorem zd_10_2_1 : zz_D zy_follow_10_2 1 (.aload_n 1) 1 2 := ⟨zq_43 zg_10_2_0.2.1, rfl⟩
theorem zd_10_2_2 : zz_D zy_follow_10_2 2 (.iload_n 2) 1 3 := ⟨zq_28 zg_10_2_0.2.2.1, rfl⟩
theorem zd_10_2_3 : zz_D zy_follow_10_2 3 (.invokevirtual 50) 3 6 := ⟨zq_182 zg_10_2_0.2.2.2.1 zg_10_2_0.2.2.2.2.1 zg_10_2_0.2.2.2.2.2 rfl, rfl⟩
theorem zg_10_3_0 : zq_at zy_prepare_10_3.2.1 0 42 ∧ zq_at zy_prepare_10_3.2.1 1 3 ∧ zq_at zy_prepare_10_3.2.1 2 28 ∧ zq_at zy_prepare_10_3.2.1 3 43 ∧ zq_at zy_prepare_10_3.2.1 4 190 ∧ zq_at zy_prepare_10_3.2.1 5 42 ∧ zq_at zy_prepare_10_3.2.1 6 180 ∧ zq_at zy_prepare_10_3.2.1 7 0 ∧ zq_at zy_prepare_10_3.2.1 8 19 ∧ zq_at zy_prepare_10_3.2.1 9 190 ∧ zq_at zy_prepare_10_3.2.1 10 184 ∧ zq_at zy_prepare_10_3.2.1 11 0 ∧ zq_at zy_prepare_10_3.2.1 12 77 ∧ zq_at zy_prepare_10_3.2.1 13 184 ∧ zq_at zy_prepare_10_3.2.1 14 0 ∧ zq_at zy_prepare_10_3.2.1 15 77 ∧ zq_at zy_prepare_10_3.2.1 16 184 ∧ zq_at zy_prepare_10_3.2.1 17 0 ∧ zq_at zy_prepare_10_3.2.1 18 83 ∧ zq_at zy_prepare_10_3.2.1 19 181 ∧ zq_at zy_prepare_10_3.2.1 20 0 ∧ zq_at zy_prepare_10_3.2.1 21 46 ∧ zq_at zy_prepare_10_3.2.1 22 43 ∧ zq_at zy_prepare_10_3.2.1 23 3 := by decide +kernel
theorem zd_10_3_0 : zz_D zy_prepare_10_3 0 (.aload_n 0) 1 1 := ⟨zq_42 zg_10_3_0.1, rfl⟩
theorem zd_10_3_1 : zz_D zy_prepare_10_3 1 (.iconst 0) 1 2 := ⟨zq_3 zg_10_3_0.2.1, rfl⟩
theorem zd_10_3_2 : zz_D zy_prepare_10_3 2 (.iload_n 2) 1 3 := ⟨zq_28 zg_10_3_0.2.2.1, rfl⟩
theorem zd_10_3_3 : zz_D zy_prepare_10_3 3 (.aload_n 1) 1 4 := ⟨zq_43 zg_10_3_0.2.2.2.1, rfl⟩
theorem zd_10_3_4 : zz_D zy_prepare_10_3 4 (.arraylength) 1 5 := ⟨zq_190 zg_10_3_0.2.2.2.2.1, rfl⟩
theorem zd_10_3_5 : zz_D zy_prepare_10_3 5 (.aload_n 0) 1 6 := ⟨zq_42 zg_10_3_0.2.2.2.2.2.1, rfl⟩
theorem zd_10_3_6 : zz_D zy_prepare_10_3 6 (.getfield 19) 3 9 := ⟨zq_180 zg_10_3_0.2.2.2.2.2.2.1 zg_10_3_0.2.2.2.2.2.2.2.1 zg_10_3_0.2.2.2.2.2.2.2.2.1 rfl, rfl⟩
theorem zd_10_3_9 : zz_D zy_prepare_10_3 9 (.arraylength) 1 10 := ⟨zq_190 zg_10_3_0.2.2.2.2.2.2.2.2.2.1, rfl⟩
theorem zd_10_3_10 : zz_D zy_prepare_10_3 10 (.invokestatic 77) 3 13 := ⟨zq_184 zg_10_3_0.2.2.2.2.2.2.2.2.2.2.1 zg_10_3_0.2.2.2.2.2.2.2.2.2.2.2.1 zg_10_3_0.2.2.2.2.2.2.2.2.2.2.2.2.1 rfl, rfl⟩
theorem zd_10_3_13 : zz_D zy_prepare_10_3 13 (.invokestatic 77) 3 16 := ⟨zq_184 zg_10_3_0.2.2.2.2.2.2.2.2.2.2.2.2.2.1 zg_10_3_0.2.2.2.2.2.2.2.2.2.2.2.2.2.2.1 zg_10_3_0.2.2.2.2.2.2.2.2.2.2.2.2.2.2.2.1 rfl, rfl⟩
theorem zd_10_3_16 : zz_D zy_prepare_10_3 16 (.invokestatic 83) 3 19 := ⟨zq_184 zg_10_3_0.2.2.2.2.2.2.2.2.2.2.2.2.2.2.2.2.1 zg_10_3_0.2.2.2.2.2.2.2.2.2.2.2.2.2.2.2.2.2.1 zg_10_3_0.2.2.2.2.2.2.2.2.2.2.2.2.2.2.2.2.2.2.1 rfl, rfl⟩
theorem zd_10_3_19 : zz_D zy_prepare_10_3 19 (.putfield 46) 3 22 := ⟨zq_181 zg_10_3_0.2.2.2.2.2.2.2.2.2.2.2.2.2.2.2.2.2.2.2.1 zg_10_3_0.2.2.2.2.2.2.2.2.2.2.2.2.2.2.2.2.2.2.2.2.1 zg_10_3_0.2.2.2.2.2.2.2.2.2.2.2.2.2.2.2.2.2.2.2.2.2.1 rfl, rfl⟩
theorem zd_10_3_22 : zz_D zy_prepare_10_3 22 (.aload_n 1) 1 23 := ⟨zq_43 zg_10_3_0.2.2.2.2.2.2.2.2.2.2.2.2.2.2.2.2.2.2.2.2.2.2.1, rfl⟩
theorem zd_10_3_23 : zz_D zy_prepare_10_3 23 (.iconst 0) 1 24 := ⟨zq_3 zg_10_3_0.2.2.2.2.2.2.2.2.2.2.2.2.2.2.2.2.2.2.2.2.2.2.2, rfl⟩
theorem zg_10_3_24 : zq_at zy_prepare_10_3.2.1 24 42 ∧ zq_at zy_prepare_10_3.2.1 25 180 ∧ zq_at zy_prepare_10_3.2.1 26 0 ∧ zq_at zy_prepare_10_3.2.1 27 19 ∧ zq_at zy_prepare_10_3.2.1 28 3 ∧ zq_at zy_prepare_10_3.2.1 29 42 ∧ zq_at zy_prepare_10_3.2.1 30 180 ∧ zq_at zy_prepare_10_3.2.1 31 0 ∧ zq_at zy_prepare_10_3.2.1 32 46 ∧ zq_at zy_prepare_10_3.2.1 33 184 ∧ zq_at zy_prepare_10_3.2.1 34 0 ∧ zq_at zy_prepare_10_3.2.1 35 86 ∧ zq_at zy_prepare_10_3.2.1 36 42 ∧ zq_at zy_prepare_10_3.2.1 37 180 ∧ zq_at zy_prepare_10_3.2.1 38 0 ∧ zq_at zy_prepare_10_3.2.1 39 15 ∧ zq_at zy_prepare_10_3.2.1 40 3 ∧ zq_at zy_prepare_10_3.2.1 41 184 ∧ zq_at zy_prepare_10_3.2.1 42 0 ∧ zq_at zy_prepare_10_3.2.1 43 92 := by decide +kernel
theorem zd_10_3_24 : zz_D zy_prepare_10_3 24 (.aload_n 0) 1 25 := ⟨zq_42 zg_10_3_24.1, rfl⟩
theorem zd_10_3_25 : zz_D zy_prepare_10_3 25 (.getfield 19) 3 28 := ⟨zq_180 zg_10_3_24.2.1 zg_10_3_24.2.2.1 zg_10_3_24.2.2.2.1 rfl, rfl⟩
theorem zd_10_3_28 : zz_D zy_prepare_10_3 28 (.iconst 0) 1 29 := ⟨zq_3 zg_10_3_24.2.2.2.2.1, rfl⟩
theorem zd_10_3_29 : zz_D zy_prepare_10_3 29 (.aload_n 0) 1 30 := ⟨zq_42 zg_10_3_24.2.2.2.2.2.1, rfl⟩
theorem zd_10_3_30 : zz_D zy_prepare_10_3 30 (.getfield 46) 3 33 := ⟨zq_180 zg_10_3_24.2.2.2.2.2.2.1 zg_10_3_24.2.2.2.2.2.2.2.1 zg_10_3_24.2.2.2.2.2.2.2.2.1 rfl, rfl⟩
theorem zd_10_3_33 : zz_D zy_prepare_10_3 33 (.invokestatic 86) 3 36 := ⟨zq_184 zg_10_3_24.2.2.2.2.2.2.2.2.2.1 zg_10_3_24.2.2.2.2.2.2.2.2.2.2.1 zg_10_3_24.2.2.2.2.2.2.2.2.2.2.2.1 rfl, rfl⟩
theorem zd_10_3_36 : zz_D zy_prepare_10_3 36 (.aload_n 0) 1 37 := ⟨zq_42 zg_10_3_24.2.2.2.2.2.2.2.2.2.2.2.2.1, rfl⟩
theorem zd_10_3_37 : zz_D zy_prepare_10_3 37 (.getfield 15) 3 40 := ⟨zq_180 zg_10_3_24.2.2.2.2.2.2.2.2.2.2.2.2.2.1 zg_10_3_24.2.2.2.2.2.2.2.2.2.2.2.2.2.2.1 zg_10_3_24.2.2.2.2.2.2.2.2.2.2.2.2.2.2.2.1 rfl, rfl⟩
theorem zd_10_3_40 : zz_D zy_prepare_10_3 40 (.iconst 0) 1 41 := ⟨zq_3 zg_10_3_24.2.2.2.2.2.2.2.2.2.2.2.2.2.2.2.2.1, rfl⟩
theorem zd_10_3_41 : zz_D zy_prepare_10_3 41 (.invokestatic 92) 3 44 := ⟨zq_184 zg_10_3_24.2.2.2.2.2.2.2.2.2.2.2.2.2.2.2.2.2.1 zg_10_3_24.2.2.2.2.2.2.2.2.2.2.2.2.2.2.2.2.2.2.1 zg_10_3_24.2.2.2.2.2.2.2.2.2.2.2.2.2.2.2.2.2.2.2 rfl, rfl⟩
-- java/util/Arrays fill ([II)V
abbrev zr_fill_27_103_1043 : Room := { frames := 0, cells := 0, slots := 0, locals := 0 }
def zp_fill_27_103_1043 (p1 : Int) (S0 : zz_S) : zz_S → Prop := fun S => zz_G S ∧ zz_fr [] [1043] (fun _ _ => False) S0 S
theorem zb_fill_27_103_1043_5 {g : mm_G} {l : Launch} (p1 : Int) (S0 : zz_S) (n : Nat) (hn : zz_end ≤ n) (G_S0 : zz_G S0) (hp1 : (-2147483648) ≤ p1 ∧ p1 ≤ 2147483647) (x2 : Int) (S : zz_S) (G_S : zz_G S) (F_S : zz_fr [] [1043] (fun _ _ => False) S0 S) (i5_0 : 0 ≤ x2 ∧ x2 ≤ 10) (R : Nat) (hR : (10 - x2).toNat = R) (k5 : ∀ (x2 : Int) (S : zz_S), zz_G S → zz_fr [] [1043] (fun _ _ => False) S0 S → (0 ≤ x2 ∧ x2 ≤ 10) → (10 - x2).toNat < R → zz_E g l zy_fill_27_103 zr_fill_27_103_1043 (zz_QV n (zp_fill_27_103_1043 p1 S0)) S n 5 [some (.ref 1043), some (zi p1), some (zi x2), some (zi 10)] [] 0 0) : zz_E g l zy_fill_27_103 zr_fill_27_103_1043 (zz_QV n (zp_fill_27_103_1043 p1 S0)) S n 5 [some (.ref 1043), some (zi p1), some (zi x2), some (zi 10)] [] 0 0 := by
  refine zz_iload_n (x := x2) rfl zd_27_103_5 ?_
  refine zz_iload_n (x := 10) rfl zd_27_103_6 ?_
  refine zz_icmp_ge (by omega) (by omega) zd_27_103_7 (fun c1 => ?_) (fun c1 => ?_)
  · exact zz_vret zd_27_103_20 rfl (Nat.zero_le _) (Nat.zero_le _) ⟨_, rfl, G_S, F_S⟩
  · refine zz_aload_n (x := 1043) rfl zd_27_103_10 ?_
    refine zz_iload_n (x := x2) rfl zd_27_103_11 ?_
    refine zz_iload_n (x := p1) rfl zd_27_103_12 ?_
    refine zz_iast zd_27_103_13 zT_1043 rfl (zz_ltn hn rfl) (by decide) (by omega) (fun S2 qS2 => ?_)
    have G_S2 := zz_G.put G_S qS2 (-2147483648) 2147483647 rfl (by omega)
    have F_S2 := zz_fr.putc F_S qS2 rfl
    refine zz_iinc [some (.ref 1043), some (zi p1), some (zi (x2 + 1)), some (zi 10)] zd_27_103_14 rfl rfl ?_
    refine zz_goto zd_27_103_17 ?_
    refine zz_less (ls1 := [some (.ref 1043), some (zi p1), some (zi (x2 + 1)), some (zi 10)]) ⟨rfl, ⟨rfl, ⟨rfl, ⟨rfl, trivial⟩⟩⟩⟩ ?_
    exact k5 (x2 + 1) S2 G_S2 F_S2 (by omega) (by omega)
theorem zi_fill_27_103_1043 {g : mm_G} {l : Launch} (p1 : Int) (S0 : zz_S) (n : Nat) (hn : zz_end ≤ n) (G_S0 : zz_G S0) (hp1 : (-2147483648) ≤ p1 ∧ p1 ≤ 2147483647) : ∀ N : Nat, (∀ (x2 : Int) (S : zz_S), zz_G S → zz_fr [] [1043] (fun _ _ => False) S0 S → (0 ≤ x2 ∧ x2 ≤ 10) → (10 - x2).toNat < N → zz_E g l zy_fill_27_103 zr_fill_27_103_1043 (zz_QV n (zp_fill_27_103_1043 p1 S0)) S n 5 [some (.ref 1043), some (zi p1), some (zi x2), some (zi 10)] [] 0 0) := by
  intro N
  induction N with
  | zero => exact fun x2 S _ _ _ h => absurd h (Nat.not_lt_zero _)
  | succ N ih =>
    exact fun x2 S a b j0 hR => zb_fill_27_103_1043_5 p1 S0 n hn G_S0 hp1 x2 S a b j0 _ rfl (fun x2 S a b j0 h => ih x2 S a b j0 (Nat.lt_of_lt_of_le h (Nat.le_of_lt_succ hR)))
theorem zc_fill_27_103_1043 {g : mm_G} {l : Launch} (p1 : Int) (S0 : zz_S) (n : Nat) (hn : zz_end ≤ n) (G_S0 : zz_G S0) (hp1 : (-2147483648) ≤ p1 ∧ p1 ≤ 2147483647) : mm_Met g l zy_fill_27_103 zr_fill_27_103_1043 [.ref 1043, zi p1] (zz_M S0 n) n (zz_QV n (zp_fill_27_103_1043 p1 S0)) := by
  refine zz_enter (by decide) (Nat.le_of_ble_eq_true rfl) (zz_less (ls1 := [some (.ref 1043), some (zi p1)]) ⟨rfl, ⟨rfl, trivial⟩⟩ ?_)
  have F_S0 : zz_fr [] [1043] (fun _ _ => False) S0 S0 := zz_fr.refl
  have k5 : ∀ (x2 : Int) (S : zz_S), zz_G S → zz_fr [] [1043] (fun _ _ => False) S0 S → (0 ≤ x2 ∧ x2 ≤ 10) → zz_E g l zy_fill_27_103 zr_fill_27_103_1043 (zz_QV n (zp_fill_27_103_1043 p1 S0)) S n 5 [some (.ref 1043), some (zi p1), some (zi x2), some (zi 10)] [] 0 0 := fun x2 S a b j0 => (zi_fill_27_103_1043 (g := g) (l := l) p1 S0 n hn G_S0 hp1 _) x2 S a b j0 (Nat.lt_succ_self _)
  refine zz_iconst zd_27_103_0 ?_
  refine zz_istore_n [some (.ref 1043), some (zi p1), some (zi 0)] zd_27_103_1 (by decide) rfl ?_
  refine zz_aload_n (x := 1043) rfl zd_27_103_2 ?_
  refine zz_alen zd_27_103_3 zT_1043 rfl (zz_ltn hn rfl) ?_
  refine zz_istore_n [some (.ref 1043), some (zi p1), some (zi 0), some (zi 10)] zd_27_103_4 (by decide) rfl ?_
  refine zz_less (ls1 := [some (.ref 1043), some (zi p1), some (zi 0), some (zi 10)]) ⟨rfl, ⟨rfl, ⟨rfl, ⟨rfl, trivial⟩⟩⟩⟩ ?_
  exact k5 0 S0 G_S0 F_S0 (by omega)
theorem zk_Run_92 : mm_Sl "TensorForge$Run" 92 2 zy_fill_27_103 := ⟨zyw_fill_27_103, mm_tb_1 714 (by decide +kernel) rfl, mm_tb_1 532 (by decide +kernel) rfl⟩
theorem zg_10_3_44 : zq_at zy_prepare_10_3.2.1 44 42 ∧ zq_at zy_prepare_10_3.2.1 45 180 ∧ zq_at zy_prepare_10_3.2.1 46 0 ∧ zq_at zy_prepare_10_3.2.1 47 23 ∧ zq_at zy_prepare_10_3.2.1 48 2 ∧ zq_at zy_prepare_10_3.2.1 49 184 ∧ zq_at zy_prepare_10_3.2.1 50 0 ∧ zq_at zy_prepare_10_3.2.1 51 92 := by decide +kernel
theorem zd_10_3_44 : zz_D zy_prepare_10_3 44 (.aload_n 0) 1 45 := ⟨zq_42 zg_10_3_44.1, rfl⟩
theorem zd_10_3_45 : zz_D zy_prepare_10_3 45 (.getfield 23) 3 48 := ⟨zq_180 zg_10_3_44.2.1 zg_10_3_44.2.2.1 zg_10_3_44.2.2.2.1 rfl, rfl⟩
theorem zd_10_3_48 : zz_D zy_prepare_10_3 48 (.iconst (-1)) 1 49 := ⟨zq_2 zg_10_3_44.2.2.2.2.1, rfl⟩
theorem zd_10_3_49 : zz_D zy_prepare_10_3 49 (.invokestatic 92) 3 52 := ⟨zq_184 zg_10_3_44.2.2.2.2.2.1 zg_10_3_44.2.2.2.2.2.2.1 zg_10_3_44.2.2.2.2.2.2.2 rfl, rfl⟩
-- java/util/Arrays fill ([II)V
abbrev zr_fill_27_103_1045 : Room := { frames := 0, cells := 0, slots := 0, locals := 0 }
def zp_fill_27_103_1045 (p1 : Int) (S0 : zz_S) : zz_S → Prop := fun S => zz_G S ∧ zz_fr [] [1045] (fun _ _ => False) S0 S
theorem zb_fill_27_103_1045_5 {g : mm_G} {l : Launch} (p1 : Int) (S0 : zz_S) (n : Nat) (hn : zz_end ≤ n) (G_S0 : zz_G S0) (hp1 : (-2147483648) ≤ p1 ∧ p1 ≤ 2147483647) (x2 : Int) (S : zz_S) (G_S : zz_G S) (F_S : zz_fr [] [1045] (fun _ _ => False) S0 S) (i5_0 : 0 ≤ x2 ∧ x2 ≤ 600) (R : Nat) (hR : (600 - x2).toNat = R) (k5 : ∀ (x2 : Int) (S : zz_S), zz_G S → zz_fr [] [1045] (fun _ _ => False) S0 S → (0 ≤ x2 ∧ x2 ≤ 600) → (600 - x2).toNat < R → zz_E g l zy_fill_27_103 zr_fill_27_103_1045 (zz_QV n (zp_fill_27_103_1045 p1 S0)) S n 5 [some (.ref 1045), some (zi p1), some (zi x2), some (zi 600)] [] 0 0) : zz_E g l zy_fill_27_103 zr_fill_27_103_1045 (zz_QV n (zp_fill_27_103_1045 p1 S0)) S n 5 [some (.ref 1045), some (zi p1), some (zi x2), some (zi 600)] [] 0 0 := by
  refine zz_iload_n (x := x2) rfl zd_27_103_5 ?_
  refine zz_iload_n (x := 600) rfl zd_27_103_6 ?_
  refine zz_icmp_ge (by omega) (by omega) zd_27_103_7 (fun c1 => ?_) (fun c1 => ?_)
  · exact zz_vret zd_27_103_20 rfl (Nat.zero_le _) (Nat.zero_le _) ⟨_, rfl, G_S, F_S⟩
  · refine zz_aload_n (x := 1045) rfl zd_27_103_10 ?_
    refine zz_iload_n (x := x2) rfl zd_27_103_11 ?_
    refine zz_iload_n (x := p1) rfl zd_27_103_12 ?_
    refine zz_iast zd_27_103_13 zT_1045 rfl (zz_ltn hn rfl) (by decide) (by omega) (fun S2 qS2 => ?_)
    have G_S2 := zz_G.put G_S qS2 (-2147483648) 2147483647 rfl (by omega)
    have F_S2 := zz_fr.putc F_S qS2 rfl
    refine zz_iinc [some (.ref 1045), some (zi p1), some (zi (x2 + 1)), some (zi 600)] zd_27_103_14 rfl rfl ?_
    refine zz_goto zd_27_103_17 ?_
    refine zz_less (ls1 := [some (.ref 1045), some (zi p1), some (zi (x2 + 1)), some (zi 600)]) ⟨rfl, ⟨rfl, ⟨rfl, ⟨rfl, trivial⟩⟩⟩⟩ ?_
    exact k5 (x2 + 1) S2 G_S2 F_S2 (by omega) (by omega)
theorem zi_fill_27_103_1045 {g : mm_G} {l : Launch} (p1 : Int) (S0 : zz_S) (n : Nat) (hn : zz_end ≤ n) (G_S0 : zz_G S0) (hp1 : (-2147483648) ≤ p1 ∧ p1 ≤ 2147483647) : ∀ N : Nat, (∀ (x2 : Int) (S : zz_S), zz_G S → zz_fr [] [1045] (fun _ _ => False) S0 S → (0 ≤ x2 ∧ x2 ≤ 600) → (600 - x2).toNat < N → zz_E g l zy_fill_27_103 zr_fill_27_103_1045 (zz_QV n (zp_fill_27_103_1045 p1 S0)) S n 5 [some (.ref 1045), some (zi p1), some (zi x2), some (zi 600)] [] 0 0) := by
  intro N
  induction N with
  | zero => exact fun x2 S _ _ _ h => absurd h (Nat.not_lt_zero _)
  | succ N ih =>
    exact fun x2 S a b j0 hR => zb_fill_27_103_1045_5 p1 S0 n hn G_S0 hp1 x2 S a b j0 _ rfl (fun x2 S a b j0 h => ih x2 S a b j0 (Nat.lt_of_lt_of_le h (Nat.le_of_lt_succ hR)))
theorem zc_fill_27_103_1045 {g : mm_G} {l : Launch} (p1 : Int) (S0 : zz_S) (n : Nat) (hn : zz_end ≤ n) (G_S0 : zz_G S0) (hp1 : (-2147483648) ≤ p1 ∧ p1 ≤ 2147483647) : mm_Met g l zy_fill_27_103 zr_fill_27_103_1045 [.ref 1045, zi p1] (zz_M S0 n) n (zz_QV n (zp_fill_27_103_1045 p1 S0)) := by
  refine zz_enter (by decide) (Nat.le_of_ble_eq_true rfl) (zz_less (ls1 := [some (.ref 1045), some (zi p1)]) ⟨rfl, ⟨rfl, trivial⟩⟩ ?_)
  have F_S0 : zz_fr [] [1045] (fun _ _ => False) S0 S0 := zz_fr.refl
  have k5 : ∀ (x2 : Int) (S : zz_S), zz_G S → zz_fr [] [1045] (fun _ _ => False) S0 S → (0 ≤ x2 ∧ x2 ≤ 600) → zz_E g l zy_fill_27_103 zr_fill_27_103_1045 (zz_QV n (zp_fill_27_103_1045 p1 S0)) S n 5 [some (.ref 1045), some (zi p1), some (zi x2), some (zi 600)] [] 0 0 := fun x2 S a b j0 => (zi_fill_27_103_1045 (g := g) (l := l) p1 S0 n hn G_S0 hp1 _) x2 S a b j0 (Nat.lt_succ_self _)
  refine zz_iconst zd_27_103_0 ?_
  refine zz_istore_n [some (.ref 1045), some (zi p1), some (zi 0)] zd_27_103_1 (by decide) rfl ?_
  refine zz_aload_n (x := 1045) rfl zd_27_103_2 ?_
  refine zz_alen zd_27_103_3 zT_1045 rfl (zz_ltn hn rfl) ?_
  refine zz_istore_n [some (.ref 1045), some (zi p1), some (zi 0), some (zi 600)] zd_27_103_4 (by decide) rfl ?_
  refine zz_less (ls1 := [some (.ref 1045), some (zi p1), some (zi 0), some (zi 600)]) ⟨rfl, ⟨rfl, ⟨rfl, ⟨rfl, trivial⟩⟩⟩⟩ ?_
  exact k5 0 S0 G_S0 F_S0 (by omega)
theorem zg_10_3_52 : zq_at zy_prepare_10_3.2.1 52 42 ∧ zq_at zy_prepare_10_3.2.1 53 180 ∧ zq_at zy_prepare_10_3.2.1 54 0 ∧ zq_at zy_prepare_10_3.2.1 55 26 ∧ zq_at zy_prepare_10_3.2.1 56 2 ∧ zq_at zy_prepare_10_3.2.1 57 184 ∧ zq_at zy_prepare_10_3.2.1 58 0 ∧ zq_at zy_prepare_10_3.2.1 59 92 := by decide +kernel
theorem zd_10_3_52 : zz_D zy_prepare_10_3 52 (.aload_n 0) 1 53 := ⟨zq_42 zg_10_3_52.1, rfl⟩
theorem zd_10_3_53 : zz_D zy_prepare_10_3 53 (.getfield 26) 3 56 := ⟨zq_180 zg_10_3_52.2.1 zg_10_3_52.2.2.1 zg_10_3_52.2.2.2.1 rfl, rfl⟩
theorem zd_10_3_56 : zz_D zy_prepare_10_3 56 (.iconst (-1)) 1 57 := ⟨zq_2 zg_10_3_52.2.2.2.2.1, rfl⟩
theorem zd_10_3_57 : zz_D zy_prepare_10_3 57 (.invokestatic 92) 3 60 := ⟨zq_184 zg_10_3_52.2.2.2.2.2.1 zg_10_3_52.2.2.2.2.2.2.1 zg_10_3_52.2.2.2.2.2.2.2 rfl, rfl⟩
-- java/util/Arrays fill ([II)V
abbrev zr_fill_27_103_1046 : Room := { frames := 0, cells := 0, slots := 0, locals := 0 }
def zp_fill_27_103_1046 (p1 : Int) (S0 : zz_S) : zz_S → Prop := fun S => zz_G S ∧ zz_fr [] [1046] (fun _ _ => False) S0 S
theorem zb_fill_27_103_1046_5 {g : mm_G} {l : Launch} (p1 : Int) (S0 : zz_S) (n : Nat) (hn : zz_end ≤ n) (G_S0 : zz_G S0) (hp1 : (-2147483648) ≤ p1 ∧ p1 ≤ 2147483647) (x2 : Int) (S : zz_S) (G_S : zz_G S) (F_S : zz_fr [] [1046] (fun _ _ => False) S0 S) (i5_0 : 0 ≤ x2 ∧ x2 ≤ 600) (R : Nat) (hR : (600 - x2).toNat = R) (k5 : ∀ (x2 : Int) (S : zz_S), zz_G S → zz_fr [] [1046] (fun _ _ => False) S0 S → (0 ≤ x2 ∧ x2 ≤ 600) → (600 - x2).toNat < R → zz_E g l zy_fill_27_103 zr_fill_27_103_1046 (zz_QV n (zp_fill_27_103_1046 p1 S0)) S n 5 [some (.ref 1046), some (zi p1), some (zi x2), some (zi 600)] [] 0 0) : zz_E g l zy_fill_27_103 zr_fill_27_103_1046 (zz_QV n (zp_fill_27_103_1046 p1 S0)) S n 5 [some (.ref 1046), some (zi p1), some (zi x2), some (zi 600)] [] 0 0 := by
  refine zz_iload_n (x := x2) rfl zd_27_103_5 ?_
  refine zz_iload_n (x := 600) rfl zd_27_103_6 ?_
  refine zz_icmp_ge (by omega) (by omega) zd_27_103_7 (fun c1 => ?_) (fun c1 => ?_)
  · exact zz_vret zd_27_103_20 rfl (Nat.zero_le _) (Nat.zero_le _) ⟨_, rfl, G_S, F_S⟩
  · refine zz_aload_n (x := 1046) rfl zd_27_103_10 ?_
    refine zz_iload_n (x := x2) rfl zd_27_103_11 ?_
    refine zz_iload_n (x := p1) rfl zd_27_103_12 ?_
    refine zz_iast zd_27_103_13 zT_1046 rfl (zz_ltn hn rfl) (by decide) (by omega) (fun S2 qS2 => ?_)
    have G_S2 := zz_G.put G_S qS2 (-2147483648) 2147483647 rfl (by omega)
    have F_S2 := zz_fr.putc F_S qS2 rfl
    refine zz_iinc [some (.ref 1046), some (zi p1), some (zi (x2 + 1)), some (zi 600)] zd_27_103_14 rfl rfl ?_
    refine zz_goto zd_27_103_17 ?_
    refine zz_less (ls1 := [some (.ref 1046), some (zi p1), some (zi (x2 + 1)), some (zi 600)]) ⟨rfl, ⟨rfl, ⟨rfl, ⟨rfl, trivial⟩⟩⟩⟩ ?_
    exact k5 (x2 + 1) S2 G_S2 F_S2 (by omega) (by omega)
theorem zi_fill_27_103_1046 {g : mm_G} {l : Launch} (p1 : Int) (S0 : zz_S) (n : Nat) (hn : zz_end ≤ n) (G_S0 : zz_G S0) (hp1 : (-2147483648) ≤ p1 ∧ p1 ≤ 2147483647) : ∀ N : Nat, (∀ (x2 : Int) (S : zz_S), zz_G S → zz_fr [] [1046] (fun _ _ => False) S0 S → (0 ≤ x2 ∧ x2 ≤ 600) → (600 - x2).toNat < N → zz_E g l zy_fill_27_103 zr_fill_27_103_1046 (zz_QV n (zp_fill_27_103_1046 p1 S0)) S n 5 [some (.ref 1046), some (zi p1), some (zi x2), some (zi 600)] [] 0 0) := by
  intro N
  induction N with
  | zero => exact fun x2 S _ _ _ h => absurd h (Nat.not_lt_zero _)
  | succ N ih =>
    exact fun x2 S a b j0 hR => zb_fill_27_103_1046_5 p1 S0 n hn G_S0 hp1 x2 S a b j0 _ rfl (fun x2 S a b j0 h => ih x2 S a b j0 (Nat.lt_of_lt_of_le h (Nat.le_of_lt_succ hR)))
theorem zc_fill_27_103_1046 {g : mm_G} {l : Launch} (p1 : Int) (S0 : zz_S) (n : Nat) (hn : zz_end ≤ n) (G_S0 : zz_G S0) (hp1 : (-2147483648) ≤ p1 ∧ p1 ≤ 2147483647) : mm_Met g l zy_fill_27_103 zr_fill_27_103_1046 [.ref 1046, zi p1] (zz_M S0 n) n (zz_QV n (zp_fill_27_103_1046 p1 S0)) := by
  refine zz_enter (by decide) (Nat.le_of_ble_eq_true rfl) (zz_less (ls1 := [some (.ref 1046), some (zi p1)]) ⟨rfl, ⟨rfl, trivial⟩⟩ ?_)
  have F_S0 : zz_fr [] [1046] (fun _ _ => False) S0 S0 := zz_fr.refl
  have k5 : ∀ (x2 : Int) (S : zz_S), zz_G S → zz_fr [] [1046] (fun _ _ => False) S0 S → (0 ≤ x2 ∧ x2 ≤ 600) → zz_E g l zy_fill_27_103 zr_fill_27_103_1046 (zz_QV n (zp_fill_27_103_1046 p1 S0)) S n 5 [some (.ref 1046), some (zi p1), some (zi x2), some (zi 600)] [] 0 0 := fun x2 S a b j0 => (zi_fill_27_103_1046 (g := g) (l := l) p1 S0 n hn G_S0 hp1 _) x2 S a b j0 (Nat.lt_succ_self _)
  refine zz_iconst zd_27_103_0 ?_
  refine zz_istore_n [some (.ref 1046), some (zi p1), some (zi 0)] zd_27_103_1 (by decide) rfl ?_
  refine zz_aload_n (x := 1046) rfl zd_27_103_2 ?_
  refine zz_alen zd_27_103_3 zT_1046 rfl (zz_ltn hn rfl) ?_
  refine zz_istore_n [some (.ref 1046), some (zi p1), some (zi 0), some (zi 600)] zd_27_103_4 (by decide) rfl ?_
  refine zz_less (ls1 := [some (.ref 1046), some (zi p1), some (zi 0), some (zi 600)]) ⟨rfl, ⟨rfl, ⟨rfl, ⟨rfl, trivial⟩⟩⟩⟩ ?_
  exact k5 0 S0 G_S0 F_S0 (by omega)
theorem zg_10_3_60 : zq_at zy_prepare_10_3.2.1 60 42 ∧ zq_at zy_prepare_10_3.2.1 61 180 ∧ zq_at zy_prepare_10_3.2.1 62 0 ∧ zq_at zy_prepare_10_3.2.1 63 32 ∧ zq_at zy_prepare_10_3.2.1 64 2 ∧ zq_at zy_prepare_10_3.2.1 65 184 ∧ zq_at zy_prepare_10_3.2.1 66 0 ∧ zq_at zy_prepare_10_3.2.1 67 92 := by decide +kernel
theorem zd_10_3_60 : zz_D zy_prepare_10_3 60 (.aload_n 0) 1 61 := ⟨zq_42 zg_10_3_60.1, rfl⟩
theorem zd_10_3_61 : zz_D zy_prepare_10_3 61 (.getfield 32) 3 64 := ⟨zq_180 zg_10_3_60.2.1 zg_10_3_60.2.2.1 zg_10_3_60.2.2.2.1 rfl, rfl⟩
theorem zd_10_3_64 : zz_D zy_prepare_10_3 64 (.iconst (-1)) 1 65 := ⟨zq_2 zg_10_3_60.2.2.2.2.1, rfl⟩
theorem zd_10_3_65 : zz_D zy_prepare_10_3 65 (.invokestatic 92) 3 68 := ⟨zq_184 zg_10_3_60.2.2.2.2.2.1 zg_10_3_60.2.2.2.2.2.2.1 zg_10_3_60.2.2.2.2.2.2.2 rfl, rfl⟩
-- java/util/Arrays fill ([II)V
abbrev zr_fill_27_103_1048 : Room := { frames := 0, cells := 0, slots := 0, locals := 0 }
def zp_fill_27_103_1048 (p1 : Int) (S0 : zz_S) : zz_S → Prop := fun S => zz_G S ∧ zz_fr [] [1048] (fun _ _ => False) S0 S
theorem zb_fill_27_103_1048_5 {g : mm_G} {l : Launch} (p1 : Int) (S0 : zz_S) (n : Nat) (hn : zz_end ≤ n) (G_S0 : zz_G S0) (hp1 : (-1) ≤ p1 ∧ p1 ≤ 600) (x2 : Int) (S : zz_S) (G_S : zz_G S) (F_S : zz_fr [] [1048] (fun _ _ => False) S0 S) (i5_0 : 0 ≤ x2 ∧ x2 ≤ 3) (R : Nat) (hR : (3 - x2).toNat = R) (k5 : ∀ (x2 : Int) (S : zz_S), zz_G S → zz_fr [] [1048] (fun _ _ => False) S0 S → (0 ≤ x2 ∧ x2 ≤ 3) → (3 - x2).toNat < R → zz_E g l zy_fill_27_103 zr_fill_27_103_1048 (zz_QV n (zp_fill_27_103_1048 p1 S0)) S n 5 [some (.ref 1048), some (zi p1), some (zi x2), some (zi 3)] [] 0 0) : zz_E g l zy_fill_27_103 zr_fill_27_103_1048 (zz_QV n (zp_fill_27_103_1048 p1 S0)) S n 5 [some (.ref 1048), some (zi p1), some (zi x2), some (zi 3)] [] 0 0 := by
  refine zz_iload_n (x := x2) rfl zd_27_103_5 ?_
  refine zz_iload_n (x := 3) rfl zd_27_103_6 ?_
  refine zz_icmp_ge (by omega) (by omega) zd_27_103_7 (fun c1 => ?_) (fun c1 => ?_)
  · exact zz_vret zd_27_103_20 rfl (Nat.zero_le _) (Nat.zero_le _) ⟨_, rfl, G_S, F_S⟩
  · refine zz_aload_n (x := 1048) rfl zd_27_103_10 ?_
    refine zz_iload_n (x := x2) rfl zd_27_103_11 ?_
    refine zz_iload_n (x := p1) rfl zd_27_103_12 ?_
    refine zz_iast zd_27_103_13 zT_1048 rfl (zz_ltn hn rfl) (by decide) (by omega) (fun S2 qS2 => ?_)
    have G_S2 := zz_G.put G_S qS2 (-1) 600 rfl (by omega)
    have F_S2 := zz_fr.putc F_S qS2 rfl
    refine zz_iinc [some (.ref 1048), some (zi p1), some (zi (x2 + 1)), some (zi 3)] zd_27_103_14 rfl rfl ?_
    refine zz_goto zd_27_103_17 ?_
    refine zz_less (ls1 := [some (.ref 1048), some (zi p1), some (zi (x2 + 1)), some (zi 3)]) ⟨rfl, ⟨rfl, ⟨rfl, ⟨rfl, trivial⟩⟩⟩⟩ ?_
    exact k5 (x2 + 1) S2 G_S2 F_S2 (by omega) (by omega)
theorem zi_fill_27_103_1048 {g : mm_G} {l : Launch} (p1 : Int) (S0 : zz_S) (n : Nat) (hn : zz_end ≤ n) (G_S0 : zz_G S0) (hp1 : (-1) ≤ p1 ∧ p1 ≤ 600) : ∀ N : Nat, (∀ (x2 : Int) (S : zz_S), zz_G S → zz_fr [] [1048] (fun _ _ => False) S0 S → (0 ≤ x2 ∧ x2 ≤ 3) → (3 - x2).toNat < N → zz_E g l zy_fill_27_103 zr_fill_27_103_1048 (zz_QV n (zp_fill_27_103_1048 p1 S0)) S n 5 [some (.ref 1048), some (zi p1), some (zi x2), some (zi 3)] [] 0 0) := by
  intro N
  induction N with
  | zero => exact fun x2 S _ _ _ h => absurd h (Nat.not_lt_zero _)
  | succ N ih =>
    exact fun x2 S a b j0 hR => zb_fill_27_103_1048_5 p1 S0 n hn G_S0 hp1 x2 S a b j0 _ rfl (fun x2 S a b j0 h => ih x2 S a b j0 (Nat.lt_of_lt_of_le h (Nat.le_of_lt_succ hR)))
theorem zc_fill_27_103_1048 {g : mm_G} {l : Launch} (p1 : Int) (S0 : zz_S) (n : Nat) (hn : zz_end ≤ n) (G_S0 : zz_G S0) (hp1 : (-1) ≤ p1 ∧ p1 ≤ 600) : mm_Met g l zy_fill_27_103 zr_fill_27_103_1048 [.ref 1048, zi p1] (zz_M S0 n) n (zz_QV n (zp_fill_27_103_1048 p1 S0)) := by
  refine zz_enter (by decide) (Nat.le_of_ble_eq_true rfl) (zz_less (ls1 := [some (.ref 1048), some (zi p1)]) ⟨rfl, ⟨rfl, trivial⟩⟩ ?_)
  have F_S0 : zz_fr [] [1048] (fun _ _ => False) S0 S0 := zz_fr.refl
  have k5 : ∀ (x2 : Int) (S : zz_S), zz_G S → zz_fr [] [1048] (fun _ _ => False) S0 S → (0 ≤ x2 ∧ x2 ≤ 3) → zz_E g l zy_fill_27_103 zr_fill_27_103_1048 (zz_QV n (zp_fill_27_103_1048 p1 S0)) S n 5 [some (.ref 1048), some (zi p1), some (zi x2), some (zi 3)] [] 0 0 := fun x2 S a b j0 => (zi_fill_27_103_1048 (g := g) (l := l) p1 S0 n hn G_S0 hp1 _) x2 S a b j0 (Nat.lt_succ_self _)
  refine zz_iconst zd_27_103_0 ?_
  refine zz_istore_n [some (.ref 1048), some (zi p1), some (zi 0)] zd_27_103_1 (by decide) rfl ?_
  refine zz_aload_n (x := 1048) rfl zd_27_103_2 ?_
  refine zz_alen zd_27_103_3 zT_1048 rfl (zz_ltn hn rfl) ?_
  refine zz_istore_n [some (.ref 1048), some (zi p1), some (zi 0), some (zi 3)] zd_27_103_4 (by decide) rfl ?_
  refine zz_less (ls1 := [some (.ref 1048), some (zi p1), some (zi 0), some (zi 3)]) ⟨rfl, ⟨rfl, ⟨rfl, ⟨rfl, trivial⟩⟩⟩⟩ ?_
  exact k5 0 S0 G_S0 F_S0 (by omega)
abbrev zy_nextOf_10_6 : mm_Y := (⟨"TensorForge$Run", "nextOf", "(II)I"⟩, prog_10_method_6_code, 4, (some .int))
theorem zyw_nextOf_10_6 : mm_Yw zy_nextOf_10_6 2 := ⟨mm_tb_1 718 (by decide +kernel) rfl, mm_tb_1 6 (by decide +kernel) rfl, ⟨by decide, by decide⟩, by decide +kernel⟩
theorem zk_Run_107 : mm_Sl "TensorForge$Run" 107 1 zy_unitOf_12_10 := ⟨zyw_unitOf_12_10, mm_tb_1 719 (by decide +kernel) rfl, mm_tb_1 520 (by decide +kernel) rfl⟩
theorem zg_10_3_68 : zq_at zy_prepare_10_3.2.1 68 3 ∧ zq_at zy_prepare_10_3.2.1 69 62 ∧ zq_at zy_prepare_10_3.2.1 70 29 ∧ zq_at zy_prepare_10_3.2.1 71 6 ∧ zq_at zy_prepare_10_3.2.1 72 162 ∧ zq_at zy_prepare_10_3.2.1 73 0 ∧ zq_at zy_prepare_10_3.2.1 74 21 ∧ zq_at zy_prepare_10_3.2.1 75 42 ∧ zq_at zy_prepare_10_3.2.1 76 180 ∧ zq_at zy_prepare_10_3.2.1 77 0 ∧ zq_at zy_prepare_10_3.2.1 78 29 ∧ zq_at zy_prepare_10_3.2.1 79 29 ∧ zq_at zy_prepare_10_3.2.1 80 42 ∧ zq_at zy_prepare_10_3.2.1 81 29 ∧ zq_at zy_prepare_10_3.2.1 82 3 ∧ zq_at zy_prepare_10_3.2.1 83 182 ∧ zq_at zy_prepare_10_3.2.1 84 0 ∧ zq_at zy_prepare_10_3.2.1 85 98 := by decide +kernel
theorem zd_10_3_68 : zz_D zy_prepare_10_3 68 (.iconst 0) 1 69 := ⟨zq_3 zg_10_3_68.1, rfl⟩
theorem zd_10_3_69 : zz_D zy_prepare_10_3 69 (.istore_n 3) 1 70 := ⟨zq_62 zg_10_3_68.2.1, rfl⟩
theorem zd_10_3_70 : zz_D zy_prepare_10_3 70 (.iload_n 3) 1 71 := ⟨zq_29 zg_10_3_68.2.2.1, rfl⟩
theorem zd_10_3_71 : zz_D zy_prepare_10_3 71 (.iconst 3) 1 72 := ⟨zq_6 zg_10_3_68.2.2.2.1, rfl⟩
theorem zd_10_3_72 : zz_B zy_prepare_10_3 72 (Instr.if_icmp .ge) 93 75 := ⟨21, zq_162 zg_10_3_68.2.2.2.2.1 zg_10_3_68.2.2.2.2.2.1 zg_10_3_68.2.2.2.2.2.2.1 (by decide), rfl, rfl⟩
theorem zd_10_3_75 : zz_D zy_prepare_10_3 75 (.aload_n 0) 1 76 := ⟨zq_42 zg_10_3_68.2.2.2.2.2.2.2.1, rfl⟩
theorem zd_10_3_76 : zz_D zy_prepare_10_3 76 (.getfield 29) 3 79 := ⟨zq_180 zg_10_3_68.2.2.2.2.2.2.2.2.1 zg_10_3_68.2.2.2.2.2.2.2.2.2.1 zg_10_3_68.2.2.2.2.2.2.2.2.2.2.1 rfl, rfl⟩
theorem zd_10_3_79 : zz_D zy_prepare_10_3 79 (.iload_n 3) 1 80 := ⟨zq_29 zg_10_3_68.2.2.2.2.2.2.2.2.2.2.2.1, rfl⟩
theorem zd_10_3_80 : zz_D zy_prepare_10_3 80 (.aload_n 0) 1 81 := ⟨zq_42 zg_10_3_68.2.2.2.2.2.2.2.2.2.2.2.2.1, rfl⟩
theorem zd_10_3_81 : zz_D zy_prepare_10_3 81 (.iload_n 3) 1 82 := ⟨zq_29 zg_10_3_68.2.2.2.2.2.2.2.2.2.2.2.2.2.1, rfl⟩
theorem zd_10_3_82 : zz_D zy_prepare_10_3 82 (.iconst 0) 1 83 := ⟨zq_3 zg_10_3_68.2.2.2.2.2.2.2.2.2.2.2.2.2.2.1, rfl⟩
theorem zd_10_3_83 : zz_D zy_prepare_10_3 83 (.invokevirtual 98) 3 86 := ⟨zq_182 zg_10_3_68.2.2.2.2.2.2.2.2.2.2.2.2.2.2.2.1 zg_10_3_68.2.2.2.2.2.2.2.2.2.2.2.2.2.2.2.2.1 zg_10_3_68.2.2.2.2.2.2.2.2.2.2.2.2.2.2.2.2.2 rfl, rfl⟩
theorem zg_10_6_0 : zq_at zy_nextOf_10_6.2.1 0 28 ∧ zq_at zy_nextOf_10_6.2.1 1 62 ∧ zq_at zy_nextOf_10_6.2.1 2 29 ∧ zq_at zy_nextOf_10_6.2.1 3 42 ∧ zq_at zy_nextOf_10_6.2.1 4 180 ∧ zq_at zy_nextOf_10_6.2.1 5 0 ∧ zq_at zy_nextOf_10_6.2.1 6 46 ∧ zq_at zy_nextOf_10_6.2.1 7 162 ∧ zq_at zy_nextOf_10_6.2.1 8 0 ∧ zq_at zy_nextOf_10_6.2.1 9 24 ∧ zq_at zy_nextOf_10_6.2.1 31 2 ∧ zq_at zy_nextOf_10_6.2.1 32 172 ∧ zq_at zy_nextOf_10_6.2.1 10 42 ∧ zq_at zy_nextOf_10_6.2.1 11 180 ∧ zq_at zy_nextOf_10_6.2.1 12 0 ∧ zq_at zy_nextOf_10_6.2.1 13 19 ∧ zq_at zy_nextOf_10_6.2.1 14 29 ∧ zq_at zy_nextOf_10_6.2.1 15 47 ∧ zq_at zy_nextOf_10_6.2.1 16 184 ∧ zq_at zy_nextOf_10_6.2.1 17 0 ∧ zq_at zy_nextOf_10_6.2.1 18 107 ∧ zq_at zy_nextOf_10_6.2.1 19 27 := by decide +kernel
theorem zd_10_6_0 : zz_D zy_nextOf_10_6 0 (.iload_n 2) 1 1 := ⟨zq_28 zg_10_6_0.1, rfl⟩
theorem zd_10_6_1 : zz_D zy_nextOf_10_6 1 (.istore_n 3) 1 2 := ⟨zq_62 zg_10_6_0.2.1, rfl⟩
theorem zd_10_6_2 : zz_D zy_nextOf_10_6 2 (.iload_n 3) 1 3 := ⟨zq_29 zg_10_6_0.2.2.1, rfl⟩
theorem zd_10_6_3 : zz_D zy_nextOf_10_6 3 (.aload_n 0) 1 4 := ⟨zq_42 zg_10_6_0.2.2.2.1, rfl⟩
theorem zd_10_6_4 : zz_D zy_nextOf_10_6 4 (.getfield 46) 3 7 := ⟨zq_180 zg_10_6_0.2.2.2.2.1 zg_10_6_0.2.2.2.2.2.1 zg_10_6_0.2.2.2.2.2.2.1 rfl, rfl⟩
theorem zd_10_6_7 : zz_B zy_nextOf_10_6 7 (Instr.if_icmp .ge) 31 10 := ⟨24, zq_162 zg_10_6_0.2.2.2.2.2.2.2.1 zg_10_6_0.2.2.2.2.2.2.2.2.1 zg_10_6_0.2.2.2.2.2.2.2.2.2.1 (by decide), rfl, rfl⟩
theorem zd_10_6_31 : zz_D zy_nextOf_10_6 31 (.iconst (-1)) 1 32 := ⟨zq_2 zg_10_6_0.2.2.2.2.2.2.2.2.2.2.1, rfl⟩
theorem zd_10_6_32 : zz_D zy_nextOf_10_6 32 (.ireturn) 1 33 := ⟨zq_172 zg_10_6_0.2.2.2.2.2.2.2.2.2.2.2.1, rfl⟩
theorem zd_10_6_10 : zz_D zy_nextOf_10_6 10 (.aload_n 0) 1 11 := ⟨zq_42 zg_10_6_0.2.2.2.2.2.2.2.2.2.2.2.2.1, rfl⟩
theorem zd_10_6_11 : zz_D zy_nextOf_10_6 11 (.getfield 19) 3 14 := ⟨zq_180 zg_10_6_0.2.2.2.2.2.2.2.2.2.2.2.2.2.1 zg_10_6_0.2.2.2.2.2.2.2.2.2.2.2.2.2.2.1 zg_10_6_0.2.2.2.2.2.2.2.2.2.2.2.2.2.2.2.1 rfl, rfl⟩
theorem zd_10_6_14 : zz_D zy_nextOf_10_6 14 (.iload_n 3) 1 15 := ⟨zq_29 zg_10_6_0.2.2.2.2.2.2.2.2.2.2.2.2.2.2.2.2.1, rfl⟩
theorem zd_10_6_15 : zz_D zy_nextOf_10_6 15 (.laload) 1 16 := ⟨zq_47 zg_10_6_0.2.2.2.2.2.2.2.2.2.2.2.2.2.2.2.2.2.1, rfl⟩
theorem zd_10_6_16 : zz_D zy_nextOf_10_6 16 (.invokestatic 107) 3 19 := ⟨zq_184 zg_10_6_0.2.2.2.2.2.2.2.2.2.2.2.2.2.2.2.2.2.2.1 zg_10_6_0.2.2.2.2.2.2.2.2.2.2.2.2.2.2.2.2.2.2.2.1 zg_10_6_0.2.2.2.2.2.2.2.2.2.2.2.2.2.2.2.2.2.2.2.2.1 rfl, rfl⟩
theorem zd_10_6_19 : zz_D zy_nextOf_10_6 19 (.iload_n 1) 1 20 := ⟨zq_27 zg_10_6_0.2.2.2.2.2.2.2.2.2.2.2.2.2.2.2.2.2.2.2.2.2, rfl⟩
theorem zg_10_6_20 : zq_at zy_nextOf_10_6.2.1 20 160 ∧ zq_at zy_nextOf_10_6.2.1 21 0 ∧ zq_at zy_nextOf_10_6.2.1 22 5 ∧ zq_at zy_nextOf_10_6.2.1 25 132 ∧ zq_at zy_nextOf_10_6.2.1 26 3 ∧ zq_at zy_nextOf_10_6.2.1 27 1 ∧ zq_at zy_nextOf_10_6.2.1 28 167 ∧ zq_at zy_nextOf_10_6.2.1 29 255 ∧ zq_at zy_nextOf_10_6.2.1 30 230 ∧ zq_at zy_nextOf_10_6.2.1 23 29 ∧ zq_at zy_nextOf_10_6.2.1 24 172 := by decide +kernel
theorem zd_10_6_20 : zz_B zy_nextOf_10_6 20 (Instr.if_icmp .ne) 25 23 := ⟨5, zq_160 zg_10_6_20.1 zg_10_6_20.2.1 zg_10_6_20.2.2.1 (by decide), rfl, rfl⟩
theorem zd_10_6_25 : zz_D zy_nextOf_10_6 25 (.iinc 3 1) 3 28 := ⟨zq_132 zg_10_6_20.2.2.2.1 zg_10_6_20.2.2.2.2.1 zg_10_6_20.2.2.2.2.2.1 (by decide), rfl⟩
theorem zd_10_6_28 : zz_B zy_nextOf_10_6 28 Instr.goto 2 31 := ⟨(-26), zq_167 zg_10_6_20.2.2.2.2.2.2.1 zg_10_6_20.2.2.2.2.2.2.2.1 zg_10_6_20.2.2.2.2.2.2.2.2.1 (by decide), rfl, rfl⟩
theorem zd_10_6_23 : zz_D zy_nextOf_10_6 23 (.iload_n 3) 1 24 := ⟨zq_29 zg_10_6_20.2.2.2.2.2.2.2.2.2.1, rfl⟩
theorem zd_10_6_24 : zz_D zy_nextOf_10_6 24 (.ireturn) 1 25 := ⟨zq_172 zg_10_6_20.2.2.2.2.2.2.2.2.2.2, rfl⟩
-- TensorForge$Run nextOf (II)I
abbrev zr_nextOf_10_6 : Room := { frames := 2, cells := 0, slots := 0, locals := 28 }
def zp_nextOf_10_6 (p0 : Int) (p1 : Int) (S0 : zz_S) : Int → zz_S → Prop := fun r S => S0 = S ∧ ((-1) ≤ r ∧ r ≤ 599)
theorem zb_nextOf_10_6_2 {g : mm_G} {l : Launch} (p0 : Int) (p1 : Int) (S0 : zz_S) (n : Nat) (hn : zz_end ≤ n) (G_S0 : zz_G S0) (hp0 : (-2147483648) ≤ p0 ∧ p0 ≤ 2147483647) (hp1 : 0 ≤ p1 ∧ p1 ≤ 600) (x3 : Int) (S : zz_S) (G_S : zz_G S) (F_S : zz_fr [] [] (fun _ _ => False) S0 S) (i2_0 : 0 ≤ x3 ∧ x3 ≤ 600) (R : Nat) (hR : (S0 1042 9 - x3).toNat = R) (k2 : ∀ (x3 : Int) (S : zz_S), zz_G S → zz_fr [] [] (fun _ _ => False) S0 S → (0 ≤ x3 ∧ x3 ≤ 600) → (S0 1042 9 - x3).toNat < R → zz_E g l zy_nextOf_10_6 zr_nextOf_10_6 (zz_QI n (zp_nextOf_10_6 p0 p1 S0)) S n 2 [some (.ref 1042), some (zi p0), none, some (zi x3)] [] 0 0) : zz_E g l zy_nextOf_10_6 zr_nextOf_10_6 (zz_QI n (zp_nextOf_10_6 p0 p1 S0)) S n 2 [some (.ref 1042), some (zi p0), none, some (zi x3)] [] 0 0 := by
  refine zz_iload_n (x := x3) rfl zd_10_6_2 ?_
  refine zz_aload_n (x := 1042) rfl zd_10_6_3 ?_
  have g2 := zz_G.r G_S0 1042 9 0 600 rfl rfl
  refine zz_geti (z := S0 1042 9) zd_10_6_4 zf_Run_46 zT_1042 rfl (zz_ltn hn rfl) (zz_rc F_S rfl rfl (fun h => h) rfl) ?_
  refine zz_icmp_ge (by omega) (by omega) zd_10_6_7 (fun c3 => ?_) (fun c3 => ?_)
  · refine zz_iconst zd_10_6_31 ?_
    exact zz_iret zd_10_6_32 rfl (Nat.zero_le _) (Nat.zero_le _) ⟨_, _, rfl, zz_fr.eq F_S, by omega⟩
  · refine zz_aload_n (x := 1042) rfl zd_10_6_10 ?_
    refine zz_getr (kd := 0) (z := 1044) zd_10_6_11 zf_Run_19 zT_1042 rfl (zz_ltn hn rfl) (zz_G.eq G_S 1042 2 1044 rfl rfl) (by decide) 1044 rfl ?_
    refine zz_iload_n (x := x3) rfl zd_10_6_14 ?_
    have g4 := zz_G.r G_S0 1044 x3.toNat (-9223372036854775808) 9223372036854775807 rfl rfl
    refine zz_lald (z := S0 1044 x3.toNat) zd_10_6_15 zT_1044 rfl (zz_ltn hn rfl) (by decide) (by omega) (zz_rc F_S (zz_nc1 rfl) rfl (fun h => h) rfl) ?_
    refine zz_callSI [zl (S0 1044 x3.toNat)] zd_10_6_16 zk_Run_107 rfl rfl ⟨Nat.le_of_ble_eq_true rfl, Nat.le_of_ble_eq_true rfl⟩ ⟨rfl, rfl⟩ (Nat.zero_le _) (Nat.zero_le _) (zc_unitOf_12_10 (S0 1044 x3.toNat) S n hn G_S (by omega)) (fun v6 S5 hP => ?_)
    obtain ⟨rfl, o7, o8⟩ := hP
    refine zz_iload_n (x := p0) rfl zd_10_6_19 ?_
    refine zz_icmp_ne (by omega) (by omega) zd_10_6_20 (fun c9 => ?_) (fun c9 => ?_)
    · refine zz_iinc [some (.ref 1042), some (zi p0), none, some (zi (x3 + 1))] zd_10_6_25 rfl rfl ?_
      refine zz_goto zd_10_6_28 ?_
      refine zz_less (ls1 := [some (.ref 1042), some (zi p0), none, some (zi (x3 + 1))]) ⟨rfl, ⟨rfl, ⟨rfl, trivial⟩⟩⟩ ?_
      exact k2 (x3 + 1) S G_S F_S (by omega) (by omega)
    · refine zz_iload_n (x := x3) rfl zd_10_6_23 ?_
      exact zz_iret zd_10_6_24 rfl (Nat.zero_le _) (Nat.zero_le _) ⟨_, _, rfl, zz_fr.eq F_S, by omega⟩
theorem zi_nextOf_10_6 {g : mm_G} {l : Launch} (p0 : Int) (p1 : Int) (S0 : zz_S) (n : Nat) (hn : zz_end ≤ n) (G_S0 : zz_G S0) (hp0 : (-2147483648) ≤ p0 ∧ p0 ≤ 2147483647) (hp1 : 0 ≤ p1 ∧ p1 ≤ 600) : ∀ N : Nat, (∀ (x3 : Int) (S : zz_S), zz_G S → zz_fr [] [] (fun _ _ => False) S0 S → (0 ≤ x3 ∧ x3 ≤ 600) → (S0 1042 9 - x3).toNat < N → zz_E g l zy_nextOf_10_6 zr_nextOf_10_6 (zz_QI n (zp_nextOf_10_6 p0 p1 S0)) S n 2 [some (.ref 1042), some (zi p0), none, some (zi x3)] [] 0 0) := by
  intro N
  induction N with
  | zero => exact fun x3 S _ _ _ h => absurd h (Nat.not_lt_zero _)
  | succ N ih =>
    exact fun x3 S a b j0 hR => zb_nextOf_10_6_2 p0 p1 S0 n hn G_S0 hp0 hp1 x3 S a b j0 _ rfl (fun x3 S a b j0 h => ih x3 S a b j0 (Nat.lt_of_lt_of_le h (Nat.le_of_lt_succ hR)))
theorem zc_nextOf_10_6 {g : mm_G} {l : Launch} (p0 : Int) (p1 : Int) (S0 : zz_S) (n : Nat) (hn : zz_end ≤ n) (G_S0 : zz_G S0) (hp0 : (-2147483648) ≤ p0 ∧ p0 ≤ 2147483647) (hp1 : 0 ≤ p1 ∧ p1 ≤ 600) : mm_Met g l zy_nextOf_10_6 zr_nextOf_10_6 [.ref 1042, zi p0, zi p1] (zz_M S0 n) n (zz_QI n (zp_nextOf_10_6 p0 p1 S0)) := by
  refine zz_enter (by decide) (Nat.le_of_ble_eq_true rfl) (zz_less (ls1 := [some (.ref 1042), some (zi p0), some (zi p1)]) ⟨rfl, ⟨rfl, ⟨rfl, trivial⟩⟩⟩ ?_)
  have F_S0 : zz_fr [] [] (fun _ _ => False) S0 S0 := zz_fr.refl
  have k2 : ∀ (x3 : Int) (S : zz_S), zz_G S → zz_fr [] [] (fun _ _ => False) S0 S → (0 ≤ x3 ∧ x3 ≤ 600) → zz_E g l zy_nextOf_10_6 zr_nextOf_10_6 (zz_QI n (zp_nextOf_10_6 p0 p1 S0)) S n 2 [some (.ref 1042), some (zi p0), none, some (zi x3)] [] 0 0 := fun x3 S a b j0 => (zi_nextOf_10_6 (g := g) (l := l) p0 p1 S0 n hn G_S0 hp0 hp1 _) x3 S a b j0 (Nat.lt_succ_self _)
  refine zz_iload_n (x := p1) rfl zd_10_6_0 ?_
  refine zz_istore_n [some (.ref 1042), some (zi p0), some (zi p1), some (zi p1)] zd_10_6_1 (by decide) rfl ?_
  have g1 := zz_G.r G_S0 1042 9 0 600 rfl rfl
  refine zz_less (ls1 := [some (.ref 1042), some (zi p0), none, some (zi p1)]) ⟨rfl, ⟨rfl, ⟨rfl, trivial⟩⟩⟩ ?_
  exact k2 p1 S0 G_S0 F_S0 (by omega)
theorem zk_Run_98 : mm_Vl "TensorForge$Run" 98 5 2 zy_nextOf_10_6 := ⟨zyw_nextOf_10_6, (R_Run, F_Run, 10), rfl, mm_tb_1 715 (by decide +kernel) rfl, mm_tb_1 717 (by decide +kernel) rfl, mm_tb_s 15 (by decide +kernel) rfl⟩
theorem zg_10_3_86 : zq_at zy_prepare_10_3.2.1 86 79 ∧ zq_at zy_prepare_10_3.2.1 87 132 ∧ zq_at zy_prepare_10_3.2.1 88 3 ∧ zq_at zy_prepare_10_3.2.1 89 1 ∧ zq_at zy_prepare_10_3.2.1 90 167 ∧ zq_at zy_prepare_10_3.2.1 91 255 ∧ zq_at zy_prepare_10_3.2.1 92 236 ∧ zq_at zy_prepare_10_3.2.1 93 177 := by decide +kernel
theorem zd_10_3_86 : zz_D zy_prepare_10_3 86 (.iastore) 1 87 := ⟨zq_79 zg_10_3_86.1, rfl⟩
theorem zd_10_3_87 : zz_D zy_prepare_10_3 87 (.iinc 3 1) 3 90 := ⟨zq_132 zg_10_3_86.2.1 zg_10_3_86.2.2.1 zg_10_3_86.2.2.2.1 (by decide), rfl⟩
theorem zd_10_3_90 : zz_B zy_prepare_10_3 90 Instr.goto 70 93 := ⟨(-20), zq_167 zg_10_3_86.2.2.2.2.1 zg_10_3_86.2.2.2.2.2.1 zg_10_3_86.2.2.2.2.2.2.1 (by decide), rfl, rfl⟩
theorem zd_10_3_93 : zz_D zy_prepare_10_3 93 (.return_) 1 94 := ⟨zq_177 zg_10_3_86.2.2.2.2.2.2.2, rfl⟩

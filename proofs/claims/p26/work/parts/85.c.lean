-- TensorForge$Line addIf (ZLjava/lang/String;)V
abbrev zr_addIf_5_7 : Room := { frames := 5, cells := 0, slots := 0, locals := 68 }
def zp_addIf_5_7 (p0 : Int) (p1 : Nat) (S0 : zz_S) : zz_S → Prop := fun S => zz_G S ∧ zz_fr [(1077, 1)] [1078] (fun _ _ => False) S0 S ∧ (∀ (u : List Int) (m : Nat), zs_L (S0 1077 1) (S0 1078) u m → m ≤ 80 → zs_L (S 1077 1) (S 1078) (if p0 = 0 then u else zs_tk u (zt_tw p1)) (m + 1 + (zt_tw p1).length))
theorem zc_addIf_5_7 {g : mm_G} {l : Launch} (p0 : Int) (p1 : Nat) (S0 : zz_S) (n : Nat) (hn : zz_end ≤ n) (G_S0 : zz_G S0) (hp0 : 0 ≤ p0 ∧ p0 ≤ 1) (hp1 : p1 < 59) : mm_Met g l zy_addIf_5_7 zr_addIf_5_7 [.ref 1077, zi p0, .ref (100 + p1)] (zz_M S0 n) n (zz_QV n (zp_addIf_5_7 p0 p1 S0)) := by
  refine zz_enter (by decide) (Nat.le_of_ble_eq_true rfl) (zz_less (ls1 := [some (.ref 1077), some (zi p0), some (.ref (100 + p1))]) ⟨rfl, ⟨rfl, ⟨rfl, trivial⟩⟩⟩ ?_)
  have F_S0 : zz_fr [(1077, 1)] [1078] (fun _ _ => False) S0 S0 := zz_fr.refl
  refine zz_iload_n (x := p0) rfl zd_5_7_0 ?_
  refine zz_if_eq (by omega) zd_5_7_1 (fun c1 => ?_) (fun c1 => ?_)
  · have g2 := zz_G.r G_S0 1077 1 0 128 rfl rfl
    exact zz_vret zd_5_7_9 rfl (Nat.zero_le _) (Nat.zero_le _) ⟨_, rfl, G_S0, F_S0, (fun u m h hm => by rw [if_pos (by omega)]; exact zs_Lm h (by omega))⟩
  · refine zz_aload_n (x := 1077) rfl zd_5_7_4 ?_
    refine zz_aload_n (x := 100 + p1) rfl zd_5_7_5 ?_
    have g3 := zz_G.r G_S0 1077 1 0 128 rfl rfl
    refine zz_callVV [.ref (100 + p1)] zd_5_7_6 zk_Line_29 zT_1077 (zz_ltn hn rfl) rfl rfl ⟨Nat.le_of_ble_eq_true rfl, Nat.le_of_ble_eq_true rfl⟩ ⟨rfl, rfl⟩ (Nat.zero_le _) (Nat.zero_le _) (zc_addToken_5_10 p1 S0 n hn G_S0 (by omega)) (fun S4 hP => ?_)
    obtain ⟨G_S4, fS4, o6⟩ := hP
    have F_S4 := zz_fr.trans F_S0 fS4 rfl zz_nv
    have g7 := zz_G.r G_S4 1077 1 0 128 rfl rfl
    exact zz_vret zd_5_7_9 rfl (Nat.zero_le _) (Nat.zero_le _) ⟨_, rfl, G_S4, F_S4, (fun u m h hm => by rw [if_neg (by omega)]; exact o6 u m h hm)⟩
theorem zk_Line_59 : mm_Vl "TensorForge$Line" 59 10 2 zy_addIf_5_7 := ⟨zyw_addIf_5_7, (R_Line, F_Line, 2), rfl, mm_tb_1 1293 (by decide +kernel) rfl, mm_tb_1 1295 (by decide +kernel) rfl, mm_tb_s 60 (by decide +kernel) rfl⟩
abbrev zy_addPair_5_8 : mm_Y := (⟨"TensorForge$Line", "addPair", "(Ljava/lang/String;II)V"⟩, prog_5_method_8_code, 4, none)
theorem zyw_addPair_5_8 : mm_Yw zy_addPair_5_8 3 := ⟨mm_tb_1 1286 (by decide +kernel) rfl, mm_tb_1 11 (by decide +kernel) rfl, ⟨by decide, by decide⟩, by decide +kernel⟩
theorem zg_5_3_108 : zq_at zy_writeInstruction_5_3.2.1 108 42 ∧ zq_at zy_writeInstruction_5_3.2.1 109 31 ∧ zq_at zy_writeInstruction_5_3.2.1 110 5 ∧ zq_at zy_writeInstruction_5_3.2.1 111 184 ∧ zq_at zy_writeInstruction_5_3.2.1 112 0 ∧ zq_at zy_writeInstruction_5_3.2.1 113 39 ∧ zq_at zy_writeInstruction_5_3.2.1 114 18 ∧ zq_at zy_writeInstruction_5_3.2.1 115 63 ∧ zq_at zy_writeInstruction_5_3.2.1 116 182 ∧ zq_at zy_writeInstruction_5_3.2.1 117 0 ∧ zq_at zy_writeInstruction_5_3.2.1 118 59 ∧ zq_at zy_writeInstruction_5_3.2.1 119 42 ∧ zq_at zy_writeInstruction_5_3.2.1 120 31 ∧ zq_at zy_writeInstruction_5_3.2.1 121 6 ∧ zq_at zy_writeInstruction_5_3.2.1 122 184 ∧ zq_at zy_writeInstruction_5_3.2.1 123 0 ∧ zq_at zy_writeInstruction_5_3.2.1 124 39 ∧ zq_at zy_writeInstruction_5_3.2.1 125 18 ∧ zq_at zy_writeInstruction_5_3.2.1 126 65 ∧ zq_at zy_writeInstruction_5_3.2.1 127 182 ∧ zq_at zy_writeInstruction_5_3.2.1 128 0 ∧ zq_at zy_writeInstruction_5_3.2.1 129 59 ∧ zq_at zy_writeInstruction_5_3.2.1 130 42 ∧ zq_at zy_writeInstruction_5_3.2.1 131 31 := by decide +kernel
theorem zd_5_3_108 : zz_D zy_writeInstruction_5_3 108 (.aload_n 0) 1 109 := ⟨zq_42 zg_5_3_108.1, rfl⟩
theorem zd_5_3_109 : zz_D zy_writeInstruction_5_3 109 (.lload_n 1) 1 110 := ⟨zq_31 zg_5_3_108.2.1, rfl⟩
theorem zd_5_3_110 : zz_D zy_writeInstruction_5_3 110 (.iconst 2) 1 111 := ⟨zq_5 zg_5_3_108.2.2.1, rfl⟩
theorem zd_5_3_111 : zz_D zy_writeInstruction_5_3 111 (.invokestatic 39) 3 114 := ⟨zq_184 zg_5_3_108.2.2.2.1 zg_5_3_108.2.2.2.2.1 zg_5_3_108.2.2.2.2.2.1 rfl, rfl⟩
theorem zd_5_3_114 : zz_D zy_writeInstruction_5_3 114 (.ldc 63) 2 116 := ⟨zq_18 zg_5_3_108.2.2.2.2.2.2.1 zg_5_3_108.2.2.2.2.2.2.2.1, rfl⟩
theorem zd_5_3_116 : zz_D zy_writeInstruction_5_3 116 (.invokevirtual 59) 3 119 := ⟨zq_182 zg_5_3_108.2.2.2.2.2.2.2.2.1 zg_5_3_108.2.2.2.2.2.2.2.2.2.1 zg_5_3_108.2.2.2.2.2.2.2.2.2.2.1 rfl, rfl⟩
theorem zd_5_3_119 : zz_D zy_writeInstruction_5_3 119 (.aload_n 0) 1 120 := ⟨zq_42 zg_5_3_108.2.2.2.2.2.2.2.2.2.2.2.1, rfl⟩
theorem zd_5_3_120 : zz_D zy_writeInstruction_5_3 120 (.lload_n 1) 1 121 := ⟨zq_31 zg_5_3_108.2.2.2.2.2.2.2.2.2.2.2.2.1, rfl⟩
theorem zd_5_3_121 : zz_D zy_writeInstruction_5_3 121 (.iconst 3) 1 122 := ⟨zq_6 zg_5_3_108.2.2.2.2.2.2.2.2.2.2.2.2.2.1, rfl⟩
theorem zd_5_3_122 : zz_D zy_writeInstruction_5_3 122 (.invokestatic 39) 3 125 := ⟨zq_184 zg_5_3_108.2.2.2.2.2.2.2.2.2.2.2.2.2.2.1 zg_5_3_108.2.2.2.2.2.2.2.2.2.2.2.2.2.2.2.1 zg_5_3_108.2.2.2.2.2.2.2.2.2.2.2.2.2.2.2.2.1 rfl, rfl⟩
theorem zd_5_3_125 : zz_D zy_writeInstruction_5_3 125 (.ldc 65) 2 127 := ⟨zq_18 zg_5_3_108.2.2.2.2.2.2.2.2.2.2.2.2.2.2.2.2.2.1 zg_5_3_108.2.2.2.2.2.2.2.2.2.2.2.2.2.2.2.2.2.2.1, rfl⟩
theorem zd_5_3_127 : zz_D zy_writeInstruction_5_3 127 (.invokevirtual 59) 3 130 := ⟨zq_182 zg_5_3_108.2.2.2.2.2.2.2.2.2.2.2.2.2.2.2.2.2.2.2.1 zg_5_3_108.2.2.2.2.2.2.2.2.2.2.2.2.2.2.2.2.2.2.2.2.1 zg_5_3_108.2.2.2.2.2.2.2.2.2.2.2.2.2.2.2.2.2.2.2.2.2.1 rfl, rfl⟩
theorem zd_5_3_130 : zz_D zy_writeInstruction_5_3 130 (.aload_n 0) 1 131 := ⟨zq_42 zg_5_3_108.2.2.2.2.2.2.2.2.2.2.2.2.2.2.2.2.2.2.2.2.2.2.1, rfl⟩
theorem zd_5_3_131 : zz_D zy_writeInstruction_5_3 131 (.lload_n 1) 1 132 := ⟨zq_31 zg_5_3_108.2.2.2.2.2.2.2.2.2.2.2.2.2.2.2.2.2.2.2.2.2.2.2, rfl⟩
theorem zg_5_3_132 : zq_at zy_writeInstruction_5_3.2.1 132 7 ∧ zq_at zy_writeInstruction_5_3.2.1 133 184 ∧ zq_at zy_writeInstruction_5_3.2.1 134 0 ∧ zq_at zy_writeInstruction_5_3.2.1 135 39 ∧ zq_at zy_writeInstruction_5_3.2.1 136 18 ∧ zq_at zy_writeInstruction_5_3.2.1 137 67 ∧ zq_at zy_writeInstruction_5_3.2.1 138 182 ∧ zq_at zy_writeInstruction_5_3.2.1 139 0 ∧ zq_at zy_writeInstruction_5_3.2.1 140 59 ∧ zq_at zy_writeInstruction_5_3.2.1 141 42 ∧ zq_at zy_writeInstruction_5_3.2.1 142 16 ∧ zq_at zy_writeInstruction_5_3.2.1 143 10 ∧ zq_at zy_writeInstruction_5_3.2.1 144 182 ∧ zq_at zy_writeInstruction_5_3.2.1 145 0 ∧ zq_at zy_writeInstruction_5_3.2.1 146 69 ∧ zq_at zy_writeInstruction_5_3.2.1 147 177 ∧ zq_at zy_writeInstruction_5_3.2.1 43 42 ∧ zq_at zy_writeInstruction_5_3.2.1 44 18 ∧ zq_at zy_writeInstruction_5_3.2.1 45 43 ∧ zq_at zy_writeInstruction_5_3.2.1 46 31 ∧ zq_at zy_writeInstruction_5_3.2.1 47 16 ∧ zq_at zy_writeInstruction_5_3.2.1 48 6 := by decide +kernel
theorem zd_5_3_132 : zz_D zy_writeInstruction_5_3 132 (.iconst 4) 1 133 := ⟨zq_7 zg_5_3_132.1, rfl⟩
theorem zd_5_3_133 : zz_D zy_writeInstruction_5_3 133 (.invokestatic 39) 3 136 := ⟨zq_184 zg_5_3_132.2.1 zg_5_3_132.2.2.1 zg_5_3_132.2.2.2.1 rfl, rfl⟩
theorem zd_5_3_136 : zz_D zy_writeInstruction_5_3 136 (.ldc 67) 2 138 := ⟨zq_18 zg_5_3_132.2.2.2.2.1 zg_5_3_132.2.2.2.2.2.1, rfl⟩
theorem zd_5_3_138 : zz_D zy_writeInstruction_5_3 138 (.invokevirtual 59) 3 141 := ⟨zq_182 zg_5_3_132.2.2.2.2.2.2.1 zg_5_3_132.2.2.2.2.2.2.2.1 zg_5_3_132.2.2.2.2.2.2.2.2.1 rfl, rfl⟩
theorem zd_5_3_141 : zz_D zy_writeInstruction_5_3 141 (.aload_n 0) 1 142 := ⟨zq_42 zg_5_3_132.2.2.2.2.2.2.2.2.2.1, rfl⟩
theorem zd_5_3_142 : zz_D zy_writeInstruction_5_3 142 (.bipush 10) 2 144 := ⟨zq_16 zg_5_3_132.2.2.2.2.2.2.2.2.2.2.1 zg_5_3_132.2.2.2.2.2.2.2.2.2.2.2.1 (by decide), rfl⟩
theorem zd_5_3_144 : zz_D zy_writeInstruction_5_3 144 (.invokevirtual 69) 3 147 := ⟨zq_182 zg_5_3_132.2.2.2.2.2.2.2.2.2.2.2.2.1 zg_5_3_132.2.2.2.2.2.2.2.2.2.2.2.2.2.1 zg_5_3_132.2.2.2.2.2.2.2.2.2.2.2.2.2.2.1 rfl, rfl⟩
theorem zd_5_3_147 : zz_D zy_writeInstruction_5_3 147 (.return_) 1 148 := ⟨zq_177 zg_5_3_132.2.2.2.2.2.2.2.2.2.2.2.2.2.2.2.1, rfl⟩
theorem zd_5_3_43 : zz_D zy_writeInstruction_5_3 43 (.aload_n 0) 1 44 := ⟨zq_42 zg_5_3_132.2.2.2.2.2.2.2.2.2.2.2.2.2.2.2.2.1, rfl⟩
theorem zd_5_3_44 : zz_D zy_writeInstruction_5_3 44 (.ldc 43) 2 46 := ⟨zq_18 zg_5_3_132.2.2.2.2.2.2.2.2.2.2.2.2.2.2.2.2.2.1 zg_5_3_132.2.2.2.2.2.2.2.2.2.2.2.2.2.2.2.2.2.2.1, rfl⟩
theorem zd_5_3_46 : zz_D zy_writeInstruction_5_3 46 (.lload_n 1) 1 47 := ⟨zq_31 zg_5_3_132.2.2.2.2.2.2.2.2.2.2.2.2.2.2.2.2.2.2.2.1, rfl⟩
theorem zd_5_3_47 : zz_D zy_writeInstruction_5_3 47 (.bipush 6) 2 49 := ⟨zq_16 zg_5_3_132.2.2.2.2.2.2.2.2.2.2.2.2.2.2.2.2.2.2.2.2.1 zg_5_3_132.2.2.2.2.2.2.2.2.2.2.2.2.2.2.2.2.2.2.2.2.2 (by decide), rfl⟩
theorem zg_5_3_49 : zq_at zy_writeInstruction_5_3.2.1 49 184 ∧ zq_at zy_writeInstruction_5_3.2.1 50 0 ∧ zq_at zy_writeInstruction_5_3.2.1 51 21 ∧ zq_at zy_writeInstruction_5_3.2.1 52 31 ∧ zq_at zy_writeInstruction_5_3.2.1 53 16 ∧ zq_at zy_writeInstruction_5_3.2.1 54 7 ∧ zq_at zy_writeInstruction_5_3.2.1 55 184 ∧ zq_at zy_writeInstruction_5_3.2.1 56 0 ∧ zq_at zy_writeInstruction_5_3.2.1 57 21 ∧ zq_at zy_writeInstruction_5_3.2.1 58 182 ∧ zq_at zy_writeInstruction_5_3.2.1 59 0 ∧ zq_at zy_writeInstruction_5_3.2.1 60 45 := by decide +kernel
theorem zd_5_3_49 : zz_D zy_writeInstruction_5_3 49 (.invokestatic 21) 3 52 := ⟨zq_184 zg_5_3_49.1 zg_5_3_49.2.1 zg_5_3_49.2.2.1 rfl, rfl⟩
theorem zd_5_3_52 : zz_D zy_writeInstruction_5_3 52 (.lload_n 1) 1 53 := ⟨zq_31 zg_5_3_49.2.2.2.1, rfl⟩
theorem zd_5_3_53 : zz_D zy_writeInstruction_5_3 53 (.bipush 7) 2 55 := ⟨zq_16 zg_5_3_49.2.2.2.2.1 zg_5_3_49.2.2.2.2.2.1 (by decide), rfl⟩
theorem zd_5_3_55 : zz_D zy_writeInstruction_5_3 55 (.invokestatic 21) 3 58 := ⟨zq_184 zg_5_3_49.2.2.2.2.2.2.1 zg_5_3_49.2.2.2.2.2.2.2.1 zg_5_3_49.2.2.2.2.2.2.2.2.1 rfl, rfl⟩
theorem zd_5_3_58 : zz_D zy_writeInstruction_5_3 58 (.invokevirtual 45) 3 61 := ⟨zq_182 zg_5_3_49.2.2.2.2.2.2.2.2.2.1 zg_5_3_49.2.2.2.2.2.2.2.2.2.2.1 zg_5_3_49.2.2.2.2.2.2.2.2.2.2.2 rfl, rfl⟩
theorem zg_5_8_0 : zq_at zy_addPair_5_8.2.1 0 42 ∧ zq_at zy_addPair_5_8.2.1 1 43 ∧ zq_at zy_addPair_5_8.2.1 2 28 ∧ zq_at zy_addPair_5_8.2.1 3 182 ∧ zq_at zy_addPair_5_8.2.1 4 0 ∧ zq_at zy_addPair_5_8.2.1 5 83 ∧ zq_at zy_addPair_5_8.2.1 6 42 ∧ zq_at zy_addPair_5_8.2.1 7 18 ∧ zq_at zy_addPair_5_8.2.1 8 120 ∧ zq_at zy_addPair_5_8.2.1 9 29 ∧ zq_at zy_addPair_5_8.2.1 10 182 ∧ zq_at zy_addPair_5_8.2.1 11 0 ∧ zq_at zy_addPair_5_8.2.1 12 83 ∧ zq_at zy_addPair_5_8.2.1 13 177 := by decide +kernel
theorem zd_5_8_0 : zz_D zy_addPair_5_8 0 (.aload_n 0) 1 1 := ⟨zq_42 zg_5_8_0.1, rfl⟩
theorem zd_5_8_1 : zz_D zy_addPair_5_8 1 (.aload_n 1) 1 2 := ⟨zq_43 zg_5_8_0.2.1, rfl⟩
theorem zd_5_8_2 : zz_D zy_addPair_5_8 2 (.iload_n 2) 1 3 := ⟨zq_28 zg_5_8_0.2.2.1, rfl⟩
theorem zd_5_8_3 : zz_D zy_addPair_5_8 3 (.invokevirtual 83) 3 6 := ⟨zq_182 zg_5_8_0.2.2.2.1 zg_5_8_0.2.2.2.2.1 zg_5_8_0.2.2.2.2.2.1 rfl, rfl⟩
theorem zd_5_8_6 : zz_D zy_addPair_5_8 6 (.aload_n 0) 1 7 := ⟨zq_42 zg_5_8_0.2.2.2.2.2.2.1, rfl⟩
theorem zd_5_8_7 : zz_D zy_addPair_5_8 7 (.ldc 120) 2 9 := ⟨zq_18 zg_5_8_0.2.2.2.2.2.2.2.1 zg_5_8_0.2.2.2.2.2.2.2.2.1, rfl⟩
theorem zd_5_8_9 : zz_D zy_addPair_5_8 9 (.iload_n 3) 1 10 := ⟨zq_29 zg_5_8_0.2.2.2.2.2.2.2.2.2.1, rfl⟩
theorem zd_5_8_10 : zz_D zy_addPair_5_8 10 (.invokevirtual 83) 3 13 := ⟨zq_182 zg_5_8_0.2.2.2.2.2.2.2.2.2.2.1 zg_5_8_0.2.2.2.2.2.2.2.2.2.2.2.1 zg_5_8_0.2.2.2.2.2.2.2.2.2.2.2.2.1 rfl, rfl⟩
theorem zd_5_8_13 : zz_D zy_addPair_5_8 13 (.return_) 1 14 := ⟨zq_177 zg_5_8_0.2.2.2.2.2.2.2.2.2.2.2.2.2, rfl⟩
-- TensorForge$Line addPair (Ljava/lang/String;II)V
abbrev zr_addPair_5_8 : Room := { frames := 6, cells := 0, slots := 0, locals := 82 }
def zp_addPair_5_8 (p0 : Nat) (p1 : Int) (p2 : Int) (S0 : zz_S) : zz_S → Prop := fun S => zz_G S ∧ zz_fr [(1077, 1)] [1078] (fun _ _ => False) S0 S ∧ (∀ (u : List Int) (m : Nat), zs_L (S0 1077 1) (S0 1078) u m → m ≤ 20 → 0 ≤ p1 → 0 ≤ p2 → zs_L (S 1077 1) (S 1078) (zs_nd (zs_nd u (zt_tw p0) p1) zs_wx p2) (m + (zt_tw p0).length + 13))
theorem zc_addPair_5_8 {g : mm_G} {l : Launch} (p0 : Nat) (p1 : Int) (p2 : Int) (S0 : zz_S) (n : Nat) (hn : zz_end ≤ n) (G_S0 : zz_G S0) (hp0 : p0 < 59) (hp1 : (-2147483648) ≤ p1 ∧ p1 ≤ 2147483647) (hp2 : (-2147483648) ≤ p2 ∧ p2 ≤ 2147483647) : mm_Met g l zy_addPair_5_8 zr_addPair_5_8 [.ref 1077, .ref (100 + p0), zi p1, zi p2] (zz_M S0 n) n (zz_QV n (zp_addPair_5_8 p0 p1 p2 S0)) := by
  refine zz_enter (by decide) (Nat.le_of_ble_eq_true rfl) (zz_less (ls1 := [some (.ref 1077), some (.ref (100 + p0)), some (zi p1), some (zi p2)]) ⟨rfl, ⟨rfl, ⟨rfl, ⟨rfl, trivial⟩⟩⟩⟩ ?_)
  have F_S0 : zz_fr [(1077, 1)] [1078] (fun _ _ => False) S0 S0 := zz_fr.refl
  refine zz_aload_n (x := 1077) rfl zd_5_8_0 ?_
  refine zz_aload_n (x := 100 + p0) rfl zd_5_8_1 ?_
  refine zz_iload_n (x := p1) rfl zd_5_8_2 ?_
  have g1 := zz_G.r G_S0 1077 1 0 128 rfl rfl
  refine zz_callVV [.ref (100 + p0), zi p1] zd_5_8_3 zk_Line_83 zT_1077 (zz_ltn hn rfl) rfl rfl ⟨Nat.le_of_ble_eq_true rfl, Nat.le_of_ble_eq_true rfl⟩ ⟨rfl, rfl⟩ (Nat.zero_le _) (Nat.zero_le _) (zc_addNumbered_5_9 p0 p1 S0 n hn G_S0 (by omega) (by omega)) (fun S2 hP => ?_)
  obtain ⟨G_S2, fS2, o4⟩ := hP
  have F_S2 := zz_fr.trans F_S0 fS2 rfl zz_nv
  refine zz_aload_n (x := 1077) rfl zd_5_8_6 ?_
  refine zz_ldcs (t := 12) (by decide +kernel) (by decide) zd_5_8_7 ?_
  refine zz_iload_n (x := p2) rfl zd_5_8_9 ?_
  have g5 := zz_G.r G_S2 1077 1 0 128 rfl rfl
  refine zz_callVV [.ref (100 + 12), zi p2] zd_5_8_10 zk_Line_83 zT_1077 (zz_ltn hn rfl) rfl rfl ⟨Nat.le_of_ble_eq_true rfl, Nat.le_of_ble_eq_true rfl⟩ ⟨rfl, rfl⟩ (Nat.zero_le _) (Nat.zero_le _) (zc_addNumbered_5_9 12 p2 S2 n hn G_S2 (by omega) (by omega)) (fun S6 hP => ?_)
  obtain ⟨G_S6, fS6, o8⟩ := hP
  have F_S6 := zz_fr.trans F_S2 fS6 rfl zz_nv
  have g9 := zz_G.r G_S6 1077 1 0 128 rfl rfl
  exact zz_vret zd_5_8_13 rfl (Nat.zero_le _) (Nat.zero_le _) ⟨_, rfl, G_S6, F_S6, (fun u m h hm hp hp2 => by have w9 := zt_twl p0 (by omega); have w8 := zs_m38 p0 (by omega); have o9 := o8 _ _ (o4 u m h (by omega) hp) (by omega) hp2; rw [show zt_tw 12 = zs_wx by decide +kernel] at o9; exact zs_Lm o9 (by show _ + 1 + 6 ≤ _; omega))⟩
theorem zk_Line_45 : mm_Vl "TensorForge$Line" 45 10 3 zy_addPair_5_8 := ⟨zyw_addPair_5_8, (R_Line, F_Line, 2), rfl, mm_tb_1 1283 (by decide +kernel) rfl, mm_tb_1 1285 (by decide +kernel) rfl, mm_tb_s 59 (by decide +kernel) rfl⟩
-- TensorForge$Line writeInstruction (J)V
abbrev zr_writeInstruction_5_3 : Room := { frames := 7, cells := 0, slots := 0, locals := 98 }
def zp_writeInstruction_5_3 (p0 : Int) (S0 : zz_S) : zz_S → Prop := fun S => zz_G S ∧ zz_fr [(1077, 1)] [1078] (fun _ _ => False) S0 S
theorem zc_writeInstruction_5_3 {g : mm_G} {l : Launch} (p0 : Int) (S0 : zz_S) (n : Nat) (hn : zz_end ≤ n) (G_S0 : zz_G S0) (hp0 : (-9223372036854775808) ≤ p0 ∧ p0 ≤ 9223372036854775807) : mm_Met g l zy_writeInstruction_5_3 zr_writeInstruction_5_3 [.ref 1077, zl p0] (zz_M S0 n) n (zz_QV n (zp_writeInstruction_5_3 p0 S0)) := by
  refine zz_enter (by decide) (Nat.le_of_ble_eq_true rfl) (zz_less (ls1 := [some (.ref 1077), some (zl p0), none]) ⟨rfl, ⟨rfl, trivial⟩⟩ ?_)
  have F_S0 : zz_fr [(1077, 1)] [1078] (fun _ _ => False) S0 S0 := zz_fr.refl
  refine zz_aload_n (x := 1077) rfl zd_5_3_0 ?_
  refine zz_iconst zd_5_3_1 ?_
  refine zz_puti zd_5_3_2 zf_Line_15 zT_1077 rfl (zz_ltn hn rfl) (fun S1 qS1 => ?_)
  have G_S1 := zz_G.put G_S0 qS1 0 128 rfl (by omega)
  have F_S1 := zz_fr.puts F_S0 qS1 rfl
  refine zz_aload_n (x := 1077) rfl zd_5_3_5 ?_
  refine zz_lload_n (x := p0) rfl zd_5_3_6 ?_
  refine zz_iconst zd_5_3_7 ?_
  refine zz_callSI [zl p0, zi 0] zd_5_3_8 zk_Line_21 rfl rfl ⟨Nat.le_of_ble_eq_true rfl, Nat.le_of_ble_eq_true rfl⟩ ⟨rfl, rfl⟩ (Nat.zero_le _) (Nat.zero_le _) (zc_get_12_2x_0 p0 S1 n hn G_S1 (by omega)) (fun v3 S2 hP => ?_)
  obtain ⟨rfl, o4, o5⟩ := hP
  subst o5
  refine zz_callSA [zi (zz_fy p0 0 15)] zd_5_3_11 zk_Line_25 rfl rfl ⟨Nat.le_of_ble_eq_true rfl, Nat.le_of_ble_eq_true rfl⟩ ⟨rfl, rfl⟩ (Nat.zero_le _) (Nat.zero_le _) (zc_nameOf_12_12 (zz_fy p0 0 15) S1 n hn G_S1 (by omega)) (fun v7 S6 hP => ?_)
  obtain ⟨rfl, o8⟩ := hP
  obtain ⟨uv7, rfl, huv7, hkv7⟩ := o8
  have e9 : S1 1077 1 = 0 := (zz_rs qS1)
  refine zz_callVV [.ref (100 + uv7)] zd_5_3_14 zk_Line_29 zT_1077 (zz_ltn hn rfl) rfl rfl ⟨Nat.le_of_ble_eq_true rfl, Nat.le_of_ble_eq_true rfl⟩ ⟨rfl, rfl⟩ (Nat.zero_le _) (Nat.zero_le _) (zc_addToken_5_10 uv7 S1 n hn G_S1 (by omega)) (fun S10 hP => ?_)
  obtain ⟨G_S10, fS10, o12⟩ := hP
  have F_S10 := zz_fr.trans F_S1 fS10 rfl zz_nv
  refine zz_aload_n (x := 1077) rfl zd_5_3_17 ?_
  refine zz_ldcs (t := 10) (by decide +kernel) (by decide) zd_5_3_18 ?_
  refine zz_lload_n (x := p0) rfl zd_5_3_20 ?_
  refine zz_iconst zd_5_3_21 ?_
  refine zz_callVV [.ref (100 + 10), zl p0, zi 5] zd_5_3_22 zk_Line_35 zT_1077 (zz_ltn hn rfl) rfl rfl ⟨Nat.le_of_ble_eq_true rfl, Nat.le_of_ble_eq_true rfl⟩ ⟨rfl, rfl⟩ (Nat.zero_le _) (Nat.zero_le _) (zc_addUnlessNothing_5_6 10 p0 5 S10 n hn G_S10 (by omega) (by omega) (by omega)) (fun S13 hP => ?_)
  obtain ⟨G_S13, fS13⟩ := hP
  have F_S13 := zz_fr.trans F_S10 fS13 rfl zz_nv
  refine zz_lload_n (x := p0) rfl zd_5_3_25 ?_
  refine zz_bipush (by decide) zd_5_3_26 ?_
  refine zz_callSI [zl p0, zi 6] zd_5_3_28 zk_Line_39 rfl rfl ⟨Nat.le_of_ble_eq_true rfl, Nat.le_of_ble_eq_true rfl⟩ ⟨rfl, rfl⟩ (Nat.zero_le _) (Nat.zero_le _) (zc_has_12_3x_6 p0 S13 n hn G_S13 (by omega)) (fun v16 S15 hP => ?_)
  obtain ⟨rfl, o17, o18⟩ := hP
  rcases (by omega : v16 = 0 ∨ v16 = 1) with rfl | rfl
  · refine zz_if_ne (by omega) zd_5_3_31 (fun c19 => ?_) (fun c19 => ?_)
    · exfalso; omega
    · refine zz_lload_n (x := p0) rfl zd_5_3_34 ?_
      refine zz_bipush (by decide) zd_5_3_35 ?_
      refine zz_callSI [zl p0, zi 7] zd_5_3_37 zk_Line_39 rfl rfl ⟨Nat.le_of_ble_eq_true rfl, Nat.le_of_ble_eq_true rfl⟩ ⟨rfl, rfl⟩ (Nat.zero_le _) (Nat.zero_le _) (zc_has_12_3x_7 p0 S13 n hn G_S13 (by omega)) (fun v21 S20 hP => ?_)
      obtain ⟨rfl, o22, o23⟩ := hP
      rcases (by omega : v21 = 0 ∨ v21 = 1) with rfl | rfl
      · refine zz_if_eq (by omega) zd_5_3_40 (fun c24 => ?_) (fun c24 => ?_)
        · refine zz_aload_n (x := 1077) rfl zd_5_3_61 ?_
          refine zz_ldcs (t := 13) (by decide +kernel) (by decide) zd_5_3_62 ?_
          refine zz_lload_n (x := p0) rfl zd_5_3_64 ?_
          refine zz_bipush (by decide) zd_5_3_65 ?_
          refine zz_callVV [.ref (100 + 13), zl p0, zi 8] zd_5_3_67 zk_Line_35 zT_1077 (zz_ltn hn rfl) rfl rfl ⟨Nat.le_of_ble_eq_true rfl, Nat.le_of_ble_eq_true rfl⟩ ⟨rfl, rfl⟩ (Nat.zero_le _) (Nat.zero_le _) (zc_addUnlessNothing_5_6 13 p0 8 S13 n hn G_S13 (by omega) (by omega) (by omega)) (fun S25 hP => ?_)
          obtain ⟨G_S25, fS25⟩ := hP
          have F_S25 := zz_fr.trans F_S13 fS25 rfl zz_nv
          refine zz_aload_n (x := 1077) rfl zd_5_3_70 ?_
          refine zz_ldcs (t := 14) (by decide +kernel) (by decide) zd_5_3_71 ?_
          refine zz_lload_n (x := p0) rfl zd_5_3_73 ?_
          refine zz_bipush (by decide) zd_5_3_74 ?_
          refine zz_callVV [.ref (100 + 14), zl p0, zi 9] zd_5_3_76 zk_Line_35 zT_1077 (zz_ltn hn rfl) rfl rfl ⟨Nat.le_of_ble_eq_true rfl, Nat.le_of_ble_eq_true rfl⟩ ⟨rfl, rfl⟩ (Nat.zero_le _) (Nat.zero_le _) (zc_addUnlessNothing_5_6 14 p0 9 S25 n hn G_S25 (by omega) (by omega) (by omega)) (fun S27 hP => ?_)
          obtain ⟨G_S27, fS27⟩ := hP
          have F_S27 := zz_fr.trans F_S25 fS27 rfl zz_nv
          refine zz_aload_n (x := 1077) rfl zd_5_3_79 ?_
          refine zz_ldcs (t := 15) (by decide +kernel) (by decide) zd_5_3_80 ?_
          refine zz_lload_n (x := p0) rfl zd_5_3_82 ?_
          refine zz_bipush (by decide) zd_5_3_83 ?_
          refine zz_callVV [.ref (100 + 15), zl p0, zi 10] zd_5_3_85 zk_Line_35 zT_1077 (zz_ltn hn rfl) rfl rfl ⟨Nat.le_of_ble_eq_true rfl, Nat.le_of_ble_eq_true rfl⟩ ⟨rfl, rfl⟩ (Nat.zero_le _) (Nat.zero_le _) (zc_addUnlessNothing_5_6 15 p0 10 S27 n hn G_S27 (by omega) (by omega) (by omega)) (fun S29 hP => ?_)
          obtain ⟨G_S29, fS29⟩ := hP
          have F_S29 := zz_fr.trans F_S27 fS29 rfl zz_nv
          refine zz_aload_n (x := 1077) rfl zd_5_3_88 ?_
          refine zz_ldcs (t := 16) (by decide +kernel) (by decide) zd_5_3_89 ?_
          refine zz_lload_n (x := p0) rfl zd_5_3_91 ?_
          refine zz_bipush (by decide) zd_5_3_92 ?_
          refine zz_callVV [.ref (100 + 16), zl p0, zi 11] zd_5_3_94 zk_Line_35 zT_1077 (zz_ltn hn rfl) rfl rfl ⟨Nat.le_of_ble_eq_true rfl, Nat.le_of_ble_eq_true rfl⟩ ⟨rfl, rfl⟩ (Nat.zero_le _) (Nat.zero_le _) (zc_addUnlessNothing_5_6 16 p0 11 S29 n hn G_S29 (by omega) (by omega) (by omega)) (fun S31 hP => ?_)
          obtain ⟨G_S31, fS31⟩ := hP
          have F_S31 := zz_fr.trans F_S29 fS31 rfl zz_nv
          refine zz_aload_n (x := 1077) rfl zd_5_3_97 ?_
          refine zz_lload_n (x := p0) rfl zd_5_3_98 ?_
          refine zz_iconst zd_5_3_99 ?_
          refine zz_callSI [zl p0, zi 1] zd_5_3_100 zk_Line_39 rfl rfl ⟨Nat.le_of_ble_eq_true rfl, Nat.le_of_ble_eq_true rfl⟩ ⟨rfl, rfl⟩ (Nat.zero_le _) (Nat.zero_le _) (zc_has_12_3x_1 p0 S31 n hn G_S31 (by omega)) (fun v34 S33 hP => ?_)
          obtain ⟨rfl, o35, o36⟩ := hP
          rcases (by omega : v34 = 0 ∨ v34 = 1) with rfl | rfl
          · refine zz_ldcs (t := 42) (by decide +kernel) (by decide) zd_5_3_103 ?_
            have g37 := zz_G.r G_S31 1077 1 0 128 rfl rfl
            refine zz_callVV [zi 0, .ref (100 + 42)] zd_5_3_105 zk_Line_59 zT_1077 (zz_ltn hn rfl) rfl rfl ⟨Nat.le_of_ble_eq_true rfl, Nat.le_of_ble_eq_true rfl⟩ ⟨rfl, rfl⟩ (Nat.zero_le _) (Nat.zero_le _) (zc_addIf_5_7 0 42 S31 n hn G_S31 (by omega) (by omega)) (fun S38 hP => ?_)
            obtain ⟨G_S38, fS38, o40⟩ := hP
            have F_S38 := zz_fr.trans F_S31 fS38 rfl zz_nv
            refine zz_aload_n (x := 1077) rfl zd_5_3_108 ?_
            refine zz_lload_n (x := p0) rfl zd_5_3_109 ?_
            refine zz_iconst zd_5_3_110 ?_
            refine zz_callSI [zl p0, zi 2] zd_5_3_111 zk_Line_39 rfl rfl ⟨Nat.le_of_ble_eq_true rfl, Nat.le_of_ble_eq_true rfl⟩ ⟨rfl, rfl⟩ (Nat.zero_le _) (Nat.zero_le _) (zc_has_12_3x_2 p0 S38 n hn G_S38 (by omega)) (fun v42 S41 hP => ?_)
            obtain ⟨rfl, o43, o44⟩ := hP
            rcases (by omega : v42 = 0 ∨ v42 = 1) with rfl | rfl
            · refine zz_ldcs (t := 43) (by decide +kernel) (by decide) zd_5_3_114 ?_
              have g45 := zz_G.r G_S38 1077 1 0 128 rfl rfl
              refine zz_callVV [zi 0, .ref (100 + 43)] zd_5_3_116 zk_Line_59 zT_1077 (zz_ltn hn rfl) rfl rfl ⟨Nat.le_of_ble_eq_true rfl, Nat.le_of_ble_eq_true rfl⟩ ⟨rfl, rfl⟩ (Nat.zero_le _) (Nat.zero_le _) (zc_addIf_5_7 0 43 S38 n hn G_S38 (by omega) (by omega)) (fun S46 hP => ?_)
              obtain ⟨G_S46, fS46, o48⟩ := hP
              have F_S46 := zz_fr.trans F_S38 fS46 rfl zz_nv
              refine zz_aload_n (x := 1077) rfl zd_5_3_119 ?_
              refine zz_lload_n (x := p0) rfl zd_5_3_120 ?_
              refine zz_iconst zd_5_3_121 ?_
              refine zz_callSI [zl p0, zi 3] zd_5_3_122 zk_Line_39 rfl rfl ⟨Nat.le_of_ble_eq_true rfl, Nat.le_of_ble_eq_true rfl⟩ ⟨rfl, rfl⟩ (Nat.zero_le _) (Nat.zero_le _) (zc_has_12_3x_3 p0 S46 n hn G_S46 (by omega)) (fun v50 S49 hP => ?_)
              obtain ⟨rfl, o51, o52⟩ := hP
              rcases (by omega : v50 = 0 ∨ v50 = 1) with rfl | rfl
              · refine zz_ldcs (t := 44) (by decide +kernel) (by decide) zd_5_3_125 ?_
                have g53 := zz_G.r G_S46 1077 1 0 128 rfl rfl
                refine zz_callVV [zi 0, .ref (100 + 44)] zd_5_3_127 zk_Line_59 zT_1077 (zz_ltn hn rfl) rfl rfl ⟨Nat.le_of_ble_eq_true rfl, Nat.le_of_ble_eq_true rfl⟩ ⟨rfl, rfl⟩ (Nat.zero_le _) (Nat.zero_le _) (zc_addIf_5_7 0 44 S46 n hn G_S46 (by omega) (by omega)) (fun S54 hP => ?_)
                obtain ⟨G_S54, fS54, o56⟩ := hP
                have F_S54 := zz_fr.trans F_S46 fS54 rfl zz_nv
                refine zz_aload_n (x := 1077) rfl zd_5_3_130 ?_
                refine zz_lload_n (x := p0) rfl zd_5_3_131 ?_
                refine zz_iconst zd_5_3_132 ?_
                refine zz_callSI [zl p0, zi 4] zd_5_3_133 zk_Line_39 rfl rfl ⟨Nat.le_of_ble_eq_true rfl, Nat.le_of_ble_eq_true rfl⟩ ⟨rfl, rfl⟩ (Nat.zero_le _) (Nat.zero_le _) (zc_has_12_3x_4 p0 S54 n hn G_S54 (by omega)) (fun v58 S57 hP => ?_)
                obtain ⟨rfl, o59, o60⟩ := hP
                rcases (by omega : v58 = 0 ∨ v58 = 1) with rfl | rfl
                · refine zz_ldcs (t := 45) (by decide +kernel) (by decide) zd_5_3_136 ?_
                  have g61 := zz_G.r G_S54 1077 1 0 128 rfl rfl
                  refine zz_callVV [zi 0, .ref (100 + 45)] zd_5_3_138 zk_Line_59 zT_1077 (zz_ltn hn rfl) rfl rfl ⟨Nat.le_of_ble_eq_true rfl, Nat.le_of_ble_eq_true rfl⟩ ⟨rfl, rfl⟩ (Nat.zero_le _) (Nat.zero_le _) (zc_addIf_5_7 0 45 S54 n hn G_S54 (by omega) (by omega)) (fun S62 hP => ?_)
                  obtain ⟨G_S62, fS62, o64⟩ := hP
                  have F_S62 := zz_fr.trans F_S54 fS62 rfl zz_nv
                  refine zz_aload_n (x := 1077) rfl zd_5_3_141 ?_
                  refine zz_bipush (by decide) zd_5_3_142 ?_
                  have g65 := zz_G.r G_S62 1077 1 0 128 rfl rfl
                  refine zz_callVV [zi 10] zd_5_3_144 zk_Line_69 zT_1077 (zz_ltn hn rfl) rfl rfl ⟨Nat.le_of_ble_eq_true rfl, Nat.le_of_ble_eq_true rfl⟩ ⟨rfl, rfl⟩ (Nat.zero_le _) (Nat.zero_le _) (zc_addSign_5_12 10 S62 n hn G_S62 (by omega)) (fun S66 hP => ?_)
                  obtain ⟨G_S66, fS66, o68⟩ := hP
                  have F_S66 := zz_fr.trans F_S62 fS66 rfl zz_nv
                  exact zz_vret zd_5_3_147 rfl (Nat.zero_le _) (Nat.zero_le _) ⟨_, rfl, G_S66, F_S66⟩
                · refine zz_ldcs (t := 45) (by decide +kernel) (by decide) zd_5_3_136 ?_
                  have g69 := zz_G.r G_S54 1077 1 0 128 rfl rfl
                  refine zz_callVV [zi 1, .ref (100 + 45)] zd_5_3_138 zk_Line_59 zT_1077 (zz_ltn hn rfl) rfl rfl ⟨Nat.le_of_ble_eq_true rfl, Nat.le_of_ble_eq_true rfl⟩ ⟨rfl, rfl⟩ (Nat.zero_le _) (Nat.zero_le _) (zc_addIf_5_7 1 45 S54 n hn G_S54 (by omega) (by omega)) (fun S70 hP => ?_)
                  obtain ⟨G_S70, fS70, o72⟩ := hP
                  have F_S70 := zz_fr.trans F_S54 fS70 rfl zz_nv
                  refine zz_aload_n (x := 1077) rfl zd_5_3_141 ?_
                  refine zz_bipush (by decide) zd_5_3_142 ?_
                  have g73 := zz_G.r G_S70 1077 1 0 128 rfl rfl
                  refine zz_callVV [zi 10] zd_5_3_144 zk_Line_69 zT_1077 (zz_ltn hn rfl) rfl rfl ⟨Nat.le_of_ble_eq_true rfl, Nat.le_of_ble_eq_true rfl⟩ ⟨rfl, rfl⟩ (Nat.zero_le _) (Nat.zero_le _) (zc_addSign_5_12 10 S70 n hn G_S70 (by omega)) (fun S74 hP => ?_)
                  obtain ⟨G_S74, fS74, o76⟩ := hP
                  have F_S74 := zz_fr.trans F_S70 fS74 rfl zz_nv
                  exact zz_vret zd_5_3_147 rfl (Nat.zero_le _) (Nat.zero_le _) ⟨_, rfl, G_S74, F_S74⟩
              · refine zz_ldcs (t := 44) (by decide +kernel) (by decide) zd_5_3_125 ?_
                have g77 := zz_G.r G_S46 1077 1 0 128 rfl rfl
                refine zz_callVV [zi 1, .ref (100 + 44)] zd_5_3_127 zk_Line_59 zT_1077 (zz_ltn hn rfl) rfl rfl ⟨Nat.le_of_ble_eq_true rfl, Nat.le_of_ble_eq_true rfl⟩ ⟨rfl, rfl⟩ (Nat.zero_le _) (Nat.zero_le _) (zc_addIf_5_7 1 44 S46 n hn G_S46 (by omega) (by omega)) (fun S78 hP => ?_)
                obtain ⟨G_S78, fS78, o80⟩ := hP
                have F_S78 := zz_fr.trans F_S46 fS78 rfl zz_nv
                refine zz_aload_n (x := 1077) rfl zd_5_3_130 ?_
                refine zz_lload_n (x := p0) rfl zd_5_3_131 ?_
                refine zz_iconst zd_5_3_132 ?_
                refine zz_callSI [zl p0, zi 4] zd_5_3_133 zk_Line_39 rfl rfl ⟨Nat.le_of_ble_eq_true rfl, Nat.le_of_ble_eq_true rfl⟩ ⟨rfl, rfl⟩ (Nat.zero_le _) (Nat.zero_le _) (zc_has_12_3x_4 p0 S78 n hn G_S78 (by omega)) (fun v82 S81 hP => ?_)
                obtain ⟨rfl, o83, o84⟩ := hP
                rcases (by omega : v82 = 0 ∨ v82 = 1) with rfl | rfl
                · refine zz_ldcs (t := 45) (by decide +kernel) (by decide) zd_5_3_136 ?_
                  have g85 := zz_G.r G_S78 1077 1 0 128 rfl rfl
                  refine zz_callVV [zi 0, .ref (100 + 45)] zd_5_3_138 zk_Line_59 zT_1077 (zz_ltn hn rfl) rfl rfl ⟨Nat.le_of_ble_eq_true rfl, Nat.le_of_ble_eq_true rfl⟩ ⟨rfl, rfl⟩ (Nat.zero_le _) (Nat.zero_le _) (zc_addIf_5_7 0 45 S78 n hn G_S78 (by omega) (by omega)) (fun S86 hP => ?_)
                  obtain ⟨G_S86, fS86, o88⟩ := hP
                  have F_S86 := zz_fr.trans F_S78 fS86 rfl zz_nv
                  refine zz_aload_n (x := 1077) rfl zd_5_3_141 ?_
                  refine zz_bipush (by decide) zd_5_3_142 ?_
                  have g89 := zz_G.r G_S86 1077 1 0 128 rfl rfl
                  refine zz_callVV [zi 10] zd_5_3_144 zk_Line_69 zT_1077 (zz_ltn hn rfl) rfl rfl ⟨Nat.le_of_ble_eq_true rfl, Nat.le_of_ble_eq_true rfl⟩ ⟨rfl, rfl⟩ (Nat.zero_le _) (Nat.zero_le _) (zc_addSign_5_12 10 S86 n hn G_S86 (by omega)) (fun S90 hP => ?_)
                  obtain ⟨G_S90, fS90, o92⟩ := hP
                  have F_S90 := zz_fr.trans F_S86 fS90 rfl zz_nv
                  exact zz_vret zd_5_3_147 rfl (Nat.zero_le _) (Nat.zero_le _) ⟨_, rfl, G_S90, F_S90⟩
                · refine zz_ldcs (t := 45) (by decide +kernel) (by decide) zd_5_3_136 ?_
                  have g93 := zz_G.r G_S78 1077 1 0 128 rfl rfl
                  refine zz_callVV [zi 1, .ref (100 + 45)] zd_5_3_138 zk_Line_59 zT_1077 (zz_ltn hn rfl) rfl rfl ⟨Nat.le_of_ble_eq_true rfl, Nat.le_of_ble_eq_true rfl⟩ ⟨rfl, rfl⟩ (Nat.zero_le _) (Nat.zero_le _) (zc_addIf_5_7 1 45 S78 n hn G_S78 (by omega) (by omega)) (fun S94 hP => ?_)
                  obtain ⟨G_S94, fS94, o96⟩ := hP
                  have F_S94 := zz_fr.trans F_S78 fS94 rfl zz_nv
                  refine zz_aload_n (x := 1077) rfl zd_5_3_141 ?_
                  refine zz_bipush (by decide) zd_5_3_142 ?_
                  have g97 := zz_G.r G_S94 1077 1 0 128 rfl rfl
                  refine zz_callVV [zi 10] zd_5_3_144 zk_Line_69 zT_1077 (zz_ltn hn rfl) rfl rfl ⟨Nat.le_of_ble_eq_true rfl, Nat.le_of_ble_eq_true rfl⟩ ⟨rfl, rfl⟩ (Nat.zero_le _) (Nat.zero_le _) (zc_addSign_5_12 10 S94 n hn G_S94 (by omega)) (fun S98 hP => ?_)
                  obtain ⟨G_S98, fS98, o100⟩ := hP
                  have F_S98 := zz_fr.trans F_S94 fS98 rfl zz_nv
                  exact zz_vret zd_5_3_147 rfl (Nat.zero_le _) (Nat.zero_le _) ⟨_, rfl, G_S98, F_S98⟩
            · refine zz_ldcs (t := 43) (by decide +kernel) (by decide) zd_5_3_114 ?_
              have g101 := zz_G.r G_S38 1077 1 0 128 rfl rfl
              refine zz_callVV [zi 1, .ref (100 + 43)] zd_5_3_116 zk_Line_59 zT_1077 (zz_ltn hn rfl) rfl rfl ⟨Nat.le_of_ble_eq_true rfl, Nat.le_of_ble_eq_true rfl⟩ ⟨rfl, rfl⟩ (Nat.zero_le _) (Nat.zero_le _) (zc_addIf_5_7 1 43 S38 n hn G_S38 (by omega) (by omega)) (fun S102 hP => ?_)
              obtain ⟨G_S102, fS102, o104⟩ := hP
              have F_S102 := zz_fr.trans F_S38 fS102 rfl zz_nv
              refine zz_aload_n (x := 1077) rfl zd_5_3_119 ?_
              refine zz_lload_n (x := p0) rfl zd_5_3_120 ?_
              refine zz_iconst zd_5_3_121 ?_
              refine zz_callSI [zl p0, zi 3] zd_5_3_122 zk_Line_39 rfl rfl ⟨Nat.le_of_ble_eq_true rfl, Nat.le_of_ble_eq_true rfl⟩ ⟨rfl, rfl⟩ (Nat.zero_le _) (Nat.zero_le _) (zc_has_12_3x_3 p0 S102 n hn G_S102 (by omega)) (fun v106 S105 hP => ?_)
              obtain ⟨rfl, o107, o108⟩ := hP
              rcases (by omega : v106 = 0 ∨ v106 = 1) with rfl | rfl
              · refine zz_ldcs (t := 44) (by decide +kernel) (by decide) zd_5_3_125 ?_
                have g109 := zz_G.r G_S102 1077 1 0 128 rfl rfl
                refine zz_callVV [zi 0, .ref (100 + 44)] zd_5_3_127 zk_Line_59 zT_1077 (zz_ltn hn rfl) rfl rfl ⟨Nat.le_of_ble_eq_true rfl, Nat.le_of_ble_eq_true rfl⟩ ⟨rfl, rfl⟩ (Nat.zero_le _) (Nat.zero_le _) (zc_addIf_5_7 0 44 S102 n hn G_S102 (by omega) (by omega)) (fun S110 hP => ?_)
                obtain ⟨G_S110, fS110, o112⟩ := hP
                have F_S110 := zz_fr.trans F_S102 fS110 rfl zz_nv
                refine zz_aload_n (x := 1077) rfl zd_5_3_130 ?_
                refine zz_lload_n (x := p0) rfl zd_5_3_131 ?_
                refine zz_iconst zd_5_3_132 ?_
                refine zz_callSI [zl p0, zi 4] zd_5_3_133 zk_Line_39 rfl rfl ⟨Nat.le_of_ble_eq_true rfl, Nat.le_of_ble_eq_true rfl⟩ ⟨rfl, rfl⟩ (Nat.zero_le _) (Nat.zero_le _) (zc_has_12_3x_4 p0 S110 n hn G_S110 (by omega)) (fun v114 S113 hP => ?_)
                obtain ⟨rfl, o115, o116⟩ := hP
                rcases (by omega : v114 = 0 ∨ v114 = 1) with rfl | rfl
                · refine zz_ldcs (t := 45) (by decide +kernel) (by decide) zd_5_3_136 ?_
                  have g117 := zz_G.r G_S110 1077 1 0 128 rfl rfl
                  refine zz_callVV [zi 0, .ref (100 + 45)] zd_5_3_138 zk_Line_59 zT_1077 (zz_ltn hn rfl) rfl rfl ⟨Nat.le_of_ble_eq_true rfl, Nat.le_of_ble_eq_true rfl⟩ ⟨rfl, rfl⟩ (Nat.zero_le _) (Nat.zero_le _) (zc_addIf_5_7 0 45 S110 n hn G_S110 (by omega) (by omega)) (fun S118 hP => ?_)
                  obtain ⟨G_S118, fS118, o120⟩ := hP
                  have F_S118 := zz_fr.trans F_S110 fS118 rfl zz_nv
                  refine zz_aload_n (x := 1077) rfl zd_5_3_141 ?_
                  refine zz_bipush (by decide) zd_5_3_142 ?_
                  have g121 := zz_G.r G_S118 1077 1 0 128 rfl rfl
                  refine zz_callVV [zi 10] zd_5_3_144 zk_Line_69 zT_1077 (zz_ltn hn rfl) rfl rfl ⟨Nat.le_of_ble_eq_true rfl, Nat.le_of_ble_eq_true rfl⟩ ⟨rfl, rfl⟩ (Nat.zero_le _) (Nat.zero_le _) (zc_addSign_5_12 10 S118 n hn G_S118 (by omega)) (fun S122 hP => ?_)
                  obtain ⟨G_S122, fS122, o124⟩ := hP
                  have F_S122 := zz_fr.trans F_S118 fS122 rfl zz_nv
                  exact zz_vret zd_5_3_147 rfl (Nat.zero_le _) (Nat.zero_le _) ⟨_, rfl, G_S122, F_S122⟩
                · refine zz_ldcs (t := 45) (by decide +kernel) (by decide) zd_5_3_136 ?_
                  have g125 := zz_G.r G_S110 1077 1 0 128 rfl rfl
                  refine zz_callVV [zi 1, .ref (100 + 45)] zd_5_3_138 zk_Line_59 zT_1077 (zz_ltn hn rfl) rfl rfl ⟨Nat.le_of_ble_eq_true rfl, Nat.le_of_ble_eq_true rfl⟩ ⟨rfl, rfl⟩ (Nat.zero_le _) (Nat.zero_le _) (zc_addIf_5_7 1 45 S110 n hn G_S110 (by omega) (by omega)) (fun S126 hP => ?_)
                  obtain ⟨G_S126, fS126, o128⟩ := hP
                  have F_S126 := zz_fr.trans F_S110 fS126 rfl zz_nv
                  refine zz_aload_n (x := 1077) rfl zd_5_3_141 ?_
                  refine zz_bipush (by decide) zd_5_3_142 ?_
                  have g129 := zz_G.r G_S126 1077 1 0 128 rfl rfl
                  refine zz_callVV [zi 10] zd_5_3_144 zk_Line_69 zT_1077 (zz_ltn hn rfl) rfl rfl ⟨Nat.le_of_ble_eq_true rfl, Nat.le_of_ble_eq_true rfl⟩ ⟨rfl, rfl⟩ (Nat.zero_le _) (Nat.zero_le _) (zc_addSign_5_12 10 S126 n hn G_S126 (by omega)) (fun S130 hP => ?_)
                  obtain ⟨G_S130, fS130, o132⟩ := hP
                  have F_S130 := zz_fr.trans F_S126 fS130 rfl zz_nv
                  exact zz_vret zd_5_3_147 rfl (Nat.zero_le _) (Nat.zero_le _) ⟨_, rfl, G_S130, F_S130⟩
              · refine zz_ldcs (t := 44) (by decide +kernel) (by decide) zd_5_3_125 ?_
                have g133 := zz_G.r G_S102 1077 1 0 128 rfl rfl
                refine zz_callVV [zi 1, .ref (100 + 44)] zd_5_3_127 zk_Line_59 zT_1077 (zz_ltn hn rfl) rfl rfl ⟨Nat.le_of_ble_eq_true rfl, Nat.le_of_ble_eq_true rfl⟩ ⟨rfl, rfl⟩ (Nat.zero_le _) (Nat.zero_le _) (zc_addIf_5_7 1 44 S102 n hn G_S102 (by omega) (by omega)) (fun S134 hP => ?_)
                obtain ⟨G_S134, fS134, o136⟩ := hP
                have F_S134 := zz_fr.trans F_S102 fS134 rfl zz_nv
                refine zz_aload_n (x := 1077) rfl zd_5_3_130 ?_
                refine zz_lload_n (x := p0) rfl zd_5_3_131 ?_
                refine zz_iconst zd_5_3_132 ?_
                refine zz_callSI [zl p0, zi 4] zd_5_3_133 zk_Line_39 rfl rfl ⟨Nat.le_of_ble_eq_true rfl, Nat.le_of_ble_eq_true rfl⟩ ⟨rfl, rfl⟩ (Nat.zero_le _) (Nat.zero_le _) (zc_has_12_3x_4 p0 S134 n hn G_S134 (by omega)) (fun v138 S137 hP => ?_)
                obtain ⟨rfl, o139, o140⟩ := hP
                rcases (by omega : v138 = 0 ∨ v138 = 1) with rfl | rfl
                · refine zz_ldcs (t := 45) (by decide +kernel) (by decide) zd_5_3_136 ?_
                  have g141 := zz_G.r G_S134 1077 1 0 128 rfl rfl
                  refine zz_callVV [zi 0, .ref (100 + 45)] zd_5_3_138 zk_Line_59 zT_1077 (zz_ltn hn rfl) rfl rfl ⟨Nat.le_of_ble_eq_true rfl, Nat.le_of_ble_eq_true rfl⟩ ⟨rfl, rfl⟩ (Nat.zero_le _) (Nat.zero_le _) (zc_addIf_5_7 0 45 S134 n hn G_S134 (by omega) (by omega)) (fun S142 hP => ?_)
                  obtain ⟨G_S142, fS142, o144⟩ := hP
                  have F_S142 := zz_fr.trans F_S134 fS142 rfl zz_nv
                  refine zz_aload_n (x := 1077) rfl zd_5_3_141 ?_
                  refine zz_bipush (by decide) zd_5_3_142 ?_
                  have g145 := zz_G.r G_S142 1077 1 0 128 rfl rfl
                  refine zz_callVV [zi 10] zd_5_3_144 zk_Line_69 zT_1077 (zz_ltn hn rfl) rfl rfl ⟨Nat.le_of_ble_eq_true rfl, Nat.le_of_ble_eq_true rfl⟩ ⟨rfl, rfl⟩ (Nat.zero_le _) (Nat.zero_le _) (zc_addSign_5_12 10 S142 n hn G_S142 (by omega)) (fun S146 hP => ?_)
                  obtain ⟨G_S146, fS146, o148⟩ := hP
                  have F_S146 := zz_fr.trans F_S142 fS146 rfl zz_nv
                  exact zz_vret zd_5_3_147 rfl (Nat.zero_le _) (Nat.zero_le _) ⟨_, rfl, G_S146, F_S146⟩
                · refine zz_ldcs (t := 45) (by decide +kernel) (by decide) zd_5_3_136 ?_
                  have g149 := zz_G.r G_S134 1077 1 0 128 rfl rfl
                  refine zz_callVV [zi 1, .ref (100 + 45)] zd_5_3_138 zk_Line_59 zT_1077 (zz_ltn hn rfl) rfl rfl ⟨Nat.le_of_ble_eq_true rfl, Nat.le_of_ble_eq_true rfl⟩ ⟨rfl, rfl⟩ (Nat.zero_le _) (Nat.zero_le _) (zc_addIf_5_7 1 45 S134 n hn G_S134 (by omega) (by omega)) (fun S150 hP => ?_)
                  obtain ⟨G_S150, fS150, o152⟩ := hP
                  have F_S150 := zz_fr.trans F_S134 fS150 rfl zz_nv
                  refine zz_aload_n (x := 1077) rfl zd_5_3_141 ?_
                  refine zz_bipush (by decide) zd_5_3_142 ?_
                  have g153 := zz_G.r G_S150 1077 1 0 128 rfl rfl
                  refine zz_callVV [zi 10] zd_5_3_144 zk_Line_69 zT_1077 (zz_ltn hn rfl) rfl rfl ⟨Nat.le_of_ble_eq_true rfl, Nat.le_of_ble_eq_true rfl⟩ ⟨rfl, rfl⟩ (Nat.zero_le _) (Nat.zero_le _) (zc_addSign_5_12 10 S150 n hn G_S150 (by omega)) (fun S154 hP => ?_)
                  obtain ⟨G_S154, fS154, o156⟩ := hP
                  have F_S154 := zz_fr.trans F_S150 fS154 rfl zz_nv
                  exact zz_vret zd_5_3_147 rfl (Nat.zero_le _) (Nat.zero_le _) ⟨_, rfl, G_S154, F_S154⟩
          · refine zz_ldcs (t := 42) (by decide +kernel) (by decide) zd_5_3_103 ?_
            have g157 := zz_G.r G_S31 1077 1 0 128 rfl rfl
            refine zz_callVV [zi 1, .ref (100 + 42)] zd_5_3_105 zk_Line_59 zT_1077 (zz_ltn hn rfl) rfl rfl ⟨Nat.le_of_ble_eq_true rfl, Nat.le_of_ble_eq_true rfl⟩ ⟨rfl, rfl⟩ (Nat.zero_le _) (Nat.zero_le _) (zc_addIf_5_7 1 42 S31 n hn G_S31 (by omega) (by omega)) (fun S158 hP => ?_)
            obtain ⟨G_S158, fS158, o160⟩ := hP
            have F_S158 := zz_fr.trans F_S31 fS158 rfl zz_nv
            refine zz_aload_n (x := 1077) rfl zd_5_3_108 ?_
            refine zz_lload_n (x := p0) rfl zd_5_3_109 ?_
            refine zz_iconst zd_5_3_110 ?_
            refine zz_callSI [zl p0, zi 2] zd_5_3_111 zk_Line_39 rfl rfl ⟨Nat.le_of_ble_eq_true rfl, Nat.le_of_ble_eq_true rfl⟩ ⟨rfl, rfl⟩ (Nat.zero_le _) (Nat.zero_le _) (zc_has_12_3x_2 p0 S158 n hn G_S158 (by omega)) (fun v162 S161 hP => ?_)
            obtain ⟨rfl, o163, o164⟩ := hP
            rcases (by omega : v162 = 0 ∨ v162 = 1) with rfl | rfl
            · refine zz_ldcs (t := 43) (by decide +kernel) (by decide) zd_5_3_114 ?_
              have g165 := zz_G.r G_S158 1077 1 0 128 rfl rfl
              refine zz_callVV [zi 0, .ref (100 + 43)] zd_5_3_116 zk_Line_59 zT_1077 (zz_ltn hn rfl) rfl rfl ⟨Nat.le_of_ble_eq_true rfl, Nat.le_of_ble_eq_true rfl⟩ ⟨rfl, rfl⟩ (Nat.zero_le _) (Nat.zero_le _) (zc_addIf_5_7 0 43 S158 n hn G_S158 (by omega) (by omega)) (fun S166 hP => ?_)
              obtain ⟨G_S166, fS166, o168⟩ := hP
              have F_S166 := zz_fr.trans F_S158 fS166 rfl zz_nv
              refine zz_aload_n (x := 1077) rfl zd_5_3_119 ?_
              refine zz_lload_n (x := p0) rfl zd_5_3_120 ?_
              refine zz_iconst zd_5_3_121 ?_
              refine zz_callSI [zl p0, zi 3] zd_5_3_122 zk_Line_39 rfl rfl ⟨Nat.le_of_ble_eq_true rfl, Nat.le_of_ble_eq_true rfl⟩ ⟨rfl, rfl⟩ (Nat.zero_le _) (Nat.zero_le _) (zc_has_12_3x_3 p0 S166 n hn G_S166 (by omega)) (fun v170 S169 hP => ?_)
              obtain ⟨rfl, o171, o172⟩ := hP
              rcases (by omega : v170 = 0 ∨ v170 = 1) with rfl | rfl
              · refine zz_ldcs (t := 44) (by decide +kernel) (by decide) zd_5_3_125 ?_
                have g173 := zz_G.r G_S166 1077 1 0 128 rfl rfl
                refine zz_callVV [zi 0, .ref (100 + 44)] zd_5_3_127 zk_Line_59 zT_1077 (zz_ltn hn rfl) rfl rfl ⟨Nat.le_of_ble_eq_true rfl, Nat.le_of_ble_eq_true rfl⟩ ⟨rfl, rfl⟩ (Nat.zero_le _) (Nat.zero_le _) (zc_addIf_5_7 0 44 S166 n hn G_S166 (by omega) (by omega)) (fun S174 hP => ?_)
                obtain ⟨G_S174, fS174, o176⟩ := hP
                have F_S174 := zz_fr.trans F_S166 fS174 rfl zz_nv
                refine zz_aload_n (x := 1077) rfl zd_5_3_130 ?_
                refine zz_lload_n (x := p0) rfl zd_5_3_131 ?_
                refine zz_iconst zd_5_3_132 ?_
                refine zz_callSI [zl p0, zi 4] zd_5_3_133 zk_Line_39 rfl rfl ⟨Nat.le_of_ble_eq_true rfl, Nat.le_of_ble_eq_true rfl⟩ ⟨rfl, rfl⟩ (Nat.zero_le _) (Nat.zero_le _) (zc_has_12_3x_4 p0 S174 n hn G_S174 (by omega)) (fun v178 S177 hP => ?_)
                obtain ⟨rfl, o179, o180⟩ := hP
                rcases (by omega : v178 = 0 ∨ v178 = 1) with rfl | rfl
                · refine zz_ldcs (t := 45) (by decide +kernel) (by decide) zd_5_3_136 ?_
                  have g181 := zz_G.r G_S174 1077 1 0 128 rfl rfl
                  refine zz_callVV [zi 0, .ref (100 + 45)] zd_5_3_138 zk_Line_59 zT_1077 (zz_ltn hn rfl) rfl rfl ⟨Nat.le_of_ble_eq_true rfl, Nat.le_of_ble_eq_true rfl⟩ ⟨rfl, rfl⟩ (Nat.zero_le _) (Nat.zero_le _) (zc_addIf_5_7 0 45 S174 n hn G_S174 (by omega) (by omega)) (fun S182 hP => ?_)
                  obtain ⟨G_S182, fS182, o184⟩ := hP
                  have F_S182 := zz_fr.trans F_S174 fS182 rfl zz_nv
                  refine zz_aload_n (x := 1077) rfl zd_5_3_141 ?_
                  refine zz_bipush (by decide) zd_5_3_142 ?_
                  have g185 := zz_G.r G_S182 1077 1 0 128 rfl rfl
                  refine zz_callVV [zi 10] zd_5_3_144 zk_Line_69 zT_1077 (zz_ltn hn rfl) rfl rfl ⟨Nat.le_of_ble_eq_true rfl, Nat.le_of_ble_eq_true rfl⟩ ⟨rfl, rfl⟩ (Nat.zero_le _) (Nat.zero_le _) (zc_addSign_5_12 10 S182 n hn G_S182 (by omega)) (fun S186 hP => ?_)
                  obtain ⟨G_S186, fS186, o188⟩ := hP
                  have F_S186 := zz_fr.trans F_S182 fS186 rfl zz_nv
                  exact zz_vret zd_5_3_147 rfl (Nat.zero_le _) (Nat.zero_le _) ⟨_, rfl, G_S186, F_S186⟩
                · refine zz_ldcs (t := 45) (by decide +kernel) (by decide) zd_5_3_136 ?_
                  have g189 := zz_G.r G_S174 1077 1 0 128 rfl rfl
                  refine zz_callVV [zi 1, .ref (100 + 45)] zd_5_3_138 zk_Line_59 zT_1077 (zz_ltn hn rfl) rfl rfl ⟨Nat.le_of_ble_eq_true rfl, Nat.le_of_ble_eq_true rfl⟩ ⟨rfl, rfl⟩ (Nat.zero_le _) (Nat.zero_le _) (zc_addIf_5_7 1 45 S174 n hn G_S174 (by omega) (by omega)) (fun S190 hP => ?_)
                  obtain ⟨G_S190, fS190, o192⟩ := hP
                  have F_S190 := zz_fr.trans F_S174 fS190 rfl zz_nv
                  refine zz_aload_n (x := 1077) rfl zd_5_3_141 ?_
                  refine zz_bipush (by decide) zd_5_3_142 ?_
                  have g193 := zz_G.r G_S190 1077 1 0 128 rfl rfl
                  refine zz_callVV [zi 10] zd_5_3_144 zk_Line_69 zT_1077 (zz_ltn hn rfl) rfl rfl ⟨Nat.le_of_ble_eq_true rfl, Nat.le_of_ble_eq_true rfl⟩ ⟨rfl, rfl⟩ (Nat.zero_le _) (Nat.zero_le _) (zc_addSign_5_12 10 S190 n hn G_S190 (by omega)) (fun S194 hP => ?_)
                  obtain ⟨G_S194, fS194, o196⟩ := hP
                  have F_S194 := zz_fr.trans F_S190 fS194 rfl zz_nv
                  exact zz_vret zd_5_3_147 rfl (Nat.zero_le _) (Nat.zero_le _) ⟨_, rfl, G_S194, F_S194⟩
              · refine zz_ldcs (t := 44) (by decide +kernel) (by decide) zd_5_3_125 ?_
                have g197 := zz_G.r G_S166 1077 1 0 128 rfl rfl
                refine zz_callVV [zi 1, .ref (100 + 44)] zd_5_3_127 zk_Line_59 zT_1077 (zz_ltn hn rfl) rfl rfl ⟨Nat.le_of_ble_eq_true rfl, Nat.le_of_ble_eq_true rfl⟩ ⟨rfl, rfl⟩ (Nat.zero_le _) (Nat.zero_le _) (zc_addIf_5_7 1 44 S166 n hn G_S166 (by omega) (by omega)) (fun S198 hP => ?_)
                obtain ⟨G_S198, fS198, o200⟩ := hP
                have F_S198 := zz_fr.trans F_S166 fS198 rfl zz_nv
                refine zz_aload_n (x := 1077) rfl zd_5_3_130 ?_
                refine zz_lload_n (x := p0) rfl zd_5_3_131 ?_
                refine zz_iconst zd_5_3_132 ?_
                refine zz_callSI [zl p0, zi 4] zd_5_3_133 zk_Line_39 rfl rfl ⟨Nat.le_of_ble_eq_true rfl, Nat.le_of_ble_eq_true rfl⟩ ⟨rfl, rfl⟩ (Nat.zero_le _) (Nat.zero_le _) (zc_has_12_3x_4 p0 S198 n hn G_S198 (by omega)) (fun v202 S201 hP => ?_)
                obtain ⟨rfl, o203, o204⟩ := hP
                rcases (by omega : v202 = 0 ∨ v202 = 1) with rfl | rfl
                · refine zz_ldcs (t := 45) (by decide +kernel) (by decide) zd_5_3_136 ?_
                  have g205 := zz_G.r G_S198 1077 1 0 128 rfl rfl
                  refine zz_callVV [zi 0, .ref (100 + 45)] zd_5_3_138 zk_Line_59 zT_1077 (zz_ltn hn rfl) rfl rfl ⟨Nat.le_of_ble_eq_true rfl, Nat.le_of_ble_eq_true rfl⟩ ⟨rfl, rfl⟩ (Nat.zero_le _) (Nat.zero_le _) (zc_addIf_5_7 0 45 S198 n hn G_S198 (by omega) (by omega)) (fun S206 hP => ?_)
                  obtain ⟨G_S206, fS206, o208⟩ := hP
                  have F_S206 := zz_fr.trans F_S198 fS206 rfl zz_nv
                  refine zz_aload_n (x := 1077) rfl zd_5_3_141 ?_
                  refine zz_bipush (by decide) zd_5_3_142 ?_
                  have g209 := zz_G.r G_S206 1077 1 0 128 rfl rfl
                  refine zz_callVV [zi 10] zd_5_3_144 zk_Line_69 zT_1077 (zz_ltn hn rfl) rfl rfl ⟨Nat.le_of_ble_eq_true rfl, Nat.le_of_ble_eq_true rfl⟩ ⟨rfl, rfl⟩ (Nat.zero_le _) (Nat.zero_le _) (zc_addSign_5_12 10 S206 n hn G_S206 (by omega)) (fun S210 hP => ?_)
                  obtain ⟨G_S210, fS210, o212⟩ := hP
                  have F_S210 := zz_fr.trans F_S206 fS210 rfl zz_nv
                  exact zz_vret zd_5_3_147 rfl (Nat.zero_le _) (Nat.zero_le _) ⟨_, rfl, G_S210, F_S210⟩
                · refine zz_ldcs (t := 45) (by decide +kernel) (by decide) zd_5_3_136 ?_
                  have g213 := zz_G.r G_S198 1077 1 0 128 rfl rfl
                  refine zz_callVV [zi 1, .ref (100 + 45)] zd_5_3_138 zk_Line_59 zT_1077 (zz_ltn hn rfl) rfl rfl ⟨Nat.le_of_ble_eq_true rfl, Nat.le_of_ble_eq_true rfl⟩ ⟨rfl, rfl⟩ (Nat.zero_le _) (Nat.zero_le _) (zc_addIf_5_7 1 45 S198 n hn G_S198 (by omega) (by omega)) (fun S214 hP => ?_)
                  obtain ⟨G_S214, fS214, o216⟩ := hP
                  have F_S214 := zz_fr.trans F_S198 fS214 rfl zz_nv
                  refine zz_aload_n (x := 1077) rfl zd_5_3_141 ?_
                  refine zz_bipush (by decide) zd_5_3_142 ?_
                  have g217 := zz_G.r G_S214 1077 1 0 128 rfl rfl
                  refine zz_callVV [zi 10] zd_5_3_144 zk_Line_69 zT_1077 (zz_ltn hn rfl) rfl rfl ⟨Nat.le_of_ble_eq_true rfl, Nat.le_of_ble_eq_true rfl⟩ ⟨rfl, rfl⟩ (Nat.zero_le _) (Nat.zero_le _) (zc_addSign_5_12 10 S214 n hn G_S214 (by omega)) (fun S218 hP => ?_)
                  obtain ⟨G_S218, fS218, o220⟩ := hP
                  have F_S218 := zz_fr.trans F_S214 fS218 rfl zz_nv
                  exact zz_vret zd_5_3_147 rfl (Nat.zero_le _) (Nat.zero_le _) ⟨_, rfl, G_S218, F_S218⟩
            · refine zz_ldcs (t := 43) (by decide +kernel) (by decide) zd_5_3_114 ?_
              have g221 := zz_G.r G_S158 1077 1 0 128 rfl rfl
              refine zz_callVV [zi 1, .ref (100 + 43)] zd_5_3_116 zk_Line_59 zT_1077 (zz_ltn hn rfl) rfl rfl ⟨Nat.le_of_ble_eq_true rfl, Nat.le_of_ble_eq_true rfl⟩ ⟨rfl, rfl⟩ (Nat.zero_le _) (Nat.zero_le _) (zc_addIf_5_7 1 43 S158 n hn G_S158 (by omega) (by omega)) (fun S222 hP => ?_)
              obtain ⟨G_S222, fS222, o224⟩ := hP
              have F_S222 := zz_fr.trans F_S158 fS222 rfl zz_nv
              refine zz_aload_n (x := 1077) rfl zd_5_3_119 ?_
              refine zz_lload_n (x := p0) rfl zd_5_3_120 ?_
              refine zz_iconst zd_5_3_121 ?_
              refine zz_callSI [zl p0, zi 3] zd_5_3_122 zk_Line_39 rfl rfl ⟨Nat.le_of_ble_eq_true rfl, Nat.le_of_ble_eq_true rfl⟩ ⟨rfl, rfl⟩ (Nat.zero_le _) (Nat.zero_le _) (zc_has_12_3x_3 p0 S222 n hn G_S222 (by omega)) (fun v226 S225 hP => ?_)
              obtain ⟨rfl, o227, o228⟩ := hP
              rcases (by omega : v226 = 0 ∨ v226 = 1) with rfl | rfl
              · refine zz_ldcs (t := 44) (by decide +kernel) (by decide) zd_5_3_125 ?_
                have g229 := zz_G.r G_S222 1077 1 0 128 rfl rfl
                refine zz_callVV [zi 0, .ref (100 + 44)] zd_5_3_127 zk_Line_59 zT_1077 (zz_ltn hn rfl) rfl rfl ⟨Nat.le_of_ble_eq_true rfl, Nat.le_of_ble_eq_true rfl⟩ ⟨rfl, rfl⟩ (Nat.zero_le _) (Nat.zero_le _) (zc_addIf_5_7 0 44 S222 n hn G_S222 (by omega) (by omega)) (fun S230 hP => ?_)
                obtain ⟨G_S230, fS230, o232⟩ := hP
                have F_S230 := zz_fr.trans F_S222 fS230 rfl zz_nv
                refine zz_aload_n (x := 1077) rfl zd_5_3_130 ?_
                refine zz_lload_n (x := p0) rfl zd_5_3_131 ?_
                refine zz_iconst zd_5_3_132 ?_
                refine zz_callSI [zl p0, zi 4] zd_5_3_133 zk_Line_39 rfl rfl ⟨Nat.le_of_ble_eq_true rfl, Nat.le_of_ble_eq_true rfl⟩ ⟨rfl, rfl⟩ (Nat.zero_le _) (Nat.zero_le _) (zc_has_12_3x_4 p0 S230 n hn G_S230 (by omega)) (fun v234 S233 hP => ?_)
                obtain ⟨rfl, o235, o236⟩ := hP
                rcases (by omega : v234 = 0 ∨ v234 = 1) with rfl | rfl
                · refine zz_ldcs (t := 45) (by decide +kernel) (by decide) zd_5_3_136 ?_
                  have g237 := zz_G.r G_S230 1077 1 0 128 rfl rfl
                  refine zz_callVV [zi 0, .ref (100 + 45)] zd_5_3_138 zk_Line_59 zT_1077 (zz_ltn hn rfl) rfl rfl ⟨Nat.le_of_ble_eq_true rfl, Nat.le_of_ble_eq_true rfl⟩ ⟨rfl, rfl⟩ (Nat.zero_le _) (Nat.zero_le _) (zc_addIf_5_7 0 45 S230 n hn G_S230 (by omega) (by omega)) (fun S238 hP => ?_)
                  obtain ⟨G_S238, fS238, o240⟩ := hP
                  have F_S238 := zz_fr.trans F_S230 fS238 rfl zz_nv
                  refine zz_aload_n (x := 1077) rfl zd_5_3_141 ?_
                  refine zz_bipush (by decide) zd_5_3_142 ?_
                  have g241 := zz_G.r G_S238 1077 1 0 128 rfl rfl
                  refine zz_callVV [zi 10] zd_5_3_144 zk_Line_69 zT_1077 (zz_ltn hn rfl) rfl rfl ⟨Nat.le_of_ble_eq_true rfl, Nat.le_of_ble_eq_true rfl⟩ ⟨rfl, rfl⟩ (Nat.zero_le _) (Nat.zero_le _) (zc_addSign_5_12 10 S238 n hn G_S238 (by omega)) (fun S242 hP => ?_)
                  obtain ⟨G_S242, fS242, o244⟩ := hP
                  have F_S242 := zz_fr.trans F_S238 fS242 rfl zz_nv
                  exact zz_vret zd_5_3_147 rfl (Nat.zero_le _) (Nat.zero_le _) ⟨_, rfl, G_S242, F_S242⟩
                · refine zz_ldcs (t := 45) (by decide +kernel) (by decide) zd_5_3_136 ?_
                  have g245 := zz_G.r G_S230 1077 1 0 128 rfl rfl
                  refine zz_callVV [zi 1, .ref (100 + 45)] zd_5_3_138 zk_Line_59 zT_1077 (zz_ltn hn rfl) rfl rfl ⟨Nat.le_of_ble_eq_true rfl, Nat.le_of_ble_eq_true rfl⟩ ⟨rfl, rfl⟩ (Nat.zero_le _) (Nat.zero_le _) (zc_addIf_5_7 1 45 S230 n hn G_S230 (by omega) (by omega)) (fun S246 hP => ?_)
                  obtain ⟨G_S246, fS246, o248⟩ := hP
                  have F_S246 := zz_fr.trans F_S230 fS246 rfl zz_nv
                  refine zz_aload_n (x := 1077) rfl zd_5_3_141 ?_
                  refine zz_bipush (by decide) zd_5_3_142 ?_
                  have g249 := zz_G.r G_S246 1077 1 0 128 rfl rfl
                  refine zz_callVV [zi 10] zd_5_3_144 zk_Line_69 zT_1077 (zz_ltn hn rfl) rfl rfl ⟨Nat.le_of_ble_eq_true rfl, Nat.le_of_ble_eq_true rfl⟩ ⟨rfl, rfl⟩ (Nat.zero_le _) (Nat.zero_le _) (zc_addSign_5_12 10 S246 n hn G_S246 (by omega)) (fun S250 hP => ?_)
                  obtain ⟨G_S250, fS250, o252⟩ := hP
                  have F_S250 := zz_fr.trans F_S246 fS250 rfl zz_nv
                  exact zz_vret zd_5_3_147 rfl (Nat.zero_le _) (Nat.zero_le _) ⟨_, rfl, G_S250, F_S250⟩
              · refine zz_ldcs (t := 44) (by decide +kernel) (by decide) zd_5_3_125 ?_
                have g253 := zz_G.r G_S222 1077 1 0 128 rfl rfl
                refine zz_callVV [zi 1, .ref (100 + 44)] zd_5_3_127 zk_Line_59 zT_1077 (zz_ltn hn rfl) rfl rfl ⟨Nat.le_of_ble_eq_true rfl, Nat.le_of_ble_eq_true rfl⟩ ⟨rfl, rfl⟩ (Nat.zero_le _) (Nat.zero_le _) (zc_addIf_5_7 1 44 S222 n hn G_S222 (by omega) (by omega)) (fun S254 hP => ?_)
                obtain ⟨G_S254, fS254, o256⟩ := hP
                have F_S254 := zz_fr.trans F_S222 fS254 rfl zz_nv
                refine zz_aload_n (x := 1077) rfl zd_5_3_130 ?_
                refine zz_lload_n (x := p0) rfl zd_5_3_131 ?_
                refine zz_iconst zd_5_3_132 ?_
                refine zz_callSI [zl p0, zi 4] zd_5_3_133 zk_Line_39 rfl rfl ⟨Nat.le_of_ble_eq_true rfl, Nat.le_of_ble_eq_true rfl⟩ ⟨rfl, rfl⟩ (Nat.zero_le _) (Nat.zero_le _) (zc_has_12_3x_4 p0 S254 n hn G_S254 (by omega)) (fun v258 S257 hP => ?_)
                obtain ⟨rfl, o259, o260⟩ := hP
                rcases (by omega : v258 = 0 ∨ v258 = 1) with rfl | rfl
                · refine zz_ldcs (t := 45) (by decide +kernel) (by decide) zd_5_3_136 ?_
                  have g261 := zz_G.r G_S254 1077 1 0 128 rfl rfl
                  refine zz_callVV [zi 0, .ref (100 + 45)] zd_5_3_138 zk_Line_59 zT_1077 (zz_ltn hn rfl) rfl rfl ⟨Nat.le_of_ble_eq_true rfl, Nat.le_of_ble_eq_true rfl⟩ ⟨rfl, rfl⟩ (Nat.zero_le _) (Nat.zero_le _) (zc_addIf_5_7 0 45 S254 n hn G_S254 (by omega) (by omega)) (fun S262 hP => ?_)
                  obtain ⟨G_S262, fS262, o264⟩ := hP
                  have F_S262 := zz_fr.trans F_S254 fS262 rfl zz_nv
                  refine zz_aload_n (x := 1077) rfl zd_5_3_141 ?_
                  refine zz_bipush (by decide) zd_5_3_142 ?_
                  have g265 := zz_G.r G_S262 1077 1 0 128 rfl rfl
                  refine zz_callVV [zi 10] zd_5_3_144 zk_Line_69 zT_1077 (zz_ltn hn rfl) rfl rfl ⟨Nat.le_of_ble_eq_true rfl, Nat.le_of_ble_eq_true rfl⟩ ⟨rfl, rfl⟩ (Nat.zero_le _) (Nat.zero_le _) (zc_addSign_5_12 10 S262 n hn G_S262 (by omega)) (fun S266 hP => ?_)
                  obtain ⟨G_S266, fS266, o268⟩ := hP
                  have F_S266 := zz_fr.trans F_S262 fS266 rfl zz_nv
                  exact zz_vret zd_5_3_147 rfl (Nat.zero_le _) (Nat.zero_le _) ⟨_, rfl, G_S266, F_S266⟩
                · refine zz_ldcs (t := 45) (by decide +kernel) (by decide) zd_5_3_136 ?_
                  have g269 := zz_G.r G_S254 1077 1 0 128 rfl rfl
                  refine zz_callVV [zi 1, .ref (100 + 45)] zd_5_3_138 zk_Line_59 zT_1077 (zz_ltn hn rfl) rfl rfl ⟨Nat.le_of_ble_eq_true rfl, Nat.le_of_ble_eq_true rfl⟩ ⟨rfl, rfl⟩ (Nat.zero_le _) (Nat.zero_le _) (zc_addIf_5_7 1 45 S254 n hn G_S254 (by omega) (by omega)) (fun S270 hP => ?_)
                  obtain ⟨G_S270, fS270, o272⟩ := hP
                  have F_S270 := zz_fr.trans F_S254 fS270 rfl zz_nv
                  refine zz_aload_n (x := 1077) rfl zd_5_3_141 ?_
                  refine zz_bipush (by decide) zd_5_3_142 ?_
                  have g273 := zz_G.r G_S270 1077 1 0 128 rfl rfl
                  refine zz_callVV [zi 10] zd_5_3_144 zk_Line_69 zT_1077 (zz_ltn hn rfl) rfl rfl ⟨Nat.le_of_ble_eq_true rfl, Nat.le_of_ble_eq_true rfl⟩ ⟨rfl, rfl⟩ (Nat.zero_le _) (Nat.zero_le _) (zc_addSign_5_12 10 S270 n hn G_S270 (by omega)) (fun S274 hP => ?_)
                  obtain ⟨G_S274, fS274, o276⟩ := hP
                  have F_S274 := zz_fr.trans F_S270 fS274 rfl zz_nv
                  exact zz_vret zd_5_3_147 rfl (Nat.zero_le _) (Nat.zero_le _) ⟨_, rfl, G_S274, F_S274⟩
        · exfalso; omega
      · refine zz_if_eq (by omega) zd_5_3_40 (fun c277 => ?_) (fun c277 => ?_)
        · exfalso; omega
        · refine zz_aload_n (x := 1077) rfl zd_5_3_43 ?_
          refine zz_ldcs (t := 11) (by decide +kernel) (by decide) zd_5_3_44 ?_
          refine zz_lload_n (x := p0) rfl zd_5_3_46 ?_
          refine zz_bipush (by decide) zd_5_3_47 ?_
          refine zz_callSI [zl p0, zi 6] zd_5_3_49 zk_Line_21 rfl rfl ⟨Nat.le_of_ble_eq_true rfl, Nat.le_of_ble_eq_true rfl⟩ ⟨rfl, rfl⟩ (Nat.zero_le _) (Nat.zero_le _) (zc_get_12_2x_6 p0 S13 n hn G_S13 (by omega)) (fun v279 S278 hP => ?_)
          obtain ⟨rfl, o280, o281⟩ := hP
          subst o281
          refine zz_lload_n (x := p0) rfl zd_5_3_52 ?_
          refine zz_bipush (by decide) zd_5_3_53 ?_
          refine zz_callSI [zl p0, zi 7] zd_5_3_55 zk_Line_21 rfl rfl ⟨Nat.le_of_ble_eq_true rfl, Nat.le_of_ble_eq_true rfl⟩ ⟨rfl, rfl⟩ (Nat.zero_le _) (Nat.zero_le _) (zc_get_12_2x_7 p0 S13 n hn G_S13 (by omega)) (fun v283 S282 hP => ?_)
          obtain ⟨rfl, o284, o285⟩ := hP
          subst o285
          have g286 := zz_G.r G_S13 1077 1 0 128 rfl rfl
          refine zz_callVV [.ref (100 + 11), zi (zz_fy p0 20 63), zi (zz_fy p0 26 31)] zd_5_3_58 zk_Line_45 zT_1077 (zz_ltn hn rfl) rfl rfl ⟨Nat.le_of_ble_eq_true rfl, Nat.le_of_ble_eq_true rfl⟩ ⟨rfl, rfl⟩ (Nat.zero_le _) (Nat.zero_le _) (zc_addPair_5_8 11 (zz_fy p0 20 63) (zz_fy p0 26 31) S13 n hn G_S13 (by omega) (by omega) (by omega)) (fun S287 hP => ?_)
          obtain ⟨G_S287, fS287, o289⟩ := hP
          have F_S287 := zz_fr.trans F_S13 fS287 rfl zz_nv
          refine zz_aload_n (x := 1077) rfl zd_5_3_61 ?_
          refine zz_ldcs (t := 13) (by decide +kernel) (by decide) zd_5_3_62 ?_
          refine zz_lload_n (x := p0) rfl zd_5_3_64 ?_
          refine zz_bipush (by decide) zd_5_3_65 ?_
          refine zz_callVV [.ref (100 + 13), zl p0, zi 8] zd_5_3_67 zk_Line_35 zT_1077 (zz_ltn hn rfl) rfl rfl ⟨Nat.le_of_ble_eq_true rfl, Nat.le_of_ble_eq_true rfl⟩ ⟨rfl, rfl⟩ (Nat.zero_le _) (Nat.zero_le _) (zc_addUnlessNothing_5_6 13 p0 8 S287 n hn G_S287 (by omega) (by omega) (by omega)) (fun S290 hP => ?_)
          obtain ⟨G_S290, fS290⟩ := hP
          have F_S290 := zz_fr.trans F_S287 fS290 rfl zz_nv
          refine zz_aload_n (x := 1077) rfl zd_5_3_70 ?_
          refine zz_ldcs (t := 14) (by decide +kernel) (by decide) zd_5_3_71 ?_
          refine zz_lload_n (x := p0) rfl zd_5_3_73 ?_
          refine zz_bipush (by decide) zd_5_3_74 ?_
          refine zz_callVV [.ref (100 + 14), zl p0, zi 9] zd_5_3_76 zk_Line_35 zT_1077 (zz_ltn hn rfl) rfl rfl ⟨Nat.le_of_ble_eq_true rfl, Nat.le_of_ble_eq_true rfl⟩ ⟨rfl, rfl⟩ (Nat.zero_le _) (Nat.zero_le _) (zc_addUnlessNothing_5_6 14 p0 9 S290 n hn G_S290 (by omega) (by omega) (by omega)) (fun S292 hP => ?_)
          obtain ⟨G_S292, fS292⟩ := hP
          have F_S292 := zz_fr.trans F_S290 fS292 rfl zz_nv
          refine zz_aload_n (x := 1077) rfl zd_5_3_79 ?_
          refine zz_ldcs (t := 15) (by decide +kernel) (by decide) zd_5_3_80 ?_
          refine zz_lload_n (x := p0) rfl zd_5_3_82 ?_
          refine zz_bipush (by decide) zd_5_3_83 ?_
          refine zz_callVV [.ref (100 + 15), zl p0, zi 10] zd_5_3_85 zk_Line_35 zT_1077 (zz_ltn hn rfl) rfl rfl ⟨Nat.le_of_ble_eq_true rfl, Nat.le_of_ble_eq_true rfl⟩ ⟨rfl, rfl⟩ (Nat.zero_le _) (Nat.zero_le _) (zc_addUnlessNothing_5_6 15 p0 10 S292 n hn G_S292 (by omega) (by omega) (by omega)) (fun S294 hP => ?_)
          obtain ⟨G_S294, fS294⟩ := hP
          have F_S294 := zz_fr.trans F_S292 fS294 rfl zz_nv
          refine zz_aload_n (x := 1077) rfl zd_5_3_88 ?_
          refine zz_ldcs (t := 16) (by decide +kernel) (by decide) zd_5_3_89 ?_
          refine zz_lload_n (x := p0) rfl zd_5_3_91 ?_
          refine zz_bipush (by decide) zd_5_3_92 ?_
          refine zz_callVV [.ref (100 + 16), zl p0, zi 11] zd_5_3_94 zk_Line_35 zT_1077 (zz_ltn hn rfl) rfl rfl ⟨Nat.le_of_ble_eq_true rfl, Nat.le_of_ble_eq_true rfl⟩ ⟨rfl, rfl⟩ (Nat.zero_le _) (Nat.zero_le _) (zc_addUnlessNothing_5_6 16 p0 11 S294 n hn G_S294 (by omega) (by omega) (by omega)) (fun S296 hP => ?_)
          obtain ⟨G_S296, fS296⟩ := hP
          have F_S296 := zz_fr.trans F_S294 fS296 rfl zz_nv
          refine zz_aload_n (x := 1077) rfl zd_5_3_97 ?_
          refine zz_lload_n (x := p0) rfl zd_5_3_98 ?_
          refine zz_iconst zd_5_3_99 ?_
          refine zz_callSI [zl p0, zi 1] zd_5_3_100 zk_Line_39 rfl rfl ⟨Nat.le_of_ble_eq_true rfl, Nat.le_of_ble_eq_true rfl⟩ ⟨rfl, rfl⟩ (Nat.zero_le _) (Nat.zero_le _) (zc_has_12_3x_1 p0 S296 n hn G_S296 (by omega)) (fun v299 S298 hP => ?_)
          obtain ⟨rfl, o300, o301⟩ := hP
          rcases (by omega : v299 = 0 ∨ v299 = 1) with rfl | rfl
          · refine zz_ldcs (t := 42) (by decide +kernel) (by decide) zd_5_3_103 ?_
            have g302 := zz_G.r G_S296 1077 1 0 128 rfl rfl
            refine zz_callVV [zi 0, .ref (100 + 42)] zd_5_3_105 zk_Line_59 zT_1077 (zz_ltn hn rfl) rfl rfl ⟨Nat.le_of_ble_eq_true rfl, Nat.le_of_ble_eq_true rfl⟩ ⟨rfl, rfl⟩ (Nat.zero_le _) (Nat.zero_le _) (zc_addIf_5_7 0 42 S296 n hn G_S296 (by omega) (by omega)) (fun S303 hP => ?_)
            obtain ⟨G_S303, fS303, o305⟩ := hP
            have F_S303 := zz_fr.trans F_S296 fS303 rfl zz_nv
            refine zz_aload_n (x := 1077) rfl zd_5_3_108 ?_
            refine zz_lload_n (x := p0) rfl zd_5_3_109 ?_
            refine zz_iconst zd_5_3_110 ?_
            refine zz_callSI [zl p0, zi 2] zd_5_3_111 zk_Line_39 rfl rfl ⟨Nat.le_of_ble_eq_true rfl, Nat.le_of_ble_eq_true rfl⟩ ⟨rfl, rfl⟩ (Nat.zero_le _) (Nat.zero_le _) (zc_has_12_3x_2 p0 S303 n hn G_S303 (by omega)) (fun v307 S306 hP => ?_)
            obtain ⟨rfl, o308, o309⟩ := hP
            rcases (by omega : v307 = 0 ∨ v307 = 1) with rfl | rfl
            · refine zz_ldcs (t := 43) (by decide +kernel) (by decide) zd_5_3_114 ?_
              have g310 := zz_G.r G_S303 1077 1 0 128 rfl rfl
              refine zz_callVV [zi 0, .ref (100 + 43)] zd_5_3_116 zk_Line_59 zT_1077 (zz_ltn hn rfl) rfl rfl ⟨Nat.le_of_ble_eq_true rfl, Nat.le_of_ble_eq_true rfl⟩ ⟨rfl, rfl⟩ (Nat.zero_le _) (Nat.zero_le _) (zc_addIf_5_7 0 43 S303 n hn G_S303 (by omega) (by omega)) (fun S311 hP => ?_)
              obtain ⟨G_S311, fS311, o313⟩ := hP
              have F_S311 := zz_fr.trans F_S303 fS311 rfl zz_nv
              refine zz_aload_n (x := 1077) rfl zd_5_3_119 ?_
              refine zz_lload_n (x := p0) rfl zd_5_3_120 ?_
              refine zz_iconst zd_5_3_121 ?_
              refine zz_callSI [zl p0, zi 3] zd_5_3_122 zk_Line_39 rfl rfl ⟨Nat.le_of_ble_eq_true rfl, Nat.le_of_ble_eq_true rfl⟩ ⟨rfl, rfl⟩ (Nat.zero_le _) (Nat.zero_le _) (zc_has_12_3x_3 p0 S311 n hn G_S311 (by omega)) (fun v315 S314 hP => ?_)
              obtain ⟨rfl, o316, o317⟩ := hP
              rcases (by omega : v315 = 0 ∨ v315 = 1) with rfl | rfl
              · refine zz_ldcs (t := 44) (by decide +kernel) (by decide) zd_5_3_125 ?_
                have g318 := zz_G.r G_S311 1077 1 0 128 rfl rfl
                refine zz_callVV [zi 0, .ref (100 + 44)] zd_5_3_127 zk_Line_59 zT_1077 (zz_ltn hn rfl) rfl rfl ⟨Nat.le_of_ble_eq_true rfl, Nat.le_of_ble_eq_true rfl⟩ ⟨rfl, rfl⟩ (Nat.zero_le _) (Nat.zero_le _) (zc_addIf_5_7 0 44 S311 n hn G_S311 (by omega) (by omega)) (fun S319 hP => ?_)
                obtain ⟨G_S319, fS319, o321⟩ := hP
                have F_S319 := zz_fr.trans F_S311 fS319 rfl zz_nv
                refine zz_aload_n (x := 1077) rfl zd_5_3_130 ?_
                refine zz_lload_n (x := p0) rfl zd_5_3_131 ?_
                refine zz_iconst zd_5_3_132 ?_
                refine zz_callSI [zl p0, zi 4] zd_5_3_133 zk_Line_39 rfl rfl ⟨Nat.le_of_ble_eq_true rfl, Nat.le_of_ble_eq_true rfl⟩ ⟨rfl, rfl⟩ (Nat.zero_le _) (Nat.zero_le _) (zc_has_12_3x_4 p0 S319 n hn G_S319 (by omega)) (fun v323 S322 hP => ?_)
                obtain ⟨rfl, o324, o325⟩ := hP
                rcases (by omega : v323 = 0 ∨ v323 = 1) with rfl | rfl
                · refine zz_ldcs (t := 45) (by decide +kernel) (by decide) zd_5_3_136 ?_
                  have g326 := zz_G.r G_S319 1077 1 0 128 rfl rfl
                  refine zz_callVV [zi 0, .ref (100 + 45)] zd_5_3_138 zk_Line_59 zT_1077 (zz_ltn hn rfl) rfl rfl ⟨Nat.le_of_ble_eq_true rfl, Nat.le_of_ble_eq_true rfl⟩ ⟨rfl, rfl⟩ (Nat.zero_le _) (Nat.zero_le _) (zc_addIf_5_7 0 45 S319 n hn G_S319 (by omega) (by omega)) (fun S327 hP => ?_)
                  obtain ⟨G_S327, fS327, o329⟩ := hP
                  have F_S327 := zz_fr.trans F_S319 fS327 rfl zz_nv
                  refine zz_aload_n (x := 1077) rfl zd_5_3_141 ?_
                  refine zz_bipush (by decide) zd_5_3_142 ?_
                  have g330 := zz_G.r G_S327 1077 1 0 128 rfl rfl
                  refine zz_callVV [zi 10] zd_5_3_144 zk_Line_69 zT_1077 (zz_ltn hn rfl) rfl rfl ⟨Nat.le_of_ble_eq_true rfl, Nat.le_of_ble_eq_true rfl⟩ ⟨rfl, rfl⟩ (Nat.zero_le _) (Nat.zero_le _) (zc_addSign_5_12 10 S327 n hn G_S327 (by omega)) (fun S331 hP => ?_)
                  obtain ⟨G_S331, fS331, o333⟩ := hP
                  have F_S331 := zz_fr.trans F_S327 fS331 rfl zz_nv
                  exact zz_vret zd_5_3_147 rfl (Nat.zero_le _) (Nat.zero_le _) ⟨_, rfl, G_S331, F_S331⟩
                · refine zz_ldcs (t := 45) (by decide +kernel) (by decide) zd_5_3_136 ?_
                  have g334 := zz_G.r G_S319 1077 1 0 128 rfl rfl
                  refine zz_callVV [zi 1, .ref (100 + 45)] zd_5_3_138 zk_Line_59 zT_1077 (zz_ltn hn rfl) rfl rfl ⟨Nat.le_of_ble_eq_true rfl, Nat.le_of_ble_eq_true rfl⟩ ⟨rfl, rfl⟩ (Nat.zero_le _) (Nat.zero_le _) (zc_addIf_5_7 1 45 S319 n hn G_S319 (by omega) (by omega)) (fun S335 hP => ?_)
                  obtain ⟨G_S335, fS335, o337⟩ := hP
                  have F_S335 := zz_fr.trans F_S319 fS335 rfl zz_nv
                  refine zz_aload_n (x := 1077) rfl zd_5_3_141 ?_
                  refine zz_bipush (by decide) zd_5_3_142 ?_
                  have g338 := zz_G.r G_S335 1077 1 0 128 rfl rfl
                  refine zz_callVV [zi 10] zd_5_3_144 zk_Line_69 zT_1077 (zz_ltn hn rfl) rfl rfl ⟨Nat.le_of_ble_eq_true rfl, Nat.le_of_ble_eq_true rfl⟩ ⟨rfl, rfl⟩ (Nat.zero_le _) (Nat.zero_le _) (zc_addSign_5_12 10 S335 n hn G_S335 (by omega)) (fun S339 hP => ?_)
                  obtain ⟨G_S339, fS339, o341⟩ := hP
                  have F_S339 := zz_fr.trans F_S335 fS339 rfl zz_nv
                  exact zz_vret zd_5_3_147 rfl (Nat.zero_le _) (Nat.zero_le _) ⟨_, rfl, G_S339, F_S339⟩
              · refine zz_ldcs (t := 44) (by decide +kernel) (by decide) zd_5_3_125 ?_
                have g342 := zz_G.r G_S311 1077 1 0 128 rfl rfl
                refine zz_callVV [zi 1, .ref (100 + 44)] zd_5_3_127 zk_Line_59 zT_1077 (zz_ltn hn rfl) rfl rfl ⟨Nat.le_of_ble_eq_true rfl, Nat.le_of_ble_eq_true rfl⟩ ⟨rfl, rfl⟩ (Nat.zero_le _) (Nat.zero_le _) (zc_addIf_5_7 1 44 S311 n hn G_S311 (by omega) (by omega)) (fun S343 hP => ?_)
                obtain ⟨G_S343, fS343, o345⟩ := hP
                have F_S343 := zz_fr.trans F_S311 fS343 rfl zz_nv
                refine zz_aload_n (x := 1077) rfl zd_5_3_130 ?_
                refine zz_lload_n (x := p0) rfl zd_5_3_131 ?_
                refine zz_iconst zd_5_3_132 ?_
                refine zz_callSI [zl p0, zi 4] zd_5_3_133 zk_Line_39 rfl rfl ⟨Nat.le_of_ble_eq_true rfl, Nat.le_of_ble_eq_true rfl⟩ ⟨rfl, rfl⟩ (Nat.zero_le _) (Nat.zero_le _) (zc_has_12_3x_4 p0 S343 n hn G_S343 (by omega)) (fun v347 S346 hP => ?_)
                obtain ⟨rfl, o348, o349⟩ := hP
                rcases (by omega : v347 = 0 ∨ v347 = 1) with rfl | rfl
                · refine zz_ldcs (t := 45) (by decide +kernel) (by decide) zd_5_3_136 ?_
                  have g350 := zz_G.r G_S343 1077 1 0 128 rfl rfl
                  refine zz_callVV [zi 0, .ref (100 + 45)] zd_5_3_138 zk_Line_59 zT_1077 (zz_ltn hn rfl) rfl rfl ⟨Nat.le_of_ble_eq_true rfl, Nat.le_of_ble_eq_true rfl⟩ ⟨rfl, rfl⟩ (Nat.zero_le _) (Nat.zero_le _) (zc_addIf_5_7 0 45 S343 n hn G_S343 (by omega) (by omega)) (fun S351 hP => ?_)
                  obtain ⟨G_S351, fS351, o353⟩ := hP
                  have F_S351 := zz_fr.trans F_S343 fS351 rfl zz_nv
                  refine zz_aload_n (x := 1077) rfl zd_5_3_141 ?_
                  refine zz_bipush (by decide) zd_5_3_142 ?_
                  have g354 := zz_G.r G_S351 1077 1 0 128 rfl rfl
                  refine zz_callVV [zi 10] zd_5_3_144 zk_Line_69 zT_1077 (zz_ltn hn rfl) rfl rfl ⟨Nat.le_of_ble_eq_true rfl, Nat.le_of_ble_eq_true rfl⟩ ⟨rfl, rfl⟩ (Nat.zero_le _) (Nat.zero_le _) (zc_addSign_5_12 10 S351 n hn G_S351 (by omega)) (fun S355 hP => ?_)
                  obtain ⟨G_S355, fS355, o357⟩ := hP
                  have F_S355 := zz_fr.trans F_S351 fS355 rfl zz_nv
                  exact zz_vret zd_5_3_147 rfl (Nat.zero_le _) (Nat.zero_le _) ⟨_, rfl, G_S355, F_S355⟩
                · refine zz_ldcs (t := 45) (by decide +kernel) (by decide) zd_5_3_136 ?_
                  have g358 := zz_G.r G_S343 1077 1 0 128 rfl rfl
                  refine zz_callVV [zi 1, .ref (100 + 45)] zd_5_3_138 zk_Line_59 zT_1077 (zz_ltn hn rfl) rfl rfl ⟨Nat.le_of_ble_eq_true rfl, Nat.le_of_ble_eq_true rfl⟩ ⟨rfl, rfl⟩ (Nat.zero_le _) (Nat.zero_le _) (zc_addIf_5_7 1 45 S343 n hn G_S343 (by omega) (by omega)) (fun S359 hP => ?_)
                  obtain ⟨G_S359, fS359, o361⟩ := hP
                  have F_S359 := zz_fr.trans F_S343 fS359 rfl zz_nv
                  refine zz_aload_n (x := 1077) rfl zd_5_3_141 ?_
                  refine zz_bipush (by decide) zd_5_3_142 ?_
                  have g362 := zz_G.r G_S359 1077 1 0 128 rfl rfl
                  refine zz_callVV [zi 10] zd_5_3_144 zk_Line_69 zT_1077 (zz_ltn hn rfl) rfl rfl ⟨Nat.le_of_ble_eq_true rfl, Nat.le_of_ble_eq_true rfl⟩ ⟨rfl, rfl⟩ (Nat.zero_le _) (Nat.zero_le _) (zc_addSign_5_12 10 S359 n hn G_S359 (by omega)) (fun S363 hP => ?_)
                  obtain ⟨G_S363, fS363, o365⟩ := hP
                  have F_S363 := zz_fr.trans F_S359 fS363 rfl zz_nv
                  exact zz_vret zd_5_3_147 rfl (Nat.zero_le _) (Nat.zero_le _) ⟨_, rfl, G_S363, F_S363⟩
            · refine zz_ldcs (t := 43) (by decide +kernel) (by decide) zd_5_3_114 ?_
              have g366 := zz_G.r G_S303 1077 1 0 128 rfl rfl
              refine zz_callVV [zi 1, .ref (100 + 43)] zd_5_3_116 zk_Line_59 zT_1077 (zz_ltn hn rfl) rfl rfl ⟨Nat.le_of_ble_eq_true rfl, Nat.le_of_ble_eq_true rfl⟩ ⟨rfl, rfl⟩ (Nat.zero_le _) (Nat.zero_le _) (zc_addIf_5_7 1 43 S303 n hn G_S303 (by omega) (by omega)) (fun S367 hP => ?_)
              obtain ⟨G_S367, fS367, o369⟩ := hP
              have F_S367 := zz_fr.trans F_S303 fS367 rfl zz_nv
              refine zz_aload_n (x := 1077) rfl zd_5_3_119 ?_
              refine zz_lload_n (x := p0) rfl zd_5_3_120 ?_
              refine zz_iconst zd_5_3_121 ?_
              refine zz_callSI [zl p0, zi 3] zd_5_3_122 zk_Line_39 rfl rfl ⟨Nat.le_of_ble_eq_true rfl, Nat.le_of_ble_eq_true rfl⟩ ⟨rfl, rfl⟩ (Nat.zero_le _) (Nat.zero_le _) (zc_has_12_3x_3 p0 S367 n hn G_S367 (by omega)) (fun v371 S370 hP => ?_)
              obtain ⟨rfl, o372, o373⟩ := hP
              rcases (by omega : v371 = 0 ∨ v371 = 1) with rfl | rfl
              · refine zz_ldcs (t := 44) (by decide +kernel) (by decide) zd_5_3_125 ?_
                have g374 := zz_G.r G_S367 1077 1 0 128 rfl rfl
                refine zz_callVV [zi 0, .ref (100 + 44)] zd_5_3_127 zk_Line_59 zT_1077 (zz_ltn hn rfl) rfl rfl ⟨Nat.le_of_ble_eq_true rfl, Nat.le_of_ble_eq_true rfl⟩ ⟨rfl, rfl⟩ (Nat.zero_le _) (Nat.zero_le _) (zc_addIf_5_7 0 44 S367 n hn G_S367 (by omega) (by omega)) (fun S375 hP => ?_)
                obtain ⟨G_S375, fS375, o377⟩ := hP
                have F_S375 := zz_fr.trans F_S367 fS375 rfl zz_nv
                refine zz_aload_n (x := 1077) rfl zd_5_3_130 ?_
                refine zz_lload_n (x := p0) rfl zd_5_3_131 ?_
                refine zz_iconst zd_5_3_132 ?_
                refine zz_callSI [zl p0, zi 4] zd_5_3_133 zk_Line_39 rfl rfl ⟨Nat.le_of_ble_eq_true rfl, Nat.le_of_ble_eq_true rfl⟩ ⟨rfl, rfl⟩ (Nat.zero_le _) (Nat.zero_le _) (zc_has_12_3x_4 p0 S375 n hn G_S375 (by omega)) (fun v379 S378 hP => ?_)
                obtain ⟨rfl, o380, o381⟩ := hP
                rcases (by omega : v379 = 0 ∨ v379 = 1) with rfl | rfl
                · refine zz_ldcs (t := 45) (by decide +kernel) (by decide) zd_5_3_136 ?_
                  have g382 := zz_G.r G_S375 1077 1 0 128 rfl rfl
                  refine zz_callVV [zi 0, .ref (100 + 45)] zd_5_3_138 zk_Line_59 zT_1077 (zz_ltn hn rfl) rfl rfl ⟨Nat.le_of_ble_eq_true rfl, Nat.le_of_ble_eq_true rfl⟩ ⟨rfl, rfl⟩ (Nat.zero_le _) (Nat.zero_le _) (zc_addIf_5_7 0 45 S375 n hn G_S375 (by omega) (by omega)) (fun S383 hP => ?_)
                  obtain ⟨G_S383, fS383, o385⟩ := hP
                  have F_S383 := zz_fr.trans F_S375 fS383 rfl zz_nv
                  refine zz_aload_n (x := 1077) rfl zd_5_3_141 ?_
                  refine zz_bipush (by decide) zd_5_3_142 ?_
                  have g386 := zz_G.r G_S383 1077 1 0 128 rfl rfl
                  refine zz_callVV [zi 10] zd_5_3_144 zk_Line_69 zT_1077 (zz_ltn hn rfl) rfl rfl ⟨Nat.le_of_ble_eq_true rfl, Nat.le_of_ble_eq_true rfl⟩ ⟨rfl, rfl⟩ (Nat.zero_le _) (Nat.zero_le _) (zc_addSign_5_12 10 S383 n hn G_S383 (by omega)) (fun S387 hP => ?_)
                  obtain ⟨G_S387, fS387, o389⟩ := hP
                  have F_S387 := zz_fr.trans F_S383 fS387 rfl zz_nv
                  exact zz_vret zd_5_3_147 rfl (Nat.zero_le _) (Nat.zero_le _) ⟨_, rfl, G_S387, F_S387⟩
                · refine zz_ldcs (t := 45) (by decide +kernel) (by decide) zd_5_3_136 ?_
                  have g390 := zz_G.r G_S375 1077 1 0 128 rfl rfl
                  refine zz_callVV [zi 1, .ref (100 + 45)] zd_5_3_138 zk_Line_59 zT_1077 (zz_ltn hn rfl) rfl rfl ⟨Nat.le_of_ble_eq_true rfl, Nat.le_of_ble_eq_true rfl⟩ ⟨rfl, rfl⟩ (Nat.zero_le _) (Nat.zero_le _) (zc_addIf_5_7 1 45 S375 n hn G_S375 (by omega) (by omega)) (fun S391 hP => ?_)
                  obtain ⟨G_S391, fS391, o393⟩ := hP
                  have F_S391 := zz_fr.trans F_S375 fS391 rfl zz_nv
                  refine zz_aload_n (x := 1077) rfl zd_5_3_141 ?_
                  refine zz_bipush (by decide) zd_5_3_142 ?_
                  have g394 := zz_G.r G_S391 1077 1 0 128 rfl rfl
                  refine zz_callVV [zi 10] zd_5_3_144 zk_Line_69 zT_1077 (zz_ltn hn rfl) rfl rfl ⟨Nat.le_of_ble_eq_true rfl, Nat.le_of_ble_eq_true rfl⟩ ⟨rfl, rfl⟩ (Nat.zero_le _) (Nat.zero_le _) (zc_addSign_5_12 10 S391 n hn G_S391 (by omega)) (fun S395 hP => ?_)
                  obtain ⟨G_S395, fS395, o397⟩ := hP
                  have F_S395 := zz_fr.trans F_S391 fS395 rfl zz_nv
                  exact zz_vret zd_5_3_147 rfl (Nat.zero_le _) (Nat.zero_le _) ⟨_, rfl, G_S395, F_S395⟩
              · refine zz_ldcs (t := 44) (by decide +kernel) (by decide) zd_5_3_125 ?_
                have g398 := zz_G.r G_S367 1077 1 0 128 rfl rfl
                refine zz_callVV [zi 1, .ref (100 + 44)] zd_5_3_127 zk_Line_59 zT_1077 (zz_ltn hn rfl) rfl rfl ⟨Nat.le_of_ble_eq_true rfl, Nat.le_of_ble_eq_true rfl⟩ ⟨rfl, rfl⟩ (Nat.zero_le _) (Nat.zero_le _) (zc_addIf_5_7 1 44 S367 n hn G_S367 (by omega) (by omega)) (fun S399 hP => ?_)
                obtain ⟨G_S399, fS399, o401⟩ := hP
                have F_S399 := zz_fr.trans F_S367 fS399 rfl zz_nv
                refine zz_aload_n (x := 1077) rfl zd_5_3_130 ?_
                refine zz_lload_n (x := p0) rfl zd_5_3_131 ?_
                refine zz_iconst zd_5_3_132 ?_
                refine zz_callSI [zl p0, zi 4] zd_5_3_133 zk_Line_39 rfl rfl ⟨Nat.le_of_ble_eq_true rfl, Nat.le_of_ble_eq_true rfl⟩ ⟨rfl, rfl⟩ (Nat.zero_le _) (Nat.zero_le _) (zc_has_12_3x_4 p0 S399 n hn G_S399 (by omega)) (fun v403 S402 hP => ?_)
                obtain ⟨rfl, o404, o405⟩ := hP
                rcases (by omega : v403 = 0 ∨ v403 = 1) with rfl | rfl
                · refine zz_ldcs (t := 45) (by decide +kernel) (by decide) zd_5_3_136 ?_
                  have g406 := zz_G.r G_S399 1077 1 0 128 rfl rfl
                  refine zz_callVV [zi 0, .ref (100 + 45)] zd_5_3_138 zk_Line_59 zT_1077 (zz_ltn hn rfl) rfl rfl ⟨Nat.le_of_ble_eq_true rfl, Nat.le_of_ble_eq_true rfl⟩ ⟨rfl, rfl⟩ (Nat.zero_le _) (Nat.zero_le _) (zc_addIf_5_7 0 45 S399 n hn G_S399 (by omega) (by omega)) (fun S407 hP => ?_)
                  obtain ⟨G_S407, fS407, o409⟩ := hP
                  have F_S407 := zz_fr.trans F_S399 fS407 rfl zz_nv
                  refine zz_aload_n (x := 1077) rfl zd_5_3_141 ?_
                  refine zz_bipush (by decide) zd_5_3_142 ?_
                  have g410 := zz_G.r G_S407 1077 1 0 128 rfl rfl
                  refine zz_callVV [zi 10] zd_5_3_144 zk_Line_69 zT_1077 (zz_ltn hn rfl) rfl rfl ⟨Nat.le_of_ble_eq_true rfl, Nat.le_of_ble_eq_true rfl⟩ ⟨rfl, rfl⟩ (Nat.zero_le _) (Nat.zero_le _) (zc_addSign_5_12 10 S407 n hn G_S407 (by omega)) (fun S411 hP => ?_)
                  obtain ⟨G_S411, fS411, o413⟩ := hP
                  have F_S411 := zz_fr.trans F_S407 fS411 rfl zz_nv
                  exact zz_vret zd_5_3_147 rfl (Nat.zero_le _) (Nat.zero_le _) ⟨_, rfl, G_S411, F_S411⟩
                · refine zz_ldcs (t := 45) (by decide +kernel) (by decide) zd_5_3_136 ?_
                  have g414 := zz_G.r G_S399 1077 1 0 128 rfl rfl
                  refine zz_callVV [zi 1, .ref (100 + 45)] zd_5_3_138 zk_Line_59 zT_1077 (zz_ltn hn rfl) rfl rfl ⟨Nat.le_of_ble_eq_true rfl, Nat.le_of_ble_eq_true rfl⟩ ⟨rfl, rfl⟩ (Nat.zero_le _) (Nat.zero_le _) (zc_addIf_5_7 1 45 S399 n hn G_S399 (by omega) (by omega)) (fun S415 hP => ?_)
                  obtain ⟨G_S415, fS415, o417⟩ := hP
                  have F_S415 := zz_fr.trans F_S399 fS415 rfl zz_nv
                  refine zz_aload_n (x := 1077) rfl zd_5_3_141 ?_
                  refine zz_bipush (by decide) zd_5_3_142 ?_
                  have g418 := zz_G.r G_S415 1077 1 0 128 rfl rfl
                  refine zz_callVV [zi 10] zd_5_3_144 zk_Line_69 zT_1077 (zz_ltn hn rfl) rfl rfl ⟨Nat.le_of_ble_eq_true rfl, Nat.le_of_ble_eq_true rfl⟩ ⟨rfl, rfl⟩ (Nat.zero_le _) (Nat.zero_le _) (zc_addSign_5_12 10 S415 n hn G_S415 (by omega)) (fun S419 hP => ?_)
                  obtain ⟨G_S419, fS419, o421⟩ := hP
                  have F_S419 := zz_fr.trans F_S415 fS419 rfl zz_nv
                  exact zz_vret zd_5_3_147 rfl (Nat.zero_le _) (Nat.zero_le _) ⟨_, rfl, G_S419, F_S419⟩
          · refine zz_ldcs (t := 42) (by decide +kernel) (by decide) zd_5_3_103 ?_
            have g422 := zz_G.r G_S296 1077 1 0 128 rfl rfl
            refine zz_callVV [zi 1, .ref (100 + 42)] zd_5_3_105 zk_Line_59 zT_1077 (zz_ltn hn rfl) rfl rfl ⟨Nat.le_of_ble_eq_true rfl, Nat.le_of_ble_eq_true rfl⟩ ⟨rfl, rfl⟩ (Nat.zero_le _) (Nat.zero_le _) (zc_addIf_5_7 1 42 S296 n hn G_S296 (by omega) (by omega)) (fun S423 hP => ?_)
            obtain ⟨G_S423, fS423, o425⟩ := hP
            have F_S423 := zz_fr.trans F_S296 fS423 rfl zz_nv
            refine zz_aload_n (x := 1077) rfl zd_5_3_108 ?_
            refine zz_lload_n (x := p0) rfl zd_5_3_109 ?_
            refine zz_iconst zd_5_3_110 ?_
            refine zz_callSI [zl p0, zi 2] zd_5_3_111 zk_Line_39 rfl rfl ⟨Nat.le_of_ble_eq_true rfl, Nat.le_of_ble_eq_true rfl⟩ ⟨rfl, rfl⟩ (Nat.zero_le _) (Nat.zero_le _) (zc_has_12_3x_2 p0 S423 n hn G_S423 (by omega)) (fun v427 S426 hP => ?_)
            obtain ⟨rfl, o428, o429⟩ := hP
            rcases (by omega : v427 = 0 ∨ v427 = 1) with rfl | rfl
            · refine zz_ldcs (t := 43) (by decide +kernel) (by decide) zd_5_3_114 ?_
              have g430 := zz_G.r G_S423 1077 1 0 128 rfl rfl
              refine zz_callVV [zi 0, .ref (100 + 43)] zd_5_3_116 zk_Line_59 zT_1077 (zz_ltn hn rfl) rfl rfl ⟨Nat.le_of_ble_eq_true rfl, Nat.le_of_ble_eq_true rfl⟩ ⟨rfl, rfl⟩ (Nat.zero_le _) (Nat.zero_le _) (zc_addIf_5_7 0 43 S423 n hn G_S423 (by omega) (by omega)) (fun S431 hP => ?_)
              obtain ⟨G_S431, fS431, o433⟩ := hP
              have F_S431 := zz_fr.trans F_S423 fS431 rfl zz_nv
              refine zz_aload_n (x := 1077) rfl zd_5_3_119 ?_
              refine zz_lload_n (x := p0) rfl zd_5_3_120 ?_
              refine zz_iconst zd_5_3_121 ?_
              refine zz_callSI [zl p0, zi 3] zd_5_3_122 zk_Line_39 rfl rfl ⟨Nat.le_of_ble_eq_true rfl, Nat.le_of_ble_eq_true rfl⟩ ⟨rfl, rfl⟩ (Nat.zero_le _) (Nat.zero_le _) (zc_has_12_3x_3 p0 S431 n hn G_S431 (by omega)) (fun v435 S434 hP => ?_)
              obtain ⟨rfl, o436, o437⟩ := hP
              rcases (by omega : v435 = 0 ∨ v435 = 1) with rfl | rfl
              · refine zz_ldcs (t := 44) (by decide +kernel) (by decide) zd_5_3_125 ?_
                have g438 := zz_G.r G_S431 1077 1 0 128 rfl rfl
                refine zz_callVV [zi 0, .ref (100 + 44)] zd_5_3_127 zk_Line_59 zT_1077 (zz_ltn hn rfl) rfl rfl ⟨Nat.le_of_ble_eq_true rfl, Nat.le_of_ble_eq_true rfl⟩ ⟨rfl, rfl⟩ (Nat.zero_le _) (Nat.zero_le _) (zc_addIf_5_7 0 44 S431 n hn G_S431 (by omega) (by omega)) (fun S439 hP => ?_)
                obtain ⟨G_S439, fS439, o441⟩ := hP
                have F_S439 := zz_fr.trans F_S431 fS439 rfl zz_nv
                refine zz_aload_n (x := 1077) rfl zd_5_3_130 ?_
                refine zz_lload_n (x := p0) rfl zd_5_3_131 ?_
                refine zz_iconst zd_5_3_132 ?_
                refine zz_callSI [zl p0, zi 4] zd_5_3_133 zk_Line_39 rfl rfl ⟨Nat.le_of_ble_eq_true rfl, Nat.le_of_ble_eq_true rfl⟩ ⟨rfl, rfl⟩ (Nat.zero_le _) (Nat.zero_le _) (zc_has_12_3x_4 p0 S439 n hn G_S439 (by omega)) (fun v443 S442 hP => ?_)
                obtain ⟨rfl, o444, o445⟩ := hP
                rcases (by omega : v443 = 0 ∨ v443 = 1) with rfl | rfl
                · refine zz_ldcs (t := 45) (by decide +kernel) (by decide) zd_5_3_136 ?_
                  have g446 := zz_G.r G_S439 1077 1 0 128 rfl rfl
                  refine zz_callVV [zi 0, .ref (100 + 45)] zd_5_3_138 zk_Line_59 zT_1077 (zz_ltn hn rfl) rfl rfl ⟨Nat.le_of_ble_eq_true rfl, Nat.le_of_ble_eq_true rfl⟩ ⟨rfl, rfl⟩ (Nat.zero_le _) (Nat.zero_le _) (zc_addIf_5_7 0 45 S439 n hn G_S439 (by omega) (by omega)) (fun S447 hP => ?_)
                  obtain ⟨G_S447, fS447, o449⟩ := hP
                  have F_S447 := zz_fr.trans F_S439 fS447 rfl zz_nv
                  refine zz_aload_n (x := 1077) rfl zd_5_3_141 ?_
                  refine zz_bipush (by decide) zd_5_3_142 ?_
                  have g450 := zz_G.r G_S447 1077 1 0 128 rfl rfl
                  refine zz_callVV [zi 10] zd_5_3_144 zk_Line_69 zT_1077 (zz_ltn hn rfl) rfl rfl ⟨Nat.le_of_ble_eq_true rfl, Nat.le_of_ble_eq_true rfl⟩ ⟨rfl, rfl⟩ (Nat.zero_le _) (Nat.zero_le _) (zc_addSign_5_12 10 S447 n hn G_S447 (by omega)) (fun S451 hP => ?_)
                  obtain ⟨G_S451, fS451, o453⟩ := hP
                  have F_S451 := zz_fr.trans F_S447 fS451 rfl zz_nv
                  exact zz_vret zd_5_3_147 rfl (Nat.zero_le _) (Nat.zero_le _) ⟨_, rfl, G_S451, F_S451⟩
                · refine zz_ldcs (t := 45) (by decide +kernel) (by decide) zd_5_3_136 ?_
                  have g454 := zz_G.r G_S439 1077 1 0 128 rfl rfl
                  refine zz_callVV [zi 1, .ref (100 + 45)] zd_5_3_138 zk_Line_59 zT_1077 (zz_ltn hn rfl) rfl rfl ⟨Nat.le_of_ble_eq_true rfl, Nat.le_of_ble_eq_true rfl⟩ ⟨rfl, rfl⟩ (Nat.zero_le _) (Nat.zero_le _) (zc_addIf_5_7 1 45 S439 n hn G_S439 (by omega) (by omega)) (fun S455 hP => ?_)
                  obtain ⟨G_S455, fS455, o457⟩ := hP
                  have F_S455 := zz_fr.trans F_S439 fS455 rfl zz_nv
                  refine zz_aload_n (x := 1077) rfl zd_5_3_141 ?_
                  refine zz_bipush (by decide) zd_5_3_142 ?_
                  have g458 := zz_G.r G_S455 1077 1 0 128 rfl rfl
                  refine zz_callVV [zi 10] zd_5_3_144 zk_Line_69 zT_1077 (zz_ltn hn rfl) rfl rfl ⟨Nat.le_of_ble_eq_true rfl, Nat.le_of_ble_eq_true rfl⟩ ⟨rfl, rfl⟩ (Nat.zero_le _) (Nat.zero_le _) (zc_addSign_5_12 10 S455 n hn G_S455 (by omega)) (fun S459 hP => ?_)
                  obtain ⟨G_S459, fS459, o461⟩ := hP
                  have F_S459 := zz_fr.trans F_S455 fS459 rfl zz_nv
                  exact zz_vret zd_5_3_147 rfl (Nat.zero_le _) (Nat.zero_le _) ⟨_, rfl, G_S459, F_S459⟩
              · refine zz_ldcs (t := 44) (by decide +kernel) (by decide) zd_5_3_125 ?_
                have g462 := zz_G.r G_S431 1077 1 0 128 rfl rfl
                refine zz_callVV [zi 1, .ref (100 + 44)] zd_5_3_127 zk_Line_59 zT_1077 (zz_ltn hn rfl) rfl rfl ⟨Nat.le_of_ble_eq_true rfl, Nat.le_of_ble_eq_true rfl⟩ ⟨rfl, rfl⟩ (Nat.zero_le _) (Nat.zero_le _) (zc_addIf_5_7 1 44 S431 n hn G_S431 (by omega) (by omega)) (fun S463 hP => ?_)
                obtain ⟨G_S463, fS463, o465⟩ := hP
                have F_S463 := zz_fr.trans F_S431 fS463 rfl zz_nv
                refine zz_aload_n (x := 1077) rfl zd_5_3_130 ?_
                refine zz_lload_n (x := p0) rfl zd_5_3_131 ?_
                refine zz_iconst zd_5_3_132 ?_
                refine zz_callSI [zl p0, zi 4] zd_5_3_133 zk_Line_39 rfl rfl ⟨Nat.le_of_ble_eq_true rfl, Nat.le_of_ble_eq_true rfl⟩ ⟨rfl, rfl⟩ (Nat.zero_le _) (Nat.zero_le _) (zc_has_12_3x_4 p0 S463 n hn G_S463 (by omega)) (fun v467 S466 hP => ?_)
                obtain ⟨rfl, o468, o469⟩ := hP
                rcases (by omega : v467 = 0 ∨ v467 = 1) with rfl | rfl
                · refine zz_ldcs (t := 45) (by decide +kernel) (by decide) zd_5_3_136 ?_
                  have g470 := zz_G.r G_S463 1077 1 0 128 rfl rfl
                  refine zz_callVV [zi 0, .ref (100 + 45)] zd_5_3_138 zk_Line_59 zT_1077 (zz_ltn hn rfl) rfl rfl ⟨Nat.le_of_ble_eq_true rfl, Nat.le_of_ble_eq_true rfl⟩ ⟨rfl, rfl⟩ (Nat.zero_le _) (Nat.zero_le _) (zc_addIf_5_7 0 45 S463 n hn G_S463 (by omega) (by omega)) (fun S471 hP => ?_)
                  obtain ⟨G_S471, fS471, o473⟩ := hP
                  have F_S471 := zz_fr.trans F_S463 fS471 rfl zz_nv
                  refine zz_aload_n (x := 1077) rfl zd_5_3_141 ?_
                  refine zz_bipush (by decide) zd_5_3_142 ?_
                  have g474 := zz_G.r G_S471 1077 1 0 128 rfl rfl
                  refine zz_callVV [zi 10] zd_5_3_144 zk_Line_69 zT_1077 (zz_ltn hn rfl) rfl rfl ⟨Nat.le_of_ble_eq_true rfl, Nat.le_of_ble_eq_true rfl⟩ ⟨rfl, rfl⟩ (Nat.zero_le _) (Nat.zero_le _) (zc_addSign_5_12 10 S471 n hn G_S471 (by omega)) (fun S475 hP => ?_)
                  obtain ⟨G_S475, fS475, o477⟩ := hP
                  have F_S475 := zz_fr.trans F_S471 fS475 rfl zz_nv
                  exact zz_vret zd_5_3_147 rfl (Nat.zero_le _) (Nat.zero_le _) ⟨_, rfl, G_S475, F_S475⟩
                · refine zz_ldcs (t := 45) (by decide +kernel) (by decide) zd_5_3_136 ?_
                  have g478 := zz_G.r G_S463 1077 1 0 128 rfl rfl
                  refine zz_callVV [zi 1, .ref (100 + 45)] zd_5_3_138 zk_Line_59 zT_1077 (zz_ltn hn rfl) rfl rfl ⟨Nat.le_of_ble_eq_true rfl, Nat.le_of_ble_eq_true rfl⟩ ⟨rfl, rfl⟩ (Nat.zero_le _) (Nat.zero_le _) (zc_addIf_5_7 1 45 S463 n hn G_S463 (by omega) (by omega)) (fun S479 hP => ?_)
                  obtain ⟨G_S479, fS479, o481⟩ := hP
                  have F_S479 := zz_fr.trans F_S463 fS479 rfl zz_nv
                  refine zz_aload_n (x := 1077) rfl zd_5_3_141 ?_
                  refine zz_bipush (by decide) zd_5_3_142 ?_
                  have g482 := zz_G.r G_S479 1077 1 0 128 rfl rfl
                  refine zz_callVV [zi 10] zd_5_3_144 zk_Line_69 zT_1077 (zz_ltn hn rfl) rfl rfl ⟨Nat.le_of_ble_eq_true rfl, Nat.le_of_ble_eq_true rfl⟩ ⟨rfl, rfl⟩ (Nat.zero_le _) (Nat.zero_le _) (zc_addSign_5_12 10 S479 n hn G_S479 (by omega)) (fun S483 hP => ?_)
                  obtain ⟨G_S483, fS483, o485⟩ := hP
                  have F_S483 := zz_fr.trans F_S479 fS483 rfl zz_nv
                  exact zz_vret zd_5_3_147 rfl (Nat.zero_le _) (Nat.zero_le _) ⟨_, rfl, G_S483, F_S483⟩
            · refine zz_ldcs (t := 43) (by decide +kernel) (by decide) zd_5_3_114 ?_
              have g486 := zz_G.r G_S423 1077 1 0 128 rfl rfl
              refine zz_callVV [zi 1, .ref (100 + 43)] zd_5_3_116 zk_Line_59 zT_1077 (zz_ltn hn rfl) rfl rfl ⟨Nat.le_of_ble_eq_true rfl, Nat.le_of_ble_eq_true rfl⟩ ⟨rfl, rfl⟩ (Nat.zero_le _) (Nat.zero_le _) (zc_addIf_5_7 1 43 S423 n hn G_S423 (by omega) (by omega)) (fun S487 hP => ?_)
              obtain ⟨G_S487, fS487, o489⟩ := hP
              have F_S487 := zz_fr.trans F_S423 fS487 rfl zz_nv
              refine zz_aload_n (x := 1077) rfl zd_5_3_119 ?_
              refine zz_lload_n (x := p0) rfl zd_5_3_120 ?_
              refine zz_iconst zd_5_3_121 ?_
              refine zz_callSI [zl p0, zi 3] zd_5_3_122 zk_Line_39 rfl rfl ⟨Nat.le_of_ble_eq_true rfl, Nat.le_of_ble_eq_true rfl⟩ ⟨rfl, rfl⟩ (Nat.zero_le _) (Nat.zero_le _) (zc_has_12_3x_3 p0 S487 n hn G_S487 (by omega)) (fun v491 S490 hP => ?_)
              obtain ⟨rfl, o492, o493⟩ := hP
              rcases (by omega : v491 = 0 ∨ v491 = 1) with rfl | rfl
              · refine zz_ldcs (t := 44) (by decide +kernel) (by decide) zd_5_3_125 ?_
                have g494 := zz_G.r G_S487 1077 1 0 128 rfl rfl
                refine zz_callVV [zi 0, .ref (100 + 44)] zd_5_3_127 zk_Line_59 zT_1077 (zz_ltn hn rfl) rfl rfl ⟨Nat.le_of_ble_eq_true rfl, Nat.le_of_ble_eq_true rfl⟩ ⟨rfl, rfl⟩ (Nat.zero_le _) (Nat.zero_le _) (zc_addIf_5_7 0 44 S487 n hn G_S487 (by omega) (by omega)) (fun S495 hP => ?_)
                obtain ⟨G_S495, fS495, o497⟩ := hP
                have F_S495 := zz_fr.trans F_S487 fS495 rfl zz_nv
                refine zz_aload_n (x := 1077) rfl zd_5_3_130 ?_
                refine zz_lload_n (x := p0) rfl zd_5_3_131 ?_
                refine zz_iconst zd_5_3_132 ?_
                refine zz_callSI [zl p0, zi 4] zd_5_3_133 zk_Line_39 rfl rfl ⟨Nat.le_of_ble_eq_true rfl, Nat.le_of_ble_eq_true rfl⟩ ⟨rfl, rfl⟩ (Nat.zero_le _) (Nat.zero_le _) (zc_has_12_3x_4 p0 S495 n hn G_S495 (by omega)) (fun v499 S498 hP => ?_)
                obtain ⟨rfl, o500, o501⟩ := hP
                rcases (by omega : v499 = 0 ∨ v499 = 1) with rfl | rfl
                · refine zz_ldcs (t := 45) (by decide +kernel) (by decide) zd_5_3_136 ?_
                  have g502 := zz_G.r G_S495 1077 1 0 128 rfl rfl
                  refine zz_callVV [zi 0, .ref (100 + 45)] zd_5_3_138 zk_Line_59 zT_1077 (zz_ltn hn rfl) rfl rfl ⟨Nat.le_of_ble_eq_true rfl, Nat.le_of_ble_eq_true rfl⟩ ⟨rfl, rfl⟩ (Nat.zero_le _) (Nat.zero_le _) (zc_addIf_5_7 0 45 S495 n hn G_S495 (by omega) (by omega)) (fun S503 hP => ?_)
                  obtain ⟨G_S503, fS503, o505⟩ := hP
                  have F_S503 := zz_fr.trans F_S495 fS503 rfl zz_nv
                  refine zz_aload_n (x := 1077) rfl zd_5_3_141 ?_
                  refine zz_bipush (by decide) zd_5_3_142 ?_
                  have g506 := zz_G.r G_S503 1077 1 0 128 rfl rfl
                  refine zz_callVV [zi 10] zd_5_3_144 zk_Line_69 zT_1077 (zz_ltn hn rfl) rfl rfl ⟨Nat.le_of_ble_eq_true rfl, Nat.le_of_ble_eq_true rfl⟩ ⟨rfl, rfl⟩ (Nat.zero_le _) (Nat.zero_le _) (zc_addSign_5_12 10 S503 n hn G_S503 (by omega)) (fun S507 hP => ?_)
                  obtain ⟨G_S507, fS507, o509⟩ := hP
                  have F_S507 := zz_fr.trans F_S503 fS507 rfl zz_nv
                  exact zz_vret zd_5_3_147 rfl (Nat.zero_le _) (Nat.zero_le _) ⟨_, rfl, G_S507, F_S507⟩
                · refine zz_ldcs (t := 45) (by decide +kernel) (by decide) zd_5_3_136 ?_
                  have g510 := zz_G.r G_S495 1077 1 0 128 rfl rfl
                  refine zz_callVV [zi 1, .ref (100 + 45)] zd_5_3_138 zk_Line_59 zT_1077 (zz_ltn hn rfl) rfl rfl ⟨Nat.le_of_ble_eq_true rfl, Nat.le_of_ble_eq_true rfl⟩ ⟨rfl, rfl⟩ (Nat.zero_le _) (Nat.zero_le _) (zc_addIf_5_7 1 45 S495 n hn G_S495 (by omega) (by omega)) (fun S511 hP => ?_)
                  obtain ⟨G_S511, fS511, o513⟩ := hP
                  have F_S511 := zz_fr.trans F_S495 fS511 rfl zz_nv
                  refine zz_aload_n (x := 1077) rfl zd_5_3_141 ?_
                  refine zz_bipush (by decide) zd_5_3_142 ?_
                  have g514 := zz_G.r G_S511 1077 1 0 128 rfl rfl
                  refine zz_callVV [zi 10] zd_5_3_144 zk_Line_69 zT_1077 (zz_ltn hn rfl) rfl rfl ⟨Nat.le_of_ble_eq_true rfl, Nat.le_of_ble_eq_true rfl⟩ ⟨rfl, rfl⟩ (Nat.zero_le _) (Nat.zero_le _) (zc_addSign_5_12 10 S511 n hn G_S511 (by omega)) (fun S515 hP => ?_)
                  obtain ⟨G_S515, fS515, o517⟩ := hP
                  have F_S515 := zz_fr.trans F_S511 fS515 rfl zz_nv
                  exact zz_vret zd_5_3_147 rfl (Nat.zero_le _) (Nat.zero_le _) ⟨_, rfl, G_S515, F_S515⟩
              · refine zz_ldcs (t := 44) (by decide +kernel) (by decide) zd_5_3_125 ?_
                have g518 := zz_G.r G_S487 1077 1 0 128 rfl rfl
                refine zz_callVV [zi 1, .ref (100 + 44)] zd_5_3_127 zk_Line_59 zT_1077 (zz_ltn hn rfl) rfl rfl ⟨Nat.le_of_ble_eq_true rfl, Nat.le_of_ble_eq_true rfl⟩ ⟨rfl, rfl⟩ (Nat.zero_le _) (Nat.zero_le _) (zc_addIf_5_7 1 44 S487 n hn G_S487 (by omega) (by omega)) (fun S519 hP => ?_)
                obtain ⟨G_S519, fS519, o521⟩ := hP
                have F_S519 := zz_fr.trans F_S487 fS519 rfl zz_nv
                refine zz_aload_n (x := 1077) rfl zd_5_3_130 ?_
                refine zz_lload_n (x := p0) rfl zd_5_3_131 ?_
                refine zz_iconst zd_5_3_132 ?_
                refine zz_callSI [zl p0, zi 4] zd_5_3_133 zk_Line_39 rfl rfl ⟨Nat.le_of_ble_eq_true rfl, Nat.le_of_ble_eq_true rfl⟩ ⟨rfl, rfl⟩ (Nat.zero_le _) (Nat.zero_le _) (zc_has_12_3x_4 p0 S519 n hn G_S519 (by omega)) (fun v523 S522 hP => ?_)
                obtain ⟨rfl, o524, o525⟩ := hP
                rcases (by omega : v523 = 0 ∨ v523 = 1) with rfl | rfl
                · refine zz_ldcs (t := 45) (by decide +kernel) (by decide) zd_5_3_136 ?_
                  have g526 := zz_G.r G_S519 1077 1 0 128 rfl rfl
                  refine zz_callVV [zi 0, .ref (100 + 45)] zd_5_3_138 zk_Line_59 zT_1077 (zz_ltn hn rfl) rfl rfl ⟨Nat.le_of_ble_eq_true rfl, Nat.le_of_ble_eq_true rfl⟩ ⟨rfl, rfl⟩ (Nat.zero_le _) (Nat.zero_le _) (zc_addIf_5_7 0 45 S519 n hn G_S519 (by omega) (by omega)) (fun S527 hP => ?_)
                  obtain ⟨G_S527, fS527, o529⟩ := hP
                  have F_S527 := zz_fr.trans F_S519 fS527 rfl zz_nv
                  refine zz_aload_n (x := 1077) rfl zd_5_3_141 ?_
                  refine zz_bipush (by decide) zd_5_3_142 ?_
                  have g530 := zz_G.r G_S527 1077 1 0 128 rfl rfl
                  refine zz_callVV [zi 10] zd_5_3_144 zk_Line_69 zT_1077 (zz_ltn hn rfl) rfl rfl ⟨Nat.le_of_ble_eq_true rfl, Nat.le_of_ble_eq_true rfl⟩ ⟨rfl, rfl⟩ (Nat.zero_le _) (Nat.zero_le _) (zc_addSign_5_12 10 S527 n hn G_S527 (by omega)) (fun S531 hP => ?_)
                  obtain ⟨G_S531, fS531, o533⟩ := hP
                  have F_S531 := zz_fr.trans F_S527 fS531 rfl zz_nv
                  exact zz_vret zd_5_3_147 rfl (Nat.zero_le _) (Nat.zero_le _) ⟨_, rfl, G_S531, F_S531⟩
                · refine zz_ldcs (t := 45) (by decide +kernel) (by decide) zd_5_3_136 ?_
                  have g534 := zz_G.r G_S519 1077 1 0 128 rfl rfl
                  refine zz_callVV [zi 1, .ref (100 + 45)] zd_5_3_138 zk_Line_59 zT_1077 (zz_ltn hn rfl) rfl rfl ⟨Nat.le_of_ble_eq_true rfl, Nat.le_of_ble_eq_true rfl⟩ ⟨rfl, rfl⟩ (Nat.zero_le _) (Nat.zero_le _) (zc_addIf_5_7 1 45 S519 n hn G_S519 (by omega) (by omega)) (fun S535 hP => ?_)
                  obtain ⟨G_S535, fS535, o537⟩ := hP
                  have F_S535 := zz_fr.trans F_S519 fS535 rfl zz_nv
                  refine zz_aload_n (x := 1077) rfl zd_5_3_141 ?_
                  refine zz_bipush (by decide) zd_5_3_142 ?_
                  have g538 := zz_G.r G_S535 1077 1 0 128 rfl rfl
                  refine zz_callVV [zi 10] zd_5_3_144 zk_Line_69 zT_1077 (zz_ltn hn rfl) rfl rfl ⟨Nat.le_of_ble_eq_true rfl, Nat.le_of_ble_eq_true rfl⟩ ⟨rfl, rfl⟩ (Nat.zero_le _) (Nat.zero_le _) (zc_addSign_5_12 10 S535 n hn G_S535 (by omega)) (fun S539 hP => ?_)
                  obtain ⟨G_S539, fS539, o541⟩ := hP
                  have F_S539 := zz_fr.trans F_S535 fS539 rfl zz_nv
                  exact zz_vret zd_5_3_147 rfl (Nat.zero_le _) (Nat.zero_le _) ⟨_, rfl, G_S539, F_S539⟩
  · refine zz_if_ne (by omega) zd_5_3_31 (fun c542 => ?_) (fun c542 => ?_)
    · refine zz_aload_n (x := 1077) rfl zd_5_3_43 ?_
      refine zz_ldcs (t := 11) (by decide +kernel) (by decide) zd_5_3_44 ?_
      refine zz_lload_n (x := p0) rfl zd_5_3_46 ?_
      refine zz_bipush (by decide) zd_5_3_47 ?_
      refine zz_callSI [zl p0, zi 6] zd_5_3_49 zk_Line_21 rfl rfl ⟨Nat.le_of_ble_eq_true rfl, Nat.le_of_ble_eq_true rfl⟩ ⟨rfl, rfl⟩ (Nat.zero_le _) (Nat.zero_le _) (zc_get_12_2x_6 p0 S13 n hn G_S13 (by omega)) (fun v544 S543 hP => ?_)
      obtain ⟨rfl, o545, o546⟩ := hP
      subst o546
      refine zz_lload_n (x := p0) rfl zd_5_3_52 ?_
      refine zz_bipush (by decide) zd_5_3_53 ?_
      refine zz_callSI [zl p0, zi 7] zd_5_3_55 zk_Line_21 rfl rfl ⟨Nat.le_of_ble_eq_true rfl, Nat.le_of_ble_eq_true rfl⟩ ⟨rfl, rfl⟩ (Nat.zero_le _) (Nat.zero_le _) (zc_get_12_2x_7 p0 S13 n hn G_S13 (by omega)) (fun v548 S547 hP => ?_)
      obtain ⟨rfl, o549, o550⟩ := hP
      subst o550
      have g551 := zz_G.r G_S13 1077 1 0 128 rfl rfl
      refine zz_callVV [.ref (100 + 11), zi (zz_fy p0 20 63), zi (zz_fy p0 26 31)] zd_5_3_58 zk_Line_45 zT_1077 (zz_ltn hn rfl) rfl rfl ⟨Nat.le_of_ble_eq_true rfl, Nat.le_of_ble_eq_true rfl⟩ ⟨rfl, rfl⟩ (Nat.zero_le _) (Nat.zero_le _) (zc_addPair_5_8 11 (zz_fy p0 20 63) (zz_fy p0 26 31) S13 n hn G_S13 (by omega) (by omega) (by omega)) (fun S552 hP => ?_)
      obtain ⟨G_S552, fS552, o554⟩ := hP
      have F_S552 := zz_fr.trans F_S13 fS552 rfl zz_nv
      refine zz_aload_n (x := 1077) rfl zd_5_3_61 ?_
      refine zz_ldcs (t := 13) (by decide +kernel) (by decide) zd_5_3_62 ?_
      refine zz_lload_n (x := p0) rfl zd_5_3_64 ?_
      refine zz_bipush (by decide) zd_5_3_65 ?_
      refine zz_callVV [.ref (100 + 13), zl p0, zi 8] zd_5_3_67 zk_Line_35 zT_1077 (zz_ltn hn rfl) rfl rfl ⟨Nat.le_of_ble_eq_true rfl, Nat.le_of_ble_eq_true rfl⟩ ⟨rfl, rfl⟩ (Nat.zero_le _) (Nat.zero_le _) (zc_addUnlessNothing_5_6 13 p0 8 S552 n hn G_S552 (by omega) (by omega) (by omega)) (fun S555 hP => ?_)
      obtain ⟨G_S555, fS555⟩ := hP
      have F_S555 := zz_fr.trans F_S552 fS555 rfl zz_nv
      refine zz_aload_n (x := 1077) rfl zd_5_3_70 ?_
      refine zz_ldcs (t := 14) (by decide +kernel) (by decide) zd_5_3_71 ?_
      refine zz_lload_n (x := p0) rfl zd_5_3_73 ?_
      refine zz_bipush (by decide) zd_5_3_74 ?_
      refine zz_callVV [.ref (100 + 14), zl p0, zi 9] zd_5_3_76 zk_Line_35 zT_1077 (zz_ltn hn rfl) rfl rfl ⟨Nat.le_of_ble_eq_true rfl, Nat.le_of_ble_eq_true rfl⟩ ⟨rfl, rfl⟩ (Nat.zero_le _) (Nat.zero_le _) (zc_addUnlessNothing_5_6 14 p0 9 S555 n hn G_S555 (by omega) (by omega) (by omega)) (fun S557 hP => ?_)
      obtain ⟨G_S557, fS557⟩ := hP
      have F_S557 := zz_fr.trans F_S555 fS557 rfl zz_nv
      refine zz_aload_n (x := 1077) rfl zd_5_3_79 ?_
      refine zz_ldcs (t := 15) (by decide +kernel) (by decide) zd_5_3_80 ?_
      refine zz_lload_n (x := p0) rfl zd_5_3_82 ?_
      refine zz_bipush (by decide) zd_5_3_83 ?_
      refine zz_callVV [.ref (100 + 15), zl p0, zi 10] zd_5_3_85 zk_Line_35 zT_1077 (zz_ltn hn rfl) rfl rfl ⟨Nat.le_of_ble_eq_true rfl, Nat.le_of_ble_eq_true rfl⟩ ⟨rfl, rfl⟩ (Nat.zero_le _) (Nat.zero_le _) (zc_addUnlessNothing_5_6 15 p0 10 S557 n hn G_S557 (by omega) (by omega) (by omega)) (fun S559 hP => ?_)
      obtain ⟨G_S559, fS559⟩ := hP
      have F_S559 := zz_fr.trans F_S557 fS559 rfl zz_nv
      refine zz_aload_n (x := 1077) rfl zd_5_3_88 ?_
      refine zz_ldcs (t := 16) (by decide +kernel) (by decide) zd_5_3_89 ?_
      refine zz_lload_n (x := p0) rfl zd_5_3_91 ?_
      refine zz_bipush (by decide) zd_5_3_92 ?_
      refine zz_callVV [.ref (100 + 16), zl p0, zi 11] zd_5_3_94 zk_Line_35 zT_1077 (zz_ltn hn rfl) rfl rfl ⟨Nat.le_of_ble_eq_true rfl, Nat.le_of_ble_eq_true rfl⟩ ⟨rfl, rfl⟩ (Nat.zero_le _) (Nat.zero_le _) (zc_addUnlessNothing_5_6 16 p0 11 S559 n hn G_S559 (by omega) (by omega) (by omega)) (fun S561 hP => ?_)
      obtain ⟨G_S561, fS561⟩ := hP
      have F_S561 := zz_fr.trans F_S559 fS561 rfl zz_nv
      refine zz_aload_n (x := 1077) rfl zd_5_3_97 ?_
      refine zz_lload_n (x := p0) rfl zd_5_3_98 ?_
      refine zz_iconst zd_5_3_99 ?_
      refine zz_callSI [zl p0, zi 1] zd_5_3_100 zk_Line_39 rfl rfl ⟨Nat.le_of_ble_eq_true rfl, Nat.le_of_ble_eq_true rfl⟩ ⟨rfl, rfl⟩ (Nat.zero_le _) (Nat.zero_le _) (zc_has_12_3x_1 p0 S561 n hn G_S561 (by omega)) (fun v564 S563 hP => ?_)
      obtain ⟨rfl, o565, o566⟩ := hP
      rcases (by omega : v564 = 0 ∨ v564 = 1) with rfl | rfl
      · refine zz_ldcs (t := 42) (by decide +kernel) (by decide) zd_5_3_103 ?_
        have g567 := zz_G.r G_S561 1077 1 0 128 rfl rfl
        refine zz_callVV [zi 0, .ref (100 + 42)] zd_5_3_105 zk_Line_59 zT_1077 (zz_ltn hn rfl) rfl rfl ⟨Nat.le_of_ble_eq_true rfl, Nat.le_of_ble_eq_true rfl⟩ ⟨rfl, rfl⟩ (Nat.zero_le _) (Nat.zero_le _) (zc_addIf_5_7 0 42 S561 n hn G_S561 (by omega) (by omega)) (fun S568 hP => ?_)
        obtain ⟨G_S568, fS568, o570⟩ := hP
        have F_S568 := zz_fr.trans F_S561 fS568 rfl zz_nv
        refine zz_aload_n (x := 1077) rfl zd_5_3_108 ?_
        refine zz_lload_n (x := p0) rfl zd_5_3_109 ?_
        refine zz_iconst zd_5_3_110 ?_
        refine zz_callSI [zl p0, zi 2] zd_5_3_111 zk_Line_39 rfl rfl ⟨Nat.le_of_ble_eq_true rfl, Nat.le_of_ble_eq_true rfl⟩ ⟨rfl, rfl⟩ (Nat.zero_le _) (Nat.zero_le _) (zc_has_12_3x_2 p0 S568 n hn G_S568 (by omega)) (fun v572 S571 hP => ?_)
        obtain ⟨rfl, o573, o574⟩ := hP
        rcases (by omega : v572 = 0 ∨ v572 = 1) with rfl | rfl
        · refine zz_ldcs (t := 43) (by decide +kernel) (by decide) zd_5_3_114 ?_
          have g575 := zz_G.r G_S568 1077 1 0 128 rfl rfl
          refine zz_callVV [zi 0, .ref (100 + 43)] zd_5_3_116 zk_Line_59 zT_1077 (zz_ltn hn rfl) rfl rfl ⟨Nat.le_of_ble_eq_true rfl, Nat.le_of_ble_eq_true rfl⟩ ⟨rfl, rfl⟩ (Nat.zero_le _) (Nat.zero_le _) (zc_addIf_5_7 0 43 S568 n hn G_S568 (by omega) (by omega)) (fun S576 hP => ?_)
          obtain ⟨G_S576, fS576, o578⟩ := hP
          have F_S576 := zz_fr.trans F_S568 fS576 rfl zz_nv
          refine zz_aload_n (x := 1077) rfl zd_5_3_119 ?_
          refine zz_lload_n (x := p0) rfl zd_5_3_120 ?_
          refine zz_iconst zd_5_3_121 ?_
          refine zz_callSI [zl p0, zi 3] zd_5_3_122 zk_Line_39 rfl rfl ⟨Nat.le_of_ble_eq_true rfl, Nat.le_of_ble_eq_true rfl⟩ ⟨rfl, rfl⟩ (Nat.zero_le _) (Nat.zero_le _) (zc_has_12_3x_3 p0 S576 n hn G_S576 (by omega)) (fun v580 S579 hP => ?_)
          obtain ⟨rfl, o581, o582⟩ := hP
          rcases (by omega : v580 = 0 ∨ v580 = 1) with rfl | rfl
          · refine zz_ldcs (t := 44) (by decide +kernel) (by decide) zd_5_3_125 ?_
            have g583 := zz_G.r G_S576 1077 1 0 128 rfl rfl
            refine zz_callVV [zi 0, .ref (100 + 44)] zd_5_3_127 zk_Line_59 zT_1077 (zz_ltn hn rfl) rfl rfl ⟨Nat.le_of_ble_eq_true rfl, Nat.le_of_ble_eq_true rfl⟩ ⟨rfl, rfl⟩ (Nat.zero_le _) (Nat.zero_le _) (zc_addIf_5_7 0 44 S576 n hn G_S576 (by omega) (by omega)) (fun S584 hP => ?_)
            obtain ⟨G_S584, fS584, o586⟩ := hP
            have F_S584 := zz_fr.trans F_S576 fS584 rfl zz_nv
            refine zz_aload_n (x := 1077) rfl zd_5_3_130 ?_
            refine zz_lload_n (x := p0) rfl zd_5_3_131 ?_
            refine zz_iconst zd_5_3_132 ?_
            refine zz_callSI [zl p0, zi 4] zd_5_3_133 zk_Line_39 rfl rfl ⟨Nat.le_of_ble_eq_true rfl, Nat.le_of_ble_eq_true rfl⟩ ⟨rfl, rfl⟩ (Nat.zero_le _) (Nat.zero_le _) (zc_has_12_3x_4 p0 S584 n hn G_S584 (by omega)) (fun v588 S587 hP => ?_)
            obtain ⟨rfl, o589, o590⟩ := hP
            rcases (by omega : v588 = 0 ∨ v588 = 1) with rfl | rfl
            · refine zz_ldcs (t := 45) (by decide +kernel) (by decide) zd_5_3_136 ?_
              have g591 := zz_G.r G_S584 1077 1 0 128 rfl rfl
              refine zz_callVV [zi 0, .ref (100 + 45)] zd_5_3_138 zk_Line_59 zT_1077 (zz_ltn hn rfl) rfl rfl ⟨Nat.le_of_ble_eq_true rfl, Nat.le_of_ble_eq_true rfl⟩ ⟨rfl, rfl⟩ (Nat.zero_le _) (Nat.zero_le _) (zc_addIf_5_7 0 45 S584 n hn G_S584 (by omega) (by omega)) (fun S592 hP => ?_)
              obtain ⟨G_S592, fS592, o594⟩ := hP
              have F_S592 := zz_fr.trans F_S584 fS592 rfl zz_nv
              refine zz_aload_n (x := 1077) rfl zd_5_3_141 ?_
              refine zz_bipush (by decide) zd_5_3_142 ?_
              have g595 := zz_G.r G_S592 1077 1 0 128 rfl rfl
              refine zz_callVV [zi 10] zd_5_3_144 zk_Line_69 zT_1077 (zz_ltn hn rfl) rfl rfl ⟨Nat.le_of_ble_eq_true rfl, Nat.le_of_ble_eq_true rfl⟩ ⟨rfl, rfl⟩ (Nat.zero_le _) (Nat.zero_le _) (zc_addSign_5_12 10 S592 n hn G_S592 (by omega)) (fun S596 hP => ?_)
              obtain ⟨G_S596, fS596, o598⟩ := hP
              have F_S596 := zz_fr.trans F_S592 fS596 rfl zz_nv
              exact zz_vret zd_5_3_147 rfl (Nat.zero_le _) (Nat.zero_le _) ⟨_, rfl, G_S596, F_S596⟩
            · refine zz_ldcs (t := 45) (by decide +kernel) (by decide) zd_5_3_136 ?_
              have g599 := zz_G.r G_S584 1077 1 0 128 rfl rfl
              refine zz_callVV [zi 1, .ref (100 + 45)] zd_5_3_138 zk_Line_59 zT_1077 (zz_ltn hn rfl) rfl rfl ⟨Nat.le_of_ble_eq_true rfl, Nat.le_of_ble_eq_true rfl⟩ ⟨rfl, rfl⟩ (Nat.zero_le _) (Nat.zero_le _) (zc_addIf_5_7 1 45 S584 n hn G_S584 (by omega) (by omega)) (fun S600 hP => ?_)
              obtain ⟨G_S600, fS600, o602⟩ := hP
              have F_S600 := zz_fr.trans F_S584 fS600 rfl zz_nv
              refine zz_aload_n (x := 1077) rfl zd_5_3_141 ?_
              refine zz_bipush (by decide) zd_5_3_142 ?_
              have g603 := zz_G.r G_S600 1077 1 0 128 rfl rfl
              refine zz_callVV [zi 10] zd_5_3_144 zk_Line_69 zT_1077 (zz_ltn hn rfl) rfl rfl ⟨Nat.le_of_ble_eq_true rfl, Nat.le_of_ble_eq_true rfl⟩ ⟨rfl, rfl⟩ (Nat.zero_le _) (Nat.zero_le _) (zc_addSign_5_12 10 S600 n hn G_S600 (by omega)) (fun S604 hP => ?_)
              obtain ⟨G_S604, fS604, o606⟩ := hP
              have F_S604 := zz_fr.trans F_S600 fS604 rfl zz_nv
              exact zz_vret zd_5_3_147 rfl (Nat.zero_le _) (Nat.zero_le _) ⟨_, rfl, G_S604, F_S604⟩
          · refine zz_ldcs (t := 44) (by decide +kernel) (by decide) zd_5_3_125 ?_
            have g607 := zz_G.r G_S576 1077 1 0 128 rfl rfl
            refine zz_callVV [zi 1, .ref (100 + 44)] zd_5_3_127 zk_Line_59 zT_1077 (zz_ltn hn rfl) rfl rfl ⟨Nat.le_of_ble_eq_true rfl, Nat.le_of_ble_eq_true rfl⟩ ⟨rfl, rfl⟩ (Nat.zero_le _) (Nat.zero_le _) (zc_addIf_5_7 1 44 S576 n hn G_S576 (by omega) (by omega)) (fun S608 hP => ?_)
            obtain ⟨G_S608, fS608, o610⟩ := hP
            have F_S608 := zz_fr.trans F_S576 fS608 rfl zz_nv
            refine zz_aload_n (x := 1077) rfl zd_5_3_130 ?_
            refine zz_lload_n (x := p0) rfl zd_5_3_131 ?_
            refine zz_iconst zd_5_3_132 ?_
            refine zz_callSI [zl p0, zi 4] zd_5_3_133 zk_Line_39 rfl rfl ⟨Nat.le_of_ble_eq_true rfl, Nat.le_of_ble_eq_true rfl⟩ ⟨rfl, rfl⟩ (Nat.zero_le _) (Nat.zero_le _) (zc_has_12_3x_4 p0 S608 n hn G_S608 (by omega)) (fun v612 S611 hP => ?_)
            obtain ⟨rfl, o613, o614⟩ := hP
            rcases (by omega : v612 = 0 ∨ v612 = 1) with rfl | rfl
            · refine zz_ldcs (t := 45) (by decide +kernel) (by decide) zd_5_3_136 ?_
              have g615 := zz_G.r G_S608 1077 1 0 128 rfl rfl
              refine zz_callVV [zi 0, .ref (100 + 45)] zd_5_3_138 zk_Line_59 zT_1077 (zz_ltn hn rfl) rfl rfl ⟨Nat.le_of_ble_eq_true rfl, Nat.le_of_ble_eq_true rfl⟩ ⟨rfl, rfl⟩ (Nat.zero_le _) (Nat.zero_le _) (zc_addIf_5_7 0 45 S608 n hn G_S608 (by omega) (by omega)) (fun S616 hP => ?_)
              obtain ⟨G_S616, fS616, o618⟩ := hP
              have F_S616 := zz_fr.trans F_S608 fS616 rfl zz_nv
              refine zz_aload_n (x := 1077) rfl zd_5_3_141 ?_
              refine zz_bipush (by decide) zd_5_3_142 ?_
              have g619 := zz_G.r G_S616 1077 1 0 128 rfl rfl
              refine zz_callVV [zi 10] zd_5_3_144 zk_Line_69 zT_1077 (zz_ltn hn rfl) rfl rfl ⟨Nat.le_of_ble_eq_true rfl, Nat.le_of_ble_eq_true rfl⟩ ⟨rfl, rfl⟩ (Nat.zero_le _) (Nat.zero_le _) (zc_addSign_5_12 10 S616 n hn G_S616 (by omega)) (fun S620 hP => ?_)
              obtain ⟨G_S620, fS620, o622⟩ := hP
              have F_S620 := zz_fr.trans F_S616 fS620 rfl zz_nv
              exact zz_vret zd_5_3_147 rfl (Nat.zero_le _) (Nat.zero_le _) ⟨_, rfl, G_S620, F_S620⟩
            · refine zz_ldcs (t := 45) (by decide +kernel) (by decide) zd_5_3_136 ?_
              have g623 := zz_G.r G_S608 1077 1 0 128 rfl rfl
              refine zz_callVV [zi 1, .ref (100 + 45)] zd_5_3_138 zk_Line_59 zT_1077 (zz_ltn hn rfl) rfl rfl ⟨Nat.le_of_ble_eq_true rfl, Nat.le_of_ble_eq_true rfl⟩ ⟨rfl, rfl⟩ (Nat.zero_le _) (Nat.zero_le _) (zc_addIf_5_7 1 45 S608 n hn G_S608 (by omega) (by omega)) (fun S624 hP => ?_)
              obtain ⟨G_S624, fS624, o626⟩ := hP
              have F_S624 := zz_fr.trans F_S608 fS624 rfl zz_nv
              refine zz_aload_n (x := 1077) rfl zd_5_3_141 ?_
              refine zz_bipush (by decide) zd_5_3_142 ?_
              have g627 := zz_G.r G_S624 1077 1 0 128 rfl rfl
              refine zz_callVV [zi 10] zd_5_3_144 zk_Line_69 zT_1077 (zz_ltn hn rfl) rfl rfl ⟨Nat.le_of_ble_eq_true rfl, Nat.le_of_ble_eq_true rfl⟩ ⟨rfl, rfl⟩ (Nat.zero_le _) (Nat.zero_le _) (zc_addSign_5_12 10 S624 n hn G_S624 (by omega)) (fun S628 hP => ?_)
              obtain ⟨G_S628, fS628, o630⟩ := hP
              have F_S628 := zz_fr.trans F_S624 fS628 rfl zz_nv
              exact zz_vret zd_5_3_147 rfl (Nat.zero_le _) (Nat.zero_le _) ⟨_, rfl, G_S628, F_S628⟩
        · refine zz_ldcs (t := 43) (by decide +kernel) (by decide) zd_5_3_114 ?_
          have g631 := zz_G.r G_S568 1077 1 0 128 rfl rfl
          refine zz_callVV [zi 1, .ref (100 + 43)] zd_5_3_116 zk_Line_59 zT_1077 (zz_ltn hn rfl) rfl rfl ⟨Nat.le_of_ble_eq_true rfl, Nat.le_of_ble_eq_true rfl⟩ ⟨rfl, rfl⟩ (Nat.zero_le _) (Nat.zero_le _) (zc_addIf_5_7 1 43 S568 n hn G_S568 (by omega) (by omega)) (fun S632 hP => ?_)
          obtain ⟨G_S632, fS632, o634⟩ := hP
          have F_S632 := zz_fr.trans F_S568 fS632 rfl zz_nv
          refine zz_aload_n (x := 1077) rfl zd_5_3_119 ?_
          refine zz_lload_n (x := p0) rfl zd_5_3_120 ?_
          refine zz_iconst zd_5_3_121 ?_
          refine zz_callSI [zl p0, zi 3] zd_5_3_122 zk_Line_39 rfl rfl ⟨Nat.le_of_ble_eq_true rfl, Nat.le_of_ble_eq_true rfl⟩ ⟨rfl, rfl⟩ (Nat.zero_le _) (Nat.zero_le _) (zc_has_12_3x_3 p0 S632 n hn G_S632 (by omega)) (fun v636 S635 hP => ?_)
          obtain ⟨rfl, o637, o638⟩ := hP
          rcases (by omega : v636 = 0 ∨ v636 = 1) with rfl | rfl
          · refine zz_ldcs (t := 44) (by decide +kernel) (by decide) zd_5_3_125 ?_
            have g639 := zz_G.r G_S632 1077 1 0 128 rfl rfl
            refine zz_callVV [zi 0, .ref (100 + 44)] zd_5_3_127 zk_Line_59 zT_1077 (zz_ltn hn rfl) rfl rfl ⟨Nat.le_of_ble_eq_true rfl, Nat.le_of_ble_eq_true rfl⟩ ⟨rfl, rfl⟩ (Nat.zero_le _) (Nat.zero_le _) (zc_addIf_5_7 0 44 S632 n hn G_S632 (by omega) (by omega)) (fun S640 hP => ?_)
            obtain ⟨G_S640, fS640, o642⟩ := hP
            have F_S640 := zz_fr.trans F_S632 fS640 rfl zz_nv
            refine zz_aload_n (x := 1077) rfl zd_5_3_130 ?_
            refine zz_lload_n (x := p0) rfl zd_5_3_131 ?_
            refine zz_iconst zd_5_3_132 ?_
            refine zz_callSI [zl p0, zi 4] zd_5_3_133 zk_Line_39 rfl rfl ⟨Nat.le_of_ble_eq_true rfl, Nat.le_of_ble_eq_true rfl⟩ ⟨rfl, rfl⟩ (Nat.zero_le _) (Nat.zero_le _) (zc_has_12_3x_4 p0 S640 n hn G_S640 (by omega)) (fun v644 S643 hP => ?_)
            obtain ⟨rfl, o645, o646⟩ := hP
            rcases (by omega : v644 = 0 ∨ v644 = 1) with rfl | rfl
            · refine zz_ldcs (t := 45) (by decide +kernel) (by decide) zd_5_3_136 ?_
              have g647 := zz_G.r G_S640 1077 1 0 128 rfl rfl
              refine zz_callVV [zi 0, .ref (100 + 45)] zd_5_3_138 zk_Line_59 zT_1077 (zz_ltn hn rfl) rfl rfl ⟨Nat.le_of_ble_eq_true rfl, Nat.le_of_ble_eq_true rfl⟩ ⟨rfl, rfl⟩ (Nat.zero_le _) (Nat.zero_le _) (zc_addIf_5_7 0 45 S640 n hn G_S640 (by omega) (by omega)) (fun S648 hP => ?_)
              obtain ⟨G_S648, fS648, o650⟩ := hP
              have F_S648 := zz_fr.trans F_S640 fS648 rfl zz_nv
              refine zz_aload_n (x := 1077) rfl zd_5_3_141 ?_
              refine zz_bipush (by decide) zd_5_3_142 ?_
              have g651 := zz_G.r G_S648 1077 1 0 128 rfl rfl
              refine zz_callVV [zi 10] zd_5_3_144 zk_Line_69 zT_1077 (zz_ltn hn rfl) rfl rfl ⟨Nat.le_of_ble_eq_true rfl, Nat.le_of_ble_eq_true rfl⟩ ⟨rfl, rfl⟩ (Nat.zero_le _) (Nat.zero_le _) (zc_addSign_5_12 10 S648 n hn G_S648 (by omega)) (fun S652 hP => ?_)
              obtain ⟨G_S652, fS652, o654⟩ := hP
              have F_S652 := zz_fr.trans F_S648 fS652 rfl zz_nv
              exact zz_vret zd_5_3_147 rfl (Nat.zero_le _) (Nat.zero_le _) ⟨_, rfl, G_S652, F_S652⟩
            · refine zz_ldcs (t := 45) (by decide +kernel) (by decide) zd_5_3_136 ?_
              have g655 := zz_G.r G_S640 1077 1 0 128 rfl rfl
              refine zz_callVV [zi 1, .ref (100 + 45)] zd_5_3_138 zk_Line_59 zT_1077 (zz_ltn hn rfl) rfl rfl ⟨Nat.le_of_ble_eq_true rfl, Nat.le_of_ble_eq_true rfl⟩ ⟨rfl, rfl⟩ (Nat.zero_le _) (Nat.zero_le _) (zc_addIf_5_7 1 45 S640 n hn G_S640 (by omega) (by omega)) (fun S656 hP => ?_)
              obtain ⟨G_S656, fS656, o658⟩ := hP
              have F_S656 := zz_fr.trans F_S640 fS656 rfl zz_nv
              refine zz_aload_n (x := 1077) rfl zd_5_3_141 ?_
              refine zz_bipush (by decide) zd_5_3_142 ?_
              have g659 := zz_G.r G_S656 1077 1 0 128 rfl rfl
              refine zz_callVV [zi 10] zd_5_3_144 zk_Line_69 zT_1077 (zz_ltn hn rfl) rfl rfl ⟨Nat.le_of_ble_eq_true rfl, Nat.le_of_ble_eq_true rfl⟩ ⟨rfl, rfl⟩ (Nat.zero_le _) (Nat.zero_le _) (zc_addSign_5_12 10 S656 n hn G_S656 (by omega)) (fun S660 hP => ?_)
              obtain ⟨G_S660, fS660, o662⟩ := hP
              have F_S660 := zz_fr.trans F_S656 fS660 rfl zz_nv
              exact zz_vret zd_5_3_147 rfl (Nat.zero_le _) (Nat.zero_le _) ⟨_, rfl, G_S660, F_S660⟩
          · refine zz_ldcs (t := 44) (by decide +kernel) (by decide) zd_5_3_125 ?_
            have g663 := zz_G.r G_S632 1077 1 0 128 rfl rfl
            refine zz_callVV [zi 1, .ref (100 + 44)] zd_5_3_127 zk_Line_59 zT_1077 (zz_ltn hn rfl) rfl rfl ⟨Nat.le_of_ble_eq_true rfl, Nat.le_of_ble_eq_true rfl⟩ ⟨rfl, rfl⟩ (Nat.zero_le _) (Nat.zero_le _) (zc_addIf_5_7 1 44 S632 n hn G_S632 (by omega) (by omega)) (fun S664 hP => ?_)
            obtain ⟨G_S664, fS664, o666⟩ := hP
            have F_S664 := zz_fr.trans F_S632 fS664 rfl zz_nv
            refine zz_aload_n (x := 1077) rfl zd_5_3_130 ?_
            refine zz_lload_n (x := p0) rfl zd_5_3_131 ?_
            refine zz_iconst zd_5_3_132 ?_
            refine zz_callSI [zl p0, zi 4] zd_5_3_133 zk_Line_39 rfl rfl ⟨Nat.le_of_ble_eq_true rfl, Nat.le_of_ble_eq_true rfl⟩ ⟨rfl, rfl⟩ (Nat.zero_le _) (Nat.zero_le _) (zc_has_12_3x_4 p0 S664 n hn G_S664 (by omega)) (fun v668 S667 hP => ?_)
            obtain ⟨rfl, o669, o670⟩ := hP
            rcases (by omega : v668 = 0 ∨ v668 = 1) with rfl | rfl
            · refine zz_ldcs (t := 45) (by decide +kernel) (by decide) zd_5_3_136 ?_
              have g671 := zz_G.r G_S664 1077 1 0 128 rfl rfl
              refine zz_callVV [zi 0, .ref (100 + 45)] zd_5_3_138 zk_Line_59 zT_1077 (zz_ltn hn rfl) rfl rfl ⟨Nat.le_of_ble_eq_true rfl, Nat.le_of_ble_eq_true rfl⟩ ⟨rfl, rfl⟩ (Nat.zero_le _) (Nat.zero_le _) (zc_addIf_5_7 0 45 S664 n hn G_S664 (by omega) (by omega)) (fun S672 hP => ?_)
              obtain ⟨G_S672, fS672, o674⟩ := hP
              have F_S672 := zz_fr.trans F_S664 fS672 rfl zz_nv
              refine zz_aload_n (x := 1077) rfl zd_5_3_141 ?_
              refine zz_bipush (by decide) zd_5_3_142 ?_
              have g675 := zz_G.r G_S672 1077 1 0 128 rfl rfl
              refine zz_callVV [zi 10] zd_5_3_144 zk_Line_69 zT_1077 (zz_ltn hn rfl) rfl rfl ⟨Nat.le_of_ble_eq_true rfl, Nat.le_of_ble_eq_true rfl⟩ ⟨rfl, rfl⟩ (Nat.zero_le _) (Nat.zero_le _) (zc_addSign_5_12 10 S672 n hn G_S672 (by omega)) (fun S676 hP => ?_)
              obtain ⟨G_S676, fS676, o678⟩ := hP
              have F_S676 := zz_fr.trans F_S672 fS676 rfl zz_nv
              exact zz_vret zd_5_3_147 rfl (Nat.zero_le _) (Nat.zero_le _) ⟨_, rfl, G_S676, F_S676⟩
            · refine zz_ldcs (t := 45) (by decide +kernel) (by decide) zd_5_3_136 ?_
              have g679 := zz_G.r G_S664 1077 1 0 128 rfl rfl
              refine zz_callVV [zi 1, .ref (100 + 45)] zd_5_3_138 zk_Line_59 zT_1077 (zz_ltn hn rfl) rfl rfl ⟨Nat.le_of_ble_eq_true rfl, Nat.le_of_ble_eq_true rfl⟩ ⟨rfl, rfl⟩ (Nat.zero_le _) (Nat.zero_le _) (zc_addIf_5_7 1 45 S664 n hn G_S664 (by omega) (by omega)) (fun S680 hP => ?_)
              obtain ⟨G_S680, fS680, o682⟩ := hP
              have F_S680 := zz_fr.trans F_S664 fS680 rfl zz_nv
              refine zz_aload_n (x := 1077) rfl zd_5_3_141 ?_
              refine zz_bipush (by decide) zd_5_3_142 ?_
              have g683 := zz_G.r G_S680 1077 1 0 128 rfl rfl
              refine zz_callVV [zi 10] zd_5_3_144 zk_Line_69 zT_1077 (zz_ltn hn rfl) rfl rfl ⟨Nat.le_of_ble_eq_true rfl, Nat.le_of_ble_eq_true rfl⟩ ⟨rfl, rfl⟩ (Nat.zero_le _) (Nat.zero_le _) (zc_addSign_5_12 10 S680 n hn G_S680 (by omega)) (fun S684 hP => ?_)
              obtain ⟨G_S684, fS684, o686⟩ := hP
              have F_S684 := zz_fr.trans F_S680 fS684 rfl zz_nv
              exact zz_vret zd_5_3_147 rfl (Nat.zero_le _) (Nat.zero_le _) ⟨_, rfl, G_S684, F_S684⟩
      · refine zz_ldcs (t := 42) (by decide +kernel) (by decide) zd_5_3_103 ?_
        have g687 := zz_G.r G_S561 1077 1 0 128 rfl rfl
        refine zz_callVV [zi 1, .ref (100 + 42)] zd_5_3_105 zk_Line_59 zT_1077 (zz_ltn hn rfl) rfl rfl ⟨Nat.le_of_ble_eq_true rfl, Nat.le_of_ble_eq_true rfl⟩ ⟨rfl, rfl⟩ (Nat.zero_le _) (Nat.zero_le _) (zc_addIf_5_7 1 42 S561 n hn G_S561 (by omega) (by omega)) (fun S688 hP => ?_)
        obtain ⟨G_S688, fS688, o690⟩ := hP
        have F_S688 := zz_fr.trans F_S561 fS688 rfl zz_nv
        refine zz_aload_n (x := 1077) rfl zd_5_3_108 ?_
        refine zz_lload_n (x := p0) rfl zd_5_3_109 ?_
        refine zz_iconst zd_5_3_110 ?_
        refine zz_callSI [zl p0, zi 2] zd_5_3_111 zk_Line_39 rfl rfl ⟨Nat.le_of_ble_eq_true rfl, Nat.le_of_ble_eq_true rfl⟩ ⟨rfl, rfl⟩ (Nat.zero_le _) (Nat.zero_le _) (zc_has_12_3x_2 p0 S688 n hn G_S688 (by omega)) (fun v692 S691 hP => ?_)
        obtain ⟨rfl, o693, o694⟩ := hP
        rcases (by omega : v692 = 0 ∨ v692 = 1) with rfl | rfl
        · refine zz_ldcs (t := 43) (by decide +kernel) (by decide) zd_5_3_114 ?_
          have g695 := zz_G.r G_S688 1077 1 0 128 rfl rfl
          refine zz_callVV [zi 0, .ref (100 + 43)] zd_5_3_116 zk_Line_59 zT_1077 (zz_ltn hn rfl) rfl rfl ⟨Nat.le_of_ble_eq_true rfl, Nat.le_of_ble_eq_true rfl⟩ ⟨rfl, rfl⟩ (Nat.zero_le _) (Nat.zero_le _) (zc_addIf_5_7 0 43 S688 n hn G_S688 (by omega) (by omega)) (fun S696 hP => ?_)
          obtain ⟨G_S696, fS696, o698⟩ := hP
          have F_S696 := zz_fr.trans F_S688 fS696 rfl zz_nv
          refine zz_aload_n (x := 1077) rfl zd_5_3_119 ?_
          refine zz_lload_n (x := p0) rfl zd_5_3_120 ?_
          refine zz_iconst zd_5_3_121 ?_
          refine zz_callSI [zl p0, zi 3] zd_5_3_122 zk_Line_39 rfl rfl ⟨Nat.le_of_ble_eq_true rfl, Nat.le_of_ble_eq_true rfl⟩ ⟨rfl, rfl⟩ (Nat.zero_le _) (Nat.zero_le _) (zc_has_12_3x_3 p0 S696 n hn G_S696 (by omega)) (fun v700 S699 hP => ?_)
          obtain ⟨rfl, o701, o702⟩ := hP
          rcases (by omega : v700 = 0 ∨ v700 = 1) with rfl | rfl
          · refine zz_ldcs (t := 44) (by decide +kernel) (by decide) zd_5_3_125 ?_
            have g703 := zz_G.r G_S696 1077 1 0 128 rfl rfl
            refine zz_callVV [zi 0, .ref (100 + 44)] zd_5_3_127 zk_Line_59 zT_1077 (zz_ltn hn rfl) rfl rfl ⟨Nat.le_of_ble_eq_true rfl, Nat.le_of_ble_eq_true rfl⟩ ⟨rfl, rfl⟩ (Nat.zero_le _) (Nat.zero_le _) (zc_addIf_5_7 0 44 S696 n hn G_S696 (by omega) (by omega)) (fun S704 hP => ?_)
            obtain ⟨G_S704, fS704, o706⟩ := hP
            have F_S704 := zz_fr.trans F_S696 fS704 rfl zz_nv
            refine zz_aload_n (x := 1077) rfl zd_5_3_130 ?_
            refine zz_lload_n (x := p0) rfl zd_5_3_131 ?_
            refine zz_iconst zd_5_3_132 ?_
            refine zz_callSI [zl p0, zi 4] zd_5_3_133 zk_Line_39 rfl rfl ⟨Nat.le_of_ble_eq_true rfl, Nat.le_of_ble_eq_true rfl⟩ ⟨rfl, rfl⟩ (Nat.zero_le _) (Nat.zero_le _) (zc_has_12_3x_4 p0 S704 n hn G_S704 (by omega)) (fun v708 S707 hP => ?_)
            obtain ⟨rfl, o709, o710⟩ := hP
            rcases (by omega : v708 = 0 ∨ v708 = 1) with rfl | rfl
            · refine zz_ldcs (t := 45) (by decide +kernel) (by decide) zd_5_3_136 ?_
              have g711 := zz_G.r G_S704 1077 1 0 128 rfl rfl
              refine zz_callVV [zi 0, .ref (100 + 45)] zd_5_3_138 zk_Line_59 zT_1077 (zz_ltn hn rfl) rfl rfl ⟨Nat.le_of_ble_eq_true rfl, Nat.le_of_ble_eq_true rfl⟩ ⟨rfl, rfl⟩ (Nat.zero_le _) (Nat.zero_le _) (zc_addIf_5_7 0 45 S704 n hn G_S704 (by omega) (by omega)) (fun S712 hP => ?_)
              obtain ⟨G_S712, fS712, o714⟩ := hP
              have F_S712 := zz_fr.trans F_S704 fS712 rfl zz_nv
              refine zz_aload_n (x := 1077) rfl zd_5_3_141 ?_
              refine zz_bipush (by decide) zd_5_3_142 ?_
              have g715 := zz_G.r G_S712 1077 1 0 128 rfl rfl
              refine zz_callVV [zi 10] zd_5_3_144 zk_Line_69 zT_1077 (zz_ltn hn rfl) rfl rfl ⟨Nat.le_of_ble_eq_true rfl, Nat.le_of_ble_eq_true rfl⟩ ⟨rfl, rfl⟩ (Nat.zero_le _) (Nat.zero_le _) (zc_addSign_5_12 10 S712 n hn G_S712 (by omega)) (fun S716 hP => ?_)
              obtain ⟨G_S716, fS716, o718⟩ := hP
              have F_S716 := zz_fr.trans F_S712 fS716 rfl zz_nv
              exact zz_vret zd_5_3_147 rfl (Nat.zero_le _) (Nat.zero_le _) ⟨_, rfl, G_S716, F_S716⟩
            · refine zz_ldcs (t := 45) (by decide +kernel) (by decide) zd_5_3_136 ?_
              have g719 := zz_G.r G_S704 1077 1 0 128 rfl rfl
              refine zz_callVV [zi 1, .ref (100 + 45)] zd_5_3_138 zk_Line_59 zT_1077 (zz_ltn hn rfl) rfl rfl ⟨Nat.le_of_ble_eq_true rfl, Nat.le_of_ble_eq_true rfl⟩ ⟨rfl, rfl⟩ (Nat.zero_le _) (Nat.zero_le _) (zc_addIf_5_7 1 45 S704 n hn G_S704 (by omega) (by omega)) (fun S720 hP => ?_)
              obtain ⟨G_S720, fS720, o722⟩ := hP
              have F_S720 := zz_fr.trans F_S704 fS720 rfl zz_nv
              refine zz_aload_n (x := 1077) rfl zd_5_3_141 ?_
              refine zz_bipush (by decide) zd_5_3_142 ?_
              have g723 := zz_G.r G_S720 1077 1 0 128 rfl rfl
              refine zz_callVV [zi 10] zd_5_3_144 zk_Line_69 zT_1077 (zz_ltn hn rfl) rfl rfl ⟨Nat.le_of_ble_eq_true rfl, Nat.le_of_ble_eq_true rfl⟩ ⟨rfl, rfl⟩ (Nat.zero_le _) (Nat.zero_le _) (zc_addSign_5_12 10 S720 n hn G_S720 (by omega)) (fun S724 hP => ?_)
              obtain ⟨G_S724, fS724, o726⟩ := hP
              have F_S724 := zz_fr.trans F_S720 fS724 rfl zz_nv
              exact zz_vret zd_5_3_147 rfl (Nat.zero_le _) (Nat.zero_le _) ⟨_, rfl, G_S724, F_S724⟩
          · refine zz_ldcs (t := 44) (by decide +kernel) (by decide) zd_5_3_125 ?_
            have g727 := zz_G.r G_S696 1077 1 0 128 rfl rfl
            refine zz_callVV [zi 1, .ref (100 + 44)] zd_5_3_127 zk_Line_59 zT_1077 (zz_ltn hn rfl) rfl rfl ⟨Nat.le_of_ble_eq_true rfl, Nat.le_of_ble_eq_true rfl⟩ ⟨rfl, rfl⟩ (Nat.zero_le _) (Nat.zero_le _) (zc_addIf_5_7 1 44 S696 n hn G_S696 (by omega) (by omega)) (fun S728 hP => ?_)
            obtain ⟨G_S728, fS728, o730⟩ := hP
            have F_S728 := zz_fr.trans F_S696 fS728 rfl zz_nv
            refine zz_aload_n (x := 1077) rfl zd_5_3_130 ?_
            refine zz_lload_n (x := p0) rfl zd_5_3_131 ?_
            refine zz_iconst zd_5_3_132 ?_
            refine zz_callSI [zl p0, zi 4] zd_5_3_133 zk_Line_39 rfl rfl ⟨Nat.le_of_ble_eq_true rfl, Nat.le_of_ble_eq_true rfl⟩ ⟨rfl, rfl⟩ (Nat.zero_le _) (Nat.zero_le _) (zc_has_12_3x_4 p0 S728 n hn G_S728 (by omega)) (fun v732 S731 hP => ?_)
            obtain ⟨rfl, o733, o734⟩ := hP
            rcases (by omega : v732 = 0 ∨ v732 = 1) with rfl | rfl
            · refine zz_ldcs (t := 45) (by decide +kernel) (by decide) zd_5_3_136 ?_
              have g735 := zz_G.r G_S728 1077 1 0 128 rfl rfl
              refine zz_callVV [zi 0, .ref (100 + 45)] zd_5_3_138 zk_Line_59 zT_1077 (zz_ltn hn rfl) rfl rfl ⟨Nat.le_of_ble_eq_true rfl, Nat.le_of_ble_eq_true rfl⟩ ⟨rfl, rfl⟩ (Nat.zero_le _) (Nat.zero_le _) (zc_addIf_5_7 0 45 S728 n hn G_S728 (by omega) (by omega)) (fun S736 hP => ?_)
              obtain ⟨G_S736, fS736, o738⟩ := hP
              have F_S736 := zz_fr.trans F_S728 fS736 rfl zz_nv
              refine zz_aload_n (x := 1077) rfl zd_5_3_141 ?_
              refine zz_bipush (by decide) zd_5_3_142 ?_
              have g739 := zz_G.r G_S736 1077 1 0 128 rfl rfl
              refine zz_callVV [zi 10] zd_5_3_144 zk_Line_69 zT_1077 (zz_ltn hn rfl) rfl rfl ⟨Nat.le_of_ble_eq_true rfl, Nat.le_of_ble_eq_true rfl⟩ ⟨rfl, rfl⟩ (Nat.zero_le _) (Nat.zero_le _) (zc_addSign_5_12 10 S736 n hn G_S736 (by omega)) (fun S740 hP => ?_)
              obtain ⟨G_S740, fS740, o742⟩ := hP
              have F_S740 := zz_fr.trans F_S736 fS740 rfl zz_nv
              exact zz_vret zd_5_3_147 rfl (Nat.zero_le _) (Nat.zero_le _) ⟨_, rfl, G_S740, F_S740⟩
            · refine zz_ldcs (t := 45) (by decide +kernel) (by decide) zd_5_3_136 ?_
              have g743 := zz_G.r G_S728 1077 1 0 128 rfl rfl
              refine zz_callVV [zi 1, .ref (100 + 45)] zd_5_3_138 zk_Line_59 zT_1077 (zz_ltn hn rfl) rfl rfl ⟨Nat.le_of_ble_eq_true rfl, Nat.le_of_ble_eq_true rfl⟩ ⟨rfl, rfl⟩ (Nat.zero_le _) (Nat.zero_le _) (zc_addIf_5_7 1 45 S728 n hn G_S728 (by omega) (by omega)) (fun S744 hP => ?_)
              obtain ⟨G_S744, fS744, o746⟩ := hP
              have F_S744 := zz_fr.trans F_S728 fS744 rfl zz_nv
              refine zz_aload_n (x := 1077) rfl zd_5_3_141 ?_
              refine zz_bipush (by decide) zd_5_3_142 ?_
              have g747 := zz_G.r G_S744 1077 1 0 128 rfl rfl
              refine zz_callVV [zi 10] zd_5_3_144 zk_Line_69 zT_1077 (zz_ltn hn rfl) rfl rfl ⟨Nat.le_of_ble_eq_true rfl, Nat.le_of_ble_eq_true rfl⟩ ⟨rfl, rfl⟩ (Nat.zero_le _) (Nat.zero_le _) (zc_addSign_5_12 10 S744 n hn G_S744 (by omega)) (fun S748 hP => ?_)
              obtain ⟨G_S748, fS748, o750⟩ := hP
              have F_S748 := zz_fr.trans F_S744 fS748 rfl zz_nv
              exact zz_vret zd_5_3_147 rfl (Nat.zero_le _) (Nat.zero_le _) ⟨_, rfl, G_S748, F_S748⟩
        · refine zz_ldcs (t := 43) (by decide +kernel) (by decide) zd_5_3_114 ?_
          have g751 := zz_G.r G_S688 1077 1 0 128 rfl rfl
          refine zz_callVV [zi 1, .ref (100 + 43)] zd_5_3_116 zk_Line_59 zT_1077 (zz_ltn hn rfl) rfl rfl ⟨Nat.le_of_ble_eq_true rfl, Nat.le_of_ble_eq_true rfl⟩ ⟨rfl, rfl⟩ (Nat.zero_le _) (Nat.zero_le _) (zc_addIf_5_7 1 43 S688 n hn G_S688 (by omega) (by omega)) (fun S752 hP => ?_)
          obtain ⟨G_S752, fS752, o754⟩ := hP
          have F_S752 := zz_fr.trans F_S688 fS752 rfl zz_nv
          refine zz_aload_n (x := 1077) rfl zd_5_3_119 ?_
          refine zz_lload_n (x := p0) rfl zd_5_3_120 ?_
          refine zz_iconst zd_5_3_121 ?_
          refine zz_callSI [zl p0, zi 3] zd_5_3_122 zk_Line_39 rfl rfl ⟨Nat.le_of_ble_eq_true rfl, Nat.le_of_ble_eq_true rfl⟩ ⟨rfl, rfl⟩ (Nat.zero_le _) (Nat.zero_le _) (zc_has_12_3x_3 p0 S752 n hn G_S752 (by omega)) (fun v756 S755 hP => ?_)
          obtain ⟨rfl, o757, o758⟩ := hP
          rcases (by omega : v756 = 0 ∨ v756 = 1) with rfl | rfl
          · refine zz_ldcs (t := 44) (by decide +kernel) (by decide) zd_5_3_125 ?_
            have g759 := zz_G.r G_S752 1077 1 0 128 rfl rfl
            refine zz_callVV [zi 0, .ref (100 + 44)] zd_5_3_127 zk_Line_59 zT_1077 (zz_ltn hn rfl) rfl rfl ⟨Nat.le_of_ble_eq_true rfl, Nat.le_of_ble_eq_true rfl⟩ ⟨rfl, rfl⟩ (Nat.zero_le _) (Nat.zero_le _) (zc_addIf_5_7 0 44 S752 n hn G_S752 (by omega) (by omega)) (fun S760 hP => ?_)
            obtain ⟨G_S760, fS760, o762⟩ := hP
            have F_S760 := zz_fr.trans F_S752 fS760 rfl zz_nv
            refine zz_aload_n (x := 1077) rfl zd_5_3_130 ?_
            refine zz_lload_n (x := p0) rfl zd_5_3_131 ?_
            refine zz_iconst zd_5_3_132 ?_
            refine zz_callSI [zl p0, zi 4] zd_5_3_133 zk_Line_39 rfl rfl ⟨Nat.le_of_ble_eq_true rfl, Nat.le_of_ble_eq_true rfl⟩ ⟨rfl, rfl⟩ (Nat.zero_le _) (Nat.zero_le _) (zc_has_12_3x_4 p0 S760 n hn G_S760 (by omega)) (fun v764 S763 hP => ?_)
            obtain ⟨rfl, o765, o766⟩ := hP
            rcases (by omega : v764 = 0 ∨ v764 = 1) with rfl | rfl
            · refine zz_ldcs (t := 45) (by decide +kernel) (by decide) zd_5_3_136 ?_
              have g767 := zz_G.r G_S760 1077 1 0 128 rfl rfl
              refine zz_callVV [zi 0, .ref (100 + 45)] zd_5_3_138 zk_Line_59 zT_1077 (zz_ltn hn rfl) rfl rfl ⟨Nat.le_of_ble_eq_true rfl, Nat.le_of_ble_eq_true rfl⟩ ⟨rfl, rfl⟩ (Nat.zero_le _) (Nat.zero_le _) (zc_addIf_5_7 0 45 S760 n hn G_S760 (by omega) (by omega)) (fun S768 hP => ?_)
              obtain ⟨G_S768, fS768, o770⟩ := hP
              have F_S768 := zz_fr.trans F_S760 fS768 rfl zz_nv
              refine zz_aload_n (x := 1077) rfl zd_5_3_141 ?_
              refine zz_bipush (by decide) zd_5_3_142 ?_
              have g771 := zz_G.r G_S768 1077 1 0 128 rfl rfl
              refine zz_callVV [zi 10] zd_5_3_144 zk_Line_69 zT_1077 (zz_ltn hn rfl) rfl rfl ⟨Nat.le_of_ble_eq_true rfl, Nat.le_of_ble_eq_true rfl⟩ ⟨rfl, rfl⟩ (Nat.zero_le _) (Nat.zero_le _) (zc_addSign_5_12 10 S768 n hn G_S768 (by omega)) (fun S772 hP => ?_)
              obtain ⟨G_S772, fS772, o774⟩ := hP
              have F_S772 := zz_fr.trans F_S768 fS772 rfl zz_nv
              exact zz_vret zd_5_3_147 rfl (Nat.zero_le _) (Nat.zero_le _) ⟨_, rfl, G_S772, F_S772⟩
            · refine zz_ldcs (t := 45) (by decide +kernel) (by decide) zd_5_3_136 ?_
              have g775 := zz_G.r G_S760 1077 1 0 128 rfl rfl
              refine zz_callVV [zi 1, .ref (100 + 45)] zd_5_3_138 zk_Line_59 zT_1077 (zz_ltn hn rfl) rfl rfl ⟨Nat.le_of_ble_eq_true rfl, Nat.le_of_ble_eq_true rfl⟩ ⟨rfl, rfl⟩ (Nat.zero_le _) (Nat.zero_le _) (zc_addIf_5_7 1 45 S760 n hn G_S760 (by omega) (by omega)) (fun S776 hP => ?_)
              obtain ⟨G_S776, fS776, o778⟩ := hP
              have F_S776 := zz_fr.trans F_S760 fS776 rfl zz_nv
              refine zz_aload_n (x := 1077) rfl zd_5_3_141 ?_
              refine zz_bipush (by decide) zd_5_3_142 ?_
              have g779 := zz_G.r G_S776 1077 1 0 128 rfl rfl
              refine zz_callVV [zi 10] zd_5_3_144 zk_Line_69 zT_1077 (zz_ltn hn rfl) rfl rfl ⟨Nat.le_of_ble_eq_true rfl, Nat.le_of_ble_eq_true rfl⟩ ⟨rfl, rfl⟩ (Nat.zero_le _) (Nat.zero_le _) (zc_addSign_5_12 10 S776 n hn G_S776 (by omega)) (fun S780 hP => ?_)
              obtain ⟨G_S780, fS780, o782⟩ := hP
              have F_S780 := zz_fr.trans F_S776 fS780 rfl zz_nv
              exact zz_vret zd_5_3_147 rfl (Nat.zero_le _) (Nat.zero_le _) ⟨_, rfl, G_S780, F_S780⟩
          · refine zz_ldcs (t := 44) (by decide +kernel) (by decide) zd_5_3_125 ?_
            have g783 := zz_G.r G_S752 1077 1 0 128 rfl rfl
            refine zz_callVV [zi 1, .ref (100 + 44)] zd_5_3_127 zk_Line_59 zT_1077 (zz_ltn hn rfl) rfl rfl ⟨Nat.le_of_ble_eq_true rfl, Nat.le_of_ble_eq_true rfl⟩ ⟨rfl, rfl⟩ (Nat.zero_le _) (Nat.zero_le _) (zc_addIf_5_7 1 44 S752 n hn G_S752 (by omega) (by omega)) (fun S784 hP => ?_)
            obtain ⟨G_S784, fS784, o786⟩ := hP
            have F_S784 := zz_fr.trans F_S752 fS784 rfl zz_nv
            refine zz_aload_n (x := 1077) rfl zd_5_3_130 ?_
            refine zz_lload_n (x := p0) rfl zd_5_3_131 ?_
            refine zz_iconst zd_5_3_132 ?_
            refine zz_callSI [zl p0, zi 4] zd_5_3_133 zk_Line_39 rfl rfl ⟨Nat.le_of_ble_eq_true rfl, Nat.le_of_ble_eq_true rfl⟩ ⟨rfl, rfl⟩ (Nat.zero_le _) (Nat.zero_le _) (zc_has_12_3x_4 p0 S784 n hn G_S784 (by omega)) (fun v788 S787 hP => ?_)
            obtain ⟨rfl, o789, o790⟩ := hP
            rcases (by omega : v788 = 0 ∨ v788 = 1) with rfl | rfl
            · refine zz_ldcs (t := 45) (by decide +kernel) (by decide) zd_5_3_136 ?_
              have g791 := zz_G.r G_S784 1077 1 0 128 rfl rfl
              refine zz_callVV [zi 0, .ref (100 + 45)] zd_5_3_138 zk_Line_59 zT_1077 (zz_ltn hn rfl) rfl rfl ⟨Nat.le_of_ble_eq_true rfl, Nat.le_of_ble_eq_true rfl⟩ ⟨rfl, rfl⟩ (Nat.zero_le _) (Nat.zero_le _) (zc_addIf_5_7 0 45 S784 n hn G_S784 (by omega) (by omega)) (fun S792 hP => ?_)
              obtain ⟨G_S792, fS792, o794⟩ := hP
              have F_S792 := zz_fr.trans F_S784 fS792 rfl zz_nv
              refine zz_aload_n (x := 1077) rfl zd_5_3_141 ?_
              refine zz_bipush (by decide) zd_5_3_142 ?_
              have g795 := zz_G.r G_S792 1077 1 0 128 rfl rfl
              refine zz_callVV [zi 10] zd_5_3_144 zk_Line_69 zT_1077 (zz_ltn hn rfl) rfl rfl ⟨Nat.le_of_ble_eq_true rfl, Nat.le_of_ble_eq_true rfl⟩ ⟨rfl, rfl⟩ (Nat.zero_le _) (Nat.zero_le _) (zc_addSign_5_12 10 S792 n hn G_S792 (by omega)) (fun S796 hP => ?_)
              obtain ⟨G_S796, fS796, o798⟩ := hP
              have F_S796 := zz_fr.trans F_S792 fS796 rfl zz_nv
              exact zz_vret zd_5_3_147 rfl (Nat.zero_le _) (Nat.zero_le _) ⟨_, rfl, G_S796, F_S796⟩
            · refine zz_ldcs (t := 45) (by decide +kernel) (by decide) zd_5_3_136 ?_
              have g799 := zz_G.r G_S784 1077 1 0 128 rfl rfl
              refine zz_callVV [zi 1, .ref (100 + 45)] zd_5_3_138 zk_Line_59 zT_1077 (zz_ltn hn rfl) rfl rfl ⟨Nat.le_of_ble_eq_true rfl, Nat.le_of_ble_eq_true rfl⟩ ⟨rfl, rfl⟩ (Nat.zero_le _) (Nat.zero_le _) (zc_addIf_5_7 1 45 S784 n hn G_S784 (by omega) (by omega)) (fun S800 hP => ?_)
              obtain ⟨G_S800, fS800, o802⟩ := hP
              have F_S800 := zz_fr.trans F_S784 fS800 rfl zz_nv
              refine zz_aload_n (x := 1077) rfl zd_5_3_141 ?_
              refine zz_bipush (by decide) zd_5_3_142 ?_
              have g803 := zz_G.r G_S800 1077 1 0 128 rfl rfl
              refine zz_callVV [zi 10] zd_5_3_144 zk_Line_69 zT_1077 (zz_ltn hn rfl) rfl rfl ⟨Nat.le_of_ble_eq_true rfl, Nat.le_of_ble_eq_true rfl⟩ ⟨rfl, rfl⟩ (Nat.zero_le _) (Nat.zero_le _) (zc_addSign_5_12 10 S800 n hn G_S800 (by omega)) (fun S804 hP => ?_)
              obtain ⟨G_S804, fS804, o806⟩ := hP
              have F_S804 := zz_fr.trans F_S800 fS804 rfl zz_nv
              exact zz_vret zd_5_3_147 rfl (Nat.zero_le _) (Nat.zero_le _) ⟨_, rfl, G_S804, F_S804⟩
    · exfalso; omega
theorem zk_TF_174 : mm_Vl "TensorForge" 174 10 1 zy_writeInstruction_5_3 := ⟨zyw_writeInstruction_5_3, (R_Line, F_Line, 2), rfl, mm_tb_1 1252 (by decide +kernel) rfl, mm_tb_1 1253 (by decide +kernel) rfl, mm_tb_1 1254 (by decide +kernel) rfl⟩
abbrev zy_signAt_5_2 : mm_Y := (⟨"TensorForge$Line", "signAt", "(I)I"⟩, prog_5_method_2_code, 2, (some .int))
theorem zyw_signAt_5_2 : mm_Yw zy_signAt_5_2 1 := ⟨mm_tb_1 1303 (by decide +kernel) rfl, mm_tb_1 11 (by decide +kernel) rfl, ⟨by decide, by decide⟩, by decide +kernel⟩
theorem zg_1_14_39 : zq_at zy_listing_1_14.2.1 39 42 ∧ zq_at zy_listing_1_14.2.1 40 180 ∧ zq_at zy_listing_1_14.2.1 41 0 ∧ zq_at zy_listing_1_14.2.1 42 83 ∧ zq_at zy_listing_1_14.2.1 43 28 ∧ zq_at zy_listing_1_14.2.1 44 182 ∧ zq_at zy_listing_1_14.2.1 45 0 ∧ zq_at zy_listing_1_14.2.1 46 178 := by decide +kernel
theorem zd_1_14_39 : zz_D zy_listing_1_14 39 (.aload_n 0) 1 40 := ⟨zq_42 zg_1_14_39.1, rfl⟩
theorem zd_1_14_40 : zz_D zy_listing_1_14 40 (.getfield 83) 3 43 := ⟨zq_180 zg_1_14_39.2.1 zg_1_14_39.2.2.1 zg_1_14_39.2.2.2.1 rfl, rfl⟩
theorem zd_1_14_43 : zz_D zy_listing_1_14 43 (.iload_n 2) 1 44 := ⟨zq_28 zg_1_14_39.2.2.2.2.1, rfl⟩
theorem zd_1_14_44 : zz_D zy_listing_1_14 44 (.invokevirtual 178) 3 47 := ⟨zq_182 zg_1_14_39.2.2.2.2.2.1 zg_1_14_39.2.2.2.2.2.2.1 zg_1_14_39.2.2.2.2.2.2.2 rfl, rfl⟩
theorem zg_5_2_0 : zq_at zy_signAt_5_2.2.1 0 27 ∧ zq_at zy_signAt_5_2.2.1 1 155 ∧ zq_at zy_signAt_5_2.2.1 2 0 ∧ zq_at zy_signAt_5_2.2.1 3 11 ∧ zq_at zy_signAt_5_2.2.1 12 2 ∧ zq_at zy_signAt_5_2.2.1 13 167 ∧ zq_at zy_signAt_5_2.2.1 14 0 ∧ zq_at zy_signAt_5_2.2.1 15 9 ∧ zq_at zy_signAt_5_2.2.1 22 172 ∧ zq_at zy_signAt_5_2.2.1 4 27 ∧ zq_at zy_signAt_5_2.2.1 5 42 ∧ zq_at zy_signAt_5_2.2.1 6 180 ∧ zq_at zy_signAt_5_2.2.1 7 0 ∧ zq_at zy_signAt_5_2.2.1 8 15 ∧ zq_at zy_signAt_5_2.2.1 9 161 ∧ zq_at zy_signAt_5_2.2.1 10 0 ∧ zq_at zy_signAt_5_2.2.1 11 7 ∧ zq_at zy_signAt_5_2.2.1 16 42 ∧ zq_at zy_signAt_5_2.2.1 17 180 ∧ zq_at zy_signAt_5_2.2.1 18 0 ∧ zq_at zy_signAt_5_2.2.1 19 11 ∧ zq_at zy_signAt_5_2.2.1 20 27 ∧ zq_at zy_signAt_5_2.2.1 21 52 := by decide +kernel
theorem zd_5_2_0 : zz_D zy_signAt_5_2 0 (.iload_n 1) 1 1 := ⟨zq_27 zg_5_2_0.1, rfl⟩
theorem zd_5_2_1 : zz_B zy_signAt_5_2 1 (Instr.ifCond .lt) 12 4 := ⟨11, zq_155 zg_5_2_0.2.1 zg_5_2_0.2.2.1 zg_5_2_0.2.2.2.1 (by decide), rfl, rfl⟩
theorem zd_5_2_12 : zz_D zy_signAt_5_2 12 (.iconst (-1)) 1 13 := ⟨zq_2 zg_5_2_0.2.2.2.2.1, rfl⟩
theorem zd_5_2_13 : zz_B zy_signAt_5_2 13 Instr.goto 22 16 := ⟨9, zq_167 zg_5_2_0.2.2.2.2.2.1 zg_5_2_0.2.2.2.2.2.2.1 zg_5_2_0.2.2.2.2.2.2.2.1 (by decide), rfl, rfl⟩
theorem zd_5_2_22 : zz_D zy_signAt_5_2 22 (.ireturn) 1 23 := ⟨zq_172 zg_5_2_0.2.2.2.2.2.2.2.2.1, rfl⟩
theorem zd_5_2_4 : zz_D zy_signAt_5_2 4 (.iload_n 1) 1 5 := ⟨zq_27 zg_5_2_0.2.2.2.2.2.2.2.2.2.1, rfl⟩
theorem zd_5_2_5 : zz_D zy_signAt_5_2 5 (.aload_n 0) 1 6 := ⟨zq_42 zg_5_2_0.2.2.2.2.2.2.2.2.2.2.1, rfl⟩
theorem zd_5_2_6 : zz_D zy_signAt_5_2 6 (.getfield 15) 3 9 := ⟨zq_180 zg_5_2_0.2.2.2.2.2.2.2.2.2.2.2.1 zg_5_2_0.2.2.2.2.2.2.2.2.2.2.2.2.1 zg_5_2_0.2.2.2.2.2.2.2.2.2.2.2.2.2.1 rfl, rfl⟩
theorem zd_5_2_9 : zz_B zy_signAt_5_2 9 (Instr.if_icmp .lt) 16 12 := ⟨7, zq_161 zg_5_2_0.2.2.2.2.2.2.2.2.2.2.2.2.2.2.1 zg_5_2_0.2.2.2.2.2.2.2.2.2.2.2.2.2.2.2.1 zg_5_2_0.2.2.2.2.2.2.2.2.2.2.2.2.2.2.2.2.1 (by decide), rfl, rfl⟩
theorem zd_5_2_16 : zz_D zy_signAt_5_2 16 (.aload_n 0) 1 17 := ⟨zq_42 zg_5_2_0.2.2.2.2.2.2.2.2.2.2.2.2.2.2.2.2.2.1, rfl⟩
theorem zd_5_2_17 : zz_D zy_signAt_5_2 17 (.getfield 11) 3 20 := ⟨zq_180 zg_5_2_0.2.2.2.2.2.2.2.2.2.2.2.2.2.2.2.2.2.2.1 zg_5_2_0.2.2.2.2.2.2.2.2.2.2.2.2.2.2.2.2.2.2.2.1 zg_5_2_0.2.2.2.2.2.2.2.2.2.2.2.2.2.2.2.2.2.2.2.2.1 rfl, rfl⟩
theorem zd_5_2_20 : zz_D zy_signAt_5_2 20 (.iload_n 1) 1 21 := ⟨zq_27 zg_5_2_0.2.2.2.2.2.2.2.2.2.2.2.2.2.2.2.2.2.2.2.2.2.1, rfl⟩
theorem zd_5_2_21 : zz_D zy_signAt_5_2 21 (.caload) 1 22 := ⟨zq_52 zg_5_2_0.2.2.2.2.2.2.2.2.2.2.2.2.2.2.2.2.2.2.2.2.2.2, rfl⟩
-- TensorForge$Line signAt (I)I
abbrev zr_signAt_5_2 : Room := { frames := 0, cells := 0, slots := 0, locals := 0 }
def zp_signAt_5_2 (p0 : Int) (S0 : zz_S) : Int → zz_S → Prop := fun r S => S0 = S ∧ ((-2147483648) ≤ r ∧ r ≤ 2147483647) ∧ (∀ (u : List Int), zs_P (S0 1077 1) (S0 1078) u → 0 ≤ p0 → r = zs_at u p0)
theorem zc_signAt_5_2 {g : mm_G} {l : Launch} (p0 : Int) (S0 : zz_S) (n : Nat) (hn : zz_end ≤ n) (G_S0 : zz_G S0) (hp0 : (-2147483648) ≤ p0 ∧ p0 ≤ 2147483647) : mm_Met g l zy_signAt_5_2 zr_signAt_5_2 [.ref 1077, zi p0] (zz_M S0 n) n (zz_QI n (zp_signAt_5_2 p0 S0)) := by
  refine zz_enter (by decide) (Nat.le_of_ble_eq_true rfl) (zz_less (ls1 := [some (.ref 1077), some (zi p0)]) ⟨rfl, ⟨rfl, trivial⟩⟩ ?_)
  refine zz_iload_n (x := p0) rfl zd_5_2_0 ?_
  refine zz_if_lt (by omega) zd_5_2_1 (fun c1 => ?_) (fun c1 => ?_)
  · refine zz_iconst zd_5_2_12 ?_
    refine zz_goto zd_5_2_13 ?_
    exact zz_iret zd_5_2_22 rfl (Nat.zero_le _) (Nat.zero_le _) ⟨_, _, rfl, rfl, by omega, (fun u h hp => (zs_atn h (by omega)).symm)⟩
  · refine zz_iload_n (x := p0) rfl zd_5_2_4 ?_
    refine zz_aload_n (x := 1077) rfl zd_5_2_5 ?_
    have g2 := zz_G.r G_S0 1077 1 0 128 rfl rfl
    refine zz_geti (z := S0 1077 1) zd_5_2_6 zf_Line_15 zT_1077 rfl (zz_ltn hn rfl) rfl ?_
    refine zz_icmp_lt (by omega) (by omega) zd_5_2_9 (fun c3 => ?_) (fun c3 => ?_)
    · refine zz_aload_n (x := 1077) rfl zd_5_2_16 ?_
      refine zz_getr (kd := 0) (z := 1078) zd_5_2_17 zf_Line_11 zT_1077 rfl (zz_ltn hn rfl) (zz_G.eq G_S0 1077 0 1078 rfl rfl) (by decide) 1078 rfl ?_
      refine zz_iload_n (x := p0) rfl zd_5_2_20 ?_
      have g4 := zz_G.r G_S0 1078 p0.toNat 0 65535 rfl rfl
      refine zz_cald (z := S0 1078 p0.toNat) zd_5_2_21 zT_1078 rfl (zz_ltn hn rfl) (by decide) (by omega) rfl ?_
      exact zz_iret zd_5_2_22 rfl (Nat.zero_le _) (Nat.zero_le _) ⟨_, _, rfl, rfl, by omega, (fun u h hp => (zs_aty h hp (by omega)).symm)⟩
    · refine zz_iconst zd_5_2_12 ?_
      refine zz_goto zd_5_2_13 ?_
      exact zz_iret zd_5_2_22 rfl (Nat.zero_le _) (Nat.zero_le _) ⟨_, _, rfl, rfl, by omega, (fun u h hp => (zs_atn h (by omega)).symm)⟩
theorem zk_TF_178 : mm_Vl "TensorForge" 178 10 1 zy_signAt_5_2 := ⟨zyw_signAt_5_2, (R_Line, F_Line, 2), rfl, mm_tb_1 1300 (by decide +kernel) rfl, mm_tb_1 1301 (by decide +kernel) rfl, mm_tb_1 1302 (by decide +kernel) rfl⟩
theorem zg_1_14_47 : zq_at zy_listing_1_14.2.1 47 172 := by decide +kernel
theorem zd_1_14_47 : zz_D zy_listing_1_14 47 (.ireturn) 1 48 := ⟨zq_172 zg_1_14_47, rfl⟩
-- TensorForge listing (II)I
abbrev zr_listing_1_14 : Room := { frames := 8, cells := 1, slots := 6, locals := 112 }
def zp_listing_1_14 (p0 : Int) (p1 : Int) (S0 : zz_S) : Int → zz_S → Prop := fun r S => zz_G S ∧ zz_fr [(1077, 1)] [1078] (fun _ _ => False) S0 S ∧ ((-2147483648) ≤ r ∧ r ≤ 2147483647)
def zx_listing_1_14 (p0 : Int) (p1 : Int) (S0 : zz_S) : Nat → zz_S → Prop := fun i S => zz_G S ∧ zz_fr [(1077, 1)] [1078] (fun _ _ => False) S0 S ∧ (i < 4) ∧ (i = 1)
theorem zc_listing_1_14 {g : mm_G} {l : Launch} (p0 : Int) (p1 : Int) (S0 : zz_S) (n : Nat) (hn : zz_end ≤ n) (hfl : l.flags = flags0) (G_S0 : zz_G S0) (hp0 : (-2147483648) ≤ p0 ∧ p0 ≤ 2147483647) (hp1 : (-2147483648) ≤ p1 ∧ p1 ≤ 2147483647) : mm_Met g l zy_listing_1_14 zr_listing_1_14 [.ref 1000, zi p0, zi p1] (zz_M S0 n) n (zz_XI n (zp_listing_1_14 p0 p1 S0) (zx_listing_1_14 p0 p1 S0)) := by
  refine zz_enter (by decide) (Nat.le_of_ble_eq_true rfl) (zz_less (ls1 := [some (.ref 1000), some (zi p0), some (zi p1)]) ⟨rfl, ⟨rfl, ⟨rfl, trivial⟩⟩⟩ ?_)
  have F_S0 : zz_fr [(1077, 1)] [1078] (fun _ _ => False) S0 S0 := zz_fr.refl
  refine zz_iload_n (x := p0) rfl zd_1_14_0 ?_
  refine zz_if_lt (by omega) zd_1_14_1 (fun c1 => ?_) (fun c1 => ?_)
  · exact zz_throw (i := 1) hfl hn zt_1_14_16 zyw_listing_1_14 zxl_TF_101_172_105 (Nat.le_of_ble_eq_true rfl) (Nat.le_of_ble_eq_true rfl) ⟨Nat.le_of_ble_eq_true rfl, Nat.le_of_ble_eq_true rfl⟩ (Or.inr ⟨_, _, rfl, G_S0, F_S0, by omega, by omega⟩)
  · refine zz_iload_n (x := p0) rfl zd_1_14_4 ?_
    refine zz_aload_n (x := 1000) rfl zd_1_14_5 ?_
    have g2 := zz_G.r G_S0 1000 11 0 600 rfl rfl
    refine zz_geti (z := S0 1000 11) zd_1_14_6 zf_TF_26 zT_1000 rfl (zz_ltn hn rfl) rfl ?_
    refine zz_icmp_ge (by omega) (by omega) zd_1_14_9 (fun c3 => ?_) (fun c3 => ?_)
    · exact zz_throw (i := 1) hfl hn zt_1_14_16 zyw_listing_1_14 zxl_TF_101_172_105 (Nat.le_of_ble_eq_true rfl) (Nat.le_of_ble_eq_true rfl) ⟨Nat.le_of_ble_eq_true rfl, Nat.le_of_ble_eq_true rfl⟩ (Or.inr ⟨_, _, rfl, G_S0, F_S0, by omega, by omega⟩)
    · refine zz_iload_n (x := p1) rfl zd_1_14_12 ?_
      refine zz_if_ge (by omega) zd_1_14_13 (fun c4 => ?_) (fun c4 => ?_)
      · refine zz_aload_n (x := 1000) rfl zd_1_14_26 ?_
        refine zz_getr (kd := 0) (z := 1077) zd_1_14_27 zf_TF_83 zT_1000 rfl (zz_ltn hn rfl) (zz_G.eq G_S0 1000 6 1077 rfl rfl) (by decide) 1077 rfl ?_
        refine zz_aload_n (x := 1000) rfl zd_1_14_30 ?_
        have g5 := zz_G.r G_S0 1000 9 0 1 rfl rfl
        refine zz_getr (kd := 2) (z := S0 1000 9) zd_1_14_31 zf_TF_19 zT_1000 rfl (zz_ltn hn rfl) rfl (by omega) (zz_rf 4 (S0 1000 9)) rfl ?_
        refine zz_iload_n (x := p0) rfl zd_1_14_34 ?_
        have g6 := zz_G.r G_S0 (zz_rf 4 (S0 1000 9)) p0.toNat (-9223372036854775808) 9223372036854775807 (zR_k4 (by omega)) (zB_k4 (by omega))
        refine zz_lald (z := S0 (zz_rf 4 (S0 1000 9)) p0.toNat) zd_1_14_35 (zT_k4 (by omega)) rfl (zN_k4 hn (by omega)) (by decide) (by omega) rfl ?_
        refine zz_callVV [zl (S0 (zz_rf 4 (S0 1000 9)) p0.toNat)] zd_1_14_36 zk_TF_174 zT_1077 (zz_ltn hn rfl) rfl rfl ⟨Nat.le_of_ble_eq_true rfl, Nat.le_of_ble_eq_true rfl⟩ ⟨rfl, rfl⟩ (Nat.zero_le _) (Nat.zero_le _) (zc_writeInstruction_5_3 (S0 (zz_rf 4 (S0 1000 9)) p0.toNat) S0 n hn G_S0 (by omega)) (fun S7 hP => ?_)
        obtain ⟨G_S7, fS7⟩ := hP
        have F_S7 := zz_fr.trans F_S0 fS7 rfl zz_nv
        refine zz_aload_n (x := 1000) rfl zd_1_14_39 ?_
        refine zz_getr (kd := 0) (z := 1077) zd_1_14_40 zf_TF_83 zT_1000 rfl (zz_ltn hn rfl) (zz_G.eq G_S7 1000 6 1077 rfl rfl) (by decide) 1077 rfl ?_
        refine zz_iload_n (x := p1) rfl zd_1_14_43 ?_
        have g9 := zz_G.r G_S7 1077 1 0 128 rfl rfl
        refine zz_callVI [zi p1] zd_1_14_44 zk_TF_178 zT_1077 (zz_ltn hn rfl) rfl rfl ⟨Nat.le_of_ble_eq_true rfl, Nat.le_of_ble_eq_true rfl⟩ ⟨rfl, rfl⟩ (Nat.zero_le _) (Nat.zero_le _) (zc_signAt_5_2 p1 S7 n hn G_S7 (by omega)) (fun v11 S10 hP => ?_)
        obtain ⟨rfl, o12, o13⟩ := hP
        exact zz_iret zd_1_14_47 rfl (Nat.le_of_ble_eq_true rfl) (Nat.le_of_ble_eq_true rfl) (Or.inl ⟨_, _, rfl, G_S7, F_S7, by omega⟩)
      · exact zz_throw (i := 1) hfl hn zt_1_14_16 zyw_listing_1_14 zxl_TF_101_172_105 (Nat.le_of_ble_eq_true rfl) (Nat.le_of_ble_eq_true rfl) ⟨Nat.le_of_ble_eq_true rfl, Nat.le_of_ble_eq_true rfl⟩ (Or.inr ⟨_, _, rfl, G_S0, F_S0, by omega, by omega⟩)
abbrev zy_run_1_15 : mm_Y := (⟨"TensorForge", "run", "()I"⟩, prog_1_method_15_code, 1, (some .int))
theorem zyw_run_1_15 : mm_Yw zy_run_1_15 0 := ⟨mm_tb_1 696 (by decide +kernel) rfl, mm_tb_1 1 (by decide +kernel) rfl, ⟨by decide, by decide⟩, by decide +kernel⟩
abbrev zy_follow_10_2 : mm_Y := (⟨"TensorForge$Run", "follow", "([JI)V"⟩, prog_10_method_2_code, 9, none)
theorem zyw_follow_10_2 : mm_Yw zy_follow_10_2 2 := ⟨mm_tb_1 700 (by decide +kernel) rfl, mm_tb_1 6 (by decide +kernel) rfl, ⟨by decide, by decide⟩, by decide +kernel⟩
abbrev zy_prepare_10_3 : mm_Y := (⟨"TensorForge$Run", "prepare", "([JI)V"⟩, prog_10_method_3_code, 4, none)
theorem zyw_prepare_10_3 : mm_Yw zy_prepare_10_3 2 := ⟨mm_tb_1 704 (by decide +kernel) rfl, mm_tb_1 6 (by decide +kernel) rfl, ⟨by decide, by decide⟩, by decide +kernel⟩
theorem zm_Run_77 : Cond.methodLink "TensorForge$Run" 77 Lib.Math.min.name ∈ mm_tb ∧ Cond.static Lib.Math.min.name ∈ mm_tb ∧ Cond.initialized "java/lang/Math" ∈ mm_tb ∧ Cond.code Lib.Math.min.name Lib.Math.min.code 2 (some .int) ∈ mm_tb := ⟨mm_tb_1 705 (by decide +kernel) rfl, mm_tb_1 706 (by decide +kernel) rfl, mm_tb_1 25 (by decide +kernel) rfl, mm_tb_1 707 (by decide +kernel) rfl⟩
theorem zm_Run_83 : Cond.methodLink "TensorForge$Run" 83 Lib.Math.max.name ∈ mm_tb ∧ Cond.static Lib.Math.max.name ∈ mm_tb ∧ Cond.initialized "java/lang/Math" ∈ mm_tb ∧ Cond.code Lib.Math.max.name Lib.Math.max.code 2 (some .int) ∈ mm_tb := ⟨mm_tb_1 708 (by decide +kernel) rfl, mm_tb_1 709 (by decide +kernel) rfl, mm_tb_1 25 (by decide +kernel) rfl, mm_tb_1 710 (by decide +kernel) rfl⟩
theorem zac_Run_86 : Cond.methodLink "TensorForge$Run" 86 arraycopyName ∈ mm_tb ∧ Cond.native arraycopyName ∈ mm_tb ∧ Cond.static arraycopyName ∈ mm_tb ∧ Cond.initialized "java/lang/System" ∈ mm_tb := ⟨mm_tb_1 711 (by decide +kernel) rfl, mm_tb_1 713 (by decide +kernel) rfl, mm_tb_1 712 (by decide +kernel) rfl, mm_tb_1 26 (by decide +kernel) rfl⟩
theorem zg_1_15_0 : zq_at zy_run_1_15.2.1 0 42 ∧ zq_at zy_run_1_15.2.1 1 180 ∧ zq_at zy_run_1_15.2.1 2 0 ∧ zq_at zy_run_1_15.2.1 3 42 ∧ zq_at zy_run_1_15.2.1 4 42 ∧ zq_at zy_run_1_15.2.1 5 180 ∧ zq_at zy_run_1_15.2.1 6 0 ∧ zq_at zy_run_1_15.2.1 7 19 ∧ zq_at zy_run_1_15.2.1 8 42 ∧ zq_at zy_run_1_15.2.1 9 180 ∧ zq_at zy_run_1_15.2.1 10 0 ∧ zq_at zy_run_1_15.2.1 11 26 ∧ zq_at zy_run_1_15.2.1 12 182 ∧ zq_at zy_run_1_15.2.1 13 0 ∧ zq_at zy_run_1_15.2.1 14 182 := by decide +kernel
theorem zd_1_15_0 : zz_D zy_run_1_15 0 (.aload_n 0) 1 1 := ⟨zq_42 zg_1_15_0.1, rfl⟩
theorem zd_1_15_1 : zz_D zy_run_1_15 1 (.getfield 42) 3 4 := ⟨zq_180 zg_1_15_0.2.1 zg_1_15_0.2.2.1 zg_1_15_0.2.2.2.1 rfl, rfl⟩
theorem zd_1_15_4 : zz_D zy_run_1_15 4 (.aload_n 0) 1 5 := ⟨zq_42 zg_1_15_0.2.2.2.2.1, rfl⟩
theorem zd_1_15_5 : zz_D zy_run_1_15 5 (.getfield 19) 3 8 := ⟨zq_180 zg_1_15_0.2.2.2.2.2.1 zg_1_15_0.2.2.2.2.2.2.1 zg_1_15_0.2.2.2.2.2.2.2.1 rfl, rfl⟩
theorem zd_1_15_8 : zz_D zy_run_1_15 8 (.aload_n 0) 1 9 := ⟨zq_42 zg_1_15_0.2.2.2.2.2.2.2.2.1, rfl⟩
theorem zd_1_15_9 : zz_D zy_run_1_15 9 (.getfield 26) 3 12 := ⟨zq_180 zg_1_15_0.2.2.2.2.2.2.2.2.2.1 zg_1_15_0.2.2.2.2.2.2.2.2.2.2.1 zg_1_15_0.2.2.2.2.2.2.2.2.2.2.2.1 rfl, rfl⟩
theorem zd_1_15_12 : zz_D zy_run_1_15 12 (.invokevirtual 182) 3 15 := ⟨zq_182 zg_1_15_0.2.2.2.2.2.2.2.2.2.2.2.2.1 zg_1_15_0.2.2.2.2.2.2.2.2.2.2.2.2.2.1 zg_1_15_0.2.2.2.2.2.2.2.2.2.2.2.2.2.2 rfl, rfl⟩
theorem zg_10_2_0 : zq_at zy_follow_10_2.2.1 0 42 ∧ zq_at zy_follow_10_2.2.1 1 43 ∧ zq_at zy_follow_10_2.2.1 2 28 ∧ zq_at zy_follow_10_2.2.1 3 182 ∧ zq_at zy_follow_10_2.2.1 4 0 ∧ zq_at zy_follow_10_2.2.1 5 50 := by decide +kernel
theorem zd_10_2_0 : zz_D zy_follow_10_2 0 (.aload_n 0) 1 1 := ⟨zq_42 zg_10_2_0.1, rfl⟩
theorem zd_10_2_1 : zz_D zy_follow_10_2 1 (.aload_n 1) 1 2 := ⟨zq_43 zg_10_2_0.2.1, rfl⟩
theorem zd_10_2_2 : zz_D zy_follow_10_2 2 (.iload_n 2) 1 3 := ⟨zq_28 zg_10_2_0.2.2.1, rfl⟩
theorem zd_10_2_3 : zz_D zy_follow_10_2 3 (.invokevirtual 50) 3 6 := ⟨zq_182 zg_10_2_0.2.2.2.1 zg_10_2_0.2.2.2.2.1 zg_10_2_0.2.2.2.2.2 rfl, rfl⟩
theorem zg_10_3_0 : zq_at zy_prepare_10_3.2.1 0 42 ∧ zq_at zy_prepare_10_3.2.1 1 3 ∧ zq_at zy_prepare_10_3.2.1 2 28 ∧ zq_at zy_prepare_10_3.2.1 3 43 ∧ zq_at zy_prepare_10_3.2.1 4 190 ∧ zq_at zy_prepare_10_3.2.1 5 42 ∧ zq_at zy_prepare_10_3.2.1 6 180 ∧ zq_at zy_prepare_10_3.2.1 7 0 ∧ zq_at zy_prepare_10_3.2.1 8 19 ∧ zq_at zy_prepare_10_3.2.1 9 190 ∧ zq_at zy_prepare_10_3.2.1 10 184 ∧ zq_at zy_prepare_10_3.2.1 11 0 ∧ zq_at zy_prepare_10_3.2.1 12 77 ∧ zq_at zy_prepare_10_3.2.1 13 184 ∧ zq_at zy_prepare_10_3.2.1 14 0 ∧ zq_at zy_prepare_10_3.2.1 15 77 ∧ zq_at zy_prepare_10_3.2.1 16 184 ∧ zq_at zy_prepare_10_3.2.1 17 0 ∧ zq_at zy_prepare_10_3.2.1 18 83 ∧ zq_at zy_prepare_10_3.2.1 19 181 ∧ zq_at zy_prepare_10_3.2.1 20 0 ∧ zq_at zy_prepare_10_3.2.1 21 46 ∧ zq_at zy_prepare_10_3.2.1 22 43 ∧ zq_at zy_prepare_10_3.2.1 23 3 := by decide +kernel
theorem zd_10_3_0 : zz_D zy_prepare_10_3 0 (.aload_n 0) 1 1 := ⟨zq_42 zg_10_3_0.1, rfl⟩
theorem zd_10_3_1 : zz_D zy_prepare_10_3 1 (.iconst 0) 1 2 := ⟨zq_3 zg_10_3_0.2.1, rfl⟩
theorem zd_10_3_2 : zz_D zy_prepare_10_3 2 (.iload_n 2) 1 3 := ⟨zq_28 zg_10_3_0.2.2.1, rfl⟩
theorem zd_10_3_3 : zz_D zy_prepare_10_3 3 (.aload_n 1) 1 4 := ⟨zq_43 zg_10_3_0.2.2.2.1, rfl⟩
theorem zd_10_3_4 : zz_D zy_prepare_10_3 4 (.arraylength) 1 5 := ⟨zq_190 zg_10_3_0.2.2.2.2.1, rfl⟩
theorem zd_10_3_5 : zz_D zy_prepare_10_3 5 (.aload_n 0) 1 6 := ⟨zq_42 zg_10_3_0.2.2.2.2.2.1, rfl⟩
theorem zd_10_3_6 : zz_D zy_prepare_10_3 6 (.getfield 19) 3 9 := ⟨zq_180 zg_10_3_0.2.2.2.2.2.2.1 zg_10_3_0.2.2.2.2.2.2.2.1 zg_10_3_0.2.2.2.2.2.2.2.2.1 rfl, rfl⟩
theorem zd_10_3_9 : zz_D zy_prepare_10_3 9 (.arraylength) 1 10 := ⟨zq_190 zg_10_3_0.2.2.2.2.2.2.2.2.2.1, rfl⟩
theorem zd_10_3_10 : zz_D zy_prepare_10_3 10 (.invokestatic 77) 3 13 := ⟨zq_184 zg_10_3_0.2.2.2.2.2.2.2.2.2.2.1 zg_10_3_0.2.2.2.2.2.2.2.2.2.2.2.1 zg_10_3_0.2.2.2.2.2.2.2.2.2.2.2.2.1 rfl, rfl⟩
theorem zd_10_3_13 : zz_D zy_prepare_10_3 13 (.invokestatic 77) 3 16 := ⟨zq_184 zg_10_3_0.2.2.2.2.2.2.2.2.2.2.2.2.2.1 zg_10_3_0.2.2.2.2.2.2.2.2.2.2.2.2.2.2.1 zg_10_3_0.2.2.2.2.2.2.2.2.2.2.2.2.2.2.2.1 rfl, rfl⟩
theorem zd_10_3_16 : zz_D zy_prepare_10_3 16 (.invokestatic 83) 3 19 := ⟨zq_184 zg_10_3_0.2.2.2.2.2.2.2.2.2.2.2.2.2.2.2.2.1 zg_10_3_0.2.2.2.2.2.2.2.2.2.2.2.2.2.2.2.2.2.1 zg_10_3_0.2.2.2.2.2.2.2.2.2.2.2.2.2.2.2.2.2.2.1 rfl, rfl⟩
theorem zd_10_3_19 : zz_D zy_prepare_10_3 19 (.putfield 46) 3 22 := ⟨zq_181 zg_10_3_0.2.2.2.2.2.2.2.2.2.2.2.2.2.2.2.2.2.2.2.1 zg_10_3_0.2.2.2.2.2.2.2.2.2.2.2.2.2.2.2.2.2.2.2.2.1 zg_10_3_0.2.2.2.2.2.2.2.2.2.2.2.2.2.2.2.2.2.2.2.2.2.1 rfl, rfl⟩
theorem zd_10_3_22 : zz_D zy_prepare_10_3 22 (.aload_n 1) 1 23 := ⟨zq_43 zg_10_3_0.2.2.2.2.2.2.2.2.2.2.2.2.2.2.2.2.2.2.2.2.2.2.1, rfl⟩
theorem zd_10_3_23 : zz_D zy_prepare_10_3 23 (.iconst 0) 1 24 := ⟨zq_3 zg_10_3_0.2.2.2.2.2.2.2.2.2.2.2.2.2.2.2.2.2.2.2.2.2.2.2, rfl⟩
theorem zg_10_3_24 : zq_at zy_prepare_10_3.2.1 24 42 ∧ zq_at zy_prepare_10_3.2.1 25 180 ∧ zq_at zy_prepare_10_3.2.1 26 0 ∧ zq_at zy_prepare_10_3.2.1 27 19 ∧ zq_at zy_prepare_10_3.2.1 28 3 ∧ zq_at zy_prepare_10_3.2.1 29 42 ∧ zq_at zy_prepare_10_3.2.1 30 180 ∧ zq_at zy_prepare_10_3.2.1 31 0 ∧ zq_at zy_prepare_10_3.2.1 32 46 ∧ zq_at zy_prepare_10_3.2.1 33 184 ∧ zq_at zy_prepare_10_3.2.1 34 0 ∧ zq_at zy_prepare_10_3.2.1 35 86 ∧ zq_at zy_prepare_10_3.2.1 36 42 ∧ zq_at zy_prepare_10_3.2.1 37 180 ∧ zq_at zy_prepare_10_3.2.1 38 0 ∧ zq_at zy_prepare_10_3.2.1 39 15 ∧ zq_at zy_prepare_10_3.2.1 40 3 ∧ zq_at zy_prepare_10_3.2.1 41 184 ∧ zq_at zy_prepare_10_3.2.1 42 0 ∧ zq_at zy_prepare_10_3.2.1 43 92 := by decide +kernel
theorem zd_10_3_24 : zz_D zy_prepare_10_3 24 (.aload_n 0) 1 25 := ⟨zq_42 zg_10_3_24.1, rfl⟩
theorem zd_10_3_25 : zz_D zy_prepare_10_3 25 (.getfield 19) 3 28 := ⟨zq_180 zg_10_3_24.2.1 zg_10_3_24.2.2.1 zg_10_3_24.2.2.2.1 rfl, rfl⟩
theorem zd_10_3_28 : zz_D zy_prepare_10_3 28 (.iconst 0) 1 29 := ⟨zq_3 zg_10_3_24.2.2.2.2.1, rfl⟩
theorem zd_10_3_29 : zz_D zy_prepare_10_3 29 (.aload_n 0) 1 30 := ⟨zq_42 zg_10_3_24.2.2.2.2.2.1, rfl⟩
theorem zd_10_3_30 : zz_D zy_prepare_10_3 30 (.getfield 46) 3 33 := ⟨zq_180 zg_10_3_24.2.2.2.2.2.2.1 zg_10_3_24.2.2.2.2.2.2.2.1 zg_10_3_24.2.2.2.2.2.2.2.2.1 rfl, rfl⟩
theorem zd_10_3_33 : zz_D zy_prepare_10_3 33 (.invokestatic 86) 3 36 := ⟨zq_184 zg_10_3_24.2.2.2.2.2.2.2.2.2.1 zg_10_3_24.2.2.2.2.2.2.2.2.2.2.1 zg_10_3_24.2.2.2.2.2.2.2.2.2.2.2.1 rfl, rfl⟩
theorem zd_10_3_36 : zz_D zy_prepare_10_3 36 (.aload_n 0) 1 37 := ⟨zq_42 zg_10_3_24.2.2.2.2.2.2.2.2.2.2.2.2.1, rfl⟩
theorem zd_10_3_37 : zz_D zy_prepare_10_3 37 (.getfield 15) 3 40 := ⟨zq_180 zg_10_3_24.2.2.2.2.2.2.2.2.2.2.2.2.2.1 zg_10_3_24.2.2.2.2.2.2.2.2.2.2.2.2.2.2.1 zg_10_3_24.2.2.2.2.2.2.2.2.2.2.2.2.2.2.2.1 rfl, rfl⟩
theorem zd_10_3_40 : zz_D zy_prepare_10_3 40 (.iconst 0) 1 41 := ⟨zq_3 zg_10_3_24.2.2.2.2.2.2.2.2.2.2.2.2.2.2.2.2.1, rfl⟩
theorem zd_10_3_41 : zz_D zy_prepare_10_3 41 (.invokestatic 92) 3 44 := ⟨zq_184 zg_10_3_24.2.2.2.2.2.2.2.2.2.2.2.2.2.2.2.2.2.1 zg_10_3_24.2.2.2.2.2.2.2.2.2.2.2.2.2.2.2.2.2.2.1 zg_10_3_24.2.2.2.2.2.2.2.2.2.2.2.2.2.2.2.2.2.2.2 rfl, rfl⟩
-- java/util/Arrays fill ([II)V
abbrev zr_fill_27_103_1043 : Room := { frames := 0, cells := 0, slots := 0, locals := 0 }
def zp_fill_27_103_1043 (p1 : Int) (S0 : zz_S) : zz_S → Prop := fun S => zz_G S ∧ zz_fr [] [1043] (fun _ _ => False) S0 S
theorem zb_fill_27_103_1043_5 {g : mm_G} {l : Launch} (p1 : Int) (S0 : zz_S) (n : Nat) (hn : zz_end ≤ n) (G_S0 : zz_G S0) (hp1 : (-2147483648) ≤ p1 ∧ p1 ≤ 2147483647) (x2 : Int) (S : zz_S) (G_S : zz_G S) (F_S : zz_fr [] [1043] (fun _ _ => False) S0 S) (i5_0 : 0 ≤ x2 ∧ x2 ≤ 10) (R : Nat) (hR : (10 - x2).toNat = R) (k5 : ∀ (x2 : Int) (S : zz_S), zz_G S → zz_fr [] [1043] (fun _ _ => False) S0 S → (0 ≤ x2 ∧ x2 ≤ 10) → (10 - x2).toNat < R → zz_E g l zy_fill_27_103 zr_fill_27_103_1043 (zz_QV n (zp_fill_27_103_1043 p1 S0)) S n 5 [some (.ref 1043), some (zi p1), some (zi x2), some (zi 10)] [] 0 0) : zz_E g l zy_fill_27_103 zr_fill_27_103_1043 (zz_QV n (zp_fill_27_103_1043 p1 S0)) S n 5 [some (.ref 1043), some (zi p1), some (zi x2), some (zi 10)] [] 0 0 := by
  refine zz_iload_n (x := x2) rfl zd_27_103_5 ?_
  refine zz_iload_n (x := 10) rfl zd_27_103_6 ?_
  refine zz_icmp_ge (by omega) (by omega) zd_27_103_7 (fun c1 => ?_) (fun c1 => ?_)
  · exact zz_vret zd_27_103_20 rfl (Nat.zero_le _) (Nat.zero_le _) ⟨_, rfl, G_S, F_S⟩
  · refine zz_aload_n (x := 1043) rfl zd_27_103_10 ?_
    refine zz_iload_n (x := x2) rfl zd_27_103_11 ?_
    refine zz_iload_n (x := p1) rfl zd_27_103_12 ?_
    refine zz_iast zd_27_103_13 zT_1043 rfl (zz_ltn hn rfl) (by decide) (by omega) (fun S2 qS2 => ?_)
    have G_S2 := zz_G.put G_S qS2 (-2147483648) 2147483647 rfl (by omega)
    have F_S2 := zz_fr.putc F_S qS2 rfl
    refine zz_iinc [some (.ref 1043), some (zi p1), some (zi (x2 + 1)), some (zi 10)] zd_27_103_14 rfl rfl ?_
    refine zz_goto zd_27_103_17 ?_
    refine zz_less (ls1 := [some (.ref 1043), some (zi p1), some (zi (x2 + 1)), some (zi 10)]) ⟨rfl, ⟨rfl, ⟨rfl, ⟨rfl, trivial⟩⟩⟩⟩ ?_
    exact k5 (x2 + 1) S2 G_S2 F_S2 (by omega) (by omega)
theorem zi_fill_27_103_1043 {g : mm_G} {l : Launch} (p1 : Int) (S0 : zz_S) (n : Nat) (hn : zz_end ≤ n) (G_S0 : zz_G S0) (hp1 : (-2147483648) ≤ p1 ∧ p1 ≤ 2147483647) : ∀ N : Nat, (∀ (x2 : Int) (S : zz_S), zz_G S → zz_fr [] [1043] (fun _ _ => False) S0 S → (0 ≤ x2 ∧ x2 ≤ 10) → (10 - x2).toNat < N → zz_E g l zy_fill_27_103 zr_fill_27_103_1043 (zz_QV n (zp_fill_27_103_1043 p1 S0)) S n 5 [some (.ref 1043), some (zi p1), some (zi x2), some (zi 10)] [] 0 0) := by
  intro N
  induction N with
  | zero => exact fun x2 S _ _ _ h => absurd h (Nat.not_lt_zero _)
  | succ N ih =>
    exact fun x2 S a b j0 hR => zb_fill_27_103_1043_5 p1 S0 n hn G_S0 hp1 x2 S a b j0 _ rfl (fun x2 S a b j0 h => ih x2 S a b j0 (Nat.lt_of_lt_of_le h (Nat.le_of_lt_succ hR)))
theorem zc_fill_27_103_1043 {g : mm_G} {l : Launch} (p1 : Int) (S0 : zz_S) (n : Nat) (hn : zz_end ≤ n) (G_S0 : zz_G S0) (hp1 : (-2147483648) ≤ p1 ∧ p1 ≤ 2147483647) : mm_Met g l zy_fill_27_103 zr_fill_27_103_1043 [.ref 1043, zi p1] (zz_M S0 n) n (zz_QV n (zp_fill_27_103_1043 p1 S0)) := by
  refine zz_enter (by decide) (Nat.le_of_ble_eq_true rfl) (zz_less (ls1 := [some (.ref 1043), some (zi p1)]) ⟨rfl, ⟨rfl, trivial⟩⟩ ?_)
  have F_S0 : zz_fr [] [1043] (fun _ _ => False) S0 S0 := zz_fr.refl
  have k5 : ∀ (x2 : Int) (S : zz_S), zz_G S → zz_fr [] [1043] (fun _ _ => False) S0 S → (0 ≤ x2 ∧ x2 ≤ 10) → zz_E g l zy_fill_27_103 zr_fill_27_103_1043 (zz_QV n (zp_fill_27_103_1043 p1 S0)) S n 5 [some (.ref 1043), some (zi p1), some (zi x2), some (zi 10)] [] 0 0 := fun x2 S a b j0 => (zi_fill_27_103_1043 (g := g) (l := l) p1 S0 n hn G_S0 hp1 _) x2 S a b j0 (Nat.lt_succ_self _)
  refine zz_iconst zd_27_103_0 ?_
  refine zz_istore_n [some (.ref 1043), some (zi p1), some (zi 0)] zd_27_103_1 (by decide) rfl ?_
  refine zz_aload_n (x := 1043) rfl zd_27_103_2 ?_
  refine zz_alen zd_27_103_3 zT_1043 rfl (zz_ltn hn rfl) ?_
  refine zz_istore_n [some (.ref 1043), some (zi p1), some (zi 0), some (zi 10)] zd_27_103_4 (by decide) rfl ?_
  refine zz_less (ls1 := [some (.ref 1043), some (zi p1), some (zi 0), some (zi 10)]) ⟨rfl, ⟨rfl, ⟨rfl, ⟨rfl, trivial⟩⟩⟩⟩ ?_
  exact k5 0 S0 G_S0 F_S0 (by omega)
theorem zk_Run_92 : mm_Sl "TensorForge$Run" 92 2 zy_fill_27_103 := ⟨zyw_fill_27_103, mm_tb_1 714 (by decide +kernel) rfl, mm_tb_1 532 (by decide +kernel) rfl⟩
theorem zg_10_3_44 : zq_at zy_prepare_10_3.2.1 44 42 ∧ zq_at zy_prepare_10_3.2.1 45 180 ∧ zq_at zy_prepare_10_3.2.1 46 0 ∧ zq_at zy_prepare_10_3.2.1 47 23 ∧ zq_at zy_prepare_10_3.2.1 48 2 ∧ zq_at zy_prepare_10_3.2.1 49 184 ∧ zq_at zy_prepare_10_3.2.1 50 0 ∧ zq_at zy_prepare_10_3.2.1 51 92 := by decide +kernel
theorem zd_10_3_44 : zz_D zy_prepare_10_3 44 (.aload_n 0) 1 45 := ⟨zq_42 zg_10_3_44.1, rfl⟩
theorem zd_10_3_45 : zz_D zy_prepare_10_3 45 (.getfield 23) 3 48 := ⟨zq_180 zg_10_3_44.2.1 zg_10_3_44.2.2.1 zg_10_3_44.2.2.2.1 rfl, rfl⟩
theorem zd_10_3_48 : zz_D zy_prepare_10_3 48 (.iconst (-1)) 1 49 := ⟨zq_2 zg_10_3_44.2.2.2.2.1, rfl⟩
theorem zd_10_3_49 : zz_D zy_prepare_10_3 49 (.invokestatic 92) 3 52 := ⟨zq_184 zg_10_3_44.2.2.2.2.2.1 zg_10_3_44.2.2.2.2.2.2.1 zg_10_3_44.2.2.2.2.2.2.2 rfl, rfl⟩
-- java/util/Arrays fill ([II)V
abbrev zr_fill_27_103_1045 : Room := { frames := 0, cells := 0, slots := 0, locals := 0 }
def zp_fill_27_103_1045 (p1 : Int) (S0 : zz_S) : zz_S → Prop := fun S => zz_G S ∧ zz_fr [] [1045] (fun _ _ => False) S0 S
theorem zb_fill_27_103_1045_5 {g : mm_G} {l : Launch} (p1 : Int) (S0 : zz_S) (n : Nat) (hn : zz_end ≤ n) (G_S0 : zz_G S0) (hp1 : (-2147483648) ≤ p1 ∧ p1 ≤ 2147483647) (x2 : Int) (S : zz_S) (G_S : zz_G S) (F_S : zz_fr [] [1045] (fun _ _ => False) S0 S) (i5_0 : 0 ≤ x2 ∧ x2 ≤ 600) (R : Nat) (hR : (600 - x2).toNat = R) (k5 : ∀ (x2 : Int) (S : zz_S), zz_G S → zz_fr [] [1045] (fun _ _ => False) S0 S → (0 ≤ x2 ∧ x2 ≤ 600) → (600 - x2).toNat < R → zz_E g l zy_fill_27_103 zr_fill_27_103_1045 (zz_QV n (zp_fill_27_103_1045 p1 S0)) S n 5 [some (.ref 1045), some (zi p1), some (zi x2), some (zi 600)] [] 0 0) : zz_E g l zy_fill_27_103 zr_fill_27_103_1045 (zz_QV n (zp_fill_27_103_1045 p1 S0)) S n 5 [some (.ref 1045), some (zi p1), some (zi x2), some (zi 600)] [] 0 0 := by
  refine zz_iload_n (x := x2) rfl zd_27_103_5 ?_
  refine zz_iload_n (x := 600) rfl zd_27_103_6 ?_
  refine zz_icmp_ge (by omega) (by omega) zd_27_103_7 (fun c1 => ?_) (fun c1 => ?_)
  · exact zz_vret zd_27_103_20 rfl (Nat.zero_le _) (Nat.zero_le _) ⟨_, rfl, G_S, F_S⟩
  · refine zz_aload_n (x := 1045) rfl zd_27_103_10 ?_
    refine zz_iload_n (x := x2) rfl zd_27_103_11 ?_
    refine zz_iload_n (x := p1) rfl zd_27_103_12 ?_
    refine zz_iast zd_27_103_13 zT_1045 rfl (zz_ltn hn rfl) (by decide) (by omega) (fun S2 qS2 => ?_)
    have G_S2 := zz_G.put G_S qS2 (-2147483648) 2147483647 rfl (by omega)
    have F_S2 := zz_fr.putc F_S qS2 rfl
    refine zz_iinc [some (.ref 1045), some (zi p1), some (zi (x2 + 1)), some (zi 600)] zd_27_103_14 rfl rfl ?_
    refine zz_goto zd_27_103_17 ?_
    refine zz_less (ls1 := [some (.ref 1045), some (zi p1), some (zi (x2 + 1)), some (zi 600)]) ⟨rfl, ⟨rfl, ⟨rfl, ⟨rfl, trivial⟩⟩⟩⟩ ?_
    exact k5 (x2 + 1) S2 G_S2 F_S2 (by omega) (by omega)
theorem zi_fill_27_103_1045 {g : mm_G} {l : Launch} (p1 : Int) (S0 : zz_S) (n : Nat) (hn : zz_end ≤ n) (G_S0 : zz_G S0) (hp1 : (-2147483648) ≤ p1 ∧ p1 ≤ 2147483647) : ∀ N : Nat, (∀ (x2 : Int) (S : zz_S), zz_G S → zz_fr [] [1045] (fun _ _ => False) S0 S → (0 ≤ x2 ∧ x2 ≤ 600) → (600 - x2).toNat < N → zz_E g l zy_fill_27_103 zr_fill_27_103_1045 (zz_QV n (zp_fill_27_103_1045 p1 S0)) S n 5 [some (.ref 1045), some (zi p1), some (zi x2), some (zi 600)] [] 0 0) := by
  intro N
  induction N with
  | zero => exact fun x2 S _ _ _ h => absurd h (Nat.not_lt_zero _)
  | succ N ih =>
    exact fun x2 S a b j0 hR => zb_fill_27_103_1045_5 p1 S0 n hn G_S0 hp1 x2 S a b j0 _ rfl (fun x2 S a b j0 h => ih x2 S a b j0 (Nat.lt_of_lt_of_le h (Nat.le_of_lt_succ hR)))
theorem zc_fill_27_103_1045 {g : mm_G} {l : Launch} (p1 : Int) (S0 : zz_S) (n : Nat) (hn : zz_end ≤ n) (G_S0 : zz_G S0) (hp1 : (-2147483648) ≤ p1 ∧ p1 ≤ 2147483647) : mm_Met g l zy_fill_27_103 zr_fill_27_103_1045 [.ref 1045, zi p1] (zz_M S0 n) n (zz_QV n (zp_fill_27_103_1045 p1 S0)) := by
  refine zz_enter (by decide) (Nat.le_of_ble_eq_true rfl) (zz_less (ls1 := [some (.ref 1045), some (zi p1)]) ⟨rfl, ⟨rfl, trivial⟩⟩ ?_)
  have F_S0 : zz_fr [] [1045] (fun _ _ => False) S0 S0 := zz_fr.refl
  have k5 : ∀ (x2 : Int) (S : zz_S), zz_G S → zz_fr [] [1045] (fun _ _ => False) S0 S → (0 ≤ x2 ∧ x2 ≤ 600) → zz_E g l zy_fill_27_103 zr_fill_27_103_1045 (zz_QV n (zp_fill_27_103_1045 p1 S0)) S n 5 [some (.ref 1045), some (zi p1), some (zi x2), some (zi 600)] [] 0 0 := fun x2 S a b j0 => (zi_fill_27_103_1045 (g := g) (l := l) p1 S0 n hn G_S0 hp1 _) x2 S a b j0 (Nat.lt_succ_self _)
  refine zz_iconst zd_27_103_0 ?_
  refine zz_istore_n [some (.ref 1045), some (zi p1), some (zi 0)] zd_27_103_1 (by decide) rfl ?_
  refine zz_aload_n (x := 1045) rfl zd_27_103_2 ?_
  refine zz_alen zd_27_103_3 zT_1045 rfl (zz_ltn hn rfl) ?_
  refine zz_istore_n [some (.ref 1045), some (zi p1), some (zi 0), some (zi 600)] zd_27_103_4 (by decide) rfl ?_
  refine zz_less (ls1 := [some (.ref 1045), some (zi p1), some (zi 0), some (zi 600)]) ⟨rfl, ⟨rfl, ⟨rfl, ⟨rfl, trivial⟩⟩⟩⟩ ?_
  exact k5 0 S0 G_S0 F_S0 (by omega)
theorem zg_10_3_52 : zq_at zy_prepare_10_3.2.1 52 42 ∧ zq_at zy_prepare_10_3.2.1 53 180 ∧ zq_at zy_prepare_10_3.2.1 54 0 ∧ zq_at zy_prepare_10_3.2.1 55 26 ∧ zq_at zy_prepare_10_3.2.1 56 2 ∧ zq_at zy_prepare_10_3.2.1 57 184 ∧ zq_at zy_prepare_10_3.2.1 58 0 ∧ zq_at zy_prepare_10_3.2.1 59 92 := by decide +kernel
theorem zd_10_3_52 : zz_D zy_prepare_10_3 52 (.aload_n 0) 1 53 := ⟨zq_42 zg_10_3_52.1, rfl⟩
theorem zd_10_3_53 : zz_D zy_prepare_10_3 53 (.getfield 26) 3 56 := ⟨zq_180 zg_10_3_52.2.1 zg_10_3_52.2.2.1 zg_10_3_52.2.2.2.1 rfl, rfl⟩
theorem zd_10_3_56 : zz_D zy_prepare_10_3 56 (.iconst (-1)) 1 57 := ⟨zq_2 zg_10_3_52.2.2.2.2.1, rfl⟩
theorem zd_10_3_57 : zz_D zy_prepare_10_3 57 (.invokestatic 92) 3 60 := ⟨zq_184 zg_10_3_52.2.2.2.2.2.1 zg_10_3_52.2.2.2.2.2.2.1 zg_10_3_52.2.2.2.2.2.2.2 rfl, rfl⟩

-- TensorForgeModel setNumber (I)Z
abbrev zr_setNumber_14_51 : Room := { frames := 2, cells := 0, slots := 0, locals := 35 }
def zp_setNumber_14_51 (p0 : Int) (S0 : zz_S) : Int → zz_S → Prop := fun r S => zz_G S ∧ zz_fr [(1079, 30), (1079, 31), (1079, 32)] [1087] (fun _ _ => False) S0 S ∧ (0 ≤ r ∧ r ≤ 1) ∧ (S 1079 32 ≥ S0 1079 32) ∧ (r = 1 → S0 1079 30 = 100)
theorem zc_setNumber_14_51 {g : mm_G} {l : Launch} (p0 : Int) (S0 : zz_S) (n : Nat) (hn : zz_end ≤ n) (G_S0 : zz_G S0) (hp0 : 0 ≤ p0 ∧ p0 ≤ 11) (hN : ∀ w : Nat, 1 ≤ w → w ≤ 20 → S0 1100 w = zt_cd (zt_nw.getD w [])) : mm_Met g l zy_setNumber_14_51 zr_setNumber_14_51 [.ref 1079, zi p0] (zz_M S0 n) n (zz_QI n (zp_setNumber_14_51 p0 S0)) := by
  refine zz_enter (by decide) (Nat.le_of_ble_eq_true rfl) (zz_less (ls1 := [some (.ref 1079), some (zi p0)]) ⟨rfl, ⟨rfl, trivial⟩⟩ ?_)
  have F_S0 : zz_fr [(1079, 30), (1079, 31), (1079, 32)] [1087] (fun _ _ => False) S0 S0 := zz_fr.refl
  refine zz_aload_n (x := 1079) rfl zd_14_51_0 ?_
  have g1 := zz_G.r G_S0 1079 30 0 102 rfl rfl
  refine zz_geti (z := S0 1079 30) zd_14_51_1 zf_Md_347 zT_1079 rfl (zz_ltn hn rfl) rfl ?_
  refine zz_bipush (by decide) zd_14_51_4 ?_
  refine zz_icmp_ne (by omega) (by omega) zd_14_51_6 (fun c2 => ?_) (fun c2 => ?_)
  · refine zz_iconst zd_14_51_22 ?_
    have g3 := zz_G.r G_S0 1079 32 0 1500 rfl rfl
    exact zz_zret zd_14_51_23 rfl (by omega) (Nat.zero_le _) (Nat.zero_le _) ⟨_, _, rfl, G_S0, F_S0, by omega, by omega, by omega⟩
  · refine zz_aload_n (x := 1079) rfl zd_14_51_9 ?_
    have g4 := zz_G.r G_S0 1079 31 0 9999 rfl rfl
    refine zz_geti (z := S0 1079 31) zd_14_51_10 zf_Md_354 zT_1079 rfl (zz_ltn hn rfl) rfl ?_
    refine zz_iconst zd_14_51_13 ?_
    refine zz_iload_n (x := p0) rfl zd_14_51_14 ?_
    refine zz_callSI [zi p0] zd_14_51_15 zk_Md_215 rfl rfl ⟨Nat.le_of_ble_eq_true rfl, Nat.le_of_ble_eq_true rfl⟩ ⟨rfl, rfl⟩ (Nat.zero_le _) (Nat.zero_le _) (zc_bitsOf_14_11 p0 S0 n hn G_S0 (by omega)) (fun v6 S5 hP => ?_)
    obtain ⟨rfl, o7, o8⟩ := hP
    refine zz_ishl zd_14_51_18 (fun v9 hv9 ev9 => ?_)
    refine zz_icmp_lt (by omega) (by omega) zd_14_51_19 (fun c10 => ?_) (fun c10 => ?_)
    · refine zz_aload_n (x := 1079) rfl zd_14_51_24 ?_
      refine zz_getr (kd := 0) (z := 1087) zd_14_51_25 zf_Md_36 zT_1079 rfl (zz_ltn hn rfl) (zz_G.eq G_S0 1079 11 1087 rfl rfl) (by decide) 1087 rfl ?_
      refine zz_iload_n (x := p0) rfl zd_14_51_28 ?_
      refine zz_aload_n (x := 1079) rfl zd_14_51_29 ?_
      refine zz_geti (z := S0 1079 31) zd_14_51_30 zf_Md_354 zT_1079 rfl (zz_ltn hn rfl) rfl ?_
      refine zz_iast zd_14_51_33 zT_1087 rfl (zz_ltn hn rfl) (by decide) (by omega) (fun S11 qS11 => ?_)
      have G_S11 := zz_G.put G_S0 qS11 (-2147483648) 2147483647 rfl (by omega)
      have F_S11 := zz_fr.putc F_S0 qS11 rfl
      refine zz_aload_n (x := 1079) rfl zd_14_51_34 ?_
      have g12 := zz_G.r G_S0 1079 32 0 1500 rfl rfl
      have e13 : S11 1079 32 = S0 1079 32 := (zz_ro qS11 (fun h => absurd h.1 (by decide)) rfl)
      have g14 := zz_G.r G_S0 1079 33 0 1500 rfl rfl
      have e15 : S11 1079 33 = S0 1079 33 := (zz_ro qS11 (fun h => absurd h.1 (by decide)) rfl)
      refine zz_callVV [] zd_14_51_35 zk_Md_359 zT_1079 (zz_ltn hn rfl) rfl rfl ⟨Nat.le_of_ble_eq_true rfl, Nat.le_of_ble_eq_true rfl⟩ ⟨rfl, rfl⟩ (Nat.zero_le _) (Nat.zero_le _) (zc_advance_14_49  S11 n hn G_S11 (fun u h1 h2 => ((zz_ro qS11 (fun h => absurd h.1 (by decide)) rfl)).trans (hN u h1 h2))) (fun S16 hP => ?_)
      obtain ⟨G_S16, fS16, o18, o19, o20, o21, o22, o23⟩ := hP
      rw [show S11 1079 32 = S0 1079 32 from (zz_ro qS11 (fun h => absurd h.1 (by decide)) rfl)] at o18
      rw [show S11 1079 32 = S0 1079 32 from (zz_ro qS11 (fun h => absurd h.1 (by decide)) rfl)] at o19
      rw [show S11 1099 = S0 1099 from funext (fun u => (zz_ro qS11 (fun h => absurd h.1 (by decide)) rfl)), show S11 1079 33 = S0 1079 33 from (zz_ro qS11 (fun h => absurd h.1 (by decide)) rfl), show S11 1079 32 = S0 1079 32 from (zz_ro qS11 (fun h => absurd h.1 (by decide)) rfl)] at o21
      rw [show S11 1099 = S0 1099 from funext (fun u => (zz_ro qS11 (fun h => absurd h.1 (by decide)) rfl)), show S11 1079 33 = S0 1079 33 from (zz_ro qS11 (fun h => absurd h.1 (by decide)) rfl), show S11 1079 32 = S0 1079 32 from (zz_ro qS11 (fun h => absurd h.1 (by decide)) rfl)] at o22
      rw [show S11 1099 = S0 1099 from funext (fun u => (zz_ro qS11 (fun h => absurd h.1 (by decide)) rfl)), show S11 1079 33 = S0 1079 33 from (zz_ro qS11 (fun h => absurd h.1 (by decide)) rfl), show S11 1079 32 = S0 1079 32 from (zz_ro qS11 (fun h => absurd h.1 (by decide)) rfl)] at o23
      have F_S16 := zz_fr.trans F_S11 fS16 rfl zz_nv
      refine zz_iconst zd_14_51_38 ?_
      have g24 := zz_G.r G_S16 1079 32 0 1500 rfl rfl
      exact zz_zret zd_14_51_39 rfl (by omega) (Nat.zero_le _) (Nat.zero_le _) ⟨_, _, rfl, G_S16, F_S16, by omega, by omega, by omega⟩
    · refine zz_iconst zd_14_51_22 ?_
      have g25 := zz_G.r G_S0 1079 32 0 1500 rfl rfl
      exact zz_zret zd_14_51_23 rfl (by omega) (Nat.zero_le _) (Nat.zero_le _) ⟨_, _, rfl, G_S0, F_S0, by omega, by omega, by omega⟩
abbrev zy_part_14_52 : mm_Y := (⟨"TensorForgeModel", "part", "()I"⟩, prog_14_method_52_code, 5, (some .int))
theorem zyw_part_14_52 : mm_Yw zy_part_14_52 0 := ⟨mm_tb_1 2031 (by decide +kernel) rfl, mm_tb_1 12 (by decide +kernel) rfl, ⟨by decide, by decide⟩, by decide +kernel⟩
theorem zq_Md_365 : Cond.constantLong "TensorForgeModel" 365 (13 : Int64) ∈ mm_tb := mm_tb_1 2036 (by decide +kernel) rfl
theorem zq_Md_367 : Cond.constantLong "TensorForgeModel" 367 (16 : Int64) ∈ mm_tb := mm_tb_1 2037 (by decide +kernel) rfl
theorem zg_14_52_0 : zq_at zy_part_14_52.2.1 0 42 ∧ zq_at zy_part_14_52.2.1 1 180 ∧ zq_at zy_part_14_52.2.1 2 1 ∧ zq_at zy_part_14_52.2.1 3 91 ∧ zq_at zy_part_14_52.2.1 4 60 ∧ zq_at zy_part_14_52.2.1 5 42 ∧ zq_at zy_part_14_52.2.1 6 182 ∧ zq_at zy_part_14_52.2.1 7 1 ∧ zq_at zy_part_14_52.2.1 8 103 ∧ zq_at zy_part_14_52.2.1 9 3 ∧ zq_at zy_part_14_52.2.1 10 61 ∧ zq_at zy_part_14_52.2.1 11 3 ∧ zq_at zy_part_14_52.2.1 12 62 ∧ zq_at zy_part_14_52.2.1 13 27 ∧ zq_at zy_part_14_52.2.1 14 16 ∧ zq_at zy_part_14_52.2.1 15 10 ∧ zq_at zy_part_14_52.2.1 16 160 ∧ zq_at zy_part_14_52.2.1 17 0 ∧ zq_at zy_part_14_52.2.1 18 14 ∧ zq_at zy_part_14_52.2.1 30 27 ∧ zq_at zy_part_14_52.2.1 31 16 ∧ zq_at zy_part_14_52.2.1 32 11 := by decide +kernel
theorem zd_14_52_0 : zz_D zy_part_14_52 0 (.aload_n 0) 1 1 := ⟨zq_42 zg_14_52_0.1, rfl⟩
theorem zd_14_52_1 : zz_D zy_part_14_52 1 (.getfield 347) 3 4 := ⟨zq_180 zg_14_52_0.2.1 zg_14_52_0.2.2.1 zg_14_52_0.2.2.2.1 rfl, rfl⟩
theorem zd_14_52_4 : zz_D zy_part_14_52 4 (.istore_n 1) 1 5 := ⟨zq_60 zg_14_52_0.2.2.2.2.1, rfl⟩
theorem zd_14_52_5 : zz_D zy_part_14_52 5 (.aload_n 0) 1 6 := ⟨zq_42 zg_14_52_0.2.2.2.2.2.1, rfl⟩
theorem zd_14_52_6 : zz_D zy_part_14_52 6 (.invokevirtual 359) 3 9 := ⟨zq_182 zg_14_52_0.2.2.2.2.2.2.1 zg_14_52_0.2.2.2.2.2.2.2.1 zg_14_52_0.2.2.2.2.2.2.2.2.1 rfl, rfl⟩
theorem zd_14_52_9 : zz_D zy_part_14_52 9 (.iconst 0) 1 10 := ⟨zq_3 zg_14_52_0.2.2.2.2.2.2.2.2.2.1, rfl⟩
theorem zd_14_52_10 : zz_D zy_part_14_52 10 (.istore_n 2) 1 11 := ⟨zq_61 zg_14_52_0.2.2.2.2.2.2.2.2.2.2.1, rfl⟩
theorem zd_14_52_11 : zz_D zy_part_14_52 11 (.iconst 0) 1 12 := ⟨zq_3 zg_14_52_0.2.2.2.2.2.2.2.2.2.2.2.1, rfl⟩
theorem zd_14_52_12 : zz_D zy_part_14_52 12 (.istore_n 3) 1 13 := ⟨zq_62 zg_14_52_0.2.2.2.2.2.2.2.2.2.2.2.2.1, rfl⟩
theorem zd_14_52_13 : zz_D zy_part_14_52 13 (.iload_n 1) 1 14 := ⟨zq_27 zg_14_52_0.2.2.2.2.2.2.2.2.2.2.2.2.2.1, rfl⟩
theorem zd_14_52_14 : zz_D zy_part_14_52 14 (.bipush 10) 2 16 := ⟨zq_16 zg_14_52_0.2.2.2.2.2.2.2.2.2.2.2.2.2.2.1 zg_14_52_0.2.2.2.2.2.2.2.2.2.2.2.2.2.2.2.1 (by decide), rfl⟩
theorem zd_14_52_16 : zz_B zy_part_14_52 16 (Instr.if_icmp .ne) 30 19 := ⟨14, zq_160 zg_14_52_0.2.2.2.2.2.2.2.2.2.2.2.2.2.2.2.2.1 zg_14_52_0.2.2.2.2.2.2.2.2.2.2.2.2.2.2.2.2.2.1 zg_14_52_0.2.2.2.2.2.2.2.2.2.2.2.2.2.2.2.2.2.2.1 (by decide), rfl, rfl⟩
theorem zd_14_52_30 : zz_D zy_part_14_52 30 (.iload_n 1) 1 31 := ⟨zq_27 zg_14_52_0.2.2.2.2.2.2.2.2.2.2.2.2.2.2.2.2.2.2.2.1, rfl⟩
theorem zd_14_52_31 : zz_D zy_part_14_52 31 (.bipush 11) 2 33 := ⟨zq_16 zg_14_52_0.2.2.2.2.2.2.2.2.2.2.2.2.2.2.2.2.2.2.2.2.1 zg_14_52_0.2.2.2.2.2.2.2.2.2.2.2.2.2.2.2.2.2.2.2.2.2 (by decide), rfl⟩
theorem zg_14_52_33 : zq_at zy_part_14_52.2.1 33 160 ∧ zq_at zy_part_14_52.2.1 34 0 ∧ zq_at zy_part_14_52.2.1 35 47 ∧ zq_at zy_part_14_52.2.1 80 27 ∧ zq_at zy_part_14_52.2.1 81 133 ∧ zq_at zy_part_14_52.2.1 82 20 ∧ zq_at zy_part_14_52.2.1 83 1 ∧ zq_at zy_part_14_52.2.1 84 109 ∧ zq_at zy_part_14_52.2.1 85 20 ∧ zq_at zy_part_14_52.2.1 86 1 ∧ zq_at zy_part_14_52.2.1 87 111 ∧ zq_at zy_part_14_52.2.1 88 184 ∧ zq_at zy_part_14_52.2.1 89 0 ∧ zq_at zy_part_14_52.2.1 90 192 ∧ zq_at zy_part_14_52.2.1 91 153 ∧ zq_at zy_part_14_52.2.1 92 0 ∧ zq_at zy_part_14_52.2.1 93 55 ∧ zq_at zy_part_14_52.2.1 146 27 ∧ zq_at zy_part_14_52.2.1 147 16 ∧ zq_at zy_part_14_52.2.1 148 17 ∧ zq_at zy_part_14_52.2.1 149 159 ∧ zq_at zy_part_14_52.2.1 150 0 ∧ zq_at zy_part_14_52.2.1 151 9 ∧ zq_at zy_part_14_52.2.1 158 27 := by decide +kernel
theorem zd_14_52_33 : zz_B zy_part_14_52 33 (Instr.if_icmp .ne) 80 36 := ⟨47, zq_160 zg_14_52_33.1 zg_14_52_33.2.1 zg_14_52_33.2.2.1 (by decide), rfl, rfl⟩
theorem zd_14_52_80 : zz_D zy_part_14_52 80 (.iload_n 1) 1 81 := ⟨zq_27 zg_14_52_33.2.2.2.1, rfl⟩
theorem zd_14_52_81 : zz_D zy_part_14_52 81 (.i2l) 1 82 := ⟨zq_133 zg_14_52_33.2.2.2.2.1, rfl⟩
theorem zd_14_52_82 : zz_D zy_part_14_52 82 (.ldc2_w 365) 3 85 := ⟨zq_20 zg_14_52_33.2.2.2.2.2.1 zg_14_52_33.2.2.2.2.2.2.1 zg_14_52_33.2.2.2.2.2.2.2.1 rfl, rfl⟩
theorem zd_14_52_85 : zz_D zy_part_14_52 85 (.ldc2_w 367) 3 88 := ⟨zq_20 zg_14_52_33.2.2.2.2.2.2.2.2.1 zg_14_52_33.2.2.2.2.2.2.2.2.2.1 zg_14_52_33.2.2.2.2.2.2.2.2.2.2.1 rfl, rfl⟩
theorem zd_14_52_88 : zz_D zy_part_14_52 88 (.invokestatic 192) 3 91 := ⟨zq_184 zg_14_52_33.2.2.2.2.2.2.2.2.2.2.2.1 zg_14_52_33.2.2.2.2.2.2.2.2.2.2.2.2.1 zg_14_52_33.2.2.2.2.2.2.2.2.2.2.2.2.2.1 rfl, rfl⟩
theorem zd_14_52_91 : zz_B zy_part_14_52 91 (Instr.ifCond .eq) 146 94 := ⟨55, zq_153 zg_14_52_33.2.2.2.2.2.2.2.2.2.2.2.2.2.2.1 zg_14_52_33.2.2.2.2.2.2.2.2.2.2.2.2.2.2.2.1 zg_14_52_33.2.2.2.2.2.2.2.2.2.2.2.2.2.2.2.2.1 (by decide), rfl, rfl⟩
theorem zd_14_52_146 : zz_D zy_part_14_52 146 (.iload_n 1) 1 147 := ⟨zq_27 zg_14_52_33.2.2.2.2.2.2.2.2.2.2.2.2.2.2.2.2.2.1, rfl⟩
theorem zd_14_52_147 : zz_D zy_part_14_52 147 (.bipush 17) 2 149 := ⟨zq_16 zg_14_52_33.2.2.2.2.2.2.2.2.2.2.2.2.2.2.2.2.2.2.1 zg_14_52_33.2.2.2.2.2.2.2.2.2.2.2.2.2.2.2.2.2.2.2.1 (by decide), rfl⟩
theorem zd_14_52_149 : zz_B zy_part_14_52 149 (Instr.if_icmp .eq) 158 152 := ⟨9, zq_159 zg_14_52_33.2.2.2.2.2.2.2.2.2.2.2.2.2.2.2.2.2.2.2.2.1 zg_14_52_33.2.2.2.2.2.2.2.2.2.2.2.2.2.2.2.2.2.2.2.2.2.1 zg_14_52_33.2.2.2.2.2.2.2.2.2.2.2.2.2.2.2.2.2.2.2.2.2.2.1 (by decide), rfl, rfl⟩
theorem zd_14_52_158 : zz_D zy_part_14_52 158 (.iload_n 1) 1 159 := ⟨zq_27 zg_14_52_33.2.2.2.2.2.2.2.2.2.2.2.2.2.2.2.2.2.2.2.2.2.2.2, rfl⟩
theorem zg_14_52_159 : zq_at zy_part_14_52.2.1 159 16 ∧ zq_at zy_part_14_52.2.1 160 17 ∧ zq_at zy_part_14_52.2.1 161 160 ∧ zq_at zy_part_14_52.2.1 162 0 ∧ zq_at zy_part_14_52.2.1 163 7 ∧ zq_at zy_part_14_52.2.1 164 4 ∧ zq_at zy_part_14_52.2.1 165 167 ∧ zq_at zy_part_14_52.2.1 166 0 ∧ zq_at zy_part_14_52.2.1 167 4 ∧ zq_at zy_part_14_52.2.1 169 42 ∧ zq_at zy_part_14_52.2.1 170 180 ∧ zq_at zy_part_14_52.2.1 171 1 ∧ zq_at zy_part_14_52.2.1 172 91 ∧ zq_at zy_part_14_52.2.1 173 16 ∧ zq_at zy_part_14_52.2.1 174 20 ∧ zq_at zy_part_14_52.2.1 175 160 ∧ zq_at zy_part_14_52.2.1 176 0 ∧ zq_at zy_part_14_52.2.1 177 7 ∧ zq_at zy_part_14_52.2.1 182 3 ∧ zq_at zy_part_14_52.2.1 183 96 ∧ zq_at zy_part_14_52.2.1 184 54 ∧ zq_at zy_part_14_52.2.1 185 4 ∧ zq_at zy_part_14_52.2.1 186 4 := by decide +kernel
theorem zd_14_52_159 : zz_D zy_part_14_52 159 (.bipush 17) 2 161 := ⟨zq_16 zg_14_52_159.1 zg_14_52_159.2.1 (by decide), rfl⟩
theorem zd_14_52_161 : zz_B zy_part_14_52 161 (Instr.if_icmp .ne) 168 164 := ⟨7, zq_160 zg_14_52_159.2.2.1 zg_14_52_159.2.2.2.1 zg_14_52_159.2.2.2.2.1 (by decide), rfl, rfl⟩
theorem zd_14_52_164 : zz_D zy_part_14_52 164 (.iconst 1) 1 165 := ⟨zq_4 zg_14_52_159.2.2.2.2.2.1, rfl⟩
theorem zd_14_52_165 : zz_B zy_part_14_52 165 Instr.goto 169 168 := ⟨4, zq_167 zg_14_52_159.2.2.2.2.2.2.1 zg_14_52_159.2.2.2.2.2.2.2.1 zg_14_52_159.2.2.2.2.2.2.2.2.1 (by decide), rfl, rfl⟩
theorem zd_14_52_169 : zz_D zy_part_14_52 169 (.aload_n 0) 1 170 := ⟨zq_42 zg_14_52_159.2.2.2.2.2.2.2.2.2.1, rfl⟩
theorem zd_14_52_170 : zz_D zy_part_14_52 170 (.getfield 347) 3 173 := ⟨zq_180 zg_14_52_159.2.2.2.2.2.2.2.2.2.2.1 zg_14_52_159.2.2.2.2.2.2.2.2.2.2.2.1 zg_14_52_159.2.2.2.2.2.2.2.2.2.2.2.2.1 rfl, rfl⟩
theorem zd_14_52_173 : zz_D zy_part_14_52 173 (.bipush 20) 2 175 := ⟨zq_16 zg_14_52_159.2.2.2.2.2.2.2.2.2.2.2.2.2.1 zg_14_52_159.2.2.2.2.2.2.2.2.2.2.2.2.2.2.1 (by decide), rfl⟩
theorem zd_14_52_175 : zz_B zy_part_14_52 175 (Instr.if_icmp .ne) 182 178 := ⟨7, zq_160 zg_14_52_159.2.2.2.2.2.2.2.2.2.2.2.2.2.2.2.1 zg_14_52_159.2.2.2.2.2.2.2.2.2.2.2.2.2.2.2.2.1 zg_14_52_159.2.2.2.2.2.2.2.2.2.2.2.2.2.2.2.2.2.1 (by decide), rfl, rfl⟩
theorem zd_14_52_182 : zz_D zy_part_14_52 182 (.iconst 0) 1 183 := ⟨zq_3 zg_14_52_159.2.2.2.2.2.2.2.2.2.2.2.2.2.2.2.2.2.2.1, rfl⟩
theorem zd_14_52_183 : zz_D zy_part_14_52 183 (.iadd) 1 184 := ⟨zq_96 zg_14_52_159.2.2.2.2.2.2.2.2.2.2.2.2.2.2.2.2.2.2.2.1, rfl⟩
theorem zd_14_52_184 : zz_D zy_part_14_52 184 (.istore 4) 2 186 := ⟨zq_54 zg_14_52_159.2.2.2.2.2.2.2.2.2.2.2.2.2.2.2.2.2.2.2.2.1 zg_14_52_159.2.2.2.2.2.2.2.2.2.2.2.2.2.2.2.2.2.2.2.2.2.1, rfl⟩
theorem zd_14_52_186 : zz_D zy_part_14_52 186 (.iconst 1) 1 187 := ⟨zq_4 zg_14_52_159.2.2.2.2.2.2.2.2.2.2.2.2.2.2.2.2.2.2.2.2.2.2, rfl⟩
theorem zg_14_52_187 : zq_at zy_part_14_52.2.1 187 16 ∧ zq_at zy_part_14_52.2.1 188 12 ∧ zq_at zy_part_14_52.2.1 189 21 ∧ zq_at zy_part_14_52.2.1 190 4 ∧ zq_at zy_part_14_52.2.1 191 96 ∧ zq_at zy_part_14_52.2.1 192 120 ∧ zq_at zy_part_14_52.2.1 193 62 ∧ zq_at zy_part_14_52.2.1 194 42 ∧ zq_at zy_part_14_52.2.1 195 180 ∧ zq_at zy_part_14_52.2.1 196 1 ∧ zq_at zy_part_14_52.2.1 197 91 ∧ zq_at zy_part_14_52.2.1 198 16 ∧ zq_at zy_part_14_52.2.1 199 19 ∧ zq_at zy_part_14_52.2.1 200 159 ∧ zq_at zy_part_14_52.2.1 201 0 ∧ zq_at zy_part_14_52.2.1 202 12 ∧ zq_at zy_part_14_52.2.1 212 4 ∧ zq_at zy_part_14_52.2.1 213 167 ∧ zq_at zy_part_14_52.2.1 214 0 ∧ zq_at zy_part_14_52.2.1 215 4 ∧ zq_at zy_part_14_52.2.1 217 61 ∧ zq_at zy_part_14_52.2.1 218 28 := by decide +kernel
theorem zd_14_52_187 : zz_D zy_part_14_52 187 (.bipush 12) 2 189 := ⟨zq_16 zg_14_52_187.1 zg_14_52_187.2.1 (by decide), rfl⟩
theorem zd_14_52_189 : zz_D zy_part_14_52 189 (.iload 4) 2 191 := ⟨zq_21 zg_14_52_187.2.2.1 zg_14_52_187.2.2.2.1, rfl⟩
theorem zd_14_52_191 : zz_D zy_part_14_52 191 (.iadd) 1 192 := ⟨zq_96 zg_14_52_187.2.2.2.2.1, rfl⟩
theorem zd_14_52_192 : zz_D zy_part_14_52 192 (.ishl) 1 193 := ⟨zq_120 zg_14_52_187.2.2.2.2.2.1, rfl⟩
theorem zd_14_52_193 : zz_D zy_part_14_52 193 (.istore_n 3) 1 194 := ⟨zq_62 zg_14_52_187.2.2.2.2.2.2.1, rfl⟩
theorem zd_14_52_194 : zz_D zy_part_14_52 194 (.aload_n 0) 1 195 := ⟨zq_42 zg_14_52_187.2.2.2.2.2.2.2.1, rfl⟩
theorem zd_14_52_195 : zz_D zy_part_14_52 195 (.getfield 347) 3 198 := ⟨zq_180 zg_14_52_187.2.2.2.2.2.2.2.2.1 zg_14_52_187.2.2.2.2.2.2.2.2.2.1 zg_14_52_187.2.2.2.2.2.2.2.2.2.2.1 rfl, rfl⟩
theorem zd_14_52_198 : zz_D zy_part_14_52 198 (.bipush 19) 2 200 := ⟨zq_16 zg_14_52_187.2.2.2.2.2.2.2.2.2.2.2.1 zg_14_52_187.2.2.2.2.2.2.2.2.2.2.2.2.1 (by decide), rfl⟩
theorem zd_14_52_200 : zz_B zy_part_14_52 200 (Instr.if_icmp .eq) 212 203 := ⟨12, zq_159 zg_14_52_187.2.2.2.2.2.2.2.2.2.2.2.2.2.1 zg_14_52_187.2.2.2.2.2.2.2.2.2.2.2.2.2.2.1 zg_14_52_187.2.2.2.2.2.2.2.2.2.2.2.2.2.2.2.1 (by decide), rfl, rfl⟩
theorem zd_14_52_212 : zz_D zy_part_14_52 212 (.iconst 1) 1 213 := ⟨zq_4 zg_14_52_187.2.2.2.2.2.2.2.2.2.2.2.2.2.2.2.2.1, rfl⟩
theorem zd_14_52_213 : zz_B zy_part_14_52 213 Instr.goto 217 216 := ⟨4, zq_167 zg_14_52_187.2.2.2.2.2.2.2.2.2.2.2.2.2.2.2.2.2.1 zg_14_52_187.2.2.2.2.2.2.2.2.2.2.2.2.2.2.2.2.2.2.1 zg_14_52_187.2.2.2.2.2.2.2.2.2.2.2.2.2.2.2.2.2.2.2.1 (by decide), rfl, rfl⟩
theorem zd_14_52_217 : zz_D zy_part_14_52 217 (.istore_n 2) 1 218 := ⟨zq_61 zg_14_52_187.2.2.2.2.2.2.2.2.2.2.2.2.2.2.2.2.2.2.2.2.1, rfl⟩
theorem zd_14_52_218 : zz_D zy_part_14_52 218 (.iload_n 2) 1 219 := ⟨zq_28 zg_14_52_187.2.2.2.2.2.2.2.2.2.2.2.2.2.2.2.2.2.2.2.2.2, rfl⟩
theorem zg_14_52_219 : zq_at zy_part_14_52.2.1 219 153 ∧ zq_at zy_part_14_52.2.1 220 0 ∧ zq_at zy_part_14_52.2.1 221 15 ∧ zq_at zy_part_14_52.2.1 222 42 ∧ zq_at zy_part_14_52.2.1 223 180 ∧ zq_at zy_part_14_52.2.1 224 0 ∧ zq_at zy_part_14_52.2.1 225 36 ∧ zq_at zy_part_14_52.2.1 226 21 ∧ zq_at zy_part_14_52.2.1 227 4 ∧ zq_at zy_part_14_52.2.1 228 4 ∧ zq_at zy_part_14_52.2.1 229 79 ∧ zq_at zy_part_14_52.2.1 230 42 ∧ zq_at zy_part_14_52.2.1 231 182 ∧ zq_at zy_part_14_52.2.1 232 1 ∧ zq_at zy_part_14_52.2.1 233 103 ∧ zq_at zy_part_14_52.2.1 234 28 ∧ zq_at zy_part_14_52.2.1 235 153 ∧ zq_at zy_part_14_52.2.1 236 0 ∧ zq_at zy_part_14_52.2.1 237 7 ∧ zq_at zy_part_14_52.2.1 238 29 ∧ zq_at zy_part_14_52.2.1 239 167 ∧ zq_at zy_part_14_52.2.1 240 0 ∧ zq_at zy_part_14_52.2.1 241 4 ∧ zq_at zy_part_14_52.2.1 243 172 := by decide +kernel
theorem zd_14_52_219 : zz_B zy_part_14_52 219 (Instr.ifCond .eq) 234 222 := ⟨15, zq_153 zg_14_52_219.1 zg_14_52_219.2.1 zg_14_52_219.2.2.1 (by decide), rfl, rfl⟩
theorem zd_14_52_222 : zz_D zy_part_14_52 222 (.aload_n 0) 1 223 := ⟨zq_42 zg_14_52_219.2.2.2.1, rfl⟩
theorem zd_14_52_223 : zz_D zy_part_14_52 223 (.getfield 36) 3 226 := ⟨zq_180 zg_14_52_219.2.2.2.2.1 zg_14_52_219.2.2.2.2.2.1 zg_14_52_219.2.2.2.2.2.2.1 rfl, rfl⟩
theorem zd_14_52_226 : zz_D zy_part_14_52 226 (.iload 4) 2 228 := ⟨zq_21 zg_14_52_219.2.2.2.2.2.2.2.1 zg_14_52_219.2.2.2.2.2.2.2.2.1, rfl⟩
theorem zd_14_52_228 : zz_D zy_part_14_52 228 (.iconst 1) 1 229 := ⟨zq_4 zg_14_52_219.2.2.2.2.2.2.2.2.2.1, rfl⟩
theorem zd_14_52_229 : zz_D zy_part_14_52 229 (.iastore) 1 230 := ⟨zq_79 zg_14_52_219.2.2.2.2.2.2.2.2.2.2.1, rfl⟩
theorem zd_14_52_230 : zz_D zy_part_14_52 230 (.aload_n 0) 1 231 := ⟨zq_42 zg_14_52_219.2.2.2.2.2.2.2.2.2.2.2.1, rfl⟩
theorem zd_14_52_231 : zz_D zy_part_14_52 231 (.invokevirtual 359) 3 234 := ⟨zq_182 zg_14_52_219.2.2.2.2.2.2.2.2.2.2.2.2.1 zg_14_52_219.2.2.2.2.2.2.2.2.2.2.2.2.2.1 zg_14_52_219.2.2.2.2.2.2.2.2.2.2.2.2.2.2.1 rfl, rfl⟩
theorem zd_14_52_234 : zz_D zy_part_14_52 234 (.iload_n 2) 1 235 := ⟨zq_28 zg_14_52_219.2.2.2.2.2.2.2.2.2.2.2.2.2.2.2.1, rfl⟩
theorem zd_14_52_235 : zz_B zy_part_14_52 235 (Instr.ifCond .eq) 242 238 := ⟨7, zq_153 zg_14_52_219.2.2.2.2.2.2.2.2.2.2.2.2.2.2.2.2.1 zg_14_52_219.2.2.2.2.2.2.2.2.2.2.2.2.2.2.2.2.2.1 zg_14_52_219.2.2.2.2.2.2.2.2.2.2.2.2.2.2.2.2.2.2.1 (by decide), rfl, rfl⟩
theorem zd_14_52_238 : zz_D zy_part_14_52 238 (.iload_n 3) 1 239 := ⟨zq_29 zg_14_52_219.2.2.2.2.2.2.2.2.2.2.2.2.2.2.2.2.2.2.2.1, rfl⟩
theorem zd_14_52_239 : zz_B zy_part_14_52 239 Instr.goto 243 242 := ⟨4, zq_167 zg_14_52_219.2.2.2.2.2.2.2.2.2.2.2.2.2.2.2.2.2.2.2.2.1 zg_14_52_219.2.2.2.2.2.2.2.2.2.2.2.2.2.2.2.2.2.2.2.2.2.1 zg_14_52_219.2.2.2.2.2.2.2.2.2.2.2.2.2.2.2.2.2.2.2.2.2.2.1 (by decide), rfl, rfl⟩
theorem zd_14_52_243 : zz_D zy_part_14_52 243 (.ireturn) 1 244 := ⟨zq_172 zg_14_52_219.2.2.2.2.2.2.2.2.2.2.2.2.2.2.2.2.2.2.2.2.2.2.2, rfl⟩
theorem zg_14_52_203 : zq_at zy_part_14_52.2.1 203 42 ∧ zq_at zy_part_14_52.2.1 204 180 ∧ zq_at zy_part_14_52.2.1 205 1 ∧ zq_at zy_part_14_52.2.1 206 91 ∧ zq_at zy_part_14_52.2.1 207 16 ∧ zq_at zy_part_14_52.2.1 208 20 ∧ zq_at zy_part_14_52.2.1 209 160 ∧ zq_at zy_part_14_52.2.1 210 0 ∧ zq_at zy_part_14_52.2.1 211 7 ∧ zq_at zy_part_14_52.2.1 216 3 ∧ zq_at zy_part_14_52.2.1 242 3 ∧ zq_at zy_part_14_52.2.1 178 4 ∧ zq_at zy_part_14_52.2.1 179 167 ∧ zq_at zy_part_14_52.2.1 180 0 ∧ zq_at zy_part_14_52.2.1 181 4 ∧ zq_at zy_part_14_52.2.1 152 27 ∧ zq_at zy_part_14_52.2.1 153 16 ∧ zq_at zy_part_14_52.2.1 154 18 ∧ zq_at zy_part_14_52.2.1 155 160 ∧ zq_at zy_part_14_52.2.1 156 0 ∧ zq_at zy_part_14_52.2.1 157 79 ∧ zq_at zy_part_14_52.2.1 168 6 ∧ zq_at zy_part_14_52.2.1 94 27 := by decide +kernel
theorem zd_14_52_203 : zz_D zy_part_14_52 203 (.aload_n 0) 1 204 := ⟨zq_42 zg_14_52_203.1, rfl⟩
theorem zd_14_52_204 : zz_D zy_part_14_52 204 (.getfield 347) 3 207 := ⟨zq_180 zg_14_52_203.2.1 zg_14_52_203.2.2.1 zg_14_52_203.2.2.2.1 rfl, rfl⟩
theorem zd_14_52_207 : zz_D zy_part_14_52 207 (.bipush 20) 2 209 := ⟨zq_16 zg_14_52_203.2.2.2.2.1 zg_14_52_203.2.2.2.2.2.1 (by decide), rfl⟩
theorem zd_14_52_209 : zz_B zy_part_14_52 209 (Instr.if_icmp .ne) 216 212 := ⟨7, zq_160 zg_14_52_203.2.2.2.2.2.2.1 zg_14_52_203.2.2.2.2.2.2.2.1 zg_14_52_203.2.2.2.2.2.2.2.2.1 (by decide), rfl, rfl⟩
theorem zd_14_52_216 : zz_D zy_part_14_52 216 (.iconst 0) 1 217 := ⟨zq_3 zg_14_52_203.2.2.2.2.2.2.2.2.2.1, rfl⟩
theorem zd_14_52_242 : zz_D zy_part_14_52 242 (.iconst 0) 1 243 := ⟨zq_3 zg_14_52_203.2.2.2.2.2.2.2.2.2.2.1, rfl⟩
theorem zd_14_52_178 : zz_D zy_part_14_52 178 (.iconst 1) 1 179 := ⟨zq_4 zg_14_52_203.2.2.2.2.2.2.2.2.2.2.2.1, rfl⟩
theorem zd_14_52_179 : zz_B zy_part_14_52 179 Instr.goto 183 182 := ⟨4, zq_167 zg_14_52_203.2.2.2.2.2.2.2.2.2.2.2.2.1 zg_14_52_203.2.2.2.2.2.2.2.2.2.2.2.2.2.1 zg_14_52_203.2.2.2.2.2.2.2.2.2.2.2.2.2.2.1 (by decide), rfl, rfl⟩
theorem zd_14_52_152 : zz_D zy_part_14_52 152 (.iload_n 1) 1 153 := ⟨zq_27 zg_14_52_203.2.2.2.2.2.2.2.2.2.2.2.2.2.2.2.1, rfl⟩
theorem zd_14_52_153 : zz_D zy_part_14_52 153 (.bipush 18) 2 155 := ⟨zq_16 zg_14_52_203.2.2.2.2.2.2.2.2.2.2.2.2.2.2.2.2.1 zg_14_52_203.2.2.2.2.2.2.2.2.2.2.2.2.2.2.2.2.2.1 (by decide), rfl⟩
theorem zd_14_52_155 : zz_B zy_part_14_52 155 (Instr.if_icmp .ne) 234 158 := ⟨79, zq_160 zg_14_52_203.2.2.2.2.2.2.2.2.2.2.2.2.2.2.2.2.2.2.1 zg_14_52_203.2.2.2.2.2.2.2.2.2.2.2.2.2.2.2.2.2.2.2.1 zg_14_52_203.2.2.2.2.2.2.2.2.2.2.2.2.2.2.2.2.2.2.2.2.1 (by decide), rfl, rfl⟩
theorem zd_14_52_168 : zz_D zy_part_14_52 168 (.iconst 3) 1 169 := ⟨zq_6 zg_14_52_203.2.2.2.2.2.2.2.2.2.2.2.2.2.2.2.2.2.2.2.2.2.1, rfl⟩
theorem zd_14_52_94 : zz_D zy_part_14_52 94 (.iload_n 1) 1 95 := ⟨zq_27 zg_14_52_203.2.2.2.2.2.2.2.2.2.2.2.2.2.2.2.2.2.2.2.2.2.2, rfl⟩
theorem zg_14_52_95 : zq_at zy_part_14_52.2.1 95 16 ∧ zq_at zy_part_14_52.2.1 96 13 ∧ zq_at zy_part_14_52.2.1 97 160 ∧ zq_at zy_part_14_52.2.1 98 0 ∧ zq_at zy_part_14_52.2.1 99 8 ∧ zq_at zy_part_14_52.2.1 105 27 ∧ zq_at zy_part_14_52.2.1 106 16 ∧ zq_at zy_part_14_52.2.1 107 14 ∧ zq_at zy_part_14_52.2.1 108 160 ∧ zq_at zy_part_14_52.2.1 109 0 ∧ zq_at zy_part_14_52.2.1 110 8 ∧ zq_at zy_part_14_52.2.1 116 27 ∧ zq_at zy_part_14_52.2.1 117 16 ∧ zq_at zy_part_14_52.2.1 118 15 ∧ zq_at zy_part_14_52.2.1 119 160 ∧ zq_at zy_part_14_52.2.1 120 0 ∧ zq_at zy_part_14_52.2.1 121 8 ∧ zq_at zy_part_14_52.2.1 127 16 ∧ zq_at zy_part_14_52.2.1 128 11 ∧ zq_at zy_part_14_52.2.1 129 54 ∧ zq_at zy_part_14_52.2.1 130 4 ∧ zq_at zy_part_14_52.2.1 131 4 ∧ zq_at zy_part_14_52.2.1 132 21 ∧ zq_at zy_part_14_52.2.1 133 4 := by decide +kernel
theorem zd_14_52_95 : zz_D zy_part_14_52 95 (.bipush 13) 2 97 := ⟨zq_16 zg_14_52_95.1 zg_14_52_95.2.1 (by decide), rfl⟩
theorem zd_14_52_97 : zz_B zy_part_14_52 97 (Instr.if_icmp .ne) 105 100 := ⟨8, zq_160 zg_14_52_95.2.2.1 zg_14_52_95.2.2.2.1 zg_14_52_95.2.2.2.2.1 (by decide), rfl, rfl⟩
theorem zd_14_52_105 : zz_D zy_part_14_52 105 (.iload_n 1) 1 106 := ⟨zq_27 zg_14_52_95.2.2.2.2.2.1, rfl⟩
theorem zd_14_52_106 : zz_D zy_part_14_52 106 (.bipush 14) 2 108 := ⟨zq_16 zg_14_52_95.2.2.2.2.2.2.1 zg_14_52_95.2.2.2.2.2.2.2.1 (by decide), rfl⟩
theorem zd_14_52_108 : zz_B zy_part_14_52 108 (Instr.if_icmp .ne) 116 111 := ⟨8, zq_160 zg_14_52_95.2.2.2.2.2.2.2.2.1 zg_14_52_95.2.2.2.2.2.2.2.2.2.1 zg_14_52_95.2.2.2.2.2.2.2.2.2.2.1 (by decide), rfl, rfl⟩
theorem zd_14_52_116 : zz_D zy_part_14_52 116 (.iload_n 1) 1 117 := ⟨zq_27 zg_14_52_95.2.2.2.2.2.2.2.2.2.2.2.1, rfl⟩
theorem zd_14_52_117 : zz_D zy_part_14_52 117 (.bipush 15) 2 119 := ⟨zq_16 zg_14_52_95.2.2.2.2.2.2.2.2.2.2.2.2.1 zg_14_52_95.2.2.2.2.2.2.2.2.2.2.2.2.2.1 (by decide), rfl⟩
theorem zd_14_52_119 : zz_B zy_part_14_52 119 (Instr.if_icmp .ne) 127 122 := ⟨8, zq_160 zg_14_52_95.2.2.2.2.2.2.2.2.2.2.2.2.2.2.1 zg_14_52_95.2.2.2.2.2.2.2.2.2.2.2.2.2.2.2.1 zg_14_52_95.2.2.2.2.2.2.2.2.2.2.2.2.2.2.2.2.1 (by decide), rfl, rfl⟩
theorem zd_14_52_127 : zz_D zy_part_14_52 127 (.bipush 11) 2 129 := ⟨zq_16 zg_14_52_95.2.2.2.2.2.2.2.2.2.2.2.2.2.2.2.2.2.1 zg_14_52_95.2.2.2.2.2.2.2.2.2.2.2.2.2.2.2.2.2.2.1 (by decide), rfl⟩
theorem zd_14_52_129 : zz_D zy_part_14_52 129 (.istore 4) 2 131 := ⟨zq_54 zg_14_52_95.2.2.2.2.2.2.2.2.2.2.2.2.2.2.2.2.2.2.2.1 zg_14_52_95.2.2.2.2.2.2.2.2.2.2.2.2.2.2.2.2.2.2.2.2.1, rfl⟩
theorem zd_14_52_131 : zz_D zy_part_14_52 131 (.iconst 1) 1 132 := ⟨zq_4 zg_14_52_95.2.2.2.2.2.2.2.2.2.2.2.2.2.2.2.2.2.2.2.2.2.1, rfl⟩
theorem zd_14_52_132 : zz_D zy_part_14_52 132 (.iload 4) 2 134 := ⟨zq_21 zg_14_52_95.2.2.2.2.2.2.2.2.2.2.2.2.2.2.2.2.2.2.2.2.2.2.1 zg_14_52_95.2.2.2.2.2.2.2.2.2.2.2.2.2.2.2.2.2.2.2.2.2.2.2, rfl⟩
theorem zg_14_52_134 : zq_at zy_part_14_52.2.1 134 120 ∧ zq_at zy_part_14_52.2.1 135 62 ∧ zq_at zy_part_14_52.2.1 136 42 ∧ zq_at zy_part_14_52.2.1 137 21 ∧ zq_at zy_part_14_52.2.1 138 4 ∧ zq_at zy_part_14_52.2.1 139 182 ∧ zq_at zy_part_14_52.2.1 140 1 ∧ zq_at zy_part_14_52.2.1 141 106 := by decide +kernel
theorem zd_14_52_134 : zz_D zy_part_14_52 134 (.ishl) 1 135 := ⟨zq_120 zg_14_52_134.1, rfl⟩
theorem zd_14_52_135 : zz_D zy_part_14_52 135 (.istore_n 3) 1 136 := ⟨zq_62 zg_14_52_134.2.1, rfl⟩
theorem zd_14_52_136 : zz_D zy_part_14_52 136 (.aload_n 0) 1 137 := ⟨zq_42 zg_14_52_134.2.2.1, rfl⟩
theorem zd_14_52_137 : zz_D zy_part_14_52 137 (.iload 4) 2 139 := ⟨zq_21 zg_14_52_134.2.2.2.1 zg_14_52_134.2.2.2.2.1, rfl⟩
theorem zd_14_52_139 : zz_D zy_part_14_52 139 (.invokevirtual 362) 3 142 := ⟨zq_182 zg_14_52_134.2.2.2.2.2.1 zg_14_52_134.2.2.2.2.2.2.1 zg_14_52_134.2.2.2.2.2.2.2 rfl, rfl⟩
-- TensorForgeModel setNumber (I)Z
abbrev zr_setNumber_14_51x_11 : Room := { frames := 2, cells := 0, slots := 0, locals := 35 }
def zp_setNumber_14_51x_11  (S0 : zz_S) : Int → zz_S → Prop := fun r S => zz_G S ∧ zz_fr [(1079, 30), (1079, 31), (1079, 32), (1087, 11)] [] (fun _ _ => False) S0 S ∧ (0 ≤ r ∧ r ≤ 1) ∧ (S 1079 32 ≥ S0 1079 32) ∧ (r = 1 → S0 1079 30 = 100) ∧ ((r = 1 ∧ S0 1079 30 = 100 ∧ S0 1079 31 ≤ 31 ∧ S 1079 30 = zt_tm (S0 1099) (S0 1079 33) (S0 1079 32) ∧ S 1079 32 = zt_tn (S0 1099) (S0 1079 33) (S0 1079 32)) ∨ (r = 0 ∧ (S0 1079 30 ≠ 100 ∨ 31 < S0 1079 31))) ∧ (r = 1 → S 1079 30 = 100 → S 1079 31 = zt_tv (S0 1099) (S0 1079 33) (S0 1079 32))
theorem zc_setNumber_14_51x_11 {g : mm_G} {l : Launch}  (S0 : zz_S) (n : Nat) (hn : zz_end ≤ n) (G_S0 : zz_G S0) (hN : ∀ w : Nat, 1 ≤ w → w ≤ 20 → S0 1100 w = zt_cd (zt_nw.getD w [])) : mm_Met g l zy_setNumber_14_51 zr_setNumber_14_51x_11 [.ref 1079, zi 11] (zz_M S0 n) n (zz_QI n (zp_setNumber_14_51x_11  S0)) := by
  refine zz_enter (by decide) (Nat.le_of_ble_eq_true rfl) (zz_less (ls1 := [some (.ref 1079), some (zi 11)]) ⟨rfl, ⟨rfl, trivial⟩⟩ ?_)
  have F_S0 : zz_fr [(1079, 30), (1079, 31), (1079, 32), (1087, 11)] [] (fun _ _ => False) S0 S0 := zz_fr.refl
  refine zz_aload_n (x := 1079) rfl zd_14_51_0 ?_
  have g1 := zz_G.r G_S0 1079 30 0 102 rfl rfl
  refine zz_geti (z := S0 1079 30) zd_14_51_1 zf_Md_347 zT_1079 rfl (zz_ltn hn rfl) rfl ?_
  refine zz_bipush (by decide) zd_14_51_4 ?_
  refine zz_icmp_ne (by omega) (by omega) zd_14_51_6 (fun c2 => ?_) (fun c2 => ?_)
  · refine zz_iconst zd_14_51_22 ?_
    have g3 := zz_G.r G_S0 1079 32 0 1500 rfl rfl
    have g4 := zz_G.r G_S0 1079 31 0 9999 rfl rfl
    exact zz_zret zd_14_51_23 rfl (by omega) (Nat.zero_le _) (Nat.zero_le _) ⟨_, _, rfl, G_S0, F_S0, by omega, by omega, by omega, by omega, by omega⟩
  · refine zz_aload_n (x := 1079) rfl zd_14_51_9 ?_
    have g5 := zz_G.r G_S0 1079 31 0 9999 rfl rfl
    refine zz_geti (z := S0 1079 31) zd_14_51_10 zf_Md_354 zT_1079 rfl (zz_ltn hn rfl) rfl ?_
    refine zz_iconst zd_14_51_13 ?_
    refine zz_iload_n (x := 11) rfl zd_14_51_14 ?_
    refine zz_callSI [zi 11] zd_14_51_15 zk_Md_215 rfl rfl ⟨Nat.le_of_ble_eq_true rfl, Nat.le_of_ble_eq_true rfl⟩ ⟨rfl, rfl⟩ (Nat.zero_le _) (Nat.zero_le _) (zc_bitsOf_14_11 11 S0 n hn G_S0 (by omega)) (fun v7 S6 hP => ?_)
    obtain ⟨rfl, o8, o9⟩ := hP
    obtain rfl : v7 = 5 := by omega
    refine zz_ishl zd_14_51_18 (fun v10 hv10 ev10 => ?_)
    obtain rfl : v10 = 32 := ev10.trans (by decide)
    refine zz_icmp_lt (by omega) (by omega) zd_14_51_19 (fun c11 => ?_) (fun c11 => ?_)
    · refine zz_aload_n (x := 1079) rfl zd_14_51_24 ?_
      refine zz_getr (kd := 0) (z := 1087) zd_14_51_25 zf_Md_36 zT_1079 rfl (zz_ltn hn rfl) (zz_G.eq G_S0 1079 11 1087 rfl rfl) (by decide) 1087 rfl ?_
      refine zz_iload_n (x := 11) rfl zd_14_51_28 ?_
      refine zz_aload_n (x := 1079) rfl zd_14_51_29 ?_
      refine zz_geti (z := S0 1079 31) zd_14_51_30 zf_Md_354 zT_1079 rfl (zz_ltn hn rfl) rfl ?_
      refine zz_iast zd_14_51_33 zT_1087 rfl (zz_ltn hn rfl) (by decide) (by decide) (fun S12 qS12 => ?_)
      have G_S12 := zz_G.put G_S0 qS12 (-2147483648) 2147483647 rfl (by omega)
      have F_S12 := zz_fr.puts F_S0 qS12 rfl
      refine zz_aload_n (x := 1079) rfl zd_14_51_34 ?_
      have g13 := zz_G.r G_S0 1079 32 0 1500 rfl rfl
      have e14 : S12 1079 32 = S0 1079 32 := (zz_ro qS12 (fun h => absurd h.1 (by decide)) rfl)
      have g15 := zz_G.r G_S0 1079 33 0 1500 rfl rfl
      have e16 : S12 1079 33 = S0 1079 33 := (zz_ro qS12 (fun h => absurd h.1 (by decide)) rfl)
      refine zz_callVV [] zd_14_51_35 zk_Md_359 zT_1079 (zz_ltn hn rfl) rfl rfl ⟨Nat.le_of_ble_eq_true rfl, Nat.le_of_ble_eq_true rfl⟩ ⟨rfl, rfl⟩ (Nat.zero_le _) (Nat.zero_le _) (zc_advance_14_49  S12 n hn G_S12 (fun u h1 h2 => ((zz_ro qS12 (fun h => absurd h.1 (by decide)) rfl)).trans (hN u h1 h2))) (fun S17 hP => ?_)
      obtain ⟨G_S17, fS17, o19, o20, o21, o22, o23, o24⟩ := hP
      rw [show S12 1079 32 = S0 1079 32 from (zz_ro qS12 (fun h => absurd h.1 (by decide)) rfl)] at o19
      rw [show S12 1079 32 = S0 1079 32 from (zz_ro qS12 (fun h => absurd h.1 (by decide)) rfl)] at o20
      rw [show S12 1099 = S0 1099 from funext (fun u => (zz_ro qS12 (fun h => absurd h.1 (by decide)) rfl)), show S12 1079 33 = S0 1079 33 from (zz_ro qS12 (fun h => absurd h.1 (by decide)) rfl), show S12 1079 32 = S0 1079 32 from (zz_ro qS12 (fun h => absurd h.1 (by decide)) rfl)] at o22
      rw [show S12 1099 = S0 1099 from funext (fun u => (zz_ro qS12 (fun h => absurd h.1 (by decide)) rfl)), show S12 1079 33 = S0 1079 33 from (zz_ro qS12 (fun h => absurd h.1 (by decide)) rfl), show S12 1079 32 = S0 1079 32 from (zz_ro qS12 (fun h => absurd h.1 (by decide)) rfl)] at o23
      rw [show S12 1099 = S0 1099 from funext (fun u => (zz_ro qS12 (fun h => absurd h.1 (by decide)) rfl)), show S12 1079 33 = S0 1079 33 from (zz_ro qS12 (fun h => absurd h.1 (by decide)) rfl), show S12 1079 32 = S0 1079 32 from (zz_ro qS12 (fun h => absurd h.1 (by decide)) rfl)] at o24
      have F_S17 := zz_fr.trans F_S12 fS17 rfl zz_nv
      refine zz_iconst zd_14_51_38 ?_
      have g25 := zz_G.r G_S17 1079 32 0 1500 rfl rfl
      have g26 := zz_G.r G_S17 1079 30 0 102 rfl rfl
      have g27 := zz_G.r G_S17 1079 31 0 9999 rfl rfl
      exact zz_zret zd_14_51_39 rfl (by omega) (Nat.zero_le _) (Nat.zero_le _) ⟨_, _, rfl, G_S17, F_S17, by omega, by omega, by omega, by omega, by omega⟩
    · refine zz_iconst zd_14_51_22 ?_
      have g28 := zz_G.r G_S0 1079 32 0 1500 rfl rfl
      exact zz_zret zd_14_51_23 rfl (by omega) (Nat.zero_le _) (Nat.zero_le _) ⟨_, _, rfl, G_S0, F_S0, by omega, by omega, by omega, by omega, by omega⟩
theorem zk_Md_362 : mm_Vl "TensorForgeModel" 362 11 1 zy_setNumber_14_51 := ⟨zyw_setNumber_14_51, (R_Md, F_Md, 69), rfl, mm_tb_1 2032 (by decide +kernel) rfl, mm_tb_1 2034 (by decide +kernel) rfl, mm_tb_s 112 (by decide +kernel) rfl⟩
theorem zg_14_52_142 : zq_at zy_part_14_52.2.1 142 61 ∧ zq_at zy_part_14_52.2.1 143 167 ∧ zq_at zy_part_14_52.2.1 144 0 ∧ zq_at zy_part_14_52.2.1 145 91 ∧ zq_at zy_part_14_52.2.1 122 16 ∧ zq_at zy_part_14_52.2.1 123 10 ∧ zq_at zy_part_14_52.2.1 124 167 ∧ zq_at zy_part_14_52.2.1 125 0 ∧ zq_at zy_part_14_52.2.1 126 5 := by decide +kernel
theorem zd_14_52_142 : zz_D zy_part_14_52 142 (.istore_n 2) 1 143 := ⟨zq_61 zg_14_52_142.1, rfl⟩
theorem zd_14_52_143 : zz_B zy_part_14_52 143 Instr.goto 234 146 := ⟨91, zq_167 zg_14_52_142.2.1 zg_14_52_142.2.2.1 zg_14_52_142.2.2.2.1 (by decide), rfl, rfl⟩
theorem zd_14_52_122 : zz_D zy_part_14_52 122 (.bipush 10) 2 124 := ⟨zq_16 zg_14_52_142.2.2.2.2.1 zg_14_52_142.2.2.2.2.2.1 (by decide), rfl⟩
theorem zd_14_52_124 : zz_B zy_part_14_52 124 Instr.goto 129 127 := ⟨5, zq_167 zg_14_52_142.2.2.2.2.2.2.1 zg_14_52_142.2.2.2.2.2.2.2.1 zg_14_52_142.2.2.2.2.2.2.2.2 (by decide), rfl, rfl⟩
-- TensorForgeModel setNumber (I)Z
abbrev zr_setNumber_14_51x_10 : Room := { frames := 2, cells := 0, slots := 0, locals := 35 }
def zp_setNumber_14_51x_10  (S0 : zz_S) : Int → zz_S → Prop := fun r S => zz_G S ∧ zz_fr [(1079, 30), (1079, 31), (1079, 32), (1087, 10)] [] (fun _ _ => False) S0 S ∧ (0 ≤ r ∧ r ≤ 1) ∧ (S 1079 32 ≥ S0 1079 32) ∧ (r = 1 → S0 1079 30 = 100) ∧ ((r = 1 ∧ S0 1079 30 = 100 ∧ S0 1079 31 ≤ 1023 ∧ S 1079 30 = zt_tm (S0 1099) (S0 1079 33) (S0 1079 32) ∧ S 1079 32 = zt_tn (S0 1099) (S0 1079 33) (S0 1079 32)) ∨ (r = 0 ∧ (S0 1079 30 ≠ 100 ∨ 1023 < S0 1079 31))) ∧ (r = 1 → S 1079 30 = 100 → S 1079 31 = zt_tv (S0 1099) (S0 1079 33) (S0 1079 32))
theorem zc_setNumber_14_51x_10 {g : mm_G} {l : Launch}  (S0 : zz_S) (n : Nat) (hn : zz_end ≤ n) (G_S0 : zz_G S0) (hN : ∀ w : Nat, 1 ≤ w → w ≤ 20 → S0 1100 w = zt_cd (zt_nw.getD w [])) : mm_Met g l zy_setNumber_14_51 zr_setNumber_14_51x_10 [.ref 1079, zi 10] (zz_M S0 n) n (zz_QI n (zp_setNumber_14_51x_10  S0)) := by
  refine zz_enter (by decide) (Nat.le_of_ble_eq_true rfl) (zz_less (ls1 := [some (.ref 1079), some (zi 10)]) ⟨rfl, ⟨rfl, trivial⟩⟩ ?_)
  have F_S0 : zz_fr [(1079, 30), (1079, 31), (1079, 32), (1087, 10)] [] (fun _ _ => False) S0 S0 := zz_fr.refl
  refine zz_aload_n (x := 1079) rfl zd_14_51_0 ?_
  have g1 := zz_G.r G_S0 1079 30 0 102 rfl rfl
  refine zz_geti (z := S0 1079 30) zd_14_51_1 zf_Md_347 zT_1079 rfl (zz_ltn hn rfl) rfl ?_
  refine zz_bipush (by decide) zd_14_51_4 ?_
  refine zz_icmp_ne (by omega) (by omega) zd_14_51_6 (fun c2 => ?_) (fun c2 => ?_)
  · refine zz_iconst zd_14_51_22 ?_
    have g3 := zz_G.r G_S0 1079 32 0 1500 rfl rfl
    have g4 := zz_G.r G_S0 1079 31 0 9999 rfl rfl
    exact zz_zret zd_14_51_23 rfl (by omega) (Nat.zero_le _) (Nat.zero_le _) ⟨_, _, rfl, G_S0, F_S0, by omega, by omega, by omega, by omega, by omega⟩
  · refine zz_aload_n (x := 1079) rfl zd_14_51_9 ?_
    have g5 := zz_G.r G_S0 1079 31 0 9999 rfl rfl
    refine zz_geti (z := S0 1079 31) zd_14_51_10 zf_Md_354 zT_1079 rfl (zz_ltn hn rfl) rfl ?_
    refine zz_iconst zd_14_51_13 ?_
    refine zz_iload_n (x := 10) rfl zd_14_51_14 ?_
    refine zz_callSI [zi 10] zd_14_51_15 zk_Md_215 rfl rfl ⟨Nat.le_of_ble_eq_true rfl, Nat.le_of_ble_eq_true rfl⟩ ⟨rfl, rfl⟩ (Nat.zero_le _) (Nat.zero_le _) (zc_bitsOf_14_11 10 S0 n hn G_S0 (by omega)) (fun v7 S6 hP => ?_)
    obtain ⟨rfl, o8, o9⟩ := hP
    obtain rfl : v7 = 10 := by omega
    refine zz_ishl zd_14_51_18 (fun v10 hv10 ev10 => ?_)
    obtain rfl : v10 = 1024 := ev10.trans (by decide)
    refine zz_icmp_lt (by omega) (by omega) zd_14_51_19 (fun c11 => ?_) (fun c11 => ?_)
    · refine zz_aload_n (x := 1079) rfl zd_14_51_24 ?_
      refine zz_getr (kd := 0) (z := 1087) zd_14_51_25 zf_Md_36 zT_1079 rfl (zz_ltn hn rfl) (zz_G.eq G_S0 1079 11 1087 rfl rfl) (by decide) 1087 rfl ?_
      refine zz_iload_n (x := 10) rfl zd_14_51_28 ?_
      refine zz_aload_n (x := 1079) rfl zd_14_51_29 ?_
      refine zz_geti (z := S0 1079 31) zd_14_51_30 zf_Md_354 zT_1079 rfl (zz_ltn hn rfl) rfl ?_
      refine zz_iast zd_14_51_33 zT_1087 rfl (zz_ltn hn rfl) (by decide) (by decide) (fun S12 qS12 => ?_)
      have G_S12 := zz_G.put G_S0 qS12 (-2147483648) 2147483647 rfl (by omega)
      have F_S12 := zz_fr.puts F_S0 qS12 rfl
      refine zz_aload_n (x := 1079) rfl zd_14_51_34 ?_
      have g13 := zz_G.r G_S0 1079 32 0 1500 rfl rfl
      have e14 : S12 1079 32 = S0 1079 32 := (zz_ro qS12 (fun h => absurd h.1 (by decide)) rfl)
      have g15 := zz_G.r G_S0 1079 33 0 1500 rfl rfl
      have e16 : S12 1079 33 = S0 1079 33 := (zz_ro qS12 (fun h => absurd h.1 (by decide)) rfl)
      refine zz_callVV [] zd_14_51_35 zk_Md_359 zT_1079 (zz_ltn hn rfl) rfl rfl ⟨Nat.le_of_ble_eq_true rfl, Nat.le_of_ble_eq_true rfl⟩ ⟨rfl, rfl⟩ (Nat.zero_le _) (Nat.zero_le _) (zc_advance_14_49  S12 n hn G_S12 (fun u h1 h2 => ((zz_ro qS12 (fun h => absurd h.1 (by decide)) rfl)).trans (hN u h1 h2))) (fun S17 hP => ?_)
      obtain ⟨G_S17, fS17, o19, o20, o21, o22, o23, o24⟩ := hP
      rw [show S12 1079 32 = S0 1079 32 from (zz_ro qS12 (fun h => absurd h.1 (by decide)) rfl)] at o19
      rw [show S12 1079 32 = S0 1079 32 from (zz_ro qS12 (fun h => absurd h.1 (by decide)) rfl)] at o20
      rw [show S12 1099 = S0 1099 from funext (fun u => (zz_ro qS12 (fun h => absurd h.1 (by decide)) rfl)), show S12 1079 33 = S0 1079 33 from (zz_ro qS12 (fun h => absurd h.1 (by decide)) rfl), show S12 1079 32 = S0 1079 32 from (zz_ro qS12 (fun h => absurd h.1 (by decide)) rfl)] at o22
      rw [show S12 1099 = S0 1099 from funext (fun u => (zz_ro qS12 (fun h => absurd h.1 (by decide)) rfl)), show S12 1079 33 = S0 1079 33 from (zz_ro qS12 (fun h => absurd h.1 (by decide)) rfl), show S12 1079 32 = S0 1079 32 from (zz_ro qS12 (fun h => absurd h.1 (by decide)) rfl)] at o23
      rw [show S12 1099 = S0 1099 from funext (fun u => (zz_ro qS12 (fun h => absurd h.1 (by decide)) rfl)), show S12 1079 33 = S0 1079 33 from (zz_ro qS12 (fun h => absurd h.1 (by decide)) rfl), show S12 1079 32 = S0 1079 32 from (zz_ro qS12 (fun h => absurd h.1 (by decide)) rfl)] at o24
      have F_S17 := zz_fr.trans F_S12 fS17 rfl zz_nv
      refine zz_iconst zd_14_51_38 ?_
      have g25 := zz_G.r G_S17 1079 32 0 1500 rfl rfl
      have g26 := zz_G.r G_S17 1079 30 0 102 rfl rfl
      have g27 := zz_G.r G_S17 1079 31 0 9999 rfl rfl
      exact zz_zret zd_14_51_39 rfl (by omega) (Nat.zero_le _) (Nat.zero_le _) ⟨_, _, rfl, G_S17, F_S17, by omega, by omega, by omega, by omega, by omega⟩
    · refine zz_iconst zd_14_51_22 ?_
      have g28 := zz_G.r G_S0 1079 32 0 1500 rfl rfl
      exact zz_zret zd_14_51_23 rfl (by omega) (Nat.zero_le _) (Nat.zero_le _) ⟨_, _, rfl, G_S0, F_S0, by omega, by omega, by omega, by omega, by omega⟩
theorem zg_14_52_111 : zq_at zy_part_14_52.2.1 111 16 ∧ zq_at zy_part_14_52.2.1 112 9 ∧ zq_at zy_part_14_52.2.1 113 167 ∧ zq_at zy_part_14_52.2.1 114 0 ∧ zq_at zy_part_14_52.2.1 115 16 := by decide +kernel
theorem zd_14_52_111 : zz_D zy_part_14_52 111 (.bipush 9) 2 113 := ⟨zq_16 zg_14_52_111.1 zg_14_52_111.2.1 (by decide), rfl⟩
theorem zd_14_52_113 : zz_B zy_part_14_52 113 Instr.goto 129 116 := ⟨16, zq_167 zg_14_52_111.2.2.1 zg_14_52_111.2.2.2.1 zg_14_52_111.2.2.2.2 (by decide), rfl, rfl⟩
-- TensorForgeModel setNumber (I)Z
abbrev zr_setNumber_14_51x_9 : Room := { frames := 2, cells := 0, slots := 0, locals := 35 }
def zp_setNumber_14_51x_9  (S0 : zz_S) : Int → zz_S → Prop := fun r S => zz_G S ∧ zz_fr [(1079, 30), (1079, 31), (1079, 32), (1087, 9)] [] (fun _ _ => False) S0 S ∧ (0 ≤ r ∧ r ≤ 1) ∧ (S 1079 32 ≥ S0 1079 32) ∧ (r = 1 → S0 1079 30 = 100) ∧ ((r = 1 ∧ S0 1079 30 = 100 ∧ S0 1079 31 ≤ 511 ∧ S 1079 30 = zt_tm (S0 1099) (S0 1079 33) (S0 1079 32) ∧ S 1079 32 = zt_tn (S0 1099) (S0 1079 33) (S0 1079 32)) ∨ (r = 0 ∧ (S0 1079 30 ≠ 100 ∨ 511 < S0 1079 31))) ∧ (r = 1 → S 1079 30 = 100 → S 1079 31 = zt_tv (S0 1099) (S0 1079 33) (S0 1079 32))
theorem zc_setNumber_14_51x_9 {g : mm_G} {l : Launch}  (S0 : zz_S) (n : Nat) (hn : zz_end ≤ n) (G_S0 : zz_G S0) (hN : ∀ w : Nat, 1 ≤ w → w ≤ 20 → S0 1100 w = zt_cd (zt_nw.getD w [])) : mm_Met g l zy_setNumber_14_51 zr_setNumber_14_51x_9 [.ref 1079, zi 9] (zz_M S0 n) n (zz_QI n (zp_setNumber_14_51x_9  S0)) := by
  refine zz_enter (by decide) (Nat.le_of_ble_eq_true rfl) (zz_less (ls1 := [some (.ref 1079), some (zi 9)]) ⟨rfl, ⟨rfl, trivial⟩⟩ ?_)
  have F_S0 : zz_fr [(1079, 30), (1079, 31), (1079, 32), (1087, 9)] [] (fun _ _ => False) S0 S0 := zz_fr.refl
  refine zz_aload_n (x := 1079) rfl zd_14_51_0 ?_
  have g1 := zz_G.r G_S0 1079 30 0 102 rfl rfl
  refine zz_geti (z := S0 1079 30) zd_14_51_1 zf_Md_347 zT_1079 rfl (zz_ltn hn rfl) rfl ?_
  refine zz_bipush (by decide) zd_14_51_4 ?_
  refine zz_icmp_ne (by omega) (by omega) zd_14_51_6 (fun c2 => ?_) (fun c2 => ?_)
  · refine zz_iconst zd_14_51_22 ?_
    have g3 := zz_G.r G_S0 1079 32 0 1500 rfl rfl
    have g4 := zz_G.r G_S0 1079 31 0 9999 rfl rfl
    exact zz_zret zd_14_51_23 rfl (by omega) (Nat.zero_le _) (Nat.zero_le _) ⟨_, _, rfl, G_S0, F_S0, by omega, by omega, by omega, by omega, by omega⟩
  · refine zz_aload_n (x := 1079) rfl zd_14_51_9 ?_
    have g5 := zz_G.r G_S0 1079 31 0 9999 rfl rfl
    refine zz_geti (z := S0 1079 31) zd_14_51_10 zf_Md_354 zT_1079 rfl (zz_ltn hn rfl) rfl ?_
    refine zz_iconst zd_14_51_13 ?_
    refine zz_iload_n (x := 9) rfl zd_14_51_14 ?_
    refine zz_callSI [zi 9] zd_14_51_15 zk_Md_215 rfl rfl ⟨Nat.le_of_ble_eq_true rfl, Nat.le_of_ble_eq_true rfl⟩ ⟨rfl, rfl⟩ (Nat.zero_le _) (Nat.zero_le _) (zc_bitsOf_14_11 9 S0 n hn G_S0 (by omega)) (fun v7 S6 hP => ?_)
    obtain ⟨rfl, o8, o9⟩ := hP
    obtain rfl : v7 = 9 := by omega
    refine zz_ishl zd_14_51_18 (fun v10 hv10 ev10 => ?_)
    obtain rfl : v10 = 512 := ev10.trans (by decide)
    refine zz_icmp_lt (by omega) (by omega) zd_14_51_19 (fun c11 => ?_) (fun c11 => ?_)
    · refine zz_aload_n (x := 1079) rfl zd_14_51_24 ?_
      refine zz_getr (kd := 0) (z := 1087) zd_14_51_25 zf_Md_36 zT_1079 rfl (zz_ltn hn rfl) (zz_G.eq G_S0 1079 11 1087 rfl rfl) (by decide) 1087 rfl ?_
      refine zz_iload_n (x := 9) rfl zd_14_51_28 ?_
      refine zz_aload_n (x := 1079) rfl zd_14_51_29 ?_
      refine zz_geti (z := S0 1079 31) zd_14_51_30 zf_Md_354 zT_1079 rfl (zz_ltn hn rfl) rfl ?_
      refine zz_iast zd_14_51_33 zT_1087 rfl (zz_ltn hn rfl) (by decide) (by decide) (fun S12 qS12 => ?_)
      have G_S12 := zz_G.put G_S0 qS12 (-2147483648) 2147483647 rfl (by omega)
      have F_S12 := zz_fr.puts F_S0 qS12 rfl
      refine zz_aload_n (x := 1079) rfl zd_14_51_34 ?_
      have g13 := zz_G.r G_S0 1079 32 0 1500 rfl rfl
      have e14 : S12 1079 32 = S0 1079 32 := (zz_ro qS12 (fun h => absurd h.1 (by decide)) rfl)
      have g15 := zz_G.r G_S0 1079 33 0 1500 rfl rfl
      have e16 : S12 1079 33 = S0 1079 33 := (zz_ro qS12 (fun h => absurd h.1 (by decide)) rfl)
      refine zz_callVV [] zd_14_51_35 zk_Md_359 zT_1079 (zz_ltn hn rfl) rfl rfl ⟨Nat.le_of_ble_eq_true rfl, Nat.le_of_ble_eq_true rfl⟩ ⟨rfl, rfl⟩ (Nat.zero_le _) (Nat.zero_le _) (zc_advance_14_49  S12 n hn G_S12 (fun u h1 h2 => ((zz_ro qS12 (fun h => absurd h.1 (by decide)) rfl)).trans (hN u h1 h2))) (fun S17 hP => ?_)
      obtain ⟨G_S17, fS17, o19, o20, o21, o22, o23, o24⟩ := hP
      rw [show S12 1079 32 = S0 1079 32 from (zz_ro qS12 (fun h => absurd h.1 (by decide)) rfl)] at o19
      rw [show S12 1079 32 = S0 1079 32 from (zz_ro qS12 (fun h => absurd h.1 (by decide)) rfl)] at o20
      rw [show S12 1099 = S0 1099 from funext (fun u => (zz_ro qS12 (fun h => absurd h.1 (by decide)) rfl)), show S12 1079 33 = S0 1079 33 from (zz_ro qS12 (fun h => absurd h.1 (by decide)) rfl), show S12 1079 32 = S0 1079 32 from (zz_ro qS12 (fun h => absurd h.1 (by decide)) rfl)] at o22
      rw [show S12 1099 = S0 1099 from funext (fun u => (zz_ro qS12 (fun h => absurd h.1 (by decide)) rfl)), show S12 1079 33 = S0 1079 33 from (zz_ro qS12 (fun h => absurd h.1 (by decide)) rfl), show S12 1079 32 = S0 1079 32 from (zz_ro qS12 (fun h => absurd h.1 (by decide)) rfl)] at o23
      rw [show S12 1099 = S0 1099 from funext (fun u => (zz_ro qS12 (fun h => absurd h.1 (by decide)) rfl)), show S12 1079 33 = S0 1079 33 from (zz_ro qS12 (fun h => absurd h.1 (by decide)) rfl), show S12 1079 32 = S0 1079 32 from (zz_ro qS12 (fun h => absurd h.1 (by decide)) rfl)] at o24
      have F_S17 := zz_fr.trans F_S12 fS17 rfl zz_nv
      refine zz_iconst zd_14_51_38 ?_
      have g25 := zz_G.r G_S17 1079 32 0 1500 rfl rfl
      have g26 := zz_G.r G_S17 1079 30 0 102 rfl rfl
      have g27 := zz_G.r G_S17 1079 31 0 9999 rfl rfl
      exact zz_zret zd_14_51_39 rfl (by omega) (Nat.zero_le _) (Nat.zero_le _) ⟨_, _, rfl, G_S17, F_S17, by omega, by omega, by omega, by omega, by omega⟩
    · refine zz_iconst zd_14_51_22 ?_
      have g28 := zz_G.r G_S0 1079 32 0 1500 rfl rfl
      exact zz_zret zd_14_51_23 rfl (by omega) (Nat.zero_le _) (Nat.zero_le _) ⟨_, _, rfl, G_S0, F_S0, by omega, by omega, by omega, by omega, by omega⟩
theorem zg_14_52_100 : zq_at zy_part_14_52.2.1 100 16 ∧ zq_at zy_part_14_52.2.1 101 8 ∧ zq_at zy_part_14_52.2.1 102 167 ∧ zq_at zy_part_14_52.2.1 103 0 ∧ zq_at zy_part_14_52.2.1 104 27 := by decide +kernel
theorem zd_14_52_100 : zz_D zy_part_14_52 100 (.bipush 8) 2 102 := ⟨zq_16 zg_14_52_100.1 zg_14_52_100.2.1 (by decide), rfl⟩
theorem zd_14_52_102 : zz_B zy_part_14_52 102 Instr.goto 129 105 := ⟨27, zq_167 zg_14_52_100.2.2.1 zg_14_52_100.2.2.2.1 zg_14_52_100.2.2.2.2 (by decide), rfl, rfl⟩
-- TensorForgeModel setNumber (I)Z
abbrev zr_setNumber_14_51x_8 : Room := { frames := 2, cells := 0, slots := 0, locals := 35 }
def zp_setNumber_14_51x_8  (S0 : zz_S) : Int → zz_S → Prop := fun r S => zz_G S ∧ zz_fr [(1079, 30), (1079, 31), (1079, 32), (1087, 8)] [] (fun _ _ => False) S0 S ∧ (0 ≤ r ∧ r ≤ 1) ∧ (S 1079 32 ≥ S0 1079 32) ∧ (r = 1 → S0 1079 30 = 100) ∧ ((r = 1 ∧ S0 1079 30 = 100 ∧ S0 1079 31 ≤ 511 ∧ S 1079 30 = zt_tm (S0 1099) (S0 1079 33) (S0 1079 32) ∧ S 1079 32 = zt_tn (S0 1099) (S0 1079 33) (S0 1079 32)) ∨ (r = 0 ∧ (S0 1079 30 ≠ 100 ∨ 511 < S0 1079 31))) ∧ (r = 1 → S 1079 30 = 100 → S 1079 31 = zt_tv (S0 1099) (S0 1079 33) (S0 1079 32))
theorem zc_setNumber_14_51x_8 {g : mm_G} {l : Launch}  (S0 : zz_S) (n : Nat) (hn : zz_end ≤ n) (G_S0 : zz_G S0) (hN : ∀ w : Nat, 1 ≤ w → w ≤ 20 → S0 1100 w = zt_cd (zt_nw.getD w [])) : mm_Met g l zy_setNumber_14_51 zr_setNumber_14_51x_8 [.ref 1079, zi 8] (zz_M S0 n) n (zz_QI n (zp_setNumber_14_51x_8  S0)) := by
  refine zz_enter (by decide) (Nat.le_of_ble_eq_true rfl) (zz_less (ls1 := [some (.ref 1079), some (zi 8)]) ⟨rfl, ⟨rfl, trivial⟩⟩ ?_)
  have F_S0 : zz_fr [(1079, 30), (1079, 31), (1079, 32), (1087, 8)] [] (fun _ _ => False) S0 S0 := zz_fr.refl
  refine zz_aload_n (x := 1079) rfl zd_14_51_0 ?_
  have g1 := zz_G.r G_S0 1079 30 0 102 rfl rfl
  refine zz_geti (z := S0 1079 30) zd_14_51_1 zf_Md_347 zT_1079 rfl (zz_ltn hn rfl) rfl ?_
  refine zz_bipush (by decide) zd_14_51_4 ?_
  refine zz_icmp_ne (by omega) (by omega) zd_14_51_6 (fun c2 => ?_) (fun c2 => ?_)
  · refine zz_iconst zd_14_51_22 ?_
    have g3 := zz_G.r G_S0 1079 32 0 1500 rfl rfl
    have g4 := zz_G.r G_S0 1079 31 0 9999 rfl rfl
    exact zz_zret zd_14_51_23 rfl (by omega) (Nat.zero_le _) (Nat.zero_le _) ⟨_, _, rfl, G_S0, F_S0, by omega, by omega, by omega, by omega, by omega⟩
  · refine zz_aload_n (x := 1079) rfl zd_14_51_9 ?_
    have g5 := zz_G.r G_S0 1079 31 0 9999 rfl rfl
    refine zz_geti (z := S0 1079 31) zd_14_51_10 zf_Md_354 zT_1079 rfl (zz_ltn hn rfl) rfl ?_
    refine zz_iconst zd_14_51_13 ?_
    refine zz_iload_n (x := 8) rfl zd_14_51_14 ?_
    refine zz_callSI [zi 8] zd_14_51_15 zk_Md_215 rfl rfl ⟨Nat.le_of_ble_eq_true rfl, Nat.le_of_ble_eq_true rfl⟩ ⟨rfl, rfl⟩ (Nat.zero_le _) (Nat.zero_le _) (zc_bitsOf_14_11 8 S0 n hn G_S0 (by omega)) (fun v7 S6 hP => ?_)
    obtain ⟨rfl, o8, o9⟩ := hP
    obtain rfl : v7 = 9 := by omega
    refine zz_ishl zd_14_51_18 (fun v10 hv10 ev10 => ?_)
    obtain rfl : v10 = 512 := ev10.trans (by decide)
    refine zz_icmp_lt (by omega) (by omega) zd_14_51_19 (fun c11 => ?_) (fun c11 => ?_)
    · refine zz_aload_n (x := 1079) rfl zd_14_51_24 ?_
      refine zz_getr (kd := 0) (z := 1087) zd_14_51_25 zf_Md_36 zT_1079 rfl (zz_ltn hn rfl) (zz_G.eq G_S0 1079 11 1087 rfl rfl) (by decide) 1087 rfl ?_
      refine zz_iload_n (x := 8) rfl zd_14_51_28 ?_
      refine zz_aload_n (x := 1079) rfl zd_14_51_29 ?_
      refine zz_geti (z := S0 1079 31) zd_14_51_30 zf_Md_354 zT_1079 rfl (zz_ltn hn rfl) rfl ?_
      refine zz_iast zd_14_51_33 zT_1087 rfl (zz_ltn hn rfl) (by decide) (by decide) (fun S12 qS12 => ?_)
      have G_S12 := zz_G.put G_S0 qS12 (-2147483648) 2147483647 rfl (by omega)
      have F_S12 := zz_fr.puts F_S0 qS12 rfl
      refine zz_aload_n (x := 1079) rfl zd_14_51_34 ?_
      have g13 := zz_G.r G_S0 1079 32 0 1500 rfl rfl
      have e14 : S12 1079 32 = S0 1079 32 := (zz_ro qS12 (fun h => absurd h.1 (by decide)) rfl)
      have g15 := zz_G.r G_S0 1079 33 0 1500 rfl rfl
      have e16 : S12 1079 33 = S0 1079 33 := (zz_ro qS12 (fun h => absurd h.1 (by decide)) rfl)
      refine zz_callVV [] zd_14_51_35 zk_Md_359 zT_1079 (zz_ltn hn rfl) rfl rfl ⟨Nat.le_of_ble_eq_true rfl, Nat.le_of_ble_eq_true rfl⟩ ⟨rfl, rfl⟩ (Nat.zero_le _) (Nat.zero_le _) (zc_advance_14_49  S12 n hn G_S12 (fun u h1 h2 => ((zz_ro qS12 (fun h => absurd h.1 (by decide)) rfl)).trans (hN u h1 h2))) (fun S17 hP => ?_)
      obtain ⟨G_S17, fS17, o19, o20, o21, o22, o23, o24⟩ := hP
      rw [show S12 1079 32 = S0 1079 32 from (zz_ro qS12 (fun h => absurd h.1 (by decide)) rfl)] at o19
      rw [show S12 1079 32 = S0 1079 32 from (zz_ro qS12 (fun h => absurd h.1 (by decide)) rfl)] at o20
      rw [show S12 1099 = S0 1099 from funext (fun u => (zz_ro qS12 (fun h => absurd h.1 (by decide)) rfl)), show S12 1079 33 = S0 1079 33 from (zz_ro qS12 (fun h => absurd h.1 (by decide)) rfl), show S12 1079 32 = S0 1079 32 from (zz_ro qS12 (fun h => absurd h.1 (by decide)) rfl)] at o22
      rw [show S12 1099 = S0 1099 from funext (fun u => (zz_ro qS12 (fun h => absurd h.1 (by decide)) rfl)), show S12 1079 33 = S0 1079 33 from (zz_ro qS12 (fun h => absurd h.1 (by decide)) rfl), show S12 1079 32 = S0 1079 32 from (zz_ro qS12 (fun h => absurd h.1 (by decide)) rfl)] at o23
      rw [show S12 1099 = S0 1099 from funext (fun u => (zz_ro qS12 (fun h => absurd h.1 (by decide)) rfl)), show S12 1079 33 = S0 1079 33 from (zz_ro qS12 (fun h => absurd h.1 (by decide)) rfl), show S12 1079 32 = S0 1079 32 from (zz_ro qS12 (fun h => absurd h.1 (by decide)) rfl)] at o24
      have F_S17 := zz_fr.trans F_S12 fS17 rfl zz_nv
      refine zz_iconst zd_14_51_38 ?_
      have g25 := zz_G.r G_S17 1079 32 0 1500 rfl rfl
      have g26 := zz_G.r G_S17 1079 30 0 102 rfl rfl
      have g27 := zz_G.r G_S17 1079 31 0 9999 rfl rfl
      exact zz_zret zd_14_51_39 rfl (by omega) (Nat.zero_le _) (Nat.zero_le _) ⟨_, _, rfl, G_S17, F_S17, by omega, by omega, by omega, by omega, by omega⟩
    · refine zz_iconst zd_14_51_22 ?_
      have g28 := zz_G.r G_S0 1079 32 0 1500 rfl rfl
      exact zz_zret zd_14_51_23 rfl (by omega) (Nat.zero_le _) (Nat.zero_le _) ⟨_, _, rfl, G_S0, F_S0, by omega, by omega, by omega, by omega, by omega⟩
theorem zg_14_52_36 : zq_at zy_part_14_52.2.1 36 5 ∧ zq_at zy_part_14_52.2.1 37 62 ∧ zq_at zy_part_14_52.2.1 38 42 ∧ zq_at zy_part_14_52.2.1 39 16 ∧ zq_at zy_part_14_52.2.1 40 6 ∧ zq_at zy_part_14_52.2.1 41 182 ∧ zq_at zy_part_14_52.2.1 42 1 ∧ zq_at zy_part_14_52.2.1 43 106 := by decide +kernel
theorem zd_14_52_36 : zz_D zy_part_14_52 36 (.iconst 2) 1 37 := ⟨zq_5 zg_14_52_36.1, rfl⟩
theorem zd_14_52_37 : zz_D zy_part_14_52 37 (.istore_n 3) 1 38 := ⟨zq_62 zg_14_52_36.2.1, rfl⟩
theorem zd_14_52_38 : zz_D zy_part_14_52 38 (.aload_n 0) 1 39 := ⟨zq_42 zg_14_52_36.2.2.1, rfl⟩
theorem zd_14_52_39 : zz_D zy_part_14_52 39 (.bipush 6) 2 41 := ⟨zq_16 zg_14_52_36.2.2.2.1 zg_14_52_36.2.2.2.2.1 (by decide), rfl⟩
theorem zd_14_52_41 : zz_D zy_part_14_52 41 (.invokevirtual 362) 3 44 := ⟨zq_182 zg_14_52_36.2.2.2.2.2.1 zg_14_52_36.2.2.2.2.2.2.1 zg_14_52_36.2.2.2.2.2.2.2 rfl, rfl⟩
-- TensorForgeModel setNumber (I)Z
abbrev zr_setNumber_14_51x_6 : Room := { frames := 2, cells := 0, slots := 0, locals := 35 }
def zp_setNumber_14_51x_6  (S0 : zz_S) : Int → zz_S → Prop := fun r S => zz_G S ∧ zz_fr [(1079, 30), (1079, 31), (1079, 32), (1087, 6)] [] (fun _ _ => False) S0 S ∧ (0 ≤ r ∧ r ≤ 1) ∧ (S 1079 32 ≥ S0 1079 32) ∧ (r = 1 → S0 1079 30 = 100) ∧ ((r = 1 ∧ S0 1079 30 = 100 ∧ S0 1079 31 ≤ 63 ∧ S 1079 30 = zt_tm (S0 1099) (S0 1079 33) (S0 1079 32) ∧ S 1079 32 = zt_tn (S0 1099) (S0 1079 33) (S0 1079 32)) ∨ (r = 0 ∧ (S0 1079 30 ≠ 100 ∨ 63 < S0 1079 31))) ∧ (r = 1 → S 1079 30 = 100 → S 1079 31 = zt_tv (S0 1099) (S0 1079 33) (S0 1079 32))
theorem zc_setNumber_14_51x_6 {g : mm_G} {l : Launch}  (S0 : zz_S) (n : Nat) (hn : zz_end ≤ n) (G_S0 : zz_G S0) (hN : ∀ w : Nat, 1 ≤ w → w ≤ 20 → S0 1100 w = zt_cd (zt_nw.getD w [])) : mm_Met g l zy_setNumber_14_51 zr_setNumber_14_51x_6 [.ref 1079, zi 6] (zz_M S0 n) n (zz_QI n (zp_setNumber_14_51x_6  S0)) := by
  refine zz_enter (by decide) (Nat.le_of_ble_eq_true rfl) (zz_less (ls1 := [some (.ref 1079), some (zi 6)]) ⟨rfl, ⟨rfl, trivial⟩⟩ ?_)
  have F_S0 : zz_fr [(1079, 30), (1079, 31), (1079, 32), (1087, 6)] [] (fun _ _ => False) S0 S0 := zz_fr.refl
  refine zz_aload_n (x := 1079) rfl zd_14_51_0 ?_
  have g1 := zz_G.r G_S0 1079 30 0 102 rfl rfl
  refine zz_geti (z := S0 1079 30) zd_14_51_1 zf_Md_347 zT_1079 rfl (zz_ltn hn rfl) rfl ?_
  refine zz_bipush (by decide) zd_14_51_4 ?_
  refine zz_icmp_ne (by omega) (by omega) zd_14_51_6 (fun c2 => ?_) (fun c2 => ?_)
  · refine zz_iconst zd_14_51_22 ?_
    have g3 := zz_G.r G_S0 1079 32 0 1500 rfl rfl
    have g4 := zz_G.r G_S0 1079 31 0 9999 rfl rfl
    exact zz_zret zd_14_51_23 rfl (by omega) (Nat.zero_le _) (Nat.zero_le _) ⟨_, _, rfl, G_S0, F_S0, by omega, by omega, by omega, by omega, by omega⟩
  · refine zz_aload_n (x := 1079) rfl zd_14_51_9 ?_
    have g5 := zz_G.r G_S0 1079 31 0 9999 rfl rfl
    refine zz_geti (z := S0 1079 31) zd_14_51_10 zf_Md_354 zT_1079 rfl (zz_ltn hn rfl) rfl ?_
    refine zz_iconst zd_14_51_13 ?_
    refine zz_iload_n (x := 6) rfl zd_14_51_14 ?_
    refine zz_callSI [zi 6] zd_14_51_15 zk_Md_215 rfl rfl ⟨Nat.le_of_ble_eq_true rfl, Nat.le_of_ble_eq_true rfl⟩ ⟨rfl, rfl⟩ (Nat.zero_le _) (Nat.zero_le _) (zc_bitsOf_14_11 6 S0 n hn G_S0 (by omega)) (fun v7 S6 hP => ?_)
    obtain ⟨rfl, o8, o9⟩ := hP
    obtain rfl : v7 = 6 := by omega
    refine zz_ishl zd_14_51_18 (fun v10 hv10 ev10 => ?_)
    obtain rfl : v10 = 64 := ev10.trans (by decide)
    refine zz_icmp_lt (by omega) (by omega) zd_14_51_19 (fun c11 => ?_) (fun c11 => ?_)
    · refine zz_aload_n (x := 1079) rfl zd_14_51_24 ?_
      refine zz_getr (kd := 0) (z := 1087) zd_14_51_25 zf_Md_36 zT_1079 rfl (zz_ltn hn rfl) (zz_G.eq G_S0 1079 11 1087 rfl rfl) (by decide) 1087 rfl ?_
      refine zz_iload_n (x := 6) rfl zd_14_51_28 ?_
      refine zz_aload_n (x := 1079) rfl zd_14_51_29 ?_
      refine zz_geti (z := S0 1079 31) zd_14_51_30 zf_Md_354 zT_1079 rfl (zz_ltn hn rfl) rfl ?_
      refine zz_iast zd_14_51_33 zT_1087 rfl (zz_ltn hn rfl) (by decide) (by decide) (fun S12 qS12 => ?_)
      have G_S12 := zz_G.put G_S0 qS12 (-2147483648) 2147483647 rfl (by omega)
      have F_S12 := zz_fr.puts F_S0 qS12 rfl
      refine zz_aload_n (x := 1079) rfl zd_14_51_34 ?_
      have g13 := zz_G.r G_S0 1079 32 0 1500 rfl rfl
      have e14 : S12 1079 32 = S0 1079 32 := (zz_ro qS12 (fun h => absurd h.1 (by decide)) rfl)
      have g15 := zz_G.r G_S0 1079 33 0 1500 rfl rfl
      have e16 : S12 1079 33 = S0 1079 33 := (zz_ro qS12 (fun h => absurd h.1 (by decide)) rfl)
      refine zz_callVV [] zd_14_51_35 zk_Md_359 zT_1079 (zz_ltn hn rfl) rfl rfl ⟨Nat.le_of_ble_eq_true rfl, Nat.le_of_ble_eq_true rfl⟩ ⟨rfl, rfl⟩ (Nat.zero_le _) (Nat.zero_le _) (zc_advance_14_49  S12 n hn G_S12 (fun u h1 h2 => ((zz_ro qS12 (fun h => absurd h.1 (by decide)) rfl)).trans (hN u h1 h2))) (fun S17 hP => ?_)
      obtain ⟨G_S17, fS17, o19, o20, o21, o22, o23, o24⟩ := hP
      rw [show S12 1079 32 = S0 1079 32 from (zz_ro qS12 (fun h => absurd h.1 (by decide)) rfl)] at o19
      rw [show S12 1079 32 = S0 1079 32 from (zz_ro qS12 (fun h => absurd h.1 (by decide)) rfl)] at o20
      rw [show S12 1099 = S0 1099 from funext (fun u => (zz_ro qS12 (fun h => absurd h.1 (by decide)) rfl)), show S12 1079 33 = S0 1079 33 from (zz_ro qS12 (fun h => absurd h.1 (by decide)) rfl), show S12 1079 32 = S0 1079 32 from (zz_ro qS12 (fun h => absurd h.1 (by decide)) rfl)] at o22
      rw [show S12 1099 = S0 1099 from funext (fun u => (zz_ro qS12 (fun h => absurd h.1 (by decide)) rfl)), show S12 1079 33 = S0 1079 33 from (zz_ro qS12 (fun h => absurd h.1 (by decide)) rfl), show S12 1079 32 = S0 1079 32 from (zz_ro qS12 (fun h => absurd h.1 (by decide)) rfl)] at o23
      rw [show S12 1099 = S0 1099 from funext (fun u => (zz_ro qS12 (fun h => absurd h.1 (by decide)) rfl)), show S12 1079 33 = S0 1079 33 from (zz_ro qS12 (fun h => absurd h.1 (by decide)) rfl), show S12 1079 32 = S0 1079 32 from (zz_ro qS12 (fun h => absurd h.1 (by decide)) rfl)] at o24
      have F_S17 := zz_fr.trans F_S12 fS17 rfl zz_nv
      refine zz_iconst zd_14_51_38 ?_
      have g25 := zz_G.r G_S17 1079 32 0 1500 rfl rfl
      have g26 := zz_G.r G_S17 1079 30 0 102 rfl rfl
      have g27 := zz_G.r G_S17 1079 31 0 9999 rfl rfl
      exact zz_zret zd_14_51_39 rfl (by omega) (Nat.zero_le _) (Nat.zero_le _) ⟨_, _, rfl, G_S17, F_S17, by omega, by omega, by omega, by omega, by omega⟩
    · refine zz_iconst zd_14_51_22 ?_
      have g28 := zz_G.r G_S0 1079 32 0 1500 rfl rfl
      exact zz_zret zd_14_51_23 rfl (by omega) (Nat.zero_le _) (Nat.zero_le _) ⟨_, _, rfl, G_S0, F_S0, by omega, by omega, by omega, by omega, by omega⟩
theorem zg_14_52_44 : zq_at zy_part_14_52.2.1 44 153 ∧ zq_at zy_part_14_52.2.1 45 0 ∧ zq_at zy_part_14_52.2.1 46 16 ∧ zq_at zy_part_14_52.2.1 60 3 ∧ zq_at zy_part_14_52.2.1 61 61 ∧ zq_at zy_part_14_52.2.1 62 28 ∧ zq_at zy_part_14_52.2.1 63 153 ∧ zq_at zy_part_14_52.2.1 64 0 ∧ zq_at zy_part_14_52.2.1 65 171 ∧ zq_at zy_part_14_52.2.1 47 42 ∧ zq_at zy_part_14_52.2.1 48 180 ∧ zq_at zy_part_14_52.2.1 49 1 ∧ zq_at zy_part_14_52.2.1 50 91 ∧ zq_at zy_part_14_52.2.1 51 16 ∧ zq_at zy_part_14_52.2.1 52 12 ∧ zq_at zy_part_14_52.2.1 53 160 ∧ zq_at zy_part_14_52.2.1 54 0 ∧ zq_at zy_part_14_52.2.1 55 7 ∧ zq_at zy_part_14_52.2.1 56 4 ∧ zq_at zy_part_14_52.2.1 57 167 ∧ zq_at zy_part_14_52.2.1 58 0 ∧ zq_at zy_part_14_52.2.1 59 4 ∧ zq_at zy_part_14_52.2.1 66 42 := by decide +kernel
theorem zd_14_52_44 : zz_B zy_part_14_52 44 (Instr.ifCond .eq) 60 47 := ⟨16, zq_153 zg_14_52_44.1 zg_14_52_44.2.1 zg_14_52_44.2.2.1 (by decide), rfl, rfl⟩
theorem zd_14_52_60 : zz_D zy_part_14_52 60 (.iconst 0) 1 61 := ⟨zq_3 zg_14_52_44.2.2.2.1, rfl⟩
theorem zd_14_52_61 : zz_D zy_part_14_52 61 (.istore_n 2) 1 62 := ⟨zq_61 zg_14_52_44.2.2.2.2.1, rfl⟩
theorem zd_14_52_62 : zz_D zy_part_14_52 62 (.iload_n 2) 1 63 := ⟨zq_28 zg_14_52_44.2.2.2.2.2.1, rfl⟩
theorem zd_14_52_63 : zz_B zy_part_14_52 63 (Instr.ifCond .eq) 234 66 := ⟨171, zq_153 zg_14_52_44.2.2.2.2.2.2.1 zg_14_52_44.2.2.2.2.2.2.2.1 zg_14_52_44.2.2.2.2.2.2.2.2.1 (by decide), rfl, rfl⟩
theorem zd_14_52_47 : zz_D zy_part_14_52 47 (.aload_n 0) 1 48 := ⟨zq_42 zg_14_52_44.2.2.2.2.2.2.2.2.2.1, rfl⟩
theorem zd_14_52_48 : zz_D zy_part_14_52 48 (.getfield 347) 3 51 := ⟨zq_180 zg_14_52_44.2.2.2.2.2.2.2.2.2.2.1 zg_14_52_44.2.2.2.2.2.2.2.2.2.2.2.1 zg_14_52_44.2.2.2.2.2.2.2.2.2.2.2.2.1 rfl, rfl⟩
theorem zd_14_52_51 : zz_D zy_part_14_52 51 (.bipush 12) 2 53 := ⟨zq_16 zg_14_52_44.2.2.2.2.2.2.2.2.2.2.2.2.2.1 zg_14_52_44.2.2.2.2.2.2.2.2.2.2.2.2.2.2.1 (by decide), rfl⟩
theorem zd_14_52_53 : zz_B zy_part_14_52 53 (Instr.if_icmp .ne) 60 56 := ⟨7, zq_160 zg_14_52_44.2.2.2.2.2.2.2.2.2.2.2.2.2.2.2.1 zg_14_52_44.2.2.2.2.2.2.2.2.2.2.2.2.2.2.2.2.1 zg_14_52_44.2.2.2.2.2.2.2.2.2.2.2.2.2.2.2.2.2.1 (by decide), rfl, rfl⟩
theorem zd_14_52_56 : zz_D zy_part_14_52 56 (.iconst 1) 1 57 := ⟨zq_4 zg_14_52_44.2.2.2.2.2.2.2.2.2.2.2.2.2.2.2.2.2.2.1, rfl⟩
theorem zd_14_52_57 : zz_B zy_part_14_52 57 Instr.goto 61 60 := ⟨4, zq_167 zg_14_52_44.2.2.2.2.2.2.2.2.2.2.2.2.2.2.2.2.2.2.2.1 zg_14_52_44.2.2.2.2.2.2.2.2.2.2.2.2.2.2.2.2.2.2.2.2.1 zg_14_52_44.2.2.2.2.2.2.2.2.2.2.2.2.2.2.2.2.2.2.2.2.2.1 (by decide), rfl, rfl⟩
theorem zd_14_52_66 : zz_D zy_part_14_52 66 (.aload_n 0) 1 67 := ⟨zq_42 zg_14_52_44.2.2.2.2.2.2.2.2.2.2.2.2.2.2.2.2.2.2.2.2.2.2, rfl⟩
theorem zg_14_52_67 : zq_at zy_part_14_52.2.1 67 182 ∧ zq_at zy_part_14_52.2.1 68 1 ∧ zq_at zy_part_14_52.2.1 69 103 ∧ zq_at zy_part_14_52.2.1 70 42 ∧ zq_at zy_part_14_52.2.1 71 16 ∧ zq_at zy_part_14_52.2.1 72 7 ∧ zq_at zy_part_14_52.2.1 73 182 ∧ zq_at zy_part_14_52.2.1 74 1 ∧ zq_at zy_part_14_52.2.1 75 106 := by decide +kernel
theorem zd_14_52_67 : zz_D zy_part_14_52 67 (.invokevirtual 359) 3 70 := ⟨zq_182 zg_14_52_67.1 zg_14_52_67.2.1 zg_14_52_67.2.2.1 rfl, rfl⟩
theorem zd_14_52_70 : zz_D zy_part_14_52 70 (.aload_n 0) 1 71 := ⟨zq_42 zg_14_52_67.2.2.2.1, rfl⟩
theorem zd_14_52_71 : zz_D zy_part_14_52 71 (.bipush 7) 2 73 := ⟨zq_16 zg_14_52_67.2.2.2.2.1 zg_14_52_67.2.2.2.2.2.1 (by decide), rfl⟩
theorem zd_14_52_73 : zz_D zy_part_14_52 73 (.invokevirtual 362) 3 76 := ⟨zq_182 zg_14_52_67.2.2.2.2.2.2.1 zg_14_52_67.2.2.2.2.2.2.2.1 zg_14_52_67.2.2.2.2.2.2.2.2 rfl, rfl⟩
-- TensorForgeModel setNumber (I)Z
abbrev zr_setNumber_14_51x_7 : Room := { frames := 2, cells := 0, slots := 0, locals := 35 }
def zp_setNumber_14_51x_7  (S0 : zz_S) : Int → zz_S → Prop := fun r S => zz_G S ∧ zz_fr [(1079, 30), (1079, 31), (1079, 32), (1087, 7)] [] (fun _ _ => False) S0 S ∧ (0 ≤ r ∧ r ≤ 1) ∧ (S 1079 32 ≥ S0 1079 32) ∧ (r = 1 → S0 1079 30 = 100) ∧ ((r = 1 ∧ S0 1079 30 = 100 ∧ S0 1079 31 ≤ 31 ∧ S 1079 30 = zt_tm (S0 1099) (S0 1079 33) (S0 1079 32) ∧ S 1079 32 = zt_tn (S0 1099) (S0 1079 33) (S0 1079 32)) ∨ (r = 0 ∧ (S0 1079 30 ≠ 100 ∨ 31 < S0 1079 31))) ∧ (r = 1 → S 1079 30 = 100 → S 1079 31 = zt_tv (S0 1099) (S0 1079 33) (S0 1079 32))
theorem zc_setNumber_14_51x_7 {g : mm_G} {l : Launch}  (S0 : zz_S) (n : Nat) (hn : zz_end ≤ n) (G_S0 : zz_G S0) (hN : ∀ w : Nat, 1 ≤ w → w ≤ 20 → S0 1100 w = zt_cd (zt_nw.getD w [])) : mm_Met g l zy_setNumber_14_51 zr_setNumber_14_51x_7 [.ref 1079, zi 7] (zz_M S0 n) n (zz_QI n (zp_setNumber_14_51x_7  S0)) := by
  refine zz_enter (by decide) (Nat.le_of_ble_eq_true rfl) (zz_less (ls1 := [some (.ref 1079), some (zi 7)]) ⟨rfl, ⟨rfl, trivial⟩⟩ ?_)
  have F_S0 : zz_fr [(1079, 30), (1079, 31), (1079, 32), (1087, 7)] [] (fun _ _ => False) S0 S0 := zz_fr.refl
  refine zz_aload_n (x := 1079) rfl zd_14_51_0 ?_
  have g1 := zz_G.r G_S0 1079 30 0 102 rfl rfl
  refine zz_geti (z := S0 1079 30) zd_14_51_1 zf_Md_347 zT_1079 rfl (zz_ltn hn rfl) rfl ?_
  refine zz_bipush (by decide) zd_14_51_4 ?_
  refine zz_icmp_ne (by omega) (by omega) zd_14_51_6 (fun c2 => ?_) (fun c2 => ?_)
  · refine zz_iconst zd_14_51_22 ?_
    have g3 := zz_G.r G_S0 1079 32 0 1500 rfl rfl
    have g4 := zz_G.r G_S0 1079 31 0 9999 rfl rfl
    exact zz_zret zd_14_51_23 rfl (by omega) (Nat.zero_le _) (Nat.zero_le _) ⟨_, _, rfl, G_S0, F_S0, by omega, by omega, by omega, by omega, by omega⟩
  · refine zz_aload_n (x := 1079) rfl zd_14_51_9 ?_
    have g5 := zz_G.r G_S0 1079 31 0 9999 rfl rfl
    refine zz_geti (z := S0 1079 31) zd_14_51_10 zf_Md_354 zT_1079 rfl (zz_ltn hn rfl) rfl ?_
    refine zz_iconst zd_14_51_13 ?_
    refine zz_iload_n (x := 7) rfl zd_14_51_14 ?_
    refine zz_callSI [zi 7] zd_14_51_15 zk_Md_215 rfl rfl ⟨Nat.le_of_ble_eq_true rfl, Nat.le_of_ble_eq_true rfl⟩ ⟨rfl, rfl⟩ (Nat.zero_le _) (Nat.zero_le _) (zc_bitsOf_14_11 7 S0 n hn G_S0 (by omega)) (fun v7 S6 hP => ?_)
    obtain ⟨rfl, o8, o9⟩ := hP
    obtain rfl : v7 = 5 := by omega
    refine zz_ishl zd_14_51_18 (fun v10 hv10 ev10 => ?_)
    obtain rfl : v10 = 32 := ev10.trans (by decide)
    refine zz_icmp_lt (by omega) (by omega) zd_14_51_19 (fun c11 => ?_) (fun c11 => ?_)
    · refine zz_aload_n (x := 1079) rfl zd_14_51_24 ?_
      refine zz_getr (kd := 0) (z := 1087) zd_14_51_25 zf_Md_36 zT_1079 rfl (zz_ltn hn rfl) (zz_G.eq G_S0 1079 11 1087 rfl rfl) (by decide) 1087 rfl ?_
      refine zz_iload_n (x := 7) rfl zd_14_51_28 ?_
      refine zz_aload_n (x := 1079) rfl zd_14_51_29 ?_
      refine zz_geti (z := S0 1079 31) zd_14_51_30 zf_Md_354 zT_1079 rfl (zz_ltn hn rfl) rfl ?_
      refine zz_iast zd_14_51_33 zT_1087 rfl (zz_ltn hn rfl) (by decide) (by decide) (fun S12 qS12 => ?_)
      have G_S12 := zz_G.put G_S0 qS12 (-2147483648) 2147483647 rfl (by omega)
      have F_S12 := zz_fr.puts F_S0 qS12 rfl
      refine zz_aload_n (x := 1079) rfl zd_14_51_34 ?_
      have g13 := zz_G.r G_S0 1079 32 0 1500 rfl rfl
      have e14 : S12 1079 32 = S0 1079 32 := (zz_ro qS12 (fun h => absurd h.1 (by decide)) rfl)
      have g15 := zz_G.r G_S0 1079 33 0 1500 rfl rfl
      have e16 : S12 1079 33 = S0 1079 33 := (zz_ro qS12 (fun h => absurd h.1 (by decide)) rfl)
      refine zz_callVV [] zd_14_51_35 zk_Md_359 zT_1079 (zz_ltn hn rfl) rfl rfl ⟨Nat.le_of_ble_eq_true rfl, Nat.le_of_ble_eq_true rfl⟩ ⟨rfl, rfl⟩ (Nat.zero_le _) (Nat.zero_le _) (zc_advance_14_49  S12 n hn G_S12 (fun u h1 h2 => ((zz_ro qS12 (fun h => absurd h.1 (by decide)) rfl)).trans (hN u h1 h2))) (fun S17 hP => ?_)
      obtain ⟨G_S17, fS17, o19, o20, o21, o22, o23, o24⟩ := hP
      rw [show S12 1079 32 = S0 1079 32 from (zz_ro qS12 (fun h => absurd h.1 (by decide)) rfl)] at o19
      rw [show S12 1079 32 = S0 1079 32 from (zz_ro qS12 (fun h => absurd h.1 (by decide)) rfl)] at o20
      rw [show S12 1099 = S0 1099 from funext (fun u => (zz_ro qS12 (fun h => absurd h.1 (by decide)) rfl)), show S12 1079 33 = S0 1079 33 from (zz_ro qS12 (fun h => absurd h.1 (by decide)) rfl), show S12 1079 32 = S0 1079 32 from (zz_ro qS12 (fun h => absurd h.1 (by decide)) rfl)] at o22
      rw [show S12 1099 = S0 1099 from funext (fun u => (zz_ro qS12 (fun h => absurd h.1 (by decide)) rfl)), show S12 1079 33 = S0 1079 33 from (zz_ro qS12 (fun h => absurd h.1 (by decide)) rfl), show S12 1079 32 = S0 1079 32 from (zz_ro qS12 (fun h => absurd h.1 (by decide)) rfl)] at o23
      rw [show S12 1099 = S0 1099 from funext (fun u => (zz_ro qS12 (fun h => absurd h.1 (by decide)) rfl)), show S12 1079 33 = S0 1079 33 from (zz_ro qS12 (fun h => absurd h.1 (by decide)) rfl), show S12 1079 32 = S0 1079 32 from (zz_ro qS12 (fun h => absurd h.1 (by decide)) rfl)] at o24
      have F_S17 := zz_fr.trans F_S12 fS17 rfl zz_nv
      refine zz_iconst zd_14_51_38 ?_
      have g25 := zz_G.r G_S17 1079 32 0 1500 rfl rfl
      have g26 := zz_G.r G_S17 1079 30 0 102 rfl rfl
      have g27 := zz_G.r G_S17 1079 31 0 9999 rfl rfl
      exact zz_zret zd_14_51_39 rfl (by omega) (Nat.zero_le _) (Nat.zero_le _) ⟨_, _, rfl, G_S17, F_S17, by omega, by omega, by omega, by omega, by omega⟩
    · refine zz_iconst zd_14_51_22 ?_
      have g28 := zz_G.r G_S0 1079 32 0 1500 rfl rfl
      exact zz_zret zd_14_51_23 rfl (by omega) (Nat.zero_le _) (Nat.zero_le _) ⟨_, _, rfl, G_S0, F_S0, by omega, by omega, by omega, by omega, by omega⟩
theorem zg_14_52_76 : zq_at zy_part_14_52.2.1 76 61 ∧ zq_at zy_part_14_52.2.1 77 167 ∧ zq_at zy_part_14_52.2.1 78 0 ∧ zq_at zy_part_14_52.2.1 79 157 ∧ zq_at zy_part_14_52.2.1 19 4 ∧ zq_at zy_part_14_52.2.1 20 62 ∧ zq_at zy_part_14_52.2.1 21 42 ∧ zq_at zy_part_14_52.2.1 22 8 ∧ zq_at zy_part_14_52.2.1 23 182 ∧ zq_at zy_part_14_52.2.1 24 1 ∧ zq_at zy_part_14_52.2.1 25 106 := by decide +kernel
theorem zd_14_52_76 : zz_D zy_part_14_52 76 (.istore_n 2) 1 77 := ⟨zq_61 zg_14_52_76.1, rfl⟩
theorem zd_14_52_77 : zz_B zy_part_14_52 77 Instr.goto 234 80 := ⟨157, zq_167 zg_14_52_76.2.1 zg_14_52_76.2.2.1 zg_14_52_76.2.2.2.1 (by decide), rfl, rfl⟩
theorem zd_14_52_19 : zz_D zy_part_14_52 19 (.iconst 1) 1 20 := ⟨zq_4 zg_14_52_76.2.2.2.2.1, rfl⟩
theorem zd_14_52_20 : zz_D zy_part_14_52 20 (.istore_n 3) 1 21 := ⟨zq_62 zg_14_52_76.2.2.2.2.2.1, rfl⟩
theorem zd_14_52_21 : zz_D zy_part_14_52 21 (.aload_n 0) 1 22 := ⟨zq_42 zg_14_52_76.2.2.2.2.2.2.1, rfl⟩
theorem zd_14_52_22 : zz_D zy_part_14_52 22 (.iconst 5) 1 23 := ⟨zq_8 zg_14_52_76.2.2.2.2.2.2.2.1, rfl⟩
theorem zd_14_52_23 : zz_D zy_part_14_52 23 (.invokevirtual 362) 3 26 := ⟨zq_182 zg_14_52_76.2.2.2.2.2.2.2.2.1 zg_14_52_76.2.2.2.2.2.2.2.2.2.1 zg_14_52_76.2.2.2.2.2.2.2.2.2.2 rfl, rfl⟩
-- TensorForgeModel setNumber (I)Z
abbrev zr_setNumber_14_51x_5 : Room := { frames := 2, cells := 0, slots := 0, locals := 35 }
def zp_setNumber_14_51x_5  (S0 : zz_S) : Int → zz_S → Prop := fun r S => zz_G S ∧ zz_fr [(1079, 30), (1079, 31), (1079, 32), (1087, 5)] [] (fun _ _ => False) S0 S ∧ (0 ≤ r ∧ r ≤ 1) ∧ (S 1079 32 ≥ S0 1079 32) ∧ (r = 1 → S0 1079 30 = 100) ∧ ((r = 1 ∧ S0 1079 30 = 100 ∧ S0 1079 31 ≤ 4095 ∧ S 1079 30 = zt_tm (S0 1099) (S0 1079 33) (S0 1079 32) ∧ S 1079 32 = zt_tn (S0 1099) (S0 1079 33) (S0 1079 32)) ∨ (r = 0 ∧ (S0 1079 30 ≠ 100 ∨ 4095 < S0 1079 31))) ∧ (r = 1 → S 1079 30 = 100 → S 1079 31 = zt_tv (S0 1099) (S0 1079 33) (S0 1079 32))
theorem zc_setNumber_14_51x_5 {g : mm_G} {l : Launch}  (S0 : zz_S) (n : Nat) (hn : zz_end ≤ n) (G_S0 : zz_G S0) (hN : ∀ w : Nat, 1 ≤ w → w ≤ 20 → S0 1100 w = zt_cd (zt_nw.getD w [])) : mm_Met g l zy_setNumber_14_51 zr_setNumber_14_51x_5 [.ref 1079, zi 5] (zz_M S0 n) n (zz_QI n (zp_setNumber_14_51x_5  S0)) := by
  refine zz_enter (by decide) (Nat.le_of_ble_eq_true rfl) (zz_less (ls1 := [some (.ref 1079), some (zi 5)]) ⟨rfl, ⟨rfl, trivial⟩⟩ ?_)
  have F_S0 : zz_fr [(1079, 30), (1079, 31), (1079, 32), (1087, 5)] [] (fun _ _ => False) S0 S0 := zz_fr.refl
  refine zz_aload_n (x := 1079) rfl zd_14_51_0 ?_
  have g1 := zz_G.r G_S0 1079 30 0 102 rfl rfl
  refine zz_geti (z := S0 1079 30) zd_14_51_1 zf_Md_347 zT_1079 rfl (zz_ltn hn rfl) rfl ?_
  refine zz_bipush (by decide) zd_14_51_4 ?_
  refine zz_icmp_ne (by omega) (by omega) zd_14_51_6 (fun c2 => ?_) (fun c2 => ?_)
  · refine zz_iconst zd_14_51_22 ?_
    have g3 := zz_G.r G_S0 1079 32 0 1500 rfl rfl
    have g4 := zz_G.r G_S0 1079 31 0 9999 rfl rfl
    exact zz_zret zd_14_51_23 rfl (by omega) (Nat.zero_le _) (Nat.zero_le _) ⟨_, _, rfl, G_S0, F_S0, by omega, by omega, by omega, by omega, by omega⟩
  · refine zz_aload_n (x := 1079) rfl zd_14_51_9 ?_
    have g5 := zz_G.r G_S0 1079 31 0 9999 rfl rfl
    refine zz_geti (z := S0 1079 31) zd_14_51_10 zf_Md_354 zT_1079 rfl (zz_ltn hn rfl) rfl ?_
    refine zz_iconst zd_14_51_13 ?_
    refine zz_iload_n (x := 5) rfl zd_14_51_14 ?_
    refine zz_callSI [zi 5] zd_14_51_15 zk_Md_215 rfl rfl ⟨Nat.le_of_ble_eq_true rfl, Nat.le_of_ble_eq_true rfl⟩ ⟨rfl, rfl⟩ (Nat.zero_le _) (Nat.zero_le _) (zc_bitsOf_14_11 5 S0 n hn G_S0 (by omega)) (fun v7 S6 hP => ?_)
    obtain ⟨rfl, o8, o9⟩ := hP
    obtain rfl : v7 = 12 := by omega
    refine zz_ishl zd_14_51_18 (fun v10 hv10 ev10 => ?_)
    obtain rfl : v10 = 4096 := ev10.trans (by decide)
    refine zz_icmp_lt (by omega) (by omega) zd_14_51_19 (fun c11 => ?_) (fun c11 => ?_)
    · refine zz_aload_n (x := 1079) rfl zd_14_51_24 ?_
      refine zz_getr (kd := 0) (z := 1087) zd_14_51_25 zf_Md_36 zT_1079 rfl (zz_ltn hn rfl) (zz_G.eq G_S0 1079 11 1087 rfl rfl) (by decide) 1087 rfl ?_
      refine zz_iload_n (x := 5) rfl zd_14_51_28 ?_
      refine zz_aload_n (x := 1079) rfl zd_14_51_29 ?_
      refine zz_geti (z := S0 1079 31) zd_14_51_30 zf_Md_354 zT_1079 rfl (zz_ltn hn rfl) rfl ?_
      refine zz_iast zd_14_51_33 zT_1087 rfl (zz_ltn hn rfl) (by decide) (by decide) (fun S12 qS12 => ?_)
      have G_S12 := zz_G.put G_S0 qS12 (-2147483648) 2147483647 rfl (by omega)
      have F_S12 := zz_fr.puts F_S0 qS12 rfl
      refine zz_aload_n (x := 1079) rfl zd_14_51_34 ?_
      have g13 := zz_G.r G_S0 1079 32 0 1500 rfl rfl
      have e14 : S12 1079 32 = S0 1079 32 := (zz_ro qS12 (fun h => absurd h.1 (by decide)) rfl)
      have g15 := zz_G.r G_S0 1079 33 0 1500 rfl rfl
      have e16 : S12 1079 33 = S0 1079 33 := (zz_ro qS12 (fun h => absurd h.1 (by decide)) rfl)
      refine zz_callVV [] zd_14_51_35 zk_Md_359 zT_1079 (zz_ltn hn rfl) rfl rfl ⟨Nat.le_of_ble_eq_true rfl, Nat.le_of_ble_eq_true rfl⟩ ⟨rfl, rfl⟩ (Nat.zero_le _) (Nat.zero_le _) (zc_advance_14_49  S12 n hn G_S12 (fun u h1 h2 => ((zz_ro qS12 (fun h => absurd h.1 (by decide)) rfl)).trans (hN u h1 h2))) (fun S17 hP => ?_)
      obtain ⟨G_S17, fS17, o19, o20, o21, o22, o23, o24⟩ := hP
      rw [show S12 1079 32 = S0 1079 32 from (zz_ro qS12 (fun h => absurd h.1 (by decide)) rfl)] at o19
      rw [show S12 1079 32 = S0 1079 32 from (zz_ro qS12 (fun h => absurd h.1 (by decide)) rfl)] at o20
      rw [show S12 1099 = S0 1099 from funext (fun u => (zz_ro qS12 (fun h => absurd h.1 (by decide)) rfl)), show S12 1079 33 = S0 1079 33 from (zz_ro qS12 (fun h => absurd h.1 (by decide)) rfl), show S12 1079 32 = S0 1079 32 from (zz_ro qS12 (fun h => absurd h.1 (by decide)) rfl)] at o22
      rw [show S12 1099 = S0 1099 from funext (fun u => (zz_ro qS12 (fun h => absurd h.1 (by decide)) rfl)), show S12 1079 33 = S0 1079 33 from (zz_ro qS12 (fun h => absurd h.1 (by decide)) rfl), show S12 1079 32 = S0 1079 32 from (zz_ro qS12 (fun h => absurd h.1 (by decide)) rfl)] at o23
      rw [show S12 1099 = S0 1099 from funext (fun u => (zz_ro qS12 (fun h => absurd h.1 (by decide)) rfl)), show S12 1079 33 = S0 1079 33 from (zz_ro qS12 (fun h => absurd h.1 (by decide)) rfl), show S12 1079 32 = S0 1079 32 from (zz_ro qS12 (fun h => absurd h.1 (by decide)) rfl)] at o24
      have F_S17 := zz_fr.trans F_S12 fS17 rfl zz_nv
      refine zz_iconst zd_14_51_38 ?_
      have g25 := zz_G.r G_S17 1079 32 0 1500 rfl rfl
      have g26 := zz_G.r G_S17 1079 30 0 102 rfl rfl
      have g27 := zz_G.r G_S17 1079 31 0 9999 rfl rfl
      exact zz_zret zd_14_51_39 rfl (by omega) (Nat.zero_le _) (Nat.zero_le _) ⟨_, _, rfl, G_S17, F_S17, by omega, by omega, by omega, by omega, by omega⟩
    · refine zz_iconst zd_14_51_22 ?_
      have g28 := zz_G.r G_S0 1079 32 0 1500 rfl rfl
      exact zz_zret zd_14_51_23 rfl (by omega) (Nat.zero_le _) (Nat.zero_le _) ⟨_, _, rfl, G_S0, F_S0, by omega, by omega, by omega, by omega, by omega⟩
theorem zg_14_52_26 : zq_at zy_part_14_52.2.1 26 61 ∧ zq_at zy_part_14_52.2.1 27 167 ∧ zq_at zy_part_14_52.2.1 28 0 ∧ zq_at zy_part_14_52.2.1 29 207 := by decide +kernel
theorem zd_14_52_26 : zz_D zy_part_14_52 26 (.istore_n 2) 1 27 := ⟨zq_61 zg_14_52_26.1, rfl⟩
theorem zd_14_52_27 : zz_B zy_part_14_52 27 Instr.goto 234 30 := ⟨207, zq_167 zg_14_52_26.2.1 zg_14_52_26.2.2.1 zg_14_52_26.2.2.2 (by decide), rfl, rfl⟩
-- TensorForgeModel part ()I
abbrev zr_part_14_52 : Room := { frames := 3, cells := 0, slots := 0, locals := 48 }
def zp_part_14_52  (S0 : zz_S) : Int → zz_S → Prop := fun r S => zz_G S ∧ zz_fr [(1079, 30), (1079, 31), (1079, 32), (1087, 1), (1087, 2), (1087, 3), (1087, 4), (1087, 5), (1087, 6), (1087, 7), (1087, 8), (1087, 9), (1087, 10), (1087, 11)] [] (fun _ _ => False) S0 S ∧ ((-2147483648) ≤ r ∧ r ≤ 2147483647) ∧ (S 1079 32 ≥ S0 1079 32) ∧ (r ≠ 0 → S 1079 32 > S0 1079 32) ∧ (r = zt_bit (zt_pw (zt_tm (S0 1099) (S0 1079 33)) (zt_tn (S0 1099) (S0 1079 33)) (zt_tv (S0 1099) (S0 1079 33)) (S0 1079 30) (S0 1079 32))) ∧ (r ≠ 0 → S 1079 30 = zt_tm (S0 1099) (S0 1079 33) (zt_pe (zt_tn (S0 1099) (S0 1079 33)) (S0 1079 30) (S0 1079 32)) ∧ S 1079 32 = zt_tn (S0 1099) (S0 1079 33) (zt_pe (zt_tn (S0 1099) (S0 1079 33)) (S0 1079 30) (S0 1079 32)))
theorem zc_part_14_52 {g : mm_G} {l : Launch}  (S0 : zz_S) (n : Nat) (hn : zz_end ≤ n) (G_S0 : zz_G S0) (hN : ∀ w : Nat, 1 ≤ w → w ≤ 20 → S0 1100 w = zt_cd (zt_nw.getD w [])) : mm_Met g l zy_part_14_52 zr_part_14_52 [.ref 1079] (zz_M S0 n) n (zz_QI n (zp_part_14_52  S0)) := by
  refine zz_enter (by decide) (Nat.le_of_ble_eq_true rfl) (zz_less (ls1 := [some (.ref 1079)]) ⟨rfl, trivial⟩ ?_)
  have F_S0 : zz_fr [(1079, 30), (1079, 31), (1079, 32), (1087, 1), (1087, 2), (1087, 3), (1087, 4), (1087, 5), (1087, 6), (1087, 7), (1087, 8), (1087, 9), (1087, 10), (1087, 11)] [] (fun _ _ => False) S0 S0 := zz_fr.refl
  refine zz_aload_n (x := 1079) rfl zd_14_52_0 ?_
  have g1 := zz_G.r G_S0 1079 30 0 102 rfl rfl
  refine zz_geti (z := S0 1079 30) zd_14_52_1 zf_Md_347 zT_1079 rfl (zz_ltn hn rfl) rfl ?_
  refine zz_istore_n [some (.ref 1079), some (zi (S0 1079 30))] zd_14_52_4 (by decide) rfl ?_
  refine zz_aload_n (x := 1079) rfl zd_14_52_5 ?_
  have g2 := zz_G.r G_S0 1079 32 0 1500 rfl rfl
  have g3 := zz_G.r G_S0 1079 33 0 1500 rfl rfl
  refine zz_callVV [] zd_14_52_6 zk_Md_359 zT_1079 (zz_ltn hn rfl) rfl rfl ⟨Nat.le_of_ble_eq_true rfl, Nat.le_of_ble_eq_true rfl⟩ ⟨rfl, rfl⟩ (Nat.zero_le _) (Nat.zero_le _) (zc_advance_14_49  S0 n hn G_S0 hN) (fun S4 hP => ?_)
  obtain ⟨G_S4, fS4, o6, o7, o8, o9, o10, o11⟩ := hP
  have F_S4 := zz_fr.trans F_S0 fS4 rfl zz_nv
  refine zz_iconst zd_14_52_9 ?_
  refine zz_istore_n [some (.ref 1079), some (zi (S0 1079 30)), some (zi 0)] zd_14_52_10 (by decide) rfl ?_
  refine zz_iconst zd_14_52_11 ?_
  refine zz_istore_n [some (.ref 1079), some (zi (S0 1079 30)), some (zi 0), some (zi 0)] zd_14_52_12 (by decide) rfl ?_
  refine zz_iload_n (x := S0 1079 30) rfl zd_14_52_13 ?_
  refine zz_bipush (by decide) zd_14_52_14 ?_
  refine zz_icmp_ne (by omega) (by omega) zd_14_52_16 (fun c12 => ?_) (fun c12 => ?_)
  · refine zz_iload_n (x := S0 1079 30) rfl zd_14_52_30 ?_
    refine zz_bipush (by decide) zd_14_52_31 ?_
    refine zz_icmp_ne (by omega) (by omega) zd_14_52_33 (fun c13 => ?_) (fun c13 => ?_)
    · refine zz_iload_n (x := S0 1079 30) rfl zd_14_52_80 ?_
      refine zz_i2l (by omega) zd_14_52_81 ?_
      refine zz_ldc2 (z := 13) zq_Md_365 (by decide) zd_14_52_82 ?_
      refine zz_ldc2 (z := 16) zq_Md_367 (by decide) zd_14_52_85 ?_
      refine zz_callSI [zl (S0 1079 30), zl 13, zl 16] zd_14_52_88 zk_Md_192 rfl rfl ⟨Nat.le_of_ble_eq_true rfl, Nat.le_of_ble_eq_true rfl⟩ ⟨rfl, rfl⟩ (Nat.zero_le _) (Nat.zero_le _) (zc_in_14_4 (S0 1079 30) 13 16 S4 n hn G_S4 (by omega) (by omega) (by omega)) (fun v15 S14 hP => ?_)
      obtain ⟨rfl, o16, o17⟩ := hP
      rcases (by omega : v15 = 0 ∨ v15 = 1) with rfl | rfl
      · have n18 : S0 1079 30 < 13 ∨ 16 < S0 1079 30 := by omega
        clear o17
        refine zz_if_eq (by omega) zd_14_52_91 (fun c19 => ?_) (fun c19 => ?_)
        · refine zz_iload_n (x := S0 1079 30) rfl zd_14_52_146 ?_
          refine zz_bipush (by decide) zd_14_52_147 ?_
          refine zz_icmp_eq (by omega) (by omega) zd_14_52_149 (fun c20 => ?_) (fun c20 => ?_)
          · skip
            refine zz_iload_n (x := S0 1079 30) rfl zd_14_52_158 ?_
            refine zz_bipush (by decide) zd_14_52_159 ?_
            refine zz_icmp_ne (by omega) (by omega) zd_14_52_161 (fun c21 => ?_) (fun c21 => ?_)
            · exfalso; omega
            · refine zz_iconst zd_14_52_164 ?_
              refine zz_goto zd_14_52_165 ?_
              refine zz_aload_n (x := 1079) rfl zd_14_52_169 ?_
              have g22 := zz_G.r G_S4 1079 30 0 102 rfl rfl
              refine zz_geti (z := S4 1079 30) zd_14_52_170 zf_Md_347 zT_1079 rfl (zz_ltn hn rfl) rfl ?_
              refine zz_bipush (by decide) zd_14_52_173 ?_
              refine zz_icmp_ne (by omega) (by omega) zd_14_52_175 (fun c23 => ?_) (fun c23 => ?_)
              · refine zz_iconst zd_14_52_182 ?_
                refine zz_iadd zd_14_52_183 ?_
                refine zz_eqv (v := 1) (by decide) ?_
                refine zz_istore [some (.ref 1079), some (zi (S0 1079 30)), some (zi 0), some (zi 0), some (zi 1)] zd_14_52_184 (by decide) rfl ?_
                refine zz_iconst zd_14_52_186 ?_
                refine zz_bipush (by decide) zd_14_52_187 ?_
                refine zz_iload (x := 1) rfl zd_14_52_189 ?_
                refine zz_iadd zd_14_52_191 ?_
                refine zz_eqv (v := 13) (by decide) ?_
                refine zz_ishl zd_14_52_192 (fun v24 hv24 ev24 => ?_)
                obtain rfl : v24 = 8192 := ev24.trans (by decide)
                refine zz_istore_n [some (.ref 1079), some (zi (S0 1079 30)), some (zi 0), some (zi 8192), some (zi 1)] zd_14_52_193 (by decide) rfl ?_
                refine zz_aload_n (x := 1079) rfl zd_14_52_194 ?_
                refine zz_geti (z := S4 1079 30) zd_14_52_195 zf_Md_347 zT_1079 rfl (zz_ltn hn rfl) rfl ?_
                refine zz_bipush (by decide) zd_14_52_198 ?_
                refine zz_icmp_eq (by omega) (by omega) zd_14_52_200 (fun c25 => ?_) (fun c25 => ?_)
                · refine zz_iconst zd_14_52_212 ?_
                  refine zz_goto zd_14_52_213 ?_
                  refine zz_istore_n [some (.ref 1079), some (zi (S0 1079 30)), some (zi 1), some (zi 8192), some (zi 1)] zd_14_52_217 (by decide) rfl ?_
                  refine zz_iload_n (x := 1) rfl zd_14_52_218 ?_
                  refine zz_if_eq (by omega) zd_14_52_219 (fun c26 => ?_) (fun c26 => ?_)
                  · exfalso; omega
                  · refine zz_aload_n (x := 1079) rfl zd_14_52_222 ?_
                    refine zz_getr (kd := 0) (z := 1087) zd_14_52_223 zf_Md_36 zT_1079 rfl (zz_ltn hn rfl) (zz_G.eq G_S4 1079 11 1087 rfl rfl) (by decide) 1087 rfl ?_
                    refine zz_iload (x := 1) rfl zd_14_52_226 ?_
                    refine zz_iconst zd_14_52_228 ?_
                    refine zz_iast zd_14_52_229 zT_1087 rfl (zz_ltn hn rfl) (by decide) (by decide) (fun S27 qS27 => ?_)
                    have G_S27 := zz_G.put G_S4 qS27 (-2147483648) 2147483647 rfl (by omega)
                    have F_S27 := zz_fr.puts F_S4 qS27 rfl
                    refine zz_aload_n (x := 1079) rfl zd_14_52_230 ?_
                    have g28 := zz_G.r G_S4 1079 32 0 1500 rfl rfl
                    have e29 : S27 1079 32 = S4 1079 32 := (zz_ro qS27 (fun h => absurd h.1 (by decide)) rfl)
                    have e30 : S27 1079 33 = S0 1079 33 := (zz_ro qS27 (fun h => absurd h.1 (by decide)) (zz_rc fS4 rfl rfl (fun h => h) rfl))
                    refine zz_callVV [] zd_14_52_231 zk_Md_359 zT_1079 (zz_ltn hn rfl) rfl rfl ⟨Nat.le_of_ble_eq_true rfl, Nat.le_of_ble_eq_true rfl⟩ ⟨rfl, rfl⟩ (Nat.zero_le _) (Nat.zero_le _) (zc_advance_14_49  S27 n hn G_S27 (fun u h1 h2 => ((zz_ro qS27 (fun h => absurd h.1 (by decide)) (zz_rc fS4 (zz_nc1 rfl) rfl (fun h => h) rfl))).trans (hN u h1 h2))) (fun S31 hP => ?_)
                    obtain ⟨G_S31, fS31, o33, o34, o35, o36, o37, o38⟩ := hP
                    rw [show S27 1079 32 = S4 1079 32 from (zz_ro qS27 (fun h => absurd h.1 (by decide)) rfl)] at o33
                    rw [show S27 1079 32 = S4 1079 32 from (zz_ro qS27 (fun h => absurd h.1 (by decide)) rfl)] at o34
                    rw [show S27 1099 = S0 1099 from funext (fun u => (zz_ro qS27 (fun h => absurd h.1 (by decide)) (zz_rc fS4 (zz_nc1 rfl) rfl (fun h => h) rfl))), show S27 1079 33 = S0 1079 33 from (zz_ro qS27 (fun h => absurd h.1 (by decide)) (zz_rc fS4 rfl rfl (fun h => h) rfl)), show S27 1079 32 = S4 1079 32 from (zz_ro qS27 (fun h => absurd h.1 (by decide)) rfl)] at o36
                    rw [show S27 1099 = S0 1099 from funext (fun u => (zz_ro qS27 (fun h => absurd h.1 (by decide)) (zz_rc fS4 (zz_nc1 rfl) rfl (fun h => h) rfl))), show S27 1079 33 = S0 1079 33 from (zz_ro qS27 (fun h => absurd h.1 (by decide)) (zz_rc fS4 rfl rfl (fun h => h) rfl)), show S27 1079 32 = S4 1079 32 from (zz_ro qS27 (fun h => absurd h.1 (by decide)) rfl)] at o37
                    rw [show S27 1099 = S0 1099 from funext (fun u => (zz_ro qS27 (fun h => absurd h.1 (by decide)) (zz_rc fS4 (zz_nc1 rfl) rfl (fun h => h) rfl))), show S27 1079 33 = S0 1079 33 from (zz_ro qS27 (fun h => absurd h.1 (by decide)) (zz_rc fS4 rfl rfl (fun h => h) rfl)), show S27 1079 32 = S4 1079 32 from (zz_ro qS27 (fun h => absurd h.1 (by decide)) rfl)] at o38
                    have F_S31 := zz_fr.trans F_S27 fS31 rfl zz_nv
                    refine zz_iload_n (x := 1) rfl zd_14_52_234 ?_
                    refine zz_if_eq (by omega) zd_14_52_235 (fun c39 => ?_) (fun c39 => ?_)
                    · exfalso; omega
                    · refine zz_iload_n (x := 8192) rfl zd_14_52_238 ?_
                      refine zz_goto zd_14_52_239 ?_
                      have g40 := zz_G.r G_S31 1079 32 0 1500 rfl rfl
                      have g41 := zz_G.r G_S31 1079 30 0 102 rfl rfl
                      exact zz_iret zd_14_52_243 rfl (Nat.zero_le _) (Nat.zero_le _) ⟨_, _, rfl, G_S31, F_S31, by omega, by omega, by omega, (by have h9 := zt_pwF (tk := (zt_tm (S0 1099) (S0 1079 33))) (te := (zt_tn (S0 1099) (S0 1079 33))) (tv := (zt_tv (S0 1099) (S0 1079 33))) (c := S0 1079 30) (p := S0 1079 32) (K := S4 1079 30) (by omega) (by omega); rw [h9.1]; (repeat' split) <;> first | rfl | (exfalso; omega)), fun _ => (by have h9 := zt_pwF (tk := (zt_tm (S0 1099) (S0 1079 33))) (te := (zt_tn (S0 1099) (S0 1079 33))) (tv := (zt_tv (S0 1099) (S0 1079 33))) (c := S0 1079 30) (p := S0 1079 32) (K := S4 1079 30) (by omega) (by omega); rw [h9.2, show zt_tn (S0 1099) (S0 1079 33) (S0 1079 32) = S4 1079 32 by omega]; omega)⟩
                · refine zz_aload_n (x := 1079) rfl zd_14_52_203 ?_
                  refine zz_geti (z := S4 1079 30) zd_14_52_204 zf_Md_347 zT_1079 rfl (zz_ltn hn rfl) rfl ?_
                  refine zz_bipush (by decide) zd_14_52_207 ?_
                  refine zz_icmp_ne (by omega) (by omega) zd_14_52_209 (fun c42 => ?_) (fun c42 => ?_)
                  · refine zz_iconst zd_14_52_216 ?_
                    refine zz_istore_n [some (.ref 1079), some (zi (S0 1079 30)), some (zi 0), some (zi 8192), some (zi 1)] zd_14_52_217 (by decide) rfl ?_
                    refine zz_iload_n (x := 0) rfl zd_14_52_218 ?_
                    refine zz_if_eq (by omega) zd_14_52_219 (fun c43 => ?_) (fun c43 => ?_)
                    · refine zz_iload_n (x := 0) rfl zd_14_52_234 ?_
                      refine zz_if_eq (by omega) zd_14_52_235 (fun c44 => ?_) (fun c44 => ?_)
                      · refine zz_iconst zd_14_52_242 ?_
                        have g45 := zz_G.r G_S4 1079 32 0 1500 rfl rfl
                        exact zz_iret zd_14_52_243 rfl (Nat.zero_le _) (Nat.zero_le _) ⟨_, _, rfl, G_S4, F_S4, by omega, by omega, by omega, (by have h9 := zt_pwF (tk := (zt_tm (S0 1099) (S0 1079 33))) (te := (zt_tn (S0 1099) (S0 1079 33))) (tv := (zt_tv (S0 1099) (S0 1079 33))) (c := S0 1079 30) (p := S0 1079 32) (K := S4 1079 30) (by omega) (by omega); rw [h9.1]; (repeat' split) <;> first | rfl | (exfalso; omega)), fun h => absurd rfl h⟩
                      · exfalso; omega
                    · exfalso; omega
                  · refine zz_iconst zd_14_52_212 ?_
                    refine zz_goto zd_14_52_213 ?_
                    refine zz_istore_n [some (.ref 1079), some (zi (S0 1079 30)), some (zi 1), some (zi 8192), some (zi 1)] zd_14_52_217 (by decide) rfl ?_
                    refine zz_iload_n (x := 1) rfl zd_14_52_218 ?_
                    refine zz_if_eq (by omega) zd_14_52_219 (fun c46 => ?_) (fun c46 => ?_)
                    · exfalso; omega
                    · refine zz_aload_n (x := 1079) rfl zd_14_52_222 ?_
                      refine zz_getr (kd := 0) (z := 1087) zd_14_52_223 zf_Md_36 zT_1079 rfl (zz_ltn hn rfl) (zz_G.eq G_S4 1079 11 1087 rfl rfl) (by decide) 1087 rfl ?_
                      refine zz_iload (x := 1) rfl zd_14_52_226 ?_
                      refine zz_iconst zd_14_52_228 ?_
                      refine zz_iast zd_14_52_229 zT_1087 rfl (zz_ltn hn rfl) (by decide) (by decide) (fun S47 qS47 => ?_)
                      have G_S47 := zz_G.put G_S4 qS47 (-2147483648) 2147483647 rfl (by omega)
                      have F_S47 := zz_fr.puts F_S4 qS47 rfl
                      refine zz_aload_n (x := 1079) rfl zd_14_52_230 ?_
                      have g48 := zz_G.r G_S4 1079 32 0 1500 rfl rfl
                      have e49 : S47 1079 32 = S4 1079 32 := (zz_ro qS47 (fun h => absurd h.1 (by decide)) rfl)
                      have e50 : S47 1079 33 = S0 1079 33 := (zz_ro qS47 (fun h => absurd h.1 (by decide)) (zz_rc fS4 rfl rfl (fun h => h) rfl))
                      refine zz_callVV [] zd_14_52_231 zk_Md_359 zT_1079 (zz_ltn hn rfl) rfl rfl ⟨Nat.le_of_ble_eq_true rfl, Nat.le_of_ble_eq_true rfl⟩ ⟨rfl, rfl⟩ (Nat.zero_le _) (Nat.zero_le _) (zc_advance_14_49  S47 n hn G_S47 (fun u h1 h2 => ((zz_ro qS47 (fun h => absurd h.1 (by decide)) (zz_rc fS4 (zz_nc1 rfl) rfl (fun h => h) rfl))).trans (hN u h1 h2))) (fun S51 hP => ?_)
                      obtain ⟨G_S51, fS51, o53, o54, o55, o56, o57, o58⟩ := hP
                      rw [show S47 1079 32 = S4 1079 32 from (zz_ro qS47 (fun h => absurd h.1 (by decide)) rfl)] at o53
                      rw [show S47 1079 32 = S4 1079 32 from (zz_ro qS47 (fun h => absurd h.1 (by decide)) rfl)] at o54
                      rw [show S47 1099 = S0 1099 from funext (fun u => (zz_ro qS47 (fun h => absurd h.1 (by decide)) (zz_rc fS4 (zz_nc1 rfl) rfl (fun h => h) rfl))), show S47 1079 33 = S0 1079 33 from (zz_ro qS47 (fun h => absurd h.1 (by decide)) (zz_rc fS4 rfl rfl (fun h => h) rfl)), show S47 1079 32 = S4 1079 32 from (zz_ro qS47 (fun h => absurd h.1 (by decide)) rfl)] at o56
                      rw [show S47 1099 = S0 1099 from funext (fun u => (zz_ro qS47 (fun h => absurd h.1 (by decide)) (zz_rc fS4 (zz_nc1 rfl) rfl (fun h => h) rfl))), show S47 1079 33 = S0 1079 33 from (zz_ro qS47 (fun h => absurd h.1 (by decide)) (zz_rc fS4 rfl rfl (fun h => h) rfl)), show S47 1079 32 = S4 1079 32 from (zz_ro qS47 (fun h => absurd h.1 (by decide)) rfl)] at o57
                      rw [show S47 1099 = S0 1099 from funext (fun u => (zz_ro qS47 (fun h => absurd h.1 (by decide)) (zz_rc fS4 (zz_nc1 rfl) rfl (fun h => h) rfl))), show S47 1079 33 = S0 1079 33 from (zz_ro qS47 (fun h => absurd h.1 (by decide)) (zz_rc fS4 rfl rfl (fun h => h) rfl)), show S47 1079 32 = S4 1079 32 from (zz_ro qS47 (fun h => absurd h.1 (by decide)) rfl)] at o58
                      have F_S51 := zz_fr.trans F_S47 fS51 rfl zz_nv
                      refine zz_iload_n (x := 1) rfl zd_14_52_234 ?_
                      refine zz_if_eq (by omega) zd_14_52_235 (fun c59 => ?_) (fun c59 => ?_)
                      · exfalso; omega
                      · refine zz_iload_n (x := 8192) rfl zd_14_52_238 ?_
                        refine zz_goto zd_14_52_239 ?_
                        have g60 := zz_G.r G_S51 1079 32 0 1500 rfl rfl
                        have g61 := zz_G.r G_S51 1079 30 0 102 rfl rfl
                        exact zz_iret zd_14_52_243 rfl (Nat.zero_le _) (Nat.zero_le _) ⟨_, _, rfl, G_S51, F_S51, by omega, by omega, by omega, (by have h9 := zt_pwF (tk := (zt_tm (S0 1099) (S0 1079 33))) (te := (zt_tn (S0 1099) (S0 1079 33))) (tv := (zt_tv (S0 1099) (S0 1079 33))) (c := S0 1079 30) (p := S0 1079 32) (K := S4 1079 30) (by omega) (by omega); rw [h9.1]; (repeat' split) <;> first | rfl | (exfalso; omega)), fun _ => (by have h9 := zt_pwF (tk := (zt_tm (S0 1099) (S0 1079 33))) (te := (zt_tn (S0 1099) (S0 1079 33))) (tv := (zt_tv (S0 1099) (S0 1079 33))) (c := S0 1079 30) (p := S0 1079 32) (K := S4 1079 30) (by omega) (by omega); rw [h9.2, show zt_tn (S0 1099) (S0 1079 33) (S0 1079 32) = S4 1079 32 by omega]; omega)⟩
              · refine zz_iconst zd_14_52_178 ?_
                refine zz_goto zd_14_52_179 ?_
                refine zz_iadd zd_14_52_183 ?_
                refine zz_eqv (v := 2) (by decide) ?_
                refine zz_istore [some (.ref 1079), some (zi (S0 1079 30)), some (zi 0), some (zi 0), some (zi 2)] zd_14_52_184 (by decide) rfl ?_
                refine zz_iconst zd_14_52_186 ?_
                refine zz_bipush (by decide) zd_14_52_187 ?_
                refine zz_iload (x := 2) rfl zd_14_52_189 ?_
                refine zz_iadd zd_14_52_191 ?_
                refine zz_eqv (v := 14) (by decide) ?_
                refine zz_ishl zd_14_52_192 (fun v62 hv62 ev62 => ?_)
                obtain rfl : v62 = 16384 := ev62.trans (by decide)
                refine zz_istore_n [some (.ref 1079), some (zi (S0 1079 30)), some (zi 0), some (zi 16384), some (zi 2)] zd_14_52_193 (by decide) rfl ?_
                refine zz_aload_n (x := 1079) rfl zd_14_52_194 ?_
                refine zz_geti (z := S4 1079 30) zd_14_52_195 zf_Md_347 zT_1079 rfl (zz_ltn hn rfl) rfl ?_
                refine zz_eqv (v := 20) (by omega) ?_
                refine zz_bipush (by decide) zd_14_52_198 ?_
                refine zz_icmp_eq (by omega) (by omega) zd_14_52_200 (fun c63 => ?_) (fun c63 => ?_)
                · exfalso; omega
                · refine zz_aload_n (x := 1079) rfl zd_14_52_203 ?_
                  refine zz_geti (z := S4 1079 30) zd_14_52_204 zf_Md_347 zT_1079 rfl (zz_ltn hn rfl) rfl ?_
                  refine zz_eqv (v := 20) (by omega) ?_
                  refine zz_bipush (by decide) zd_14_52_207 ?_
                  refine zz_icmp_ne (by omega) (by omega) zd_14_52_209 (fun c64 => ?_) (fun c64 => ?_)
                  · exfalso; omega
                  · refine zz_iconst zd_14_52_212 ?_
                    refine zz_goto zd_14_52_213 ?_
                    refine zz_istore_n [some (.ref 1079), some (zi (S0 1079 30)), some (zi 1), some (zi 16384), some (zi 2)] zd_14_52_217 (by decide) rfl ?_
                    refine zz_iload_n (x := 1) rfl zd_14_52_218 ?_
                    refine zz_if_eq (by omega) zd_14_52_219 (fun c65 => ?_) (fun c65 => ?_)
                    · exfalso; omega
                    · refine zz_aload_n (x := 1079) rfl zd_14_52_222 ?_
                      refine zz_getr (kd := 0) (z := 1087) zd_14_52_223 zf_Md_36 zT_1079 rfl (zz_ltn hn rfl) (zz_G.eq G_S4 1079 11 1087 rfl rfl) (by decide) 1087 rfl ?_
                      refine zz_iload (x := 2) rfl zd_14_52_226 ?_
                      refine zz_iconst zd_14_52_228 ?_
                      refine zz_iast zd_14_52_229 zT_1087 rfl (zz_ltn hn rfl) (by decide) (by decide) (fun S66 qS66 => ?_)
                      have G_S66 := zz_G.put G_S4 qS66 (-2147483648) 2147483647 rfl (by omega)
                      have F_S66 := zz_fr.puts F_S4 qS66 rfl
                      refine zz_aload_n (x := 1079) rfl zd_14_52_230 ?_
                      have g67 := zz_G.r G_S4 1079 32 0 1500 rfl rfl
                      have e68 : S66 1079 32 = S4 1079 32 := (zz_ro qS66 (fun h => absurd h.1 (by decide)) rfl)
                      have e69 : S66 1079 33 = S0 1079 33 := (zz_ro qS66 (fun h => absurd h.1 (by decide)) (zz_rc fS4 rfl rfl (fun h => h) rfl))
                      refine zz_callVV [] zd_14_52_231 zk_Md_359 zT_1079 (zz_ltn hn rfl) rfl rfl ⟨Nat.le_of_ble_eq_true rfl, Nat.le_of_ble_eq_true rfl⟩ ⟨rfl, rfl⟩ (Nat.zero_le _) (Nat.zero_le _) (zc_advance_14_49  S66 n hn G_S66 (fun u h1 h2 => ((zz_ro qS66 (fun h => absurd h.1 (by decide)) (zz_rc fS4 (zz_nc1 rfl) rfl (fun h => h) rfl))).trans (hN u h1 h2))) (fun S70 hP => ?_)
                      obtain ⟨G_S70, fS70, o72, o73, o74, o75, o76, o77⟩ := hP
                      rw [show S66 1079 32 = S4 1079 32 from (zz_ro qS66 (fun h => absurd h.1 (by decide)) rfl)] at o72
                      rw [show S66 1079 32 = S4 1079 32 from (zz_ro qS66 (fun h => absurd h.1 (by decide)) rfl)] at o73
                      rw [show S66 1099 = S0 1099 from funext (fun u => (zz_ro qS66 (fun h => absurd h.1 (by decide)) (zz_rc fS4 (zz_nc1 rfl) rfl (fun h => h) rfl))), show S66 1079 33 = S0 1079 33 from (zz_ro qS66 (fun h => absurd h.1 (by decide)) (zz_rc fS4 rfl rfl (fun h => h) rfl)), show S66 1079 32 = S4 1079 32 from (zz_ro qS66 (fun h => absurd h.1 (by decide)) rfl)] at o75
                      rw [show S66 1099 = S0 1099 from funext (fun u => (zz_ro qS66 (fun h => absurd h.1 (by decide)) (zz_rc fS4 (zz_nc1 rfl) rfl (fun h => h) rfl))), show S66 1079 33 = S0 1079 33 from (zz_ro qS66 (fun h => absurd h.1 (by decide)) (zz_rc fS4 rfl rfl (fun h => h) rfl)), show S66 1079 32 = S4 1079 32 from (zz_ro qS66 (fun h => absurd h.1 (by decide)) rfl)] at o76
                      rw [show S66 1099 = S0 1099 from funext (fun u => (zz_ro qS66 (fun h => absurd h.1 (by decide)) (zz_rc fS4 (zz_nc1 rfl) rfl (fun h => h) rfl))), show S66 1079 33 = S0 1079 33 from (zz_ro qS66 (fun h => absurd h.1 (by decide)) (zz_rc fS4 rfl rfl (fun h => h) rfl)), show S66 1079 32 = S4 1079 32 from (zz_ro qS66 (fun h => absurd h.1 (by decide)) rfl)] at o77
                      have F_S70 := zz_fr.trans F_S66 fS70 rfl zz_nv
                      refine zz_iload_n (x := 1) rfl zd_14_52_234 ?_
                      refine zz_if_eq (by omega) zd_14_52_235 (fun c78 => ?_) (fun c78 => ?_)
                      · exfalso; omega
                      · refine zz_iload_n (x := 16384) rfl zd_14_52_238 ?_
                        refine zz_goto zd_14_52_239 ?_
                        have g79 := zz_G.r G_S70 1079 32 0 1500 rfl rfl
                        have g80 := zz_G.r G_S70 1079 30 0 102 rfl rfl
                        exact zz_iret zd_14_52_243 rfl (Nat.zero_le _) (Nat.zero_le _) ⟨_, _, rfl, G_S70, F_S70, by omega, by omega, by omega, (by have h9 := zt_pwF (tk := (zt_tm (S0 1099) (S0 1079 33))) (te := (zt_tn (S0 1099) (S0 1079 33))) (tv := (zt_tv (S0 1099) (S0 1079 33))) (c := S0 1079 30) (p := S0 1079 32) (K := S4 1079 30) (by omega) (by omega); rw [h9.1]; (repeat' split) <;> first | rfl | (exfalso; omega)), fun _ => (by have h9 := zt_pwF (tk := (zt_tm (S0 1099) (S0 1079 33))) (te := (zt_tn (S0 1099) (S0 1079 33))) (tv := (zt_tv (S0 1099) (S0 1079 33))) (c := S0 1079 30) (p := S0 1079 32) (K := S4 1079 30) (by omega) (by omega); rw [h9.2, show zt_tn (S0 1099) (S0 1079 33) (S0 1079 32) = S4 1079 32 by omega]; omega)⟩
          · refine zz_iload_n (x := S0 1079 30) rfl zd_14_52_152 ?_
            refine zz_bipush (by decide) zd_14_52_153 ?_
            refine zz_icmp_ne (by omega) (by omega) zd_14_52_155 (fun c81 => ?_) (fun c81 => ?_)
            · refine zz_iload_n (x := 0) rfl zd_14_52_234 ?_
              refine zz_if_eq (by omega) zd_14_52_235 (fun c82 => ?_) (fun c82 => ?_)
              · refine zz_iconst zd_14_52_242 ?_
                have g83 := zz_G.r G_S4 1079 32 0 1500 rfl rfl
                have g84 := zz_G.r G_S4 1079 30 0 102 rfl rfl
                exact zz_iret zd_14_52_243 rfl (Nat.zero_le _) (Nat.zero_le _) ⟨_, _, rfl, G_S4, F_S4, by omega, by omega, by omega, (by rw [zt_pwN (by omega)]; rfl), fun h => absurd rfl h⟩
              · exfalso; omega
            · skip
              refine zz_iload_n (x := S0 1079 30) rfl zd_14_52_158 ?_
              refine zz_bipush (by decide) zd_14_52_159 ?_
              refine zz_icmp_ne (by omega) (by omega) zd_14_52_161 (fun c85 => ?_) (fun c85 => ?_)
              · refine zz_iconst zd_14_52_168 ?_
                refine zz_aload_n (x := 1079) rfl zd_14_52_169 ?_
                have g86 := zz_G.r G_S4 1079 30 0 102 rfl rfl
                refine zz_geti (z := S4 1079 30) zd_14_52_170 zf_Md_347 zT_1079 rfl (zz_ltn hn rfl) rfl ?_
                refine zz_bipush (by decide) zd_14_52_173 ?_
                refine zz_icmp_ne (by omega) (by omega) zd_14_52_175 (fun c87 => ?_) (fun c87 => ?_)
                · refine zz_iconst zd_14_52_182 ?_
                  refine zz_iadd zd_14_52_183 ?_
                  refine zz_eqv (v := 3) (by decide) ?_
                  refine zz_istore [some (.ref 1079), some (zi (S0 1079 30)), some (zi 0), some (zi 0), some (zi 3)] zd_14_52_184 (by decide) rfl ?_
                  refine zz_iconst zd_14_52_186 ?_
                  refine zz_bipush (by decide) zd_14_52_187 ?_
                  refine zz_iload (x := 3) rfl zd_14_52_189 ?_
                  refine zz_iadd zd_14_52_191 ?_
                  refine zz_eqv (v := 15) (by decide) ?_
                  refine zz_ishl zd_14_52_192 (fun v88 hv88 ev88 => ?_)
                  obtain rfl : v88 = 32768 := ev88.trans (by decide)
                  refine zz_istore_n [some (.ref 1079), some (zi (S0 1079 30)), some (zi 0), some (zi 32768), some (zi 3)] zd_14_52_193 (by decide) rfl ?_
                  refine zz_aload_n (x := 1079) rfl zd_14_52_194 ?_
                  refine zz_geti (z := S4 1079 30) zd_14_52_195 zf_Md_347 zT_1079 rfl (zz_ltn hn rfl) rfl ?_
                  refine zz_bipush (by decide) zd_14_52_198 ?_
                  refine zz_icmp_eq (by omega) (by omega) zd_14_52_200 (fun c89 => ?_) (fun c89 => ?_)
                  · refine zz_iconst zd_14_52_212 ?_
                    refine zz_goto zd_14_52_213 ?_
                    refine zz_istore_n [some (.ref 1079), some (zi (S0 1079 30)), some (zi 1), some (zi 32768), some (zi 3)] zd_14_52_217 (by decide) rfl ?_
                    refine zz_iload_n (x := 1) rfl zd_14_52_218 ?_
                    refine zz_if_eq (by omega) zd_14_52_219 (fun c90 => ?_) (fun c90 => ?_)
                    · exfalso; omega
                    · refine zz_aload_n (x := 1079) rfl zd_14_52_222 ?_
                      refine zz_getr (kd := 0) (z := 1087) zd_14_52_223 zf_Md_36 zT_1079 rfl (zz_ltn hn rfl) (zz_G.eq G_S4 1079 11 1087 rfl rfl) (by decide) 1087 rfl ?_
                      refine zz_iload (x := 3) rfl zd_14_52_226 ?_
                      refine zz_iconst zd_14_52_228 ?_
                      refine zz_iast zd_14_52_229 zT_1087 rfl (zz_ltn hn rfl) (by decide) (by decide) (fun S91 qS91 => ?_)
                      have G_S91 := zz_G.put G_S4 qS91 (-2147483648) 2147483647 rfl (by omega)
                      have F_S91 := zz_fr.puts F_S4 qS91 rfl
                      refine zz_aload_n (x := 1079) rfl zd_14_52_230 ?_
                      have g92 := zz_G.r G_S4 1079 32 0 1500 rfl rfl
                      have e93 : S91 1079 32 = S4 1079 32 := (zz_ro qS91 (fun h => absurd h.1 (by decide)) rfl)
                      have e94 : S91 1079 33 = S0 1079 33 := (zz_ro qS91 (fun h => absurd h.1 (by decide)) (zz_rc fS4 rfl rfl (fun h => h) rfl))
                      refine zz_callVV [] zd_14_52_231 zk_Md_359 zT_1079 (zz_ltn hn rfl) rfl rfl ⟨Nat.le_of_ble_eq_true rfl, Nat.le_of_ble_eq_true rfl⟩ ⟨rfl, rfl⟩ (Nat.zero_le _) (Nat.zero_le _) (zc_advance_14_49  S91 n hn G_S91 (fun u h1 h2 => ((zz_ro qS91 (fun h => absurd h.1 (by decide)) (zz_rc fS4 (zz_nc1 rfl) rfl (fun h => h) rfl))).trans (hN u h1 h2))) (fun S95 hP => ?_)
                      obtain ⟨G_S95, fS95, o97, o98, o99, o100, o101, o102⟩ := hP
                      rw [show S91 1079 32 = S4 1079 32 from (zz_ro qS91 (fun h => absurd h.1 (by decide)) rfl)] at o97
                      rw [show S91 1079 32 = S4 1079 32 from (zz_ro qS91 (fun h => absurd h.1 (by decide)) rfl)] at o98
                      rw [show S91 1099 = S0 1099 from funext (fun u => (zz_ro qS91 (fun h => absurd h.1 (by decide)) (zz_rc fS4 (zz_nc1 rfl) rfl (fun h => h) rfl))), show S91 1079 33 = S0 1079 33 from (zz_ro qS91 (fun h => absurd h.1 (by decide)) (zz_rc fS4 rfl rfl (fun h => h) rfl)), show S91 1079 32 = S4 1079 32 from (zz_ro qS91 (fun h => absurd h.1 (by decide)) rfl)] at o100
                      rw [show S91 1099 = S0 1099 from funext (fun u => (zz_ro qS91 (fun h => absurd h.1 (by decide)) (zz_rc fS4 (zz_nc1 rfl) rfl (fun h => h) rfl))), show S91 1079 33 = S0 1079 33 from (zz_ro qS91 (fun h => absurd h.1 (by decide)) (zz_rc fS4 rfl rfl (fun h => h) rfl)), show S91 1079 32 = S4 1079 32 from (zz_ro qS91 (fun h => absurd h.1 (by decide)) rfl)] at o101
                      rw [show S91 1099 = S0 1099 from funext (fun u => (zz_ro qS91 (fun h => absurd h.1 (by decide)) (zz_rc fS4 (zz_nc1 rfl) rfl (fun h => h) rfl))), show S91 1079 33 = S0 1079 33 from (zz_ro qS91 (fun h => absurd h.1 (by decide)) (zz_rc fS4 rfl rfl (fun h => h) rfl)), show S91 1079 32 = S4 1079 32 from (zz_ro qS91 (fun h => absurd h.1 (by decide)) rfl)] at o102
                      have F_S95 := zz_fr.trans F_S91 fS95 rfl zz_nv
                      refine zz_iload_n (x := 1) rfl zd_14_52_234 ?_
                      refine zz_if_eq (by omega) zd_14_52_235 (fun c103 => ?_) (fun c103 => ?_)
                      · exfalso; omega
                      · refine zz_iload_n (x := 32768) rfl zd_14_52_238 ?_
                        refine zz_goto zd_14_52_239 ?_
                        have g104 := zz_G.r G_S95 1079 32 0 1500 rfl rfl
                        have g105 := zz_G.r G_S95 1079 30 0 102 rfl rfl
                        exact zz_iret zd_14_52_243 rfl (Nat.zero_le _) (Nat.zero_le _) ⟨_, _, rfl, G_S95, F_S95, by omega, by omega, by omega, (by have h9 := zt_pwF (tk := (zt_tm (S0 1099) (S0 1079 33))) (te := (zt_tn (S0 1099) (S0 1079 33))) (tv := (zt_tv (S0 1099) (S0 1079 33))) (c := S0 1079 30) (p := S0 1079 32) (K := S4 1079 30) (by omega) (by omega); rw [h9.1]; (repeat' split) <;> first | rfl | (exfalso; omega)), fun _ => (by have h9 := zt_pwF (tk := (zt_tm (S0 1099) (S0 1079 33))) (te := (zt_tn (S0 1099) (S0 1079 33))) (tv := (zt_tv (S0 1099) (S0 1079 33))) (c := S0 1079 30) (p := S0 1079 32) (K := S4 1079 30) (by omega) (by omega); rw [h9.2, show zt_tn (S0 1099) (S0 1079 33) (S0 1079 32) = S4 1079 32 by omega]; omega)⟩
                  · refine zz_aload_n (x := 1079) rfl zd_14_52_203 ?_
                    refine zz_geti (z := S4 1079 30) zd_14_52_204 zf_Md_347 zT_1079 rfl (zz_ltn hn rfl) rfl ?_
                    refine zz_bipush (by decide) zd_14_52_207 ?_
                    refine zz_icmp_ne (by omega) (by omega) zd_14_52_209 (fun c106 => ?_) (fun c106 => ?_)
                    · refine zz_iconst zd_14_52_216 ?_
                      refine zz_istore_n [some (.ref 1079), some (zi (S0 1079 30)), some (zi 0), some (zi 32768), some (zi 3)] zd_14_52_217 (by decide) rfl ?_
                      refine zz_iload_n (x := 0) rfl zd_14_52_218 ?_
                      refine zz_if_eq (by omega) zd_14_52_219 (fun c107 => ?_) (fun c107 => ?_)
                      · refine zz_iload_n (x := 0) rfl zd_14_52_234 ?_
                        refine zz_if_eq (by omega) zd_14_52_235 (fun c108 => ?_) (fun c108 => ?_)
                        · refine zz_iconst zd_14_52_242 ?_
                          have g109 := zz_G.r G_S4 1079 32 0 1500 rfl rfl
                          exact zz_iret zd_14_52_243 rfl (Nat.zero_le _) (Nat.zero_le _) ⟨_, _, rfl, G_S4, F_S4, by omega, by omega, by omega, (by have h9 := zt_pwF (tk := (zt_tm (S0 1099) (S0 1079 33))) (te := (zt_tn (S0 1099) (S0 1079 33))) (tv := (zt_tv (S0 1099) (S0 1079 33))) (c := S0 1079 30) (p := S0 1079 32) (K := S4 1079 30) (by omega) (by omega); rw [h9.1]; (repeat' split) <;> first | rfl | (exfalso; omega)), fun h => absurd rfl h⟩
                        · exfalso; omega
                      · exfalso; omega
                    · refine zz_iconst zd_14_52_212 ?_
                      refine zz_goto zd_14_52_213 ?_
                      refine zz_istore_n [some (.ref 1079), some (zi (S0 1079 30)), some (zi 1), some (zi 32768), some (zi 3)] zd_14_52_217 (by decide) rfl ?_
                      refine zz_iload_n (x := 1) rfl zd_14_52_218 ?_
                      refine zz_if_eq (by omega) zd_14_52_219 (fun c110 => ?_) (fun c110 => ?_)
                      · exfalso; omega
                      · refine zz_aload_n (x := 1079) rfl zd_14_52_222 ?_
                        refine zz_getr (kd := 0) (z := 1087) zd_14_52_223 zf_Md_36 zT_1079 rfl (zz_ltn hn rfl) (zz_G.eq G_S4 1079 11 1087 rfl rfl) (by decide) 1087 rfl ?_
                        refine zz_iload (x := 3) rfl zd_14_52_226 ?_
                        refine zz_iconst zd_14_52_228 ?_
                        refine zz_iast zd_14_52_229 zT_1087 rfl (zz_ltn hn rfl) (by decide) (by decide) (fun S111 qS111 => ?_)
                        have G_S111 := zz_G.put G_S4 qS111 (-2147483648) 2147483647 rfl (by omega)
                        have F_S111 := zz_fr.puts F_S4 qS111 rfl
                        refine zz_aload_n (x := 1079) rfl zd_14_52_230 ?_
                        have g112 := zz_G.r G_S4 1079 32 0 1500 rfl rfl
                        have e113 : S111 1079 32 = S4 1079 32 := (zz_ro qS111 (fun h => absurd h.1 (by decide)) rfl)
                        have e114 : S111 1079 33 = S0 1079 33 := (zz_ro qS111 (fun h => absurd h.1 (by decide)) (zz_rc fS4 rfl rfl (fun h => h) rfl))
                        refine zz_callVV [] zd_14_52_231 zk_Md_359 zT_1079 (zz_ltn hn rfl) rfl rfl ⟨Nat.le_of_ble_eq_true rfl, Nat.le_of_ble_eq_true rfl⟩ ⟨rfl, rfl⟩ (Nat.zero_le _) (Nat.zero_le _) (zc_advance_14_49  S111 n hn G_S111 (fun u h1 h2 => ((zz_ro qS111 (fun h => absurd h.1 (by decide)) (zz_rc fS4 (zz_nc1 rfl) rfl (fun h => h) rfl))).trans (hN u h1 h2))) (fun S115 hP => ?_)
                        obtain ⟨G_S115, fS115, o117, o118, o119, o120, o121, o122⟩ := hP
                        rw [show S111 1079 32 = S4 1079 32 from (zz_ro qS111 (fun h => absurd h.1 (by decide)) rfl)] at o117
                        rw [show S111 1079 32 = S4 1079 32 from (zz_ro qS111 (fun h => absurd h.1 (by decide)) rfl)] at o118
                        rw [show S111 1099 = S0 1099 from funext (fun u => (zz_ro qS111 (fun h => absurd h.1 (by decide)) (zz_rc fS4 (zz_nc1 rfl) rfl (fun h => h) rfl))), show S111 1079 33 = S0 1079 33 from (zz_ro qS111 (fun h => absurd h.1 (by decide)) (zz_rc fS4 rfl rfl (fun h => h) rfl)), show S111 1079 32 = S4 1079 32 from (zz_ro qS111 (fun h => absurd h.1 (by decide)) rfl)] at o120
                        rw [show S111 1099 = S0 1099 from funext (fun u => (zz_ro qS111 (fun h => absurd h.1 (by decide)) (zz_rc fS4 (zz_nc1 rfl) rfl (fun h => h) rfl))), show S111 1079 33 = S0 1079 33 from (zz_ro qS111 (fun h => absurd h.1 (by decide)) (zz_rc fS4 rfl rfl (fun h => h) rfl)), show S111 1079 32 = S4 1079 32 from (zz_ro qS111 (fun h => absurd h.1 (by decide)) rfl)] at o121
                        rw [show S111 1099 = S0 1099 from funext (fun u => (zz_ro qS111 (fun h => absurd h.1 (by decide)) (zz_rc fS4 (zz_nc1 rfl) rfl (fun h => h) rfl))), show S111 1079 33 = S0 1079 33 from (zz_ro qS111 (fun h => absurd h.1 (by decide)) (zz_rc fS4 rfl rfl (fun h => h) rfl)), show S111 1079 32 = S4 1079 32 from (zz_ro qS111 (fun h => absurd h.1 (by decide)) rfl)] at o122
                        have F_S115 := zz_fr.trans F_S111 fS115 rfl zz_nv
                        refine zz_iload_n (x := 1) rfl zd_14_52_234 ?_
                        refine zz_if_eq (by omega) zd_14_52_235 (fun c123 => ?_) (fun c123 => ?_)
                        · exfalso; omega
                        · refine zz_iload_n (x := 32768) rfl zd_14_52_238 ?_
                          refine zz_goto zd_14_52_239 ?_
                          have g124 := zz_G.r G_S115 1079 32 0 1500 rfl rfl
                          have g125 := zz_G.r G_S115 1079 30 0 102 rfl rfl
                          exact zz_iret zd_14_52_243 rfl (Nat.zero_le _) (Nat.zero_le _) ⟨_, _, rfl, G_S115, F_S115, by omega, by omega, by omega, (by have h9 := zt_pwF (tk := (zt_tm (S0 1099) (S0 1079 33))) (te := (zt_tn (S0 1099) (S0 1079 33))) (tv := (zt_tv (S0 1099) (S0 1079 33))) (c := S0 1079 30) (p := S0 1079 32) (K := S4 1079 30) (by omega) (by omega); rw [h9.1]; (repeat' split) <;> first | rfl | (exfalso; omega)), fun _ => (by have h9 := zt_pwF (tk := (zt_tm (S0 1099) (S0 1079 33))) (te := (zt_tn (S0 1099) (S0 1079 33))) (tv := (zt_tv (S0 1099) (S0 1079 33))) (c := S0 1079 30) (p := S0 1079 32) (K := S4 1079 30) (by omega) (by omega); rw [h9.2, show zt_tn (S0 1099) (S0 1079 33) (S0 1079 32) = S4 1079 32 by omega]; omega)⟩
                · refine zz_iconst zd_14_52_178 ?_
                  refine zz_goto zd_14_52_179 ?_
                  refine zz_iadd zd_14_52_183 ?_
                  refine zz_eqv (v := 4) (by decide) ?_
                  refine zz_istore [some (.ref 1079), some (zi (S0 1079 30)), some (zi 0), some (zi 0), some (zi 4)] zd_14_52_184 (by decide) rfl ?_
                  refine zz_iconst zd_14_52_186 ?_
                  refine zz_bipush (by decide) zd_14_52_187 ?_
                  refine zz_iload (x := 4) rfl zd_14_52_189 ?_
                  refine zz_iadd zd_14_52_191 ?_
                  refine zz_eqv (v := 16) (by decide) ?_
                  refine zz_ishl zd_14_52_192 (fun v126 hv126 ev126 => ?_)
                  obtain rfl : v126 = 65536 := ev126.trans (by decide)
                  refine zz_istore_n [some (.ref 1079), some (zi (S0 1079 30)), some (zi 0), some (zi 65536), some (zi 4)] zd_14_52_193 (by decide) rfl ?_
                  refine zz_aload_n (x := 1079) rfl zd_14_52_194 ?_
                  refine zz_geti (z := S4 1079 30) zd_14_52_195 zf_Md_347 zT_1079 rfl (zz_ltn hn rfl) rfl ?_
                  refine zz_eqv (v := 20) (by omega) ?_
                  refine zz_bipush (by decide) zd_14_52_198 ?_
                  refine zz_icmp_eq (by omega) (by omega) zd_14_52_200 (fun c127 => ?_) (fun c127 => ?_)
                  · exfalso; omega
                  · refine zz_aload_n (x := 1079) rfl zd_14_52_203 ?_
                    refine zz_geti (z := S4 1079 30) zd_14_52_204 zf_Md_347 zT_1079 rfl (zz_ltn hn rfl) rfl ?_
                    refine zz_eqv (v := 20) (by omega) ?_
                    refine zz_bipush (by decide) zd_14_52_207 ?_
                    refine zz_icmp_ne (by omega) (by omega) zd_14_52_209 (fun c128 => ?_) (fun c128 => ?_)
                    · exfalso; omega
                    · refine zz_iconst zd_14_52_212 ?_
                      refine zz_goto zd_14_52_213 ?_
                      refine zz_istore_n [some (.ref 1079), some (zi (S0 1079 30)), some (zi 1), some (zi 65536), some (zi 4)] zd_14_52_217 (by decide) rfl ?_
                      refine zz_iload_n (x := 1) rfl zd_14_52_218 ?_
                      refine zz_if_eq (by omega) zd_14_52_219 (fun c129 => ?_) (fun c129 => ?_)
                      · exfalso; omega
                      · refine zz_aload_n (x := 1079) rfl zd_14_52_222 ?_
                        refine zz_getr (kd := 0) (z := 1087) zd_14_52_223 zf_Md_36 zT_1079 rfl (zz_ltn hn rfl) (zz_G.eq G_S4 1079 11 1087 rfl rfl) (by decide) 1087 rfl ?_
                        refine zz_iload (x := 4) rfl zd_14_52_226 ?_
                        refine zz_iconst zd_14_52_228 ?_
                        refine zz_iast zd_14_52_229 zT_1087 rfl (zz_ltn hn rfl) (by decide) (by decide) (fun S130 qS130 => ?_)
                        have G_S130 := zz_G.put G_S4 qS130 (-2147483648) 2147483647 rfl (by omega)
                        have F_S130 := zz_fr.puts F_S4 qS130 rfl
                        refine zz_aload_n (x := 1079) rfl zd_14_52_230 ?_
                        have g131 := zz_G.r G_S4 1079 32 0 1500 rfl rfl
                        have e132 : S130 1079 32 = S4 1079 32 := (zz_ro qS130 (fun h => absurd h.1 (by decide)) rfl)
                        have e133 : S130 1079 33 = S0 1079 33 := (zz_ro qS130 (fun h => absurd h.1 (by decide)) (zz_rc fS4 rfl rfl (fun h => h) rfl))
                        refine zz_callVV [] zd_14_52_231 zk_Md_359 zT_1079 (zz_ltn hn rfl) rfl rfl ⟨Nat.le_of_ble_eq_true rfl, Nat.le_of_ble_eq_true rfl⟩ ⟨rfl, rfl⟩ (Nat.zero_le _) (Nat.zero_le _) (zc_advance_14_49  S130 n hn G_S130 (fun u h1 h2 => ((zz_ro qS130 (fun h => absurd h.1 (by decide)) (zz_rc fS4 (zz_nc1 rfl) rfl (fun h => h) rfl))).trans (hN u h1 h2))) (fun S134 hP => ?_)
                        obtain ⟨G_S134, fS134, o136, o137, o138, o139, o140, o141⟩ := hP
                        rw [show S130 1079 32 = S4 1079 32 from (zz_ro qS130 (fun h => absurd h.1 (by decide)) rfl)] at o136
                        rw [show S130 1079 32 = S4 1079 32 from (zz_ro qS130 (fun h => absurd h.1 (by decide)) rfl)] at o137
                        rw [show S130 1099 = S0 1099 from funext (fun u => (zz_ro qS130 (fun h => absurd h.1 (by decide)) (zz_rc fS4 (zz_nc1 rfl) rfl (fun h => h) rfl))), show S130 1079 33 = S0 1079 33 from (zz_ro qS130 (fun h => absurd h.1 (by decide)) (zz_rc fS4 rfl rfl (fun h => h) rfl)), show S130 1079 32 = S4 1079 32 from (zz_ro qS130 (fun h => absurd h.1 (by decide)) rfl)] at o139
                        rw [show S130 1099 = S0 1099 from funext (fun u => (zz_ro qS130 (fun h => absurd h.1 (by decide)) (zz_rc fS4 (zz_nc1 rfl) rfl (fun h => h) rfl))), show S130 1079 33 = S0 1079 33 from (zz_ro qS130 (fun h => absurd h.1 (by decide)) (zz_rc fS4 rfl rfl (fun h => h) rfl)), show S130 1079 32 = S4 1079 32 from (zz_ro qS130 (fun h => absurd h.1 (by decide)) rfl)] at o140
                        rw [show S130 1099 = S0 1099 from funext (fun u => (zz_ro qS130 (fun h => absurd h.1 (by decide)) (zz_rc fS4 (zz_nc1 rfl) rfl (fun h => h) rfl))), show S130 1079 33 = S0 1079 33 from (zz_ro qS130 (fun h => absurd h.1 (by decide)) (zz_rc fS4 rfl rfl (fun h => h) rfl)), show S130 1079 32 = S4 1079 32 from (zz_ro qS130 (fun h => absurd h.1 (by decide)) rfl)] at o141
                        have F_S134 := zz_fr.trans F_S130 fS134 rfl zz_nv
                        refine zz_iload_n (x := 1) rfl zd_14_52_234 ?_
                        refine zz_if_eq (by omega) zd_14_52_235 (fun c142 => ?_) (fun c142 => ?_)
                        · exfalso; omega
                        · refine zz_iload_n (x := 65536) rfl zd_14_52_238 ?_
                          refine zz_goto zd_14_52_239 ?_
                          have g143 := zz_G.r G_S134 1079 32 0 1500 rfl rfl
                          have g144 := zz_G.r G_S134 1079 30 0 102 rfl rfl
                          exact zz_iret zd_14_52_243 rfl (Nat.zero_le _) (Nat.zero_le _) ⟨_, _, rfl, G_S134, F_S134, by omega, by omega, by omega, (by have h9 := zt_pwF (tk := (zt_tm (S0 1099) (S0 1079 33))) (te := (zt_tn (S0 1099) (S0 1079 33))) (tv := (zt_tv (S0 1099) (S0 1079 33))) (c := S0 1079 30) (p := S0 1079 32) (K := S4 1079 30) (by omega) (by omega); rw [h9.1]; (repeat' split) <;> first | rfl | (exfalso; omega)), fun _ => (by have h9 := zt_pwF (tk := (zt_tm (S0 1099) (S0 1079 33))) (te := (zt_tn (S0 1099) (S0 1079 33))) (tv := (zt_tv (S0 1099) (S0 1079 33))) (c := S0 1079 30) (p := S0 1079 32) (K := S4 1079 30) (by omega) (by omega); rw [h9.2, show zt_tn (S0 1099) (S0 1079 33) (S0 1079 32) = S4 1079 32 by omega]; omega)⟩
              · exfalso; omega
        · exfalso; omega
      · have n145 : 13 ≤ S0 1079 30 ∧ S0 1079 30 ≤ 16 := by omega
        clear o17
        refine zz_if_eq (by omega) zd_14_52_91 (fun c146 => ?_) (fun c146 => ?_)
        · exfalso; omega
        · refine zz_iload_n (x := S0 1079 30) rfl zd_14_52_94 ?_
          refine zz_bipush (by decide) zd_14_52_95 ?_
          refine zz_icmp_ne (by omega) (by omega) zd_14_52_97 (fun c147 => ?_) (fun c147 => ?_)
          · refine zz_iload_n (x := S0 1079 30) rfl zd_14_52_105 ?_
            refine zz_bipush (by decide) zd_14_52_106 ?_
            refine zz_icmp_ne (by omega) (by omega) zd_14_52_108 (fun c148 => ?_) (fun c148 => ?_)
            · refine zz_iload_n (x := S0 1079 30) rfl zd_14_52_116 ?_
              refine zz_bipush (by decide) zd_14_52_117 ?_
              refine zz_icmp_ne (by omega) (by omega) zd_14_52_119 (fun c149 => ?_) (fun c149 => ?_)
              · refine zz_bipush (by decide) zd_14_52_127 ?_
                refine zz_istore [some (.ref 1079), some (zi (S0 1079 30)), some (zi 0), some (zi 0), some (zi 11)] zd_14_52_129 (by decide) rfl ?_
                refine zz_iconst zd_14_52_131 ?_
                refine zz_iload (x := 11) rfl zd_14_52_132 ?_
                refine zz_ishl zd_14_52_134 (fun v150 hv150 ev150 => ?_)
                obtain rfl : v150 = 2048 := ev150.trans (by decide)
                refine zz_istore_n [some (.ref 1079), some (zi (S0 1079 30)), some (zi 0), some (zi 2048), some (zi 11)] zd_14_52_135 (by decide) rfl ?_
                skip
                refine zz_aload_n (x := 1079) rfl zd_14_52_136 ?_
                refine zz_iload (x := 11) rfl zd_14_52_137 ?_
                have g151 := zz_G.r G_S4 1079 32 0 1500 rfl rfl
                have g152 := zz_G.r G_S4 1079 30 0 102 rfl rfl
                have g153 := zz_G.r G_S4 1079 31 0 9999 rfl rfl
                have e154 : S4 1079 33 = S0 1079 33 := (zz_rc fS4 rfl rfl (fun h => h) rfl)
                refine zz_callVI [zi 11] zd_14_52_139 zk_Md_362 zT_1079 (zz_ltn hn rfl) rfl rfl ⟨Nat.le_of_ble_eq_true rfl, Nat.le_of_ble_eq_true rfl⟩ ⟨rfl, rfl⟩ (Nat.zero_le _) (Nat.zero_le _) (zc_setNumber_14_51x_11  S4 n hn G_S4 (fun u h1 h2 => ((zz_rc fS4 (zz_nc1 rfl) rfl (fun h => h) rfl)).trans (hN u h1 h2))) (fun v156 S155 hP => ?_)
                obtain ⟨G_S155, fS155, o157, o158, o159, o160, o161⟩ := hP
                rw [show S4 1099 = S0 1099 from funext (fun u => (zz_rc fS4 (zz_nc1 rfl) rfl (fun h => h) rfl)), show S4 1079 33 = S0 1079 33 from (zz_rc fS4 rfl rfl (fun h => h) rfl)] at o160
                rw [show S4 1099 = S0 1099 from funext (fun u => (zz_rc fS4 (zz_nc1 rfl) rfl (fun h => h) rfl)), show S4 1079 33 = S0 1079 33 from (zz_rc fS4 rfl rfl (fun h => h) rfl)] at o161
                have F_S155 := zz_fr.trans F_S4 fS155 rfl zz_nv
                rcases (by omega : v156 = 0 ∨ v156 = 1) with rfl | rfl
                · refine zz_istore_n [some (.ref 1079), some (zi (S0 1079 30)), some (zi 0), some (zi 2048), some (zi 11)] zd_14_52_142 (by decide) rfl ?_
                  refine zz_goto zd_14_52_143 ?_
                  refine zz_iload_n (x := 0) rfl zd_14_52_234 ?_
                  refine zz_if_eq (by omega) zd_14_52_235 (fun c162 => ?_) (fun c162 => ?_)
                  · refine zz_iconst zd_14_52_242 ?_
                    have g163 := zz_G.r G_S155 1079 32 0 1500 rfl rfl
                    have g164 := zz_G.r G_S155 1079 30 0 102 rfl rfl
                    exact zz_iret zd_14_52_243 rfl (Nat.zero_le _) (Nat.zero_le _) ⟨_, _, rfl, G_S155, F_S155, by omega, by omega, by omega, (by have h9 := zt_pwA (tk := (zt_tm (S0 1099) (S0 1079 33))) (te := (zt_tn (S0 1099) (S0 1079 33))) (tv := (zt_tv (S0 1099) (S0 1079 33))) (c := S0 1079 30) (p := S0 1079 32) (K := S4 1079 30) (V := S4 1079 31) (m := 31) (w := 11) (by omega) (by omega) (by omega); rw [h9.1, if_neg (by omega)]; rfl), fun h => absurd rfl h⟩
                  · exfalso; omega
                · refine zz_istore_n [some (.ref 1079), some (zi (S0 1079 30)), some (zi 1), some (zi 2048), some (zi 11)] zd_14_52_142 (by decide) rfl ?_
                  refine zz_goto zd_14_52_143 ?_
                  refine zz_iload_n (x := 1) rfl zd_14_52_234 ?_
                  refine zz_if_eq (by omega) zd_14_52_235 (fun c165 => ?_) (fun c165 => ?_)
                  · exfalso; omega
                  · refine zz_iload_n (x := 2048) rfl zd_14_52_238 ?_
                    refine zz_goto zd_14_52_239 ?_
                    have g166 := zz_G.r G_S155 1079 32 0 1500 rfl rfl
                    have g167 := zz_G.r G_S155 1079 30 0 102 rfl rfl
                    exact zz_iret zd_14_52_243 rfl (Nat.zero_le _) (Nat.zero_le _) ⟨_, _, rfl, G_S155, F_S155, by omega, by omega, by omega, (by have h9 := zt_pwA (tk := (zt_tm (S0 1099) (S0 1079 33))) (te := (zt_tn (S0 1099) (S0 1079 33))) (tv := (zt_tv (S0 1099) (S0 1079 33))) (c := S0 1079 30) (p := S0 1079 32) (K := S4 1079 30) (V := S4 1079 31) (m := 31) (w := 11) (by omega) (by omega) (by omega); rw [h9.1, if_pos (by omega)]; rfl), fun _ => (by have h9 := zt_pwA (tk := (zt_tm (S0 1099) (S0 1079 33))) (te := (zt_tn (S0 1099) (S0 1079 33))) (tv := (zt_tv (S0 1099) (S0 1079 33))) (c := S0 1079 30) (p := S0 1079 32) (K := S4 1079 30) (V := S4 1079 31) (m := 31) (w := 11) (by omega) (by omega) (by omega); rw [h9.2, show zt_tn (S0 1099) (S0 1079 33) (S0 1079 32) = S4 1079 32 by omega]; omega)⟩
              · refine zz_bipush (by decide) zd_14_52_122 ?_
                refine zz_goto zd_14_52_124 ?_
                refine zz_istore [some (.ref 1079), some (zi (S0 1079 30)), some (zi 0), some (zi 0), some (zi 10)] zd_14_52_129 (by decide) rfl ?_
                refine zz_iconst zd_14_52_131 ?_
                refine zz_iload (x := 10) rfl zd_14_52_132 ?_
                refine zz_ishl zd_14_52_134 (fun v168 hv168 ev168 => ?_)
                obtain rfl : v168 = 1024 := ev168.trans (by decide)
                refine zz_istore_n [some (.ref 1079), some (zi (S0 1079 30)), some (zi 0), some (zi 1024), some (zi 10)] zd_14_52_135 (by decide) rfl ?_
                skip
                refine zz_aload_n (x := 1079) rfl zd_14_52_136 ?_
                refine zz_iload (x := 10) rfl zd_14_52_137 ?_
                have g169 := zz_G.r G_S4 1079 32 0 1500 rfl rfl
                have g170 := zz_G.r G_S4 1079 30 0 102 rfl rfl
                have g171 := zz_G.r G_S4 1079 31 0 9999 rfl rfl
                have e172 : S4 1079 33 = S0 1079 33 := (zz_rc fS4 rfl rfl (fun h => h) rfl)
                refine zz_callVI [zi 10] zd_14_52_139 zk_Md_362 zT_1079 (zz_ltn hn rfl) rfl rfl ⟨Nat.le_of_ble_eq_true rfl, Nat.le_of_ble_eq_true rfl⟩ ⟨rfl, rfl⟩ (Nat.zero_le _) (Nat.zero_le _) (zc_setNumber_14_51x_10  S4 n hn G_S4 (fun u h1 h2 => ((zz_rc fS4 (zz_nc1 rfl) rfl (fun h => h) rfl)).trans (hN u h1 h2))) (fun v174 S173 hP => ?_)
                obtain ⟨G_S173, fS173, o175, o176, o177, o178, o179⟩ := hP
                rw [show S4 1099 = S0 1099 from funext (fun u => (zz_rc fS4 (zz_nc1 rfl) rfl (fun h => h) rfl)), show S4 1079 33 = S0 1079 33 from (zz_rc fS4 rfl rfl (fun h => h) rfl)] at o178
                rw [show S4 1099 = S0 1099 from funext (fun u => (zz_rc fS4 (zz_nc1 rfl) rfl (fun h => h) rfl)), show S4 1079 33 = S0 1079 33 from (zz_rc fS4 rfl rfl (fun h => h) rfl)] at o179
                have F_S173 := zz_fr.trans F_S4 fS173 rfl zz_nv
                rcases (by omega : v174 = 0 ∨ v174 = 1) with rfl | rfl
                · refine zz_istore_n [some (.ref 1079), some (zi (S0 1079 30)), some (zi 0), some (zi 1024), some (zi 10)] zd_14_52_142 (by decide) rfl ?_
                  refine zz_goto zd_14_52_143 ?_
                  refine zz_iload_n (x := 0) rfl zd_14_52_234 ?_
                  refine zz_if_eq (by omega) zd_14_52_235 (fun c180 => ?_) (fun c180 => ?_)
                  · refine zz_iconst zd_14_52_242 ?_
                    have g181 := zz_G.r G_S173 1079 32 0 1500 rfl rfl
                    have g182 := zz_G.r G_S173 1079 30 0 102 rfl rfl
                    exact zz_iret zd_14_52_243 rfl (Nat.zero_le _) (Nat.zero_le _) ⟨_, _, rfl, G_S173, F_S173, by omega, by omega, by omega, (by have h9 := zt_pwA (tk := (zt_tm (S0 1099) (S0 1079 33))) (te := (zt_tn (S0 1099) (S0 1079 33))) (tv := (zt_tv (S0 1099) (S0 1079 33))) (c := S0 1079 30) (p := S0 1079 32) (K := S4 1079 30) (V := S4 1079 31) (m := 1023) (w := 10) (by omega) (by omega) (by omega); rw [h9.1, if_neg (by omega)]; rfl), fun h => absurd rfl h⟩
                  · exfalso; omega
                · refine zz_istore_n [some (.ref 1079), some (zi (S0 1079 30)), some (zi 1), some (zi 1024), some (zi 10)] zd_14_52_142 (by decide) rfl ?_
                  refine zz_goto zd_14_52_143 ?_
                  refine zz_iload_n (x := 1) rfl zd_14_52_234 ?_
                  refine zz_if_eq (by omega) zd_14_52_235 (fun c183 => ?_) (fun c183 => ?_)
                  · exfalso; omega
                  · refine zz_iload_n (x := 1024) rfl zd_14_52_238 ?_
                    refine zz_goto zd_14_52_239 ?_
                    have g184 := zz_G.r G_S173 1079 32 0 1500 rfl rfl
                    have g185 := zz_G.r G_S173 1079 30 0 102 rfl rfl
                    exact zz_iret zd_14_52_243 rfl (Nat.zero_le _) (Nat.zero_le _) ⟨_, _, rfl, G_S173, F_S173, by omega, by omega, by omega, (by have h9 := zt_pwA (tk := (zt_tm (S0 1099) (S0 1079 33))) (te := (zt_tn (S0 1099) (S0 1079 33))) (tv := (zt_tv (S0 1099) (S0 1079 33))) (c := S0 1079 30) (p := S0 1079 32) (K := S4 1079 30) (V := S4 1079 31) (m := 1023) (w := 10) (by omega) (by omega) (by omega); rw [h9.1, if_pos (by omega)]; rfl), fun _ => (by have h9 := zt_pwA (tk := (zt_tm (S0 1099) (S0 1079 33))) (te := (zt_tn (S0 1099) (S0 1079 33))) (tv := (zt_tv (S0 1099) (S0 1079 33))) (c := S0 1079 30) (p := S0 1079 32) (K := S4 1079 30) (V := S4 1079 31) (m := 1023) (w := 10) (by omega) (by omega) (by omega); rw [h9.2, show zt_tn (S0 1099) (S0 1079 33) (S0 1079 32) = S4 1079 32 by omega]; omega)⟩
            · refine zz_bipush (by decide) zd_14_52_111 ?_
              refine zz_goto zd_14_52_113 ?_
              refine zz_istore [some (.ref 1079), some (zi (S0 1079 30)), some (zi 0), some (zi 0), some (zi 9)] zd_14_52_129 (by decide) rfl ?_
              refine zz_iconst zd_14_52_131 ?_
              refine zz_iload (x := 9) rfl zd_14_52_132 ?_
              refine zz_ishl zd_14_52_134 (fun v186 hv186 ev186 => ?_)
              obtain rfl : v186 = 512 := ev186.trans (by decide)
              refine zz_istore_n [some (.ref 1079), some (zi (S0 1079 30)), some (zi 0), some (zi 512), some (zi 9)] zd_14_52_135 (by decide) rfl ?_
              skip
              refine zz_aload_n (x := 1079) rfl zd_14_52_136 ?_
              refine zz_iload (x := 9) rfl zd_14_52_137 ?_
              have g187 := zz_G.r G_S4 1079 32 0 1500 rfl rfl
              have g188 := zz_G.r G_S4 1079 30 0 102 rfl rfl
              have g189 := zz_G.r G_S4 1079 31 0 9999 rfl rfl
              have e190 : S4 1079 33 = S0 1079 33 := (zz_rc fS4 rfl rfl (fun h => h) rfl)
              refine zz_callVI [zi 9] zd_14_52_139 zk_Md_362 zT_1079 (zz_ltn hn rfl) rfl rfl ⟨Nat.le_of_ble_eq_true rfl, Nat.le_of_ble_eq_true rfl⟩ ⟨rfl, rfl⟩ (Nat.zero_le _) (Nat.zero_le _) (zc_setNumber_14_51x_9  S4 n hn G_S4 (fun u h1 h2 => ((zz_rc fS4 (zz_nc1 rfl) rfl (fun h => h) rfl)).trans (hN u h1 h2))) (fun v192 S191 hP => ?_)
              obtain ⟨G_S191, fS191, o193, o194, o195, o196, o197⟩ := hP
              rw [show S4 1099 = S0 1099 from funext (fun u => (zz_rc fS4 (zz_nc1 rfl) rfl (fun h => h) rfl)), show S4 1079 33 = S0 1079 33 from (zz_rc fS4 rfl rfl (fun h => h) rfl)] at o196
              rw [show S4 1099 = S0 1099 from funext (fun u => (zz_rc fS4 (zz_nc1 rfl) rfl (fun h => h) rfl)), show S4 1079 33 = S0 1079 33 from (zz_rc fS4 rfl rfl (fun h => h) rfl)] at o197
              have F_S191 := zz_fr.trans F_S4 fS191 rfl zz_nv
              rcases (by omega : v192 = 0 ∨ v192 = 1) with rfl | rfl
              · refine zz_istore_n [some (.ref 1079), some (zi (S0 1079 30)), some (zi 0), some (zi 512), some (zi 9)] zd_14_52_142 (by decide) rfl ?_
                refine zz_goto zd_14_52_143 ?_
                refine zz_iload_n (x := 0) rfl zd_14_52_234 ?_
                refine zz_if_eq (by omega) zd_14_52_235 (fun c198 => ?_) (fun c198 => ?_)
                · refine zz_iconst zd_14_52_242 ?_
                  have g199 := zz_G.r G_S191 1079 32 0 1500 rfl rfl
                  have g200 := zz_G.r G_S191 1079 30 0 102 rfl rfl
                  exact zz_iret zd_14_52_243 rfl (Nat.zero_le _) (Nat.zero_le _) ⟨_, _, rfl, G_S191, F_S191, by omega, by omega, by omega, (by have h9 := zt_pwA (tk := (zt_tm (S0 1099) (S0 1079 33))) (te := (zt_tn (S0 1099) (S0 1079 33))) (tv := (zt_tv (S0 1099) (S0 1079 33))) (c := S0 1079 30) (p := S0 1079 32) (K := S4 1079 30) (V := S4 1079 31) (m := 511) (w := 9) (by omega) (by omega) (by omega); rw [h9.1, if_neg (by omega)]; rfl), fun h => absurd rfl h⟩
                · exfalso; omega
              · refine zz_istore_n [some (.ref 1079), some (zi (S0 1079 30)), some (zi 1), some (zi 512), some (zi 9)] zd_14_52_142 (by decide) rfl ?_
                refine zz_goto zd_14_52_143 ?_
                refine zz_iload_n (x := 1) rfl zd_14_52_234 ?_
                refine zz_if_eq (by omega) zd_14_52_235 (fun c201 => ?_) (fun c201 => ?_)
                · exfalso; omega
                · refine zz_iload_n (x := 512) rfl zd_14_52_238 ?_
                  refine zz_goto zd_14_52_239 ?_
                  have g202 := zz_G.r G_S191 1079 32 0 1500 rfl rfl
                  have g203 := zz_G.r G_S191 1079 30 0 102 rfl rfl
                  exact zz_iret zd_14_52_243 rfl (Nat.zero_le _) (Nat.zero_le _) ⟨_, _, rfl, G_S191, F_S191, by omega, by omega, by omega, (by have h9 := zt_pwA (tk := (zt_tm (S0 1099) (S0 1079 33))) (te := (zt_tn (S0 1099) (S0 1079 33))) (tv := (zt_tv (S0 1099) (S0 1079 33))) (c := S0 1079 30) (p := S0 1079 32) (K := S4 1079 30) (V := S4 1079 31) (m := 511) (w := 9) (by omega) (by omega) (by omega); rw [h9.1, if_pos (by omega)]; rfl), fun _ => (by have h9 := zt_pwA (tk := (zt_tm (S0 1099) (S0 1079 33))) (te := (zt_tn (S0 1099) (S0 1079 33))) (tv := (zt_tv (S0 1099) (S0 1079 33))) (c := S0 1079 30) (p := S0 1079 32) (K := S4 1079 30) (V := S4 1079 31) (m := 511) (w := 9) (by omega) (by omega) (by omega); rw [h9.2, show zt_tn (S0 1099) (S0 1079 33) (S0 1079 32) = S4 1079 32 by omega]; omega)⟩
          · refine zz_bipush (by decide) zd_14_52_100 ?_
            refine zz_goto zd_14_52_102 ?_
            refine zz_istore [some (.ref 1079), some (zi (S0 1079 30)), some (zi 0), some (zi 0), some (zi 8)] zd_14_52_129 (by decide) rfl ?_
            refine zz_iconst zd_14_52_131 ?_
            refine zz_iload (x := 8) rfl zd_14_52_132 ?_
            refine zz_ishl zd_14_52_134 (fun v204 hv204 ev204 => ?_)
            obtain rfl : v204 = 256 := ev204.trans (by decide)
            refine zz_istore_n [some (.ref 1079), some (zi (S0 1079 30)), some (zi 0), some (zi 256), some (zi 8)] zd_14_52_135 (by decide) rfl ?_
            skip
            refine zz_aload_n (x := 1079) rfl zd_14_52_136 ?_
            refine zz_iload (x := 8) rfl zd_14_52_137 ?_
            have g205 := zz_G.r G_S4 1079 32 0 1500 rfl rfl
            have g206 := zz_G.r G_S4 1079 30 0 102 rfl rfl
            have g207 := zz_G.r G_S4 1079 31 0 9999 rfl rfl
            have e208 : S4 1079 33 = S0 1079 33 := (zz_rc fS4 rfl rfl (fun h => h) rfl)
            refine zz_callVI [zi 8] zd_14_52_139 zk_Md_362 zT_1079 (zz_ltn hn rfl) rfl rfl ⟨Nat.le_of_ble_eq_true rfl, Nat.le_of_ble_eq_true rfl⟩ ⟨rfl, rfl⟩ (Nat.zero_le _) (Nat.zero_le _) (zc_setNumber_14_51x_8  S4 n hn G_S4 (fun u h1 h2 => ((zz_rc fS4 (zz_nc1 rfl) rfl (fun h => h) rfl)).trans (hN u h1 h2))) (fun v210 S209 hP => ?_)
            obtain ⟨G_S209, fS209, o211, o212, o213, o214, o215⟩ := hP
            rw [show S4 1099 = S0 1099 from funext (fun u => (zz_rc fS4 (zz_nc1 rfl) rfl (fun h => h) rfl)), show S4 1079 33 = S0 1079 33 from (zz_rc fS4 rfl rfl (fun h => h) rfl)] at o214
            rw [show S4 1099 = S0 1099 from funext (fun u => (zz_rc fS4 (zz_nc1 rfl) rfl (fun h => h) rfl)), show S4 1079 33 = S0 1079 33 from (zz_rc fS4 rfl rfl (fun h => h) rfl)] at o215
            have F_S209 := zz_fr.trans F_S4 fS209 rfl zz_nv
            rcases (by omega : v210 = 0 ∨ v210 = 1) with rfl | rfl
            · refine zz_istore_n [some (.ref 1079), some (zi (S0 1079 30)), some (zi 0), some (zi 256), some (zi 8)] zd_14_52_142 (by decide) rfl ?_
              refine zz_goto zd_14_52_143 ?_
              refine zz_iload_n (x := 0) rfl zd_14_52_234 ?_
              refine zz_if_eq (by omega) zd_14_52_235 (fun c216 => ?_) (fun c216 => ?_)
              · refine zz_iconst zd_14_52_242 ?_
                have g217 := zz_G.r G_S209 1079 32 0 1500 rfl rfl
                have g218 := zz_G.r G_S209 1079 30 0 102 rfl rfl
                exact zz_iret zd_14_52_243 rfl (Nat.zero_le _) (Nat.zero_le _) ⟨_, _, rfl, G_S209, F_S209, by omega, by omega, by omega, (by have h9 := zt_pwA (tk := (zt_tm (S0 1099) (S0 1079 33))) (te := (zt_tn (S0 1099) (S0 1079 33))) (tv := (zt_tv (S0 1099) (S0 1079 33))) (c := S0 1079 30) (p := S0 1079 32) (K := S4 1079 30) (V := S4 1079 31) (m := 511) (w := 8) (by omega) (by omega) (by omega); rw [h9.1, if_neg (by omega)]; rfl), fun h => absurd rfl h⟩
              · exfalso; omega
            · refine zz_istore_n [some (.ref 1079), some (zi (S0 1079 30)), some (zi 1), some (zi 256), some (zi 8)] zd_14_52_142 (by decide) rfl ?_
              refine zz_goto zd_14_52_143 ?_
              refine zz_iload_n (x := 1) rfl zd_14_52_234 ?_
              refine zz_if_eq (by omega) zd_14_52_235 (fun c219 => ?_) (fun c219 => ?_)
              · exfalso; omega
              · refine zz_iload_n (x := 256) rfl zd_14_52_238 ?_
                refine zz_goto zd_14_52_239 ?_
                have g220 := zz_G.r G_S209 1079 32 0 1500 rfl rfl
                have g221 := zz_G.r G_S209 1079 30 0 102 rfl rfl
                exact zz_iret zd_14_52_243 rfl (Nat.zero_le _) (Nat.zero_le _) ⟨_, _, rfl, G_S209, F_S209, by omega, by omega, by omega, (by have h9 := zt_pwA (tk := (zt_tm (S0 1099) (S0 1079 33))) (te := (zt_tn (S0 1099) (S0 1079 33))) (tv := (zt_tv (S0 1099) (S0 1079 33))) (c := S0 1079 30) (p := S0 1079 32) (K := S4 1079 30) (V := S4 1079 31) (m := 511) (w := 8) (by omega) (by omega) (by omega); rw [h9.1, if_pos (by omega)]; rfl), fun _ => (by have h9 := zt_pwA (tk := (zt_tm (S0 1099) (S0 1079 33))) (te := (zt_tn (S0 1099) (S0 1079 33))) (tv := (zt_tv (S0 1099) (S0 1079 33))) (c := S0 1079 30) (p := S0 1079 32) (K := S4 1079 30) (V := S4 1079 31) (m := 511) (w := 8) (by omega) (by omega) (by omega); rw [h9.2, show zt_tn (S0 1099) (S0 1079 33) (S0 1079 32) = S4 1079 32 by omega]; omega)⟩
    · refine zz_iconst zd_14_52_36 ?_
      refine zz_istore_n [some (.ref 1079), some (zi (S0 1079 30)), some (zi 0), some (zi 2)] zd_14_52_37 (by decide) rfl ?_
      skip
      refine zz_aload_n (x := 1079) rfl zd_14_52_38 ?_
      refine zz_bipush (by decide) zd_14_52_39 ?_
      have g222 := zz_G.r G_S4 1079 32 0 1500 rfl rfl
      have g223 := zz_G.r G_S4 1079 30 0 102 rfl rfl
      have g224 := zz_G.r G_S4 1079 31 0 9999 rfl rfl
      have e225 : S4 1079 33 = S0 1079 33 := (zz_rc fS4 rfl rfl (fun h => h) rfl)
      refine zz_callVI [zi 6] zd_14_52_41 zk_Md_362 zT_1079 (zz_ltn hn rfl) rfl rfl ⟨Nat.le_of_ble_eq_true rfl, Nat.le_of_ble_eq_true rfl⟩ ⟨rfl, rfl⟩ (Nat.zero_le _) (Nat.zero_le _) (zc_setNumber_14_51x_6  S4 n hn G_S4 (fun u h1 h2 => ((zz_rc fS4 (zz_nc1 rfl) rfl (fun h => h) rfl)).trans (hN u h1 h2))) (fun v227 S226 hP => ?_)
      obtain ⟨G_S226, fS226, o228, o229, o230, o231, o232⟩ := hP
      rw [show S4 1099 = S0 1099 from funext (fun u => (zz_rc fS4 (zz_nc1 rfl) rfl (fun h => h) rfl)), show S4 1079 33 = S0 1079 33 from (zz_rc fS4 rfl rfl (fun h => h) rfl)] at o231
      rw [show S4 1099 = S0 1099 from funext (fun u => (zz_rc fS4 (zz_nc1 rfl) rfl (fun h => h) rfl)), show S4 1079 33 = S0 1079 33 from (zz_rc fS4 rfl rfl (fun h => h) rfl)] at o232
      have F_S226 := zz_fr.trans F_S4 fS226 rfl zz_nv
      rcases (by omega : v227 = 0 ∨ v227 = 1) with rfl | rfl
      · refine zz_if_eq (by omega) zd_14_52_44 (fun c233 => ?_) (fun c233 => ?_)
        · refine zz_iconst zd_14_52_60 ?_
          refine zz_istore_n [some (.ref 1079), some (zi (S0 1079 30)), some (zi 0), some (zi 2)] zd_14_52_61 (by decide) rfl ?_
          refine zz_iload_n (x := 0) rfl zd_14_52_62 ?_
          refine zz_if_eq (by omega) zd_14_52_63 (fun c234 => ?_) (fun c234 => ?_)
          · refine zz_iload_n (x := 0) rfl zd_14_52_234 ?_
            refine zz_if_eq (by omega) zd_14_52_235 (fun c235 => ?_) (fun c235 => ?_)
            · refine zz_iconst zd_14_52_242 ?_
              have g236 := zz_G.r G_S226 1079 32 0 1500 rfl rfl
              have g237 := zz_G.r G_S226 1079 30 0 102 rfl rfl
              exact zz_iret zd_14_52_243 rfl (Nat.zero_le _) (Nat.zero_le _) ⟨_, _, rfl, G_S226, F_S226, by omega, by omega, by omega, (by have h9 := zt_pwB (tk := (zt_tm (S0 1099) (S0 1079 33))) (te := (zt_tn (S0 1099) (S0 1079 33))) (tv := (zt_tv (S0 1099) (S0 1079 33))) (c := S0 1079 30) (p := S0 1079 32) (by omega); rw [h9.1, show zt_tn (S0 1099) (S0 1079 33) (S0 1079 32) = S4 1079 32 by omega, if_neg (by omega)]; rfl), fun h => absurd rfl h⟩
            · exfalso; omega
          · exfalso; omega
        · exfalso; omega
      · refine zz_if_eq (by omega) zd_14_52_44 (fun c238 => ?_) (fun c238 => ?_)
        · exfalso; omega
        · refine zz_aload_n (x := 1079) rfl zd_14_52_47 ?_
          have g239 := zz_G.r G_S226 1079 30 0 102 rfl rfl
          refine zz_geti (z := S226 1079 30) zd_14_52_48 zf_Md_347 zT_1079 rfl (zz_ltn hn rfl) rfl ?_
          refine zz_bipush (by decide) zd_14_52_51 ?_
          refine zz_icmp_ne (by omega) (by omega) zd_14_52_53 (fun c240 => ?_) (fun c240 => ?_)
          · refine zz_iconst zd_14_52_60 ?_
            refine zz_istore_n [some (.ref 1079), some (zi (S0 1079 30)), some (zi 0), some (zi 2)] zd_14_52_61 (by decide) rfl ?_
            refine zz_iload_n (x := 0) rfl zd_14_52_62 ?_
            refine zz_if_eq (by omega) zd_14_52_63 (fun c241 => ?_) (fun c241 => ?_)
            · refine zz_iload_n (x := 0) rfl zd_14_52_234 ?_
              refine zz_if_eq (by omega) zd_14_52_235 (fun c242 => ?_) (fun c242 => ?_)
              · refine zz_iconst zd_14_52_242 ?_
                have g243 := zz_G.r G_S226 1079 32 0 1500 rfl rfl
                exact zz_iret zd_14_52_243 rfl (Nat.zero_le _) (Nat.zero_le _) ⟨_, _, rfl, G_S226, F_S226, by omega, by omega, by omega, (by have h9 := zt_pwB (tk := (zt_tm (S0 1099) (S0 1079 33))) (te := (zt_tn (S0 1099) (S0 1079 33))) (tv := (zt_tv (S0 1099) (S0 1079 33))) (c := S0 1079 30) (p := S0 1079 32) (by omega); rw [h9.1, show zt_tn (S0 1099) (S0 1079 33) (S0 1079 32) = S4 1079 32 by omega, if_neg (by omega)]; rfl), fun h => absurd rfl h⟩
              · exfalso; omega
            · exfalso; omega
          · refine zz_iconst zd_14_52_56 ?_
            refine zz_goto zd_14_52_57 ?_
            refine zz_istore_n [some (.ref 1079), some (zi (S0 1079 30)), some (zi 1), some (zi 2)] zd_14_52_61 (by decide) rfl ?_
            refine zz_iload_n (x := 1) rfl zd_14_52_62 ?_
            refine zz_if_eq (by omega) zd_14_52_63 (fun c244 => ?_) (fun c244 => ?_)
            · exfalso; omega
            · refine zz_aload_n (x := 1079) rfl zd_14_52_66 ?_
              have g245 := zz_G.r G_S226 1079 32 0 1500 rfl rfl
              have e246 : S226 1079 33 = S0 1079 33 := (zz_rc fS226 rfl rfl (fun h => h) (zz_rc fS4 rfl rfl (fun h => h) rfl))
              refine zz_callVV [] zd_14_52_67 zk_Md_359 zT_1079 (zz_ltn hn rfl) rfl rfl ⟨Nat.le_of_ble_eq_true rfl, Nat.le_of_ble_eq_true rfl⟩ ⟨rfl, rfl⟩ (Nat.zero_le _) (Nat.zero_le _) (zc_advance_14_49  S226 n hn G_S226 (fun u h1 h2 => ((zz_rc fS226 (zz_nc1 rfl) rfl (fun h => h) (zz_rc fS4 (zz_nc1 rfl) rfl (fun h => h) rfl))).trans (hN u h1 h2))) (fun S247 hP => ?_)
              obtain ⟨G_S247, fS247, o249, o250, o251, o252, o253, o254⟩ := hP
              rw [show S226 1099 = S0 1099 from funext (fun u => (zz_rc fS226 (zz_nc1 rfl) rfl (fun h => h) (zz_rc fS4 (zz_nc1 rfl) rfl (fun h => h) rfl))), show S226 1079 33 = S0 1079 33 from (zz_rc fS226 rfl rfl (fun h => h) (zz_rc fS4 rfl rfl (fun h => h) rfl))] at o252
              rw [show S226 1099 = S0 1099 from funext (fun u => (zz_rc fS226 (zz_nc1 rfl) rfl (fun h => h) (zz_rc fS4 (zz_nc1 rfl) rfl (fun h => h) rfl))), show S226 1079 33 = S0 1079 33 from (zz_rc fS226 rfl rfl (fun h => h) (zz_rc fS4 rfl rfl (fun h => h) rfl))] at o253
              rw [show S226 1099 = S0 1099 from funext (fun u => (zz_rc fS226 (zz_nc1 rfl) rfl (fun h => h) (zz_rc fS4 (zz_nc1 rfl) rfl (fun h => h) rfl))), show S226 1079 33 = S0 1079 33 from (zz_rc fS226 rfl rfl (fun h => h) (zz_rc fS4 rfl rfl (fun h => h) rfl))] at o254
              have F_S247 := zz_fr.trans F_S226 fS247 rfl zz_nv
              skip
              refine zz_aload_n (x := 1079) rfl zd_14_52_70 ?_
              refine zz_bipush (by decide) zd_14_52_71 ?_
              have g255 := zz_G.r G_S247 1079 32 0 1500 rfl rfl
              have g256 := zz_G.r G_S247 1079 30 0 102 rfl rfl
              have g257 := zz_G.r G_S247 1079 31 0 9999 rfl rfl
              have e258 : S247 1079 33 = S0 1079 33 := (zz_rc fS247 rfl rfl (fun h => h) (zz_rc fS226 rfl rfl (fun h => h) (zz_rc fS4 rfl rfl (fun h => h) rfl)))
              refine zz_callVI [zi 7] zd_14_52_73 zk_Md_362 zT_1079 (zz_ltn hn rfl) rfl rfl ⟨Nat.le_of_ble_eq_true rfl, Nat.le_of_ble_eq_true rfl⟩ ⟨rfl, rfl⟩ (Nat.zero_le _) (Nat.zero_le _) (zc_setNumber_14_51x_7  S247 n hn G_S247 (fun u h1 h2 => ((zz_rc fS247 (zz_nc1 rfl) rfl (fun h => h) (zz_rc fS226 (zz_nc1 rfl) rfl (fun h => h) (zz_rc fS4 (zz_nc1 rfl) rfl (fun h => h) rfl)))).trans (hN u h1 h2))) (fun v260 S259 hP => ?_)
              obtain ⟨G_S259, fS259, o261, o262, o263, o264, o265⟩ := hP
              rw [show S247 1099 = S0 1099 from funext (fun u => (zz_rc fS247 (zz_nc1 rfl) rfl (fun h => h) (zz_rc fS226 (zz_nc1 rfl) rfl (fun h => h) (zz_rc fS4 (zz_nc1 rfl) rfl (fun h => h) rfl)))), show S247 1079 33 = S0 1079 33 from (zz_rc fS247 rfl rfl (fun h => h) (zz_rc fS226 rfl rfl (fun h => h) (zz_rc fS4 rfl rfl (fun h => h) rfl)))] at o264
              rw [show S247 1099 = S0 1099 from funext (fun u => (zz_rc fS247 (zz_nc1 rfl) rfl (fun h => h) (zz_rc fS226 (zz_nc1 rfl) rfl (fun h => h) (zz_rc fS4 (zz_nc1 rfl) rfl (fun h => h) rfl)))), show S247 1079 33 = S0 1079 33 from (zz_rc fS247 rfl rfl (fun h => h) (zz_rc fS226 rfl rfl (fun h => h) (zz_rc fS4 rfl rfl (fun h => h) rfl)))] at o265
              have F_S259 := zz_fr.trans F_S247 fS259 rfl zz_nv
              rcases (by omega : v260 = 0 ∨ v260 = 1) with rfl | rfl
              · refine zz_istore_n [some (.ref 1079), some (zi (S0 1079 30)), some (zi 0), some (zi 2)] zd_14_52_76 (by decide) rfl ?_
                refine zz_goto zd_14_52_77 ?_
                refine zz_iload_n (x := 0) rfl zd_14_52_234 ?_
                refine zz_if_eq (by omega) zd_14_52_235 (fun c266 => ?_) (fun c266 => ?_)
                · refine zz_iconst zd_14_52_242 ?_
                  have g267 := zz_G.r G_S259 1079 32 0 1500 rfl rfl
                  have g268 := zz_G.r G_S259 1079 30 0 102 rfl rfl
                  exact zz_iret zd_14_52_243 rfl (Nat.zero_le _) (Nat.zero_le _) ⟨_, _, rfl, G_S259, F_S259, by omega, by omega, by omega, (by have h9 := zt_pwB (tk := (zt_tm (S0 1099) (S0 1079 33))) (te := (zt_tn (S0 1099) (S0 1079 33))) (tv := (zt_tv (S0 1099) (S0 1079 33))) (c := S0 1079 30) (p := S0 1079 32) (by omega); rw [h9.1, show zt_tn (S0 1099) (S0 1079 33) (S0 1079 32) = S4 1079 32 by omega, show zt_tn (S0 1099) (S0 1079 33) (S4 1079 32) = S226 1079 32 by omega, if_neg (by omega)]; rfl), fun h => absurd rfl h⟩
                · exfalso; omega
              · refine zz_istore_n [some (.ref 1079), some (zi (S0 1079 30)), some (zi 1), some (zi 2)] zd_14_52_76 (by decide) rfl ?_
                refine zz_goto zd_14_52_77 ?_
                refine zz_iload_n (x := 1) rfl zd_14_52_234 ?_
                refine zz_if_eq (by omega) zd_14_52_235 (fun c269 => ?_) (fun c269 => ?_)
                · exfalso; omega
                · refine zz_iload_n (x := 2) rfl zd_14_52_238 ?_
                  refine zz_goto zd_14_52_239 ?_
                  have g270 := zz_G.r G_S259 1079 32 0 1500 rfl rfl
                  have g271 := zz_G.r G_S259 1079 30 0 102 rfl rfl
                  exact zz_iret zd_14_52_243 rfl (Nat.zero_le _) (Nat.zero_le _) ⟨_, _, rfl, G_S259, F_S259, by omega, by omega, by omega, (by have h9 := zt_pwB (tk := (zt_tm (S0 1099) (S0 1079 33))) (te := (zt_tn (S0 1099) (S0 1079 33))) (tv := (zt_tv (S0 1099) (S0 1079 33))) (c := S0 1079 30) (p := S0 1079 32) (by omega); rw [h9.1, show zt_tn (S0 1099) (S0 1079 33) (S0 1079 32) = S4 1079 32 by omega, show zt_tn (S0 1099) (S0 1079 33) (S4 1079 32) = S226 1079 32 by omega, if_pos (by omega)]; rfl), fun _ => (by have h9 := zt_pwB (tk := (zt_tm (S0 1099) (S0 1079 33))) (te := (zt_tn (S0 1099) (S0 1079 33))) (tv := (zt_tv (S0 1099) (S0 1079 33))) (c := S0 1079 30) (p := S0 1079 32) (by omega); rw [h9.2, show zt_tn (S0 1099) (S0 1079 33) (S0 1079 32) = S4 1079 32 by omega, show zt_tn (S0 1099) (S0 1079 33) (S4 1079 32) = S226 1079 32 by omega, show zt_tn (S0 1099) (S0 1079 33) (S226 1079 32) = S247 1079 32 by omega]; omega)⟩
  · refine zz_iconst zd_14_52_19 ?_
    refine zz_istore_n [some (.ref 1079), some (zi (S0 1079 30)), some (zi 0), some (zi 1)] zd_14_52_20 (by decide) rfl ?_
    skip
    refine zz_aload_n (x := 1079) rfl zd_14_52_21 ?_
    refine zz_iconst zd_14_52_22 ?_
    have g272 := zz_G.r G_S4 1079 32 0 1500 rfl rfl
    have g273 := zz_G.r G_S4 1079 30 0 102 rfl rfl
    have g274 := zz_G.r G_S4 1079 31 0 9999 rfl rfl
    have e275 : S4 1079 33 = S0 1079 33 := (zz_rc fS4 rfl rfl (fun h => h) rfl)
    refine zz_callVI [zi 5] zd_14_52_23 zk_Md_362 zT_1079 (zz_ltn hn rfl) rfl rfl ⟨Nat.le_of_ble_eq_true rfl, Nat.le_of_ble_eq_true rfl⟩ ⟨rfl, rfl⟩ (Nat.zero_le _) (Nat.zero_le _) (zc_setNumber_14_51x_5  S4 n hn G_S4 (fun u h1 h2 => ((zz_rc fS4 (zz_nc1 rfl) rfl (fun h => h) rfl)).trans (hN u h1 h2))) (fun v277 S276 hP => ?_)
    obtain ⟨G_S276, fS276, o278, o279, o280, o281, o282⟩ := hP
    rw [show S4 1099 = S0 1099 from funext (fun u => (zz_rc fS4 (zz_nc1 rfl) rfl (fun h => h) rfl)), show S4 1079 33 = S0 1079 33 from (zz_rc fS4 rfl rfl (fun h => h) rfl)] at o281
    rw [show S4 1099 = S0 1099 from funext (fun u => (zz_rc fS4 (zz_nc1 rfl) rfl (fun h => h) rfl)), show S4 1079 33 = S0 1079 33 from (zz_rc fS4 rfl rfl (fun h => h) rfl)] at o282
    have F_S276 := zz_fr.trans F_S4 fS276 rfl zz_nv
    rcases (by omega : v277 = 0 ∨ v277 = 1) with rfl | rfl
    · refine zz_istore_n [some (.ref 1079), some (zi (S0 1079 30)), some (zi 0), some (zi 1)] zd_14_52_26 (by decide) rfl ?_
      refine zz_goto zd_14_52_27 ?_
      refine zz_iload_n (x := 0) rfl zd_14_52_234 ?_
      refine zz_if_eq (by omega) zd_14_52_235 (fun c283 => ?_) (fun c283 => ?_)
      · refine zz_iconst zd_14_52_242 ?_
        have g284 := zz_G.r G_S276 1079 32 0 1500 rfl rfl
        have g285 := zz_G.r G_S276 1079 30 0 102 rfl rfl
        exact zz_iret zd_14_52_243 rfl (Nat.zero_le _) (Nat.zero_le _) ⟨_, _, rfl, G_S276, F_S276, by omega, by omega, by omega, (by have h9 := zt_pwA (tk := (zt_tm (S0 1099) (S0 1079 33))) (te := (zt_tn (S0 1099) (S0 1079 33))) (tv := (zt_tv (S0 1099) (S0 1079 33))) (c := S0 1079 30) (p := S0 1079 32) (K := S4 1079 30) (V := S4 1079 31) (m := 4095) (w := 5) (by omega) (by omega) (by omega); rw [h9.1, if_neg (by omega)]; rfl), fun h => absurd rfl h⟩
      · exfalso; omega
    · refine zz_istore_n [some (.ref 1079), some (zi (S0 1079 30)), some (zi 1), some (zi 1)] zd_14_52_26 (by decide) rfl ?_
      refine zz_goto zd_14_52_27 ?_
      refine zz_iload_n (x := 1) rfl zd_14_52_234 ?_
      refine zz_if_eq (by omega) zd_14_52_235 (fun c286 => ?_) (fun c286 => ?_)
      · exfalso; omega
      · refine zz_iload_n (x := 1) rfl zd_14_52_238 ?_
        refine zz_goto zd_14_52_239 ?_
        have g287 := zz_G.r G_S276 1079 32 0 1500 rfl rfl
        have g288 := zz_G.r G_S276 1079 30 0 102 rfl rfl
        exact zz_iret zd_14_52_243 rfl (Nat.zero_le _) (Nat.zero_le _) ⟨_, _, rfl, G_S276, F_S276, by omega, by omega, by omega, (by have h9 := zt_pwA (tk := (zt_tm (S0 1099) (S0 1079 33))) (te := (zt_tn (S0 1099) (S0 1079 33))) (tv := (zt_tv (S0 1099) (S0 1079 33))) (c := S0 1079 30) (p := S0 1079 32) (K := S4 1079 30) (V := S4 1079 31) (m := 4095) (w := 5) (by omega) (by omega) (by omega); rw [h9.1, if_pos (by omega)]; rfl), fun _ => (by have h9 := zt_pwA (tk := (zt_tm (S0 1099) (S0 1079 33))) (te := (zt_tn (S0 1099) (S0 1079 33))) (tv := (zt_tv (S0 1099) (S0 1079 33))) (c := S0 1079 30) (p := S0 1079 32) (K := S4 1079 30) (V := S4 1079 31) (m := 4095) (w := 5) (by omega) (by omega) (by omega); rw [h9.2, show zt_tn (S0 1099) (S0 1079 33) (S0 1079 32) = S4 1079 32 by omega]; omega)⟩

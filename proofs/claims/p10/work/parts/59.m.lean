-- TensorForgeModel setNumber (I)Z
abbrev zr_setNumber_14_51 : Room := { frames := 2, cells := 0, slots := 0, locals := 35 }
def zp_setNumber_14_51 (p0 : Int) (S0 : zz_S) : Int → zz_S → Prop := fun r S => zz_G S ∧ zz_fr [(1079, 30), (1079, 31), (1079, 32)] [1087] (fun _ _ => False) S0 S ∧ (0 ≤ r ∧ r ≤ 1) ∧ (S 1079 32 ≥ S0 1079 32) ∧ (r = 1 → S0 1079 30 = 100)
theorem zc_setNumber_14_51 {g : mm_G} {l : Launch} (p0 : Int) (S0 : zz_S) (n : Nat) (hn : zz_end ≤ n) (G_S0 : zz_G S0) (hp0 : 0 ≤ p0 ∧ p0 ≤ 11) : mm_Met g l zy_setNumber_14_51 zr_setNumber_14_51 [.ref 1079, zi p0] (zz_M S0 n) n (zz_QI n (zp_setNumber_14_51 p0 S0)) := by
  refine zz_enter (by decide) (Nat.le_of_ble_eq_true rfl) (zz_less (ls1 := [some (.ref 1079), some (zi p0)]) ⟨rfl, ⟨rfl, trivial⟩⟩ ?_)
  have F_S0 : zz_fr [(1079, 30), (1079, 31), (1079, 32)] [1087] (fun _ _ => False) S0 S0 := zz_fr.refl
  refine zz_aload_n (x := 1079) rfl zd_14_51_0 ?_
  have g1 := zz_G.r G_S0 1079 30 0 102 rfl rfl
  refine zz_geti (z := S0 1079 30) zd_14_51_1 zf_Md_347 zT_1079 rfl (zz_ltn hn rfl) rfl ?_
  refine zz_bipush (by decide) zd_14_51_4 ?_
  refine zz_icmp_ne (by omega) (by omega) zd_14_51_6 (fun c2 => ?_) (fun c2 => ?_)
  · refine zz_iconst zd_14_51_22 ?_
    have g3 := zz_G.r G_S0 1079 32 0 1500 rfl rfl
    exact zz_zret zd_14_51_23 rfl (by omega) (Nat.zero_le _) (Nat.zero_le _) ⟨_, _, rfl, G_S0, F_S0, by omega, by omega, by omega⟩
  · refine zz_aload_n (x := 1079) rfl zd_14_51_9 ?_
    have g4 := zz_G.r G_S0 1079 31 0 9999 rfl rfl
    refine zz_geti (z := S0 1079 31) zd_14_51_10 zf_Md_354 zT_1079 rfl (zz_ltn hn rfl) rfl ?_
    refine zz_iconst zd_14_51_13 ?_
    refine zz_iload_n (x := p0) rfl zd_14_51_14 ?_
    refine zz_callSI [zi p0] zd_14_51_15 zk_Md_215 rfl rfl ⟨Nat.le_of_ble_eq_true rfl, Nat.le_of_ble_eq_true rfl⟩ ⟨rfl, rfl⟩ (Nat.zero_le _) (Nat.zero_le _) (zc_bitsOf_14_11 p0 S0 n hn G_S0 (by omega)) (fun v6 S5 hP => ?_)
    obtain ⟨rfl, o7, o8⟩ := hP
    refine zz_ishl zd_14_51_18 (fun v9 hv9 ev9 => ?_)
    refine zz_icmp_lt (by omega) (by omega) zd_14_51_19 (fun c10 => ?_) (fun c10 => ?_)
    · refine zz_aload_n (x := 1079) rfl zd_14_51_24 ?_
      refine zz_getr (kd := 0) (z := 1087) zd_14_51_25 zf_Md_36 zT_1079 rfl (zz_ltn hn rfl) (zz_G.eq G_S0 1079 11 1087 rfl rfl) (by decide) 1087 rfl ?_
      refine zz_iload_n (x := p0) rfl zd_14_51_28 ?_
      refine zz_aload_n (x := 1079) rfl zd_14_51_29 ?_
      refine zz_geti (z := S0 1079 31) zd_14_51_30 zf_Md_354 zT_1079 rfl (zz_ltn hn rfl) rfl ?_
      refine zz_iast zd_14_51_33 zT_1087 rfl (zz_ltn hn rfl) (by decide) (by omega) (fun S11 qS11 => ?_)
      have G_S11 := zz_G.put G_S0 qS11 (-2147483648) 2147483647 rfl (by omega)
      have F_S11 := zz_fr.putc F_S0 qS11 rfl
      refine zz_aload_n (x := 1079) rfl zd_14_51_34 ?_
      have g12 := zz_G.r G_S0 1079 32 0 1500 rfl rfl
      have e13 : S11 1079 32 = S0 1079 32 := (zz_ro qS11 (fun h => absurd h.1 (by decide)) rfl)
      refine zz_callVV [] zd_14_51_35 zk_Md_359 zT_1079 (zz_ltn hn rfl) rfl rfl ⟨Nat.le_of_ble_eq_true rfl, Nat.le_of_ble_eq_true rfl⟩ ⟨rfl, rfl⟩ (Nat.zero_le _) (Nat.zero_le _) (zc_advance_14_49  S11 n hn G_S11 ) (fun S14 hP => ?_)
      obtain ⟨G_S14, fS14, o16, o17, o18⟩ := hP
      have F_S14 := zz_fr.trans F_S11 fS14 rfl zz_nv
      refine zz_iconst zd_14_51_38 ?_
      have g19 := zz_G.r G_S14 1079 32 0 1500 rfl rfl
      exact zz_zret zd_14_51_39 rfl (by omega) (Nat.zero_le _) (Nat.zero_le _) ⟨_, _, rfl, G_S14, F_S14, by omega, by omega, by omega⟩
    · refine zz_iconst zd_14_51_22 ?_
      have g20 := zz_G.r G_S0 1079 32 0 1500 rfl rfl
      exact zz_zret zd_14_51_23 rfl (by omega) (Nat.zero_le _) (Nat.zero_le _) ⟨_, _, rfl, G_S0, F_S0, by omega, by omega, by omega⟩
abbrev zy_part_14_52 : mm_Y := (⟨"TensorForgeModel", "part", "()I"⟩, prog_14_method_52_code, 5, (some .int))
theorem zyw_part_14_52 : mm_Yw zy_part_14_52 0 := ⟨mm_tb_1 2027 (by decide +kernel) rfl, mm_tb_1 12 (by decide +kernel) rfl, ⟨by decide, by decide⟩, by decide +kernel⟩
theorem zq_Md_365 : Cond.constantLong "TensorForgeModel" 365 (13 : Int64) ∈ mm_tb := mm_tb_1 2032 (by decide +kernel) rfl
theorem zq_Md_367 : Cond.constantLong "TensorForgeModel" 367 (16 : Int64) ∈ mm_tb := mm_tb_1 2033 (by decide +kernel) rfl
theorem zk_Md_362 : mm_Vl "TensorForgeModel" 362 11 1 zy_setNumber_14_51 := ⟨zyw_setNumber_14_51, (R_Md, F_Md, 69), rfl, mm_tb_1 2028 (by decide +kernel) rfl, mm_tb_1 2030 (by decide +kernel) rfl, mm_tb_s 112 (by decide +kernel) rfl⟩
theorem zg_14_52_0 : (decode zy_part_14_52.2.1 0 = .ok ((.aload_n 0), 1)) ∧ (decode zy_part_14_52.2.1 1 = .ok ((.getfield 347), 3)) ∧ (decode zy_part_14_52.2.1 4 = .ok ((.istore_n 1), 1)) ∧ (decode zy_part_14_52.2.1 5 = .ok ((.aload_n 0), 1)) ∧ (decode zy_part_14_52.2.1 6 = .ok ((.invokevirtual 359), 3)) ∧ (decode zy_part_14_52.2.1 9 = .ok ((.iconst 0), 1)) ∧ (decode zy_part_14_52.2.1 10 = .ok ((.istore_n 2), 1)) ∧ (decode zy_part_14_52.2.1 11 = .ok ((.iconst 0), 1)) ∧ (decode zy_part_14_52.2.1 12 = .ok ((.istore_n 3), 1)) ∧ (decode zy_part_14_52.2.1 13 = .ok ((.iload_n 1), 1)) := by decide +kernel
theorem zd_14_52_0 : zz_D zy_part_14_52 0 (.aload_n 0) 1 1 := ⟨zg_14_52_0.1, rfl⟩
theorem zd_14_52_1 : zz_D zy_part_14_52 1 (.getfield 347) 3 4 := ⟨zg_14_52_0.2.1, rfl⟩
theorem zd_14_52_4 : zz_D zy_part_14_52 4 (.istore_n 1) 1 5 := ⟨zg_14_52_0.2.2.1, rfl⟩
theorem zd_14_52_5 : zz_D zy_part_14_52 5 (.aload_n 0) 1 6 := ⟨zg_14_52_0.2.2.2.1, rfl⟩
theorem zd_14_52_6 : zz_D zy_part_14_52 6 (.invokevirtual 359) 3 9 := ⟨zg_14_52_0.2.2.2.2.1, rfl⟩
theorem zd_14_52_9 : zz_D zy_part_14_52 9 (.iconst 0) 1 10 := ⟨zg_14_52_0.2.2.2.2.2.1, rfl⟩
theorem zd_14_52_10 : zz_D zy_part_14_52 10 (.istore_n 2) 1 11 := ⟨zg_14_52_0.2.2.2.2.2.2.1, rfl⟩
theorem zd_14_52_11 : zz_D zy_part_14_52 11 (.iconst 0) 1 12 := ⟨zg_14_52_0.2.2.2.2.2.2.2.1, rfl⟩
theorem zd_14_52_12 : zz_D zy_part_14_52 12 (.istore_n 3) 1 13 := ⟨zg_14_52_0.2.2.2.2.2.2.2.2.1, rfl⟩
theorem zd_14_52_13 : zz_D zy_part_14_52 13 (.iload_n 1) 1 14 := ⟨zg_14_52_0.2.2.2.2.2.2.2.2.2, rfl⟩
theorem zg_14_52_14 : (decode zy_part_14_52.2.1 14 = .ok ((.bipush 10), 2)) ∧ (decode zy_part_14_52.2.1 16 = .ok ((Instr.if_icmp .ne) 14, 3)) ∧ (decode zy_part_14_52.2.1 30 = .ok ((.iload_n 1), 1)) ∧ (decode zy_part_14_52.2.1 31 = .ok ((.bipush 11), 2)) ∧ (decode zy_part_14_52.2.1 33 = .ok ((Instr.if_icmp .ne) 47, 3)) ∧ (decode zy_part_14_52.2.1 80 = .ok ((.iload_n 1), 1)) ∧ (decode zy_part_14_52.2.1 81 = .ok ((.i2l), 1)) ∧ (decode zy_part_14_52.2.1 82 = .ok ((.ldc2_w 365), 3)) ∧ (decode zy_part_14_52.2.1 85 = .ok ((.ldc2_w 367), 3)) ∧ (decode zy_part_14_52.2.1 88 = .ok ((.invokestatic 192), 3)) := by decide +kernel
theorem zd_14_52_14 : zz_D zy_part_14_52 14 (.bipush 10) 2 16 := ⟨zg_14_52_14.1, rfl⟩
theorem zd_14_52_16 : zz_B zy_part_14_52 16 (Instr.if_icmp .ne) 30 19 := ⟨14, zg_14_52_14.2.1, rfl, rfl⟩
theorem zd_14_52_30 : zz_D zy_part_14_52 30 (.iload_n 1) 1 31 := ⟨zg_14_52_14.2.2.1, rfl⟩
theorem zd_14_52_31 : zz_D zy_part_14_52 31 (.bipush 11) 2 33 := ⟨zg_14_52_14.2.2.2.1, rfl⟩
theorem zd_14_52_33 : zz_B zy_part_14_52 33 (Instr.if_icmp .ne) 80 36 := ⟨47, zg_14_52_14.2.2.2.2.1, rfl, rfl⟩
theorem zd_14_52_80 : zz_D zy_part_14_52 80 (.iload_n 1) 1 81 := ⟨zg_14_52_14.2.2.2.2.2.1, rfl⟩
theorem zd_14_52_81 : zz_D zy_part_14_52 81 (.i2l) 1 82 := ⟨zg_14_52_14.2.2.2.2.2.2.1, rfl⟩
theorem zd_14_52_82 : zz_D zy_part_14_52 82 (.ldc2_w 365) 3 85 := ⟨zg_14_52_14.2.2.2.2.2.2.2.1, rfl⟩
theorem zd_14_52_85 : zz_D zy_part_14_52 85 (.ldc2_w 367) 3 88 := ⟨zg_14_52_14.2.2.2.2.2.2.2.2.1, rfl⟩
theorem zd_14_52_88 : zz_D zy_part_14_52 88 (.invokestatic 192) 3 91 := ⟨zg_14_52_14.2.2.2.2.2.2.2.2.2, rfl⟩
theorem zg_14_52_91 : (decode zy_part_14_52.2.1 91 = .ok ((Instr.ifCond .eq) 55, 3)) ∧ (decode zy_part_14_52.2.1 146 = .ok ((.iload_n 1), 1)) ∧ (decode zy_part_14_52.2.1 147 = .ok ((.bipush 17), 2)) ∧ (decode zy_part_14_52.2.1 149 = .ok ((Instr.if_icmp .eq) 9, 3)) ∧ (decode zy_part_14_52.2.1 158 = .ok ((.iload_n 1), 1)) ∧ (decode zy_part_14_52.2.1 159 = .ok ((.bipush 17), 2)) ∧ (decode zy_part_14_52.2.1 161 = .ok ((Instr.if_icmp .ne) 7, 3)) ∧ (decode zy_part_14_52.2.1 164 = .ok ((.iconst 1), 1)) ∧ (decode zy_part_14_52.2.1 165 = .ok (Instr.goto 4, 3)) ∧ (decode zy_part_14_52.2.1 169 = .ok ((.aload_n 0), 1)) := by decide +kernel
theorem zd_14_52_91 : zz_B zy_part_14_52 91 (Instr.ifCond .eq) 146 94 := ⟨55, zg_14_52_91.1, rfl, rfl⟩
theorem zd_14_52_146 : zz_D zy_part_14_52 146 (.iload_n 1) 1 147 := ⟨zg_14_52_91.2.1, rfl⟩
theorem zd_14_52_147 : zz_D zy_part_14_52 147 (.bipush 17) 2 149 := ⟨zg_14_52_91.2.2.1, rfl⟩
theorem zd_14_52_149 : zz_B zy_part_14_52 149 (Instr.if_icmp .eq) 158 152 := ⟨9, zg_14_52_91.2.2.2.1, rfl, rfl⟩
theorem zd_14_52_158 : zz_D zy_part_14_52 158 (.iload_n 1) 1 159 := ⟨zg_14_52_91.2.2.2.2.1, rfl⟩
theorem zd_14_52_159 : zz_D zy_part_14_52 159 (.bipush 17) 2 161 := ⟨zg_14_52_91.2.2.2.2.2.1, rfl⟩
theorem zd_14_52_161 : zz_B zy_part_14_52 161 (Instr.if_icmp .ne) 168 164 := ⟨7, zg_14_52_91.2.2.2.2.2.2.1, rfl, rfl⟩
theorem zd_14_52_164 : zz_D zy_part_14_52 164 (.iconst 1) 1 165 := ⟨zg_14_52_91.2.2.2.2.2.2.2.1, rfl⟩
theorem zd_14_52_165 : zz_B zy_part_14_52 165 Instr.goto 169 168 := ⟨4, zg_14_52_91.2.2.2.2.2.2.2.2.1, rfl, rfl⟩
theorem zd_14_52_169 : zz_D zy_part_14_52 169 (.aload_n 0) 1 170 := ⟨zg_14_52_91.2.2.2.2.2.2.2.2.2, rfl⟩
theorem zg_14_52_170 : (decode zy_part_14_52.2.1 170 = .ok ((.getfield 347), 3)) ∧ (decode zy_part_14_52.2.1 173 = .ok ((.bipush 20), 2)) ∧ (decode zy_part_14_52.2.1 175 = .ok ((Instr.if_icmp .ne) 7, 3)) ∧ (decode zy_part_14_52.2.1 182 = .ok ((.iconst 0), 1)) ∧ (decode zy_part_14_52.2.1 183 = .ok ((.iadd), 1)) ∧ (decode zy_part_14_52.2.1 184 = .ok ((.istore 4), 2)) ∧ (decode zy_part_14_52.2.1 186 = .ok ((.iconst 1), 1)) ∧ (decode zy_part_14_52.2.1 187 = .ok ((.bipush 12), 2)) ∧ (decode zy_part_14_52.2.1 189 = .ok ((.iload 4), 2)) ∧ (decode zy_part_14_52.2.1 191 = .ok ((.iadd), 1)) := by decide +kernel
theorem zd_14_52_170 : zz_D zy_part_14_52 170 (.getfield 347) 3 173 := ⟨zg_14_52_170.1, rfl⟩
theorem zd_14_52_173 : zz_D zy_part_14_52 173 (.bipush 20) 2 175 := ⟨zg_14_52_170.2.1, rfl⟩
theorem zd_14_52_175 : zz_B zy_part_14_52 175 (Instr.if_icmp .ne) 182 178 := ⟨7, zg_14_52_170.2.2.1, rfl, rfl⟩
theorem zd_14_52_182 : zz_D zy_part_14_52 182 (.iconst 0) 1 183 := ⟨zg_14_52_170.2.2.2.1, rfl⟩
theorem zd_14_52_183 : zz_D zy_part_14_52 183 (.iadd) 1 184 := ⟨zg_14_52_170.2.2.2.2.1, rfl⟩
theorem zd_14_52_184 : zz_D zy_part_14_52 184 (.istore 4) 2 186 := ⟨zg_14_52_170.2.2.2.2.2.1, rfl⟩
theorem zd_14_52_186 : zz_D zy_part_14_52 186 (.iconst 1) 1 187 := ⟨zg_14_52_170.2.2.2.2.2.2.1, rfl⟩
theorem zd_14_52_187 : zz_D zy_part_14_52 187 (.bipush 12) 2 189 := ⟨zg_14_52_170.2.2.2.2.2.2.2.1, rfl⟩
theorem zd_14_52_189 : zz_D zy_part_14_52 189 (.iload 4) 2 191 := ⟨zg_14_52_170.2.2.2.2.2.2.2.2.1, rfl⟩
theorem zd_14_52_191 : zz_D zy_part_14_52 191 (.iadd) 1 192 := ⟨zg_14_52_170.2.2.2.2.2.2.2.2.2, rfl⟩
theorem zg_14_52_192 : (decode zy_part_14_52.2.1 192 = .ok ((.ishl), 1)) ∧ (decode zy_part_14_52.2.1 193 = .ok ((.istore_n 3), 1)) ∧ (decode zy_part_14_52.2.1 194 = .ok ((.aload_n 0), 1)) ∧ (decode zy_part_14_52.2.1 195 = .ok ((.getfield 347), 3)) ∧ (decode zy_part_14_52.2.1 198 = .ok ((.bipush 19), 2)) ∧ (decode zy_part_14_52.2.1 200 = .ok ((Instr.if_icmp .eq) 12, 3)) ∧ (decode zy_part_14_52.2.1 212 = .ok ((.iconst 1), 1)) ∧ (decode zy_part_14_52.2.1 213 = .ok (Instr.goto 4, 3)) ∧ (decode zy_part_14_52.2.1 217 = .ok ((.istore_n 2), 1)) ∧ (decode zy_part_14_52.2.1 218 = .ok ((.iload_n 2), 1)) := by decide +kernel
theorem zd_14_52_192 : zz_D zy_part_14_52 192 (.ishl) 1 193 := ⟨zg_14_52_192.1, rfl⟩
theorem zd_14_52_193 : zz_D zy_part_14_52 193 (.istore_n 3) 1 194 := ⟨zg_14_52_192.2.1, rfl⟩
theorem zd_14_52_194 : zz_D zy_part_14_52 194 (.aload_n 0) 1 195 := ⟨zg_14_52_192.2.2.1, rfl⟩
theorem zd_14_52_195 : zz_D zy_part_14_52 195 (.getfield 347) 3 198 := ⟨zg_14_52_192.2.2.2.1, rfl⟩
theorem zd_14_52_198 : zz_D zy_part_14_52 198 (.bipush 19) 2 200 := ⟨zg_14_52_192.2.2.2.2.1, rfl⟩
theorem zd_14_52_200 : zz_B zy_part_14_52 200 (Instr.if_icmp .eq) 212 203 := ⟨12, zg_14_52_192.2.2.2.2.2.1, rfl, rfl⟩
theorem zd_14_52_212 : zz_D zy_part_14_52 212 (.iconst 1) 1 213 := ⟨zg_14_52_192.2.2.2.2.2.2.1, rfl⟩
theorem zd_14_52_213 : zz_B zy_part_14_52 213 Instr.goto 217 216 := ⟨4, zg_14_52_192.2.2.2.2.2.2.2.1, rfl, rfl⟩
theorem zd_14_52_217 : zz_D zy_part_14_52 217 (.istore_n 2) 1 218 := ⟨zg_14_52_192.2.2.2.2.2.2.2.2.1, rfl⟩
theorem zd_14_52_218 : zz_D zy_part_14_52 218 (.iload_n 2) 1 219 := ⟨zg_14_52_192.2.2.2.2.2.2.2.2.2, rfl⟩
theorem zg_14_52_219 : (decode zy_part_14_52.2.1 219 = .ok ((Instr.ifCond .eq) 15, 3)) ∧ (decode zy_part_14_52.2.1 222 = .ok ((.aload_n 0), 1)) ∧ (decode zy_part_14_52.2.1 223 = .ok ((.getfield 36), 3)) ∧ (decode zy_part_14_52.2.1 226 = .ok ((.iload 4), 2)) ∧ (decode zy_part_14_52.2.1 228 = .ok ((.iconst 1), 1)) ∧ (decode zy_part_14_52.2.1 229 = .ok ((.iastore), 1)) ∧ (decode zy_part_14_52.2.1 230 = .ok ((.aload_n 0), 1)) ∧ (decode zy_part_14_52.2.1 231 = .ok ((.invokevirtual 359), 3)) ∧ (decode zy_part_14_52.2.1 234 = .ok ((.iload_n 2), 1)) ∧ (decode zy_part_14_52.2.1 235 = .ok ((Instr.ifCond .eq) 7, 3)) := by decide +kernel
theorem zd_14_52_219 : zz_B zy_part_14_52 219 (Instr.ifCond .eq) 234 222 := ⟨15, zg_14_52_219.1, rfl, rfl⟩
theorem zd_14_52_222 : zz_D zy_part_14_52 222 (.aload_n 0) 1 223 := ⟨zg_14_52_219.2.1, rfl⟩
theorem zd_14_52_223 : zz_D zy_part_14_52 223 (.getfield 36) 3 226 := ⟨zg_14_52_219.2.2.1, rfl⟩
theorem zd_14_52_226 : zz_D zy_part_14_52 226 (.iload 4) 2 228 := ⟨zg_14_52_219.2.2.2.1, rfl⟩
theorem zd_14_52_228 : zz_D zy_part_14_52 228 (.iconst 1) 1 229 := ⟨zg_14_52_219.2.2.2.2.1, rfl⟩
theorem zd_14_52_229 : zz_D zy_part_14_52 229 (.iastore) 1 230 := ⟨zg_14_52_219.2.2.2.2.2.1, rfl⟩
theorem zd_14_52_230 : zz_D zy_part_14_52 230 (.aload_n 0) 1 231 := ⟨zg_14_52_219.2.2.2.2.2.2.1, rfl⟩
theorem zd_14_52_231 : zz_D zy_part_14_52 231 (.invokevirtual 359) 3 234 := ⟨zg_14_52_219.2.2.2.2.2.2.2.1, rfl⟩
theorem zd_14_52_234 : zz_D zy_part_14_52 234 (.iload_n 2) 1 235 := ⟨zg_14_52_219.2.2.2.2.2.2.2.2.1, rfl⟩
theorem zd_14_52_235 : zz_B zy_part_14_52 235 (Instr.ifCond .eq) 242 238 := ⟨7, zg_14_52_219.2.2.2.2.2.2.2.2.2, rfl, rfl⟩
theorem zg_14_52_238 : (decode zy_part_14_52.2.1 238 = .ok ((.iload_n 3), 1)) ∧ (decode zy_part_14_52.2.1 239 = .ok (Instr.goto 4, 3)) ∧ (decode zy_part_14_52.2.1 243 = .ok ((.ireturn), 1)) ∧ (decode zy_part_14_52.2.1 203 = .ok ((.aload_n 0), 1)) ∧ (decode zy_part_14_52.2.1 204 = .ok ((.getfield 347), 3)) ∧ (decode zy_part_14_52.2.1 207 = .ok ((.bipush 20), 2)) ∧ (decode zy_part_14_52.2.1 209 = .ok ((Instr.if_icmp .ne) 7, 3)) ∧ (decode zy_part_14_52.2.1 216 = .ok ((.iconst 0), 1)) ∧ (decode zy_part_14_52.2.1 242 = .ok ((.iconst 0), 1)) ∧ (decode zy_part_14_52.2.1 178 = .ok ((.iconst 1), 1)) := by decide +kernel
theorem zd_14_52_238 : zz_D zy_part_14_52 238 (.iload_n 3) 1 239 := ⟨zg_14_52_238.1, rfl⟩
theorem zd_14_52_239 : zz_B zy_part_14_52 239 Instr.goto 243 242 := ⟨4, zg_14_52_238.2.1, rfl, rfl⟩
theorem zd_14_52_243 : zz_D zy_part_14_52 243 (.ireturn) 1 244 := ⟨zg_14_52_238.2.2.1, rfl⟩
theorem zd_14_52_203 : zz_D zy_part_14_52 203 (.aload_n 0) 1 204 := ⟨zg_14_52_238.2.2.2.1, rfl⟩
theorem zd_14_52_204 : zz_D zy_part_14_52 204 (.getfield 347) 3 207 := ⟨zg_14_52_238.2.2.2.2.1, rfl⟩
theorem zd_14_52_207 : zz_D zy_part_14_52 207 (.bipush 20) 2 209 := ⟨zg_14_52_238.2.2.2.2.2.1, rfl⟩
theorem zd_14_52_209 : zz_B zy_part_14_52 209 (Instr.if_icmp .ne) 216 212 := ⟨7, zg_14_52_238.2.2.2.2.2.2.1, rfl, rfl⟩
theorem zd_14_52_216 : zz_D zy_part_14_52 216 (.iconst 0) 1 217 := ⟨zg_14_52_238.2.2.2.2.2.2.2.1, rfl⟩
theorem zd_14_52_242 : zz_D zy_part_14_52 242 (.iconst 0) 1 243 := ⟨zg_14_52_238.2.2.2.2.2.2.2.2.1, rfl⟩
theorem zd_14_52_178 : zz_D zy_part_14_52 178 (.iconst 1) 1 179 := ⟨zg_14_52_238.2.2.2.2.2.2.2.2.2, rfl⟩
theorem zg_14_52_179 : (decode zy_part_14_52.2.1 179 = .ok (Instr.goto 4, 3)) ∧ (decode zy_part_14_52.2.1 152 = .ok ((.iload_n 1), 1)) ∧ (decode zy_part_14_52.2.1 153 = .ok ((.bipush 18), 2)) ∧ (decode zy_part_14_52.2.1 155 = .ok ((Instr.if_icmp .ne) 79, 3)) ∧ (decode zy_part_14_52.2.1 168 = .ok ((.iconst 3), 1)) ∧ (decode zy_part_14_52.2.1 94 = .ok ((.iload_n 1), 1)) ∧ (decode zy_part_14_52.2.1 95 = .ok ((.bipush 13), 2)) ∧ (decode zy_part_14_52.2.1 97 = .ok ((Instr.if_icmp .ne) 8, 3)) ∧ (decode zy_part_14_52.2.1 105 = .ok ((.iload_n 1), 1)) ∧ (decode zy_part_14_52.2.1 106 = .ok ((.bipush 14), 2)) := by decide +kernel
theorem zd_14_52_179 : zz_B zy_part_14_52 179 Instr.goto 183 182 := ⟨4, zg_14_52_179.1, rfl, rfl⟩
theorem zd_14_52_152 : zz_D zy_part_14_52 152 (.iload_n 1) 1 153 := ⟨zg_14_52_179.2.1, rfl⟩
theorem zd_14_52_153 : zz_D zy_part_14_52 153 (.bipush 18) 2 155 := ⟨zg_14_52_179.2.2.1, rfl⟩
theorem zd_14_52_155 : zz_B zy_part_14_52 155 (Instr.if_icmp .ne) 234 158 := ⟨79, zg_14_52_179.2.2.2.1, rfl, rfl⟩
theorem zd_14_52_168 : zz_D zy_part_14_52 168 (.iconst 3) 1 169 := ⟨zg_14_52_179.2.2.2.2.1, rfl⟩
theorem zd_14_52_94 : zz_D zy_part_14_52 94 (.iload_n 1) 1 95 := ⟨zg_14_52_179.2.2.2.2.2.1, rfl⟩
theorem zd_14_52_95 : zz_D zy_part_14_52 95 (.bipush 13) 2 97 := ⟨zg_14_52_179.2.2.2.2.2.2.1, rfl⟩
theorem zd_14_52_97 : zz_B zy_part_14_52 97 (Instr.if_icmp .ne) 105 100 := ⟨8, zg_14_52_179.2.2.2.2.2.2.2.1, rfl, rfl⟩
theorem zd_14_52_105 : zz_D zy_part_14_52 105 (.iload_n 1) 1 106 := ⟨zg_14_52_179.2.2.2.2.2.2.2.2.1, rfl⟩
theorem zd_14_52_106 : zz_D zy_part_14_52 106 (.bipush 14) 2 108 := ⟨zg_14_52_179.2.2.2.2.2.2.2.2.2, rfl⟩
theorem zg_14_52_108 : (decode zy_part_14_52.2.1 108 = .ok ((Instr.if_icmp .ne) 8, 3)) ∧ (decode zy_part_14_52.2.1 116 = .ok ((.iload_n 1), 1)) ∧ (decode zy_part_14_52.2.1 117 = .ok ((.bipush 15), 2)) ∧ (decode zy_part_14_52.2.1 119 = .ok ((Instr.if_icmp .ne) 8, 3)) ∧ (decode zy_part_14_52.2.1 127 = .ok ((.bipush 11), 2)) ∧ (decode zy_part_14_52.2.1 129 = .ok ((.istore 4), 2)) ∧ (decode zy_part_14_52.2.1 131 = .ok ((.iconst 1), 1)) ∧ (decode zy_part_14_52.2.1 132 = .ok ((.iload 4), 2)) ∧ (decode zy_part_14_52.2.1 134 = .ok ((.ishl), 1)) ∧ (decode zy_part_14_52.2.1 135 = .ok ((.istore_n 3), 1)) := by decide +kernel
theorem zd_14_52_108 : zz_B zy_part_14_52 108 (Instr.if_icmp .ne) 116 111 := ⟨8, zg_14_52_108.1, rfl, rfl⟩
theorem zd_14_52_116 : zz_D zy_part_14_52 116 (.iload_n 1) 1 117 := ⟨zg_14_52_108.2.1, rfl⟩
theorem zd_14_52_117 : zz_D zy_part_14_52 117 (.bipush 15) 2 119 := ⟨zg_14_52_108.2.2.1, rfl⟩
theorem zd_14_52_119 : zz_B zy_part_14_52 119 (Instr.if_icmp .ne) 127 122 := ⟨8, zg_14_52_108.2.2.2.1, rfl, rfl⟩
theorem zd_14_52_127 : zz_D zy_part_14_52 127 (.bipush 11) 2 129 := ⟨zg_14_52_108.2.2.2.2.1, rfl⟩
theorem zd_14_52_129 : zz_D zy_part_14_52 129 (.istore 4) 2 131 := ⟨zg_14_52_108.2.2.2.2.2.1, rfl⟩
theorem zd_14_52_131 : zz_D zy_part_14_52 131 (.iconst 1) 1 132 := ⟨zg_14_52_108.2.2.2.2.2.2.1, rfl⟩
theorem zd_14_52_132 : zz_D zy_part_14_52 132 (.iload 4) 2 134 := ⟨zg_14_52_108.2.2.2.2.2.2.2.1, rfl⟩
theorem zd_14_52_134 : zz_D zy_part_14_52 134 (.ishl) 1 135 := ⟨zg_14_52_108.2.2.2.2.2.2.2.2.1, rfl⟩
theorem zd_14_52_135 : zz_D zy_part_14_52 135 (.istore_n 3) 1 136 := ⟨zg_14_52_108.2.2.2.2.2.2.2.2.2, rfl⟩
theorem zg_14_52_136 : (decode zy_part_14_52.2.1 136 = .ok ((.aload_n 0), 1)) ∧ (decode zy_part_14_52.2.1 137 = .ok ((.iload 4), 2)) ∧ (decode zy_part_14_52.2.1 139 = .ok ((.invokevirtual 362), 3)) ∧ (decode zy_part_14_52.2.1 142 = .ok ((.istore_n 2), 1)) ∧ (decode zy_part_14_52.2.1 143 = .ok (Instr.goto 91, 3)) ∧ (decode zy_part_14_52.2.1 122 = .ok ((.bipush 10), 2)) ∧ (decode zy_part_14_52.2.1 124 = .ok (Instr.goto 5, 3)) ∧ (decode zy_part_14_52.2.1 111 = .ok ((.bipush 9), 2)) ∧ (decode zy_part_14_52.2.1 113 = .ok (Instr.goto 16, 3)) ∧ (decode zy_part_14_52.2.1 100 = .ok ((.bipush 8), 2)) := by decide +kernel
theorem zd_14_52_136 : zz_D zy_part_14_52 136 (.aload_n 0) 1 137 := ⟨zg_14_52_136.1, rfl⟩
theorem zd_14_52_137 : zz_D zy_part_14_52 137 (.iload 4) 2 139 := ⟨zg_14_52_136.2.1, rfl⟩
theorem zd_14_52_139 : zz_D zy_part_14_52 139 (.invokevirtual 362) 3 142 := ⟨zg_14_52_136.2.2.1, rfl⟩
theorem zd_14_52_142 : zz_D zy_part_14_52 142 (.istore_n 2) 1 143 := ⟨zg_14_52_136.2.2.2.1, rfl⟩
theorem zd_14_52_143 : zz_B zy_part_14_52 143 Instr.goto 234 146 := ⟨91, zg_14_52_136.2.2.2.2.1, rfl, rfl⟩
theorem zd_14_52_122 : zz_D zy_part_14_52 122 (.bipush 10) 2 124 := ⟨zg_14_52_136.2.2.2.2.2.1, rfl⟩
theorem zd_14_52_124 : zz_B zy_part_14_52 124 Instr.goto 129 127 := ⟨5, zg_14_52_136.2.2.2.2.2.2.1, rfl, rfl⟩
theorem zd_14_52_111 : zz_D zy_part_14_52 111 (.bipush 9) 2 113 := ⟨zg_14_52_136.2.2.2.2.2.2.2.1, rfl⟩
theorem zd_14_52_113 : zz_B zy_part_14_52 113 Instr.goto 129 116 := ⟨16, zg_14_52_136.2.2.2.2.2.2.2.2.1, rfl, rfl⟩
theorem zd_14_52_100 : zz_D zy_part_14_52 100 (.bipush 8) 2 102 := ⟨zg_14_52_136.2.2.2.2.2.2.2.2.2, rfl⟩
theorem zg_14_52_102 : (decode zy_part_14_52.2.1 102 = .ok (Instr.goto 27, 3)) ∧ (decode zy_part_14_52.2.1 36 = .ok ((.iconst 2), 1)) ∧ (decode zy_part_14_52.2.1 37 = .ok ((.istore_n 3), 1)) ∧ (decode zy_part_14_52.2.1 38 = .ok ((.aload_n 0), 1)) ∧ (decode zy_part_14_52.2.1 39 = .ok ((.bipush 6), 2)) ∧ (decode zy_part_14_52.2.1 41 = .ok ((.invokevirtual 362), 3)) ∧ (decode zy_part_14_52.2.1 44 = .ok ((Instr.ifCond .eq) 16, 3)) ∧ (decode zy_part_14_52.2.1 60 = .ok ((.iconst 0), 1)) ∧ (decode zy_part_14_52.2.1 61 = .ok ((.istore_n 2), 1)) ∧ (decode zy_part_14_52.2.1 62 = .ok ((.iload_n 2), 1)) := by decide +kernel
theorem zd_14_52_102 : zz_B zy_part_14_52 102 Instr.goto 129 105 := ⟨27, zg_14_52_102.1, rfl, rfl⟩
theorem zd_14_52_36 : zz_D zy_part_14_52 36 (.iconst 2) 1 37 := ⟨zg_14_52_102.2.1, rfl⟩
theorem zd_14_52_37 : zz_D zy_part_14_52 37 (.istore_n 3) 1 38 := ⟨zg_14_52_102.2.2.1, rfl⟩
theorem zd_14_52_38 : zz_D zy_part_14_52 38 (.aload_n 0) 1 39 := ⟨zg_14_52_102.2.2.2.1, rfl⟩
theorem zd_14_52_39 : zz_D zy_part_14_52 39 (.bipush 6) 2 41 := ⟨zg_14_52_102.2.2.2.2.1, rfl⟩
theorem zd_14_52_41 : zz_D zy_part_14_52 41 (.invokevirtual 362) 3 44 := ⟨zg_14_52_102.2.2.2.2.2.1, rfl⟩
theorem zd_14_52_44 : zz_B zy_part_14_52 44 (Instr.ifCond .eq) 60 47 := ⟨16, zg_14_52_102.2.2.2.2.2.2.1, rfl, rfl⟩
theorem zd_14_52_60 : zz_D zy_part_14_52 60 (.iconst 0) 1 61 := ⟨zg_14_52_102.2.2.2.2.2.2.2.1, rfl⟩
theorem zd_14_52_61 : zz_D zy_part_14_52 61 (.istore_n 2) 1 62 := ⟨zg_14_52_102.2.2.2.2.2.2.2.2.1, rfl⟩
theorem zd_14_52_62 : zz_D zy_part_14_52 62 (.iload_n 2) 1 63 := ⟨zg_14_52_102.2.2.2.2.2.2.2.2.2, rfl⟩
theorem zg_14_52_63 : (decode zy_part_14_52.2.1 63 = .ok ((Instr.ifCond .eq) 171, 3)) ∧ (decode zy_part_14_52.2.1 47 = .ok ((.aload_n 0), 1)) ∧ (decode zy_part_14_52.2.1 48 = .ok ((.getfield 347), 3)) ∧ (decode zy_part_14_52.2.1 51 = .ok ((.bipush 12), 2)) ∧ (decode zy_part_14_52.2.1 53 = .ok ((Instr.if_icmp .ne) 7, 3)) ∧ (decode zy_part_14_52.2.1 56 = .ok ((.iconst 1), 1)) ∧ (decode zy_part_14_52.2.1 57 = .ok (Instr.goto 4, 3)) ∧ (decode zy_part_14_52.2.1 66 = .ok ((.aload_n 0), 1)) ∧ (decode zy_part_14_52.2.1 67 = .ok ((.invokevirtual 359), 3)) ∧ (decode zy_part_14_52.2.1 70 = .ok ((.aload_n 0), 1)) := by decide +kernel
theorem zd_14_52_63 : zz_B zy_part_14_52 63 (Instr.ifCond .eq) 234 66 := ⟨171, zg_14_52_63.1, rfl, rfl⟩
theorem zd_14_52_47 : zz_D zy_part_14_52 47 (.aload_n 0) 1 48 := ⟨zg_14_52_63.2.1, rfl⟩
theorem zd_14_52_48 : zz_D zy_part_14_52 48 (.getfield 347) 3 51 := ⟨zg_14_52_63.2.2.1, rfl⟩
theorem zd_14_52_51 : zz_D zy_part_14_52 51 (.bipush 12) 2 53 := ⟨zg_14_52_63.2.2.2.1, rfl⟩
theorem zd_14_52_53 : zz_B zy_part_14_52 53 (Instr.if_icmp .ne) 60 56 := ⟨7, zg_14_52_63.2.2.2.2.1, rfl, rfl⟩
theorem zd_14_52_56 : zz_D zy_part_14_52 56 (.iconst 1) 1 57 := ⟨zg_14_52_63.2.2.2.2.2.1, rfl⟩
theorem zd_14_52_57 : zz_B zy_part_14_52 57 Instr.goto 61 60 := ⟨4, zg_14_52_63.2.2.2.2.2.2.1, rfl, rfl⟩
theorem zd_14_52_66 : zz_D zy_part_14_52 66 (.aload_n 0) 1 67 := ⟨zg_14_52_63.2.2.2.2.2.2.2.1, rfl⟩
theorem zd_14_52_67 : zz_D zy_part_14_52 67 (.invokevirtual 359) 3 70 := ⟨zg_14_52_63.2.2.2.2.2.2.2.2.1, rfl⟩
theorem zd_14_52_70 : zz_D zy_part_14_52 70 (.aload_n 0) 1 71 := ⟨zg_14_52_63.2.2.2.2.2.2.2.2.2, rfl⟩
theorem zg_14_52_71 : (decode zy_part_14_52.2.1 71 = .ok ((.bipush 7), 2)) ∧ (decode zy_part_14_52.2.1 73 = .ok ((.invokevirtual 362), 3)) ∧ (decode zy_part_14_52.2.1 76 = .ok ((.istore_n 2), 1)) ∧ (decode zy_part_14_52.2.1 77 = .ok (Instr.goto 157, 3)) ∧ (decode zy_part_14_52.2.1 19 = .ok ((.iconst 1), 1)) ∧ (decode zy_part_14_52.2.1 20 = .ok ((.istore_n 3), 1)) ∧ (decode zy_part_14_52.2.1 21 = .ok ((.aload_n 0), 1)) ∧ (decode zy_part_14_52.2.1 22 = .ok ((.iconst 5), 1)) ∧ (decode zy_part_14_52.2.1 23 = .ok ((.invokevirtual 362), 3)) ∧ (decode zy_part_14_52.2.1 26 = .ok ((.istore_n 2), 1)) := by decide +kernel
theorem zd_14_52_71 : zz_D zy_part_14_52 71 (.bipush 7) 2 73 := ⟨zg_14_52_71.1, rfl⟩
theorem zd_14_52_73 : zz_D zy_part_14_52 73 (.invokevirtual 362) 3 76 := ⟨zg_14_52_71.2.1, rfl⟩
theorem zd_14_52_76 : zz_D zy_part_14_52 76 (.istore_n 2) 1 77 := ⟨zg_14_52_71.2.2.1, rfl⟩
theorem zd_14_52_77 : zz_B zy_part_14_52 77 Instr.goto 234 80 := ⟨157, zg_14_52_71.2.2.2.1, rfl, rfl⟩
theorem zd_14_52_19 : zz_D zy_part_14_52 19 (.iconst 1) 1 20 := ⟨zg_14_52_71.2.2.2.2.1, rfl⟩
theorem zd_14_52_20 : zz_D zy_part_14_52 20 (.istore_n 3) 1 21 := ⟨zg_14_52_71.2.2.2.2.2.1, rfl⟩
theorem zd_14_52_21 : zz_D zy_part_14_52 21 (.aload_n 0) 1 22 := ⟨zg_14_52_71.2.2.2.2.2.2.1, rfl⟩
theorem zd_14_52_22 : zz_D zy_part_14_52 22 (.iconst 5) 1 23 := ⟨zg_14_52_71.2.2.2.2.2.2.2.1, rfl⟩
theorem zd_14_52_23 : zz_D zy_part_14_52 23 (.invokevirtual 362) 3 26 := ⟨zg_14_52_71.2.2.2.2.2.2.2.2.1, rfl⟩
theorem zd_14_52_26 : zz_D zy_part_14_52 26 (.istore_n 2) 1 27 := ⟨zg_14_52_71.2.2.2.2.2.2.2.2.2, rfl⟩
theorem zd_14_52_27 : zz_B zy_part_14_52 27 Instr.goto 234 30 := ⟨207, by decide +kernel, rfl, rfl⟩
-- TensorForgeModel part ()I
abbrev zr_part_14_52 : Room := { frames := 3, cells := 0, slots := 0, locals := 48 }
def zp_part_14_52  (S0 : zz_S) : Int → zz_S → Prop := fun r S => zz_G S ∧ zz_fr [(1079, 30), (1079, 31), (1079, 32)] [1087] (fun _ _ => False) S0 S ∧ ((-2147483648) ≤ r ∧ r ≤ 2147483647) ∧ (S 1079 32 ≥ S0 1079 32) ∧ (r ≠ 0 → S 1079 32 > S0 1079 32)
theorem zc_part_14_52 {g : mm_G} {l : Launch}  (S0 : zz_S) (n : Nat) (hn : zz_end ≤ n) (G_S0 : zz_G S0)  : mm_Met g l zy_part_14_52 zr_part_14_52 [.ref 1079] (zz_M S0 n) n (zz_QI n (zp_part_14_52  S0)) := by
  refine zz_enter (by decide) (Nat.le_of_ble_eq_true rfl) (zz_less (ls1 := [some (.ref 1079)]) ⟨rfl, trivial⟩ ?_)
  have F_S0 : zz_fr [(1079, 30), (1079, 31), (1079, 32)] [1087] (fun _ _ => False) S0 S0 := zz_fr.refl
  refine zz_aload_n (x := 1079) rfl zd_14_52_0 ?_
  have g1 := zz_G.r G_S0 1079 30 0 102 rfl rfl
  refine zz_geti (z := S0 1079 30) zd_14_52_1 zf_Md_347 zT_1079 rfl (zz_ltn hn rfl) rfl ?_
  refine zz_istore_n [some (.ref 1079), some (zi (S0 1079 30))] zd_14_52_4 (by decide) rfl ?_
  refine zz_aload_n (x := 1079) rfl zd_14_52_5 ?_
  have g2 := zz_G.r G_S0 1079 32 0 1500 rfl rfl
  refine zz_callVV [] zd_14_52_6 zk_Md_359 zT_1079 (zz_ltn hn rfl) rfl rfl ⟨Nat.le_of_ble_eq_true rfl, Nat.le_of_ble_eq_true rfl⟩ ⟨rfl, rfl⟩ (Nat.zero_le _) (Nat.zero_le _) (zc_advance_14_49  S0 n hn G_S0 ) (fun S3 hP => ?_)
  obtain ⟨G_S3, fS3, o5, o6, o7⟩ := hP
  have F_S3 := zz_fr.trans F_S0 fS3 rfl zz_nv
  refine zz_iconst zd_14_52_9 ?_
  refine zz_istore_n [some (.ref 1079), some (zi (S0 1079 30)), some (zi 0)] zd_14_52_10 (by decide) rfl ?_
  refine zz_iconst zd_14_52_11 ?_
  refine zz_istore_n [some (.ref 1079), some (zi (S0 1079 30)), some (zi 0), some (zi 0)] zd_14_52_12 (by decide) rfl ?_
  refine zz_iload_n (x := S0 1079 30) rfl zd_14_52_13 ?_
  refine zz_bipush (by decide) zd_14_52_14 ?_
  refine zz_icmp_ne (by omega) (by omega) zd_14_52_16 (fun c8 => ?_) (fun c8 => ?_)
  · refine zz_iload_n (x := S0 1079 30) rfl zd_14_52_30 ?_
    refine zz_bipush (by decide) zd_14_52_31 ?_
    refine zz_icmp_ne (by omega) (by omega) zd_14_52_33 (fun c9 => ?_) (fun c9 => ?_)
    · refine zz_iload_n (x := S0 1079 30) rfl zd_14_52_80 ?_
      refine zz_i2l (by omega) zd_14_52_81 ?_
      refine zz_ldc2 (z := 13) zq_Md_365 (by decide) zd_14_52_82 ?_
      refine zz_ldc2 (z := 16) zq_Md_367 (by decide) zd_14_52_85 ?_
      refine zz_callSI [zl (S0 1079 30), zl 13, zl 16] zd_14_52_88 zk_Md_192 rfl rfl ⟨Nat.le_of_ble_eq_true rfl, Nat.le_of_ble_eq_true rfl⟩ ⟨rfl, rfl⟩ (Nat.zero_le _) (Nat.zero_le _) (zc_in_14_4 (S0 1079 30) 13 16 S3 n hn G_S3 (by omega) (by omega) (by omega)) (fun v11 S10 hP => ?_)
      obtain ⟨rfl, o12, o13⟩ := hP
      rcases (by omega : v11 = 0 ∨ v11 = 1) with rfl | rfl
      · have n14 : S0 1079 30 < 13 ∨ 16 < S0 1079 30 := by omega
        clear o13
        refine zz_if_eq (by omega) zd_14_52_91 (fun c15 => ?_) (fun c15 => ?_)
        · refine zz_iload_n (x := S0 1079 30) rfl zd_14_52_146 ?_
          refine zz_bipush (by decide) zd_14_52_147 ?_
          refine zz_icmp_eq (by omega) (by omega) zd_14_52_149 (fun c16 => ?_) (fun c16 => ?_)
          · refine zz_iload_n (x := S0 1079 30) rfl zd_14_52_158 ?_
            refine zz_bipush (by decide) zd_14_52_159 ?_
            refine zz_icmp_ne (by omega) (by omega) zd_14_52_161 (fun c17 => ?_) (fun c17 => ?_)
            · exfalso; omega
            · refine zz_iconst zd_14_52_164 ?_
              refine zz_goto zd_14_52_165 ?_
              refine zz_aload_n (x := 1079) rfl zd_14_52_169 ?_
              have g18 := zz_G.r G_S3 1079 30 0 102 rfl rfl
              refine zz_geti (z := S3 1079 30) zd_14_52_170 zf_Md_347 zT_1079 rfl (zz_ltn hn rfl) rfl ?_
              refine zz_bipush (by decide) zd_14_52_173 ?_
              refine zz_icmp_ne (by omega) (by omega) zd_14_52_175 (fun c19 => ?_) (fun c19 => ?_)
              · refine zz_iconst zd_14_52_182 ?_
                refine zz_iadd zd_14_52_183 ?_
                refine zz_istore [some (.ref 1079), some (zi (S0 1079 30)), some (zi 0), some (zi 0), some (zi (1 + 0))] zd_14_52_184 (by decide) rfl ?_
                refine zz_iconst zd_14_52_186 ?_
                refine zz_bipush (by decide) zd_14_52_187 ?_
                refine zz_iload (x := 1 + 0) rfl zd_14_52_189 ?_
                refine zz_iadd zd_14_52_191 ?_
                refine zz_ishl zd_14_52_192 (fun v20 hv20 ev20 => ?_)
                refine zz_istore_n [some (.ref 1079), some (zi (S0 1079 30)), some (zi 0), some (zi v20), some (zi (1 + 0))] zd_14_52_193 (by decide) rfl ?_
                refine zz_aload_n (x := 1079) rfl zd_14_52_194 ?_
                refine zz_geti (z := S3 1079 30) zd_14_52_195 zf_Md_347 zT_1079 rfl (zz_ltn hn rfl) rfl ?_
                refine zz_bipush (by decide) zd_14_52_198 ?_
                refine zz_icmp_eq (by omega) (by omega) zd_14_52_200 (fun c21 => ?_) (fun c21 => ?_)
                · refine zz_iconst zd_14_52_212 ?_
                  refine zz_goto zd_14_52_213 ?_
                  refine zz_istore_n [some (.ref 1079), some (zi (S0 1079 30)), some (zi 1), some (zi v20), some (zi (1 + 0))] zd_14_52_217 (by decide) rfl ?_
                  refine zz_iload_n (x := 1) rfl zd_14_52_218 ?_
                  refine zz_if_eq (by omega) zd_14_52_219 (fun c22 => ?_) (fun c22 => ?_)
                  · exfalso; omega
                  · refine zz_aload_n (x := 1079) rfl zd_14_52_222 ?_
                    refine zz_getr (kd := 0) (z := 1087) zd_14_52_223 zf_Md_36 zT_1079 rfl (zz_ltn hn rfl) (zz_G.eq G_S3 1079 11 1087 rfl rfl) (by decide) 1087 rfl ?_
                    refine zz_iload (x := 1 + 0) rfl zd_14_52_226 ?_
                    refine zz_iconst zd_14_52_228 ?_
                    refine zz_iast zd_14_52_229 zT_1087 rfl (zz_ltn hn rfl) (by decide) (by omega) (fun S23 qS23 => ?_)
                    have G_S23 := zz_G.put G_S3 qS23 (-2147483648) 2147483647 rfl (by omega)
                    have F_S23 := zz_fr.putc F_S3 qS23 rfl
                    refine zz_aload_n (x := 1079) rfl zd_14_52_230 ?_
                    have g24 := zz_G.r G_S3 1079 32 0 1500 rfl rfl
                    have e25 : S23 1079 32 = S3 1079 32 := (zz_ro qS23 (fun h => absurd h.1 (by decide)) rfl)
                    refine zz_callVV [] zd_14_52_231 zk_Md_359 zT_1079 (zz_ltn hn rfl) rfl rfl ⟨Nat.le_of_ble_eq_true rfl, Nat.le_of_ble_eq_true rfl⟩ ⟨rfl, rfl⟩ (Nat.zero_le _) (Nat.zero_le _) (zc_advance_14_49  S23 n hn G_S23 ) (fun S26 hP => ?_)
                    obtain ⟨G_S26, fS26, o28, o29, o30⟩ := hP
                    have F_S26 := zz_fr.trans F_S23 fS26 rfl zz_nv
                    refine zz_iload_n (x := 1) rfl zd_14_52_234 ?_
                    refine zz_if_eq (by omega) zd_14_52_235 (fun c31 => ?_) (fun c31 => ?_)
                    · exfalso; omega
                    · refine zz_iload_n (x := v20) rfl zd_14_52_238 ?_
                      refine zz_goto zd_14_52_239 ?_
                      have g32 := zz_G.r G_S26 1079 32 0 1500 rfl rfl
                      exact zz_iret zd_14_52_243 rfl (Nat.zero_le _) (Nat.zero_le _) ⟨_, _, rfl, G_S26, F_S26, by omega, by omega, by omega⟩
                · refine zz_aload_n (x := 1079) rfl zd_14_52_203 ?_
                  refine zz_geti (z := S3 1079 30) zd_14_52_204 zf_Md_347 zT_1079 rfl (zz_ltn hn rfl) rfl ?_
                  refine zz_bipush (by decide) zd_14_52_207 ?_
                  refine zz_icmp_ne (by omega) (by omega) zd_14_52_209 (fun c33 => ?_) (fun c33 => ?_)
                  · refine zz_iconst zd_14_52_216 ?_
                    refine zz_istore_n [some (.ref 1079), some (zi (S0 1079 30)), some (zi 0), some (zi v20), some (zi (1 + 0))] zd_14_52_217 (by decide) rfl ?_
                    refine zz_iload_n (x := 0) rfl zd_14_52_218 ?_
                    refine zz_if_eq (by omega) zd_14_52_219 (fun c34 => ?_) (fun c34 => ?_)
                    · refine zz_iload_n (x := 0) rfl zd_14_52_234 ?_
                      refine zz_if_eq (by omega) zd_14_52_235 (fun c35 => ?_) (fun c35 => ?_)
                      · refine zz_iconst zd_14_52_242 ?_
                        have g36 := zz_G.r G_S3 1079 32 0 1500 rfl rfl
                        exact zz_iret zd_14_52_243 rfl (Nat.zero_le _) (Nat.zero_le _) ⟨_, _, rfl, G_S3, F_S3, by omega, by omega, by omega⟩
                      · exfalso; omega
                    · exfalso; omega
                  · refine zz_iconst zd_14_52_212 ?_
                    refine zz_goto zd_14_52_213 ?_
                    refine zz_istore_n [some (.ref 1079), some (zi (S0 1079 30)), some (zi 1), some (zi v20), some (zi (1 + 0))] zd_14_52_217 (by decide) rfl ?_
                    refine zz_iload_n (x := 1) rfl zd_14_52_218 ?_
                    refine zz_if_eq (by omega) zd_14_52_219 (fun c37 => ?_) (fun c37 => ?_)
                    · exfalso; omega
                    · refine zz_aload_n (x := 1079) rfl zd_14_52_222 ?_
                      refine zz_getr (kd := 0) (z := 1087) zd_14_52_223 zf_Md_36 zT_1079 rfl (zz_ltn hn rfl) (zz_G.eq G_S3 1079 11 1087 rfl rfl) (by decide) 1087 rfl ?_
                      refine zz_iload (x := 1 + 0) rfl zd_14_52_226 ?_
                      refine zz_iconst zd_14_52_228 ?_
                      refine zz_iast zd_14_52_229 zT_1087 rfl (zz_ltn hn rfl) (by decide) (by omega) (fun S38 qS38 => ?_)
                      have G_S38 := zz_G.put G_S3 qS38 (-2147483648) 2147483647 rfl (by omega)
                      have F_S38 := zz_fr.putc F_S3 qS38 rfl
                      refine zz_aload_n (x := 1079) rfl zd_14_52_230 ?_
                      have g39 := zz_G.r G_S3 1079 32 0 1500 rfl rfl
                      have e40 : S38 1079 32 = S3 1079 32 := (zz_ro qS38 (fun h => absurd h.1 (by decide)) rfl)
                      refine zz_callVV [] zd_14_52_231 zk_Md_359 zT_1079 (zz_ltn hn rfl) rfl rfl ⟨Nat.le_of_ble_eq_true rfl, Nat.le_of_ble_eq_true rfl⟩ ⟨rfl, rfl⟩ (Nat.zero_le _) (Nat.zero_le _) (zc_advance_14_49  S38 n hn G_S38 ) (fun S41 hP => ?_)
                      obtain ⟨G_S41, fS41, o43, o44, o45⟩ := hP
                      have F_S41 := zz_fr.trans F_S38 fS41 rfl zz_nv
                      refine zz_iload_n (x := 1) rfl zd_14_52_234 ?_
                      refine zz_if_eq (by omega) zd_14_52_235 (fun c46 => ?_) (fun c46 => ?_)
                      · exfalso; omega
                      · refine zz_iload_n (x := v20) rfl zd_14_52_238 ?_
                        refine zz_goto zd_14_52_239 ?_
                        have g47 := zz_G.r G_S41 1079 32 0 1500 rfl rfl
                        exact zz_iret zd_14_52_243 rfl (Nat.zero_le _) (Nat.zero_le _) ⟨_, _, rfl, G_S41, F_S41, by omega, by omega, by omega⟩
              · refine zz_iconst zd_14_52_178 ?_
                refine zz_goto zd_14_52_179 ?_
                refine zz_iadd zd_14_52_183 ?_
                refine zz_istore [some (.ref 1079), some (zi (S0 1079 30)), some (zi 0), some (zi 0), some (zi (1 + 1))] zd_14_52_184 (by decide) rfl ?_
                refine zz_iconst zd_14_52_186 ?_
                refine zz_bipush (by decide) zd_14_52_187 ?_
                refine zz_iload (x := 1 + 1) rfl zd_14_52_189 ?_
                refine zz_iadd zd_14_52_191 ?_
                refine zz_ishl zd_14_52_192 (fun v48 hv48 ev48 => ?_)
                refine zz_istore_n [some (.ref 1079), some (zi (S0 1079 30)), some (zi 0), some (zi v48), some (zi (1 + 1))] zd_14_52_193 (by decide) rfl ?_
                refine zz_aload_n (x := 1079) rfl zd_14_52_194 ?_
                refine zz_geti (z := S3 1079 30) zd_14_52_195 zf_Md_347 zT_1079 rfl (zz_ltn hn rfl) rfl ?_
                refine zz_bipush (by decide) zd_14_52_198 ?_
                refine zz_icmp_eq (by omega) (by omega) zd_14_52_200 (fun c49 => ?_) (fun c49 => ?_)
                · exfalso; omega
                · refine zz_aload_n (x := 1079) rfl zd_14_52_203 ?_
                  refine zz_geti (z := S3 1079 30) zd_14_52_204 zf_Md_347 zT_1079 rfl (zz_ltn hn rfl) rfl ?_
                  refine zz_bipush (by decide) zd_14_52_207 ?_
                  refine zz_icmp_ne (by omega) (by omega) zd_14_52_209 (fun c50 => ?_) (fun c50 => ?_)
                  · exfalso; omega
                  · refine zz_iconst zd_14_52_212 ?_
                    refine zz_goto zd_14_52_213 ?_
                    refine zz_istore_n [some (.ref 1079), some (zi (S0 1079 30)), some (zi 1), some (zi v48), some (zi (1 + 1))] zd_14_52_217 (by decide) rfl ?_
                    refine zz_iload_n (x := 1) rfl zd_14_52_218 ?_
                    refine zz_if_eq (by omega) zd_14_52_219 (fun c51 => ?_) (fun c51 => ?_)
                    · exfalso; omega
                    · refine zz_aload_n (x := 1079) rfl zd_14_52_222 ?_
                      refine zz_getr (kd := 0) (z := 1087) zd_14_52_223 zf_Md_36 zT_1079 rfl (zz_ltn hn rfl) (zz_G.eq G_S3 1079 11 1087 rfl rfl) (by decide) 1087 rfl ?_
                      refine zz_iload (x := 1 + 1) rfl zd_14_52_226 ?_
                      refine zz_iconst zd_14_52_228 ?_
                      refine zz_iast zd_14_52_229 zT_1087 rfl (zz_ltn hn rfl) (by decide) (by omega) (fun S52 qS52 => ?_)
                      have G_S52 := zz_G.put G_S3 qS52 (-2147483648) 2147483647 rfl (by omega)
                      have F_S52 := zz_fr.putc F_S3 qS52 rfl
                      refine zz_aload_n (x := 1079) rfl zd_14_52_230 ?_
                      have g53 := zz_G.r G_S3 1079 32 0 1500 rfl rfl
                      have e54 : S52 1079 32 = S3 1079 32 := (zz_ro qS52 (fun h => absurd h.1 (by decide)) rfl)
                      refine zz_callVV [] zd_14_52_231 zk_Md_359 zT_1079 (zz_ltn hn rfl) rfl rfl ⟨Nat.le_of_ble_eq_true rfl, Nat.le_of_ble_eq_true rfl⟩ ⟨rfl, rfl⟩ (Nat.zero_le _) (Nat.zero_le _) (zc_advance_14_49  S52 n hn G_S52 ) (fun S55 hP => ?_)
                      obtain ⟨G_S55, fS55, o57, o58, o59⟩ := hP
                      have F_S55 := zz_fr.trans F_S52 fS55 rfl zz_nv
                      refine zz_iload_n (x := 1) rfl zd_14_52_234 ?_
                      refine zz_if_eq (by omega) zd_14_52_235 (fun c60 => ?_) (fun c60 => ?_)
                      · exfalso; omega
                      · refine zz_iload_n (x := v48) rfl zd_14_52_238 ?_
                        refine zz_goto zd_14_52_239 ?_
                        have g61 := zz_G.r G_S55 1079 32 0 1500 rfl rfl
                        exact zz_iret zd_14_52_243 rfl (Nat.zero_le _) (Nat.zero_le _) ⟨_, _, rfl, G_S55, F_S55, by omega, by omega, by omega⟩
          · refine zz_iload_n (x := S0 1079 30) rfl zd_14_52_152 ?_
            refine zz_bipush (by decide) zd_14_52_153 ?_
            refine zz_icmp_ne (by omega) (by omega) zd_14_52_155 (fun c62 => ?_) (fun c62 => ?_)
            · refine zz_iload_n (x := 0) rfl zd_14_52_234 ?_
              refine zz_if_eq (by omega) zd_14_52_235 (fun c63 => ?_) (fun c63 => ?_)
              · refine zz_iconst zd_14_52_242 ?_
                have g64 := zz_G.r G_S3 1079 32 0 1500 rfl rfl
                exact zz_iret zd_14_52_243 rfl (Nat.zero_le _) (Nat.zero_le _) ⟨_, _, rfl, G_S3, F_S3, by omega, by omega, by omega⟩
              · exfalso; omega
            · refine zz_iload_n (x := S0 1079 30) rfl zd_14_52_158 ?_
              refine zz_bipush (by decide) zd_14_52_159 ?_
              refine zz_icmp_ne (by omega) (by omega) zd_14_52_161 (fun c65 => ?_) (fun c65 => ?_)
              · refine zz_iconst zd_14_52_168 ?_
                refine zz_aload_n (x := 1079) rfl zd_14_52_169 ?_
                have g66 := zz_G.r G_S3 1079 30 0 102 rfl rfl
                refine zz_geti (z := S3 1079 30) zd_14_52_170 zf_Md_347 zT_1079 rfl (zz_ltn hn rfl) rfl ?_
                refine zz_bipush (by decide) zd_14_52_173 ?_
                refine zz_icmp_ne (by omega) (by omega) zd_14_52_175 (fun c67 => ?_) (fun c67 => ?_)
                · refine zz_iconst zd_14_52_182 ?_
                  refine zz_iadd zd_14_52_183 ?_
                  refine zz_istore [some (.ref 1079), some (zi (S0 1079 30)), some (zi 0), some (zi 0), some (zi (3 + 0))] zd_14_52_184 (by decide) rfl ?_
                  refine zz_iconst zd_14_52_186 ?_
                  refine zz_bipush (by decide) zd_14_52_187 ?_
                  refine zz_iload (x := 3 + 0) rfl zd_14_52_189 ?_
                  refine zz_iadd zd_14_52_191 ?_
                  refine zz_ishl zd_14_52_192 (fun v68 hv68 ev68 => ?_)
                  refine zz_istore_n [some (.ref 1079), some (zi (S0 1079 30)), some (zi 0), some (zi v68), some (zi (3 + 0))] zd_14_52_193 (by decide) rfl ?_
                  refine zz_aload_n (x := 1079) rfl zd_14_52_194 ?_
                  refine zz_geti (z := S3 1079 30) zd_14_52_195 zf_Md_347 zT_1079 rfl (zz_ltn hn rfl) rfl ?_
                  refine zz_bipush (by decide) zd_14_52_198 ?_
                  refine zz_icmp_eq (by omega) (by omega) zd_14_52_200 (fun c69 => ?_) (fun c69 => ?_)
                  · refine zz_iconst zd_14_52_212 ?_
                    refine zz_goto zd_14_52_213 ?_
                    refine zz_istore_n [some (.ref 1079), some (zi (S0 1079 30)), some (zi 1), some (zi v68), some (zi (3 + 0))] zd_14_52_217 (by decide) rfl ?_
                    refine zz_iload_n (x := 1) rfl zd_14_52_218 ?_
                    refine zz_if_eq (by omega) zd_14_52_219 (fun c70 => ?_) (fun c70 => ?_)
                    · exfalso; omega
                    · refine zz_aload_n (x := 1079) rfl zd_14_52_222 ?_
                      refine zz_getr (kd := 0) (z := 1087) zd_14_52_223 zf_Md_36 zT_1079 rfl (zz_ltn hn rfl) (zz_G.eq G_S3 1079 11 1087 rfl rfl) (by decide) 1087 rfl ?_
                      refine zz_iload (x := 3 + 0) rfl zd_14_52_226 ?_
                      refine zz_iconst zd_14_52_228 ?_
                      refine zz_iast zd_14_52_229 zT_1087 rfl (zz_ltn hn rfl) (by decide) (by omega) (fun S71 qS71 => ?_)
                      have G_S71 := zz_G.put G_S3 qS71 (-2147483648) 2147483647 rfl (by omega)
                      have F_S71 := zz_fr.putc F_S3 qS71 rfl
                      refine zz_aload_n (x := 1079) rfl zd_14_52_230 ?_
                      have g72 := zz_G.r G_S3 1079 32 0 1500 rfl rfl
                      have e73 : S71 1079 32 = S3 1079 32 := (zz_ro qS71 (fun h => absurd h.1 (by decide)) rfl)
                      refine zz_callVV [] zd_14_52_231 zk_Md_359 zT_1079 (zz_ltn hn rfl) rfl rfl ⟨Nat.le_of_ble_eq_true rfl, Nat.le_of_ble_eq_true rfl⟩ ⟨rfl, rfl⟩ (Nat.zero_le _) (Nat.zero_le _) (zc_advance_14_49  S71 n hn G_S71 ) (fun S74 hP => ?_)
                      obtain ⟨G_S74, fS74, o76, o77, o78⟩ := hP
                      have F_S74 := zz_fr.trans F_S71 fS74 rfl zz_nv
                      refine zz_iload_n (x := 1) rfl zd_14_52_234 ?_
                      refine zz_if_eq (by omega) zd_14_52_235 (fun c79 => ?_) (fun c79 => ?_)
                      · exfalso; omega
                      · refine zz_iload_n (x := v68) rfl zd_14_52_238 ?_
                        refine zz_goto zd_14_52_239 ?_
                        have g80 := zz_G.r G_S74 1079 32 0 1500 rfl rfl
                        exact zz_iret zd_14_52_243 rfl (Nat.zero_le _) (Nat.zero_le _) ⟨_, _, rfl, G_S74, F_S74, by omega, by omega, by omega⟩
                  · refine zz_aload_n (x := 1079) rfl zd_14_52_203 ?_
                    refine zz_geti (z := S3 1079 30) zd_14_52_204 zf_Md_347 zT_1079 rfl (zz_ltn hn rfl) rfl ?_
                    refine zz_bipush (by decide) zd_14_52_207 ?_
                    refine zz_icmp_ne (by omega) (by omega) zd_14_52_209 (fun c81 => ?_) (fun c81 => ?_)
                    · refine zz_iconst zd_14_52_216 ?_
                      refine zz_istore_n [some (.ref 1079), some (zi (S0 1079 30)), some (zi 0), some (zi v68), some (zi (3 + 0))] zd_14_52_217 (by decide) rfl ?_
                      refine zz_iload_n (x := 0) rfl zd_14_52_218 ?_
                      refine zz_if_eq (by omega) zd_14_52_219 (fun c82 => ?_) (fun c82 => ?_)
                      · refine zz_iload_n (x := 0) rfl zd_14_52_234 ?_
                        refine zz_if_eq (by omega) zd_14_52_235 (fun c83 => ?_) (fun c83 => ?_)
                        · refine zz_iconst zd_14_52_242 ?_
                          have g84 := zz_G.r G_S3 1079 32 0 1500 rfl rfl
                          exact zz_iret zd_14_52_243 rfl (Nat.zero_le _) (Nat.zero_le _) ⟨_, _, rfl, G_S3, F_S3, by omega, by omega, by omega⟩
                        · exfalso; omega
                      · exfalso; omega
                    · refine zz_iconst zd_14_52_212 ?_
                      refine zz_goto zd_14_52_213 ?_
                      refine zz_istore_n [some (.ref 1079), some (zi (S0 1079 30)), some (zi 1), some (zi v68), some (zi (3 + 0))] zd_14_52_217 (by decide) rfl ?_
                      refine zz_iload_n (x := 1) rfl zd_14_52_218 ?_
                      refine zz_if_eq (by omega) zd_14_52_219 (fun c85 => ?_) (fun c85 => ?_)
                      · exfalso; omega
                      · refine zz_aload_n (x := 1079) rfl zd_14_52_222 ?_
                        refine zz_getr (kd := 0) (z := 1087) zd_14_52_223 zf_Md_36 zT_1079 rfl (zz_ltn hn rfl) (zz_G.eq G_S3 1079 11 1087 rfl rfl) (by decide) 1087 rfl ?_
                        refine zz_iload (x := 3 + 0) rfl zd_14_52_226 ?_
                        refine zz_iconst zd_14_52_228 ?_
                        refine zz_iast zd_14_52_229 zT_1087 rfl (zz_ltn hn rfl) (by decide) (by omega) (fun S86 qS86 => ?_)
                        have G_S86 := zz_G.put G_S3 qS86 (-2147483648) 2147483647 rfl (by omega)
                        have F_S86 := zz_fr.putc F_S3 qS86 rfl
                        refine zz_aload_n (x := 1079) rfl zd_14_52_230 ?_
                        have g87 := zz_G.r G_S3 1079 32 0 1500 rfl rfl
                        have e88 : S86 1079 32 = S3 1079 32 := (zz_ro qS86 (fun h => absurd h.1 (by decide)) rfl)
                        refine zz_callVV [] zd_14_52_231 zk_Md_359 zT_1079 (zz_ltn hn rfl) rfl rfl ⟨Nat.le_of_ble_eq_true rfl, Nat.le_of_ble_eq_true rfl⟩ ⟨rfl, rfl⟩ (Nat.zero_le _) (Nat.zero_le _) (zc_advance_14_49  S86 n hn G_S86 ) (fun S89 hP => ?_)
                        obtain ⟨G_S89, fS89, o91, o92, o93⟩ := hP
                        have F_S89 := zz_fr.trans F_S86 fS89 rfl zz_nv
                        refine zz_iload_n (x := 1) rfl zd_14_52_234 ?_
                        refine zz_if_eq (by omega) zd_14_52_235 (fun c94 => ?_) (fun c94 => ?_)
                        · exfalso; omega
                        · refine zz_iload_n (x := v68) rfl zd_14_52_238 ?_
                          refine zz_goto zd_14_52_239 ?_
                          have g95 := zz_G.r G_S89 1079 32 0 1500 rfl rfl
                          exact zz_iret zd_14_52_243 rfl (Nat.zero_le _) (Nat.zero_le _) ⟨_, _, rfl, G_S89, F_S89, by omega, by omega, by omega⟩
                · refine zz_iconst zd_14_52_178 ?_
                  refine zz_goto zd_14_52_179 ?_
                  refine zz_iadd zd_14_52_183 ?_
                  refine zz_istore [some (.ref 1079), some (zi (S0 1079 30)), some (zi 0), some (zi 0), some (zi (3 + 1))] zd_14_52_184 (by decide) rfl ?_
                  refine zz_iconst zd_14_52_186 ?_
                  refine zz_bipush (by decide) zd_14_52_187 ?_
                  refine zz_iload (x := 3 + 1) rfl zd_14_52_189 ?_
                  refine zz_iadd zd_14_52_191 ?_
                  refine zz_ishl zd_14_52_192 (fun v96 hv96 ev96 => ?_)
                  refine zz_istore_n [some (.ref 1079), some (zi (S0 1079 30)), some (zi 0), some (zi v96), some (zi (3 + 1))] zd_14_52_193 (by decide) rfl ?_
                  refine zz_aload_n (x := 1079) rfl zd_14_52_194 ?_
                  refine zz_geti (z := S3 1079 30) zd_14_52_195 zf_Md_347 zT_1079 rfl (zz_ltn hn rfl) rfl ?_
                  refine zz_bipush (by decide) zd_14_52_198 ?_
                  refine zz_icmp_eq (by omega) (by omega) zd_14_52_200 (fun c97 => ?_) (fun c97 => ?_)
                  · exfalso; omega
                  · refine zz_aload_n (x := 1079) rfl zd_14_52_203 ?_
                    refine zz_geti (z := S3 1079 30) zd_14_52_204 zf_Md_347 zT_1079 rfl (zz_ltn hn rfl) rfl ?_
                    refine zz_bipush (by decide) zd_14_52_207 ?_
                    refine zz_icmp_ne (by omega) (by omega) zd_14_52_209 (fun c98 => ?_) (fun c98 => ?_)
                    · exfalso; omega
                    · refine zz_iconst zd_14_52_212 ?_
                      refine zz_goto zd_14_52_213 ?_
                      refine zz_istore_n [some (.ref 1079), some (zi (S0 1079 30)), some (zi 1), some (zi v96), some (zi (3 + 1))] zd_14_52_217 (by decide) rfl ?_
                      refine zz_iload_n (x := 1) rfl zd_14_52_218 ?_
                      refine zz_if_eq (by omega) zd_14_52_219 (fun c99 => ?_) (fun c99 => ?_)
                      · exfalso; omega
                      · refine zz_aload_n (x := 1079) rfl zd_14_52_222 ?_
                        refine zz_getr (kd := 0) (z := 1087) zd_14_52_223 zf_Md_36 zT_1079 rfl (zz_ltn hn rfl) (zz_G.eq G_S3 1079 11 1087 rfl rfl) (by decide) 1087 rfl ?_
                        refine zz_iload (x := 3 + 1) rfl zd_14_52_226 ?_
                        refine zz_iconst zd_14_52_228 ?_
                        refine zz_iast zd_14_52_229 zT_1087 rfl (zz_ltn hn rfl) (by decide) (by omega) (fun S100 qS100 => ?_)
                        have G_S100 := zz_G.put G_S3 qS100 (-2147483648) 2147483647 rfl (by omega)
                        have F_S100 := zz_fr.putc F_S3 qS100 rfl
                        refine zz_aload_n (x := 1079) rfl zd_14_52_230 ?_
                        have g101 := zz_G.r G_S3 1079 32 0 1500 rfl rfl
                        have e102 : S100 1079 32 = S3 1079 32 := (zz_ro qS100 (fun h => absurd h.1 (by decide)) rfl)
                        refine zz_callVV [] zd_14_52_231 zk_Md_359 zT_1079 (zz_ltn hn rfl) rfl rfl ⟨Nat.le_of_ble_eq_true rfl, Nat.le_of_ble_eq_true rfl⟩ ⟨rfl, rfl⟩ (Nat.zero_le _) (Nat.zero_le _) (zc_advance_14_49  S100 n hn G_S100 ) (fun S103 hP => ?_)
                        obtain ⟨G_S103, fS103, o105, o106, o107⟩ := hP
                        have F_S103 := zz_fr.trans F_S100 fS103 rfl zz_nv
                        refine zz_iload_n (x := 1) rfl zd_14_52_234 ?_
                        refine zz_if_eq (by omega) zd_14_52_235 (fun c108 => ?_) (fun c108 => ?_)
                        · exfalso; omega
                        · refine zz_iload_n (x := v96) rfl zd_14_52_238 ?_
                          refine zz_goto zd_14_52_239 ?_
                          have g109 := zz_G.r G_S103 1079 32 0 1500 rfl rfl
                          exact zz_iret zd_14_52_243 rfl (Nat.zero_le _) (Nat.zero_le _) ⟨_, _, rfl, G_S103, F_S103, by omega, by omega, by omega⟩
              · exfalso; omega
        · exfalso; omega
      · have n110 : 13 ≤ S0 1079 30 ∧ S0 1079 30 ≤ 16 := by omega
        clear o13
        refine zz_if_eq (by omega) zd_14_52_91 (fun c111 => ?_) (fun c111 => ?_)
        · exfalso; omega
        · refine zz_iload_n (x := S0 1079 30) rfl zd_14_52_94 ?_
          refine zz_bipush (by decide) zd_14_52_95 ?_
          refine zz_icmp_ne (by omega) (by omega) zd_14_52_97 (fun c112 => ?_) (fun c112 => ?_)
          · refine zz_iload_n (x := S0 1079 30) rfl zd_14_52_105 ?_
            refine zz_bipush (by decide) zd_14_52_106 ?_
            refine zz_icmp_ne (by omega) (by omega) zd_14_52_108 (fun c113 => ?_) (fun c113 => ?_)
            · refine zz_iload_n (x := S0 1079 30) rfl zd_14_52_116 ?_
              refine zz_bipush (by decide) zd_14_52_117 ?_
              refine zz_icmp_ne (by omega) (by omega) zd_14_52_119 (fun c114 => ?_) (fun c114 => ?_)
              · refine zz_bipush (by decide) zd_14_52_127 ?_
                refine zz_istore [some (.ref 1079), some (zi (S0 1079 30)), some (zi 0), some (zi 0), some (zi 11)] zd_14_52_129 (by decide) rfl ?_
                refine zz_iconst zd_14_52_131 ?_
                refine zz_iload (x := 11) rfl zd_14_52_132 ?_
                refine zz_ishl zd_14_52_134 (fun v115 hv115 ev115 => ?_)
                refine zz_istore_n [some (.ref 1079), some (zi (S0 1079 30)), some (zi 0), some (zi v115), some (zi 11)] zd_14_52_135 (by decide) rfl ?_
                refine zz_aload_n (x := 1079) rfl zd_14_52_136 ?_
                refine zz_iload (x := 11) rfl zd_14_52_137 ?_
                have g116 := zz_G.r G_S3 1079 32 0 1500 rfl rfl
                have g117 := zz_G.r G_S3 1079 30 0 102 rfl rfl
                refine zz_callVI [zi 11] zd_14_52_139 zk_Md_362 zT_1079 (zz_ltn hn rfl) rfl rfl ⟨Nat.le_of_ble_eq_true rfl, Nat.le_of_ble_eq_true rfl⟩ ⟨rfl, rfl⟩ (Nat.zero_le _) (Nat.zero_le _) (zc_setNumber_14_51 11 S3 n hn G_S3 (by omega)) (fun v119 S118 hP => ?_)
                obtain ⟨G_S118, fS118, o120, o121, o122⟩ := hP
                have F_S118 := zz_fr.trans F_S3 fS118 rfl zz_nv
                rcases (by omega : v119 = 0 ∨ v119 = 1) with rfl | rfl
                · refine zz_istore_n [some (.ref 1079), some (zi (S0 1079 30)), some (zi 0), some (zi v115), some (zi 11)] zd_14_52_142 (by decide) rfl ?_
                  refine zz_goto zd_14_52_143 ?_
                  refine zz_iload_n (x := 0) rfl zd_14_52_234 ?_
                  refine zz_if_eq (by omega) zd_14_52_235 (fun c123 => ?_) (fun c123 => ?_)
                  · refine zz_iconst zd_14_52_242 ?_
                    have g124 := zz_G.r G_S118 1079 32 0 1500 rfl rfl
                    exact zz_iret zd_14_52_243 rfl (Nat.zero_le _) (Nat.zero_le _) ⟨_, _, rfl, G_S118, F_S118, by omega, by omega, by omega⟩
                  · exfalso; omega
                · refine zz_istore_n [some (.ref 1079), some (zi (S0 1079 30)), some (zi 1), some (zi v115), some (zi 11)] zd_14_52_142 (by decide) rfl ?_
                  refine zz_goto zd_14_52_143 ?_
                  refine zz_iload_n (x := 1) rfl zd_14_52_234 ?_
                  refine zz_if_eq (by omega) zd_14_52_235 (fun c125 => ?_) (fun c125 => ?_)
                  · exfalso; omega
                  · refine zz_iload_n (x := v115) rfl zd_14_52_238 ?_
                    refine zz_goto zd_14_52_239 ?_
                    have g126 := zz_G.r G_S118 1079 32 0 1500 rfl rfl
                    exact zz_iret zd_14_52_243 rfl (Nat.zero_le _) (Nat.zero_le _) ⟨_, _, rfl, G_S118, F_S118, by omega, by omega, by omega⟩
              · refine zz_bipush (by decide) zd_14_52_122 ?_
                refine zz_goto zd_14_52_124 ?_
                refine zz_istore [some (.ref 1079), some (zi (S0 1079 30)), some (zi 0), some (zi 0), some (zi 10)] zd_14_52_129 (by decide) rfl ?_
                refine zz_iconst zd_14_52_131 ?_
                refine zz_iload (x := 10) rfl zd_14_52_132 ?_
                refine zz_ishl zd_14_52_134 (fun v127 hv127 ev127 => ?_)
                refine zz_istore_n [some (.ref 1079), some (zi (S0 1079 30)), some (zi 0), some (zi v127), some (zi 10)] zd_14_52_135 (by decide) rfl ?_
                refine zz_aload_n (x := 1079) rfl zd_14_52_136 ?_
                refine zz_iload (x := 10) rfl zd_14_52_137 ?_
                have g128 := zz_G.r G_S3 1079 32 0 1500 rfl rfl
                have g129 := zz_G.r G_S3 1079 30 0 102 rfl rfl
                refine zz_callVI [zi 10] zd_14_52_139 zk_Md_362 zT_1079 (zz_ltn hn rfl) rfl rfl ⟨Nat.le_of_ble_eq_true rfl, Nat.le_of_ble_eq_true rfl⟩ ⟨rfl, rfl⟩ (Nat.zero_le _) (Nat.zero_le _) (zc_setNumber_14_51 10 S3 n hn G_S3 (by omega)) (fun v131 S130 hP => ?_)
                obtain ⟨G_S130, fS130, o132, o133, o134⟩ := hP
                have F_S130 := zz_fr.trans F_S3 fS130 rfl zz_nv
                rcases (by omega : v131 = 0 ∨ v131 = 1) with rfl | rfl
                · refine zz_istore_n [some (.ref 1079), some (zi (S0 1079 30)), some (zi 0), some (zi v127), some (zi 10)] zd_14_52_142 (by decide) rfl ?_
                  refine zz_goto zd_14_52_143 ?_
                  refine zz_iload_n (x := 0) rfl zd_14_52_234 ?_
                  refine zz_if_eq (by omega) zd_14_52_235 (fun c135 => ?_) (fun c135 => ?_)
                  · refine zz_iconst zd_14_52_242 ?_
                    have g136 := zz_G.r G_S130 1079 32 0 1500 rfl rfl
                    exact zz_iret zd_14_52_243 rfl (Nat.zero_le _) (Nat.zero_le _) ⟨_, _, rfl, G_S130, F_S130, by omega, by omega, by omega⟩
                  · exfalso; omega
                · refine zz_istore_n [some (.ref 1079), some (zi (S0 1079 30)), some (zi 1), some (zi v127), some (zi 10)] zd_14_52_142 (by decide) rfl ?_
                  refine zz_goto zd_14_52_143 ?_
                  refine zz_iload_n (x := 1) rfl zd_14_52_234 ?_
                  refine zz_if_eq (by omega) zd_14_52_235 (fun c137 => ?_) (fun c137 => ?_)
                  · exfalso; omega
                  · refine zz_iload_n (x := v127) rfl zd_14_52_238 ?_
                    refine zz_goto zd_14_52_239 ?_
                    have g138 := zz_G.r G_S130 1079 32 0 1500 rfl rfl
                    exact zz_iret zd_14_52_243 rfl (Nat.zero_le _) (Nat.zero_le _) ⟨_, _, rfl, G_S130, F_S130, by omega, by omega, by omega⟩
            · refine zz_bipush (by decide) zd_14_52_111 ?_
              refine zz_goto zd_14_52_113 ?_
              refine zz_istore [some (.ref 1079), some (zi (S0 1079 30)), some (zi 0), some (zi 0), some (zi 9)] zd_14_52_129 (by decide) rfl ?_
              refine zz_iconst zd_14_52_131 ?_
              refine zz_iload (x := 9) rfl zd_14_52_132 ?_
              refine zz_ishl zd_14_52_134 (fun v139 hv139 ev139 => ?_)
              refine zz_istore_n [some (.ref 1079), some (zi (S0 1079 30)), some (zi 0), some (zi v139), some (zi 9)] zd_14_52_135 (by decide) rfl ?_
              refine zz_aload_n (x := 1079) rfl zd_14_52_136 ?_
              refine zz_iload (x := 9) rfl zd_14_52_137 ?_
              have g140 := zz_G.r G_S3 1079 32 0 1500 rfl rfl
              have g141 := zz_G.r G_S3 1079 30 0 102 rfl rfl
              refine zz_callVI [zi 9] zd_14_52_139 zk_Md_362 zT_1079 (zz_ltn hn rfl) rfl rfl ⟨Nat.le_of_ble_eq_true rfl, Nat.le_of_ble_eq_true rfl⟩ ⟨rfl, rfl⟩ (Nat.zero_le _) (Nat.zero_le _) (zc_setNumber_14_51 9 S3 n hn G_S3 (by omega)) (fun v143 S142 hP => ?_)
              obtain ⟨G_S142, fS142, o144, o145, o146⟩ := hP
              have F_S142 := zz_fr.trans F_S3 fS142 rfl zz_nv
              rcases (by omega : v143 = 0 ∨ v143 = 1) with rfl | rfl
              · refine zz_istore_n [some (.ref 1079), some (zi (S0 1079 30)), some (zi 0), some (zi v139), some (zi 9)] zd_14_52_142 (by decide) rfl ?_
                refine zz_goto zd_14_52_143 ?_
                refine zz_iload_n (x := 0) rfl zd_14_52_234 ?_
                refine zz_if_eq (by omega) zd_14_52_235 (fun c147 => ?_) (fun c147 => ?_)
                · refine zz_iconst zd_14_52_242 ?_
                  have g148 := zz_G.r G_S142 1079 32 0 1500 rfl rfl
                  exact zz_iret zd_14_52_243 rfl (Nat.zero_le _) (Nat.zero_le _) ⟨_, _, rfl, G_S142, F_S142, by omega, by omega, by omega⟩
                · exfalso; omega
              · refine zz_istore_n [some (.ref 1079), some (zi (S0 1079 30)), some (zi 1), some (zi v139), some (zi 9)] zd_14_52_142 (by decide) rfl ?_
                refine zz_goto zd_14_52_143 ?_
                refine zz_iload_n (x := 1) rfl zd_14_52_234 ?_
                refine zz_if_eq (by omega) zd_14_52_235 (fun c149 => ?_) (fun c149 => ?_)
                · exfalso; omega
                · refine zz_iload_n (x := v139) rfl zd_14_52_238 ?_
                  refine zz_goto zd_14_52_239 ?_
                  have g150 := zz_G.r G_S142 1079 32 0 1500 rfl rfl
                  exact zz_iret zd_14_52_243 rfl (Nat.zero_le _) (Nat.zero_le _) ⟨_, _, rfl, G_S142, F_S142, by omega, by omega, by omega⟩
          · refine zz_bipush (by decide) zd_14_52_100 ?_
            refine zz_goto zd_14_52_102 ?_
            refine zz_istore [some (.ref 1079), some (zi (S0 1079 30)), some (zi 0), some (zi 0), some (zi 8)] zd_14_52_129 (by decide) rfl ?_
            refine zz_iconst zd_14_52_131 ?_
            refine zz_iload (x := 8) rfl zd_14_52_132 ?_
            refine zz_ishl zd_14_52_134 (fun v151 hv151 ev151 => ?_)
            refine zz_istore_n [some (.ref 1079), some (zi (S0 1079 30)), some (zi 0), some (zi v151), some (zi 8)] zd_14_52_135 (by decide) rfl ?_
            refine zz_aload_n (x := 1079) rfl zd_14_52_136 ?_
            refine zz_iload (x := 8) rfl zd_14_52_137 ?_
            have g152 := zz_G.r G_S3 1079 32 0 1500 rfl rfl
            have g153 := zz_G.r G_S3 1079 30 0 102 rfl rfl
            refine zz_callVI [zi 8] zd_14_52_139 zk_Md_362 zT_1079 (zz_ltn hn rfl) rfl rfl ⟨Nat.le_of_ble_eq_true rfl, Nat.le_of_ble_eq_true rfl⟩ ⟨rfl, rfl⟩ (Nat.zero_le _) (Nat.zero_le _) (zc_setNumber_14_51 8 S3 n hn G_S3 (by omega)) (fun v155 S154 hP => ?_)
            obtain ⟨G_S154, fS154, o156, o157, o158⟩ := hP
            have F_S154 := zz_fr.trans F_S3 fS154 rfl zz_nv
            rcases (by omega : v155 = 0 ∨ v155 = 1) with rfl | rfl
            · refine zz_istore_n [some (.ref 1079), some (zi (S0 1079 30)), some (zi 0), some (zi v151), some (zi 8)] zd_14_52_142 (by decide) rfl ?_
              refine zz_goto zd_14_52_143 ?_
              refine zz_iload_n (x := 0) rfl zd_14_52_234 ?_
              refine zz_if_eq (by omega) zd_14_52_235 (fun c159 => ?_) (fun c159 => ?_)
              · refine zz_iconst zd_14_52_242 ?_
                have g160 := zz_G.r G_S154 1079 32 0 1500 rfl rfl
                exact zz_iret zd_14_52_243 rfl (Nat.zero_le _) (Nat.zero_le _) ⟨_, _, rfl, G_S154, F_S154, by omega, by omega, by omega⟩
              · exfalso; omega
            · refine zz_istore_n [some (.ref 1079), some (zi (S0 1079 30)), some (zi 1), some (zi v151), some (zi 8)] zd_14_52_142 (by decide) rfl ?_
              refine zz_goto zd_14_52_143 ?_
              refine zz_iload_n (x := 1) rfl zd_14_52_234 ?_
              refine zz_if_eq (by omega) zd_14_52_235 (fun c161 => ?_) (fun c161 => ?_)
              · exfalso; omega
              · refine zz_iload_n (x := v151) rfl zd_14_52_238 ?_
                refine zz_goto zd_14_52_239 ?_
                have g162 := zz_G.r G_S154 1079 32 0 1500 rfl rfl
                exact zz_iret zd_14_52_243 rfl (Nat.zero_le _) (Nat.zero_le _) ⟨_, _, rfl, G_S154, F_S154, by omega, by omega, by omega⟩
    · refine zz_iconst zd_14_52_36 ?_
      refine zz_istore_n [some (.ref 1079), some (zi (S0 1079 30)), some (zi 0), some (zi 2)] zd_14_52_37 (by decide) rfl ?_
      refine zz_aload_n (x := 1079) rfl zd_14_52_38 ?_
      refine zz_bipush (by decide) zd_14_52_39 ?_
      have g163 := zz_G.r G_S3 1079 32 0 1500 rfl rfl
      have g164 := zz_G.r G_S3 1079 30 0 102 rfl rfl
      refine zz_callVI [zi 6] zd_14_52_41 zk_Md_362 zT_1079 (zz_ltn hn rfl) rfl rfl ⟨Nat.le_of_ble_eq_true rfl, Nat.le_of_ble_eq_true rfl⟩ ⟨rfl, rfl⟩ (Nat.zero_le _) (Nat.zero_le _) (zc_setNumber_14_51 6 S3 n hn G_S3 (by omega)) (fun v166 S165 hP => ?_)
      obtain ⟨G_S165, fS165, o167, o168, o169⟩ := hP
      have F_S165 := zz_fr.trans F_S3 fS165 rfl zz_nv
      rcases (by omega : v166 = 0 ∨ v166 = 1) with rfl | rfl
      · refine zz_if_eq (by omega) zd_14_52_44 (fun c170 => ?_) (fun c170 => ?_)
        · refine zz_iconst zd_14_52_60 ?_
          refine zz_istore_n [some (.ref 1079), some (zi (S0 1079 30)), some (zi 0), some (zi 2)] zd_14_52_61 (by decide) rfl ?_
          refine zz_iload_n (x := 0) rfl zd_14_52_62 ?_
          refine zz_if_eq (by omega) zd_14_52_63 (fun c171 => ?_) (fun c171 => ?_)
          · refine zz_iload_n (x := 0) rfl zd_14_52_234 ?_
            refine zz_if_eq (by omega) zd_14_52_235 (fun c172 => ?_) (fun c172 => ?_)
            · refine zz_iconst zd_14_52_242 ?_
              have g173 := zz_G.r G_S165 1079 32 0 1500 rfl rfl
              exact zz_iret zd_14_52_243 rfl (Nat.zero_le _) (Nat.zero_le _) ⟨_, _, rfl, G_S165, F_S165, by omega, by omega, by omega⟩
            · exfalso; omega
          · exfalso; omega
        · exfalso; omega
      · refine zz_if_eq (by omega) zd_14_52_44 (fun c174 => ?_) (fun c174 => ?_)
        · exfalso; omega
        · refine zz_aload_n (x := 1079) rfl zd_14_52_47 ?_
          have g175 := zz_G.r G_S165 1079 30 0 102 rfl rfl
          refine zz_geti (z := S165 1079 30) zd_14_52_48 zf_Md_347 zT_1079 rfl (zz_ltn hn rfl) rfl ?_
          refine zz_bipush (by decide) zd_14_52_51 ?_
          refine zz_icmp_ne (by omega) (by omega) zd_14_52_53 (fun c176 => ?_) (fun c176 => ?_)
          · refine zz_iconst zd_14_52_60 ?_
            refine zz_istore_n [some (.ref 1079), some (zi (S0 1079 30)), some (zi 0), some (zi 2)] zd_14_52_61 (by decide) rfl ?_
            refine zz_iload_n (x := 0) rfl zd_14_52_62 ?_
            refine zz_if_eq (by omega) zd_14_52_63 (fun c177 => ?_) (fun c177 => ?_)
            · refine zz_iload_n (x := 0) rfl zd_14_52_234 ?_
              refine zz_if_eq (by omega) zd_14_52_235 (fun c178 => ?_) (fun c178 => ?_)
              · refine zz_iconst zd_14_52_242 ?_
                have g179 := zz_G.r G_S165 1079 32 0 1500 rfl rfl
                exact zz_iret zd_14_52_243 rfl (Nat.zero_le _) (Nat.zero_le _) ⟨_, _, rfl, G_S165, F_S165, by omega, by omega, by omega⟩
              · exfalso; omega
            · exfalso; omega
          · refine zz_iconst zd_14_52_56 ?_
            refine zz_goto zd_14_52_57 ?_
            refine zz_istore_n [some (.ref 1079), some (zi (S0 1079 30)), some (zi 1), some (zi 2)] zd_14_52_61 (by decide) rfl ?_
            refine zz_iload_n (x := 1) rfl zd_14_52_62 ?_
            refine zz_if_eq (by omega) zd_14_52_63 (fun c180 => ?_) (fun c180 => ?_)
            · exfalso; omega
            · refine zz_aload_n (x := 1079) rfl zd_14_52_66 ?_
              have g181 := zz_G.r G_S165 1079 32 0 1500 rfl rfl
              refine zz_callVV [] zd_14_52_67 zk_Md_359 zT_1079 (zz_ltn hn rfl) rfl rfl ⟨Nat.le_of_ble_eq_true rfl, Nat.le_of_ble_eq_true rfl⟩ ⟨rfl, rfl⟩ (Nat.zero_le _) (Nat.zero_le _) (zc_advance_14_49  S165 n hn G_S165 ) (fun S182 hP => ?_)
              obtain ⟨G_S182, fS182, o184, o185, o186⟩ := hP
              have F_S182 := zz_fr.trans F_S165 fS182 rfl zz_nv
              refine zz_aload_n (x := 1079) rfl zd_14_52_70 ?_
              refine zz_bipush (by decide) zd_14_52_71 ?_
              have g187 := zz_G.r G_S182 1079 32 0 1500 rfl rfl
              have g188 := zz_G.r G_S182 1079 30 0 102 rfl rfl
              refine zz_callVI [zi 7] zd_14_52_73 zk_Md_362 zT_1079 (zz_ltn hn rfl) rfl rfl ⟨Nat.le_of_ble_eq_true rfl, Nat.le_of_ble_eq_true rfl⟩ ⟨rfl, rfl⟩ (Nat.zero_le _) (Nat.zero_le _) (zc_setNumber_14_51 7 S182 n hn G_S182 (by omega)) (fun v190 S189 hP => ?_)
              obtain ⟨G_S189, fS189, o191, o192, o193⟩ := hP
              have F_S189 := zz_fr.trans F_S182 fS189 rfl zz_nv
              rcases (by omega : v190 = 0 ∨ v190 = 1) with rfl | rfl
              · refine zz_istore_n [some (.ref 1079), some (zi (S0 1079 30)), some (zi 0), some (zi 2)] zd_14_52_76 (by decide) rfl ?_
                refine zz_goto zd_14_52_77 ?_
                refine zz_iload_n (x := 0) rfl zd_14_52_234 ?_
                refine zz_if_eq (by omega) zd_14_52_235 (fun c194 => ?_) (fun c194 => ?_)
                · refine zz_iconst zd_14_52_242 ?_
                  have g195 := zz_G.r G_S189 1079 32 0 1500 rfl rfl
                  exact zz_iret zd_14_52_243 rfl (Nat.zero_le _) (Nat.zero_le _) ⟨_, _, rfl, G_S189, F_S189, by omega, by omega, by omega⟩
                · exfalso; omega
              · refine zz_istore_n [some (.ref 1079), some (zi (S0 1079 30)), some (zi 1), some (zi 2)] zd_14_52_76 (by decide) rfl ?_
                refine zz_goto zd_14_52_77 ?_
                refine zz_iload_n (x := 1) rfl zd_14_52_234 ?_
                refine zz_if_eq (by omega) zd_14_52_235 (fun c196 => ?_) (fun c196 => ?_)
                · exfalso; omega
                · refine zz_iload_n (x := 2) rfl zd_14_52_238 ?_
                  refine zz_goto zd_14_52_239 ?_
                  have g197 := zz_G.r G_S189 1079 32 0 1500 rfl rfl
                  exact zz_iret zd_14_52_243 rfl (Nat.zero_le _) (Nat.zero_le _) ⟨_, _, rfl, G_S189, F_S189, by omega, by omega, by omega⟩
  · refine zz_iconst zd_14_52_19 ?_
    refine zz_istore_n [some (.ref 1079), some (zi (S0 1079 30)), some (zi 0), some (zi 1)] zd_14_52_20 (by decide) rfl ?_
    refine zz_aload_n (x := 1079) rfl zd_14_52_21 ?_
    refine zz_iconst zd_14_52_22 ?_
    have g198 := zz_G.r G_S3 1079 32 0 1500 rfl rfl
    have g199 := zz_G.r G_S3 1079 30 0 102 rfl rfl
    refine zz_callVI [zi 5] zd_14_52_23 zk_Md_362 zT_1079 (zz_ltn hn rfl) rfl rfl ⟨Nat.le_of_ble_eq_true rfl, Nat.le_of_ble_eq_true rfl⟩ ⟨rfl, rfl⟩ (Nat.zero_le _) (Nat.zero_le _) (zc_setNumber_14_51 5 S3 n hn G_S3 (by omega)) (fun v201 S200 hP => ?_)
    obtain ⟨G_S200, fS200, o202, o203, o204⟩ := hP
    have F_S200 := zz_fr.trans F_S3 fS200 rfl zz_nv
    rcases (by omega : v201 = 0 ∨ v201 = 1) with rfl | rfl
    · refine zz_istore_n [some (.ref 1079), some (zi (S0 1079 30)), some (zi 0), some (zi 1)] zd_14_52_26 (by decide) rfl ?_
      refine zz_goto zd_14_52_27 ?_
      refine zz_iload_n (x := 0) rfl zd_14_52_234 ?_
      refine zz_if_eq (by omega) zd_14_52_235 (fun c205 => ?_) (fun c205 => ?_)
      · refine zz_iconst zd_14_52_242 ?_
        have g206 := zz_G.r G_S200 1079 32 0 1500 rfl rfl
        exact zz_iret zd_14_52_243 rfl (Nat.zero_le _) (Nat.zero_le _) ⟨_, _, rfl, G_S200, F_S200, by omega, by omega, by omega⟩
      · exfalso; omega
    · refine zz_istore_n [some (.ref 1079), some (zi (S0 1079 30)), some (zi 1), some (zi 1)] zd_14_52_26 (by decide) rfl ?_
      refine zz_goto zd_14_52_27 ?_
      refine zz_iload_n (x := 1) rfl zd_14_52_234 ?_
      refine zz_if_eq (by omega) zd_14_52_235 (fun c207 => ?_) (fun c207 => ?_)
      · exfalso; omega
      · refine zz_iload_n (x := 1) rfl zd_14_52_238 ?_
        refine zz_goto zd_14_52_239 ?_
        have g208 := zz_G.r G_S200 1079 32 0 1500 rfl rfl
        exact zz_iret zd_14_52_243 rfl (Nat.zero_le _) (Nat.zero_le _) ⟨_, _, rfl, G_S200, F_S200, by omega, by omega, by omega⟩
abbrev zy_wordOfFields_14_53 : mm_Y := (⟨"TensorForgeModel", "wordOfFields", "()J"⟩, prog_14_method_53_code, 5, (some .long))
theorem zyw_wordOfFields_14_53 : mm_Yw zy_wordOfFields_14_53 0 := ⟨mm_tb_1 2037 (by decide +kernel) rfl, mm_tb_1 12 (by decide +kernel) rfl, ⟨by decide, by decide⟩, by decide +kernel⟩
theorem zg_14_53_0 : (decode zy_wordOfFields_14_53.2.1 0 = .ok ((.lconst 0), 1)) ∧ (decode zy_wordOfFields_14_53.2.1 1 = .ok ((.lstore_n 1), 1)) ∧ (decode zy_wordOfFields_14_53.2.1 2 = .ok ((.iconst 0), 1)) ∧ (decode zy_wordOfFields_14_53.2.1 3 = .ok ((.istore_n 3), 1)) ∧ (decode zy_wordOfFields_14_53.2.1 4 = .ok ((.iconst 0), 1)) ∧ (decode zy_wordOfFields_14_53.2.1 5 = .ok ((.istore 4), 2)) ∧ (decode zy_wordOfFields_14_53.2.1 7 = .ok ((.iload 4), 2)) ∧ (decode zy_wordOfFields_14_53.2.1 9 = .ok ((.bipush 12), 2)) ∧ (decode zy_wordOfFields_14_53.2.1 11 = .ok ((Instr.if_icmp .ge) 30, 3)) ∧ (decode zy_wordOfFields_14_53.2.1 14 = .ok ((.lload_n 1), 1)) := by decide +kernel
theorem zd_14_53_0 : zz_D zy_wordOfFields_14_53 0 (.lconst 0) 1 1 := ⟨zg_14_53_0.1, rfl⟩
theorem zd_14_53_1 : zz_D zy_wordOfFields_14_53 1 (.lstore_n 1) 1 2 := ⟨zg_14_53_0.2.1, rfl⟩
theorem zd_14_53_2 : zz_D zy_wordOfFields_14_53 2 (.iconst 0) 1 3 := ⟨zg_14_53_0.2.2.1, rfl⟩
theorem zd_14_53_3 : zz_D zy_wordOfFields_14_53 3 (.istore_n 3) 1 4 := ⟨zg_14_53_0.2.2.2.1, rfl⟩
theorem zd_14_53_4 : zz_D zy_wordOfFields_14_53 4 (.iconst 0) 1 5 := ⟨zg_14_53_0.2.2.2.2.1, rfl⟩
theorem zd_14_53_5 : zz_D zy_wordOfFields_14_53 5 (.istore 4) 2 7 := ⟨zg_14_53_0.2.2.2.2.2.1, rfl⟩
theorem zd_14_53_7 : zz_D zy_wordOfFields_14_53 7 (.iload 4) 2 9 := ⟨zg_14_53_0.2.2.2.2.2.2.1, rfl⟩
theorem zd_14_53_9 : zz_D zy_wordOfFields_14_53 9 (.bipush 12) 2 11 := ⟨zg_14_53_0.2.2.2.2.2.2.2.1, rfl⟩
theorem zd_14_53_11 : zz_B zy_wordOfFields_14_53 11 (Instr.if_icmp .ge) 41 14 := ⟨30, zg_14_53_0.2.2.2.2.2.2.2.2.1, rfl, rfl⟩
theorem zd_14_53_14 : zz_D zy_wordOfFields_14_53 14 (.lload_n 1) 1 15 := ⟨zg_14_53_0.2.2.2.2.2.2.2.2.2, rfl⟩
theorem zg_14_53_15 : (decode zy_wordOfFields_14_53.2.1 15 = .ok ((.aload_n 0), 1)) ∧ (decode zy_wordOfFields_14_53.2.1 16 = .ok ((.getfield 36), 3)) ∧ (decode zy_wordOfFields_14_53.2.1 19 = .ok ((.iload 4), 2)) ∧ (decode zy_wordOfFields_14_53.2.1 21 = .ok ((.iaload), 1)) ∧ (decode zy_wordOfFields_14_53.2.1 22 = .ok ((.i2l), 1)) ∧ (decode zy_wordOfFields_14_53.2.1 23 = .ok ((.iload_n 3), 1)) ∧ (decode zy_wordOfFields_14_53.2.1 24 = .ok ((.lshl), 1)) ∧ (decode zy_wordOfFields_14_53.2.1 25 = .ok ((.lor), 1)) ∧ (decode zy_wordOfFields_14_53.2.1 26 = .ok ((.lstore_n 1), 1)) ∧ (decode zy_wordOfFields_14_53.2.1 27 = .ok ((.iload_n 3), 1)) := by decide +kernel
theorem zd_14_53_15 : zz_D zy_wordOfFields_14_53 15 (.aload_n 0) 1 16 := ⟨zg_14_53_15.1, rfl⟩
theorem zd_14_53_16 : zz_D zy_wordOfFields_14_53 16 (.getfield 36) 3 19 := ⟨zg_14_53_15.2.1, rfl⟩
theorem zd_14_53_19 : zz_D zy_wordOfFields_14_53 19 (.iload 4) 2 21 := ⟨zg_14_53_15.2.2.1, rfl⟩
theorem zd_14_53_21 : zz_D zy_wordOfFields_14_53 21 (.iaload) 1 22 := ⟨zg_14_53_15.2.2.2.1, rfl⟩
theorem zd_14_53_22 : zz_D zy_wordOfFields_14_53 22 (.i2l) 1 23 := ⟨zg_14_53_15.2.2.2.2.1, rfl⟩
theorem zd_14_53_23 : zz_D zy_wordOfFields_14_53 23 (.iload_n 3) 1 24 := ⟨zg_14_53_15.2.2.2.2.2.1, rfl⟩
theorem zd_14_53_24 : zz_D zy_wordOfFields_14_53 24 (.lshl) 1 25 := ⟨zg_14_53_15.2.2.2.2.2.2.1, rfl⟩
theorem zd_14_53_25 : zz_D zy_wordOfFields_14_53 25 (.lor) 1 26 := ⟨zg_14_53_15.2.2.2.2.2.2.2.1, rfl⟩
theorem zd_14_53_26 : zz_D zy_wordOfFields_14_53 26 (.lstore_n 1) 1 27 := ⟨zg_14_53_15.2.2.2.2.2.2.2.2.1, rfl⟩
theorem zd_14_53_27 : zz_D zy_wordOfFields_14_53 27 (.iload_n 3) 1 28 := ⟨zg_14_53_15.2.2.2.2.2.2.2.2.2, rfl⟩
theorem zg_14_53_28 : (decode zy_wordOfFields_14_53.2.1 28 = .ok ((.iload 4), 2)) ∧ (decode zy_wordOfFields_14_53.2.1 30 = .ok ((.invokestatic 215), 3)) ∧ (decode zy_wordOfFields_14_53.2.1 33 = .ok ((.iadd), 1)) ∧ (decode zy_wordOfFields_14_53.2.1 34 = .ok ((.istore_n 3), 1)) ∧ (decode zy_wordOfFields_14_53.2.1 35 = .ok ((.iinc 4 1), 3)) ∧ (decode zy_wordOfFields_14_53.2.1 38 = .ok (Instr.goto (-31), 3)) ∧ (decode zy_wordOfFields_14_53.2.1 41 = .ok ((.lload_n 1), 1)) ∧ (decode zy_wordOfFields_14_53.2.1 42 = .ok ((.lreturn), 1)) := by decide +kernel
theorem zd_14_53_28 : zz_D zy_wordOfFields_14_53 28 (.iload 4) 2 30 := ⟨zg_14_53_28.1, rfl⟩
theorem zd_14_53_30 : zz_D zy_wordOfFields_14_53 30 (.invokestatic 215) 3 33 := ⟨zg_14_53_28.2.1, rfl⟩
theorem zd_14_53_33 : zz_D zy_wordOfFields_14_53 33 (.iadd) 1 34 := ⟨zg_14_53_28.2.2.1, rfl⟩
theorem zd_14_53_34 : zz_D zy_wordOfFields_14_53 34 (.istore_n 3) 1 35 := ⟨zg_14_53_28.2.2.2.1, rfl⟩
theorem zd_14_53_35 : zz_D zy_wordOfFields_14_53 35 (.iinc 4 1) 3 38 := ⟨zg_14_53_28.2.2.2.2.1, rfl⟩
theorem zd_14_53_38 : zz_B zy_wordOfFields_14_53 38 Instr.goto 7 41 := ⟨(-31), zg_14_53_28.2.2.2.2.2.1, rfl, rfl⟩
theorem zd_14_53_41 : zz_D zy_wordOfFields_14_53 41 (.lload_n 1) 1 42 := ⟨zg_14_53_28.2.2.2.2.2.2.1, rfl⟩
theorem zd_14_53_42 : zz_D zy_wordOfFields_14_53 42 (.lreturn) 1 43 := ⟨zg_14_53_28.2.2.2.2.2.2.2, rfl⟩
-- TensorForgeModel wordOfFields ()J
abbrev zr_wordOfFields_14_53 : Room := { frames := 1, cells := 0, slots := 0, locals := 13 }
def zp_wordOfFields_14_53  (S0 : zz_S) : Int → zz_S → Prop := fun r S => S0 = S ∧ ((-9223372036854775808) ≤ r ∧ r ≤ 9223372036854775807)
theorem zb_wordOfFields_14_53_7 {g : mm_G} {l : Launch}  (S0 : zz_S) (n : Nat) (hn : zz_end ≤ n) (G_S0 : zz_G S0)  (x1 : Int) (x3 : Int) (x4 : Int) (S : zz_S) (G_S : zz_G S) (F_S : zz_fr [] [] (fun _ _ => False) S0 S) (i7_0 : (-9223372036854775808) ≤ x1 ∧ x1 ≤ 9223372036854775807) (i7_1 : 0 ≤ x3 ∧ x3 ≤ 200) (i7_2 : 0 ≤ x4 ∧ x4 ≤ 12) (i7_3 : x3 ≤ 12 * x4) (R : Nat) (hR : (12 - x4).toNat = R) (k7 : ∀ (x1 : Int) (x3 : Int) (x4 : Int) (S : zz_S), zz_G S → zz_fr [] [] (fun _ _ => False) S0 S → ((-9223372036854775808) ≤ x1 ∧ x1 ≤ 9223372036854775807) → (0 ≤ x3 ∧ x3 ≤ 200) → (0 ≤ x4 ∧ x4 ≤ 12) → (x3 ≤ 12 * x4) → (12 - x4).toNat < R → zz_E g l zy_wordOfFields_14_53 zr_wordOfFields_14_53 (zz_QJ n (zp_wordOfFields_14_53  S0)) S n 7 [some (.ref 1079), some (zl x1), none, some (zi x3), some (zi x4)] [] 0 0) : zz_E g l zy_wordOfFields_14_53 zr_wordOfFields_14_53 (zz_QJ n (zp_wordOfFields_14_53  S0)) S n 7 [some (.ref 1079), some (zl x1), none, some (zi x3), some (zi x4)] [] 0 0 := by
  refine zz_iload (x := x4) rfl zd_14_53_7 ?_
  refine zz_bipush (by decide) zd_14_53_9 ?_
  refine zz_icmp_ge (by omega) (by omega) zd_14_53_11 (fun c1 => ?_) (fun c1 => ?_)
  · refine zz_lload_n (x := x1) rfl zd_14_53_41 ?_
    exact zz_lret zd_14_53_42 rfl (Nat.zero_le _) (Nat.zero_le _) ⟨_, _, rfl, zz_fr.eq F_S, by omega⟩
  · refine zz_lload_n (x := x1) rfl zd_14_53_14 ?_
    refine zz_aload_n (x := 1079) rfl zd_14_53_15 ?_
    refine zz_getr (kd := 0) (z := 1087) zd_14_53_16 zf_Md_36 zT_1079 rfl (zz_ltn hn rfl) (zz_G.eq G_S 1079 11 1087 rfl rfl) (by decide) 1087 rfl ?_
    refine zz_iload (x := x4) rfl zd_14_53_19 ?_
    have g2 := zz_G.r G_S0 1087 x4.toNat (-2147483648) 2147483647 rfl rfl
    refine zz_iald (z := S0 1087 x4.toNat) zd_14_53_21 zT_1087 rfl (zz_ltn hn rfl) (by decide) (by omega) (zz_rc F_S (zz_nc1 rfl) rfl (fun h => h) rfl) ?_
    refine zz_i2l (by omega) zd_14_53_22 ?_
    refine zz_iload_n (x := x3) rfl zd_14_53_23 ?_
    refine zz_lshl zd_14_53_24 (fun v3 hv3 ev3 => ?_)
    refine zz_lor zd_14_53_25 (fun v4 hv4 ev4 => ?_)
    refine zz_lstore_n [some (.ref 1079), some (zl v4), none, some (zi x3), some (zi x4)] zd_14_53_26 (by decide) rfl ?_
    refine zz_iload_n (x := x3) rfl zd_14_53_27 ?_
    refine zz_iload (x := x4) rfl zd_14_53_28 ?_
    refine zz_callSI [zi x4] zd_14_53_30 zk_Md_215 rfl rfl ⟨Nat.le_of_ble_eq_true rfl, Nat.le_of_ble_eq_true rfl⟩ ⟨rfl, rfl⟩ (Nat.zero_le _) (Nat.zero_le _) (zc_bitsOf_14_11 x4 S n hn G_S (by omega)) (fun v6 S5 hP => ?_)
    obtain ⟨rfl, o7, o8⟩ := hP
    refine zz_iadd zd_14_53_33 ?_
    refine zz_istore_n [some (.ref 1079), some (zl v4), none, some (zi (x3 + v6)), some (zi x4)] zd_14_53_34 (by decide) rfl ?_
    refine zz_iinc [some (.ref 1079), some (zl v4), none, some (zi (x3 + v6)), some (zi (x4 + 1))] zd_14_53_35 rfl rfl ?_
    refine zz_goto zd_14_53_38 ?_
    refine zz_less (ls1 := [some (.ref 1079), some (zl v4), none, some (zi (x3 + v6)), some (zi (x4 + 1))]) ⟨rfl, ⟨rfl, ⟨rfl, ⟨rfl, trivial⟩⟩⟩⟩ ?_
    exact k7 v4 (x3 + v6) (x4 + 1) S G_S F_S (by omega) (by omega) (by omega) (by omega) (by omega)
theorem zi_wordOfFields_14_53 {g : mm_G} {l : Launch}  (S0 : zz_S) (n : Nat) (hn : zz_end ≤ n) (G_S0 : zz_G S0)  : ∀ N : Nat, (∀ (x1 : Int) (x3 : Int) (x4 : Int) (S : zz_S), zz_G S → zz_fr [] [] (fun _ _ => False) S0 S → ((-9223372036854775808) ≤ x1 ∧ x1 ≤ 9223372036854775807) → (0 ≤ x3 ∧ x3 ≤ 200) → (0 ≤ x4 ∧ x4 ≤ 12) → (x3 ≤ 12 * x4) → (12 - x4).toNat < N → zz_E g l zy_wordOfFields_14_53 zr_wordOfFields_14_53 (zz_QJ n (zp_wordOfFields_14_53  S0)) S n 7 [some (.ref 1079), some (zl x1), none, some (zi x3), some (zi x4)] [] 0 0) := by
  intro N
  induction N with
  | zero => exact fun x1 x3 x4 S _ _ _ _ _ _ h => absurd h (Nat.not_lt_zero _)
  | succ N ih =>
    exact fun x1 x3 x4 S a b j0 j1 j2 j3 hR => zb_wordOfFields_14_53_7  S0 n hn G_S0  x1 x3 x4 S a b j0 j1 j2 j3 _ rfl (fun x1 x3 x4 S a b j0 j1 j2 j3 h => ih x1 x3 x4 S a b j0 j1 j2 j3 (Nat.lt_of_lt_of_le h (Nat.le_of_lt_succ hR)))
theorem zc_wordOfFields_14_53 {g : mm_G} {l : Launch}  (S0 : zz_S) (n : Nat) (hn : zz_end ≤ n) (G_S0 : zz_G S0)  : mm_Met g l zy_wordOfFields_14_53 zr_wordOfFields_14_53 [.ref 1079] (zz_M S0 n) n (zz_QJ n (zp_wordOfFields_14_53  S0)) := by
  refine zz_enter (by decide) (Nat.le_of_ble_eq_true rfl) (zz_less (ls1 := [some (.ref 1079)]) ⟨rfl, trivial⟩ ?_)
  have F_S0 : zz_fr [] [] (fun _ _ => False) S0 S0 := zz_fr.refl
  have k7 : ∀ (x1 : Int) (x3 : Int) (x4 : Int) (S : zz_S), zz_G S → zz_fr [] [] (fun _ _ => False) S0 S → ((-9223372036854775808) ≤ x1 ∧ x1 ≤ 9223372036854775807) → (0 ≤ x3 ∧ x3 ≤ 200) → (0 ≤ x4 ∧ x4 ≤ 12) → (x3 ≤ 12 * x4) → zz_E g l zy_wordOfFields_14_53 zr_wordOfFields_14_53 (zz_QJ n (zp_wordOfFields_14_53  S0)) S n 7 [some (.ref 1079), some (zl x1), none, some (zi x3), some (zi x4)] [] 0 0 := fun x1 x3 x4 S a b j0 j1 j2 j3 => (zi_wordOfFields_14_53 (g := g) (l := l)  S0 n hn G_S0  _) x1 x3 x4 S a b j0 j1 j2 j3 (Nat.lt_succ_self _)
  refine zz_lconst (z := 0) (by decide) zd_14_53_0 ?_
  refine zz_lstore_n [some (.ref 1079), some (zl 0), none] zd_14_53_1 (by decide) rfl ?_
  refine zz_iconst zd_14_53_2 ?_
  refine zz_istore_n [some (.ref 1079), some (zl 0), none, some (zi 0)] zd_14_53_3 (by decide) rfl ?_
  refine zz_iconst zd_14_53_4 ?_
  refine zz_istore [some (.ref 1079), some (zl 0), none, some (zi 0), some (zi 0)] zd_14_53_5 (by decide) rfl ?_
  refine zz_less (ls1 := [some (.ref 1079), some (zl 0), none, some (zi 0), some (zi 0)]) ⟨rfl, ⟨rfl, ⟨rfl, ⟨rfl, trivial⟩⟩⟩⟩ ?_
  exact k7 0 0 0 S0 G_S0 F_S0 (by omega) (by omega) (by omega) (by omega)
abbrev zy_readLine_14_54 : mm_Y := (⟨"TensorForgeModel", "readLine", "()I"⟩, prog_14_method_54_code, 3, (some .int))
theorem zyw_readLine_14_54 : mm_Yw zy_readLine_14_54 0 := ⟨mm_tb_1 2010 (by decide +kernel) rfl, mm_tb_1 12 (by decide +kernel) rfl, ⟨by decide, by decide⟩, by decide +kernel⟩
theorem zk_Md_369 : mm_Vl "TensorForgeModel" 369 11 0 zy_part_14_52 := ⟨zyw_part_14_52, (R_Md, F_Md, 69), rfl, mm_tb_1 2024 (by decide +kernel) rfl, mm_tb_1 2026 (by decide +kernel) rfl, mm_tb_s 111 (by decide +kernel) rfl⟩
theorem zg_14_54_0 : (decode zy_readLine_14_54.2.1 0 = .ok ((.iconst 0), 1)) ∧ (decode zy_readLine_14_54.2.1 1 = .ok ((.istore_n 1), 1)) ∧ (decode zy_readLine_14_54.2.1 2 = .ok ((.iload_n 1), 1)) ∧ (decode zy_readLine_14_54.2.1 3 = .ok ((.bipush 12), 2)) ∧ (decode zy_readLine_14_54.2.1 5 = .ok ((Instr.if_icmp .ge) 16, 3)) ∧ (decode zy_readLine_14_54.2.1 8 = .ok ((.aload_n 0), 1)) ∧ (decode zy_readLine_14_54.2.1 9 = .ok ((.getfield 36), 3)) ∧ (decode zy_readLine_14_54.2.1 12 = .ok ((.iload_n 1), 1)) ∧ (decode zy_readLine_14_54.2.1 13 = .ok ((.iconst 0), 1)) ∧ (decode zy_readLine_14_54.2.1 14 = .ok ((.iastore), 1)) := by decide +kernel
theorem zd_14_54_0 : zz_D zy_readLine_14_54 0 (.iconst 0) 1 1 := ⟨zg_14_54_0.1, rfl⟩
theorem zd_14_54_1 : zz_D zy_readLine_14_54 1 (.istore_n 1) 1 2 := ⟨zg_14_54_0.2.1, rfl⟩
theorem zd_14_54_2 : zz_D zy_readLine_14_54 2 (.iload_n 1) 1 3 := ⟨zg_14_54_0.2.2.1, rfl⟩
theorem zd_14_54_3 : zz_D zy_readLine_14_54 3 (.bipush 12) 2 5 := ⟨zg_14_54_0.2.2.2.1, rfl⟩
theorem zd_14_54_5 : zz_B zy_readLine_14_54 5 (Instr.if_icmp .ge) 21 8 := ⟨16, zg_14_54_0.2.2.2.2.1, rfl, rfl⟩
theorem zd_14_54_8 : zz_D zy_readLine_14_54 8 (.aload_n 0) 1 9 := ⟨zg_14_54_0.2.2.2.2.2.1, rfl⟩
theorem zd_14_54_9 : zz_D zy_readLine_14_54 9 (.getfield 36) 3 12 := ⟨zg_14_54_0.2.2.2.2.2.2.1, rfl⟩
theorem zd_14_54_12 : zz_D zy_readLine_14_54 12 (.iload_n 1) 1 13 := ⟨zg_14_54_0.2.2.2.2.2.2.2.1, rfl⟩
theorem zd_14_54_13 : zz_D zy_readLine_14_54 13 (.iconst 0) 1 14 := ⟨zg_14_54_0.2.2.2.2.2.2.2.2.1, rfl⟩
theorem zd_14_54_14 : zz_D zy_readLine_14_54 14 (.iastore) 1 15 := ⟨zg_14_54_0.2.2.2.2.2.2.2.2.2, rfl⟩
theorem zg_14_54_15 : (decode zy_readLine_14_54.2.1 15 = .ok ((.iinc 1 1), 3)) ∧ (decode zy_readLine_14_54.2.1 18 = .ok (Instr.goto (-16), 3)) ∧ (decode zy_readLine_14_54.2.1 21 = .ok ((.aload_n 0), 1)) ∧ (decode zy_readLine_14_54.2.1 22 = .ok ((.invokevirtual 359), 3)) ∧ (decode zy_readLine_14_54.2.1 25 = .ok ((.aload_n 0), 1)) ∧ (decode zy_readLine_14_54.2.1 26 = .ok ((.getfield 347), 3)) ∧ (decode zy_readLine_14_54.2.1 29 = .ok ((Instr.ifCond .ne) 5, 3)) ∧ (decode zy_readLine_14_54.2.1 34 = .ok ((.aload_n 0), 1)) ∧ (decode zy_readLine_14_54.2.1 35 = .ok ((.getfield 347), 3)) ∧ (decode zy_readLine_14_54.2.1 38 = .ok ((.i2l), 1)) := by decide +kernel
theorem zd_14_54_15 : zz_D zy_readLine_14_54 15 (.iinc 1 1) 3 18 := ⟨zg_14_54_15.1, rfl⟩
theorem zd_14_54_18 : zz_B zy_readLine_14_54 18 Instr.goto 2 21 := ⟨(-16), zg_14_54_15.2.1, rfl, rfl⟩
theorem zd_14_54_21 : zz_D zy_readLine_14_54 21 (.aload_n 0) 1 22 := ⟨zg_14_54_15.2.2.1, rfl⟩
theorem zd_14_54_22 : zz_D zy_readLine_14_54 22 (.invokevirtual 359) 3 25 := ⟨zg_14_54_15.2.2.2.1, rfl⟩
theorem zd_14_54_25 : zz_D zy_readLine_14_54 25 (.aload_n 0) 1 26 := ⟨zg_14_54_15.2.2.2.2.1, rfl⟩
theorem zd_14_54_26 : zz_D zy_readLine_14_54 26 (.getfield 347) 3 29 := ⟨zg_14_54_15.2.2.2.2.2.1, rfl⟩
theorem zd_14_54_29 : zz_B zy_readLine_14_54 29 (Instr.ifCond .ne) 34 32 := ⟨5, zg_14_54_15.2.2.2.2.2.2.1, rfl, rfl⟩
theorem zd_14_54_34 : zz_D zy_readLine_14_54 34 (.aload_n 0) 1 35 := ⟨zg_14_54_15.2.2.2.2.2.2.2.1, rfl⟩
theorem zd_14_54_35 : zz_D zy_readLine_14_54 35 (.getfield 347) 3 38 := ⟨zg_14_54_15.2.2.2.2.2.2.2.2.1, rfl⟩
theorem zd_14_54_38 : zz_D zy_readLine_14_54 38 (.i2l) 1 39 := ⟨zg_14_54_15.2.2.2.2.2.2.2.2.2, rfl⟩
theorem zg_14_54_39 : (decode zy_readLine_14_54.2.1 39 = .ok ((.lconst 1), 1)) ∧ (decode zy_readLine_14_54.2.1 40 = .ok ((.ldc2_w 238), 3)) ∧ (decode zy_readLine_14_54.2.1 43 = .ok ((.invokestatic 192), 3)) ∧ (decode zy_readLine_14_54.2.1 46 = .ok ((Instr.ifCond .ne) 5, 3)) ∧ (decode zy_readLine_14_54.2.1 49 = .ok ((.iconst (-1)), 1)) ∧ (decode zy_readLine_14_54.2.1 50 = .ok ((.ireturn), 1)) ∧ (decode zy_readLine_14_54.2.1 51 = .ok ((.aload_n 0), 1)) ∧ (decode zy_readLine_14_54.2.1 52 = .ok ((.getfield 36), 3)) ∧ (decode zy_readLine_14_54.2.1 55 = .ok ((.iconst 0), 1)) ∧ (decode zy_readLine_14_54.2.1 56 = .ok ((.aload_n 0), 1)) := by decide +kernel
theorem zd_14_54_39 : zz_D zy_readLine_14_54 39 (.lconst 1) 1 40 := ⟨zg_14_54_39.1, rfl⟩
theorem zd_14_54_40 : zz_D zy_readLine_14_54 40 (.ldc2_w 238) 3 43 := ⟨zg_14_54_39.2.1, rfl⟩
theorem zd_14_54_43 : zz_D zy_readLine_14_54 43 (.invokestatic 192) 3 46 := ⟨zg_14_54_39.2.2.1, rfl⟩
theorem zd_14_54_46 : zz_B zy_readLine_14_54 46 (Instr.ifCond .ne) 51 49 := ⟨5, zg_14_54_39.2.2.2.1, rfl, rfl⟩
theorem zd_14_54_49 : zz_D zy_readLine_14_54 49 (.iconst (-1)) 1 50 := ⟨zg_14_54_39.2.2.2.2.1, rfl⟩
theorem zd_14_54_50 : zz_D zy_readLine_14_54 50 (.ireturn) 1 51 := ⟨zg_14_54_39.2.2.2.2.2.1, rfl⟩
theorem zd_14_54_51 : zz_D zy_readLine_14_54 51 (.aload_n 0) 1 52 := ⟨zg_14_54_39.2.2.2.2.2.2.1, rfl⟩
theorem zd_14_54_52 : zz_D zy_readLine_14_54 52 (.getfield 36) 3 55 := ⟨zg_14_54_39.2.2.2.2.2.2.2.1, rfl⟩
theorem zd_14_54_55 : zz_D zy_readLine_14_54 55 (.iconst 0) 1 56 := ⟨zg_14_54_39.2.2.2.2.2.2.2.2.1, rfl⟩
theorem zd_14_54_56 : zz_D zy_readLine_14_54 56 (.aload_n 0) 1 57 := ⟨zg_14_54_39.2.2.2.2.2.2.2.2.2, rfl⟩
theorem zg_14_54_57 : (decode zy_readLine_14_54.2.1 57 = .ok ((.getfield 347), 3)) ∧ (decode zy_readLine_14_54.2.1 60 = .ok ((.iastore), 1)) ∧ (decode zy_readLine_14_54.2.1 61 = .ok ((.aload_n 0), 1)) ∧ (decode zy_readLine_14_54.2.1 62 = .ok ((.invokevirtual 359), 3)) ∧ (decode zy_readLine_14_54.2.1 65 = .ok ((.iconst 0), 1)) ∧ (decode zy_readLine_14_54.2.1 66 = .ok ((.istore_n 1), 1)) ∧ (decode zy_readLine_14_54.2.1 32 = .ok ((.iconst 0), 1)) ∧ (decode zy_readLine_14_54.2.1 33 = .ok ((.ireturn), 1)) ∧ (decode zy_readLine_14_54.2.1 67 = .ok ((.aload_n 0), 1)) ∧ (decode zy_readLine_14_54.2.1 68 = .ok ((.getfield 347), 3)) := by decide +kernel
theorem zd_14_54_57 : zz_D zy_readLine_14_54 57 (.getfield 347) 3 60 := ⟨zg_14_54_57.1, rfl⟩
theorem zd_14_54_60 : zz_D zy_readLine_14_54 60 (.iastore) 1 61 := ⟨zg_14_54_57.2.1, rfl⟩
theorem zd_14_54_61 : zz_D zy_readLine_14_54 61 (.aload_n 0) 1 62 := ⟨zg_14_54_57.2.2.1, rfl⟩
theorem zd_14_54_62 : zz_D zy_readLine_14_54 62 (.invokevirtual 359) 3 65 := ⟨zg_14_54_57.2.2.2.1, rfl⟩
theorem zd_14_54_65 : zz_D zy_readLine_14_54 65 (.iconst 0) 1 66 := ⟨zg_14_54_57.2.2.2.2.1, rfl⟩
theorem zd_14_54_66 : zz_D zy_readLine_14_54 66 (.istore_n 1) 1 67 := ⟨zg_14_54_57.2.2.2.2.2.1, rfl⟩
theorem zd_14_54_32 : zz_D zy_readLine_14_54 32 (.iconst 0) 1 33 := ⟨zg_14_54_57.2.2.2.2.2.2.1, rfl⟩
theorem zd_14_54_33 : zz_D zy_readLine_14_54 33 (.ireturn) 1 34 := ⟨zg_14_54_57.2.2.2.2.2.2.2.1, rfl⟩
theorem zd_14_54_67 : zz_D zy_readLine_14_54 67 (.aload_n 0) 1 68 := ⟨zg_14_54_57.2.2.2.2.2.2.2.2.1, rfl⟩
theorem zd_14_54_68 : zz_D zy_readLine_14_54 68 (.getfield 347) 3 71 := ⟨zg_14_54_57.2.2.2.2.2.2.2.2.2, rfl⟩
theorem zg_14_54_71 : (decode zy_readLine_14_54.2.1 71 = .ok ((Instr.ifCond .eq) 27, 3)) ∧ (decode zy_readLine_14_54.2.1 98 = .ok ((.iconst 1), 1)) ∧ (decode zy_readLine_14_54.2.1 99 = .ok ((.ireturn), 1)) ∧ (decode zy_readLine_14_54.2.1 74 = .ok ((.aload_n 0), 1)) ∧ (decode zy_readLine_14_54.2.1 75 = .ok ((.invokevirtual 369), 3)) ∧ (decode zy_readLine_14_54.2.1 78 = .ok ((.istore_n 2), 1)) ∧ (decode zy_readLine_14_54.2.1 79 = .ok ((.iload_n 2), 1)) ∧ (decode zy_readLine_14_54.2.1 80 = .ok ((Instr.ifCond .eq) 9, 3)) ∧ (decode zy_readLine_14_54.2.1 89 = .ok ((.iconst (-1)), 1)) ∧ (decode zy_readLine_14_54.2.1 90 = .ok ((.ireturn), 1)) := by decide +kernel
theorem zd_14_54_71 : zz_B zy_readLine_14_54 71 (Instr.ifCond .eq) 98 74 := ⟨27, zg_14_54_71.1, rfl, rfl⟩
theorem zd_14_54_98 : zz_D zy_readLine_14_54 98 (.iconst 1) 1 99 := ⟨zg_14_54_71.2.1, rfl⟩
theorem zd_14_54_99 : zz_D zy_readLine_14_54 99 (.ireturn) 1 100 := ⟨zg_14_54_71.2.2.1, rfl⟩
theorem zd_14_54_74 : zz_D zy_readLine_14_54 74 (.aload_n 0) 1 75 := ⟨zg_14_54_71.2.2.2.1, rfl⟩
theorem zd_14_54_75 : zz_D zy_readLine_14_54 75 (.invokevirtual 369) 3 78 := ⟨zg_14_54_71.2.2.2.2.1, rfl⟩
theorem zd_14_54_78 : zz_D zy_readLine_14_54 78 (.istore_n 2) 1 79 := ⟨zg_14_54_71.2.2.2.2.2.1, rfl⟩
theorem zd_14_54_79 : zz_D zy_readLine_14_54 79 (.iload_n 2) 1 80 := ⟨zg_14_54_71.2.2.2.2.2.2.1, rfl⟩
theorem zd_14_54_80 : zz_B zy_readLine_14_54 80 (Instr.ifCond .eq) 89 83 := ⟨9, zg_14_54_71.2.2.2.2.2.2.2.1, rfl, rfl⟩
theorem zd_14_54_89 : zz_D zy_readLine_14_54 89 (.iconst (-1)) 1 90 := ⟨zg_14_54_71.2.2.2.2.2.2.2.2.1, rfl⟩
theorem zd_14_54_90 : zz_D zy_readLine_14_54 90 (.ireturn) 1 91 := ⟨zg_14_54_71.2.2.2.2.2.2.2.2.2, rfl⟩
theorem zg_14_54_83 : (decode zy_readLine_14_54.2.1 83 = .ok ((.iload_n 1), 1)) ∧ (decode zy_readLine_14_54.2.1 84 = .ok ((.iload_n 2), 1)) ∧ (decode zy_readLine_14_54.2.1 85 = .ok ((.iand), 1)) ∧ (decode zy_readLine_14_54.2.1 86 = .ok ((Instr.ifCond .eq) 5, 3)) ∧ (decode zy_readLine_14_54.2.1 91 = .ok ((.iload_n 1), 1)) ∧ (decode zy_readLine_14_54.2.1 92 = .ok ((.iload_n 2), 1)) ∧ (decode zy_readLine_14_54.2.1 93 = .ok ((.ior), 1)) ∧ (decode zy_readLine_14_54.2.1 94 = .ok ((.istore_n 1), 1)) ∧ (decode zy_readLine_14_54.2.1 95 = .ok (Instr.goto (-28), 3)) := by decide +kernel
theorem zd_14_54_83 : zz_D zy_readLine_14_54 83 (.iload_n 1) 1 84 := ⟨zg_14_54_83.1, rfl⟩
theorem zd_14_54_84 : zz_D zy_readLine_14_54 84 (.iload_n 2) 1 85 := ⟨zg_14_54_83.2.1, rfl⟩
theorem zd_14_54_85 : zz_D zy_readLine_14_54 85 (.iand) 1 86 := ⟨zg_14_54_83.2.2.1, rfl⟩
theorem zd_14_54_86 : zz_B zy_readLine_14_54 86 (Instr.ifCond .eq) 91 89 := ⟨5, zg_14_54_83.2.2.2.1, rfl, rfl⟩
theorem zd_14_54_91 : zz_D zy_readLine_14_54 91 (.iload_n 1) 1 92 := ⟨zg_14_54_83.2.2.2.2.1, rfl⟩
theorem zd_14_54_92 : zz_D zy_readLine_14_54 92 (.iload_n 2) 1 93 := ⟨zg_14_54_83.2.2.2.2.2.1, rfl⟩
theorem zd_14_54_93 : zz_D zy_readLine_14_54 93 (.ior) 1 94 := ⟨zg_14_54_83.2.2.2.2.2.2.1, rfl⟩
theorem zd_14_54_94 : zz_D zy_readLine_14_54 94 (.istore_n 1) 1 95 := ⟨zg_14_54_83.2.2.2.2.2.2.2.1, rfl⟩
theorem zd_14_54_95 : zz_B zy_readLine_14_54 95 Instr.goto 67 98 := ⟨(-28), zg_14_54_83.2.2.2.2.2.2.2.2, rfl, rfl⟩
-- TensorForgeModel readLine ()I
abbrev zr_readLine_14_54 : Room := { frames := 4, cells := 0, slots := 0, locals := 64 }
def zp_readLine_14_54  (S0 : zz_S) : Int → zz_S → Prop := fun r S => zz_G S ∧ zz_fr [(1079, 30), (1079, 31), (1079, 32)] [1087] (fun _ _ => False) S0 S ∧ ((-1) ≤ r ∧ r ≤ 1)
theorem zb_readLine_14_54_2 {g : mm_G} {l : Launch}  (S0 : zz_S) (n : Nat) (hn : zz_end ≤ n) (G_S0 : zz_G S0)  (x1 : Int) (S : zz_S) (G_S : zz_G S) (F_S : zz_fr [(1079, 30), (1079, 31), (1079, 32)] [1087] (fun _ _ => False) S0 S) (i2_0 : 0 ≤ x1 ∧ x1 ≤ 12) (R : Nat) (hR : (34359738368 + (12 - x1).toNat) = R) (k2 : ∀ (x1 : Int) (S : zz_S), zz_G S → zz_fr [(1079, 30), (1079, 31), (1079, 32)] [1087] (fun _ _ => False) S0 S → (0 ≤ x1 ∧ x1 ≤ 12) → (34359738368 + (12 - x1).toNat) < R → zz_E g l zy_readLine_14_54 zr_readLine_14_54 (zz_QI n (zp_readLine_14_54  S0)) S n 2 [some (.ref 1079), some (zi x1)] [] 0 0) (k67 : ∀ (x1 : Int) (S : zz_S), zz_G S → zz_fr [(1079, 30), (1079, 31), (1079, 32)] [1087] (fun _ _ => False) S0 S → ((-2147483648) ≤ x1 ∧ x1 ≤ 2147483647) → (17179869184 + (1501 - S 1079 32).toNat) < R → zz_E g l zy_readLine_14_54 zr_readLine_14_54 (zz_QI n (zp_readLine_14_54  S0)) S n 67 [some (.ref 1079), some (zi x1)] [] 0 0) : zz_E g l zy_readLine_14_54 zr_readLine_14_54 (zz_QI n (zp_readLine_14_54  S0)) S n 2 [some (.ref 1079), some (zi x1)] [] 0 0 := by
  refine zz_iload_n (x := x1) rfl zd_14_54_2 ?_
  refine zz_bipush (by decide) zd_14_54_3 ?_
  refine zz_icmp_ge (by omega) (by omega) zd_14_54_5 (fun c1 => ?_) (fun c1 => ?_)
  · refine zz_aload_n (x := 1079) rfl zd_14_54_21 ?_
    have g2 := zz_G.r G_S 1079 32 0 1500 rfl rfl
    have g3 := zz_G.r G_S 1079 30 0 102 rfl rfl
    refine zz_callVV [] zd_14_54_22 zk_Md_359 zT_1079 (zz_ltn hn rfl) rfl rfl ⟨Nat.le_of_ble_eq_true rfl, Nat.le_of_ble_eq_true rfl⟩ ⟨rfl, rfl⟩ (Nat.zero_le _) (Nat.zero_le _) (zc_advance_14_49  S n hn G_S ) (fun S4 hP => ?_)
    obtain ⟨G_S4, fS4, o6, o7, o8⟩ := hP
    have F_S4 := zz_fr.trans F_S fS4 rfl zz_nv
    refine zz_aload_n (x := 1079) rfl zd_14_54_25 ?_
    have g9 := zz_G.r G_S4 1079 30 0 102 rfl rfl
    refine zz_geti (z := S4 1079 30) zd_14_54_26 zf_Md_347 zT_1079 rfl (zz_ltn hn rfl) rfl ?_
    refine zz_if_ne (by omega) zd_14_54_29 (fun c10 => ?_) (fun c10 => ?_)
    · refine zz_aload_n (x := 1079) rfl zd_14_54_34 ?_
      refine zz_geti (z := S4 1079 30) zd_14_54_35 zf_Md_347 zT_1079 rfl (zz_ltn hn rfl) rfl ?_
      refine zz_i2l (by omega) zd_14_54_38 ?_
      refine zz_lconst (z := 1) (by decide) zd_14_54_39 ?_
      refine zz_ldc2 (z := 9) zq_Md_238 (by decide) zd_14_54_40 ?_
      refine zz_callSI [zl (S4 1079 30), zl 1, zl 9] zd_14_54_43 zk_Md_192 rfl rfl ⟨Nat.le_of_ble_eq_true rfl, Nat.le_of_ble_eq_true rfl⟩ ⟨rfl, rfl⟩ (Nat.zero_le _) (Nat.zero_le _) (zc_in_14_4 (S4 1079 30) 1 9 S4 n hn G_S4 (by omega) (by omega) (by omega)) (fun v12 S11 hP => ?_)
      obtain ⟨rfl, o13, o14⟩ := hP
      rcases (by omega : v12 = 0 ∨ v12 = 1) with rfl | rfl
      · have n15 : S4 1079 30 < 1 ∨ 9 < S4 1079 30 := by omega
        clear o14
        refine zz_if_ne (by omega) zd_14_54_46 (fun c16 => ?_) (fun c16 => ?_)
        · exfalso; omega
        · refine zz_iconst zd_14_54_49 ?_
          exact zz_iret zd_14_54_50 rfl (Nat.zero_le _) (Nat.zero_le _) ⟨_, _, rfl, G_S4, F_S4, by omega⟩
      · have n17 : 1 ≤ S4 1079 30 ∧ S4 1079 30 ≤ 9 := by omega
        clear o14
        refine zz_if_ne (by omega) zd_14_54_46 (fun c18 => ?_) (fun c18 => ?_)
        · refine zz_aload_n (x := 1079) rfl zd_14_54_51 ?_
          refine zz_getr (kd := 0) (z := 1087) zd_14_54_52 zf_Md_36 zT_1079 rfl (zz_ltn hn rfl) (zz_G.eq G_S4 1079 11 1087 rfl rfl) (by decide) 1087 rfl ?_
          refine zz_iconst zd_14_54_55 ?_
          refine zz_aload_n (x := 1079) rfl zd_14_54_56 ?_
          refine zz_geti (z := S4 1079 30) zd_14_54_57 zf_Md_347 zT_1079 rfl (zz_ltn hn rfl) rfl ?_
          refine zz_iast zd_14_54_60 zT_1087 rfl (zz_ltn hn rfl) (by decide) (by decide) (fun S19 qS19 => ?_)
          have G_S19 := zz_G.put G_S4 qS19 (-2147483648) 2147483647 rfl (by omega)
          have F_S19 := zz_fr.putc F_S4 qS19 rfl
          refine zz_aload_n (x := 1079) rfl zd_14_54_61 ?_
          have g20 := zz_G.r G_S4 1079 32 0 1500 rfl rfl
          have e21 : S19 1079 32 = S4 1079 32 := (zz_ro qS19 (fun h => absurd h.1 (by decide)) rfl)
          refine zz_callVV [] zd_14_54_62 zk_Md_359 zT_1079 (zz_ltn hn rfl) rfl rfl ⟨Nat.le_of_ble_eq_true rfl, Nat.le_of_ble_eq_true rfl⟩ ⟨rfl, rfl⟩ (Nat.zero_le _) (Nat.zero_le _) (zc_advance_14_49  S19 n hn G_S19 ) (fun S22 hP => ?_)
          obtain ⟨G_S22, fS22, o24, o25, o26⟩ := hP
          have F_S22 := zz_fr.trans F_S19 fS22 rfl zz_nv
          refine zz_iconst zd_14_54_65 ?_
          refine zz_istore_n [some (.ref 1079), some (zi 0)] zd_14_54_66 (by decide) rfl ?_
          have g27 := zz_G.r G_S22 1079 32 0 1500 rfl rfl
          refine zz_less (ls1 := [some (.ref 1079), some (zi 0)]) ⟨rfl, ⟨rfl, trivial⟩⟩ ?_
          exact k67 0 S22 G_S22 F_S22 (by omega) (by omega)
        · exfalso; omega
    · refine zz_iconst zd_14_54_32 ?_
      exact zz_iret zd_14_54_33 rfl (Nat.zero_le _) (Nat.zero_le _) ⟨_, _, rfl, G_S4, F_S4, by omega⟩
  · refine zz_aload_n (x := 1079) rfl zd_14_54_8 ?_
    refine zz_getr (kd := 0) (z := 1087) zd_14_54_9 zf_Md_36 zT_1079 rfl (zz_ltn hn rfl) (zz_G.eq G_S 1079 11 1087 rfl rfl) (by decide) 1087 rfl ?_
    refine zz_iload_n (x := x1) rfl zd_14_54_12 ?_
    refine zz_iconst zd_14_54_13 ?_
    refine zz_iast zd_14_54_14 zT_1087 rfl (zz_ltn hn rfl) (by decide) (by omega) (fun S28 qS28 => ?_)
    have G_S28 := zz_G.put G_S qS28 (-2147483648) 2147483647 rfl (by omega)
    have F_S28 := zz_fr.putc F_S qS28 rfl
    refine zz_iinc [some (.ref 1079), some (zi (x1 + 1))] zd_14_54_15 rfl rfl ?_
    refine zz_goto zd_14_54_18 ?_
    refine zz_less (ls1 := [some (.ref 1079), some (zi (x1 + 1))]) ⟨rfl, ⟨rfl, trivial⟩⟩ ?_
    exact k2 (x1 + 1) S28 G_S28 F_S28 (by omega) (by omega)
theorem zb_readLine_14_54_67 {g : mm_G} {l : Launch}  (S0 : zz_S) (n : Nat) (hn : zz_end ≤ n) (G_S0 : zz_G S0)  (x1 : Int) (S : zz_S) (G_S : zz_G S) (F_S : zz_fr [(1079, 30), (1079, 31), (1079, 32)] [1087] (fun _ _ => False) S0 S) (i67_0 : (-2147483648) ≤ x1 ∧ x1 ≤ 2147483647) (R : Nat) (hR : (17179869184 + (1501 - S 1079 32).toNat) = R) (k67 : ∀ (x1 : Int) (S : zz_S), zz_G S → zz_fr [(1079, 30), (1079, 31), (1079, 32)] [1087] (fun _ _ => False) S0 S → ((-2147483648) ≤ x1 ∧ x1 ≤ 2147483647) → (17179869184 + (1501 - S 1079 32).toNat) < R → zz_E g l zy_readLine_14_54 zr_readLine_14_54 (zz_QI n (zp_readLine_14_54  S0)) S n 67 [some (.ref 1079), some (zi x1)] [] 0 0) : zz_E g l zy_readLine_14_54 zr_readLine_14_54 (zz_QI n (zp_readLine_14_54  S0)) S n 67 [some (.ref 1079), some (zi x1)] [] 0 0 := by
  refine zz_aload_n (x := 1079) rfl zd_14_54_67 ?_
  have g29 := zz_G.r G_S 1079 30 0 102 rfl rfl
  refine zz_geti (z := S 1079 30) zd_14_54_68 zf_Md_347 zT_1079 rfl (zz_ltn hn rfl) rfl ?_
  refine zz_if_eq (by omega) zd_14_54_71 (fun c30 => ?_) (fun c30 => ?_)
  · refine zz_iconst zd_14_54_98 ?_
    exact zz_iret zd_14_54_99 rfl (Nat.zero_le _) (Nat.zero_le _) ⟨_, _, rfl, G_S, F_S, by omega⟩
  · refine zz_aload_n (x := 1079) rfl zd_14_54_74 ?_
    have g31 := zz_G.r G_S 1079 32 0 1500 rfl rfl
    refine zz_callVI [] zd_14_54_75 zk_Md_369 zT_1079 (zz_ltn hn rfl) rfl rfl ⟨Nat.le_of_ble_eq_true rfl, Nat.le_of_ble_eq_true rfl⟩ ⟨rfl, rfl⟩ (Nat.zero_le _) (Nat.zero_le _) (zc_part_14_52  S n hn G_S ) (fun v33 S32 hP => ?_)
    obtain ⟨G_S32, fS32, o34, o35, o36⟩ := hP
    have F_S32 := zz_fr.trans F_S fS32 rfl zz_nv
    refine zz_istore_n [some (.ref 1079), some (zi x1), some (zi v33)] zd_14_54_78 (by decide) rfl ?_
    refine zz_iload_n (x := v33) rfl zd_14_54_79 ?_
    refine zz_if_eq (by omega) zd_14_54_80 (fun c37 => ?_) (fun c37 => ?_)
    · refine zz_iconst zd_14_54_89 ?_
      exact zz_iret zd_14_54_90 rfl (Nat.zero_le _) (Nat.zero_le _) ⟨_, _, rfl, G_S32, F_S32, by omega⟩
    · refine zz_iload_n (x := x1) rfl zd_14_54_83 ?_
      refine zz_iload_n (x := v33) rfl zd_14_54_84 ?_
      refine zz_iand (by omega) (by omega) zd_14_54_85 (fun v38 hv38 av38 bv38 ev38 => ?_)
      refine zz_if_eq (by omega) zd_14_54_86 (fun c39 => ?_) (fun c39 => ?_)
      · refine zz_iload_n (x := x1) rfl zd_14_54_91 ?_
        refine zz_iload_n (x := v33) rfl zd_14_54_92 ?_
        refine zz_ior (by omega) (by omega) zd_14_54_93 (fun v40 hv40 av40 ev40 => ?_)
        refine zz_istore_n [some (.ref 1079), some (zi v40), some (zi v33)] zd_14_54_94 (by decide) rfl ?_
        refine zz_goto zd_14_54_95 ?_
        have g41 := zz_G.r G_S32 1079 32 0 1500 rfl rfl
        refine zz_less (ls1 := [some (.ref 1079), some (zi v40)]) ⟨rfl, ⟨rfl, trivial⟩⟩ ?_
        exact k67 v40 S32 G_S32 F_S32 (by omega) (by omega)
      · refine zz_iconst zd_14_54_89 ?_
        exact zz_iret zd_14_54_90 rfl (Nat.zero_le _) (Nat.zero_le _) ⟨_, _, rfl, G_S32, F_S32, by omega⟩
theorem zi_readLine_14_54 {g : mm_G} {l : Launch}  (S0 : zz_S) (n : Nat) (hn : zz_end ≤ n) (G_S0 : zz_G S0)  : ∀ N : Nat, (∀ (x1 : Int) (S : zz_S), zz_G S → zz_fr [(1079, 30), (1079, 31), (1079, 32)] [1087] (fun _ _ => False) S0 S → (0 ≤ x1 ∧ x1 ≤ 12) → (34359738368 + (12 - x1).toNat) < N → zz_E g l zy_readLine_14_54 zr_readLine_14_54 (zz_QI n (zp_readLine_14_54  S0)) S n 2 [some (.ref 1079), some (zi x1)] [] 0 0) ∧ (∀ (x1 : Int) (S : zz_S), zz_G S → zz_fr [(1079, 30), (1079, 31), (1079, 32)] [1087] (fun _ _ => False) S0 S → ((-2147483648) ≤ x1 ∧ x1 ≤ 2147483647) → (17179869184 + (1501 - S 1079 32).toNat) < N → zz_E g l zy_readLine_14_54 zr_readLine_14_54 (zz_QI n (zp_readLine_14_54  S0)) S n 67 [some (.ref 1079), some (zi x1)] [] 0 0) := by
  intro N
  induction N with
  | zero => exact ⟨fun x1 S _ _ _ h => absurd h (Nat.not_lt_zero _), fun x1 S _ _ _ h => absurd h (Nat.not_lt_zero _)⟩
  | succ N ih =>
    exact ⟨fun x1 S a b j0 hR => zb_readLine_14_54_2  S0 n hn G_S0  x1 S a b j0 _ rfl (fun x1 S a b j0 h => ih.1 x1 S a b j0 (Nat.lt_of_lt_of_le h (Nat.le_of_lt_succ hR))) (fun x1 S a b j0 h => ih.2 x1 S a b j0 (Nat.lt_of_lt_of_le h (Nat.le_of_lt_succ hR))),
      fun x1 S a b j0 hR => zb_readLine_14_54_67  S0 n hn G_S0  x1 S a b j0 _ rfl (fun x1 S a b j0 h => ih.2 x1 S a b j0 (Nat.lt_of_lt_of_le h (Nat.le_of_lt_succ hR)))⟩
theorem zc_readLine_14_54 {g : mm_G} {l : Launch}  (S0 : zz_S) (n : Nat) (hn : zz_end ≤ n) (G_S0 : zz_G S0)  : mm_Met g l zy_readLine_14_54 zr_readLine_14_54 [.ref 1079] (zz_M S0 n) n (zz_QI n (zp_readLine_14_54  S0)) := by
  refine zz_enter (by decide) (Nat.le_of_ble_eq_true rfl) (zz_less (ls1 := [some (.ref 1079)]) ⟨rfl, trivial⟩ ?_)
  have F_S0 : zz_fr [(1079, 30), (1079, 31), (1079, 32)] [1087] (fun _ _ => False) S0 S0 := zz_fr.refl
  have k2 : ∀ (x1 : Int) (S : zz_S), zz_G S → zz_fr [(1079, 30), (1079, 31), (1079, 32)] [1087] (fun _ _ => False) S0 S → (0 ≤ x1 ∧ x1 ≤ 12) → zz_E g l zy_readLine_14_54 zr_readLine_14_54 (zz_QI n (zp_readLine_14_54  S0)) S n 2 [some (.ref 1079), some (zi x1)] [] 0 0 := fun x1 S a b j0 => (zi_readLine_14_54 (g := g) (l := l)  S0 n hn G_S0  _).1 x1 S a b j0 (Nat.lt_succ_self _)
  refine zz_iconst zd_14_54_0 ?_
  refine zz_istore_n [some (.ref 1079), some (zi 0)] zd_14_54_1 (by decide) rfl ?_
  refine zz_less (ls1 := [some (.ref 1079), some (zi 0)]) ⟨rfl, ⟨rfl, trivial⟩⟩ ?_
  exact k2 0 S0 G_S0 F_S0 (by omega)
abbrev zy_assemble_14_55 : mm_Y := (⟨"TensorForgeModel", "assemble", "()I"⟩, prog_14_method_55_code, 5, (some .int))
theorem zyw_assemble_14_55 : mm_Yw zy_assemble_14_55 0 := ⟨mm_tb_1 2006 (by decide +kernel) rfl, mm_tb_1 12 (by decide +kernel) rfl, ⟨by decide, by decide⟩, by decide +kernel⟩
theorem zf_Md_372 : mm_Fl "TensorForgeModel" 372 11 10 .int false := ⟨R_Md, F_Md, 69, t_Md, rfl, i_Md, by decide, mm_tb_1 1621 (by decide +kernel) rfl, rfl, t_Md_ok, n_Md, rfl, by decide +kernel⟩
abbrev zy_takeMade_14_56 : mm_Y := (⟨"TensorForgeModel", "takeMade", "()V"⟩, prog_14_method_56_code, 2, none)
theorem zyw_takeMade_14_56 : mm_Yw zy_takeMade_14_56 0 := ⟨mm_tb_1 2041 (by decide +kernel) rfl, mm_tb_1 12 (by decide +kernel) rfl, ⟨by decide, by decide⟩, by decide +kernel⟩
theorem zf_Md_33 : mm_Fl "TensorForgeModel" 33 11 9 (.array .long) true := ⟨R_Md, F_Md, 69, t_Md, rfl, i_Md, by decide, mm_tb_1 1620 (by decide +kernel) rfl, rfl, t_Md_ok, n_Md, rfl, by decide +kernel⟩
theorem zg_14_55_0 : (decode zy_assemble_14_55.2.1 0 = .ok ((.aload_n 0), 1)) ∧ (decode zy_assemble_14_55.2.1 1 = .ok ((.iconst 0), 1)) ∧ (decode zy_assemble_14_55.2.1 2 = .ok ((.putfield 187), 3)) ∧ (decode zy_assemble_14_55.2.1 5 = .ok ((.aload_n 0), 1)) ∧ (decode zy_assemble_14_55.2.1 6 = .ok ((.iconst 0), 1)) ∧ (decode zy_assemble_14_55.2.1 7 = .ok ((.putfield 372), 3)) ∧ (decode zy_assemble_14_55.2.1 10 = .ok ((.iconst 0), 1)) ∧ (decode zy_assemble_14_55.2.1 11 = .ok ((.istore_n 1), 1)) ∧ (decode zy_assemble_14_55.2.1 12 = .ok ((.iconst 0), 1)) ∧ (decode zy_assemble_14_55.2.1 13 = .ok ((.istore_n 2), 1)) := by decide +kernel
theorem zd_14_55_0 : zz_D zy_assemble_14_55 0 (.aload_n 0) 1 1 := ⟨zg_14_55_0.1, rfl⟩
theorem zd_14_55_1 : zz_D zy_assemble_14_55 1 (.iconst 0) 1 2 := ⟨zg_14_55_0.2.1, rfl⟩
theorem zd_14_55_2 : zz_D zy_assemble_14_55 2 (.putfield 187) 3 5 := ⟨zg_14_55_0.2.2.1, rfl⟩
theorem zd_14_55_5 : zz_D zy_assemble_14_55 5 (.aload_n 0) 1 6 := ⟨zg_14_55_0.2.2.2.1, rfl⟩
theorem zd_14_55_6 : zz_D zy_assemble_14_55 6 (.iconst 0) 1 7 := ⟨zg_14_55_0.2.2.2.2.1, rfl⟩
theorem zd_14_55_7 : zz_D zy_assemble_14_55 7 (.putfield 372) 3 10 := ⟨zg_14_55_0.2.2.2.2.2.1, rfl⟩
theorem zd_14_55_10 : zz_D zy_assemble_14_55 10 (.iconst 0) 1 11 := ⟨zg_14_55_0.2.2.2.2.2.2.1, rfl⟩
theorem zd_14_55_11 : zz_D zy_assemble_14_55 11 (.istore_n 1) 1 12 := ⟨zg_14_55_0.2.2.2.2.2.2.2.1, rfl⟩
theorem zd_14_55_12 : zz_D zy_assemble_14_55 12 (.iconst 0) 1 13 := ⟨zg_14_55_0.2.2.2.2.2.2.2.2.1, rfl⟩
theorem zd_14_55_13 : zz_D zy_assemble_14_55 13 (.istore_n 2) 1 14 := ⟨zg_14_55_0.2.2.2.2.2.2.2.2.2, rfl⟩
theorem zg_14_55_14 : (decode zy_assemble_14_55.2.1 14 = .ok ((.iload_n 2), 1)) ∧ (decode zy_assemble_14_55.2.1 15 = .ok ((.aload_n 0), 1)) ∧ (decode zy_assemble_14_55.2.1 16 = .ok ((.getfield 331), 3)) ∧ (decode zy_assemble_14_55.2.1 19 = .ok ((Instr.if_icmp .gt) 141, 3)) ∧ (decode zy_assemble_14_55.2.1 160 = .ok ((.aload_n 0), 1)) ∧ (decode zy_assemble_14_55.2.1 161 = .ok ((.invokevirtual 382), 3)) := by decide +kernel
theorem zd_14_55_14 : zz_D zy_assemble_14_55 14 (.iload_n 2) 1 15 := ⟨zg_14_55_14.1, rfl⟩
theorem zd_14_55_15 : zz_D zy_assemble_14_55 15 (.aload_n 0) 1 16 := ⟨zg_14_55_14.2.1, rfl⟩
theorem zd_14_55_16 : zz_D zy_assemble_14_55 16 (.getfield 331) 3 19 := ⟨zg_14_55_14.2.2.1, rfl⟩
theorem zd_14_55_19 : zz_B zy_assemble_14_55 19 (Instr.if_icmp .gt) 160 22 := ⟨141, zg_14_55_14.2.2.2.1, rfl, rfl⟩
theorem zd_14_55_160 : zz_D zy_assemble_14_55 160 (.aload_n 0) 1 161 := ⟨zg_14_55_14.2.2.2.2.1, rfl⟩
theorem zd_14_55_161 : zz_D zy_assemble_14_55 161 (.invokevirtual 382) 3 164 := ⟨zg_14_55_14.2.2.2.2.2, rfl⟩
theorem zg_14_56_0 : (decode zy_takeMade_14_56.2.1 0 = .ok ((.aload_n 0), 1)) ∧ (decode zy_takeMade_14_56.2.1 1 = .ok ((.aload_n 0), 1)) ∧ (decode zy_takeMade_14_56.2.1 2 = .ok ((.getfield 372), 3)) ∧ (decode zy_takeMade_14_56.2.1 5 = .ok ((.putfield 224), 3)) ∧ (decode zy_takeMade_14_56.2.1 8 = .ok ((.iconst 0), 1)) ∧ (decode zy_takeMade_14_56.2.1 9 = .ok ((.istore_n 1), 1)) ∧ (decode zy_takeMade_14_56.2.1 10 = .ok ((.iload_n 1), 1)) ∧ (decode zy_takeMade_14_56.2.1 11 = .ok ((.aload_n 0), 1)) ∧ (decode zy_takeMade_14_56.2.1 12 = .ok ((.getfield 224), 3)) ∧ (decode zy_takeMade_14_56.2.1 15 = .ok ((Instr.if_icmp .ge) 21, 3)) := by decide +kernel
theorem zd_14_56_0 : zz_D zy_takeMade_14_56 0 (.aload_n 0) 1 1 := ⟨zg_14_56_0.1, rfl⟩
theorem zd_14_56_1 : zz_D zy_takeMade_14_56 1 (.aload_n 0) 1 2 := ⟨zg_14_56_0.2.1, rfl⟩
theorem zd_14_56_2 : zz_D zy_takeMade_14_56 2 (.getfield 372) 3 5 := ⟨zg_14_56_0.2.2.1, rfl⟩
theorem zd_14_56_5 : zz_D zy_takeMade_14_56 5 (.putfield 224) 3 8 := ⟨zg_14_56_0.2.2.2.1, rfl⟩
theorem zd_14_56_8 : zz_D zy_takeMade_14_56 8 (.iconst 0) 1 9 := ⟨zg_14_56_0.2.2.2.2.1, rfl⟩
theorem zd_14_56_9 : zz_D zy_takeMade_14_56 9 (.istore_n 1) 1 10 := ⟨zg_14_56_0.2.2.2.2.2.1, rfl⟩
theorem zd_14_56_10 : zz_D zy_takeMade_14_56 10 (.iload_n 1) 1 11 := ⟨zg_14_56_0.2.2.2.2.2.2.1, rfl⟩
theorem zd_14_56_11 : zz_D zy_takeMade_14_56 11 (.aload_n 0) 1 12 := ⟨zg_14_56_0.2.2.2.2.2.2.2.1, rfl⟩
theorem zd_14_56_12 : zz_D zy_takeMade_14_56 12 (.getfield 224) 3 15 := ⟨zg_14_56_0.2.2.2.2.2.2.2.2.1, rfl⟩
theorem zd_14_56_15 : zz_B zy_takeMade_14_56 15 (Instr.if_icmp .ge) 36 18 := ⟨21, zg_14_56_0.2.2.2.2.2.2.2.2.2, rfl, rfl⟩
theorem zg_14_56_36 : (decode zy_takeMade_14_56.2.1 36 = .ok ((.return_), 1)) ∧ (decode zy_takeMade_14_56.2.1 18 = .ok ((.aload_n 0), 1)) ∧ (decode zy_takeMade_14_56.2.1 19 = .ok ((.getfield 29), 3)) ∧ (decode zy_takeMade_14_56.2.1 22 = .ok ((.iload_n 1), 1)) ∧ (decode zy_takeMade_14_56.2.1 23 = .ok ((.aload_n 0), 1)) ∧ (decode zy_takeMade_14_56.2.1 24 = .ok ((.getfield 33), 3)) ∧ (decode zy_takeMade_14_56.2.1 27 = .ok ((.iload_n 1), 1)) ∧ (decode zy_takeMade_14_56.2.1 28 = .ok ((.laload), 1)) ∧ (decode zy_takeMade_14_56.2.1 29 = .ok ((.lastore), 1)) ∧ (decode zy_takeMade_14_56.2.1 30 = .ok ((.iinc 1 1), 3)) := by decide +kernel
theorem zd_14_56_36 : zz_D zy_takeMade_14_56 36 (.return_) 1 37 := ⟨zg_14_56_36.1, rfl⟩
theorem zd_14_56_18 : zz_D zy_takeMade_14_56 18 (.aload_n 0) 1 19 := ⟨zg_14_56_36.2.1, rfl⟩
theorem zd_14_56_19 : zz_D zy_takeMade_14_56 19 (.getfield 29) 3 22 := ⟨zg_14_56_36.2.2.1, rfl⟩
theorem zd_14_56_22 : zz_D zy_takeMade_14_56 22 (.iload_n 1) 1 23 := ⟨zg_14_56_36.2.2.2.1, rfl⟩
theorem zd_14_56_23 : zz_D zy_takeMade_14_56 23 (.aload_n 0) 1 24 := ⟨zg_14_56_36.2.2.2.2.1, rfl⟩
theorem zd_14_56_24 : zz_D zy_takeMade_14_56 24 (.getfield 33) 3 27 := ⟨zg_14_56_36.2.2.2.2.2.1, rfl⟩
theorem zd_14_56_27 : zz_D zy_takeMade_14_56 27 (.iload_n 1) 1 28 := ⟨zg_14_56_36.2.2.2.2.2.2.1, rfl⟩
theorem zd_14_56_28 : zz_D zy_takeMade_14_56 28 (.laload) 1 29 := ⟨zg_14_56_36.2.2.2.2.2.2.2.1, rfl⟩
theorem zd_14_56_29 : zz_D zy_takeMade_14_56 29 (.lastore) 1 30 := ⟨zg_14_56_36.2.2.2.2.2.2.2.2.1, rfl⟩
theorem zd_14_56_30 : zz_D zy_takeMade_14_56 30 (.iinc 1 1) 3 33 := ⟨zg_14_56_36.2.2.2.2.2.2.2.2.2, rfl⟩
theorem zd_14_56_33 : zz_B zy_takeMade_14_56 33 Instr.goto 10 36 := ⟨(-23), by decide +kernel, rfl, rfl⟩
-- TensorForgeModel takeMade ()V
abbrev zr_takeMade_14_56 : Room := { frames := 0, cells := 0, slots := 0, locals := 0 }
def zp_takeMade_14_56  (S0 : zz_S) : zz_S → Prop := fun S => zz_G S ∧ zz_fr [(1079, 7)] [1085] (fun _ _ => False) S0 S
theorem zb_takeMade_14_56_10 {g : mm_G} {l : Launch}  (S0 : zz_S) (n : Nat) (hn : zz_end ≤ n) (G_S0 : zz_G S0) (hq : S0 1079 10 ≤ 600) (x1 : Int) (S : zz_S) (G_S : zz_G S) (F_S : zz_fr [(1079, 7)] [1085] (fun _ _ => False) S0 S) (i10_0 : 0 ≤ x1 ∧ x1 ≤ 600) (R : Nat) (hR : (S 1079 7 - x1).toNat = R) (k10 : ∀ (x1 : Int) (S : zz_S), zz_G S → zz_fr [(1079, 7)] [1085] (fun _ _ => False) S0 S → (0 ≤ x1 ∧ x1 ≤ 600) → (S 1079 7 - x1).toNat < R → zz_E g l zy_takeMade_14_56 zr_takeMade_14_56 (zz_QV n (zp_takeMade_14_56  S0)) S n 10 [some (.ref 1079), some (zi x1)] [] 0 0) : zz_E g l zy_takeMade_14_56 zr_takeMade_14_56 (zz_QV n (zp_takeMade_14_56  S0)) S n 10 [some (.ref 1079), some (zi x1)] [] 0 0 := by
  refine zz_iload_n (x := x1) rfl zd_14_56_10 ?_
  refine zz_aload_n (x := 1079) rfl zd_14_56_11 ?_
  have g4 := zz_G.r G_S 1079 7 0 600 rfl rfl
  refine zz_geti (z := S 1079 7) zd_14_56_12 zf_Md_224 zT_1079 rfl (zz_ltn hn rfl) rfl ?_
  refine zz_icmp_ge (by omega) (by omega) zd_14_56_15 (fun c5 => ?_) (fun c5 => ?_)
  · exact zz_vret zd_14_56_36 rfl (Nat.zero_le _) (Nat.zero_le _) ⟨_, rfl, G_S, F_S⟩
  · refine zz_aload_n (x := 1079) rfl zd_14_56_18 ?_
    refine zz_getr (kd := 0) (z := 1085) zd_14_56_19 zf_Md_29 zT_1079 rfl (zz_ltn hn rfl) (zz_G.eq G_S 1079 8 1085 rfl rfl) (by decide) 1085 rfl ?_
    refine zz_iload_n (x := x1) rfl zd_14_56_22 ?_
    refine zz_aload_n (x := 1079) rfl zd_14_56_23 ?_
    refine zz_getr (kd := 0) (z := 1086) zd_14_56_24 zf_Md_33 zT_1079 rfl (zz_ltn hn rfl) (zz_G.eq G_S 1079 9 1086 rfl rfl) (by decide) 1086 rfl ?_
    refine zz_iload_n (x := x1) rfl zd_14_56_27 ?_
    have g6 := zz_G.r G_S0 1086 x1.toNat (-9223372036854775808) 9223372036854775807 rfl rfl
    refine zz_lald (z := S0 1086 x1.toNat) zd_14_56_28 zT_1086 rfl (zz_ltn hn rfl) (by decide) (by omega) (zz_rc F_S (zz_nc1 rfl) rfl (fun h => h) rfl) ?_
    refine zz_last zd_14_56_29 zT_1085 rfl (zz_ltn hn rfl) (by decide) (by omega) (fun S7 qS7 => ?_)
    have G_S7 := zz_G.put G_S qS7 (-9223372036854775808) 9223372036854775807 rfl (by omega)
    have F_S7 := zz_fr.putc F_S qS7 rfl
    refine zz_iinc [some (.ref 1079), some (zi (x1 + 1))] zd_14_56_30 rfl rfl ?_
    refine zz_goto zd_14_56_33 ?_
    have e8 : S7 1079 7 = S 1079 7 := (zz_ro qS7 (fun h => absurd h.1 (by decide)) rfl)
    refine zz_less (ls1 := [some (.ref 1079), some (zi (x1 + 1))]) ⟨rfl, ⟨rfl, trivial⟩⟩ ?_
    exact k10 (x1 + 1) S7 G_S7 F_S7 (by omega) (by omega)
theorem zi_takeMade_14_56 {g : mm_G} {l : Launch}  (S0 : zz_S) (n : Nat) (hn : zz_end ≤ n) (G_S0 : zz_G S0) (hq : S0 1079 10 ≤ 600) : ∀ N : Nat, (∀ (x1 : Int) (S : zz_S), zz_G S → zz_fr [(1079, 7)] [1085] (fun _ _ => False) S0 S → (0 ≤ x1 ∧ x1 ≤ 600) → (S 1079 7 - x1).toNat < N → zz_E g l zy_takeMade_14_56 zr_takeMade_14_56 (zz_QV n (zp_takeMade_14_56  S0)) S n 10 [some (.ref 1079), some (zi x1)] [] 0 0) := by
  intro N
  induction N with
  | zero => exact fun x1 S _ _ _ h => absurd h (Nat.not_lt_zero _)
  | succ N ih =>
    exact fun x1 S a b j0 hR => zb_takeMade_14_56_10  S0 n hn G_S0 hq x1 S a b j0 _ rfl (fun x1 S a b j0 h => ih x1 S a b j0 (Nat.lt_of_lt_of_le h (Nat.le_of_lt_succ hR)))
theorem zc_takeMade_14_56 {g : mm_G} {l : Launch}  (S0 : zz_S) (n : Nat) (hn : zz_end ≤ n) (G_S0 : zz_G S0) (hq : S0 1079 10 ≤ 600) : mm_Met g l zy_takeMade_14_56 zr_takeMade_14_56 [.ref 1079] (zz_M S0 n) n (zz_QV n (zp_takeMade_14_56  S0)) := by
  refine zz_enter (by decide) (Nat.le_of_ble_eq_true rfl) (zz_less (ls1 := [some (.ref 1079)]) ⟨rfl, trivial⟩ ?_)
  have F_S0 : zz_fr [(1079, 7)] [1085] (fun _ _ => False) S0 S0 := zz_fr.refl
  have k10 : ∀ (x1 : Int) (S : zz_S), zz_G S → zz_fr [(1079, 7)] [1085] (fun _ _ => False) S0 S → (0 ≤ x1 ∧ x1 ≤ 600) → zz_E g l zy_takeMade_14_56 zr_takeMade_14_56 (zz_QV n (zp_takeMade_14_56  S0)) S n 10 [some (.ref 1079), some (zi x1)] [] 0 0 := fun x1 S a b j0 => (zi_takeMade_14_56 (g := g) (l := l)  S0 n hn G_S0 hq _) x1 S a b j0 (Nat.lt_succ_self _)
  refine zz_aload_n (x := 1079) rfl zd_14_56_0 ?_
  refine zz_aload_n (x := 1079) rfl zd_14_56_1 ?_
  have g1 := zz_G.r G_S0 1079 10 0 1000000 rfl rfl
  refine zz_geti (z := S0 1079 10) zd_14_56_2 zf_Md_372 zT_1079 rfl (zz_ltn hn rfl) rfl ?_
  refine zz_puti zd_14_56_5 zf_Md_224 zT_1079 rfl (zz_ltn hn rfl) (fun S2 qS2 => ?_)
  have G_S2 := zz_G.put G_S0 qS2 0 600 rfl (by omega)
  have F_S2 := zz_fr.puts F_S0 qS2 rfl
  refine zz_iconst zd_14_56_8 ?_
  refine zz_istore_n [some (.ref 1079), some (zi 0)] zd_14_56_9 (by decide) rfl ?_
  have e3 : S2 1079 7 = S0 1079 10 := (zz_rs qS2)
  refine zz_less (ls1 := [some (.ref 1079), some (zi 0)]) ⟨rfl, ⟨rfl, trivial⟩⟩ ?_
  exact k10 0 S2 G_S2 F_S2 (by omega)
theorem zk_Md_382 : mm_Vl "TensorForgeModel" 382 11 0 zy_takeMade_14_56 := ⟨zyw_takeMade_14_56, (R_Md, F_Md, 69), rfl, mm_tb_1 2038 (by decide +kernel) rfl, mm_tb_1 2040 (by decide +kernel) rfl, mm_tb_s 114 (by decide +kernel) rfl⟩
theorem zk_Md_375 : mm_Vl "TensorForgeModel" 375 11 0 zy_readLine_14_54 := ⟨zyw_readLine_14_54, (R_Md, F_Md, 69), rfl, mm_tb_1 2007 (by decide +kernel) rfl, mm_tb_1 2009 (by decide +kernel) rfl, mm_tb_s 108 (by decide +kernel) rfl⟩
theorem zk_Md_378 : mm_Vl "TensorForgeModel" 378 11 0 zy_wordOfFields_14_53 := ⟨zyw_wordOfFields_14_53, (R_Md, F_Md, 69), rfl, mm_tb_1 2034 (by decide +kernel) rfl, mm_tb_1 2036 (by decide +kernel) rfl, mm_tb_s 113 (by decide +kernel) rfl⟩
theorem zg_14_55_164 : (decode zy_assemble_14_55.2.1 164 = .ok ((.iconst (-1)), 1)) ∧ (decode zy_assemble_14_55.2.1 165 = .ok ((.ireturn), 1)) ∧ (decode zy_assemble_14_55.2.1 22 = .ok ((.iload_n 2), 1)) ∧ (decode zy_assemble_14_55.2.1 23 = .ok ((.istore_n 3), 1)) ∧ (decode zy_assemble_14_55.2.1 24 = .ok ((.iload_n 3), 1)) ∧ (decode zy_assemble_14_55.2.1 25 = .ok ((.aload_n 0), 1)) ∧ (decode zy_assemble_14_55.2.1 26 = .ok ((.getfield 331), 3)) ∧ (decode zy_assemble_14_55.2.1 29 = .ok ((Instr.if_icmp .ge) 20, 3)) ∧ (decode zy_assemble_14_55.2.1 49 = .ok ((.aload_n 0), 1)) ∧ (decode zy_assemble_14_55.2.1 50 = .ok ((.iload_n 2), 1)) := by decide +kernel
theorem zd_14_55_164 : zz_D zy_assemble_14_55 164 (.iconst (-1)) 1 165 := ⟨zg_14_55_164.1, rfl⟩
theorem zd_14_55_165 : zz_D zy_assemble_14_55 165 (.ireturn) 1 166 := ⟨zg_14_55_164.2.1, rfl⟩
theorem zd_14_55_22 : zz_D zy_assemble_14_55 22 (.iload_n 2) 1 23 := ⟨zg_14_55_164.2.2.1, rfl⟩
theorem zd_14_55_23 : zz_D zy_assemble_14_55 23 (.istore_n 3) 1 24 := ⟨zg_14_55_164.2.2.2.1, rfl⟩
theorem zd_14_55_24 : zz_D zy_assemble_14_55 24 (.iload_n 3) 1 25 := ⟨zg_14_55_164.2.2.2.2.1, rfl⟩
theorem zd_14_55_25 : zz_D zy_assemble_14_55 25 (.aload_n 0) 1 26 := ⟨zg_14_55_164.2.2.2.2.2.1, rfl⟩
theorem zd_14_55_26 : zz_D zy_assemble_14_55 26 (.getfield 331) 3 29 := ⟨zg_14_55_164.2.2.2.2.2.2.1, rfl⟩
theorem zd_14_55_29 : zz_B zy_assemble_14_55 29 (Instr.if_icmp .ge) 49 32 := ⟨20, zg_14_55_164.2.2.2.2.2.2.2.1, rfl, rfl⟩
theorem zd_14_55_49 : zz_D zy_assemble_14_55 49 (.aload_n 0) 1 50 := ⟨zg_14_55_164.2.2.2.2.2.2.2.2.1, rfl⟩
theorem zd_14_55_50 : zz_D zy_assemble_14_55 50 (.iload_n 2) 1 51 := ⟨zg_14_55_164.2.2.2.2.2.2.2.2.2, rfl⟩
theorem zg_14_55_51 : (decode zy_assemble_14_55.2.1 51 = .ok ((.putfield 337), 3)) ∧ (decode zy_assemble_14_55.2.1 32 = .ok ((.aload_n 0), 1)) ∧ (decode zy_assemble_14_55.2.1 33 = .ok ((.getfield 76), 3)) ∧ (decode zy_assemble_14_55.2.1 36 = .ok ((.iload_n 3), 1)) ∧ (decode zy_assemble_14_55.2.1 37 = .ok ((.iaload), 1)) ∧ (decode zy_assemble_14_55.2.1 38 = .ok ((.bipush 10), 2)) ∧ (decode zy_assemble_14_55.2.1 40 = .ok ((Instr.if_icmp .eq) 9, 3)) ∧ (decode zy_assemble_14_55.2.1 43 = .ok ((.iinc 3 1), 3)) ∧ (decode zy_assemble_14_55.2.1 46 = .ok (Instr.goto (-22), 3)) ∧ (decode zy_assemble_14_55.2.1 54 = .ok ((.aload_n 0), 1)) := by decide +kernel
theorem zd_14_55_51 : zz_D zy_assemble_14_55 51 (.putfield 337) 3 54 := ⟨zg_14_55_51.1, rfl⟩
theorem zd_14_55_32 : zz_D zy_assemble_14_55 32 (.aload_n 0) 1 33 := ⟨zg_14_55_51.2.1, rfl⟩
theorem zd_14_55_33 : zz_D zy_assemble_14_55 33 (.getfield 76) 3 36 := ⟨zg_14_55_51.2.2.1, rfl⟩
theorem zd_14_55_36 : zz_D zy_assemble_14_55 36 (.iload_n 3) 1 37 := ⟨zg_14_55_51.2.2.2.1, rfl⟩
theorem zd_14_55_37 : zz_D zy_assemble_14_55 37 (.iaload) 1 38 := ⟨zg_14_55_51.2.2.2.2.1, rfl⟩
theorem zd_14_55_38 : zz_D zy_assemble_14_55 38 (.bipush 10) 2 40 := ⟨zg_14_55_51.2.2.2.2.2.1, rfl⟩
theorem zd_14_55_40 : zz_B zy_assemble_14_55 40 (Instr.if_icmp .eq) 49 43 := ⟨9, zg_14_55_51.2.2.2.2.2.2.1, rfl, rfl⟩
theorem zd_14_55_43 : zz_D zy_assemble_14_55 43 (.iinc 3 1) 3 46 := ⟨zg_14_55_51.2.2.2.2.2.2.2.1, rfl⟩
theorem zd_14_55_46 : zz_B zy_assemble_14_55 46 Instr.goto 24 49 := ⟨(-22), zg_14_55_51.2.2.2.2.2.2.2.2.1, rfl, rfl⟩
theorem zd_14_55_54 : zz_D zy_assemble_14_55 54 (.aload_n 0) 1 55 := ⟨zg_14_55_51.2.2.2.2.2.2.2.2.2, rfl⟩
theorem zg_14_55_55 : (decode zy_assemble_14_55.2.1 55 = .ok ((.getfield 337), 3)) ∧ (decode zy_assemble_14_55.2.1 58 = .ok ((.iload_n 3), 1)) ∧ (decode zy_assemble_14_55.2.1 59 = .ok ((Instr.if_icmp .ge) 30, 3)) ∧ (decode zy_assemble_14_55.2.1 89 = .ok ((.aload_n 0), 1)) ∧ (decode zy_assemble_14_55.2.1 90 = .ok ((.iload_n 2), 1)) ∧ (decode zy_assemble_14_55.2.1 91 = .ok ((.putfield 334), 3)) ∧ (decode zy_assemble_14_55.2.1 94 = .ok ((.aload_n 0), 1)) ∧ (decode zy_assemble_14_55.2.1 95 = .ok ((.invokevirtual 375), 3)) ∧ (decode zy_assemble_14_55.2.1 98 = .ok ((.istore 4), 2)) ∧ (decode zy_assemble_14_55.2.1 100 = .ok ((.iload 4), 2)) := by decide +kernel
theorem zd_14_55_55 : zz_D zy_assemble_14_55 55 (.getfield 337) 3 58 := ⟨zg_14_55_55.1, rfl⟩
theorem zd_14_55_58 : zz_D zy_assemble_14_55 58 (.iload_n 3) 1 59 := ⟨zg_14_55_55.2.1, rfl⟩
theorem zd_14_55_59 : zz_B zy_assemble_14_55 59 (Instr.if_icmp .ge) 89 62 := ⟨30, zg_14_55_55.2.2.1, rfl, rfl⟩
theorem zd_14_55_89 : zz_D zy_assemble_14_55 89 (.aload_n 0) 1 90 := ⟨zg_14_55_55.2.2.2.1, rfl⟩
theorem zd_14_55_90 : zz_D zy_assemble_14_55 90 (.iload_n 2) 1 91 := ⟨zg_14_55_55.2.2.2.2.1, rfl⟩
theorem zd_14_55_91 : zz_D zy_assemble_14_55 91 (.putfield 334) 3 94 := ⟨zg_14_55_55.2.2.2.2.2.1, rfl⟩
theorem zd_14_55_94 : zz_D zy_assemble_14_55 94 (.aload_n 0) 1 95 := ⟨zg_14_55_55.2.2.2.2.2.2.1, rfl⟩
theorem zd_14_55_95 : zz_D zy_assemble_14_55 95 (.invokevirtual 375) 3 98 := ⟨zg_14_55_55.2.2.2.2.2.2.2.1, rfl⟩
theorem zd_14_55_98 : zz_D zy_assemble_14_55 98 (.istore 4) 2 100 := ⟨zg_14_55_55.2.2.2.2.2.2.2.2.1, rfl⟩
theorem zd_14_55_100 : zz_D zy_assemble_14_55 100 (.iload 4) 2 102 := ⟨zg_14_55_55.2.2.2.2.2.2.2.2.2, rfl⟩
theorem zg_14_55_102 : (decode zy_assemble_14_55.2.1 102 = .ok ((Instr.ifCond .lt) 18, 3)) ∧ (decode zy_assemble_14_55.2.1 120 = .ok ((.iload_n 1), 1)) ∧ (decode zy_assemble_14_55.2.1 121 = .ok ((.ireturn), 1)) ∧ (decode zy_assemble_14_55.2.1 105 = .ok ((.iload 4), 2)) ∧ (decode zy_assemble_14_55.2.1 107 = .ok ((Instr.ifCond .le) 15, 3)) ∧ (decode zy_assemble_14_55.2.1 122 = .ok ((.iload 4), 2)) ∧ (decode zy_assemble_14_55.2.1 124 = .ok ((Instr.ifCond .le) 26, 3)) ∧ (decode zy_assemble_14_55.2.1 150 = .ok ((.iload_n 3), 1)) ∧ (decode zy_assemble_14_55.2.1 151 = .ok ((.iconst 1), 1)) ∧ (decode zy_assemble_14_55.2.1 152 = .ok ((.iadd), 1)) := by decide +kernel
theorem zd_14_55_102 : zz_B zy_assemble_14_55 102 (Instr.ifCond .lt) 120 105 := ⟨18, zg_14_55_102.1, rfl, rfl⟩
theorem zd_14_55_120 : zz_D zy_assemble_14_55 120 (.iload_n 1) 1 121 := ⟨zg_14_55_102.2.1, rfl⟩
theorem zd_14_55_121 : zz_D zy_assemble_14_55 121 (.ireturn) 1 122 := ⟨zg_14_55_102.2.2.1, rfl⟩
theorem zd_14_55_105 : zz_D zy_assemble_14_55 105 (.iload 4) 2 107 := ⟨zg_14_55_102.2.2.2.1, rfl⟩
theorem zd_14_55_107 : zz_B zy_assemble_14_55 107 (Instr.ifCond .le) 122 110 := ⟨15, zg_14_55_102.2.2.2.2.1, rfl, rfl⟩
theorem zd_14_55_122 : zz_D zy_assemble_14_55 122 (.iload 4) 2 124 := ⟨zg_14_55_102.2.2.2.2.2.1, rfl⟩
theorem zd_14_55_124 : zz_B zy_assemble_14_55 124 (Instr.ifCond .le) 150 127 := ⟨26, zg_14_55_102.2.2.2.2.2.2.1, rfl, rfl⟩
theorem zd_14_55_150 : zz_D zy_assemble_14_55 150 (.iload_n 3) 1 151 := ⟨zg_14_55_102.2.2.2.2.2.2.2.1, rfl⟩
theorem zd_14_55_151 : zz_D zy_assemble_14_55 151 (.iconst 1) 1 152 := ⟨zg_14_55_102.2.2.2.2.2.2.2.2.1, rfl⟩
theorem zd_14_55_152 : zz_D zy_assemble_14_55 152 (.iadd) 1 153 := ⟨zg_14_55_102.2.2.2.2.2.2.2.2.2, rfl⟩
theorem zg_14_55_153 : (decode zy_assemble_14_55.2.1 153 = .ok ((.istore_n 2), 1)) ∧ (decode zy_assemble_14_55.2.1 154 = .ok ((.iinc 1 1), 3)) ∧ (decode zy_assemble_14_55.2.1 157 = .ok (Instr.goto (-143), 3)) ∧ (decode zy_assemble_14_55.2.1 110 = .ok ((.aload_n 0), 1)) ∧ (decode zy_assemble_14_55.2.1 111 = .ok ((.getfield 372), 3)) ∧ (decode zy_assemble_14_55.2.1 114 = .ok ((.sipush 600), 3)) ∧ (decode zy_assemble_14_55.2.1 117 = .ok ((Instr.if_icmp .ne) 5, 3)) ∧ (decode zy_assemble_14_55.2.1 127 = .ok ((.aload_n 0), 1)) ∧ (decode zy_assemble_14_55.2.1 128 = .ok ((.getfield 33), 3)) ∧ (decode zy_assemble_14_55.2.1 131 = .ok ((.aload_n 0), 1)) := by decide +kernel
theorem zd_14_55_153 : zz_D zy_assemble_14_55 153 (.istore_n 2) 1 154 := ⟨zg_14_55_153.1, rfl⟩
theorem zd_14_55_154 : zz_D zy_assemble_14_55 154 (.iinc 1 1) 3 157 := ⟨zg_14_55_153.2.1, rfl⟩
theorem zd_14_55_157 : zz_B zy_assemble_14_55 157 Instr.goto 14 160 := ⟨(-143), zg_14_55_153.2.2.1, rfl, rfl⟩
theorem zd_14_55_110 : zz_D zy_assemble_14_55 110 (.aload_n 0) 1 111 := ⟨zg_14_55_153.2.2.2.1, rfl⟩
theorem zd_14_55_111 : zz_D zy_assemble_14_55 111 (.getfield 372) 3 114 := ⟨zg_14_55_153.2.2.2.2.1, rfl⟩
theorem zd_14_55_114 : zz_D zy_assemble_14_55 114 (.sipush 600) 3 117 := ⟨zg_14_55_153.2.2.2.2.2.1, rfl⟩
theorem zd_14_55_117 : zz_B zy_assemble_14_55 117 (Instr.if_icmp .ne) 122 120 := ⟨5, zg_14_55_153.2.2.2.2.2.2.1, rfl, rfl⟩
theorem zd_14_55_127 : zz_D zy_assemble_14_55 127 (.aload_n 0) 1 128 := ⟨zg_14_55_153.2.2.2.2.2.2.2.1, rfl⟩
theorem zd_14_55_128 : zz_D zy_assemble_14_55 128 (.getfield 33) 3 131 := ⟨zg_14_55_153.2.2.2.2.2.2.2.2.1, rfl⟩
theorem zd_14_55_131 : zz_D zy_assemble_14_55 131 (.aload_n 0) 1 132 := ⟨zg_14_55_153.2.2.2.2.2.2.2.2.2, rfl⟩
theorem zg_14_55_132 : (decode zy_assemble_14_55.2.1 132 = .ok ((.getfield 372), 3)) ∧ (decode zy_assemble_14_55.2.1 135 = .ok ((.aload_n 0), 1)) ∧ (decode zy_assemble_14_55.2.1 136 = .ok ((.invokevirtual 378), 3)) ∧ (decode zy_assemble_14_55.2.1 139 = .ok ((.lastore), 1)) ∧ (decode zy_assemble_14_55.2.1 140 = .ok ((.aload_n 0), 1)) ∧ (decode zy_assemble_14_55.2.1 141 = .ok ((.dup), 1)) ∧ (decode zy_assemble_14_55.2.1 142 = .ok ((.getfield 372), 3)) ∧ (decode zy_assemble_14_55.2.1 145 = .ok ((.iconst 1), 1)) ∧ (decode zy_assemble_14_55.2.1 146 = .ok ((.iadd), 1)) ∧ (decode zy_assemble_14_55.2.1 147 = .ok ((.putfield 372), 3)) := by decide +kernel
theorem zd_14_55_132 : zz_D zy_assemble_14_55 132 (.getfield 372) 3 135 := ⟨zg_14_55_132.1, rfl⟩
theorem zd_14_55_135 : zz_D zy_assemble_14_55 135 (.aload_n 0) 1 136 := ⟨zg_14_55_132.2.1, rfl⟩
theorem zd_14_55_136 : zz_D zy_assemble_14_55 136 (.invokevirtual 378) 3 139 := ⟨zg_14_55_132.2.2.1, rfl⟩
theorem zd_14_55_139 : zz_D zy_assemble_14_55 139 (.lastore) 1 140 := ⟨zg_14_55_132.2.2.2.1, rfl⟩
theorem zd_14_55_140 : zz_D zy_assemble_14_55 140 (.aload_n 0) 1 141 := ⟨zg_14_55_132.2.2.2.2.1, rfl⟩
theorem zd_14_55_141 : zz_D zy_assemble_14_55 141 (.dup) 1 142 := ⟨zg_14_55_132.2.2.2.2.2.1, rfl⟩
theorem zd_14_55_142 : zz_D zy_assemble_14_55 142 (.getfield 372) 3 145 := ⟨zg_14_55_132.2.2.2.2.2.2.1, rfl⟩
theorem zd_14_55_145 : zz_D zy_assemble_14_55 145 (.iconst 1) 1 146 := ⟨zg_14_55_132.2.2.2.2.2.2.2.1, rfl⟩
theorem zd_14_55_146 : zz_D zy_assemble_14_55 146 (.iadd) 1 147 := ⟨zg_14_55_132.2.2.2.2.2.2.2.2.1, rfl⟩
theorem zd_14_55_147 : zz_D zy_assemble_14_55 147 (.putfield 372) 3 150 := ⟨zg_14_55_132.2.2.2.2.2.2.2.2.2, rfl⟩
theorem zg_14_55_62 : (decode zy_assemble_14_55.2.1 62 = .ok ((.aload_n 0), 1)) ∧ (decode zy_assemble_14_55.2.1 63 = .ok ((.getfield 76), 3)) ∧ (decode zy_assemble_14_55.2.1 66 = .ok ((.aload_n 0), 1)) ∧ (decode zy_assemble_14_55.2.1 67 = .ok ((.getfield 337), 3)) ∧ (decode zy_assemble_14_55.2.1 70 = .ok ((.iaload), 1)) ∧ (decode zy_assemble_14_55.2.1 71 = .ok ((.bipush 35), 2)) ∧ (decode zy_assemble_14_55.2.1 73 = .ok ((Instr.if_icmp .eq) 16, 3)) ∧ (decode zy_assemble_14_55.2.1 76 = .ok ((.aload_n 0), 1)) ∧ (decode zy_assemble_14_55.2.1 77 = .ok ((.dup), 1)) ∧ (decode zy_assemble_14_55.2.1 78 = .ok ((.getfield 337), 3)) := by decide +kernel
theorem zd_14_55_62 : zz_D zy_assemble_14_55 62 (.aload_n 0) 1 63 := ⟨zg_14_55_62.1, rfl⟩
theorem zd_14_55_63 : zz_D zy_assemble_14_55 63 (.getfield 76) 3 66 := ⟨zg_14_55_62.2.1, rfl⟩
theorem zd_14_55_66 : zz_D zy_assemble_14_55 66 (.aload_n 0) 1 67 := ⟨zg_14_55_62.2.2.1, rfl⟩
theorem zd_14_55_67 : zz_D zy_assemble_14_55 67 (.getfield 337) 3 70 := ⟨zg_14_55_62.2.2.2.1, rfl⟩
theorem zd_14_55_70 : zz_D zy_assemble_14_55 70 (.iaload) 1 71 := ⟨zg_14_55_62.2.2.2.2.1, rfl⟩
theorem zd_14_55_71 : zz_D zy_assemble_14_55 71 (.bipush 35) 2 73 := ⟨zg_14_55_62.2.2.2.2.2.1, rfl⟩
theorem zd_14_55_73 : zz_B zy_assemble_14_55 73 (Instr.if_icmp .eq) 89 76 := ⟨16, zg_14_55_62.2.2.2.2.2.2.1, rfl, rfl⟩
theorem zd_14_55_76 : zz_D zy_assemble_14_55 76 (.aload_n 0) 1 77 := ⟨zg_14_55_62.2.2.2.2.2.2.2.1, rfl⟩
theorem zd_14_55_77 : zz_D zy_assemble_14_55 77 (.dup) 1 78 := ⟨zg_14_55_62.2.2.2.2.2.2.2.2.1, rfl⟩
theorem zd_14_55_78 : zz_D zy_assemble_14_55 78 (.getfield 337) 3 81 := ⟨zg_14_55_62.2.2.2.2.2.2.2.2.2, rfl⟩
theorem zg_14_55_81 : (decode zy_assemble_14_55.2.1 81 = .ok ((.iconst 1), 1)) ∧ (decode zy_assemble_14_55.2.1 82 = .ok ((.iadd), 1)) ∧ (decode zy_assemble_14_55.2.1 83 = .ok ((.putfield 337), 3)) ∧ (decode zy_assemble_14_55.2.1 86 = .ok (Instr.goto (-32), 3)) := by decide +kernel
theorem zd_14_55_81 : zz_D zy_assemble_14_55 81 (.iconst 1) 1 82 := ⟨zg_14_55_81.1, rfl⟩
theorem zd_14_55_82 : zz_D zy_assemble_14_55 82 (.iadd) 1 83 := ⟨zg_14_55_81.2.1, rfl⟩
theorem zd_14_55_83 : zz_D zy_assemble_14_55 83 (.putfield 337) 3 86 := ⟨zg_14_55_81.2.2.1, rfl⟩
theorem zd_14_55_86 : zz_B zy_assemble_14_55 86 Instr.goto 54 89 := ⟨(-32), zg_14_55_81.2.2.2, rfl, rfl⟩
-- TensorForgeModel assemble ()I
abbrev zr_assemble_14_55 : Room := { frames := 5, cells := 0, slots := 0, locals := 78 }
def zp_assemble_14_55  (S0 : zz_S) : Int → zz_S → Prop := fun r S => zz_G S ∧ zz_fr [(1079, 0), (1079, 7), (1079, 10), (1079, 30), (1079, 31), (1079, 32), (1079, 33)] [1085, 1086, 1087] (fun _ _ => False) S0 S ∧ ((-1) ≤ r ∧ r ≤ 1501)
theorem zb_assemble_14_55_14 {g : mm_G} {l : Launch}  (S0 : zz_S) (n : Nat) (hn : zz_end ≤ n) (G_S0 : zz_G S0)  (x1 : Int) (x2 : Int) (S : zz_S) (G_S : zz_G S) (F_S : zz_fr [(1079, 0), (1079, 7), (1079, 10), (1079, 30), (1079, 31), (1079, 32), (1079, 33)] [1085, 1086, 1087] (fun _ _ => False) S0 S) (i14_0 : 0 ≤ x1 ∧ x1 ≤ 1501) (i14_1 : 0 ≤ x2 ∧ x2 ≤ 1501) (i14_2 : x1 ≤ x2) (i14_3 : S 1079 10 ≤ 600) (R : Nat) (hR : (51539607552 + (S0 1079 28 + 1 - x2).toNat) * 1099511627776 + 1099511627775 = R) (k24 : ∀ (x1 : Int) (x2 : Int) (x3 : Int) (S : zz_S), zz_G S → zz_fr [(1079, 0), (1079, 7), (1079, 10), (1079, 30), (1079, 31), (1079, 32), (1079, 33)] [1085, 1086, 1087] (fun _ _ => False) S0 S → (0 ≤ x1 ∧ x1 ≤ 1501) → (0 ≤ x2 ∧ x2 ≤ 1500) → (0 ≤ x3 ∧ x3 ≤ 1500) → (0 ≤ x2 ∧ x2 ≤ 1501) → (x1 ≤ x2) → (x1 ≤ x2) → (x2 ≤ x3) → (x3 ≤ S0 1079 28) → (S 1079 10 ≤ 600) → (51539607552 + (S0 1079 28 + 1 - x2).toNat) * 1099511627776 + (34359738368 + (S0 1079 28 - x3).toNat) < R → zz_E g l zy_assemble_14_55 zr_assemble_14_55 (zz_QI n (zp_assemble_14_55  S0)) S n 24 [some (.ref 1079), some (zi x1), some (zi x2), some (zi x3)] [] 0 0) : zz_E g l zy_assemble_14_55 zr_assemble_14_55 (zz_QI n (zp_assemble_14_55  S0)) S n 14 [some (.ref 1079), some (zi x1), some (zi x2)] [] 0 0 := by
  refine zz_iload_n (x := x2) rfl zd_14_55_14 ?_
  refine zz_aload_n (x := 1079) rfl zd_14_55_15 ?_
  have g5 := zz_G.r G_S0 1079 28 0 1500 rfl rfl
  refine zz_geti (z := S0 1079 28) zd_14_55_16 zf_Md_331 zT_1079 rfl (zz_ltn hn rfl) (zz_rc F_S rfl rfl (fun h => h) rfl) ?_
  refine zz_icmp_gt (by omega) (by omega) zd_14_55_19 (fun c6 => ?_) (fun c6 => ?_)
  · refine zz_aload_n (x := 1079) rfl zd_14_55_160 ?_
    have g7 := zz_G.r G_S 1079 10 0 1000000 rfl rfl
    refine zz_callVV [] zd_14_55_161 zk_Md_382 zT_1079 (zz_ltn hn rfl) rfl rfl ⟨Nat.le_of_ble_eq_true rfl, Nat.le_of_ble_eq_true rfl⟩ ⟨rfl, rfl⟩ (Nat.zero_le _) (Nat.zero_le _) (zc_takeMade_14_56  S n hn G_S (by omega)) (fun S8 hP => ?_)
    obtain ⟨G_S8, fS8⟩ := hP
    have F_S8 := zz_fr.trans F_S fS8 rfl zz_nv
    refine zz_iconst zd_14_55_164 ?_
    exact zz_iret zd_14_55_165 rfl (Nat.zero_le _) (Nat.zero_le _) ⟨_, _, rfl, G_S8, F_S8, by omega⟩
  · refine zz_iload_n (x := x2) rfl zd_14_55_22 ?_
    refine zz_istore_n [some (.ref 1079), some (zi x1), some (zi x2), some (zi x2)] zd_14_55_23 (by decide) rfl ?_
    have g10 := zz_G.r G_S 1079 10 0 1000000 rfl rfl
    refine zz_less (ls1 := [some (.ref 1079), some (zi x1), some (zi x2), some (zi x2)]) ⟨rfl, ⟨rfl, ⟨rfl, ⟨rfl, trivial⟩⟩⟩⟩ ?_
    exact k24 x1 x2 x2 S G_S F_S (by omega) (by omega) (by omega) (by omega) (by omega) (by omega) (by omega) (by omega) (by omega) (by omega)
theorem zb_assemble_14_55_24 {g : mm_G} {l : Launch}  (S0 : zz_S) (n : Nat) (hn : zz_end ≤ n) (G_S0 : zz_G S0)  (x1 : Int) (x2 : Int) (x3 : Int) (S : zz_S) (G_S : zz_G S) (F_S : zz_fr [(1079, 0), (1079, 7), (1079, 10), (1079, 30), (1079, 31), (1079, 32), (1079, 33)] [1085, 1086, 1087] (fun _ _ => False) S0 S) (i24_0 : 0 ≤ x1 ∧ x1 ≤ 1501) (i24_1 : 0 ≤ x2 ∧ x2 ≤ 1500) (i24_2 : 0 ≤ x3 ∧ x3 ≤ 1500) (i24_3 : 0 ≤ x2 ∧ x2 ≤ 1501) (i24_4 : x1 ≤ x2) (i24_5 : x1 ≤ x2) (i24_6 : x2 ≤ x3) (i24_7 : x3 ≤ S0 1079 28) (i24_8 : S 1079 10 ≤ 600) (R : Nat) (hR : (51539607552 + (S0 1079 28 + 1 - x2).toNat) * 1099511627776 + (34359738368 + (S0 1079 28 - x3).toNat) = R) (k24 : ∀ (x1 : Int) (x2 : Int) (x3 : Int) (S : zz_S), zz_G S → zz_fr [(1079, 0), (1079, 7), (1079, 10), (1079, 30), (1079, 31), (1079, 32), (1079, 33)] [1085, 1086, 1087] (fun _ _ => False) S0 S → (0 ≤ x1 ∧ x1 ≤ 1501) → (0 ≤ x2 ∧ x2 ≤ 1500) → (0 ≤ x3 ∧ x3 ≤ 1500) → (0 ≤ x2 ∧ x2 ≤ 1501) → (x1 ≤ x2) → (x1 ≤ x2) → (x2 ≤ x3) → (x3 ≤ S0 1079 28) → (S 1079 10 ≤ 600) → (51539607552 + (S0 1079 28 + 1 - x2).toNat) * 1099511627776 + (34359738368 + (S0 1079 28 - x3).toNat) < R → zz_E g l zy_assemble_14_55 zr_assemble_14_55 (zz_QI n (zp_assemble_14_55  S0)) S n 24 [some (.ref 1079), some (zi x1), some (zi x2), some (zi x3)] [] 0 0) (k54 : ∀ (x1 : Int) (x2 : Int) (x3 : Int) (S : zz_S), zz_G S → zz_fr [(1079, 0), (1079, 7), (1079, 10), (1079, 30), (1079, 31), (1079, 32), (1079, 33)] [1085, 1086, 1087] (fun _ _ => False) S0 S → (0 ≤ x1 ∧ x1 ≤ 1501) → (0 ≤ x2 ∧ x2 ≤ 1500) → (0 ≤ x3 ∧ x3 ≤ 1500) → (0 ≤ x2 ∧ x2 ≤ 1501) → (x1 ≤ x2) → (x2 ≤ x3) → (x3 ≤ S0 1079 28) → (x1 ≤ x2) → (x2 ≤ x3) → (x3 ≤ S0 1079 28) → (S 1079 10 ≤ 600) → (51539607552 + (S0 1079 28 + 1 - x2).toNat) * 1099511627776 + (17179869184 + (x3 - S 1079 33).toNat) < R → zz_E g l zy_assemble_14_55 zr_assemble_14_55 (zz_QI n (zp_assemble_14_55  S0)) S n 54 [some (.ref 1079), some (zi x1), some (zi x2), some (zi x3)] [] 0 0) : zz_E g l zy_assemble_14_55 zr_assemble_14_55 (zz_QI n (zp_assemble_14_55  S0)) S n 24 [some (.ref 1079), some (zi x1), some (zi x2), some (zi x3)] [] 0 0 := by
  refine zz_iload_n (x := x3) rfl zd_14_55_24 ?_
  refine zz_aload_n (x := 1079) rfl zd_14_55_25 ?_
  have g11 := zz_G.r G_S0 1079 28 0 1500 rfl rfl
  refine zz_geti (z := S0 1079 28) zd_14_55_26 zf_Md_331 zT_1079 rfl (zz_ltn hn rfl) (zz_rc F_S rfl rfl (fun h => h) rfl) ?_
  refine zz_icmp_ge (by omega) (by omega) zd_14_55_29 (fun c12 => ?_) (fun c12 => ?_)
  · refine zz_aload_n (x := 1079) rfl zd_14_55_49 ?_
    refine zz_iload_n (x := x2) rfl zd_14_55_50 ?_
    refine zz_puti zd_14_55_51 zf_Md_337 zT_1079 rfl (zz_ltn hn rfl) (fun S13 qS13 => ?_)
    have G_S13 := zz_G.put G_S qS13 0 1500 rfl (by omega)
    have F_S13 := zz_fr.puts F_S qS13 rfl
    have g14 := zz_G.r G_S 1079 10 0 1000000 rfl rfl
    have e15 : S13 1079 10 = S 1079 10 := (zz_ro qS13 (fun h => absurd h.2 (by decide)) rfl)
    have e16 : S13 1079 33 = x2 := (zz_rs qS13)
    exact k54 x1 x2 x3 S13 G_S13 F_S13 (by omega) (by omega) (by omega) (by omega) (by omega) (by omega) (by omega) (by omega) (by omega) (by omega) (by omega) (by omega)
  · refine zz_aload_n (x := 1079) rfl zd_14_55_32 ?_
    refine zz_getr (kd := 0) (z := 1099) zd_14_55_33 zf_Md_76 zT_1079 rfl (zz_ltn hn rfl) (zz_G.eq G_S 1079 27 1099 rfl rfl) (by decide) 1099 rfl ?_
    refine zz_iload_n (x := x3) rfl zd_14_55_36 ?_
    have g17 := zz_G.r G_S0 1099 x3.toNat 0 255 rfl rfl
    refine zz_iald (z := S0 1099 x3.toNat) zd_14_55_37 zT_1099 rfl (zz_ltn hn rfl) (by decide) (by omega) (zz_rc F_S (zz_nc1 rfl) rfl (fun h => h) rfl) ?_
    refine zz_bipush (by decide) zd_14_55_38 ?_
    refine zz_icmp_eq (by omega) (by omega) zd_14_55_40 (fun c18 => ?_) (fun c18 => ?_)
    · refine zz_aload_n (x := 1079) rfl zd_14_55_49 ?_
      refine zz_iload_n (x := x2) rfl zd_14_55_50 ?_
      refine zz_puti zd_14_55_51 zf_Md_337 zT_1079 rfl (zz_ltn hn rfl) (fun S19 qS19 => ?_)
      have G_S19 := zz_G.put G_S qS19 0 1500 rfl (by omega)
      have F_S19 := zz_fr.puts F_S qS19 rfl
      have g20 := zz_G.r G_S 1079 10 0 1000000 rfl rfl
      have e21 : S19 1079 10 = S 1079 10 := (zz_ro qS19 (fun h => absurd h.2 (by decide)) rfl)
      have e22 : S19 1079 33 = x2 := (zz_rs qS19)
      exact k54 x1 x2 x3 S19 G_S19 F_S19 (by omega) (by omega) (by omega) (by omega) (by omega) (by omega) (by omega) (by omega) (by omega) (by omega) (by omega) (by omega)
    · refine zz_iinc [some (.ref 1079), some (zi x1), some (zi x2), some (zi (x3 + 1))] zd_14_55_43 rfl rfl ?_
      refine zz_goto zd_14_55_46 ?_
      have g23 := zz_G.r G_S 1079 10 0 1000000 rfl rfl
      refine zz_less (ls1 := [some (.ref 1079), some (zi x1), some (zi x2), some (zi (x3 + 1))]) ⟨rfl, ⟨rfl, ⟨rfl, ⟨rfl, trivial⟩⟩⟩⟩ ?_
      exact k24 x1 x2 (x3 + 1) S G_S F_S (by omega) (by omega) (by omega) (by omega) (by omega) (by omega) (by omega) (by omega) (by omega) (by omega)
theorem zb_assemble_14_55_54 {g : mm_G} {l : Launch}  (S0 : zz_S) (n : Nat) (hn : zz_end ≤ n) (G_S0 : zz_G S0)  (x1 : Int) (x2 : Int) (x3 : Int) (S : zz_S) (G_S : zz_G S) (F_S : zz_fr [(1079, 0), (1079, 7), (1079, 10), (1079, 30), (1079, 31), (1079, 32), (1079, 33)] [1085, 1086, 1087] (fun _ _ => False) S0 S) (i54_0 : 0 ≤ x1 ∧ x1 ≤ 1501) (i54_1 : 0 ≤ x2 ∧ x2 ≤ 1500) (i54_2 : 0 ≤ x3 ∧ x3 ≤ 1500) (i54_3 : 0 ≤ x2 ∧ x2 ≤ 1501) (i54_4 : x1 ≤ x2) (i54_5 : x2 ≤ x3) (i54_6 : x3 ≤ S0 1079 28) (i54_7 : x1 ≤ x2) (i54_8 : x2 ≤ x3) (i54_9 : x3 ≤ S0 1079 28) (i54_10 : S 1079 10 ≤ 600) (R : Nat) (hR : (51539607552 + (S0 1079 28 + 1 - x2).toNat) * 1099511627776 + (17179869184 + (x3 - S 1079 33).toNat) = R) (k14 : ∀ (x1 : Int) (x2 : Int) (S : zz_S), zz_G S → zz_fr [(1079, 0), (1079, 7), (1079, 10), (1079, 30), (1079, 31), (1079, 32), (1079, 33)] [1085, 1086, 1087] (fun _ _ => False) S0 S → (0 ≤ x1 ∧ x1 ≤ 1501) → (0 ≤ x2 ∧ x2 ≤ 1501) → (x1 ≤ x2) → (S 1079 10 ≤ 600) → (51539607552 + (S0 1079 28 + 1 - x2).toNat) * 1099511627776 + 1099511627775 < R → zz_E g l zy_assemble_14_55 zr_assemble_14_55 (zz_QI n (zp_assemble_14_55  S0)) S n 14 [some (.ref 1079), some (zi x1), some (zi x2)] [] 0 0) (k54 : ∀ (x1 : Int) (x2 : Int) (x3 : Int) (S : zz_S), zz_G S → zz_fr [(1079, 0), (1079, 7), (1079, 10), (1079, 30), (1079, 31), (1079, 32), (1079, 33)] [1085, 1086, 1087] (fun _ _ => False) S0 S → (0 ≤ x1 ∧ x1 ≤ 1501) → (0 ≤ x2 ∧ x2 ≤ 1500) → (0 ≤ x3 ∧ x3 ≤ 1500) → (0 ≤ x2 ∧ x2 ≤ 1501) → (x1 ≤ x2) → (x2 ≤ x3) → (x3 ≤ S0 1079 28) → (x1 ≤ x2) → (x2 ≤ x3) → (x3 ≤ S0 1079 28) → (S 1079 10 ≤ 600) → (51539607552 + (S0 1079 28 + 1 - x2).toNat) * 1099511627776 + (17179869184 + (x3 - S 1079 33).toNat) < R → zz_E g l zy_assemble_14_55 zr_assemble_14_55 (zz_QI n (zp_assemble_14_55  S0)) S n 54 [some (.ref 1079), some (zi x1), some (zi x2), some (zi x3)] [] 0 0) : zz_E g l zy_assemble_14_55 zr_assemble_14_55 (zz_QI n (zp_assemble_14_55  S0)) S n 54 [some (.ref 1079), some (zi x1), some (zi x2), some (zi x3)] [] 0 0 := by
  refine zz_aload_n (x := 1079) rfl zd_14_55_54 ?_
  have g24 := zz_G.r G_S 1079 33 0 1500 rfl rfl
  refine zz_geti (z := S 1079 33) zd_14_55_55 zf_Md_337 zT_1079 rfl (zz_ltn hn rfl) rfl ?_
  refine zz_iload_n (x := x3) rfl zd_14_55_58 ?_
  refine zz_icmp_ge (by omega) (by omega) zd_14_55_59 (fun c25 => ?_) (fun c25 => ?_)
  · refine zz_aload_n (x := 1079) rfl zd_14_55_89 ?_
    refine zz_iload_n (x := x2) rfl zd_14_55_90 ?_
    refine zz_puti zd_14_55_91 zf_Md_334 zT_1079 rfl (zz_ltn hn rfl) (fun S26 qS26 => ?_)
    have G_S26 := zz_G.put G_S qS26 0 1500 rfl (by omega)
    have F_S26 := zz_fr.puts F_S qS26 rfl
    refine zz_aload_n (x := 1079) rfl zd_14_55_94 ?_
    refine zz_callVI [] zd_14_55_95 zk_Md_375 zT_1079 (zz_ltn hn rfl) rfl rfl ⟨Nat.le_of_ble_eq_true rfl, Nat.le_of_ble_eq_true rfl⟩ ⟨rfl, rfl⟩ (Nat.zero_le _) (Nat.zero_le _) (zc_readLine_14_54  S26 n hn G_S26 ) (fun v28 S27 hP => ?_)
    obtain ⟨G_S27, fS27, o29⟩ := hP
    have F_S27 := zz_fr.trans F_S26 fS27 rfl zz_nv
    refine zz_istore [some (.ref 1079), some (zi x1), some (zi x2), some (zi x3), some (zi v28)] zd_14_55_98 (by decide) rfl ?_
    refine zz_iload (x := v28) rfl zd_14_55_100 ?_
    refine zz_if_lt (by omega) zd_14_55_102 (fun c30 => ?_) (fun c30 => ?_)
    · refine zz_iload_n (x := x1) rfl zd_14_55_120 ?_
      exact zz_iret zd_14_55_121 rfl (Nat.zero_le _) (Nat.zero_le _) ⟨_, _, rfl, G_S27, F_S27, by omega⟩
    · refine zz_iload (x := v28) rfl zd_14_55_105 ?_
      refine zz_if_le (by omega) zd_14_55_107 (fun c31 => ?_) (fun c31 => ?_)
      · refine zz_iload (x := v28) rfl zd_14_55_122 ?_
        refine zz_if_le (by omega) zd_14_55_124 (fun c32 => ?_) (fun c32 => ?_)
        · refine zz_iload_n (x := x3) rfl zd_14_55_150 ?_
          refine zz_iconst zd_14_55_151 ?_
          refine zz_iadd zd_14_55_152 ?_
          refine zz_istore_n [some (.ref 1079), some (zi x1), some (zi (x3 + 1)), some (zi x3), some (zi v28)] zd_14_55_153 (by decide) rfl ?_
          refine zz_iinc [some (.ref 1079), some (zi (x1 + 1)), some (zi (x3 + 1)), some (zi x3), some (zi v28)] zd_14_55_154 rfl rfl ?_
          refine zz_goto zd_14_55_157 ?_
          have g33 := zz_G.r G_S 1079 10 0 1000000 rfl rfl
          have e34 : S27 1079 10 = S 1079 10 := (zz_rc fS27 rfl rfl (fun h => h) (zz_ro qS26 (fun h => absurd h.2 (by decide)) rfl))
          have g35 := zz_G.r G_S0 1079 28 0 1500 rfl rfl
          refine zz_less (ls1 := [some (.ref 1079), some (zi (x1 + 1)), some (zi (x3 + 1))]) ⟨rfl, ⟨rfl, ⟨rfl, trivial⟩⟩⟩ ?_
          exact k14 (x1 + 1) (x3 + 1) S27 G_S27 F_S27 (by omega) (by omega) (by omega) (by omega) (by omega)
        · exfalso; omega
      · refine zz_aload_n (x := 1079) rfl zd_14_55_110 ?_
        have g36 := zz_G.r G_S 1079 10 0 1000000 rfl rfl
        refine zz_geti (z := S 1079 10) zd_14_55_111 zf_Md_372 zT_1079 rfl (zz_ltn hn rfl) (zz_rc fS27 rfl rfl (fun h => h) (zz_ro qS26 (fun h => absurd h.2 (by decide)) rfl)) ?_
        refine zz_sipush (by decide) zd_14_55_114 ?_
        refine zz_icmp_ne (by omega) (by omega) zd_14_55_117 (fun c37 => ?_) (fun c37 => ?_)
        · refine zz_iload (x := v28) rfl zd_14_55_122 ?_
          refine zz_if_le (by omega) zd_14_55_124 (fun c38 => ?_) (fun c38 => ?_)
          · exfalso; omega
          · refine zz_aload_n (x := 1079) rfl zd_14_55_127 ?_
            refine zz_getr (kd := 0) (z := 1086) zd_14_55_128 zf_Md_33 zT_1079 rfl (zz_ltn hn rfl) (zz_G.eq G_S27 1079 9 1086 rfl rfl) (by decide) 1086 rfl ?_
            refine zz_aload_n (x := 1079) rfl zd_14_55_131 ?_
            refine zz_geti (z := S 1079 10) zd_14_55_132 zf_Md_372 zT_1079 rfl (zz_ltn hn rfl) (zz_rc fS27 rfl rfl (fun h => h) (zz_ro qS26 (fun h => absurd h.2 (by decide)) rfl)) ?_
            refine zz_aload_n (x := 1079) rfl zd_14_55_135 ?_
            refine zz_callVJ [] zd_14_55_136 zk_Md_378 zT_1079 (zz_ltn hn rfl) rfl rfl ⟨Nat.le_of_ble_eq_true rfl, Nat.le_of_ble_eq_true rfl⟩ ⟨rfl, rfl⟩ (Nat.zero_le _) (Nat.zero_le _) (zc_wordOfFields_14_53  S27 n hn G_S27 ) (fun v40 S39 hP => ?_)
            obtain ⟨rfl, o41⟩ := hP
            refine zz_last zd_14_55_139 zT_1086 rfl (zz_ltn hn rfl) (by decide) (by omega) (fun S42 qS42 => ?_)
            have G_S42 := zz_G.put G_S27 qS42 (-9223372036854775808) 9223372036854775807 rfl (by omega)
            have F_S42 := zz_fr.putc F_S27 qS42 rfl
            refine zz_aload_n (x := 1079) rfl zd_14_55_140 ?_
            refine zz_dup rfl zd_14_55_141 ?_
            refine zz_geti (z := S 1079 10) zd_14_55_142 zf_Md_372 zT_1079 rfl (zz_ltn hn rfl) (zz_ro qS42 (fun h => absurd h.1 (by decide)) (zz_rc fS27 rfl rfl (fun h => h) (zz_ro qS26 (fun h => absurd h.2 (by decide)) rfl))) ?_
            refine zz_iconst zd_14_55_145 ?_
            refine zz_iadd zd_14_55_146 ?_
            refine zz_puti zd_14_55_147 zf_Md_372 zT_1079 rfl (zz_ltn hn rfl) (fun S43 qS43 => ?_)
            have G_S43 := zz_G.put G_S42 qS43 0 1000000 rfl (by omega)
            have F_S43 := zz_fr.puts F_S42 qS43 rfl
            refine zz_iload_n (x := x3) rfl zd_14_55_150 ?_
            refine zz_iconst zd_14_55_151 ?_
            refine zz_iadd zd_14_55_152 ?_
            refine zz_istore_n [some (.ref 1079), some (zi x1), some (zi (x3 + 1)), some (zi x3), some (zi v28)] zd_14_55_153 (by decide) rfl ?_
            refine zz_iinc [some (.ref 1079), some (zi (x1 + 1)), some (zi (x3 + 1)), some (zi x3), some (zi v28)] zd_14_55_154 rfl rfl ?_
            refine zz_goto zd_14_55_157 ?_
            have e44 : S43 1079 10 = (S 1079 10) + 1 := (zz_rs qS43)
            have g45 := zz_G.r G_S0 1079 28 0 1500 rfl rfl
            refine zz_less (ls1 := [some (.ref 1079), some (zi (x1 + 1)), some (zi (x3 + 1))]) ⟨rfl, ⟨rfl, ⟨rfl, trivial⟩⟩⟩ ?_
            exact k14 (x1 + 1) (x3 + 1) S43 G_S43 F_S43 (by omega) (by omega) (by omega) (by omega) (by omega)
        · refine zz_iload_n (x := x1) rfl zd_14_55_120 ?_
          exact zz_iret zd_14_55_121 rfl (Nat.zero_le _) (Nat.zero_le _) ⟨_, _, rfl, G_S27, F_S27, by omega⟩
  · refine zz_aload_n (x := 1079) rfl zd_14_55_62 ?_
    refine zz_getr (kd := 0) (z := 1099) zd_14_55_63 zf_Md_76 zT_1079 rfl (zz_ltn hn rfl) (zz_G.eq G_S 1079 27 1099 rfl rfl) (by decide) 1099 rfl ?_
    refine zz_aload_n (x := 1079) rfl zd_14_55_66 ?_
    refine zz_geti (z := S 1079 33) zd_14_55_67 zf_Md_337 zT_1079 rfl (zz_ltn hn rfl) rfl ?_
    have g46 := zz_G.r G_S0 1099 ((S 1079 33).toNat) 0 255 rfl rfl
    refine zz_iald (z := S0 1099 ((S 1079 33).toNat)) zd_14_55_70 zT_1099 rfl (zz_ltn hn rfl) (by decide) (by omega) (zz_rc F_S (zz_nc1 rfl) rfl (fun h => h) rfl) ?_
    refine zz_bipush (by decide) zd_14_55_71 ?_
    refine zz_icmp_eq (by omega) (by omega) zd_14_55_73 (fun c47 => ?_) (fun c47 => ?_)
    · refine zz_aload_n (x := 1079) rfl zd_14_55_89 ?_
      refine zz_iload_n (x := x2) rfl zd_14_55_90 ?_
      refine zz_puti zd_14_55_91 zf_Md_334 zT_1079 rfl (zz_ltn hn rfl) (fun S48 qS48 => ?_)
      have G_S48 := zz_G.put G_S qS48 0 1500 rfl (by omega)
      have F_S48 := zz_fr.puts F_S qS48 rfl
      refine zz_aload_n (x := 1079) rfl zd_14_55_94 ?_
      refine zz_callVI [] zd_14_55_95 zk_Md_375 zT_1079 (zz_ltn hn rfl) rfl rfl ⟨Nat.le_of_ble_eq_true rfl, Nat.le_of_ble_eq_true rfl⟩ ⟨rfl, rfl⟩ (Nat.zero_le _) (Nat.zero_le _) (zc_readLine_14_54  S48 n hn G_S48 ) (fun v50 S49 hP => ?_)
      obtain ⟨G_S49, fS49, o51⟩ := hP
      have F_S49 := zz_fr.trans F_S48 fS49 rfl zz_nv
      refine zz_istore [some (.ref 1079), some (zi x1), some (zi x2), some (zi x3), some (zi v50)] zd_14_55_98 (by decide) rfl ?_
      refine zz_iload (x := v50) rfl zd_14_55_100 ?_
      refine zz_if_lt (by omega) zd_14_55_102 (fun c52 => ?_) (fun c52 => ?_)
      · refine zz_iload_n (x := x1) rfl zd_14_55_120 ?_
        exact zz_iret zd_14_55_121 rfl (Nat.zero_le _) (Nat.zero_le _) ⟨_, _, rfl, G_S49, F_S49, by omega⟩
      · refine zz_iload (x := v50) rfl zd_14_55_105 ?_
        refine zz_if_le (by omega) zd_14_55_107 (fun c53 => ?_) (fun c53 => ?_)
        · refine zz_iload (x := v50) rfl zd_14_55_122 ?_
          refine zz_if_le (by omega) zd_14_55_124 (fun c54 => ?_) (fun c54 => ?_)
          · refine zz_iload_n (x := x3) rfl zd_14_55_150 ?_
            refine zz_iconst zd_14_55_151 ?_
            refine zz_iadd zd_14_55_152 ?_
            refine zz_istore_n [some (.ref 1079), some (zi x1), some (zi (x3 + 1)), some (zi x3), some (zi v50)] zd_14_55_153 (by decide) rfl ?_
            refine zz_iinc [some (.ref 1079), some (zi (x1 + 1)), some (zi (x3 + 1)), some (zi x3), some (zi v50)] zd_14_55_154 rfl rfl ?_
            refine zz_goto zd_14_55_157 ?_
            have g55 := zz_G.r G_S 1079 10 0 1000000 rfl rfl
            have e56 : S49 1079 10 = S 1079 10 := (zz_rc fS49 rfl rfl (fun h => h) (zz_ro qS48 (fun h => absurd h.2 (by decide)) rfl))
            have g57 := zz_G.r G_S0 1079 28 0 1500 rfl rfl
            refine zz_less (ls1 := [some (.ref 1079), some (zi (x1 + 1)), some (zi (x3 + 1))]) ⟨rfl, ⟨rfl, ⟨rfl, trivial⟩⟩⟩ ?_
            exact k14 (x1 + 1) (x3 + 1) S49 G_S49 F_S49 (by omega) (by omega) (by omega) (by omega) (by omega)
          · exfalso; omega
        · refine zz_aload_n (x := 1079) rfl zd_14_55_110 ?_
          have g58 := zz_G.r G_S 1079 10 0 1000000 rfl rfl
          refine zz_geti (z := S 1079 10) zd_14_55_111 zf_Md_372 zT_1079 rfl (zz_ltn hn rfl) (zz_rc fS49 rfl rfl (fun h => h) (zz_ro qS48 (fun h => absurd h.2 (by decide)) rfl)) ?_
          refine zz_sipush (by decide) zd_14_55_114 ?_
          refine zz_icmp_ne (by omega) (by omega) zd_14_55_117 (fun c59 => ?_) (fun c59 => ?_)
          · refine zz_iload (x := v50) rfl zd_14_55_122 ?_
            refine zz_if_le (by omega) zd_14_55_124 (fun c60 => ?_) (fun c60 => ?_)
            · exfalso; omega
            · refine zz_aload_n (x := 1079) rfl zd_14_55_127 ?_
              refine zz_getr (kd := 0) (z := 1086) zd_14_55_128 zf_Md_33 zT_1079 rfl (zz_ltn hn rfl) (zz_G.eq G_S49 1079 9 1086 rfl rfl) (by decide) 1086 rfl ?_
              refine zz_aload_n (x := 1079) rfl zd_14_55_131 ?_
              refine zz_geti (z := S 1079 10) zd_14_55_132 zf_Md_372 zT_1079 rfl (zz_ltn hn rfl) (zz_rc fS49 rfl rfl (fun h => h) (zz_ro qS48 (fun h => absurd h.2 (by decide)) rfl)) ?_
              refine zz_aload_n (x := 1079) rfl zd_14_55_135 ?_
              refine zz_callVJ [] zd_14_55_136 zk_Md_378 zT_1079 (zz_ltn hn rfl) rfl rfl ⟨Nat.le_of_ble_eq_true rfl, Nat.le_of_ble_eq_true rfl⟩ ⟨rfl, rfl⟩ (Nat.zero_le _) (Nat.zero_le _) (zc_wordOfFields_14_53  S49 n hn G_S49 ) (fun v62 S61 hP => ?_)
              obtain ⟨rfl, o63⟩ := hP
              refine zz_last zd_14_55_139 zT_1086 rfl (zz_ltn hn rfl) (by decide) (by omega) (fun S64 qS64 => ?_)
              have G_S64 := zz_G.put G_S49 qS64 (-9223372036854775808) 9223372036854775807 rfl (by omega)
              have F_S64 := zz_fr.putc F_S49 qS64 rfl
              refine zz_aload_n (x := 1079) rfl zd_14_55_140 ?_
              refine zz_dup rfl zd_14_55_141 ?_
              refine zz_geti (z := S 1079 10) zd_14_55_142 zf_Md_372 zT_1079 rfl (zz_ltn hn rfl) (zz_ro qS64 (fun h => absurd h.1 (by decide)) (zz_rc fS49 rfl rfl (fun h => h) (zz_ro qS48 (fun h => absurd h.2 (by decide)) rfl))) ?_
              refine zz_iconst zd_14_55_145 ?_
              refine zz_iadd zd_14_55_146 ?_
              refine zz_puti zd_14_55_147 zf_Md_372 zT_1079 rfl (zz_ltn hn rfl) (fun S65 qS65 => ?_)
              have G_S65 := zz_G.put G_S64 qS65 0 1000000 rfl (by omega)
              have F_S65 := zz_fr.puts F_S64 qS65 rfl
              refine zz_iload_n (x := x3) rfl zd_14_55_150 ?_
              refine zz_iconst zd_14_55_151 ?_
              refine zz_iadd zd_14_55_152 ?_
              refine zz_istore_n [some (.ref 1079), some (zi x1), some (zi (x3 + 1)), some (zi x3), some (zi v50)] zd_14_55_153 (by decide) rfl ?_
              refine zz_iinc [some (.ref 1079), some (zi (x1 + 1)), some (zi (x3 + 1)), some (zi x3), some (zi v50)] zd_14_55_154 rfl rfl ?_
              refine zz_goto zd_14_55_157 ?_
              have e66 : S65 1079 10 = (S 1079 10) + 1 := (zz_rs qS65)
              have g67 := zz_G.r G_S0 1079 28 0 1500 rfl rfl
              refine zz_less (ls1 := [some (.ref 1079), some (zi (x1 + 1)), some (zi (x3 + 1))]) ⟨rfl, ⟨rfl, ⟨rfl, trivial⟩⟩⟩ ?_
              exact k14 (x1 + 1) (x3 + 1) S65 G_S65 F_S65 (by omega) (by omega) (by omega) (by omega) (by omega)
          · refine zz_iload_n (x := x1) rfl zd_14_55_120 ?_
            exact zz_iret zd_14_55_121 rfl (Nat.zero_le _) (Nat.zero_le _) ⟨_, _, rfl, G_S49, F_S49, by omega⟩
    · refine zz_aload_n (x := 1079) rfl zd_14_55_76 ?_
      refine zz_dup rfl zd_14_55_77 ?_
      refine zz_geti (z := S 1079 33) zd_14_55_78 zf_Md_337 zT_1079 rfl (zz_ltn hn rfl) rfl ?_
      refine zz_iconst zd_14_55_81 ?_
      refine zz_iadd zd_14_55_82 ?_
      refine zz_puti zd_14_55_83 zf_Md_337 zT_1079 rfl (zz_ltn hn rfl) (fun S68 qS68 => ?_)
      have G_S68 := zz_G.put G_S qS68 0 1500 rfl (by omega)
      have F_S68 := zz_fr.puts F_S qS68 rfl
      refine zz_goto zd_14_55_86 ?_
      have g69 := zz_G.r G_S 1079 10 0 1000000 rfl rfl
      have e70 : S68 1079 10 = S 1079 10 := (zz_ro qS68 (fun h => absurd h.2 (by decide)) rfl)
      have e71 : S68 1079 33 = (S 1079 33) + 1 := (zz_rs qS68)
      have g72 := zz_G.r G_S0 1079 28 0 1500 rfl rfl
      exact k54 x1 x2 x3 S68 G_S68 F_S68 (by omega) (by omega) (by omega) (by omega) (by omega) (by omega) (by omega) (by omega) (by omega) (by omega) (by omega) (by omega)
theorem zi_assemble_14_55 {g : mm_G} {l : Launch}  (S0 : zz_S) (n : Nat) (hn : zz_end ≤ n) (G_S0 : zz_G S0)  : ∀ N : Nat, (∀ (x1 : Int) (x2 : Int) (S : zz_S), zz_G S → zz_fr [(1079, 0), (1079, 7), (1079, 10), (1079, 30), (1079, 31), (1079, 32), (1079, 33)] [1085, 1086, 1087] (fun _ _ => False) S0 S → (0 ≤ x1 ∧ x1 ≤ 1501) → (0 ≤ x2 ∧ x2 ≤ 1501) → (x1 ≤ x2) → (S 1079 10 ≤ 600) → (51539607552 + (S0 1079 28 + 1 - x2).toNat) * 1099511627776 + 1099511627775 < N → zz_E g l zy_assemble_14_55 zr_assemble_14_55 (zz_QI n (zp_assemble_14_55  S0)) S n 14 [some (.ref 1079), some (zi x1), some (zi x2)] [] 0 0) ∧ (∀ (x1 : Int) (x2 : Int) (x3 : Int) (S : zz_S), zz_G S → zz_fr [(1079, 0), (1079, 7), (1079, 10), (1079, 30), (1079, 31), (1079, 32), (1079, 33)] [1085, 1086, 1087] (fun _ _ => False) S0 S → (0 ≤ x1 ∧ x1 ≤ 1501) → (0 ≤ x2 ∧ x2 ≤ 1500) → (0 ≤ x3 ∧ x3 ≤ 1500) → (0 ≤ x2 ∧ x2 ≤ 1501) → (x1 ≤ x2) → (x1 ≤ x2) → (x2 ≤ x3) → (x3 ≤ S0 1079 28) → (S 1079 10 ≤ 600) → (51539607552 + (S0 1079 28 + 1 - x2).toNat) * 1099511627776 + (34359738368 + (S0 1079 28 - x3).toNat) < N → zz_E g l zy_assemble_14_55 zr_assemble_14_55 (zz_QI n (zp_assemble_14_55  S0)) S n 24 [some (.ref 1079), some (zi x1), some (zi x2), some (zi x3)] [] 0 0) ∧ (∀ (x1 : Int) (x2 : Int) (x3 : Int) (S : zz_S), zz_G S → zz_fr [(1079, 0), (1079, 7), (1079, 10), (1079, 30), (1079, 31), (1079, 32), (1079, 33)] [1085, 1086, 1087] (fun _ _ => False) S0 S → (0 ≤ x1 ∧ x1 ≤ 1501) → (0 ≤ x2 ∧ x2 ≤ 1500) → (0 ≤ x3 ∧ x3 ≤ 1500) → (0 ≤ x2 ∧ x2 ≤ 1501) → (x1 ≤ x2) → (x2 ≤ x3) → (x3 ≤ S0 1079 28) → (x1 ≤ x2) → (x2 ≤ x3) → (x3 ≤ S0 1079 28) → (S 1079 10 ≤ 600) → (51539607552 + (S0 1079 28 + 1 - x2).toNat) * 1099511627776 + (17179869184 + (x3 - S 1079 33).toNat) < N → zz_E g l zy_assemble_14_55 zr_assemble_14_55 (zz_QI n (zp_assemble_14_55  S0)) S n 54 [some (.ref 1079), some (zi x1), some (zi x2), some (zi x3)] [] 0 0) := by
  intro N
  induction N with
  | zero => exact ⟨fun x1 x2 S _ _ _ _ _ _ h => absurd h (Nat.not_lt_zero _), fun x1 x2 x3 S _ _ _ _ _ _ _ _ _ _ _ h => absurd h (Nat.not_lt_zero _), fun x1 x2 x3 S _ _ _ _ _ _ _ _ _ _ _ _ _ h => absurd h (Nat.not_lt_zero _)⟩
  | succ N ih =>
    exact ⟨fun x1 x2 S a b j0 j1 j2 j3 hR => zb_assemble_14_55_14  S0 n hn G_S0  x1 x2 S a b j0 j1 j2 j3 _ rfl (fun x1 x2 x3 S a b j0 j1 j2 j3 j4 j5 j6 j7 j8 h => ih.2.1 x1 x2 x3 S a b j0 j1 j2 j3 j4 j5 j6 j7 j8 (Nat.lt_of_lt_of_le h (Nat.le_of_lt_succ hR))),
      fun x1 x2 x3 S a b j0 j1 j2 j3 j4 j5 j6 j7 j8 hR => zb_assemble_14_55_24  S0 n hn G_S0  x1 x2 x3 S a b j0 j1 j2 j3 j4 j5 j6 j7 j8 _ rfl (fun x1 x2 x3 S a b j0 j1 j2 j3 j4 j5 j6 j7 j8 h => ih.2.1 x1 x2 x3 S a b j0 j1 j2 j3 j4 j5 j6 j7 j8 (Nat.lt_of_lt_of_le h (Nat.le_of_lt_succ hR))) (fun x1 x2 x3 S a b j0 j1 j2 j3 j4 j5 j6 j7 j8 j9 j10 h => ih.2.2 x1 x2 x3 S a b j0 j1 j2 j3 j4 j5 j6 j7 j8 j9 j10 (Nat.lt_of_lt_of_le h (Nat.le_of_lt_succ hR))),
      fun x1 x2 x3 S a b j0 j1 j2 j3 j4 j5 j6 j7 j8 j9 j10 hR => zb_assemble_14_55_54  S0 n hn G_S0  x1 x2 x3 S a b j0 j1 j2 j3 j4 j5 j6 j7 j8 j9 j10 _ rfl (fun x1 x2 S a b j0 j1 j2 j3 h => ih.1 x1 x2 S a b j0 j1 j2 j3 (Nat.lt_of_lt_of_le h (Nat.le_of_lt_succ hR))) (fun x1 x2 x3 S a b j0 j1 j2 j3 j4 j5 j6 j7 j8 j9 j10 h => ih.2.2 x1 x2 x3 S a b j0 j1 j2 j3 j4 j5 j6 j7 j8 j9 j10 (Nat.lt_of_lt_of_le h (Nat.le_of_lt_succ hR)))⟩
theorem zc_assemble_14_55 {g : mm_G} {l : Launch}  (S0 : zz_S) (n : Nat) (hn : zz_end ≤ n) (G_S0 : zz_G S0)  : mm_Met g l zy_assemble_14_55 zr_assemble_14_55 [.ref 1079] (zz_M S0 n) n (zz_QI n (zp_assemble_14_55  S0)) := by
  refine zz_enter (by decide) (Nat.le_of_ble_eq_true rfl) (zz_less (ls1 := [some (.ref 1079)]) ⟨rfl, trivial⟩ ?_)
  have F_S0 : zz_fr [(1079, 0), (1079, 7), (1079, 10), (1079, 30), (1079, 31), (1079, 32), (1079, 33)] [1085, 1086, 1087] (fun _ _ => False) S0 S0 := zz_fr.refl
  have k14 : ∀ (x1 : Int) (x2 : Int) (S : zz_S), zz_G S → zz_fr [(1079, 0), (1079, 7), (1079, 10), (1079, 30), (1079, 31), (1079, 32), (1079, 33)] [1085, 1086, 1087] (fun _ _ => False) S0 S → (0 ≤ x1 ∧ x1 ≤ 1501) → (0 ≤ x2 ∧ x2 ≤ 1501) → (x1 ≤ x2) → (S 1079 10 ≤ 600) → zz_E g l zy_assemble_14_55 zr_assemble_14_55 (zz_QI n (zp_assemble_14_55  S0)) S n 14 [some (.ref 1079), some (zi x1), some (zi x2)] [] 0 0 := fun x1 x2 S a b j0 j1 j2 j3 => (zi_assemble_14_55 (g := g) (l := l)  S0 n hn G_S0  _).1 x1 x2 S a b j0 j1 j2 j3 (Nat.lt_succ_self _)
  refine zz_aload_n (x := 1079) rfl zd_14_55_0 ?_
  refine zz_iconst zd_14_55_1 ?_
  refine zz_puti zd_14_55_2 zf_Md_187 zT_1079 rfl (zz_ltn hn rfl) (fun S1 qS1 => ?_)
  have G_S1 := zz_G.put G_S0 qS1 0 3 rfl (by omega)
  have F_S1 := zz_fr.puts F_S0 qS1 rfl
  refine zz_aload_n (x := 1079) rfl zd_14_55_5 ?_
  refine zz_iconst zd_14_55_6 ?_
  refine zz_puti zd_14_55_7 zf_Md_372 zT_1079 rfl (zz_ltn hn rfl) (fun S2 qS2 => ?_)
  have G_S2 := zz_G.put G_S1 qS2 0 1000000 rfl (by omega)
  have F_S2 := zz_fr.puts F_S1 qS2 rfl
  refine zz_iconst zd_14_55_10 ?_
  refine zz_istore_n [some (.ref 1079), some (zi 0)] zd_14_55_11 (by decide) rfl ?_
  refine zz_iconst zd_14_55_12 ?_
  refine zz_istore_n [some (.ref 1079), some (zi 0), some (zi 0)] zd_14_55_13 (by decide) rfl ?_
  have e3 : S2 1079 10 = 0 := (zz_rs qS2)
  have g4 := zz_G.r G_S0 1079 28 0 1500 rfl rfl
  refine zz_less (ls1 := [some (.ref 1079), some (zi 0), some (zi 0)]) ⟨rfl, ⟨rfl, ⟨rfl, trivial⟩⟩⟩ ?_
  exact k14 0 0 S2 G_S2 F_S2 (by omega) (by omega) (by omega) (by omega)
abbrev zy_say_14_57 : mm_Y := (⟨"TensorForgeModel", "say", "(J)V"⟩, prog_14_method_57_code, 3, none)
theorem zyw_say_14_57 : mm_Yw zy_say_14_57 1 := ⟨mm_tb_1 2053 (by decide +kernel) rfl, mm_tb_1 12 (by decide +kernel) rfl, ⟨by decide, by decide⟩, by decide +kernel⟩
theorem zf_Md_82 : mm_Fl "TensorForgeModel" 82 11 35 (.array .int) true := ⟨R_Md, F_Md, 69, t_Md, rfl, i_Md, by decide, mm_tb_1 1646 (by decide +kernel) rfl, rfl, t_Md_ok, n_Md, rfl, by decide +kernel⟩
theorem zf_Md_385 : mm_Fl "TensorForgeModel" 385 11 34 .int false := ⟨R_Md, F_Md, 69, t_Md, rfl, i_Md, by decide, mm_tb_1 1645 (by decide +kernel) rfl, rfl, t_Md_ok, n_Md, rfl, by decide +kernel⟩
theorem zg_14_57_0 : (decode zy_say_14_57.2.1 0 = .ok ((.aload_n 0), 1)) ∧ (decode zy_say_14_57.2.1 1 = .ok ((.getfield 82), 3)) ∧ (decode zy_say_14_57.2.1 4 = .ok ((.aload_n 0), 1)) ∧ (decode zy_say_14_57.2.1 5 = .ok ((.getfield 385), 3)) ∧ (decode zy_say_14_57.2.1 8 = .ok ((.lload_n 1), 1)) ∧ (decode zy_say_14_57.2.1 9 = .ok ((.l2i), 1)) ∧ (decode zy_say_14_57.2.1 10 = .ok ((.iastore), 1)) ∧ (decode zy_say_14_57.2.1 11 = .ok ((.aload_n 0), 1)) ∧ (decode zy_say_14_57.2.1 12 = .ok ((.dup), 1)) ∧ (decode zy_say_14_57.2.1 13 = .ok ((.getfield 385), 3)) := by decide +kernel
theorem zd_14_57_0 : zz_D zy_say_14_57 0 (.aload_n 0) 1 1 := ⟨zg_14_57_0.1, rfl⟩
theorem zd_14_57_1 : zz_D zy_say_14_57 1 (.getfield 82) 3 4 := ⟨zg_14_57_0.2.1, rfl⟩
theorem zd_14_57_4 : zz_D zy_say_14_57 4 (.aload_n 0) 1 5 := ⟨zg_14_57_0.2.2.1, rfl⟩
theorem zd_14_57_5 : zz_D zy_say_14_57 5 (.getfield 385) 3 8 := ⟨zg_14_57_0.2.2.2.1, rfl⟩
theorem zd_14_57_8 : zz_D zy_say_14_57 8 (.lload_n 1) 1 9 := ⟨zg_14_57_0.2.2.2.2.1, rfl⟩
theorem zd_14_57_9 : zz_D zy_say_14_57 9 (.l2i) 1 10 := ⟨zg_14_57_0.2.2.2.2.2.1, rfl⟩
theorem zd_14_57_10 : zz_D zy_say_14_57 10 (.iastore) 1 11 := ⟨zg_14_57_0.2.2.2.2.2.2.1, rfl⟩
theorem zd_14_57_11 : zz_D zy_say_14_57 11 (.aload_n 0) 1 12 := ⟨zg_14_57_0.2.2.2.2.2.2.2.1, rfl⟩
theorem zd_14_57_12 : zz_D zy_say_14_57 12 (.dup) 1 13 := ⟨zg_14_57_0.2.2.2.2.2.2.2.2.1, rfl⟩
theorem zd_14_57_13 : zz_D zy_say_14_57 13 (.getfield 385) 3 16 := ⟨zg_14_57_0.2.2.2.2.2.2.2.2.2, rfl⟩
theorem zg_14_57_16 : (decode zy_say_14_57.2.1 16 = .ok ((.iconst 1), 1)) ∧ (decode zy_say_14_57.2.1 17 = .ok ((.iadd), 1)) ∧ (decode zy_say_14_57.2.1 18 = .ok ((.putfield 385), 3)) ∧ (decode zy_say_14_57.2.1 21 = .ok ((.return_), 1)) := by decide +kernel
theorem zd_14_57_16 : zz_D zy_say_14_57 16 (.iconst 1) 1 17 := ⟨zg_14_57_16.1, rfl⟩
theorem zd_14_57_17 : zz_D zy_say_14_57 17 (.iadd) 1 18 := ⟨zg_14_57_16.2.1, rfl⟩
theorem zd_14_57_18 : zz_D zy_say_14_57 18 (.putfield 385) 3 21 := ⟨zg_14_57_16.2.2.1, rfl⟩
theorem zd_14_57_21 : zz_D zy_say_14_57 21 (.return_) 1 22 := ⟨zg_14_57_16.2.2.2, rfl⟩
-- TensorForgeModel say (J)V
abbrev zr_say_14_57 : Room := { frames := 0, cells := 0, slots := 0, locals := 0 }
def zp_say_14_57 (p0 : Int) (S0 : zz_S) : zz_S → Prop := fun S => zz_G S ∧ zz_fr [(1079, 34)] [1101] (fun _ _ => False) S0 S ∧ (S 1079 34 = S0 1079 34 + 1)
theorem zc_say_14_57 {g : mm_G} {l : Launch} (p0 : Int) (S0 : zz_S) (n : Nat) (hn : zz_end ≤ n) (G_S0 : zz_G S0) (hp0 : (-9223372036854775808) ≤ p0 ∧ p0 ≤ 9223372036854775807) (hq : S0 1079 34 ≤ 199) : mm_Met g l zy_say_14_57 zr_say_14_57 [.ref 1079, zl p0] (zz_M S0 n) n (zz_QV n (zp_say_14_57 p0 S0)) := by
  refine zz_enter (by decide) (Nat.le_of_ble_eq_true rfl) (zz_less (ls1 := [some (.ref 1079), some (zl p0), none]) ⟨rfl, ⟨rfl, trivial⟩⟩ ?_)
  have F_S0 : zz_fr [(1079, 34)] [1101] (fun _ _ => False) S0 S0 := zz_fr.refl
  refine zz_aload_n (x := 1079) rfl zd_14_57_0 ?_
  refine zz_getr (kd := 0) (z := 1101) zd_14_57_1 zf_Md_82 zT_1079 rfl (zz_ltn hn rfl) (zz_G.eq G_S0 1079 35 1101 rfl rfl) (by decide) 1101 rfl ?_
  refine zz_aload_n (x := 1079) rfl zd_14_57_4 ?_
  have g1 := zz_G.r G_S0 1079 34 0 200 rfl rfl
  refine zz_geti (z := S0 1079 34) zd_14_57_5 zf_Md_385 zT_1079 rfl (zz_ltn hn rfl) rfl ?_
  refine zz_lload_n (x := p0) rfl zd_14_57_8 ?_
  refine zz_l2i (by omega) zd_14_57_9 (fun v2 hv2 av2 ev2 => ?_)
  refine zz_iast zd_14_57_10 zT_1101 rfl (zz_ltn hn rfl) (by decide) (by omega) (fun S3 qS3 => ?_)
  have G_S3 := zz_G.put G_S0 qS3 (-2147483648) 2147483647 rfl (by omega)
  have F_S3 := zz_fr.putc F_S0 qS3 rfl
  refine zz_aload_n (x := 1079) rfl zd_14_57_11 ?_
  refine zz_dup rfl zd_14_57_12 ?_
  refine zz_geti (z := S0 1079 34) zd_14_57_13 zf_Md_385 zT_1079 rfl (zz_ltn hn rfl) (zz_ro qS3 (fun h => absurd h.1 (by decide)) rfl) ?_
  refine zz_iconst zd_14_57_16 ?_
  refine zz_iadd zd_14_57_17 ?_
  refine zz_puti zd_14_57_18 zf_Md_385 zT_1079 rfl (zz_ltn hn rfl) (fun S4 qS4 => ?_)
  have G_S4 := zz_G.put G_S3 qS4 0 200 rfl (by omega)
  have F_S4 := zz_fr.puts F_S3 qS4 rfl
  have e5 : S4 1079 34 = (S0 1079 34) + 1 := (zz_rs qS4)
  exact zz_vret zd_14_57_21 rfl (Nat.zero_le _) (Nat.zero_le _) ⟨_, rfl, G_S4, F_S4, by omega⟩
abbrev zy_sayWord_14_58 : mm_Y := (⟨"TensorForgeModel", "sayWord", "(I)V"⟩, prog_14_method_58_code, 4, none)
theorem zyw_sayWord_14_58 : mm_Yw zy_sayWord_14_58 1 := ⟨mm_tb_1 2049 (by decide +kernel) rfl, mm_tb_1 12 (by decide +kernel) rfl, ⟨by decide, by decide⟩, by decide +kernel⟩
theorem zk_Md_388 : mm_Vl "TensorForgeModel" 388 11 1 zy_say_14_57 := ⟨zyw_say_14_57, (R_Md, F_Md, 69), rfl, mm_tb_1 2050 (by decide +kernel) rfl, mm_tb_1 2052 (by decide +kernel) rfl, mm_tb_s 116 (by decide +kernel) rfl⟩
theorem zq_Md_391 : Cond.constantLong "TensorForgeModel" 391 (96 : Int64) ∈ mm_tb := mm_tb_1 2054 (by decide +kernel) rfl
theorem zg_14_58_0 : (decode zy_sayWord_14_58.2.1 0 = .ok ((.aload_n 0), 1)) ∧ (decode zy_sayWord_14_58.2.1 1 = .ok ((.getfield 385), 3)) ∧ (decode zy_sayWord_14_58.2.1 4 = .ok ((Instr.ifCond .le) 10, 3)) ∧ (decode zy_sayWord_14_58.2.1 14 = .ok ((.aload_n 0), 1)) ∧ (decode zy_sayWord_14_58.2.1 15 = .ok ((.getfield 79), 3)) ∧ (decode zy_sayWord_14_58.2.1 18 = .ok ((.iload_n 1), 1)) ∧ (decode zy_sayWord_14_58.2.1 19 = .ok ((.laload), 1)) ∧ (decode zy_sayWord_14_58.2.1 20 = .ok ((.lstore_n 2), 1)) ∧ (decode zy_sayWord_14_58.2.1 7 = .ok ((.aload_n 0), 1)) ∧ (decode zy_sayWord_14_58.2.1 8 = .ok ((.ldc2_w 327), 3)) := by decide +kernel
theorem zd_14_58_0 : zz_D zy_sayWord_14_58 0 (.aload_n 0) 1 1 := ⟨zg_14_58_0.1, rfl⟩
theorem zd_14_58_1 : zz_D zy_sayWord_14_58 1 (.getfield 385) 3 4 := ⟨zg_14_58_0.2.1, rfl⟩
theorem zd_14_58_4 : zz_B zy_sayWord_14_58 4 (Instr.ifCond .le) 14 7 := ⟨10, zg_14_58_0.2.2.1, rfl, rfl⟩
theorem zd_14_58_14 : zz_D zy_sayWord_14_58 14 (.aload_n 0) 1 15 := ⟨zg_14_58_0.2.2.2.1, rfl⟩
theorem zd_14_58_15 : zz_D zy_sayWord_14_58 15 (.getfield 79) 3 18 := ⟨zg_14_58_0.2.2.2.2.1, rfl⟩
theorem zd_14_58_18 : zz_D zy_sayWord_14_58 18 (.iload_n 1) 1 19 := ⟨zg_14_58_0.2.2.2.2.2.1, rfl⟩
theorem zd_14_58_19 : zz_D zy_sayWord_14_58 19 (.laload) 1 20 := ⟨zg_14_58_0.2.2.2.2.2.2.1, rfl⟩
theorem zd_14_58_20 : zz_D zy_sayWord_14_58 20 (.lstore_n 2) 1 21 := ⟨zg_14_58_0.2.2.2.2.2.2.2.1, rfl⟩
theorem zd_14_58_7 : zz_D zy_sayWord_14_58 7 (.aload_n 0) 1 8 := ⟨zg_14_58_0.2.2.2.2.2.2.2.2.1, rfl⟩
theorem zd_14_58_8 : zz_D zy_sayWord_14_58 8 (.ldc2_w 327) 3 11 := ⟨zg_14_58_0.2.2.2.2.2.2.2.2.2, rfl⟩
theorem zg_14_58_11 : (decode zy_sayWord_14_58.2.1 11 = .ok ((.invokevirtual 388), 3)) ∧ (decode zy_sayWord_14_58.2.1 21 = .ok ((.lload_n 2), 1)) ∧ (decode zy_sayWord_14_58.2.1 22 = .ok ((.lconst 0), 1)) ∧ (decode zy_sayWord_14_58.2.1 23 = .ok ((.lcmp), 1)) ∧ (decode zy_sayWord_14_58.2.1 24 = .ok ((Instr.ifCond .le) 23, 3)) ∧ (decode zy_sayWord_14_58.2.1 47 = .ok ((.return_), 1)) ∧ (decode zy_sayWord_14_58.2.1 27 = .ok ((.aload_n 0), 1)) ∧ (decode zy_sayWord_14_58.2.1 28 = .ok ((.ldc2_w 391), 3)) ∧ (decode zy_sayWord_14_58.2.1 31 = .ok ((.lload_n 2), 1)) ∧ (decode zy_sayWord_14_58.2.1 32 = .ok ((.ldc2_w 357), 3)) := by decide +kernel
theorem zd_14_58_11 : zz_D zy_sayWord_14_58 11 (.invokevirtual 388) 3 14 := ⟨zg_14_58_11.1, rfl⟩
theorem zd_14_58_21 : zz_D zy_sayWord_14_58 21 (.lload_n 2) 1 22 := ⟨zg_14_58_11.2.1, rfl⟩
theorem zd_14_58_22 : zz_D zy_sayWord_14_58 22 (.lconst 0) 1 23 := ⟨zg_14_58_11.2.2.1, rfl⟩
theorem zd_14_58_23 : zz_D zy_sayWord_14_58 23 (.lcmp) 1 24 := ⟨zg_14_58_11.2.2.2.1, rfl⟩
theorem zd_14_58_24 : zz_B zy_sayWord_14_58 24 (Instr.ifCond .le) 47 27 := ⟨23, zg_14_58_11.2.2.2.2.1, rfl, rfl⟩
theorem zd_14_58_47 : zz_D zy_sayWord_14_58 47 (.return_) 1 48 := ⟨zg_14_58_11.2.2.2.2.2.1, rfl⟩
theorem zd_14_58_27 : zz_D zy_sayWord_14_58 27 (.aload_n 0) 1 28 := ⟨zg_14_58_11.2.2.2.2.2.2.1, rfl⟩
theorem zd_14_58_28 : zz_D zy_sayWord_14_58 28 (.ldc2_w 391) 3 31 := ⟨zg_14_58_11.2.2.2.2.2.2.2.1, rfl⟩
theorem zd_14_58_31 : zz_D zy_sayWord_14_58 31 (.lload_n 2) 1 32 := ⟨zg_14_58_11.2.2.2.2.2.2.2.2.1, rfl⟩
theorem zd_14_58_32 : zz_D zy_sayWord_14_58 32 (.ldc2_w 357) 3 35 := ⟨zg_14_58_11.2.2.2.2.2.2.2.2.2, rfl⟩
theorem zg_14_58_35 : (decode zy_sayWord_14_58.2.1 35 = .ok ((.land), 1)) ∧ (decode zy_sayWord_14_58.2.1 36 = .ok ((.ladd), 1)) ∧ (decode zy_sayWord_14_58.2.1 37 = .ok ((.invokevirtual 388), 3)) ∧ (decode zy_sayWord_14_58.2.1 40 = .ok ((.lload_n 2), 1)) ∧ (decode zy_sayWord_14_58.2.1 41 = .ok ((.iconst 5), 1)) ∧ (decode zy_sayWord_14_58.2.1 42 = .ok ((.lshr), 1)) ∧ (decode zy_sayWord_14_58.2.1 43 = .ok ((.lstore_n 2), 1)) ∧ (decode zy_sayWord_14_58.2.1 44 = .ok (Instr.goto (-23), 3)) := by decide +kernel
theorem zd_14_58_35 : zz_D zy_sayWord_14_58 35 (.land) 1 36 := ⟨zg_14_58_35.1, rfl⟩
theorem zd_14_58_36 : zz_D zy_sayWord_14_58 36 (.ladd) 1 37 := ⟨zg_14_58_35.2.1, rfl⟩
theorem zd_14_58_37 : zz_D zy_sayWord_14_58 37 (.invokevirtual 388) 3 40 := ⟨zg_14_58_35.2.2.1, rfl⟩
theorem zd_14_58_40 : zz_D zy_sayWord_14_58 40 (.lload_n 2) 1 41 := ⟨zg_14_58_35.2.2.2.1, rfl⟩
theorem zd_14_58_41 : zz_D zy_sayWord_14_58 41 (.iconst 5) 1 42 := ⟨zg_14_58_35.2.2.2.2.1, rfl⟩
theorem zd_14_58_42 : zz_D zy_sayWord_14_58 42 (.lshr) 1 43 := ⟨zg_14_58_35.2.2.2.2.2.1, rfl⟩
theorem zd_14_58_43 : zz_D zy_sayWord_14_58 43 (.lstore_n 2) 1 44 := ⟨zg_14_58_35.2.2.2.2.2.2.1, rfl⟩
theorem zd_14_58_44 : zz_B zy_sayWord_14_58 44 Instr.goto 21 47 := ⟨(-23), zg_14_58_35.2.2.2.2.2.2.2, rfl, rfl⟩
-- TensorForgeModel sayWord (I)V
abbrev zr_sayWord_14_58 : Room := { frames := 1, cells := 0, slots := 0, locals := 14 }
def zp_sayWord_14_58 (p0 : Int) (S0 : zz_S) : zz_S → Prop := fun S => zz_G S ∧ zz_fr [(1079, 34)] [1101] (fun _ _ => False) S0 S ∧ (S 1079 34 ≤ S0 1079 34 + 9) ∧ (S 1079 34 ≥ S0 1079 34)
theorem zb_sayWord_14_58_21 {g : mm_G} {l : Launch} (p0 : Int) (S0 : zz_S) (n : Nat) (hn : zz_end ≤ n) (G_S0 : zz_G S0) (hp0 : 0 ≤ p0 ∧ p0 ≤ 23) (hq : S0 1079 34 ≤ 190) (x2 : Int) (S : zz_S) (G_S : zz_G S) (F_S : zz_fr [(1079, 34)] [1101] (fun _ _ => False) S0 S) (i21_0 : 0 ≤ x2 ∧ x2 ≤ 1099511627775) (i21_1 : S 1079 34 ≥ S0 1079 34) (i21_2 : (S 1079 34 ≤ S0 1079 34 + 1 ∧ x2 < 1099511627776) ∨ (S 1079 34 ≤ S0 1079 34 + 2 ∧ x2 < 34359738368) ∨ (S 1079 34 ≤ S0 1079 34 + 3 ∧ x2 < 1073741824) ∨ (S 1079 34 ≤ S0 1079 34 + 4 ∧ x2 < 33554432) ∨ (S 1079 34 ≤ S0 1079 34 + 5 ∧ x2 < 1048576) ∨ (S 1079 34 ≤ S0 1079 34 + 6 ∧ x2 < 32768) ∨ (S 1079 34 ≤ S0 1079 34 + 7 ∧ x2 < 1024) ∨ (S 1079 34 ≤ S0 1079 34 + 8 ∧ x2 < 32) ∨ (S 1079 34 ≤ S0 1079 34 + 9 ∧ x2 < 1)) (R : Nat) (hR : x2.toNat = R) (k21 : ∀ (x2 : Int) (S : zz_S), zz_G S → zz_fr [(1079, 34)] [1101] (fun _ _ => False) S0 S → (0 ≤ x2 ∧ x2 ≤ 1099511627775) → (S 1079 34 ≥ S0 1079 34) → ((S 1079 34 ≤ S0 1079 34 + 1 ∧ x2 < 1099511627776) ∨ (S 1079 34 ≤ S0 1079 34 + 2 ∧ x2 < 34359738368) ∨ (S 1079 34 ≤ S0 1079 34 + 3 ∧ x2 < 1073741824) ∨ (S 1079 34 ≤ S0 1079 34 + 4 ∧ x2 < 33554432) ∨ (S 1079 34 ≤ S0 1079 34 + 5 ∧ x2 < 1048576) ∨ (S 1079 34 ≤ S0 1079 34 + 6 ∧ x2 < 32768) ∨ (S 1079 34 ≤ S0 1079 34 + 7 ∧ x2 < 1024) ∨ (S 1079 34 ≤ S0 1079 34 + 8 ∧ x2 < 32) ∨ (S 1079 34 ≤ S0 1079 34 + 9 ∧ x2 < 1)) → x2.toNat < R → zz_E g l zy_sayWord_14_58 zr_sayWord_14_58 (zz_QV n (zp_sayWord_14_58 p0 S0)) S n 21 [some (.ref 1079), none, some (zl x2)] [] 0 0) : zz_E g l zy_sayWord_14_58 zr_sayWord_14_58 (zz_QV n (zp_sayWord_14_58 p0 S0)) S n 21 [some (.ref 1079), none, some (zl x2)] [] 0 0 := by
  refine zz_lload_n (x := x2) rfl zd_14_58_21 ?_
  refine zz_lconst (z := 0) (by decide) zd_14_58_22 ?_
  refine zz_lcmp (by omega) (by omega) zd_14_58_23 (fun v9 hv9 => ?_)
  refine zz_if_le (by omega) zd_14_58_24 (fun c10 => ?_) (fun c10 => ?_)
  · have g11 := zz_G.r G_S 1079 34 0 200 rfl rfl
    exact zz_vret zd_14_58_47 rfl (Nat.zero_le _) (Nat.zero_le _) ⟨_, rfl, G_S, F_S, by omega, by omega⟩
  · refine zz_aload_n (x := 1079) rfl zd_14_58_27 ?_
    refine zz_ldc2 (z := 96) zq_Md_391 (by decide) zd_14_58_28 ?_
    refine zz_lload_n (x := x2) rfl zd_14_58_31 ?_
    refine zz_ldc2 (z := 31) zq_Md_357 (by decide) zd_14_58_32 ?_
    refine zz_land zd_14_58_35 (fun v12 hv12 ev12 => ?_)
    have av12 := zz_band64 (by omega) (by omega) ev12
    refine zz_ladd zd_14_58_36 ?_
    have g13 := zz_G.r G_S 1079 34 0 200 rfl rfl
    refine zz_callVV [zl (96 + v12)] zd_14_58_37 zk_Md_388 zT_1079 (zz_ltn hn rfl) rfl rfl ⟨Nat.le_of_ble_eq_true rfl, Nat.le_of_ble_eq_true rfl⟩ ⟨rfl, rfl⟩ (Nat.zero_le _) (Nat.zero_le _) (zc_say_14_57 (96 + v12) S n hn G_S (by omega) (by omega)) (fun S14 hP => ?_)
    obtain ⟨G_S14, fS14, o16⟩ := hP
    have F_S14 := zz_fr.trans F_S fS14 rfl zz_nv
    refine zz_lload_n (x := x2) rfl zd_14_58_40 ?_
    refine zz_iconst zd_14_58_41 ?_
    refine zz_lshr zd_14_58_42 (fun v17 hv17 ev17 => ?_)
    have av17 := zz_lsr5 (by omega) ev17
    refine zz_lstore_n [some (.ref 1079), none, some (zl v17), none] zd_14_58_43 (by decide) rfl ?_
    refine zz_goto zd_14_58_44 ?_
    have g18 := zz_G.r G_S14 1079 34 0 200 rfl rfl
    refine zz_less (ls1 := [some (.ref 1079), none, some (zl v17)]) ⟨rfl, ⟨rfl, trivial⟩⟩ ?_
    exact k21 v17 S14 G_S14 F_S14 (by omega) (by omega) (by omega) (by omega)
theorem zi_sayWord_14_58 {g : mm_G} {l : Launch} (p0 : Int) (S0 : zz_S) (n : Nat) (hn : zz_end ≤ n) (G_S0 : zz_G S0) (hp0 : 0 ≤ p0 ∧ p0 ≤ 23) (hq : S0 1079 34 ≤ 190) : ∀ N : Nat, (∀ (x2 : Int) (S : zz_S), zz_G S → zz_fr [(1079, 34)] [1101] (fun _ _ => False) S0 S → (0 ≤ x2 ∧ x2 ≤ 1099511627775) → (S 1079 34 ≥ S0 1079 34) → ((S 1079 34 ≤ S0 1079 34 + 1 ∧ x2 < 1099511627776) ∨ (S 1079 34 ≤ S0 1079 34 + 2 ∧ x2 < 34359738368) ∨ (S 1079 34 ≤ S0 1079 34 + 3 ∧ x2 < 1073741824) ∨ (S 1079 34 ≤ S0 1079 34 + 4 ∧ x2 < 33554432) ∨ (S 1079 34 ≤ S0 1079 34 + 5 ∧ x2 < 1048576) ∨ (S 1079 34 ≤ S0 1079 34 + 6 ∧ x2 < 32768) ∨ (S 1079 34 ≤ S0 1079 34 + 7 ∧ x2 < 1024) ∨ (S 1079 34 ≤ S0 1079 34 + 8 ∧ x2 < 32) ∨ (S 1079 34 ≤ S0 1079 34 + 9 ∧ x2 < 1)) → x2.toNat < N → zz_E g l zy_sayWord_14_58 zr_sayWord_14_58 (zz_QV n (zp_sayWord_14_58 p0 S0)) S n 21 [some (.ref 1079), none, some (zl x2)] [] 0 0) := by
  intro N
  induction N with
  | zero => exact fun x2 S _ _ _ _ _ h => absurd h (Nat.not_lt_zero _)
  | succ N ih =>
    exact fun x2 S a b j0 j1 j2 hR => zb_sayWord_14_58_21 p0 S0 n hn G_S0 hp0 hq x2 S a b j0 j1 j2 _ rfl (fun x2 S a b j0 j1 j2 h => ih x2 S a b j0 j1 j2 (Nat.lt_of_lt_of_le h (Nat.le_of_lt_succ hR)))
theorem zc_sayWord_14_58 {g : mm_G} {l : Launch} (p0 : Int) (S0 : zz_S) (n : Nat) (hn : zz_end ≤ n) (G_S0 : zz_G S0) (hp0 : 0 ≤ p0 ∧ p0 ≤ 23) (hq : S0 1079 34 ≤ 190) : mm_Met g l zy_sayWord_14_58 zr_sayWord_14_58 [.ref 1079, zi p0] (zz_M S0 n) n (zz_QV n (zp_sayWord_14_58 p0 S0)) := by
  refine zz_enter (by decide) (Nat.le_of_ble_eq_true rfl) (zz_less (ls1 := [some (.ref 1079), some (zi p0)]) ⟨rfl, ⟨rfl, trivial⟩⟩ ?_)
  have F_S0 : zz_fr [(1079, 34)] [1101] (fun _ _ => False) S0 S0 := zz_fr.refl
  have k21 : ∀ (x2 : Int) (S : zz_S), zz_G S → zz_fr [(1079, 34)] [1101] (fun _ _ => False) S0 S → (0 ≤ x2 ∧ x2 ≤ 1099511627775) → (S 1079 34 ≥ S0 1079 34) → ((S 1079 34 ≤ S0 1079 34 + 1 ∧ x2 < 1099511627776) ∨ (S 1079 34 ≤ S0 1079 34 + 2 ∧ x2 < 34359738368) ∨ (S 1079 34 ≤ S0 1079 34 + 3 ∧ x2 < 1073741824) ∨ (S 1079 34 ≤ S0 1079 34 + 4 ∧ x2 < 33554432) ∨ (S 1079 34 ≤ S0 1079 34 + 5 ∧ x2 < 1048576) ∨ (S 1079 34 ≤ S0 1079 34 + 6 ∧ x2 < 32768) ∨ (S 1079 34 ≤ S0 1079 34 + 7 ∧ x2 < 1024) ∨ (S 1079 34 ≤ S0 1079 34 + 8 ∧ x2 < 32) ∨ (S 1079 34 ≤ S0 1079 34 + 9 ∧ x2 < 1)) → zz_E g l zy_sayWord_14_58 zr_sayWord_14_58 (zz_QV n (zp_sayWord_14_58 p0 S0)) S n 21 [some (.ref 1079), none, some (zl x2)] [] 0 0 := fun x2 S a b j0 j1 j2 => (zi_sayWord_14_58 (g := g) (l := l) p0 S0 n hn G_S0 hp0 hq _) x2 S a b j0 j1 j2 (Nat.lt_succ_self _)
  refine zz_aload_n (x := 1079) rfl zd_14_58_0 ?_
  have g1 := zz_G.r G_S0 1079 34 0 200 rfl rfl
  refine zz_geti (z := S0 1079 34) zd_14_58_1 zf_Md_385 zT_1079 rfl (zz_ltn hn rfl) rfl ?_
  refine zz_if_le (by omega) zd_14_58_4 (fun c2 => ?_) (fun c2 => ?_)
  · refine zz_aload_n (x := 1079) rfl zd_14_58_14 ?_
    refine zz_getr (kd := 0) (z := 1100) zd_14_58_15 zf_Md_79 zT_1079 rfl (zz_ltn hn rfl) (zz_G.eq G_S0 1079 29 1100 rfl rfl) (by decide) 1100 rfl ?_
    refine zz_iload_n (x := p0) rfl zd_14_58_18 ?_
    have g3 := zz_G.r G_S0 1100 p0.toNat 0 1099511627775 rfl rfl
    refine zz_lald (z := S0 1100 p0.toNat) zd_14_58_19 zT_1100 rfl (zz_ltn hn rfl) (by decide) (by omega) rfl ?_
    refine zz_lstore_n [some (.ref 1079), some (zi p0), some (zl (S0 1100 p0.toNat)), none] zd_14_58_20 (by decide) rfl ?_
    refine zz_less (ls1 := [some (.ref 1079), none, some (zl (S0 1100 p0.toNat))]) ⟨rfl, ⟨rfl, trivial⟩⟩ ?_
    exact k21 (S0 1100 p0.toNat) S0 G_S0 F_S0 (by omega) (by omega) (by omega)
  · refine zz_aload_n (x := 1079) rfl zd_14_58_7 ?_
    refine zz_ldc2 (z := 32) zq_Md_327 (by decide) zd_14_58_8 ?_
    refine zz_callVV [zl 32] zd_14_58_11 zk_Md_388 zT_1079 (zz_ltn hn rfl) rfl rfl ⟨Nat.le_of_ble_eq_true rfl, Nat.le_of_ble_eq_true rfl⟩ ⟨rfl, rfl⟩ (Nat.zero_le _) (Nat.zero_le _) (zc_say_14_57 32 S0 n hn G_S0 (by omega) (by omega)) (fun S4 hP => ?_)
    obtain ⟨G_S4, fS4, o6⟩ := hP
    have F_S4 := zz_fr.trans F_S0 fS4 rfl zz_nv
    refine zz_aload_n (x := 1079) rfl zd_14_58_14 ?_
    refine zz_getr (kd := 0) (z := 1100) zd_14_58_15 zf_Md_79 zT_1079 rfl (zz_ltn hn rfl) (zz_G.eq G_S4 1079 29 1100 rfl rfl) (by decide) 1100 rfl ?_
    refine zz_iload_n (x := p0) rfl zd_14_58_18 ?_
    have g7 := zz_G.r G_S0 1100 p0.toNat 0 1099511627775 rfl rfl
    refine zz_lald (z := S0 1100 p0.toNat) zd_14_58_19 zT_1100 rfl (zz_ltn hn rfl) (by decide) (by omega) (zz_rc fS4 (zz_nc1 rfl) rfl (fun h => h) rfl) ?_
    refine zz_lstore_n [some (.ref 1079), some (zi p0), some (zl (S0 1100 p0.toNat)), none] zd_14_58_20 (by decide) rfl ?_
    have g8 := zz_G.r G_S4 1079 34 0 200 rfl rfl
    refine zz_less (ls1 := [some (.ref 1079), none, some (zl (S0 1100 p0.toNat))]) ⟨rfl, ⟨rfl, trivial⟩⟩ ?_
    exact k21 (S0 1100 p0.toNat) S4 G_S4 F_S4 (by omega) (by omega) (by omega)
abbrev zy_sayNumber_14_59 : mm_Y := (⟨"TensorForgeModel", "sayNumber", "(I)V"⟩, prog_14_method_59_code, 3, none)
theorem zyw_sayNumber_14_59 : mm_Yw zy_sayNumber_14_59 1 := ⟨mm_tb_1 2063 (by decide +kernel) rfl, mm_tb_1 12 (by decide +kernel) rfl, ⟨by decide, by decide⟩, by decide +kernel⟩
theorem zg_14_59_0 : (decode zy_sayNumber_14_59.2.1 0 = .ok ((.sipush 1000), 3)) ∧ (decode zy_sayNumber_14_59.2.1 3 = .ok ((.istore_n 2), 1)) ∧ (decode zy_sayNumber_14_59.2.1 4 = .ok ((.iload_n 2), 1)) ∧ (decode zy_sayNumber_14_59.2.1 5 = .ok ((Instr.ifCond .le) 36, 3)) ∧ (decode zy_sayNumber_14_59.2.1 41 = .ok ((.return_), 1)) ∧ (decode zy_sayNumber_14_59.2.1 8 = .ok ((.iload_n 1), 1)) ∧ (decode zy_sayNumber_14_59.2.1 9 = .ok ((.iload_n 2), 1)) ∧ (decode zy_sayNumber_14_59.2.1 10 = .ok ((Instr.if_icmp .ge) 8, 3)) ∧ (decode zy_sayNumber_14_59.2.1 18 = .ok ((.aload_n 0), 1)) ∧ (decode zy_sayNumber_14_59.2.1 19 = .ok ((.ldc2_w 350), 3)) := by decide +kernel
theorem zd_14_59_0 : zz_D zy_sayNumber_14_59 0 (.sipush 1000) 3 3 := ⟨zg_14_59_0.1, rfl⟩
theorem zd_14_59_3 : zz_D zy_sayNumber_14_59 3 (.istore_n 2) 1 4 := ⟨zg_14_59_0.2.1, rfl⟩
theorem zd_14_59_4 : zz_D zy_sayNumber_14_59 4 (.iload_n 2) 1 5 := ⟨zg_14_59_0.2.2.1, rfl⟩
theorem zd_14_59_5 : zz_B zy_sayNumber_14_59 5 (Instr.ifCond .le) 41 8 := ⟨36, zg_14_59_0.2.2.2.1, rfl, rfl⟩
theorem zd_14_59_41 : zz_D zy_sayNumber_14_59 41 (.return_) 1 42 := ⟨zg_14_59_0.2.2.2.2.1, rfl⟩
theorem zd_14_59_8 : zz_D zy_sayNumber_14_59 8 (.iload_n 1) 1 9 := ⟨zg_14_59_0.2.2.2.2.2.1, rfl⟩
theorem zd_14_59_9 : zz_D zy_sayNumber_14_59 9 (.iload_n 2) 1 10 := ⟨zg_14_59_0.2.2.2.2.2.2.1, rfl⟩
theorem zd_14_59_10 : zz_B zy_sayNumber_14_59 10 (Instr.if_icmp .ge) 18 13 := ⟨8, zg_14_59_0.2.2.2.2.2.2.2.1, rfl, rfl⟩
theorem zd_14_59_18 : zz_D zy_sayNumber_14_59 18 (.aload_n 0) 1 19 := ⟨zg_14_59_0.2.2.2.2.2.2.2.2.1, rfl⟩
theorem zd_14_59_19 : zz_D zy_sayNumber_14_59 19 (.ldc2_w 350) 3 22 := ⟨zg_14_59_0.2.2.2.2.2.2.2.2.2, rfl⟩
theorem zg_14_59_22 : (decode zy_sayNumber_14_59.2.1 22 = .ok ((.iload_n 1), 1)) ∧ (decode zy_sayNumber_14_59.2.1 23 = .ok ((.iload_n 2), 1)) ∧ (decode zy_sayNumber_14_59.2.1 24 = .ok ((.idiv), 1)) ∧ (decode zy_sayNumber_14_59.2.1 25 = .ok ((.bipush 10), 2)) ∧ (decode zy_sayNumber_14_59.2.1 27 = .ok ((.irem), 1)) ∧ (decode zy_sayNumber_14_59.2.1 28 = .ok ((.i2l), 1)) ∧ (decode zy_sayNumber_14_59.2.1 29 = .ok ((.ladd), 1)) ∧ (decode zy_sayNumber_14_59.2.1 30 = .ok ((.invokevirtual 388), 3)) ∧ (decode zy_sayNumber_14_59.2.1 33 = .ok ((.iload_n 2), 1)) ∧ (decode zy_sayNumber_14_59.2.1 34 = .ok ((.bipush 10), 2)) := by decide +kernel
theorem zd_14_59_22 : zz_D zy_sayNumber_14_59 22 (.iload_n 1) 1 23 := ⟨zg_14_59_22.1, rfl⟩
theorem zd_14_59_23 : zz_D zy_sayNumber_14_59 23 (.iload_n 2) 1 24 := ⟨zg_14_59_22.2.1, rfl⟩
theorem zd_14_59_24 : zz_D zy_sayNumber_14_59 24 (.idiv) 1 25 := ⟨zg_14_59_22.2.2.1, rfl⟩
theorem zd_14_59_25 : zz_D zy_sayNumber_14_59 25 (.bipush 10) 2 27 := ⟨zg_14_59_22.2.2.2.1, rfl⟩
theorem zd_14_59_27 : zz_D zy_sayNumber_14_59 27 (.irem) 1 28 := ⟨zg_14_59_22.2.2.2.2.1, rfl⟩
theorem zd_14_59_28 : zz_D zy_sayNumber_14_59 28 (.i2l) 1 29 := ⟨zg_14_59_22.2.2.2.2.2.1, rfl⟩
theorem zd_14_59_29 : zz_D zy_sayNumber_14_59 29 (.ladd) 1 30 := ⟨zg_14_59_22.2.2.2.2.2.2.1, rfl⟩
theorem zd_14_59_30 : zz_D zy_sayNumber_14_59 30 (.invokevirtual 388) 3 33 := ⟨zg_14_59_22.2.2.2.2.2.2.2.1, rfl⟩
theorem zd_14_59_33 : zz_D zy_sayNumber_14_59 33 (.iload_n 2) 1 34 := ⟨zg_14_59_22.2.2.2.2.2.2.2.2.1, rfl⟩
theorem zd_14_59_34 : zz_D zy_sayNumber_14_59 34 (.bipush 10) 2 36 := ⟨zg_14_59_22.2.2.2.2.2.2.2.2.2, rfl⟩
theorem zg_14_59_36 : (decode zy_sayNumber_14_59.2.1 36 = .ok ((.idiv), 1)) ∧ (decode zy_sayNumber_14_59.2.1 37 = .ok ((.istore_n 2), 1)) ∧ (decode zy_sayNumber_14_59.2.1 38 = .ok (Instr.goto (-34), 3)) ∧ (decode zy_sayNumber_14_59.2.1 13 = .ok ((.iload_n 2), 1)) ∧ (decode zy_sayNumber_14_59.2.1 14 = .ok ((.iconst 1), 1)) ∧ (decode zy_sayNumber_14_59.2.1 15 = .ok ((Instr.if_icmp .ne) 18, 3)) := by decide +kernel
theorem zd_14_59_36 : zz_D zy_sayNumber_14_59 36 (.idiv) 1 37 := ⟨zg_14_59_36.1, rfl⟩
theorem zd_14_59_37 : zz_D zy_sayNumber_14_59 37 (.istore_n 2) 1 38 := ⟨zg_14_59_36.2.1, rfl⟩
theorem zd_14_59_38 : zz_B zy_sayNumber_14_59 38 Instr.goto 4 41 := ⟨(-34), zg_14_59_36.2.2.1, rfl, rfl⟩
theorem zd_14_59_13 : zz_D zy_sayNumber_14_59 13 (.iload_n 2) 1 14 := ⟨zg_14_59_36.2.2.2.1, rfl⟩
theorem zd_14_59_14 : zz_D zy_sayNumber_14_59 14 (.iconst 1) 1 15 := ⟨zg_14_59_36.2.2.2.2.1, rfl⟩
theorem zd_14_59_15 : zz_B zy_sayNumber_14_59 15 (Instr.if_icmp .ne) 33 18 := ⟨18, zg_14_59_36.2.2.2.2.2, rfl, rfl⟩

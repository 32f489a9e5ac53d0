-- TensorForgeModel cellAt (IIII)I
abbrev zr_cellAt_14_73 : Room := { frames := 0, cells := 0, slots := 0, locals := 0 }
def zp_cellAt_14_73 (p0 : Int) (p1 : Int) (p2 : Int) (p3 : Int) (S0 : zz_S) : Int → zz_S → Prop := fun r S => S0 = S ∧ ((-2147483648) ≤ r ∧ r ≤ 2147483647)
theorem zc_cellAt_14_73 {g : mm_G} {l : Launch} (p0 : Int) (p1 : Int) (p2 : Int) (p3 : Int) (S0 : zz_S) (n : Nat) (hn : zz_end ≤ n) (G_S0 : zz_G S0) (hp0 : 0 ≤ p0 ∧ p0 ≤ 10) (hp1 : 0 ≤ p1 ∧ p1 ≤ 62) (hp2 : 0 ≤ p2 ∧ p2 ≤ 62) (hp3 : 0 ≤ p3 ∧ p3 ≤ 62) (hq1 : zz_tn S0 p0.toNat) (hy : p1 < S0 1102 p0.toNat) (hx : p2 < S0 1103 p0.toNat) (hc : p3 < S0 1104 p0.toNat) : mm_Met g l zy_cellAt_14_73 zr_cellAt_14_73 [.ref 1079, zi p0, zi p1, zi p2, zi p3] (zz_M S0 n) n (zz_QI n (zp_cellAt_14_73 p0 p1 p2 p3 S0)) := by
  refine zz_enter (by decide) (Nat.le_of_ble_eq_true rfl) (zz_less (ls1 := [some (.ref 1079), some (zi p0), some (zi p1), some (zi p2), some (zi p3)]) ⟨rfl, ⟨rfl, ⟨rfl, ⟨rfl, ⟨rfl, trivial⟩⟩⟩⟩⟩ ?_)
  refine zz_aload_n (x := 1079) rfl zd_14_73_0 ?_
  refine zz_getr (kd := 0) (z := 1080) zd_14_73_1 zf_Md_13 zT_1079 rfl (zz_ltn hn rfl) (zz_G.eq G_S0 1079 2 1080 rfl rfl) (by decide) 1080 rfl ?_
  refine zz_aload_n (x := 1079) rfl zd_14_73_4 ?_
  refine zz_getr (kd := 0) (z := 1105) zd_14_73_5 zf_Md_97 zT_1079 rfl (zz_ltn hn rfl) (zz_G.eq G_S0 1079 40 1105 rfl rfl) (by decide) 1105 rfl ?_
  refine zz_iload_n (x := p0) rfl zd_14_73_8 ?_
  have g1 := zz_G.r G_S0 1105 p0.toNat (0) (if p0.toNat = 0 then 0 else 10000000) rfl rfl
  refine zz_iald (z := S0 1105 p0.toNat) zd_14_73_9 zT_1105 rfl (zz_ltn hn rfl) (by decide) (by omega) rfl ?_
  refine zz_iload_n (x := p1) rfl zd_14_73_10 ?_
  refine zz_aload_n (x := 1079) rfl zd_14_73_11 ?_
  refine zz_getr (kd := 0) (z := 1103) zd_14_73_12 zf_Md_91 zT_1079 rfl (zz_ltn hn rfl) (zz_G.eq G_S0 1079 38 1103 rfl rfl) (by decide) 1103 rfl ?_
  refine zz_iload_n (x := p0) rfl zd_14_73_15 ?_
  have g2 := zz_G.r G_S0 1103 p0.toNat 0 63 rfl rfl
  refine zz_iald (z := S0 1103 p0.toNat) zd_14_73_16 zT_1103 rfl (zz_ltn hn rfl) (by decide) (by omega) rfl ?_
  refine zz_imul zd_14_73_17 ?_
  have m3 := zz_mulb (a := p1) (b := S0 1103 p0.toNat) 62 63 3906 (by omega) (by omega) (by decide)
  refine zz_iload_n (x := p2) rfl zd_14_73_18 ?_
  refine zz_iadd zd_14_73_19 ?_
  refine zz_aload_n (x := 1079) rfl zd_14_73_20 ?_
  refine zz_getr (kd := 0) (z := 1104) zd_14_73_21 zf_Md_94 zT_1079 rfl (zz_ltn hn rfl) (zz_G.eq G_S0 1079 39 1104 rfl rfl) (by decide) 1104 rfl ?_
  refine zz_iload_n (x := p0) rfl zd_14_73_24 ?_
  have g4 := zz_G.r G_S0 1104 p0.toNat 0 63 rfl rfl
  refine zz_iald (z := S0 1104 p0.toNat) zd_14_73_25 zT_1104 rfl (zz_ltn hn rfl) (by decide) (by omega) rfl ?_
  refine zz_imul zd_14_73_26 ?_
  have m5 := zz_mulb (a := (p1 * (S0 1103 p0.toNat)) + p2) (b := S0 1104 p0.toNat) 3968 63 249984 (by omega) (by omega) (by decide)
  refine zz_nme (fun v6 ev6 => ?_)
  refine zz_iadd zd_14_73_27 ?_
  refine zz_iload (x := p3) rfl zd_14_73_28 ?_
  refine zz_iadd zd_14_73_30 ?_
  have hn9 := hq1
  unfold zz_tn zz_sz at hn9
  have hx9 := zz_ix (h := S0 1102 p0.toNat) (w := S0 1103 p0.toNat) (c := S0 1104 p0.toNat) (y := p1) (x := p2) (k := p3) (F := S0 1105 p0.toNat) (B := 2048) (by omega) (by omega) (by omega) (by omega)
  have gf9 := zz_G.r G_S0 1105 p0.toNat (0) (if p0.toNat = 0 then 0 else 10000000) rfl rfl
  have g7 := zz_G.r G_S0 1080 ((((S0 1105 p0.toNat) + v6) + p3).toNat) (-2147483648) 2147483647 rfl rfl
  refine zz_iald (z := S0 1080 ((((S0 1105 p0.toNat) + v6) + p3).toNat)) zd_14_73_31 zT_1080 rfl (zz_ltn hn rfl) (by decide) (by omega) rfl ?_
  exact zz_iret zd_14_73_32 rfl (Nat.zero_le _) (Nat.zero_le _) ⟨_, _, rfl, rfl, by omega⟩
abbrev zy_convolved_14_74 : mm_Y := (⟨"TensorForgeModel", "convolved", "(IIII)I"⟩, prog_14_method_74_code, 13, (some .int))
theorem zyw_convolved_14_74 : mm_Yw zy_convolved_14_74 4 := ⟨mm_tb_1 2120 (by decide +kernel) rfl, mm_tb_1 12 (by decide +kernel) rfl, ⟨by decide, by decide⟩, by decide +kernel⟩
theorem zk_Md_434 : mm_Vl "TensorForgeModel" 434 11 3 zy_isThere_14_72 := ⟨zyw_isThere_14_72, (R_Md, F_Md, 69), rfl, mm_tb_1 2121 (by decide +kernel) rfl, mm_tb_1 2123 (by decide +kernel) rfl, mm_tb_s 124 (by decide +kernel) rfl⟩
theorem zk_Md_438 : mm_Vl "TensorForgeModel" 438 11 4 zy_cellAt_14_73 := ⟨zyw_cellAt_14_73, (R_Md, F_Md, 69), rfl, mm_tb_1 2125 (by decide +kernel) rfl, mm_tb_1 2127 (by decide +kernel) rfl, mm_tb_s 125 (by decide +kernel) rfl⟩
theorem zg_14_74_0 : (decode zy_convolved_14_74.2.1 0 = .ok ((.aload_n 0), 1)) ∧ (decode zy_convolved_14_74.2.1 1 = .ok ((.getfield 103), 3)) ∧ (decode zy_convolved_14_74.2.1 4 = .ok ((.iload_n 1), 1)) ∧ (decode zy_convolved_14_74.2.1 5 = .ok ((.iaload), 1)) ∧ (decode zy_convolved_14_74.2.1 6 = .ok ((.istore 5), 2)) ∧ (decode zy_convolved_14_74.2.1 8 = .ok ((.aload_n 0), 1)) ∧ (decode zy_convolved_14_74.2.1 9 = .ok ((.getfield 94), 3)) ∧ (decode zy_convolved_14_74.2.1 12 = .ok ((.iload_n 1), 1)) ∧ (decode zy_convolved_14_74.2.1 13 = .ok ((.iconst 1), 1)) ∧ (decode zy_convolved_14_74.2.1 14 = .ok ((.iadd), 1)) := by decide +kernel
theorem zd_14_74_0 : zz_D zy_convolved_14_74 0 (.aload_n 0) 1 1 := ⟨zg_14_74_0.1, rfl⟩
theorem zd_14_74_1 : zz_D zy_convolved_14_74 1 (.getfield 103) 3 4 := ⟨zg_14_74_0.2.1, rfl⟩
theorem zd_14_74_4 : zz_D zy_convolved_14_74 4 (.iload_n 1) 1 5 := ⟨zg_14_74_0.2.2.1, rfl⟩
theorem zd_14_74_5 : zz_D zy_convolved_14_74 5 (.iaload) 1 6 := ⟨zg_14_74_0.2.2.2.1, rfl⟩
theorem zd_14_74_6 : zz_D zy_convolved_14_74 6 (.istore 5) 2 8 := ⟨zg_14_74_0.2.2.2.2.1, rfl⟩
theorem zd_14_74_8 : zz_D zy_convolved_14_74 8 (.aload_n 0) 1 9 := ⟨zg_14_74_0.2.2.2.2.2.1, rfl⟩
theorem zd_14_74_9 : zz_D zy_convolved_14_74 9 (.getfield 94) 3 12 := ⟨zg_14_74_0.2.2.2.2.2.2.1, rfl⟩
theorem zd_14_74_12 : zz_D zy_convolved_14_74 12 (.iload_n 1) 1 13 := ⟨zg_14_74_0.2.2.2.2.2.2.2.1, rfl⟩
theorem zd_14_74_13 : zz_D zy_convolved_14_74 13 (.iconst 1) 1 14 := ⟨zg_14_74_0.2.2.2.2.2.2.2.2.1, rfl⟩
theorem zd_14_74_14 : zz_D zy_convolved_14_74 14 (.iadd) 1 15 := ⟨zg_14_74_0.2.2.2.2.2.2.2.2.2, rfl⟩
theorem zg_14_74_15 : (decode zy_convolved_14_74.2.1 15 = .ok ((.iaload), 1)) ∧ (decode zy_convolved_14_74.2.1 16 = .ok ((.istore 6), 2)) ∧ (decode zy_convolved_14_74.2.1 18 = .ok ((.aload_n 0), 1)) ∧ (decode zy_convolved_14_74.2.1 19 = .ok ((.aload_n 0), 1)) ∧ (decode zy_convolved_14_74.2.1 20 = .ok ((.getfield 124), 3)) ∧ (decode zy_convolved_14_74.2.1 23 = .ok ((.iload_n 1), 1)) ∧ (decode zy_convolved_14_74.2.1 24 = .ok ((.iaload), 1)) ∧ (decode zy_convolved_14_74.2.1 25 = .ok ((.iconst 4), 1)) ∧ (decode zy_convolved_14_74.2.1 26 = .ok ((.iload 4), 2)) ∧ (decode zy_convolved_14_74.2.1 28 = .ok ((.imul), 1)) := by decide +kernel
theorem zd_14_74_15 : zz_D zy_convolved_14_74 15 (.iaload) 1 16 := ⟨zg_14_74_15.1, rfl⟩
theorem zd_14_74_16 : zz_D zy_convolved_14_74 16 (.istore 6) 2 18 := ⟨zg_14_74_15.2.1, rfl⟩
theorem zd_14_74_18 : zz_D zy_convolved_14_74 18 (.aload_n 0) 1 19 := ⟨zg_14_74_15.2.2.1, rfl⟩
theorem zd_14_74_19 : zz_D zy_convolved_14_74 19 (.aload_n 0) 1 20 := ⟨zg_14_74_15.2.2.2.1, rfl⟩
theorem zd_14_74_20 : zz_D zy_convolved_14_74 20 (.getfield 124) 3 23 := ⟨zg_14_74_15.2.2.2.2.1, rfl⟩
theorem zd_14_74_23 : zz_D zy_convolved_14_74 23 (.iload_n 1) 1 24 := ⟨zg_14_74_15.2.2.2.2.2.1, rfl⟩
theorem zd_14_74_24 : zz_D zy_convolved_14_74 24 (.iaload) 1 25 := ⟨zg_14_74_15.2.2.2.2.2.2.1, rfl⟩
theorem zd_14_74_25 : zz_D zy_convolved_14_74 25 (.iconst 4) 1 26 := ⟨zg_14_74_15.2.2.2.2.2.2.2.1, rfl⟩
theorem zd_14_74_26 : zz_D zy_convolved_14_74 26 (.iload 4) 2 28 := ⟨zg_14_74_15.2.2.2.2.2.2.2.2.1, rfl⟩
theorem zd_14_74_28 : zz_D zy_convolved_14_74 28 (.imul) 1 29 := ⟨zg_14_74_15.2.2.2.2.2.2.2.2.2, rfl⟩
theorem zg_14_74_29 : (decode zy_convolved_14_74.2.1 29 = .ok ((.iadd), 1)) ∧ (decode zy_convolved_14_74.2.1 30 = .ok ((.invokevirtual 258), 3)) ∧ (decode zy_convolved_14_74.2.1 33 = .ok ((.istore 7), 2)) ∧ (decode zy_convolved_14_74.2.1 35 = .ok ((.aload_n 0), 1)) ∧ (decode zy_convolved_14_74.2.1 36 = .ok ((.getfield 109), 3)) ∧ (decode zy_convolved_14_74.2.1 39 = .ok ((.iload_n 1), 1)) ∧ (decode zy_convolved_14_74.2.1 40 = .ok ((.iaload), 1)) ∧ (decode zy_convolved_14_74.2.1 41 = .ok ((.aload_n 0), 1)) ∧ (decode zy_convolved_14_74.2.1 42 = .ok ((.getfield 112), 3)) ∧ (decode zy_convolved_14_74.2.1 45 = .ok ((.iload_n 1), 1)) := by decide +kernel
theorem zd_14_74_29 : zz_D zy_convolved_14_74 29 (.iadd) 1 30 := ⟨zg_14_74_29.1, rfl⟩
theorem zd_14_74_30 : zz_D zy_convolved_14_74 30 (.invokevirtual 258) 3 33 := ⟨zg_14_74_29.2.1, rfl⟩
theorem zd_14_74_33 : zz_D zy_convolved_14_74 33 (.istore 7) 2 35 := ⟨zg_14_74_29.2.2.1, rfl⟩
theorem zd_14_74_35 : zz_D zy_convolved_14_74 35 (.aload_n 0) 1 36 := ⟨zg_14_74_29.2.2.2.1, rfl⟩
theorem zd_14_74_36 : zz_D zy_convolved_14_74 36 (.getfield 109) 3 39 := ⟨zg_14_74_29.2.2.2.2.1, rfl⟩
theorem zd_14_74_39 : zz_D zy_convolved_14_74 39 (.iload_n 1) 1 40 := ⟨zg_14_74_29.2.2.2.2.2.1, rfl⟩
theorem zd_14_74_40 : zz_D zy_convolved_14_74 40 (.iaload) 1 41 := ⟨zg_14_74_29.2.2.2.2.2.2.1, rfl⟩
theorem zd_14_74_41 : zz_D zy_convolved_14_74 41 (.aload_n 0) 1 42 := ⟨zg_14_74_29.2.2.2.2.2.2.2.1, rfl⟩
theorem zd_14_74_42 : zz_D zy_convolved_14_74 42 (.getfield 112) 3 45 := ⟨zg_14_74_29.2.2.2.2.2.2.2.2.1, rfl⟩
theorem zd_14_74_45 : zz_D zy_convolved_14_74 45 (.iload_n 1) 1 46 := ⟨zg_14_74_29.2.2.2.2.2.2.2.2.2, rfl⟩
theorem zg_14_74_46 : (decode zy_convolved_14_74.2.1 46 = .ok ((.iaload), 1)) ∧ (decode zy_convolved_14_74.2.1 47 = .ok ((.imul), 1)) ∧ (decode zy_convolved_14_74.2.1 48 = .ok ((.aload_n 0), 1)) ∧ (decode zy_convolved_14_74.2.1 49 = .ok ((.getfield 94), 3)) ∧ (decode zy_convolved_14_74.2.1 52 = .ok ((.iload 5), 2)) ∧ (decode zy_convolved_14_74.2.1 54 = .ok ((.iaload), 1)) ∧ (decode zy_convolved_14_74.2.1 55 = .ok ((.imul), 1)) ∧ (decode zy_convolved_14_74.2.1 56 = .ok ((.istore 8), 2)) ∧ (decode zy_convolved_14_74.2.1 58 = .ok ((.iconst 0), 1)) ∧ (decode zy_convolved_14_74.2.1 59 = .ok ((.istore 9), 2)) := by decide +kernel
theorem zd_14_74_46 : zz_D zy_convolved_14_74 46 (.iaload) 1 47 := ⟨zg_14_74_46.1, rfl⟩
theorem zd_14_74_47 : zz_D zy_convolved_14_74 47 (.imul) 1 48 := ⟨zg_14_74_46.2.1, rfl⟩
theorem zd_14_74_48 : zz_D zy_convolved_14_74 48 (.aload_n 0) 1 49 := ⟨zg_14_74_46.2.2.1, rfl⟩
theorem zd_14_74_49 : zz_D zy_convolved_14_74 49 (.getfield 94) 3 52 := ⟨zg_14_74_46.2.2.2.1, rfl⟩
theorem zd_14_74_52 : zz_D zy_convolved_14_74 52 (.iload 5) 2 54 := ⟨zg_14_74_46.2.2.2.2.1, rfl⟩
theorem zd_14_74_54 : zz_D zy_convolved_14_74 54 (.iaload) 1 55 := ⟨zg_14_74_46.2.2.2.2.2.1, rfl⟩
theorem zd_14_74_55 : zz_D zy_convolved_14_74 55 (.imul) 1 56 := ⟨zg_14_74_46.2.2.2.2.2.2.1, rfl⟩
theorem zd_14_74_56 : zz_D zy_convolved_14_74 56 (.istore 8) 2 58 := ⟨zg_14_74_46.2.2.2.2.2.2.2.1, rfl⟩
theorem zd_14_74_58 : zz_D zy_convolved_14_74 58 (.iconst 0) 1 59 := ⟨zg_14_74_46.2.2.2.2.2.2.2.2.1, rfl⟩
theorem zd_14_74_59 : zz_D zy_convolved_14_74 59 (.istore 9) 2 61 := ⟨zg_14_74_46.2.2.2.2.2.2.2.2.2, rfl⟩
theorem zg_14_74_61 : (decode zy_convolved_14_74.2.1 61 = .ok ((.iload 9), 2)) ∧ (decode zy_convolved_14_74.2.1 63 = .ok ((.iload 8), 2)) ∧ (decode zy_convolved_14_74.2.1 65 = .ok ((Instr.if_icmp .ge) 147, 3)) ∧ (decode zy_convolved_14_74.2.1 212 = .ok ((.iload 7), 2)) ∧ (decode zy_convolved_14_74.2.1 214 = .ok ((.aload_n 0), 1)) ∧ (decode zy_convolved_14_74.2.1 215 = .ok ((.getfield 121), 3)) ∧ (decode zy_convolved_14_74.2.1 218 = .ok ((.iload_n 1), 1)) ∧ (decode zy_convolved_14_74.2.1 219 = .ok ((.iaload), 1)) ∧ (decode zy_convolved_14_74.2.1 220 = .ok ((.invokestatic 261), 3)) ∧ (decode zy_convolved_14_74.2.1 223 = .ok ((.ireturn), 1)) := by decide +kernel
theorem zd_14_74_61 : zz_D zy_convolved_14_74 61 (.iload 9) 2 63 := ⟨zg_14_74_61.1, rfl⟩
theorem zd_14_74_63 : zz_D zy_convolved_14_74 63 (.iload 8) 2 65 := ⟨zg_14_74_61.2.1, rfl⟩
theorem zd_14_74_65 : zz_B zy_convolved_14_74 65 (Instr.if_icmp .ge) 212 68 := ⟨147, zg_14_74_61.2.2.1, rfl, rfl⟩
theorem zd_14_74_212 : zz_D zy_convolved_14_74 212 (.iload 7) 2 214 := ⟨zg_14_74_61.2.2.2.1, rfl⟩
theorem zd_14_74_214 : zz_D zy_convolved_14_74 214 (.aload_n 0) 1 215 := ⟨zg_14_74_61.2.2.2.2.1, rfl⟩
theorem zd_14_74_215 : zz_D zy_convolved_14_74 215 (.getfield 121) 3 218 := ⟨zg_14_74_61.2.2.2.2.2.1, rfl⟩
theorem zd_14_74_218 : zz_D zy_convolved_14_74 218 (.iload_n 1) 1 219 := ⟨zg_14_74_61.2.2.2.2.2.2.1, rfl⟩
theorem zd_14_74_219 : zz_D zy_convolved_14_74 219 (.iaload) 1 220 := ⟨zg_14_74_61.2.2.2.2.2.2.2.1, rfl⟩
theorem zd_14_74_220 : zz_D zy_convolved_14_74 220 (.invokestatic 261) 3 223 := ⟨zg_14_74_61.2.2.2.2.2.2.2.2.1, rfl⟩
theorem zd_14_74_223 : zz_D zy_convolved_14_74 223 (.ireturn) 1 224 := ⟨zg_14_74_61.2.2.2.2.2.2.2.2.2, rfl⟩
theorem zg_14_74_68 : (decode zy_convolved_14_74.2.1 68 = .ok ((.iload 9), 2)) ∧ (decode zy_convolved_14_74.2.1 70 = .ok ((.aload_n 0), 1)) ∧ (decode zy_convolved_14_74.2.1 71 = .ok ((.getfield 94), 3)) ∧ (decode zy_convolved_14_74.2.1 74 = .ok ((.iload 5), 2)) ∧ (decode zy_convolved_14_74.2.1 76 = .ok ((.iaload), 1)) ∧ (decode zy_convolved_14_74.2.1 77 = .ok ((.irem), 1)) ∧ (decode zy_convolved_14_74.2.1 78 = .ok ((.istore 10), 2)) ∧ (decode zy_convolved_14_74.2.1 80 = .ok ((.aload_n 0), 1)) ∧ (decode zy_convolved_14_74.2.1 81 = .ok ((.getfield 115), 3)) ∧ (decode zy_convolved_14_74.2.1 84 = .ok ((.iload_n 1), 1)) := by decide +kernel
theorem zd_14_74_68 : zz_D zy_convolved_14_74 68 (.iload 9) 2 70 := ⟨zg_14_74_68.1, rfl⟩
theorem zd_14_74_70 : zz_D zy_convolved_14_74 70 (.aload_n 0) 1 71 := ⟨zg_14_74_68.2.1, rfl⟩
theorem zd_14_74_71 : zz_D zy_convolved_14_74 71 (.getfield 94) 3 74 := ⟨zg_14_74_68.2.2.1, rfl⟩
theorem zd_14_74_74 : zz_D zy_convolved_14_74 74 (.iload 5) 2 76 := ⟨zg_14_74_68.2.2.2.1, rfl⟩
theorem zd_14_74_76 : zz_D zy_convolved_14_74 76 (.iaload) 1 77 := ⟨zg_14_74_68.2.2.2.2.1, rfl⟩
theorem zd_14_74_77 : zz_D zy_convolved_14_74 77 (.irem) 1 78 := ⟨zg_14_74_68.2.2.2.2.2.1, rfl⟩
theorem zd_14_74_78 : zz_D zy_convolved_14_74 78 (.istore 10) 2 80 := ⟨zg_14_74_68.2.2.2.2.2.2.1, rfl⟩
theorem zd_14_74_80 : zz_D zy_convolved_14_74 80 (.aload_n 0) 1 81 := ⟨zg_14_74_68.2.2.2.2.2.2.2.1, rfl⟩
theorem zd_14_74_81 : zz_D zy_convolved_14_74 81 (.getfield 115) 3 84 := ⟨zg_14_74_68.2.2.2.2.2.2.2.2.1, rfl⟩
theorem zd_14_74_84 : zz_D zy_convolved_14_74 84 (.iload_n 1) 1 85 := ⟨zg_14_74_68.2.2.2.2.2.2.2.2.2, rfl⟩
theorem zg_14_74_85 : (decode zy_convolved_14_74.2.1 85 = .ok ((.iaload), 1)) ∧ (decode zy_convolved_14_74.2.1 86 = .ok ((.iload_n 2), 1)) ∧ (decode zy_convolved_14_74.2.1 87 = .ok ((.imul), 1)) ∧ (decode zy_convolved_14_74.2.1 88 = .ok ((.iload 9), 2)) ∧ (decode zy_convolved_14_74.2.1 90 = .ok ((.aload_n 0), 1)) ∧ (decode zy_convolved_14_74.2.1 91 = .ok ((.getfield 94), 3)) ∧ (decode zy_convolved_14_74.2.1 94 = .ok ((.iload 5), 2)) ∧ (decode zy_convolved_14_74.2.1 96 = .ok ((.iaload), 1)) ∧ (decode zy_convolved_14_74.2.1 97 = .ok ((.idiv), 1)) ∧ (decode zy_convolved_14_74.2.1 98 = .ok ((.aload_n 0), 1)) := by decide +kernel
theorem zd_14_74_85 : zz_D zy_convolved_14_74 85 (.iaload) 1 86 := ⟨zg_14_74_85.1, rfl⟩
theorem zd_14_74_86 : zz_D zy_convolved_14_74 86 (.iload_n 2) 1 87 := ⟨zg_14_74_85.2.1, rfl⟩
theorem zd_14_74_87 : zz_D zy_convolved_14_74 87 (.imul) 1 88 := ⟨zg_14_74_85.2.2.1, rfl⟩
theorem zd_14_74_88 : zz_D zy_convolved_14_74 88 (.iload 9) 2 90 := ⟨zg_14_74_85.2.2.2.1, rfl⟩
theorem zd_14_74_90 : zz_D zy_convolved_14_74 90 (.aload_n 0) 1 91 := ⟨zg_14_74_85.2.2.2.2.1, rfl⟩
theorem zd_14_74_91 : zz_D zy_convolved_14_74 91 (.getfield 94) 3 94 := ⟨zg_14_74_85.2.2.2.2.2.1, rfl⟩
theorem zd_14_74_94 : zz_D zy_convolved_14_74 94 (.iload 5) 2 96 := ⟨zg_14_74_85.2.2.2.2.2.2.1, rfl⟩
theorem zd_14_74_96 : zz_D zy_convolved_14_74 96 (.iaload) 1 97 := ⟨zg_14_74_85.2.2.2.2.2.2.2.1, rfl⟩
theorem zd_14_74_97 : zz_D zy_convolved_14_74 97 (.idiv) 1 98 := ⟨zg_14_74_85.2.2.2.2.2.2.2.2.1, rfl⟩
theorem zd_14_74_98 : zz_D zy_convolved_14_74 98 (.aload_n 0) 1 99 := ⟨zg_14_74_85.2.2.2.2.2.2.2.2.2, rfl⟩
theorem zg_14_74_99 : (decode zy_convolved_14_74.2.1 99 = .ok ((.getfield 112), 3)) ∧ (decode zy_convolved_14_74.2.1 102 = .ok ((.iload_n 1), 1)) ∧ (decode zy_convolved_14_74.2.1 103 = .ok ((.iaload), 1)) ∧ (decode zy_convolved_14_74.2.1 104 = .ok ((.idiv), 1)) ∧ (decode zy_convolved_14_74.2.1 105 = .ok ((.iadd), 1)) ∧ (decode zy_convolved_14_74.2.1 106 = .ok ((.aload_n 0), 1)) ∧ (decode zy_convolved_14_74.2.1 107 = .ok ((.getfield 118), 3)) ∧ (decode zy_convolved_14_74.2.1 110 = .ok ((.iload_n 1), 1)) ∧ (decode zy_convolved_14_74.2.1 111 = .ok ((.iaload), 1)) ∧ (decode zy_convolved_14_74.2.1 112 = .ok ((.isub), 1)) := by decide +kernel
theorem zd_14_74_99 : zz_D zy_convolved_14_74 99 (.getfield 112) 3 102 := ⟨zg_14_74_99.1, rfl⟩
theorem zd_14_74_102 : zz_D zy_convolved_14_74 102 (.iload_n 1) 1 103 := ⟨zg_14_74_99.2.1, rfl⟩
theorem zd_14_74_103 : zz_D zy_convolved_14_74 103 (.iaload) 1 104 := ⟨zg_14_74_99.2.2.1, rfl⟩
theorem zd_14_74_104 : zz_D zy_convolved_14_74 104 (.idiv) 1 105 := ⟨zg_14_74_99.2.2.2.1, rfl⟩
theorem zd_14_74_105 : zz_D zy_convolved_14_74 105 (.iadd) 1 106 := ⟨zg_14_74_99.2.2.2.2.1, rfl⟩
theorem zd_14_74_106 : zz_D zy_convolved_14_74 106 (.aload_n 0) 1 107 := ⟨zg_14_74_99.2.2.2.2.2.1, rfl⟩
theorem zd_14_74_107 : zz_D zy_convolved_14_74 107 (.getfield 118) 3 110 := ⟨zg_14_74_99.2.2.2.2.2.2.1, rfl⟩
theorem zd_14_74_110 : zz_D zy_convolved_14_74 110 (.iload_n 1) 1 111 := ⟨zg_14_74_99.2.2.2.2.2.2.2.1, rfl⟩
theorem zd_14_74_111 : zz_D zy_convolved_14_74 111 (.iaload) 1 112 := ⟨zg_14_74_99.2.2.2.2.2.2.2.2.1, rfl⟩
theorem zd_14_74_112 : zz_D zy_convolved_14_74 112 (.isub) 1 113 := ⟨zg_14_74_99.2.2.2.2.2.2.2.2.2, rfl⟩
theorem zg_14_74_113 : (decode zy_convolved_14_74.2.1 113 = .ok ((.istore 11), 2)) ∧ (decode zy_convolved_14_74.2.1 115 = .ok ((.aload_n 0), 1)) ∧ (decode zy_convolved_14_74.2.1 116 = .ok ((.getfield 115), 3)) ∧ (decode zy_convolved_14_74.2.1 119 = .ok ((.iload_n 1), 1)) ∧ (decode zy_convolved_14_74.2.1 120 = .ok ((.iaload), 1)) ∧ (decode zy_convolved_14_74.2.1 121 = .ok ((.iload_n 3), 1)) ∧ (decode zy_convolved_14_74.2.1 122 = .ok ((.imul), 1)) ∧ (decode zy_convolved_14_74.2.1 123 = .ok ((.iload 9), 2)) ∧ (decode zy_convolved_14_74.2.1 125 = .ok ((.aload_n 0), 1)) ∧ (decode zy_convolved_14_74.2.1 126 = .ok ((.getfield 94), 3)) := by decide +kernel
theorem zd_14_74_113 : zz_D zy_convolved_14_74 113 (.istore 11) 2 115 := ⟨zg_14_74_113.1, rfl⟩
theorem zd_14_74_115 : zz_D zy_convolved_14_74 115 (.aload_n 0) 1 116 := ⟨zg_14_74_113.2.1, rfl⟩
theorem zd_14_74_116 : zz_D zy_convolved_14_74 116 (.getfield 115) 3 119 := ⟨zg_14_74_113.2.2.1, rfl⟩
theorem zd_14_74_119 : zz_D zy_convolved_14_74 119 (.iload_n 1) 1 120 := ⟨zg_14_74_113.2.2.2.1, rfl⟩
theorem zd_14_74_120 : zz_D zy_convolved_14_74 120 (.iaload) 1 121 := ⟨zg_14_74_113.2.2.2.2.1, rfl⟩
theorem zd_14_74_121 : zz_D zy_convolved_14_74 121 (.iload_n 3) 1 122 := ⟨zg_14_74_113.2.2.2.2.2.1, rfl⟩
theorem zd_14_74_122 : zz_D zy_convolved_14_74 122 (.imul) 1 123 := ⟨zg_14_74_113.2.2.2.2.2.2.1, rfl⟩
theorem zd_14_74_123 : zz_D zy_convolved_14_74 123 (.iload 9) 2 125 := ⟨zg_14_74_113.2.2.2.2.2.2.2.1, rfl⟩
theorem zd_14_74_125 : zz_D zy_convolved_14_74 125 (.aload_n 0) 1 126 := ⟨zg_14_74_113.2.2.2.2.2.2.2.2.1, rfl⟩
theorem zd_14_74_126 : zz_D zy_convolved_14_74 126 (.getfield 94) 3 129 := ⟨zg_14_74_113.2.2.2.2.2.2.2.2.2, rfl⟩
theorem zg_14_74_129 : (decode zy_convolved_14_74.2.1 129 = .ok ((.iload 5), 2)) ∧ (decode zy_convolved_14_74.2.1 131 = .ok ((.iaload), 1)) ∧ (decode zy_convolved_14_74.2.1 132 = .ok ((.idiv), 1)) ∧ (decode zy_convolved_14_74.2.1 133 = .ok ((.aload_n 0), 1)) ∧ (decode zy_convolved_14_74.2.1 134 = .ok ((.getfield 112), 3)) ∧ (decode zy_convolved_14_74.2.1 137 = .ok ((.iload_n 1), 1)) ∧ (decode zy_convolved_14_74.2.1 138 = .ok ((.iaload), 1)) ∧ (decode zy_convolved_14_74.2.1 139 = .ok ((.irem), 1)) ∧ (decode zy_convolved_14_74.2.1 140 = .ok ((.iadd), 1)) ∧ (decode zy_convolved_14_74.2.1 141 = .ok ((.aload_n 0), 1)) := by decide +kernel
theorem zd_14_74_129 : zz_D zy_convolved_14_74 129 (.iload 5) 2 131 := ⟨zg_14_74_129.1, rfl⟩
theorem zd_14_74_131 : zz_D zy_convolved_14_74 131 (.iaload) 1 132 := ⟨zg_14_74_129.2.1, rfl⟩
theorem zd_14_74_132 : zz_D zy_convolved_14_74 132 (.idiv) 1 133 := ⟨zg_14_74_129.2.2.1, rfl⟩
theorem zd_14_74_133 : zz_D zy_convolved_14_74 133 (.aload_n 0) 1 134 := ⟨zg_14_74_129.2.2.2.1, rfl⟩
theorem zd_14_74_134 : zz_D zy_convolved_14_74 134 (.getfield 112) 3 137 := ⟨zg_14_74_129.2.2.2.2.1, rfl⟩
theorem zd_14_74_137 : zz_D zy_convolved_14_74 137 (.iload_n 1) 1 138 := ⟨zg_14_74_129.2.2.2.2.2.1, rfl⟩
theorem zd_14_74_138 : zz_D zy_convolved_14_74 138 (.iaload) 1 139 := ⟨zg_14_74_129.2.2.2.2.2.2.1, rfl⟩
theorem zd_14_74_139 : zz_D zy_convolved_14_74 139 (.irem) 1 140 := ⟨zg_14_74_129.2.2.2.2.2.2.2.1, rfl⟩
theorem zd_14_74_140 : zz_D zy_convolved_14_74 140 (.iadd) 1 141 := ⟨zg_14_74_129.2.2.2.2.2.2.2.2.1, rfl⟩
theorem zd_14_74_141 : zz_D zy_convolved_14_74 141 (.aload_n 0) 1 142 := ⟨zg_14_74_129.2.2.2.2.2.2.2.2.2, rfl⟩
theorem zg_14_74_142 : (decode zy_convolved_14_74.2.1 142 = .ok ((.getfield 118), 3)) ∧ (decode zy_convolved_14_74.2.1 145 = .ok ((.iload_n 1), 1)) ∧ (decode zy_convolved_14_74.2.1 146 = .ok ((.iaload), 1)) ∧ (decode zy_convolved_14_74.2.1 147 = .ok ((.isub), 1)) ∧ (decode zy_convolved_14_74.2.1 148 = .ok ((.istore 12), 2)) ∧ (decode zy_convolved_14_74.2.1 150 = .ok ((.aload_n 0), 1)) ∧ (decode zy_convolved_14_74.2.1 151 = .ok ((.iload 5), 2)) ∧ (decode zy_convolved_14_74.2.1 153 = .ok ((.iload 11), 2)) ∧ (decode zy_convolved_14_74.2.1 155 = .ok ((.iload 12), 2)) ∧ (decode zy_convolved_14_74.2.1 157 = .ok ((.invokevirtual 434), 3)) := by decide +kernel
theorem zd_14_74_142 : zz_D zy_convolved_14_74 142 (.getfield 118) 3 145 := ⟨zg_14_74_142.1, rfl⟩
theorem zd_14_74_145 : zz_D zy_convolved_14_74 145 (.iload_n 1) 1 146 := ⟨zg_14_74_142.2.1, rfl⟩
theorem zd_14_74_146 : zz_D zy_convolved_14_74 146 (.iaload) 1 147 := ⟨zg_14_74_142.2.2.1, rfl⟩
theorem zd_14_74_147 : zz_D zy_convolved_14_74 147 (.isub) 1 148 := ⟨zg_14_74_142.2.2.2.1, rfl⟩
theorem zd_14_74_148 : zz_D zy_convolved_14_74 148 (.istore 12) 2 150 := ⟨zg_14_74_142.2.2.2.2.1, rfl⟩
theorem zd_14_74_150 : zz_D zy_convolved_14_74 150 (.aload_n 0) 1 151 := ⟨zg_14_74_142.2.2.2.2.2.1, rfl⟩
theorem zd_14_74_151 : zz_D zy_convolved_14_74 151 (.iload 5) 2 153 := ⟨zg_14_74_142.2.2.2.2.2.2.1, rfl⟩
theorem zd_14_74_153 : zz_D zy_convolved_14_74 153 (.iload 11) 2 155 := ⟨zg_14_74_142.2.2.2.2.2.2.2.1, rfl⟩
theorem zd_14_74_155 : zz_D zy_convolved_14_74 155 (.iload 12) 2 157 := ⟨zg_14_74_142.2.2.2.2.2.2.2.2.1, rfl⟩
theorem zd_14_74_157 : zz_D zy_convolved_14_74 157 (.invokevirtual 434) 3 160 := ⟨zg_14_74_142.2.2.2.2.2.2.2.2.2, rfl⟩
theorem zg_14_74_160 : (decode zy_convolved_14_74.2.1 160 = .ok ((Instr.ifCond .eq) 46, 3)) ∧ (decode zy_convolved_14_74.2.1 206 = .ok ((.iinc 9 1), 3)) ∧ (decode zy_convolved_14_74.2.1 209 = .ok (Instr.goto (-148), 3)) ∧ (decode zy_convolved_14_74.2.1 163 = .ok ((.iload 7), 2)) ∧ (decode zy_convolved_14_74.2.1 165 = .ok ((.aload_n 0), 1)) ∧ (decode zy_convolved_14_74.2.1 166 = .ok ((.getfield 13), 3)) ∧ (decode zy_convolved_14_74.2.1 169 = .ok ((.aload_n 0), 1)) ∧ (decode zy_convolved_14_74.2.1 170 = .ok ((.getfield 124), 3)) ∧ (decode zy_convolved_14_74.2.1 173 = .ok ((.iload_n 1), 1)) ∧ (decode zy_convolved_14_74.2.1 174 = .ok ((.iaload), 1)) := by decide +kernel
theorem zd_14_74_160 : zz_B zy_convolved_14_74 160 (Instr.ifCond .eq) 206 163 := ⟨46, zg_14_74_160.1, rfl, rfl⟩
theorem zd_14_74_206 : zz_D zy_convolved_14_74 206 (.iinc 9 1) 3 209 := ⟨zg_14_74_160.2.1, rfl⟩
theorem zd_14_74_209 : zz_B zy_convolved_14_74 209 Instr.goto 61 212 := ⟨(-148), zg_14_74_160.2.2.1, rfl, rfl⟩
theorem zd_14_74_163 : zz_D zy_convolved_14_74 163 (.iload 7) 2 165 := ⟨zg_14_74_160.2.2.2.1, rfl⟩
theorem zd_14_74_165 : zz_D zy_convolved_14_74 165 (.aload_n 0) 1 166 := ⟨zg_14_74_160.2.2.2.2.1, rfl⟩
theorem zd_14_74_166 : zz_D zy_convolved_14_74 166 (.getfield 13) 3 169 := ⟨zg_14_74_160.2.2.2.2.2.1, rfl⟩
theorem zd_14_74_169 : zz_D zy_convolved_14_74 169 (.aload_n 0) 1 170 := ⟨zg_14_74_160.2.2.2.2.2.2.1, rfl⟩
theorem zd_14_74_170 : zz_D zy_convolved_14_74 170 (.getfield 124) 3 173 := ⟨zg_14_74_160.2.2.2.2.2.2.2.1, rfl⟩
theorem zd_14_74_173 : zz_D zy_convolved_14_74 173 (.iload_n 1) 1 174 := ⟨zg_14_74_160.2.2.2.2.2.2.2.2.1, rfl⟩
theorem zd_14_74_174 : zz_D zy_convolved_14_74 174 (.iaload) 1 175 := ⟨zg_14_74_160.2.2.2.2.2.2.2.2.2, rfl⟩
theorem zg_14_74_175 : (decode zy_convolved_14_74.2.1 175 = .ok ((.iconst 4), 1)) ∧ (decode zy_convolved_14_74.2.1 176 = .ok ((.iload 6), 2)) ∧ (decode zy_convolved_14_74.2.1 178 = .ok ((.imul), 1)) ∧ (decode zy_convolved_14_74.2.1 179 = .ok ((.iadd), 1)) ∧ (decode zy_convolved_14_74.2.1 180 = .ok ((.iload 9), 2)) ∧ (decode zy_convolved_14_74.2.1 182 = .ok ((.iload 6), 2)) ∧ (decode zy_convolved_14_74.2.1 184 = .ok ((.imul), 1)) ∧ (decode zy_convolved_14_74.2.1 185 = .ok ((.iadd), 1)) ∧ (decode zy_convolved_14_74.2.1 186 = .ok ((.iload 4), 2)) ∧ (decode zy_convolved_14_74.2.1 188 = .ok ((.iadd), 1)) := by decide +kernel
theorem zd_14_74_175 : zz_D zy_convolved_14_74 175 (.iconst 4) 1 176 := ⟨zg_14_74_175.1, rfl⟩
theorem zd_14_74_176 : zz_D zy_convolved_14_74 176 (.iload 6) 2 178 := ⟨zg_14_74_175.2.1, rfl⟩
theorem zd_14_74_178 : zz_D zy_convolved_14_74 178 (.imul) 1 179 := ⟨zg_14_74_175.2.2.1, rfl⟩
theorem zd_14_74_179 : zz_D zy_convolved_14_74 179 (.iadd) 1 180 := ⟨zg_14_74_175.2.2.2.1, rfl⟩
theorem zd_14_74_180 : zz_D zy_convolved_14_74 180 (.iload 9) 2 182 := ⟨zg_14_74_175.2.2.2.2.1, rfl⟩
theorem zd_14_74_182 : zz_D zy_convolved_14_74 182 (.iload 6) 2 184 := ⟨zg_14_74_175.2.2.2.2.2.1, rfl⟩
theorem zd_14_74_184 : zz_D zy_convolved_14_74 184 (.imul) 1 185 := ⟨zg_14_74_175.2.2.2.2.2.2.1, rfl⟩
theorem zd_14_74_185 : zz_D zy_convolved_14_74 185 (.iadd) 1 186 := ⟨zg_14_74_175.2.2.2.2.2.2.2.1, rfl⟩
theorem zd_14_74_186 : zz_D zy_convolved_14_74 186 (.iload 4) 2 188 := ⟨zg_14_74_175.2.2.2.2.2.2.2.2.1, rfl⟩
theorem zd_14_74_188 : zz_D zy_convolved_14_74 188 (.iadd) 1 189 := ⟨zg_14_74_175.2.2.2.2.2.2.2.2.2, rfl⟩
theorem zg_14_74_189 : (decode zy_convolved_14_74.2.1 189 = .ok ((.iaload), 1)) ∧ (decode zy_convolved_14_74.2.1 190 = .ok ((.aload_n 0), 1)) ∧ (decode zy_convolved_14_74.2.1 191 = .ok ((.iload 5), 2)) ∧ (decode zy_convolved_14_74.2.1 193 = .ok ((.iload 11), 2)) ∧ (decode zy_convolved_14_74.2.1 195 = .ok ((.iload 12), 2)) ∧ (decode zy_convolved_14_74.2.1 197 = .ok ((.iload 10), 2)) ∧ (decode zy_convolved_14_74.2.1 199 = .ok ((.invokevirtual 438), 3)) ∧ (decode zy_convolved_14_74.2.1 202 = .ok ((.imul), 1)) ∧ (decode zy_convolved_14_74.2.1 203 = .ok ((.iadd), 1)) ∧ (decode zy_convolved_14_74.2.1 204 = .ok ((.istore 7), 2)) := by decide +kernel
theorem zd_14_74_189 : zz_D zy_convolved_14_74 189 (.iaload) 1 190 := ⟨zg_14_74_189.1, rfl⟩
theorem zd_14_74_190 : zz_D zy_convolved_14_74 190 (.aload_n 0) 1 191 := ⟨zg_14_74_189.2.1, rfl⟩
theorem zd_14_74_191 : zz_D zy_convolved_14_74 191 (.iload 5) 2 193 := ⟨zg_14_74_189.2.2.1, rfl⟩
theorem zd_14_74_193 : zz_D zy_convolved_14_74 193 (.iload 11) 2 195 := ⟨zg_14_74_189.2.2.2.1, rfl⟩
theorem zd_14_74_195 : zz_D zy_convolved_14_74 195 (.iload 12) 2 197 := ⟨zg_14_74_189.2.2.2.2.1, rfl⟩
theorem zd_14_74_197 : zz_D zy_convolved_14_74 197 (.iload 10) 2 199 := ⟨zg_14_74_189.2.2.2.2.2.1, rfl⟩
theorem zd_14_74_199 : zz_D zy_convolved_14_74 199 (.invokevirtual 438) 3 202 := ⟨zg_14_74_189.2.2.2.2.2.2.1, rfl⟩
theorem zd_14_74_202 : zz_D zy_convolved_14_74 202 (.imul) 1 203 := ⟨zg_14_74_189.2.2.2.2.2.2.2.1, rfl⟩
theorem zd_14_74_203 : zz_D zy_convolved_14_74 203 (.iadd) 1 204 := ⟨zg_14_74_189.2.2.2.2.2.2.2.2.1, rfl⟩
theorem zd_14_74_204 : zz_D zy_convolved_14_74 204 (.istore 7) 2 206 := ⟨zg_14_74_189.2.2.2.2.2.2.2.2.2, rfl⟩
-- TensorForgeModel convolved (IIII)I
abbrev zr_convolved_14_74 : Room := { frames := 2, cells := 0, slots := 0, locals := 32 }
def zp_convolved_14_74 (p0 : Int) (p1 : Int) (p2 : Int) (p3 : Int) (S0 : zz_S) : Int → zz_S → Prop := fun r S => S0 = S ∧ ((-2147483648) ≤ r ∧ r ≤ 2147483647)
theorem zb_convolved_14_74_61 {g : mm_G} {l : Launch} (p0 : Int) (p1 : Int) (p2 : Int) (p3 : Int) (S0 : zz_S) (n : Nat) (hn : zz_end ≤ n) (G_S0 : zz_G S0) (hp0 : 0 ≤ p0 ∧ p0 ≤ 9) (hp1 : 0 ≤ p1 ∧ p1 ≤ 62) (hp2 : 0 ≤ p2 ∧ p2 ≤ 62) (hp3 : 0 ≤ p3 ∧ p3 ≤ 62) (R_S0 : zz_Hr S0) (hl : p0 + 1 < S0 1079 36) (hk : S0 1106 p0.toNat = 0) (ho : p3 < S0 1104 (p0 + 1).toNat) (x7 : Int) (x8 : Int) (x9 : Int) (S : zz_S) (G_S : zz_G S) (F_S : zz_fr [] [] (fun _ _ => False) S0 S) (i61_0 : (-2147483648) ≤ x7 ∧ x7 ≤ 2147483647) (i61_1 : 0 ≤ x8 ∧ x8 ≤ 567) (i61_2 : 0 ≤ x9 ∧ x9 ≤ 567) (i61_3 : x8 = (S0 1109 p0.toNat * S0 1110 p0.toNat) * S0 1104 (S0 1107 p0.toNat).toNat) (R : Nat) (hR : (34359738368 + (x8 - x9).toNat) * 1099511627776 + 1099511627775 = R) (k61 : ∀ (x7 : Int) (x8 : Int) (x9 : Int) (S : zz_S), zz_G S → zz_fr [] [] (fun _ _ => False) S0 S → ((-2147483648) ≤ x7 ∧ x7 ≤ 2147483647) → (0 ≤ x8 ∧ x8 ≤ 567) → (0 ≤ x9 ∧ x9 ≤ 567) → (x8 = (S0 1109 p0.toNat * S0 1110 p0.toNat) * S0 1104 (S0 1107 p0.toNat).toNat) → (34359738368 + (x8 - x9).toNat) * 1099511627776 + 1099511627775 < R → zz_E g l zy_convolved_14_74 zr_convolved_14_74 (zz_QI n (zp_convolved_14_74 p0 p1 p2 p3 S0)) S n 61 [some (.ref 1079), some (zi p0), some (zi p1), some (zi p2), some (zi p3), some (zi (S0 1107 p0.toNat)), some (zi (S0 1104 ((p0 + 1).toNat))), some (zi x7), some (zi x8), some (zi x9)] [] 0 0) (k163 : ∀ (x7 : Int) (x8 : Int) (x9 : Int) (x10 : Int) (x11 : Int) (x12 : Int) (S : zz_S), zz_G S → zz_fr [] [] (fun _ _ => False) S0 S → ((-2147483648) ≤ x7 ∧ x7 ≤ 2147483647) → (0 ≤ x8 ∧ x8 ≤ 567) → (0 ≤ x9 ∧ x9 ≤ 567) → (0 ≤ x10 ∧ x10 ≤ 62) → (0 ≤ x11 ∧ x11 ≤ 62) → (0 ≤ x12 ∧ x12 ≤ 62) → (x8 = (S0 1109 p0.toNat * S0 1110 p0.toNat) * S0 1104 (S0 1107 p0.toNat).toNat) → (x9 < x8) → (x8 = (S0 1109 p0.toNat * S0 1110 p0.toNat) * S0 1104 (S0 1107 p0.toNat).toNat) → (x9 < x8) → (x10 < S0 1104 (S0 1107 p0.toNat).toNat) → (x11 < S0 1102 (S0 1107 p0.toNat).toNat) → (x12 < S0 1103 (S0 1107 p0.toNat).toNat) → (34359738368 + (x8 - x9).toNat) * 1099511627776 + (17179869184 + 0) < R → zz_E g l zy_convolved_14_74 zr_convolved_14_74 (zz_QI n (zp_convolved_14_74 p0 p1 p2 p3 S0)) S n 163 [some (.ref 1079), some (zi p0), some (zi p1), some (zi p2), some (zi p3), some (zi (S0 1107 p0.toNat)), some (zi (S0 1104 ((p0 + 1).toNat))), some (zi x7), some (zi x8), some (zi x9), some (zi x10), some (zi x11), some (zi x12)] [] 0 0) : zz_E g l zy_convolved_14_74 zr_convolved_14_74 (zz_QI n (zp_convolved_14_74 p0 p1 p2 p3 S0)) S n 61 [some (.ref 1079), some (zi p0), some (zi p1), some (zi p2), some (zi p3), some (zi (S0 1107 p0.toNat)), some (zi (S0 1104 ((p0 + 1).toNat))), some (zi x7), some (zi x8), some (zi x9)] [] 0 0 := by
  have hb9 := R_S0.2 p0.toNat (by omega)
  unfold zz_la at hb9
  have hone := hb9.1
  have hk9 := hb9.2.1 (by omega)
  have h5 : 1 ≤ S0 1110 p0.toNat := hk9.2.1
  have go9 := zz_G.r G_S0 1107 p0.toNat 0 10 rfl rfl
  have ht9 := R_S0.1 (S0 1107 p0.toNat).toNat (by omega)
  unfold zz_tn at ht9
  have h4 : 1 ≤ S0 1104 (S0 1107 p0.toNat).toNat := ht9.2.2.1
  clear hb9 hk9 ht9
  have R_S : zz_Hr S := (zz_fr.eq F_S) ▸ R_S0
  refine zz_iload (x := x9) rfl zd_14_74_61 ?_
  refine zz_iload (x := x8) rfl zd_14_74_63 ?_
  refine zz_icmp_ge (by omega) (by omega) zd_14_74_65 (fun c13 => ?_) (fun c13 => ?_)
  · refine zz_iload (x := x7) rfl zd_14_74_212 ?_
    refine zz_aload_n (x := 1079) rfl zd_14_74_214 ?_
    refine zz_getr (kd := 0) (z := 1113) zd_14_74_215 zf_Md_121 zT_1079 rfl (zz_ltn hn rfl) (zz_G.eq G_S 1079 48 1113 rfl rfl) (by decide) 1113 rfl ?_
    refine zz_iload_n (x := p0) rfl zd_14_74_218 ?_
    have g14 := zz_G.r G_S0 1113 p0.toNat 0 31 rfl rfl
    refine zz_iald (z := S0 1113 p0.toNat) zd_14_74_219 zT_1113 rfl (zz_ltn hn rfl) (by decide) (by omega) (zz_rc F_S (zz_nc1 rfl) rfl (fun h => h) rfl) ?_
    refine zz_callSI [zi x7, zi (S0 1113 p0.toNat)] zd_14_74_220 zk_Md_261 rfl rfl ⟨Nat.le_of_ble_eq_true rfl, Nat.le_of_ble_eq_true rfl⟩ ⟨rfl, rfl⟩ (Nat.zero_le _) (Nat.zero_le _) (zc_narrowed_14_26 x7 (S0 1113 p0.toNat) S n hn G_S (by omega) (by omega)) (fun v16 S15 hP => ?_)
    obtain ⟨rfl, o17⟩ := hP
    exact zz_iret zd_14_74_223 rfl (Nat.zero_le _) (Nat.zero_le _) ⟨_, _, rfl, zz_fr.eq F_S, by omega⟩
  · refine zz_iload (x := x9) rfl zd_14_74_68 ?_
    refine zz_aload_n (x := 1079) rfl zd_14_74_70 ?_
    refine zz_getr (kd := 0) (z := 1104) zd_14_74_71 zf_Md_94 zT_1079 rfl (zz_ltn hn rfl) (zz_G.eq G_S 1079 39 1104 rfl rfl) (by decide) 1104 rfl ?_
    refine zz_iload (x := S0 1107 p0.toNat) rfl zd_14_74_74 ?_
    have g18 := zz_G.r G_S0 1104 ((S0 1107 p0.toNat).toNat) 0 63 rfl rfl
    refine zz_iald (z := S0 1104 ((S0 1107 p0.toNat).toNat)) zd_14_74_76 zT_1104 rfl (zz_ltn hn rfl) (by decide) (by omega) (zz_rc F_S (zz_nc1 rfl) rfl (fun h => h) rfl) ?_
    refine zz_irem (by omega) (by omega) zd_14_74_77 (fun v19 hv19 av19 bv19 cv19 => ?_)
    obtain rfl : v19 = x9 % (S0 1104 ((S0 1107 p0.toNat).toNat)) := by omega
    refine zz_istore [some (.ref 1079), some (zi p0), some (zi p1), some (zi p2), some (zi p3), some (zi (S0 1107 p0.toNat)), some (zi (S0 1104 ((p0 + 1).toNat))), some (zi x7), some (zi x8), some (zi x9), some (zi (x9 % (S0 1104 ((S0 1107 p0.toNat).toNat))))] zd_14_74_78 (by decide) rfl ?_
    refine zz_aload_n (x := 1079) rfl zd_14_74_80 ?_
    refine zz_getr (kd := 0) (z := 1111) zd_14_74_81 zf_Md_115 zT_1079 rfl (zz_ltn hn rfl) (zz_G.eq G_S 1079 46 1111 rfl rfl) (by decide) 1111 rfl ?_
    refine zz_iload_n (x := p0) rfl zd_14_74_84 ?_
    have g20 := zz_G.r G_S0 1111 p0.toNat 0 3 rfl rfl
    refine zz_iald (z := S0 1111 p0.toNat) zd_14_74_85 zT_1111 rfl (zz_ltn hn rfl) (by decide) (by omega) (zz_rc F_S (zz_nc1 rfl) rfl (fun h => h) rfl) ?_
    refine zz_iload_n (x := p1) rfl zd_14_74_86 ?_
    refine zz_imul zd_14_74_87 ?_
    have m21 := zz_mulb (a := S0 1111 p0.toNat) (b := p1) 3 62 186 (by omega) (by omega) (by decide)
    refine zz_iload (x := x9) rfl zd_14_74_88 ?_
    refine zz_aload_n (x := 1079) rfl zd_14_74_90 ?_
    refine zz_getr (kd := 0) (z := 1104) zd_14_74_91 zf_Md_94 zT_1079 rfl (zz_ltn hn rfl) (zz_G.eq G_S 1079 39 1104 rfl rfl) (by decide) 1104 rfl ?_
    refine zz_iload (x := S0 1107 p0.toNat) rfl zd_14_74_94 ?_
    refine zz_iald (z := S0 1104 ((S0 1107 p0.toNat).toNat)) zd_14_74_96 zT_1104 rfl (zz_ltn hn rfl) (by decide) (by omega) (zz_rc F_S (zz_nc1 rfl) rfl (fun h => h) rfl) ?_
    refine zz_idiv (by omega) (by omega) zd_14_74_97 (fun v22 hv22 av22 bv22 cv22 => ?_)
    have m23 := zz_divb (by omega) (by omega) av22
    obtain rfl : v22 = x9 / (S0 1104 ((S0 1107 p0.toNat).toNat)) := by omega
    refine zz_aload_n (x := 1079) rfl zd_14_74_98 ?_
    refine zz_getr (kd := 0) (z := 1110) zd_14_74_99 zf_Md_112 zT_1079 rfl (zz_ltn hn rfl) (zz_G.eq G_S 1079 45 1110 rfl rfl) (by decide) 1110 rfl ?_
    refine zz_iload_n (x := p0) rfl zd_14_74_102 ?_
    have g24 := zz_G.r G_S0 1110 p0.toNat 0 3 rfl rfl
    refine zz_iald (z := S0 1110 p0.toNat) zd_14_74_103 zT_1110 rfl (zz_ltn hn rfl) (by decide) (by omega) (zz_rc F_S (zz_nc1 rfl) rfl (fun h => h) rfl) ?_
    refine zz_idiv (by omega) (by omega) zd_14_74_104 (fun v25 hv25 av25 bv25 cv25 => ?_)
    have m26 := zz_divb (by omega) (by omega) av25
    obtain rfl : v25 = (x9 / (S0 1104 ((S0 1107 p0.toNat).toNat))) / (S0 1110 p0.toNat) := by omega
    refine zz_iadd zd_14_74_105 ?_
    refine zz_nme (fun v27 ev27 => ?_)
    refine zz_aload_n (x := 1079) rfl zd_14_74_106 ?_
    refine zz_getr (kd := 0) (z := 1112) zd_14_74_107 zf_Md_118 zT_1079 rfl (zz_ltn hn rfl) (zz_G.eq G_S 1079 47 1112 rfl rfl) (by decide) 1112 rfl ?_
    refine zz_iload_n (x := p0) rfl zd_14_74_110 ?_
    have g28 := zz_G.r G_S0 1112 p0.toNat 0 1 rfl rfl
    refine zz_iald (z := S0 1112 p0.toNat) zd_14_74_111 zT_1112 rfl (zz_ltn hn rfl) (by decide) (by omega) (zz_rc F_S (zz_nc1 rfl) rfl (fun h => h) rfl) ?_
    refine zz_isub zd_14_74_112 ?_
    refine zz_istore [some (.ref 1079), some (zi p0), some (zi p1), some (zi p2), some (zi p3), some (zi (S0 1107 p0.toNat)), some (zi (S0 1104 ((p0 + 1).toNat))), some (zi x7), some (zi x8), some (zi x9), some (zi (x9 % (S0 1104 ((S0 1107 p0.toNat).toNat)))), some (zi (v27 - (S0 1112 p0.toNat)))] zd_14_74_113 (by decide) rfl ?_
    refine zz_aload_n (x := 1079) rfl zd_14_74_115 ?_
    refine zz_getr (kd := 0) (z := 1111) zd_14_74_116 zf_Md_115 zT_1079 rfl (zz_ltn hn rfl) (zz_G.eq G_S 1079 46 1111 rfl rfl) (by decide) 1111 rfl ?_
    refine zz_iload_n (x := p0) rfl zd_14_74_119 ?_
    refine zz_iald (z := S0 1111 p0.toNat) zd_14_74_120 zT_1111 rfl (zz_ltn hn rfl) (by decide) (by omega) (zz_rc F_S (zz_nc1 rfl) rfl (fun h => h) rfl) ?_
    refine zz_iload_n (x := p2) rfl zd_14_74_121 ?_
    refine zz_imul zd_14_74_122 ?_
    have m29 := zz_mulb (a := S0 1111 p0.toNat) (b := p2) 3 62 186 (by omega) (by omega) (by decide)
    refine zz_iload (x := x9) rfl zd_14_74_123 ?_
    refine zz_aload_n (x := 1079) rfl zd_14_74_125 ?_
    refine zz_getr (kd := 0) (z := 1104) zd_14_74_126 zf_Md_94 zT_1079 rfl (zz_ltn hn rfl) (zz_G.eq G_S 1079 39 1104 rfl rfl) (by decide) 1104 rfl ?_
    refine zz_iload (x := S0 1107 p0.toNat) rfl zd_14_74_129 ?_
    refine zz_iald (z := S0 1104 ((S0 1107 p0.toNat).toNat)) zd_14_74_131 zT_1104 rfl (zz_ltn hn rfl) (by decide) (by omega) (zz_rc F_S (zz_nc1 rfl) rfl (fun h => h) rfl) ?_
    refine zz_idiv (by omega) (by omega) zd_14_74_132 (fun v30 hv30 av30 bv30 cv30 => ?_)
    have m31 := zz_divb (by omega) (by omega) av30
    obtain rfl : v30 = x9 / (S0 1104 ((S0 1107 p0.toNat).toNat)) := by omega
    refine zz_aload_n (x := 1079) rfl zd_14_74_133 ?_
    refine zz_getr (kd := 0) (z := 1110) zd_14_74_134 zf_Md_112 zT_1079 rfl (zz_ltn hn rfl) (zz_G.eq G_S 1079 45 1110 rfl rfl) (by decide) 1110 rfl ?_
    refine zz_iload_n (x := p0) rfl zd_14_74_137 ?_
    refine zz_iald (z := S0 1110 p0.toNat) zd_14_74_138 zT_1110 rfl (zz_ltn hn rfl) (by decide) (by omega) (zz_rc F_S (zz_nc1 rfl) rfl (fun h => h) rfl) ?_
    refine zz_irem (by omega) (by omega) zd_14_74_139 (fun v32 hv32 av32 bv32 cv32 => ?_)
    obtain rfl : v32 = (x9 / (S0 1104 ((S0 1107 p0.toNat).toNat))) % (S0 1110 p0.toNat) := by omega
    refine zz_iadd zd_14_74_140 ?_
    refine zz_nme (fun v33 ev33 => ?_)
    refine zz_aload_n (x := 1079) rfl zd_14_74_141 ?_
    refine zz_getr (kd := 0) (z := 1112) zd_14_74_142 zf_Md_118 zT_1079 rfl (zz_ltn hn rfl) (zz_G.eq G_S 1079 47 1112 rfl rfl) (by decide) 1112 rfl ?_
    refine zz_iload_n (x := p0) rfl zd_14_74_145 ?_
    refine zz_iald (z := S0 1112 p0.toNat) zd_14_74_146 zT_1112 rfl (zz_ltn hn rfl) (by decide) (by omega) (zz_rc F_S (zz_nc1 rfl) rfl (fun h => h) rfl) ?_
    refine zz_isub zd_14_74_147 ?_
    refine zz_istore [some (.ref 1079), some (zi p0), some (zi p1), some (zi p2), some (zi p3), some (zi (S0 1107 p0.toNat)), some (zi (S0 1104 ((p0 + 1).toNat))), some (zi x7), some (zi x8), some (zi x9), some (zi (x9 % (S0 1104 ((S0 1107 p0.toNat).toNat)))), some (zi (v27 - (S0 1112 p0.toNat))), some (zi (v33 - (S0 1112 p0.toNat)))] zd_14_74_148 (by decide) rfl ?_
    refine zz_aload_n (x := 1079) rfl zd_14_74_150 ?_
    refine zz_iload (x := S0 1107 p0.toNat) rfl zd_14_74_151 ?_
    refine zz_iload (x := v27 - (S0 1112 p0.toNat)) rfl zd_14_74_153 ?_
    have hd9 := (zz_dm (k := x9) (a := S0 1109 p0.toNat * S0 1110 p0.toNat) (b := S0 1104 (S0 1107 p0.toNat).toNat) (by omega) (by omega)).2
    refine zz_iload (x := v33 - (S0 1112 p0.toNat)) rfl zd_14_74_155 ?_
    have g34 := zz_G.r G_S0 1102 ((S0 1107 p0.toNat).toNat) 0 63 rfl rfl
    have e35 : S 1102 (S0 1107 p0.toNat).toNat = S0 1102 (S0 1107 p0.toNat).toNat := (zz_rc F_S (zz_nc1 rfl) rfl (fun h => h) rfl)
    have g36 := zz_G.r G_S0 1103 ((S0 1107 p0.toNat).toNat) 0 63 rfl rfl
    have e37 : S 1103 (S0 1107 p0.toNat).toNat = S0 1103 (S0 1107 p0.toNat).toNat := (zz_rc F_S (zz_nc1 rfl) rfl (fun h => h) rfl)
    refine zz_callVI [zi (S0 1107 p0.toNat), zi (v27 - (S0 1112 p0.toNat)), zi (v33 - (S0 1112 p0.toNat))] zd_14_74_157 zk_Md_434 zT_1079 (zz_ltn hn rfl) rfl rfl ⟨Nat.le_of_ble_eq_true rfl, Nat.le_of_ble_eq_true rfl⟩ ⟨rfl, rfl⟩ (Nat.zero_le _) (Nat.zero_le _) (zc_isThere_14_72 (S0 1107 p0.toNat) (v27 - (S0 1112 p0.toNat)) (v33 - (S0 1112 p0.toNat)) S n hn G_S (by omega) (by omega) (by omega)) (fun v39 S38 hP => ?_)
    obtain ⟨rfl, o40, o41⟩ := hP
    rcases (by omega : v39 = 0 ∨ v39 = 1) with rfl | rfl
    · refine zz_if_eq (by omega) zd_14_74_160 (fun c42 => ?_) (fun c42 => ?_)
      · refine zz_iinc [some (.ref 1079), some (zi p0), some (zi p1), some (zi p2), some (zi p3), some (zi (S0 1107 p0.toNat)), some (zi (S0 1104 ((p0 + 1).toNat))), some (zi x7), some (zi x8), some (zi (x9 + 1)), some (zi (x9 % (S0 1104 ((S0 1107 p0.toNat).toNat)))), some (zi (v27 - (S0 1112 p0.toNat))), some (zi (v33 - (S0 1112 p0.toNat)))] zd_14_74_206 rfl rfl ?_
        refine zz_goto zd_14_74_209 ?_
        refine zz_less (ls1 := [some (.ref 1079), some (zi p0), some (zi p1), some (zi p2), some (zi p3), some (zi (S0 1107 p0.toNat)), some (zi (S0 1104 ((p0 + 1).toNat))), some (zi x7), some (zi x8), some (zi (x9 + 1))]) ⟨rfl, ⟨rfl, ⟨rfl, ⟨rfl, ⟨rfl, ⟨rfl, ⟨rfl, ⟨rfl, ⟨rfl, ⟨rfl, trivial⟩⟩⟩⟩⟩⟩⟩⟩⟩⟩ ?_
        exact k61 x7 x8 (x9 + 1) S G_S F_S (by omega) (by omega) (by omega) i61_3 (by omega)
      · exfalso; omega
    · refine zz_if_eq (by omega) zd_14_74_160 (fun c43 => ?_) (fun c43 => ?_)
      · exfalso; omega
      · refine zz_less (ls1 := [some (.ref 1079), some (zi p0), some (zi p1), some (zi p2), some (zi p3), some (zi (S0 1107 p0.toNat)), some (zi (S0 1104 ((p0 + 1).toNat))), some (zi x7), some (zi x8), some (zi x9), some (zi (x9 % (S0 1104 ((S0 1107 p0.toNat).toNat)))), some (zi (v27 - (S0 1112 p0.toNat))), some (zi (v33 - (S0 1112 p0.toNat)))]) ⟨rfl, ⟨rfl, ⟨rfl, ⟨rfl, ⟨rfl, ⟨rfl, ⟨rfl, ⟨rfl, ⟨rfl, ⟨rfl, ⟨rfl, ⟨rfl, ⟨rfl, trivial⟩⟩⟩⟩⟩⟩⟩⟩⟩⟩⟩⟩⟩ ?_
        exact k163 x7 x8 x9 (x9 % (S0 1104 ((S0 1107 p0.toNat).toNat))) (v27 - (S0 1112 p0.toNat)) (v33 - (S0 1112 p0.toNat)) S G_S F_S (by omega) (by omega) (by omega) (by omega) (by omega) (by omega) i61_3 (by omega) i61_3 (by omega) (by omega) (by omega) (by omega) (by omega)
theorem zb_convolved_14_74_163 {g : mm_G} {l : Launch} (p0 : Int) (p1 : Int) (p2 : Int) (p3 : Int) (S0 : zz_S) (n : Nat) (hn : zz_end ≤ n) (G_S0 : zz_G S0) (hp0 : 0 ≤ p0 ∧ p0 ≤ 9) (hp1 : 0 ≤ p1 ∧ p1 ≤ 62) (hp2 : 0 ≤ p2 ∧ p2 ≤ 62) (hp3 : 0 ≤ p3 ∧ p3 ≤ 62) (R_S0 : zz_Hr S0) (hl : p0 + 1 < S0 1079 36) (hk : S0 1106 p0.toNat = 0) (ho : p3 < S0 1104 (p0 + 1).toNat) (x7 : Int) (x8 : Int) (x9 : Int) (x10 : Int) (x11 : Int) (x12 : Int) (S : zz_S) (G_S : zz_G S) (F_S : zz_fr [] [] (fun _ _ => False) S0 S) (i163_0 : (-2147483648) ≤ x7 ∧ x7 ≤ 2147483647) (i163_1 : 0 ≤ x8 ∧ x8 ≤ 567) (i163_2 : 0 ≤ x9 ∧ x9 ≤ 567) (i163_3 : 0 ≤ x10 ∧ x10 ≤ 62) (i163_4 : 0 ≤ x11 ∧ x11 ≤ 62) (i163_5 : 0 ≤ x12 ∧ x12 ≤ 62) (i163_6 : x8 = (S0 1109 p0.toNat * S0 1110 p0.toNat) * S0 1104 (S0 1107 p0.toNat).toNat) (i163_7 : x9 < x8) (i163_8 : x8 = (S0 1109 p0.toNat * S0 1110 p0.toNat) * S0 1104 (S0 1107 p0.toNat).toNat) (i163_9 : x9 < x8) (i163_10 : x10 < S0 1104 (S0 1107 p0.toNat).toNat) (i163_11 : x11 < S0 1102 (S0 1107 p0.toNat).toNat) (i163_12 : x12 < S0 1103 (S0 1107 p0.toNat).toNat) (R : Nat) (hR : (34359738368 + (x8 - x9).toNat) * 1099511627776 + (17179869184 + 0) = R) (k61 : ∀ (x7 : Int) (x8 : Int) (x9 : Int) (S : zz_S), zz_G S → zz_fr [] [] (fun _ _ => False) S0 S → ((-2147483648) ≤ x7 ∧ x7 ≤ 2147483647) → (0 ≤ x8 ∧ x8 ≤ 567) → (0 ≤ x9 ∧ x9 ≤ 567) → (x8 = (S0 1109 p0.toNat * S0 1110 p0.toNat) * S0 1104 (S0 1107 p0.toNat).toNat) → (34359738368 + (x8 - x9).toNat) * 1099511627776 + 1099511627775 < R → zz_E g l zy_convolved_14_74 zr_convolved_14_74 (zz_QI n (zp_convolved_14_74 p0 p1 p2 p3 S0)) S n 61 [some (.ref 1079), some (zi p0), some (zi p1), some (zi p2), some (zi p3), some (zi (S0 1107 p0.toNat)), some (zi (S0 1104 ((p0 + 1).toNat))), some (zi x7), some (zi x8), some (zi x9)] [] 0 0) : zz_E g l zy_convolved_14_74 zr_convolved_14_74 (zz_QI n (zp_convolved_14_74 p0 p1 p2 p3 S0)) S n 163 [some (.ref 1079), some (zi p0), some (zi p1), some (zi p2), some (zi p3), some (zi (S0 1107 p0.toNat)), some (zi (S0 1104 ((p0 + 1).toNat))), some (zi x7), some (zi x8), some (zi x9), some (zi x10), some (zi x11), some (zi x12)] [] 0 0 := by
  have hb9 := R_S0.2 p0.toNat (by omega)
  unfold zz_la at hb9
  have hone := hb9.1
  have hk9 := hb9.2.1 (by omega)
  have h5 : 1 ≤ S0 1110 p0.toNat := hk9.2.1
  have go9 := zz_G.r G_S0 1107 p0.toNat 0 10 rfl rfl
  have ht9 := R_S0.1 (S0 1107 p0.toNat).toNat (by omega)
  unfold zz_tn at ht9
  have h4 : 1 ≤ S0 1104 (S0 1107 p0.toNat).toNat := ht9.2.2.1
  clear hb9 hk9 ht9
  have R_S : zz_Hr S := (zz_fr.eq F_S) ▸ R_S0
  refine zz_iload (x := x7) rfl zd_14_74_163 ?_
  refine zz_aload_n (x := 1079) rfl zd_14_74_165 ?_
  refine zz_getr (kd := 0) (z := 1080) zd_14_74_166 zf_Md_13 zT_1079 rfl (zz_ltn hn rfl) (zz_G.eq G_S 1079 2 1080 rfl rfl) (by decide) 1080 rfl ?_
  refine zz_aload_n (x := 1079) rfl zd_14_74_169 ?_
  refine zz_getr (kd := 0) (z := 1114) zd_14_74_170 zf_Md_124 zT_1079 rfl (zz_ltn hn rfl) (zz_G.eq G_S 1079 49 1114 rfl rfl) (by decide) 1114 rfl ?_
  refine zz_iload_n (x := p0) rfl zd_14_74_173 ?_
  have g44 := zz_G.r G_S0 1114 p0.toNat 0 4096 rfl rfl
  refine zz_iald (z := S0 1114 p0.toNat) zd_14_74_174 zT_1114 rfl (zz_ltn hn rfl) (by decide) (by omega) (zz_rc F_S (zz_nc1 rfl) rfl (fun h => h) rfl) ?_
  refine zz_iconst zd_14_74_175 ?_
  refine zz_iload (x := S0 1104 ((p0 + 1).toNat)) rfl zd_14_74_176 ?_
  refine zz_imul zd_14_74_178 ?_
  refine zz_nrm (fun v45 hv45 ev45 => ?_)
  refine zz_iadd zd_14_74_179 ?_
  refine zz_nrm (fun v46 hv46 ev46 => ?_)
  refine zz_iload (x := x9) rfl zd_14_74_180 ?_
  refine zz_iload (x := S0 1104 ((p0 + 1).toNat)) rfl zd_14_74_182 ?_
  refine zz_imul zd_14_74_184 ?_
  refine zz_nrm (fun v47 hv47 ev47 => ?_)
  refine zz_iadd zd_14_74_185 ?_
  refine zz_nrm (fun v48 hv48 ev48 => ?_)
  refine zz_iload (x := p3) rfl zd_14_74_186 ?_
  have hb9 := R_S0.2 p0.toNat (by omega)
  unfold zz_la at hb9
  have hk9 := hb9.2.1 (by omega)
  rw [show p0.toNat + 1 = (p0 + 1).toNat by omega] at hk9
  have gr9 := zz_G.r G_S0 1109 p0.toNat 0 3 rfl rfl
  have hm9 : 0 ≤ (S0 1109 p0.toNat * S0 1110 p0.toNat) * S0 1104 (S0 1107 p0.toNat).toNat := Int.mul_nonneg (Int.mul_nonneg (by omega) (by omega)) (by omega)
  have hv9 := (zz_cv (P := S0 1114 p0.toNat) (C := S0 1104 (p0 + 1).toNat) (m := (S0 1109 p0.toNat * S0 1110 p0.toNat) * S0 1104 (S0 1107 p0.toNat).toNat) (o := p3) (k := x9) hk9.2.2 (by omega) hm9).2 (by omega)
  clear hb9 hk9 hm9
  refine zz_iadd zd_14_74_188 ?_
  refine zz_nrm (fun v49 hv49 ev49 => ?_)
  have g50 := zz_G.r G_S0 1080 v49.toNat (-2147483648) 2147483647 rfl rfl
  refine zz_iald (z := S0 1080 v49.toNat) zd_14_74_189 zT_1080 rfl (zz_ltn hn rfl) (by decide) (by omega) (zz_rc F_S (zz_nc1 rfl) rfl (fun h => h) rfl) ?_
  clear hv9
  refine zz_aload_n (x := 1079) rfl zd_14_74_190 ?_
  refine zz_iload (x := S0 1107 p0.toNat) rfl zd_14_74_191 ?_
  refine zz_iload (x := x11) rfl zd_14_74_193 ?_
  refine zz_iload (x := x12) rfl zd_14_74_195 ?_
  refine zz_iload (x := x10) rfl zd_14_74_197 ?_
  have g51 := zz_G.r G_S0 1102 ((S0 1107 p0.toNat).toNat) 0 63 rfl rfl
  have e52 : S 1102 (S0 1107 p0.toNat).toNat = S0 1102 (S0 1107 p0.toNat).toNat := (zz_rc F_S (zz_nc1 rfl) rfl (fun h => h) rfl)
  have g53 := zz_G.r G_S0 1103 ((S0 1107 p0.toNat).toNat) 0 63 rfl rfl
  have e54 : S 1103 (S0 1107 p0.toNat).toNat = S0 1103 (S0 1107 p0.toNat).toNat := (zz_rc F_S (zz_nc1 rfl) rfl (fun h => h) rfl)
  have g55 := zz_G.r G_S0 1104 ((S0 1107 p0.toNat).toNat) 0 63 rfl rfl
  have e56 : S 1104 (S0 1107 p0.toNat).toNat = S0 1104 (S0 1107 p0.toNat).toNat := (zz_rc F_S (zz_nc1 rfl) rfl (fun h => h) rfl)
  refine zz_callVI [zi (S0 1107 p0.toNat), zi x11, zi x12, zi x10] zd_14_74_199 zk_Md_438 zT_1079 (zz_ltn hn rfl) rfl rfl ⟨Nat.le_of_ble_eq_true rfl, Nat.le_of_ble_eq_true rfl⟩ ⟨rfl, rfl⟩ (Nat.zero_le _) (Nat.zero_le _) (zc_cellAt_14_73 (S0 1107 p0.toNat) x11 x12 x10 S n hn G_S (by omega) (by omega) (by omega) (by omega) (R_S.1 (S0 1107 p0.toNat).toNat (by rw [show S 1079 36 = S0 1079 36 from zz_rc F_S rfl rfl (fun h => h) rfl]; omega)) (by omega) (by omega) (by omega)) (fun v58 S57 hP => ?_)
  obtain ⟨rfl, o59⟩ := hP
  refine zz_imul zd_14_74_202 ?_
  refine zz_nrm (fun v60 hv60 ev60 => ?_)
  refine zz_iadd zd_14_74_203 ?_
  refine zz_nrm (fun v61 hv61 ev61 => ?_)
  refine zz_istore [some (.ref 1079), some (zi p0), some (zi p1), some (zi p2), some (zi p3), some (zi (S0 1107 p0.toNat)), some (zi (S0 1104 ((p0 + 1).toNat))), some (zi v61), some (zi x8), some (zi x9), some (zi x10), some (zi x11), some (zi x12)] zd_14_74_204 (by decide) rfl ?_
  refine zz_iinc [some (.ref 1079), some (zi p0), some (zi p1), some (zi p2), some (zi p3), some (zi (S0 1107 p0.toNat)), some (zi (S0 1104 ((p0 + 1).toNat))), some (zi v61), some (zi x8), some (zi (x9 + 1)), some (zi x10), some (zi x11), some (zi x12)] zd_14_74_206 rfl rfl ?_
  refine zz_goto zd_14_74_209 ?_
  refine zz_less (ls1 := [some (.ref 1079), some (zi p0), some (zi p1), some (zi p2), some (zi p3), some (zi (S0 1107 p0.toNat)), some (zi (S0 1104 ((p0 + 1).toNat))), some (zi v61), some (zi x8), some (zi (x9 + 1))]) ⟨rfl, ⟨rfl, ⟨rfl, ⟨rfl, ⟨rfl, ⟨rfl, ⟨rfl, ⟨rfl, ⟨rfl, ⟨rfl, trivial⟩⟩⟩⟩⟩⟩⟩⟩⟩⟩ ?_
  exact k61 v61 x8 (x9 + 1) S G_S F_S (by omega) (by omega) (by omega) i163_6 (by omega)
theorem zi_convolved_14_74 {g : mm_G} {l : Launch} (p0 : Int) (p1 : Int) (p2 : Int) (p3 : Int) (S0 : zz_S) (n : Nat) (hn : zz_end ≤ n) (G_S0 : zz_G S0) (hp0 : 0 ≤ p0 ∧ p0 ≤ 9) (hp1 : 0 ≤ p1 ∧ p1 ≤ 62) (hp2 : 0 ≤ p2 ∧ p2 ≤ 62) (hp3 : 0 ≤ p3 ∧ p3 ≤ 62) (R_S0 : zz_Hr S0) (hl : p0 + 1 < S0 1079 36) (hk : S0 1106 p0.toNat = 0) (ho : p3 < S0 1104 (p0 + 1).toNat) : ∀ N : Nat, (∀ (x7 : Int) (x8 : Int) (x9 : Int) (S : zz_S), zz_G S → zz_fr [] [] (fun _ _ => False) S0 S → ((-2147483648) ≤ x7 ∧ x7 ≤ 2147483647) → (0 ≤ x8 ∧ x8 ≤ 567) → (0 ≤ x9 ∧ x9 ≤ 567) → (x8 = (S0 1109 p0.toNat * S0 1110 p0.toNat) * S0 1104 (S0 1107 p0.toNat).toNat) → (34359738368 + (x8 - x9).toNat) * 1099511627776 + 1099511627775 < N → zz_E g l zy_convolved_14_74 zr_convolved_14_74 (zz_QI n (zp_convolved_14_74 p0 p1 p2 p3 S0)) S n 61 [some (.ref 1079), some (zi p0), some (zi p1), some (zi p2), some (zi p3), some (zi (S0 1107 p0.toNat)), some (zi (S0 1104 ((p0 + 1).toNat))), some (zi x7), some (zi x8), some (zi x9)] [] 0 0) ∧ (∀ (x7 : Int) (x8 : Int) (x9 : Int) (x10 : Int) (x11 : Int) (x12 : Int) (S : zz_S), zz_G S → zz_fr [] [] (fun _ _ => False) S0 S → ((-2147483648) ≤ x7 ∧ x7 ≤ 2147483647) → (0 ≤ x8 ∧ x8 ≤ 567) → (0 ≤ x9 ∧ x9 ≤ 567) → (0 ≤ x10 ∧ x10 ≤ 62) → (0 ≤ x11 ∧ x11 ≤ 62) → (0 ≤ x12 ∧ x12 ≤ 62) → (x8 = (S0 1109 p0.toNat * S0 1110 p0.toNat) * S0 1104 (S0 1107 p0.toNat).toNat) → (x9 < x8) → (x8 = (S0 1109 p0.toNat * S0 1110 p0.toNat) * S0 1104 (S0 1107 p0.toNat).toNat) → (x9 < x8) → (x10 < S0 1104 (S0 1107 p0.toNat).toNat) → (x11 < S0 1102 (S0 1107 p0.toNat).toNat) → (x12 < S0 1103 (S0 1107 p0.toNat).toNat) → (34359738368 + (x8 - x9).toNat) * 1099511627776 + (17179869184 + 0) < N → zz_E g l zy_convolved_14_74 zr_convolved_14_74 (zz_QI n (zp_convolved_14_74 p0 p1 p2 p3 S0)) S n 163 [some (.ref 1079), some (zi p0), some (zi p1), some (zi p2), some (zi p3), some (zi (S0 1107 p0.toNat)), some (zi (S0 1104 ((p0 + 1).toNat))), some (zi x7), some (zi x8), some (zi x9), some (zi x10), some (zi x11), some (zi x12)] [] 0 0) := by
  intro N
  induction N with
  | zero => exact ⟨fun x7 x8 x9 S _ _ _ _ _ _ h => absurd h (Nat.not_lt_zero _), fun x7 x8 x9 x10 x11 x12 S _ _ _ _ _ _ _ _ _ _ _ _ _ _ _ h => absurd h (Nat.not_lt_zero _)⟩
  | succ N ih =>
    exact ⟨fun x7 x8 x9 S a b j0 j1 j2 j3 hR => zb_convolved_14_74_61 p0 p1 p2 p3 S0 n hn G_S0 hp0 hp1 hp2 hp3 R_S0 hl hk ho x7 x8 x9 S a b j0 j1 j2 j3 _ rfl (fun x7 x8 x9 S a b j0 j1 j2 j3 h => ih.1 x7 x8 x9 S a b j0 j1 j2 j3 (Nat.lt_of_lt_of_le h (Nat.le_of_lt_succ hR))) (fun x7 x8 x9 x10 x11 x12 S a b j0 j1 j2 j3 j4 j5 j6 j7 j8 j9 j10 j11 j12 h => ih.2 x7 x8 x9 x10 x11 x12 S a b j0 j1 j2 j3 j4 j5 j6 j7 j8 j9 j10 j11 j12 (Nat.lt_of_lt_of_le h (Nat.le_of_lt_succ hR))),
      fun x7 x8 x9 x10 x11 x12 S a b j0 j1 j2 j3 j4 j5 j6 j7 j8 j9 j10 j11 j12 hR => zb_convolved_14_74_163 p0 p1 p2 p3 S0 n hn G_S0 hp0 hp1 hp2 hp3 R_S0 hl hk ho x7 x8 x9 x10 x11 x12 S a b j0 j1 j2 j3 j4 j5 j6 j7 j8 j9 j10 j11 j12 _ rfl (fun x7 x8 x9 S a b j0 j1 j2 j3 h => ih.1 x7 x8 x9 S a b j0 j1 j2 j3 (Nat.lt_of_lt_of_le h (Nat.le_of_lt_succ hR)))⟩
theorem zc_convolved_14_74 {g : mm_G} {l : Launch} (p0 : Int) (p1 : Int) (p2 : Int) (p3 : Int) (S0 : zz_S) (n : Nat) (hn : zz_end ≤ n) (G_S0 : zz_G S0) (hp0 : 0 ≤ p0 ∧ p0 ≤ 9) (hp1 : 0 ≤ p1 ∧ p1 ≤ 62) (hp2 : 0 ≤ p2 ∧ p2 ≤ 62) (hp3 : 0 ≤ p3 ∧ p3 ≤ 62) (R_S0 : zz_Hr S0) (hl : p0 + 1 < S0 1079 36) (hk : S0 1106 p0.toNat = 0) (ho : p3 < S0 1104 (p0 + 1).toNat) : mm_Met g l zy_convolved_14_74 zr_convolved_14_74 [.ref 1079, zi p0, zi p1, zi p2, zi p3] (zz_M S0 n) n (zz_QI n (zp_convolved_14_74 p0 p1 p2 p3 S0)) := by
  refine zz_enter (by decide) (Nat.le_of_ble_eq_true rfl) (zz_less (ls1 := [some (.ref 1079), some (zi p0), some (zi p1), some (zi p2), some (zi p3)]) ⟨rfl, ⟨rfl, ⟨rfl, ⟨rfl, ⟨rfl, trivial⟩⟩⟩⟩⟩ ?_)
  have F_S0 : zz_fr [] [] (fun _ _ => False) S0 S0 := zz_fr.refl
  have k61 : ∀ (x7 : Int) (x8 : Int) (x9 : Int) (S : zz_S), zz_G S → zz_fr [] [] (fun _ _ => False) S0 S → ((-2147483648) ≤ x7 ∧ x7 ≤ 2147483647) → (0 ≤ x8 ∧ x8 ≤ 567) → (0 ≤ x9 ∧ x9 ≤ 567) → (x8 = (S0 1109 p0.toNat * S0 1110 p0.toNat) * S0 1104 (S0 1107 p0.toNat).toNat) → zz_E g l zy_convolved_14_74 zr_convolved_14_74 (zz_QI n (zp_convolved_14_74 p0 p1 p2 p3 S0)) S n 61 [some (.ref 1079), some (zi p0), some (zi p1), some (zi p2), some (zi p3), some (zi (S0 1107 p0.toNat)), some (zi (S0 1104 ((p0 + 1).toNat))), some (zi x7), some (zi x8), some (zi x9)] [] 0 0 := fun x7 x8 x9 S a b j0 j1 j2 j3 => (zi_convolved_14_74 (g := g) (l := l) p0 p1 p2 p3 S0 n hn G_S0 hp0 hp1 hp2 hp3 R_S0 hl hk ho _).1 x7 x8 x9 S a b j0 j1 j2 j3 (Nat.lt_succ_self _)
  have hb9 := R_S0.2 p0.toNat (by omega)
  unfold zz_la at hb9
  have hone := hb9.1
  have hk9 := hb9.2.1 (by omega)
  have h5 : 1 ≤ S0 1110 p0.toNat := hk9.2.1
  have go9 := zz_G.r G_S0 1107 p0.toNat 0 10 rfl rfl
  have ht9 := R_S0.1 (S0 1107 p0.toNat).toNat (by omega)
  unfold zz_tn at ht9
  have h4 : 1 ≤ S0 1104 (S0 1107 p0.toNat).toNat := ht9.2.2.1
  clear hb9 hk9 ht9
  have hb9 := R_S0.2 p0.toNat (by omega)
  unfold zz_la at hb9
  have hk9 := hb9.2.1 (by omega)
  rw [show p0.toNat + 1 = (p0 + 1).toNat by omega] at hk9
  have gr9 := zz_G.r G_S0 1109 p0.toNat 0 3 rfl rfl
  have hm9 : 0 ≤ (S0 1109 p0.toNat * S0 1110 p0.toNat) * S0 1104 (S0 1107 p0.toNat).toNat := Int.mul_nonneg (Int.mul_nonneg (by omega) (by omega)) (by omega)
  have hv9 := (zz_cv (P := S0 1114 p0.toNat) (C := S0 1104 (p0 + 1).toNat) (m := (S0 1109 p0.toNat * S0 1110 p0.toNat) * S0 1104 (S0 1107 p0.toNat).toNat) (o := p3) (k := 0) hk9.2.2 (by omega) hm9).1
  clear hb9 hk9 hm9
  refine zz_aload_n (x := 1079) rfl zd_14_74_0 ?_
  refine zz_getr (kd := 0) (z := 1107) zd_14_74_1 zf_Md_103 zT_1079 rfl (zz_ltn hn rfl) (zz_G.eq G_S0 1079 42 1107 rfl rfl) (by decide) 1107 rfl ?_
  refine zz_iload_n (x := p0) rfl zd_14_74_4 ?_
  have g1 := zz_G.r G_S0 1107 p0.toNat 0 10 rfl rfl
  refine zz_iald (z := S0 1107 p0.toNat) zd_14_74_5 zT_1107 rfl (zz_ltn hn rfl) (by decide) (by omega) rfl ?_
  refine zz_istore [some (.ref 1079), some (zi p0), some (zi p1), some (zi p2), some (zi p3), some (zi (S0 1107 p0.toNat))] zd_14_74_6 (by decide) rfl ?_
  refine zz_aload_n (x := 1079) rfl zd_14_74_8 ?_
  refine zz_getr (kd := 0) (z := 1104) zd_14_74_9 zf_Md_94 zT_1079 rfl (zz_ltn hn rfl) (zz_G.eq G_S0 1079 39 1104 rfl rfl) (by decide) 1104 rfl ?_
  refine zz_iload_n (x := p0) rfl zd_14_74_12 ?_
  refine zz_iconst zd_14_74_13 ?_
  refine zz_iadd zd_14_74_14 ?_
  have g2 := zz_G.r G_S0 1104 ((p0 + 1).toNat) 0 63 rfl rfl
  refine zz_iald (z := S0 1104 ((p0 + 1).toNat)) zd_14_74_15 zT_1104 rfl (zz_ltn hn rfl) (by decide) (by omega) rfl ?_
  refine zz_istore [some (.ref 1079), some (zi p0), some (zi p1), some (zi p2), some (zi p3), some (zi (S0 1107 p0.toNat)), some (zi (S0 1104 ((p0 + 1).toNat)))] zd_14_74_16 (by decide) rfl ?_
  refine zz_aload_n (x := 1079) rfl zd_14_74_18 ?_
  refine zz_aload_n (x := 1079) rfl zd_14_74_19 ?_
  refine zz_getr (kd := 0) (z := 1114) zd_14_74_20 zf_Md_124 zT_1079 rfl (zz_ltn hn rfl) (zz_G.eq G_S0 1079 49 1114 rfl rfl) (by decide) 1114 rfl ?_
  refine zz_iload_n (x := p0) rfl zd_14_74_23 ?_
  have g3 := zz_G.r G_S0 1114 p0.toNat 0 4096 rfl rfl
  refine zz_iald (z := S0 1114 p0.toNat) zd_14_74_24 zT_1114 rfl (zz_ltn hn rfl) (by decide) (by omega) rfl ?_
  refine zz_iconst zd_14_74_25 ?_
  refine zz_iload (x := p3) rfl zd_14_74_26 ?_
  refine zz_imul zd_14_74_28 ?_
  refine zz_iadd zd_14_74_29 ?_
  refine zz_callVI [zi ((S0 1114 p0.toNat) + (4 * p3))] zd_14_74_30 zk_Md_258 zT_1079 (zz_ltn hn rfl) rfl rfl ⟨Nat.le_of_ble_eq_true rfl, Nat.le_of_ble_eq_true rfl⟩ ⟨rfl, rfl⟩ (Nat.zero_le _) (Nat.zero_le _) (zc_intAt_14_27 ((S0 1114 p0.toNat) + (4 * p3)) S0 n hn G_S0 (by omega)) (fun v5 S4 hP => ?_)
  obtain ⟨rfl, o6⟩ := hP
  refine zz_istore [some (.ref 1079), some (zi p0), some (zi p1), some (zi p2), some (zi p3), some (zi (S0 1107 p0.toNat)), some (zi (S0 1104 ((p0 + 1).toNat))), some (zi v5)] zd_14_74_33 (by decide) rfl ?_
  refine zz_aload_n (x := 1079) rfl zd_14_74_35 ?_
  refine zz_getr (kd := 0) (z := 1109) zd_14_74_36 zf_Md_109 zT_1079 rfl (zz_ltn hn rfl) (zz_G.eq G_S0 1079 44 1109 rfl rfl) (by decide) 1109 rfl ?_
  refine zz_iload_n (x := p0) rfl zd_14_74_39 ?_
  have g7 := zz_G.r G_S0 1109 p0.toNat 0 3 rfl rfl
  refine zz_iald (z := S0 1109 p0.toNat) zd_14_74_40 zT_1109 rfl (zz_ltn hn rfl) (by decide) (by omega) rfl ?_
  refine zz_aload_n (x := 1079) rfl zd_14_74_41 ?_
  refine zz_getr (kd := 0) (z := 1110) zd_14_74_42 zf_Md_112 zT_1079 rfl (zz_ltn hn rfl) (zz_G.eq G_S0 1079 45 1110 rfl rfl) (by decide) 1110 rfl ?_
  refine zz_iload_n (x := p0) rfl zd_14_74_45 ?_
  have g8 := zz_G.r G_S0 1110 p0.toNat 0 3 rfl rfl
  refine zz_iald (z := S0 1110 p0.toNat) zd_14_74_46 zT_1110 rfl (zz_ltn hn rfl) (by decide) (by omega) rfl ?_
  refine zz_imul zd_14_74_47 ?_
  have m9 := zz_mulb (a := S0 1109 p0.toNat) (b := S0 1110 p0.toNat) 3 3 9 (by omega) (by omega) (by decide)
  refine zz_aload_n (x := 1079) rfl zd_14_74_48 ?_
  refine zz_getr (kd := 0) (z := 1104) zd_14_74_49 zf_Md_94 zT_1079 rfl (zz_ltn hn rfl) (zz_G.eq G_S0 1079 39 1104 rfl rfl) (by decide) 1104 rfl ?_
  refine zz_iload (x := S0 1107 p0.toNat) rfl zd_14_74_52 ?_
  have g10 := zz_G.r G_S0 1104 ((S0 1107 p0.toNat).toNat) 0 63 rfl rfl
  refine zz_iald (z := S0 1104 ((S0 1107 p0.toNat).toNat)) zd_14_74_54 zT_1104 rfl (zz_ltn hn rfl) (by decide) (by omega) rfl ?_
  refine zz_imul zd_14_74_55 ?_
  have m11 := zz_mulb (a := (S0 1109 p0.toNat) * (S0 1110 p0.toNat)) (b := S0 1104 ((S0 1107 p0.toNat).toNat)) 9 63 567 (by omega) (by omega) (by decide)
  refine zz_nme (fun v12 ev12 => ?_)
  refine zz_istore [some (.ref 1079), some (zi p0), some (zi p1), some (zi p2), some (zi p3), some (zi (S0 1107 p0.toNat)), some (zi (S0 1104 ((p0 + 1).toNat))), some (zi v5), some (zi v12)] zd_14_74_56 (by decide) rfl ?_
  refine zz_iconst zd_14_74_58 ?_
  refine zz_istore [some (.ref 1079), some (zi p0), some (zi p1), some (zi p2), some (zi p3), some (zi (S0 1107 p0.toNat)), some (zi (S0 1104 ((p0 + 1).toNat))), some (zi v5), some (zi v12), some (zi 0)] zd_14_74_59 (by decide) rfl ?_
  refine zz_less (ls1 := [some (.ref 1079), some (zi p0), some (zi p1), some (zi p2), some (zi p3), some (zi (S0 1107 p0.toNat)), some (zi (S0 1104 ((p0 + 1).toNat))), some (zi v5), some (zi v12), some (zi 0)]) ⟨rfl, ⟨rfl, ⟨rfl, ⟨rfl, ⟨rfl, ⟨rfl, ⟨rfl, ⟨rfl, ⟨rfl, ⟨rfl, trivial⟩⟩⟩⟩⟩⟩⟩⟩⟩⟩ ?_
  exact k61 v5 v12 0 S0 G_S0 F_S0 (by omega) (by omega) (by omega) (by omega)
abbrev zy_pooled_14_75 : mm_Y := (⟨"TensorForgeModel", "pooled", "(IIII)I"⟩, prog_14_method_75_code, 8, (some .int))
theorem zyw_pooled_14_75 : mm_Yw zy_pooled_14_75 4 := ⟨mm_tb_1 2132 (by decide +kernel) rfl, mm_tb_1 12 (by decide +kernel) rfl, ⟨by decide, by decide⟩, by decide +kernel⟩
theorem zg_14_75_0 : (decode zy_pooled_14_75.2.1 0 = .ok ((.bipush (-128)), 2)) ∧ (decode zy_pooled_14_75.2.1 2 = .ok ((.istore 5), 2)) ∧ (decode zy_pooled_14_75.2.1 4 = .ok ((.iconst 0), 1)) ∧ (decode zy_pooled_14_75.2.1 5 = .ok ((.istore 6), 2)) ∧ (decode zy_pooled_14_75.2.1 7 = .ok ((.iload 6), 2)) ∧ (decode zy_pooled_14_75.2.1 9 = .ok ((.aload_n 0), 1)) ∧ (decode zy_pooled_14_75.2.1 10 = .ok ((.getfield 109), 3)) ∧ (decode zy_pooled_14_75.2.1 13 = .ok ((.iload_n 1), 1)) ∧ (decode zy_pooled_14_75.2.1 14 = .ok ((.iaload), 1)) ∧ (decode zy_pooled_14_75.2.1 15 = .ok ((.aload_n 0), 1)) := by decide +kernel
theorem zd_14_75_0 : zz_D zy_pooled_14_75 0 (.bipush (-128)) 2 2 := ⟨zg_14_75_0.1, rfl⟩
theorem zd_14_75_2 : zz_D zy_pooled_14_75 2 (.istore 5) 2 4 := ⟨zg_14_75_0.2.1, rfl⟩
theorem zd_14_75_4 : zz_D zy_pooled_14_75 4 (.iconst 0) 1 5 := ⟨zg_14_75_0.2.2.1, rfl⟩
theorem zd_14_75_5 : zz_D zy_pooled_14_75 5 (.istore 6) 2 7 := ⟨zg_14_75_0.2.2.2.1, rfl⟩
theorem zd_14_75_7 : zz_D zy_pooled_14_75 7 (.iload 6) 2 9 := ⟨zg_14_75_0.2.2.2.2.1, rfl⟩
theorem zd_14_75_9 : zz_D zy_pooled_14_75 9 (.aload_n 0) 1 10 := ⟨zg_14_75_0.2.2.2.2.2.1, rfl⟩
theorem zd_14_75_10 : zz_D zy_pooled_14_75 10 (.getfield 109) 3 13 := ⟨zg_14_75_0.2.2.2.2.2.2.1, rfl⟩
theorem zd_14_75_13 : zz_D zy_pooled_14_75 13 (.iload_n 1) 1 14 := ⟨zg_14_75_0.2.2.2.2.2.2.2.1, rfl⟩
theorem zd_14_75_14 : zz_D zy_pooled_14_75 14 (.iaload) 1 15 := ⟨zg_14_75_0.2.2.2.2.2.2.2.2.1, rfl⟩
theorem zd_14_75_15 : zz_D zy_pooled_14_75 15 (.aload_n 0) 1 16 := ⟨zg_14_75_0.2.2.2.2.2.2.2.2.2, rfl⟩
theorem zg_14_75_16 : (decode zy_pooled_14_75.2.1 16 = .ok ((.getfield 112), 3)) ∧ (decode zy_pooled_14_75.2.1 19 = .ok ((.iload_n 1), 1)) ∧ (decode zy_pooled_14_75.2.1 20 = .ok ((.iaload), 1)) ∧ (decode zy_pooled_14_75.2.1 21 = .ok ((.imul), 1)) ∧ (decode zy_pooled_14_75.2.1 22 = .ok ((Instr.if_icmp .ge) 75, 3)) ∧ (decode zy_pooled_14_75.2.1 97 = .ok ((.iload 5), 2)) ∧ (decode zy_pooled_14_75.2.1 99 = .ok ((.ireturn), 1)) ∧ (decode zy_pooled_14_75.2.1 25 = .ok ((.aload_n 0), 1)) ∧ (decode zy_pooled_14_75.2.1 26 = .ok ((.aload_n 0), 1)) ∧ (decode zy_pooled_14_75.2.1 27 = .ok ((.getfield 103), 3)) := by decide +kernel
theorem zd_14_75_16 : zz_D zy_pooled_14_75 16 (.getfield 112) 3 19 := ⟨zg_14_75_16.1, rfl⟩
theorem zd_14_75_19 : zz_D zy_pooled_14_75 19 (.iload_n 1) 1 20 := ⟨zg_14_75_16.2.1, rfl⟩
theorem zd_14_75_20 : zz_D zy_pooled_14_75 20 (.iaload) 1 21 := ⟨zg_14_75_16.2.2.1, rfl⟩
theorem zd_14_75_21 : zz_D zy_pooled_14_75 21 (.imul) 1 22 := ⟨zg_14_75_16.2.2.2.1, rfl⟩
theorem zd_14_75_22 : zz_B zy_pooled_14_75 22 (Instr.if_icmp .ge) 97 25 := ⟨75, zg_14_75_16.2.2.2.2.1, rfl, rfl⟩
theorem zd_14_75_97 : zz_D zy_pooled_14_75 97 (.iload 5) 2 99 := ⟨zg_14_75_16.2.2.2.2.2.1, rfl⟩
theorem zd_14_75_99 : zz_D zy_pooled_14_75 99 (.ireturn) 1 100 := ⟨zg_14_75_16.2.2.2.2.2.2.1, rfl⟩
theorem zd_14_75_25 : zz_D zy_pooled_14_75 25 (.aload_n 0) 1 26 := ⟨zg_14_75_16.2.2.2.2.2.2.2.1, rfl⟩
theorem zd_14_75_26 : zz_D zy_pooled_14_75 26 (.aload_n 0) 1 27 := ⟨zg_14_75_16.2.2.2.2.2.2.2.2.1, rfl⟩
theorem zd_14_75_27 : zz_D zy_pooled_14_75 27 (.getfield 103) 3 30 := ⟨zg_14_75_16.2.2.2.2.2.2.2.2.2, rfl⟩
theorem zg_14_75_30 : (decode zy_pooled_14_75.2.1 30 = .ok ((.iload_n 1), 1)) ∧ (decode zy_pooled_14_75.2.1 31 = .ok ((.iaload), 1)) ∧ (decode zy_pooled_14_75.2.1 32 = .ok ((.aload_n 0), 1)) ∧ (decode zy_pooled_14_75.2.1 33 = .ok ((.getfield 115), 3)) ∧ (decode zy_pooled_14_75.2.1 36 = .ok ((.iload_n 1), 1)) ∧ (decode zy_pooled_14_75.2.1 37 = .ok ((.iaload), 1)) ∧ (decode zy_pooled_14_75.2.1 38 = .ok ((.iload_n 2), 1)) ∧ (decode zy_pooled_14_75.2.1 39 = .ok ((.imul), 1)) ∧ (decode zy_pooled_14_75.2.1 40 = .ok ((.iload 6), 2)) ∧ (decode zy_pooled_14_75.2.1 42 = .ok ((.aload_n 0), 1)) := by decide +kernel
theorem zd_14_75_30 : zz_D zy_pooled_14_75 30 (.iload_n 1) 1 31 := ⟨zg_14_75_30.1, rfl⟩
theorem zd_14_75_31 : zz_D zy_pooled_14_75 31 (.iaload) 1 32 := ⟨zg_14_75_30.2.1, rfl⟩
theorem zd_14_75_32 : zz_D zy_pooled_14_75 32 (.aload_n 0) 1 33 := ⟨zg_14_75_30.2.2.1, rfl⟩
theorem zd_14_75_33 : zz_D zy_pooled_14_75 33 (.getfield 115) 3 36 := ⟨zg_14_75_30.2.2.2.1, rfl⟩
theorem zd_14_75_36 : zz_D zy_pooled_14_75 36 (.iload_n 1) 1 37 := ⟨zg_14_75_30.2.2.2.2.1, rfl⟩
theorem zd_14_75_37 : zz_D zy_pooled_14_75 37 (.iaload) 1 38 := ⟨zg_14_75_30.2.2.2.2.2.1, rfl⟩
theorem zd_14_75_38 : zz_D zy_pooled_14_75 38 (.iload_n 2) 1 39 := ⟨zg_14_75_30.2.2.2.2.2.2.1, rfl⟩
theorem zd_14_75_39 : zz_D zy_pooled_14_75 39 (.imul) 1 40 := ⟨zg_14_75_30.2.2.2.2.2.2.2.1, rfl⟩
theorem zd_14_75_40 : zz_D zy_pooled_14_75 40 (.iload 6) 2 42 := ⟨zg_14_75_30.2.2.2.2.2.2.2.2.1, rfl⟩
theorem zd_14_75_42 : zz_D zy_pooled_14_75 42 (.aload_n 0) 1 43 := ⟨zg_14_75_30.2.2.2.2.2.2.2.2.2, rfl⟩
theorem zg_14_75_43 : (decode zy_pooled_14_75.2.1 43 = .ok ((.getfield 112), 3)) ∧ (decode zy_pooled_14_75.2.1 46 = .ok ((.iload_n 1), 1)) ∧ (decode zy_pooled_14_75.2.1 47 = .ok ((.iaload), 1)) ∧ (decode zy_pooled_14_75.2.1 48 = .ok ((.idiv), 1)) ∧ (decode zy_pooled_14_75.2.1 49 = .ok ((.iadd), 1)) ∧ (decode zy_pooled_14_75.2.1 50 = .ok ((.aload_n 0), 1)) ∧ (decode zy_pooled_14_75.2.1 51 = .ok ((.getfield 115), 3)) ∧ (decode zy_pooled_14_75.2.1 54 = .ok ((.iload_n 1), 1)) ∧ (decode zy_pooled_14_75.2.1 55 = .ok ((.iaload), 1)) ∧ (decode zy_pooled_14_75.2.1 56 = .ok ((.iload_n 3), 1)) := by decide +kernel
theorem zd_14_75_43 : zz_D zy_pooled_14_75 43 (.getfield 112) 3 46 := ⟨zg_14_75_43.1, rfl⟩
theorem zd_14_75_46 : zz_D zy_pooled_14_75 46 (.iload_n 1) 1 47 := ⟨zg_14_75_43.2.1, rfl⟩
theorem zd_14_75_47 : zz_D zy_pooled_14_75 47 (.iaload) 1 48 := ⟨zg_14_75_43.2.2.1, rfl⟩
theorem zd_14_75_48 : zz_D zy_pooled_14_75 48 (.idiv) 1 49 := ⟨zg_14_75_43.2.2.2.1, rfl⟩
theorem zd_14_75_49 : zz_D zy_pooled_14_75 49 (.iadd) 1 50 := ⟨zg_14_75_43.2.2.2.2.1, rfl⟩
theorem zd_14_75_50 : zz_D zy_pooled_14_75 50 (.aload_n 0) 1 51 := ⟨zg_14_75_43.2.2.2.2.2.1, rfl⟩
theorem zd_14_75_51 : zz_D zy_pooled_14_75 51 (.getfield 115) 3 54 := ⟨zg_14_75_43.2.2.2.2.2.2.1, rfl⟩
theorem zd_14_75_54 : zz_D zy_pooled_14_75 54 (.iload_n 1) 1 55 := ⟨zg_14_75_43.2.2.2.2.2.2.2.1, rfl⟩
theorem zd_14_75_55 : zz_D zy_pooled_14_75 55 (.iaload) 1 56 := ⟨zg_14_75_43.2.2.2.2.2.2.2.2.1, rfl⟩
theorem zd_14_75_56 : zz_D zy_pooled_14_75 56 (.iload_n 3) 1 57 := ⟨zg_14_75_43.2.2.2.2.2.2.2.2.2, rfl⟩
theorem zg_14_75_57 : (decode zy_pooled_14_75.2.1 57 = .ok ((.imul), 1)) ∧ (decode zy_pooled_14_75.2.1 58 = .ok ((.iload 6), 2)) ∧ (decode zy_pooled_14_75.2.1 60 = .ok ((.aload_n 0), 1)) ∧ (decode zy_pooled_14_75.2.1 61 = .ok ((.getfield 112), 3)) ∧ (decode zy_pooled_14_75.2.1 64 = .ok ((.iload_n 1), 1)) ∧ (decode zy_pooled_14_75.2.1 65 = .ok ((.iaload), 1)) ∧ (decode zy_pooled_14_75.2.1 66 = .ok ((.irem), 1)) ∧ (decode zy_pooled_14_75.2.1 67 = .ok ((.iadd), 1)) ∧ (decode zy_pooled_14_75.2.1 68 = .ok ((.iload 4), 2)) ∧ (decode zy_pooled_14_75.2.1 70 = .ok ((.invokevirtual 438), 3)) := by decide +kernel
theorem zd_14_75_57 : zz_D zy_pooled_14_75 57 (.imul) 1 58 := ⟨zg_14_75_57.1, rfl⟩
theorem zd_14_75_58 : zz_D zy_pooled_14_75 58 (.iload 6) 2 60 := ⟨zg_14_75_57.2.1, rfl⟩
theorem zd_14_75_60 : zz_D zy_pooled_14_75 60 (.aload_n 0) 1 61 := ⟨zg_14_75_57.2.2.1, rfl⟩
theorem zd_14_75_61 : zz_D zy_pooled_14_75 61 (.getfield 112) 3 64 := ⟨zg_14_75_57.2.2.2.1, rfl⟩
theorem zd_14_75_64 : zz_D zy_pooled_14_75 64 (.iload_n 1) 1 65 := ⟨zg_14_75_57.2.2.2.2.1, rfl⟩
theorem zd_14_75_65 : zz_D zy_pooled_14_75 65 (.iaload) 1 66 := ⟨zg_14_75_57.2.2.2.2.2.1, rfl⟩
theorem zd_14_75_66 : zz_D zy_pooled_14_75 66 (.irem) 1 67 := ⟨zg_14_75_57.2.2.2.2.2.2.1, rfl⟩
theorem zd_14_75_67 : zz_D zy_pooled_14_75 67 (.iadd) 1 68 := ⟨zg_14_75_57.2.2.2.2.2.2.2.1, rfl⟩
theorem zd_14_75_68 : zz_D zy_pooled_14_75 68 (.iload 4) 2 70 := ⟨zg_14_75_57.2.2.2.2.2.2.2.2.1, rfl⟩
theorem zd_14_75_70 : zz_D zy_pooled_14_75 70 (.invokevirtual 438) 3 73 := ⟨zg_14_75_57.2.2.2.2.2.2.2.2.2, rfl⟩
theorem zg_14_75_73 : (decode zy_pooled_14_75.2.1 73 = .ok ((.istore 7), 2)) ∧ (decode zy_pooled_14_75.2.1 75 = .ok ((.iload 7), 2)) ∧ (decode zy_pooled_14_75.2.1 77 = .ok ((.iload 5), 2)) ∧ (decode zy_pooled_14_75.2.1 79 = .ok ((Instr.if_icmp .le) 8, 3)) ∧ (decode zy_pooled_14_75.2.1 87 = .ok ((.iload 5), 2)) ∧ (decode zy_pooled_14_75.2.1 89 = .ok ((.istore 5), 2)) ∧ (decode zy_pooled_14_75.2.1 91 = .ok ((.iinc 6 1), 3)) ∧ (decode zy_pooled_14_75.2.1 94 = .ok (Instr.goto (-87), 3)) ∧ (decode zy_pooled_14_75.2.1 82 = .ok ((.iload 7), 2)) ∧ (decode zy_pooled_14_75.2.1 84 = .ok (Instr.goto 5, 3)) := by decide +kernel
theorem zd_14_75_73 : zz_D zy_pooled_14_75 73 (.istore 7) 2 75 := ⟨zg_14_75_73.1, rfl⟩
theorem zd_14_75_75 : zz_D zy_pooled_14_75 75 (.iload 7) 2 77 := ⟨zg_14_75_73.2.1, rfl⟩
theorem zd_14_75_77 : zz_D zy_pooled_14_75 77 (.iload 5) 2 79 := ⟨zg_14_75_73.2.2.1, rfl⟩
theorem zd_14_75_79 : zz_B zy_pooled_14_75 79 (Instr.if_icmp .le) 87 82 := ⟨8, zg_14_75_73.2.2.2.1, rfl, rfl⟩
theorem zd_14_75_87 : zz_D zy_pooled_14_75 87 (.iload 5) 2 89 := ⟨zg_14_75_73.2.2.2.2.1, rfl⟩
theorem zd_14_75_89 : zz_D zy_pooled_14_75 89 (.istore 5) 2 91 := ⟨zg_14_75_73.2.2.2.2.2.1, rfl⟩
theorem zd_14_75_91 : zz_D zy_pooled_14_75 91 (.iinc 6 1) 3 94 := ⟨zg_14_75_73.2.2.2.2.2.2.1, rfl⟩
theorem zd_14_75_94 : zz_B zy_pooled_14_75 94 Instr.goto 7 97 := ⟨(-87), zg_14_75_73.2.2.2.2.2.2.2.1, rfl, rfl⟩
theorem zd_14_75_82 : zz_D zy_pooled_14_75 82 (.iload 7) 2 84 := ⟨zg_14_75_73.2.2.2.2.2.2.2.2.1, rfl⟩
theorem zd_14_75_84 : zz_B zy_pooled_14_75 84 Instr.goto 89 87 := ⟨5, zg_14_75_73.2.2.2.2.2.2.2.2.2, rfl, rfl⟩
-- TensorForgeModel pooled (IIII)I
abbrev zr_pooled_14_75 : Room := { frames := 1, cells := 0, slots := 0, locals := 16 }
def zp_pooled_14_75 (p0 : Int) (p1 : Int) (p2 : Int) (p3 : Int) (S0 : zz_S) : Int → zz_S → Prop := fun r S => S0 = S ∧ ((-2147483648) ≤ r ∧ r ≤ 2147483647)
theorem zb_pooled_14_75_7 {g : mm_G} {l : Launch} (p0 : Int) (p1 : Int) (p2 : Int) (p3 : Int) (S0 : zz_S) (n : Nat) (hn : zz_end ≤ n) (G_S0 : zz_G S0) (hp0 : 0 ≤ p0 ∧ p0 ≤ 9) (hp1 : 0 ≤ p1 ∧ p1 ≤ 62) (hp2 : 0 ≤ p2 ∧ p2 ≤ 62) (hp3 : 0 ≤ p3 ∧ p3 ≤ 62) (R_S0 : zz_Hr S0) (hl : p0 + 1 < S0 1079 36) (hk : S0 1106 p0.toNat = 1) (hy : p1 < S0 1102 (p0 + 1).toNat) (hx : p2 < S0 1103 (p0 + 1).toNat) (ho : p3 < S0 1104 (p0 + 1).toNat) (x5 : Int) (x6 : Int) (S : zz_S) (G_S : zz_G S) (F_S : zz_fr [] [] (fun _ _ => False) S0 S) (i7_0 : (-128) ≤ x5 ∧ x5 ≤ 2147483647) (i7_1 : 0 ≤ x6 ∧ x6 ≤ 9) (R : Nat) (hR : (2147483647 - x6).toNat = R) (k7 : ∀ (x5 : Int) (x6 : Int) (S : zz_S), zz_G S → zz_fr [] [] (fun _ _ => False) S0 S → ((-128) ≤ x5 ∧ x5 ≤ 2147483647) → (0 ≤ x6 ∧ x6 ≤ 9) → (2147483647 - x6).toNat < R → zz_E g l zy_pooled_14_75 zr_pooled_14_75 (zz_QI n (zp_pooled_14_75 p0 p1 p2 p3 S0)) S n 7 [some (.ref 1079), some (zi p0), some (zi p1), some (zi p2), some (zi p3), some (zi x5), some (zi x6)] [] 0 0) : zz_E g l zy_pooled_14_75 zr_pooled_14_75 (zz_QI n (zp_pooled_14_75 p0 p1 p2 p3 S0)) S n 7 [some (.ref 1079), some (zi p0), some (zi p1), some (zi p2), some (zi p3), some (zi x5), some (zi x6)] [] 0 0 := by
  have hb9 := R_S0.2 p0.toNat (by omega)
  unfold zz_la at hb9
  have hone := hb9.1
  have hk9 := hb9.2.2.1 (by omega)
  have h5 : 1 ≤ S0 1110 p0.toNat := hk9.1
  have go9 := zz_G.r G_S0 1107 p0.toNat 0 10 rfl rfl
  have ht9 := R_S0.1 (S0 1107 p0.toNat).toNat (by omega)
  unfold zz_tn at ht9
  have h4 : 1 ≤ S0 1104 (S0 1107 p0.toNat).toNat := ht9.2.2.1
  clear hb9 hk9 ht9
  have R_S : zz_Hr S := (zz_fr.eq F_S) ▸ R_S0
  refine zz_iload (x := x6) rfl zd_14_75_7 ?_
  refine zz_aload_n (x := 1079) rfl zd_14_75_9 ?_
  refine zz_getr (kd := 0) (z := 1109) zd_14_75_10 zf_Md_109 zT_1079 rfl (zz_ltn hn rfl) (zz_G.eq G_S 1079 44 1109 rfl rfl) (by decide) 1109 rfl ?_
  refine zz_iload_n (x := p0) rfl zd_14_75_13 ?_
  have g1 := zz_G.r G_S0 1109 p0.toNat 0 3 rfl rfl
  refine zz_iald (z := S0 1109 p0.toNat) zd_14_75_14 zT_1109 rfl (zz_ltn hn rfl) (by decide) (by omega) (zz_rc F_S (zz_nc1 rfl) rfl (fun h => h) rfl) ?_
  refine zz_aload_n (x := 1079) rfl zd_14_75_15 ?_
  refine zz_getr (kd := 0) (z := 1110) zd_14_75_16 zf_Md_112 zT_1079 rfl (zz_ltn hn rfl) (zz_G.eq G_S 1079 45 1110 rfl rfl) (by decide) 1110 rfl ?_
  refine zz_iload_n (x := p0) rfl zd_14_75_19 ?_
  have g2 := zz_G.r G_S0 1110 p0.toNat 0 3 rfl rfl
  refine zz_iald (z := S0 1110 p0.toNat) zd_14_75_20 zT_1110 rfl (zz_ltn hn rfl) (by decide) (by omega) (zz_rc F_S (zz_nc1 rfl) rfl (fun h => h) rfl) ?_
  refine zz_imul zd_14_75_21 ?_
  have m3 := zz_mulb (a := S0 1109 p0.toNat) (b := S0 1110 p0.toNat) 3 3 9 (by omega) (by omega) (by decide)
  refine zz_icmp_ge (by omega) (by omega) zd_14_75_22 (fun c4 => ?_) (fun c4 => ?_)
  · refine zz_iload (x := x5) rfl zd_14_75_97 ?_
    exact zz_iret zd_14_75_99 rfl (Nat.zero_le _) (Nat.zero_le _) ⟨_, _, rfl, zz_fr.eq F_S, by omega⟩
  · have hb9 := R_S0.2 p0.toNat (by omega)
    unfold zz_la at hb9
    have hk9 := hb9.2.2.1 (by omega)
    rw [show p0.toNat + 1 = (p0 + 1).toNat by omega] at hk9
    have hd9 := zz_dm (k := x6) (a := S0 1109 p0.toNat) (b := S0 1110 p0.toNat) (by omega) (by omega)
    have gs9 := zz_G.r G_S0 1111 p0.toNat 0 3 rfl rfl
    have q1 : S0 1111 p0.toNat * p1 ≤ S0 1111 p0.toNat * (S0 1102 (p0 + 1).toNat - 1) := Int.mul_le_mul_of_nonneg_left (by omega) (by omega)
    have q2 : S0 1111 p0.toNat * p2 ≤ S0 1111 p0.toNat * (S0 1103 (p0 + 1).toNat - 1) := Int.mul_le_mul_of_nonneg_left (by omega) (by omega)
    have q3 : 0 ≤ S0 1111 p0.toNat * p1 := Int.mul_nonneg (by omega) (by omega)
    have q4 : 0 ≤ S0 1111 p0.toNat * p2 := Int.mul_nonneg (by omega) (by omega)
    clear hb9
    refine zz_aload_n (x := 1079) rfl zd_14_75_25 ?_
    refine zz_aload_n (x := 1079) rfl zd_14_75_26 ?_
    refine zz_getr (kd := 0) (z := 1107) zd_14_75_27 zf_Md_103 zT_1079 rfl (zz_ltn hn rfl) (zz_G.eq G_S 1079 42 1107 rfl rfl) (by decide) 1107 rfl ?_
    refine zz_iload_n (x := p0) rfl zd_14_75_30 ?_
    have g5 := zz_G.r G_S0 1107 p0.toNat 0 10 rfl rfl
    refine zz_iald (z := S0 1107 p0.toNat) zd_14_75_31 zT_1107 rfl (zz_ltn hn rfl) (by decide) (by omega) (zz_rc F_S (zz_nc1 rfl) rfl (fun h => h) rfl) ?_
    refine zz_aload_n (x := 1079) rfl zd_14_75_32 ?_
    refine zz_getr (kd := 0) (z := 1111) zd_14_75_33 zf_Md_115 zT_1079 rfl (zz_ltn hn rfl) (zz_G.eq G_S 1079 46 1111 rfl rfl) (by decide) 1111 rfl ?_
    refine zz_iload_n (x := p0) rfl zd_14_75_36 ?_
    have g6 := zz_G.r G_S0 1111 p0.toNat 0 3 rfl rfl
    refine zz_iald (z := S0 1111 p0.toNat) zd_14_75_37 zT_1111 rfl (zz_ltn hn rfl) (by decide) (by omega) (zz_rc F_S (zz_nc1 rfl) rfl (fun h => h) rfl) ?_
    refine zz_iload_n (x := p1) rfl zd_14_75_38 ?_
    refine zz_imul zd_14_75_39 ?_
    have m7 := zz_mulb (a := S0 1111 p0.toNat) (b := p1) 3 62 186 (by omega) (by omega) (by decide)
    refine zz_iload (x := x6) rfl zd_14_75_40 ?_
    refine zz_aload_n (x := 1079) rfl zd_14_75_42 ?_
    refine zz_getr (kd := 0) (z := 1110) zd_14_75_43 zf_Md_112 zT_1079 rfl (zz_ltn hn rfl) (zz_G.eq G_S 1079 45 1110 rfl rfl) (by decide) 1110 rfl ?_
    refine zz_iload_n (x := p0) rfl zd_14_75_46 ?_
    refine zz_iald (z := S0 1110 p0.toNat) zd_14_75_47 zT_1110 rfl (zz_ltn hn rfl) (by decide) (by omega) (zz_rc F_S (zz_nc1 rfl) rfl (fun h => h) rfl) ?_
    refine zz_idiv (by omega) (by omega) zd_14_75_48 (fun v8 hv8 av8 bv8 cv8 => ?_)
    have m9 := zz_divb (by omega) (by omega) av8
    obtain rfl : v8 = x6 / (S0 1110 p0.toNat) := by omega
    refine zz_iadd zd_14_75_49 ?_
    refine zz_nme (fun v10 ev10 => ?_)
    refine zz_aload_n (x := 1079) rfl zd_14_75_50 ?_
    refine zz_getr (kd := 0) (z := 1111) zd_14_75_51 zf_Md_115 zT_1079 rfl (zz_ltn hn rfl) (zz_G.eq G_S 1079 46 1111 rfl rfl) (by decide) 1111 rfl ?_
    refine zz_iload_n (x := p0) rfl zd_14_75_54 ?_
    refine zz_iald (z := S0 1111 p0.toNat) zd_14_75_55 zT_1111 rfl (zz_ltn hn rfl) (by decide) (by omega) (zz_rc F_S (zz_nc1 rfl) rfl (fun h => h) rfl) ?_
    refine zz_iload_n (x := p2) rfl zd_14_75_56 ?_
    refine zz_imul zd_14_75_57 ?_
    have m11 := zz_mulb (a := S0 1111 p0.toNat) (b := p2) 3 62 186 (by omega) (by omega) (by decide)
    refine zz_iload (x := x6) rfl zd_14_75_58 ?_
    refine zz_aload_n (x := 1079) rfl zd_14_75_60 ?_
    refine zz_getr (kd := 0) (z := 1110) zd_14_75_61 zf_Md_112 zT_1079 rfl (zz_ltn hn rfl) (zz_G.eq G_S 1079 45 1110 rfl rfl) (by decide) 1110 rfl ?_
    refine zz_iload_n (x := p0) rfl zd_14_75_64 ?_
    refine zz_iald (z := S0 1110 p0.toNat) zd_14_75_65 zT_1110 rfl (zz_ltn hn rfl) (by decide) (by omega) (zz_rc F_S (zz_nc1 rfl) rfl (fun h => h) rfl) ?_
    refine zz_irem (by omega) (by omega) zd_14_75_66 (fun v12 hv12 av12 bv12 cv12 => ?_)
    obtain rfl : v12 = x6 % (S0 1110 p0.toNat) := by omega
    refine zz_iadd zd_14_75_67 ?_
    refine zz_nme (fun v13 ev13 => ?_)
    refine zz_iload (x := p3) rfl zd_14_75_68 ?_
    have g14 := zz_G.r G_S0 1102 ((S0 1107 p0.toNat).toNat) 0 63 rfl rfl
    have e15 : S 1102 (S0 1107 p0.toNat).toNat = S0 1102 (S0 1107 p0.toNat).toNat := (zz_rc F_S (zz_nc1 rfl) rfl (fun h => h) rfl)
    have g16 := zz_G.r G_S0 1103 ((S0 1107 p0.toNat).toNat) 0 63 rfl rfl
    have e17 : S 1103 (S0 1107 p0.toNat).toNat = S0 1103 (S0 1107 p0.toNat).toNat := (zz_rc F_S (zz_nc1 rfl) rfl (fun h => h) rfl)
    have g18 := zz_G.r G_S0 1104 ((S0 1107 p0.toNat).toNat) 0 63 rfl rfl
    have e19 : S 1104 (S0 1107 p0.toNat).toNat = S0 1104 (S0 1107 p0.toNat).toNat := (zz_rc F_S (zz_nc1 rfl) rfl (fun h => h) rfl)
    refine zz_callVI [zi (S0 1107 p0.toNat), zi v10, zi v13, zi p3] zd_14_75_70 zk_Md_438 zT_1079 (zz_ltn hn rfl) rfl rfl ⟨Nat.le_of_ble_eq_true rfl, Nat.le_of_ble_eq_true rfl⟩ ⟨rfl, rfl⟩ (Nat.zero_le _) (Nat.zero_le _) (zc_cellAt_14_73 (S0 1107 p0.toNat) v10 v13 p3 S n hn G_S (by omega) (by omega) (by omega) (by omega) (R_S.1 (S0 1107 p0.toNat).toNat (by rw [show S 1079 36 = S0 1079 36 from zz_rc F_S rfl rfl (fun h => h) rfl]; omega)) (by omega) (by omega) (by omega)) (fun v21 S20 hP => ?_)
    obtain ⟨rfl, o22⟩ := hP
    refine zz_istore [some (.ref 1079), some (zi p0), some (zi p1), some (zi p2), some (zi p3), some (zi x5), some (zi x6), some (zi v21)] zd_14_75_73 (by decide) rfl ?_
    refine zz_iload (x := v21) rfl zd_14_75_75 ?_
    refine zz_iload (x := x5) rfl zd_14_75_77 ?_
    refine zz_icmp_le (by omega) (by omega) zd_14_75_79 (fun c23 => ?_) (fun c23 => ?_)
    · refine zz_iload (x := x5) rfl zd_14_75_87 ?_
      refine zz_istore [some (.ref 1079), some (zi p0), some (zi p1), some (zi p2), some (zi p3), some (zi x5), some (zi x6), some (zi v21)] zd_14_75_89 (by decide) rfl ?_
      refine zz_iinc [some (.ref 1079), some (zi p0), some (zi p1), some (zi p2), some (zi p3), some (zi x5), some (zi (x6 + 1)), some (zi v21)] zd_14_75_91 rfl rfl ?_
      refine zz_goto zd_14_75_94 ?_
      refine zz_less (ls1 := [some (.ref 1079), some (zi p0), some (zi p1), some (zi p2), some (zi p3), some (zi x5), some (zi (x6 + 1))]) ⟨rfl, ⟨rfl, ⟨rfl, ⟨rfl, ⟨rfl, ⟨rfl, ⟨rfl, trivial⟩⟩⟩⟩⟩⟩⟩ ?_
      exact k7 x5 (x6 + 1) S G_S F_S (by omega) (by omega) (by omega)
    · refine zz_iload (x := v21) rfl zd_14_75_82 ?_
      refine zz_goto zd_14_75_84 ?_
      refine zz_istore [some (.ref 1079), some (zi p0), some (zi p1), some (zi p2), some (zi p3), some (zi v21), some (zi x6), some (zi v21)] zd_14_75_89 (by decide) rfl ?_
      refine zz_iinc [some (.ref 1079), some (zi p0), some (zi p1), some (zi p2), some (zi p3), some (zi v21), some (zi (x6 + 1)), some (zi v21)] zd_14_75_91 rfl rfl ?_
      refine zz_goto zd_14_75_94 ?_
      refine zz_less (ls1 := [some (.ref 1079), some (zi p0), some (zi p1), some (zi p2), some (zi p3), some (zi v21), some (zi (x6 + 1))]) ⟨rfl, ⟨rfl, ⟨rfl, ⟨rfl, ⟨rfl, ⟨rfl, ⟨rfl, trivial⟩⟩⟩⟩⟩⟩⟩ ?_
      exact k7 v21 (x6 + 1) S G_S F_S (by omega) (by omega) (by omega)
theorem zi_pooled_14_75 {g : mm_G} {l : Launch} (p0 : Int) (p1 : Int) (p2 : Int) (p3 : Int) (S0 : zz_S) (n : Nat) (hn : zz_end ≤ n) (G_S0 : zz_G S0) (hp0 : 0 ≤ p0 ∧ p0 ≤ 9) (hp1 : 0 ≤ p1 ∧ p1 ≤ 62) (hp2 : 0 ≤ p2 ∧ p2 ≤ 62) (hp3 : 0 ≤ p3 ∧ p3 ≤ 62) (R_S0 : zz_Hr S0) (hl : p0 + 1 < S0 1079 36) (hk : S0 1106 p0.toNat = 1) (hy : p1 < S0 1102 (p0 + 1).toNat) (hx : p2 < S0 1103 (p0 + 1).toNat) (ho : p3 < S0 1104 (p0 + 1).toNat) : ∀ N : Nat, (∀ (x5 : Int) (x6 : Int) (S : zz_S), zz_G S → zz_fr [] [] (fun _ _ => False) S0 S → ((-128) ≤ x5 ∧ x5 ≤ 2147483647) → (0 ≤ x6 ∧ x6 ≤ 9) → (2147483647 - x6).toNat < N → zz_E g l zy_pooled_14_75 zr_pooled_14_75 (zz_QI n (zp_pooled_14_75 p0 p1 p2 p3 S0)) S n 7 [some (.ref 1079), some (zi p0), some (zi p1), some (zi p2), some (zi p3), some (zi x5), some (zi x6)] [] 0 0) := by
  intro N
  induction N with
  | zero => exact fun x5 x6 S _ _ _ _ h => absurd h (Nat.not_lt_zero _)
  | succ N ih =>
    exact fun x5 x6 S a b j0 j1 hR => zb_pooled_14_75_7 p0 p1 p2 p3 S0 n hn G_S0 hp0 hp1 hp2 hp3 R_S0 hl hk hy hx ho x5 x6 S a b j0 j1 _ rfl (fun x5 x6 S a b j0 j1 h => ih x5 x6 S a b j0 j1 (Nat.lt_of_lt_of_le h (Nat.le_of_lt_succ hR)))
theorem zc_pooled_14_75 {g : mm_G} {l : Launch} (p0 : Int) (p1 : Int) (p2 : Int) (p3 : Int) (S0 : zz_S) (n : Nat) (hn : zz_end ≤ n) (G_S0 : zz_G S0) (hp0 : 0 ≤ p0 ∧ p0 ≤ 9) (hp1 : 0 ≤ p1 ∧ p1 ≤ 62) (hp2 : 0 ≤ p2 ∧ p2 ≤ 62) (hp3 : 0 ≤ p3 ∧ p3 ≤ 62) (R_S0 : zz_Hr S0) (hl : p0 + 1 < S0 1079 36) (hk : S0 1106 p0.toNat = 1) (hy : p1 < S0 1102 (p0 + 1).toNat) (hx : p2 < S0 1103 (p0 + 1).toNat) (ho : p3 < S0 1104 (p0 + 1).toNat) : mm_Met g l zy_pooled_14_75 zr_pooled_14_75 [.ref 1079, zi p0, zi p1, zi p2, zi p3] (zz_M S0 n) n (zz_QI n (zp_pooled_14_75 p0 p1 p2 p3 S0)) := by
  refine zz_enter (by decide) (Nat.le_of_ble_eq_true rfl) (zz_less (ls1 := [some (.ref 1079), some (zi p0), some (zi p1), some (zi p2), some (zi p3)]) ⟨rfl, ⟨rfl, ⟨rfl, ⟨rfl, ⟨rfl, trivial⟩⟩⟩⟩⟩ ?_)
  have F_S0 : zz_fr [] [] (fun _ _ => False) S0 S0 := zz_fr.refl
  have k7 : ∀ (x5 : Int) (x6 : Int) (S : zz_S), zz_G S → zz_fr [] [] (fun _ _ => False) S0 S → ((-128) ≤ x5 ∧ x5 ≤ 2147483647) → (0 ≤ x6 ∧ x6 ≤ 9) → zz_E g l zy_pooled_14_75 zr_pooled_14_75 (zz_QI n (zp_pooled_14_75 p0 p1 p2 p3 S0)) S n 7 [some (.ref 1079), some (zi p0), some (zi p1), some (zi p2), some (zi p3), some (zi x5), some (zi x6)] [] 0 0 := fun x5 x6 S a b j0 j1 => (zi_pooled_14_75 (g := g) (l := l) p0 p1 p2 p3 S0 n hn G_S0 hp0 hp1 hp2 hp3 R_S0 hl hk hy hx ho _) x5 x6 S a b j0 j1 (Nat.lt_succ_self _)
  have hb9 := R_S0.2 p0.toNat (by omega)
  unfold zz_la at hb9
  have hone := hb9.1
  have hk9 := hb9.2.2.1 (by omega)
  have h5 : 1 ≤ S0 1110 p0.toNat := hk9.1
  have go9 := zz_G.r G_S0 1107 p0.toNat 0 10 rfl rfl
  have ht9 := R_S0.1 (S0 1107 p0.toNat).toNat (by omega)
  unfold zz_tn at ht9
  have h4 : 1 ≤ S0 1104 (S0 1107 p0.toNat).toNat := ht9.2.2.1
  clear hb9 hk9 ht9
  refine zz_bipush (by decide) zd_14_75_0 ?_
  refine zz_istore [some (.ref 1079), some (zi p0), some (zi p1), some (zi p2), some (zi p3), some (zi (-128))] zd_14_75_2 (by decide) rfl ?_
  refine zz_iconst zd_14_75_4 ?_
  refine zz_istore [some (.ref 1079), some (zi p0), some (zi p1), some (zi p2), some (zi p3), some (zi (-128)), some (zi 0)] zd_14_75_5 (by decide) rfl ?_
  refine zz_less (ls1 := [some (.ref 1079), some (zi p0), some (zi p1), some (zi p2), some (zi p3), some (zi (-128)), some (zi 0)]) ⟨rfl, ⟨rfl, ⟨rfl, ⟨rfl, ⟨rfl, ⟨rfl, ⟨rfl, trivial⟩⟩⟩⟩⟩⟩⟩ ?_
  exact k7 (-128) 0 S0 G_S0 F_S0 (by omega) (by omega)
abbrev zy_reckon_14_76 : mm_Y := (⟨"TensorForgeModel", "reckon", "()V"⟩, prog_14_method_76_code, 8, none)
theorem zyw_reckon_14_76 : mm_Yw zy_reckon_14_76 0 := ⟨mm_tb_1 2116 (by decide +kernel) rfl, mm_tb_1 12 (by decide +kernel) rfl, ⟨by decide, by decide⟩, by decide +kernel⟩
theorem zk_Md_444 : mm_Vl "TensorForgeModel" 444 11 4 zy_pooled_14_75 := ⟨zyw_pooled_14_75, (R_Md, F_Md, 69), rfl, mm_tb_1 2129 (by decide +kernel) rfl, mm_tb_1 2131 (by decide +kernel) rfl, mm_tb_s 126 (by decide +kernel) rfl⟩
theorem zk_Md_441 : mm_Vl "TensorForgeModel" 441 11 4 zy_convolved_14_74 := ⟨zyw_convolved_14_74, (R_Md, F_Md, 69), rfl, mm_tb_1 2117 (by decide +kernel) rfl, mm_tb_1 2119 (by decide +kernel) rfl, mm_tb_s 123 (by decide +kernel) rfl⟩
theorem zg_14_76_0 : (decode zy_reckon_14_76.2.1 0 = .ok ((.aload_n 0), 1)) ∧ (decode zy_reckon_14_76.2.1 1 = .ok ((.iconst 0), 1)) ∧ (decode zy_reckon_14_76.2.1 2 = .ok ((.putfield 187), 3)) ∧ (decode zy_reckon_14_76.2.1 5 = .ok ((.iconst 0), 1)) ∧ (decode zy_reckon_14_76.2.1 6 = .ok ((.istore_n 1), 1)) ∧ (decode zy_reckon_14_76.2.1 7 = .ok ((.iload_n 1), 1)) ∧ (decode zy_reckon_14_76.2.1 8 = .ok ((.aload_n 0), 1)) ∧ (decode zy_reckon_14_76.2.1 9 = .ok ((.getfield 85), 3)) ∧ (decode zy_reckon_14_76.2.1 12 = .ok ((.iconst 1), 1)) ∧ (decode zy_reckon_14_76.2.1 13 = .ok ((.isub), 1)) := by decide +kernel
theorem zd_14_76_0 : zz_D zy_reckon_14_76 0 (.aload_n 0) 1 1 := ⟨zg_14_76_0.1, rfl⟩
theorem zd_14_76_1 : zz_D zy_reckon_14_76 1 (.iconst 0) 1 2 := ⟨zg_14_76_0.2.1, rfl⟩
theorem zd_14_76_2 : zz_D zy_reckon_14_76 2 (.putfield 187) 3 5 := ⟨zg_14_76_0.2.2.1, rfl⟩
theorem zd_14_76_5 : zz_D zy_reckon_14_76 5 (.iconst 0) 1 6 := ⟨zg_14_76_0.2.2.2.1, rfl⟩
theorem zd_14_76_6 : zz_D zy_reckon_14_76 6 (.istore_n 1) 1 7 := ⟨zg_14_76_0.2.2.2.2.1, rfl⟩
theorem zd_14_76_7 : zz_D zy_reckon_14_76 7 (.iload_n 1) 1 8 := ⟨zg_14_76_0.2.2.2.2.2.1, rfl⟩
theorem zd_14_76_8 : zz_D zy_reckon_14_76 8 (.aload_n 0) 1 9 := ⟨zg_14_76_0.2.2.2.2.2.2.1, rfl⟩
theorem zd_14_76_9 : zz_D zy_reckon_14_76 9 (.getfield 85) 3 12 := ⟨zg_14_76_0.2.2.2.2.2.2.2.1, rfl⟩
theorem zd_14_76_12 : zz_D zy_reckon_14_76 12 (.iconst 1) 1 13 := ⟨zg_14_76_0.2.2.2.2.2.2.2.2.1, rfl⟩
theorem zd_14_76_13 : zz_D zy_reckon_14_76 13 (.isub) 1 14 := ⟨zg_14_76_0.2.2.2.2.2.2.2.2.2, rfl⟩
theorem zg_14_76_14 : (decode zy_reckon_14_76.2.1 14 = .ok ((Instr.if_icmp .ge) 184, 3)) ∧ (decode zy_reckon_14_76.2.1 198 = .ok ((.return_), 1)) ∧ (decode zy_reckon_14_76.2.1 17 = .ok ((.iload_n 1), 1)) ∧ (decode zy_reckon_14_76.2.1 18 = .ok ((.iconst 1), 1)) ∧ (decode zy_reckon_14_76.2.1 19 = .ok ((.iadd), 1)) ∧ (decode zy_reckon_14_76.2.1 20 = .ok ((.istore_n 2), 1)) ∧ (decode zy_reckon_14_76.2.1 21 = .ok ((.iconst 0), 1)) ∧ (decode zy_reckon_14_76.2.1 22 = .ok ((.istore_n 3), 1)) ∧ (decode zy_reckon_14_76.2.1 23 = .ok ((.iload_n 3), 1)) ∧ (decode zy_reckon_14_76.2.1 24 = .ok ((.aload_n 0), 1)) := by decide +kernel
theorem zd_14_76_14 : zz_B zy_reckon_14_76 14 (Instr.if_icmp .ge) 198 17 := ⟨184, zg_14_76_14.1, rfl, rfl⟩
theorem zd_14_76_198 : zz_D zy_reckon_14_76 198 (.return_) 1 199 := ⟨zg_14_76_14.2.1, rfl⟩
theorem zd_14_76_17 : zz_D zy_reckon_14_76 17 (.iload_n 1) 1 18 := ⟨zg_14_76_14.2.2.1, rfl⟩
theorem zd_14_76_18 : zz_D zy_reckon_14_76 18 (.iconst 1) 1 19 := ⟨zg_14_76_14.2.2.2.1, rfl⟩
theorem zd_14_76_19 : zz_D zy_reckon_14_76 19 (.iadd) 1 20 := ⟨zg_14_76_14.2.2.2.2.1, rfl⟩
theorem zd_14_76_20 : zz_D zy_reckon_14_76 20 (.istore_n 2) 1 21 := ⟨zg_14_76_14.2.2.2.2.2.1, rfl⟩
theorem zd_14_76_21 : zz_D zy_reckon_14_76 21 (.iconst 0) 1 22 := ⟨zg_14_76_14.2.2.2.2.2.2.1, rfl⟩
theorem zd_14_76_22 : zz_D zy_reckon_14_76 22 (.istore_n 3) 1 23 := ⟨zg_14_76_14.2.2.2.2.2.2.2.1, rfl⟩
theorem zd_14_76_23 : zz_D zy_reckon_14_76 23 (.iload_n 3) 1 24 := ⟨zg_14_76_14.2.2.2.2.2.2.2.2.1, rfl⟩
theorem zd_14_76_24 : zz_D zy_reckon_14_76 24 (.aload_n 0) 1 25 := ⟨zg_14_76_14.2.2.2.2.2.2.2.2.2, rfl⟩
theorem zg_14_76_25 : (decode zy_reckon_14_76.2.1 25 = .ok ((.iload_n 2), 1)) ∧ (decode zy_reckon_14_76.2.1 26 = .ok ((.invokevirtual 200), 3)) ∧ (decode zy_reckon_14_76.2.1 29 = .ok ((Instr.if_icmp .ge) 163, 3)) ∧ (decode zy_reckon_14_76.2.1 192 = .ok ((.iinc 1 1), 3)) ∧ (decode zy_reckon_14_76.2.1 195 = .ok (Instr.goto (-188), 3)) ∧ (decode zy_reckon_14_76.2.1 32 = .ok ((.iload_n 3), 1)) ∧ (decode zy_reckon_14_76.2.1 33 = .ok ((.aload_n 0), 1)) ∧ (decode zy_reckon_14_76.2.1 34 = .ok ((.getfield 94), 3)) ∧ (decode zy_reckon_14_76.2.1 37 = .ok ((.iload_n 2), 1)) ∧ (decode zy_reckon_14_76.2.1 38 = .ok ((.iaload), 1)) := by decide +kernel
theorem zd_14_76_25 : zz_D zy_reckon_14_76 25 (.iload_n 2) 1 26 := ⟨zg_14_76_25.1, rfl⟩
theorem zd_14_76_26 : zz_D zy_reckon_14_76 26 (.invokevirtual 200) 3 29 := ⟨zg_14_76_25.2.1, rfl⟩
theorem zd_14_76_29 : zz_B zy_reckon_14_76 29 (Instr.if_icmp .ge) 192 32 := ⟨163, zg_14_76_25.2.2.1, rfl, rfl⟩
theorem zd_14_76_192 : zz_D zy_reckon_14_76 192 (.iinc 1 1) 3 195 := ⟨zg_14_76_25.2.2.2.1, rfl⟩
theorem zd_14_76_195 : zz_B zy_reckon_14_76 195 Instr.goto 7 198 := ⟨(-188), zg_14_76_25.2.2.2.2.1, rfl, rfl⟩
theorem zd_14_76_32 : zz_D zy_reckon_14_76 32 (.iload_n 3) 1 33 := ⟨zg_14_76_25.2.2.2.2.2.1, rfl⟩
theorem zd_14_76_33 : zz_D zy_reckon_14_76 33 (.aload_n 0) 1 34 := ⟨zg_14_76_25.2.2.2.2.2.2.1, rfl⟩
theorem zd_14_76_34 : zz_D zy_reckon_14_76 34 (.getfield 94) 3 37 := ⟨zg_14_76_25.2.2.2.2.2.2.2.1, rfl⟩
theorem zd_14_76_37 : zz_D zy_reckon_14_76 37 (.iload_n 2) 1 38 := ⟨zg_14_76_25.2.2.2.2.2.2.2.2.1, rfl⟩
theorem zd_14_76_38 : zz_D zy_reckon_14_76 38 (.iaload) 1 39 := ⟨zg_14_76_25.2.2.2.2.2.2.2.2.2, rfl⟩
theorem zg_14_76_39 : (decode zy_reckon_14_76.2.1 39 = .ok ((.irem), 1)) ∧ (decode zy_reckon_14_76.2.1 40 = .ok ((.istore 4), 2)) ∧ (decode zy_reckon_14_76.2.1 42 = .ok ((.iload_n 3), 1)) ∧ (decode zy_reckon_14_76.2.1 43 = .ok ((.aload_n 0), 1)) ∧ (decode zy_reckon_14_76.2.1 44 = .ok ((.getfield 94), 3)) ∧ (decode zy_reckon_14_76.2.1 47 = .ok ((.iload_n 2), 1)) ∧ (decode zy_reckon_14_76.2.1 48 = .ok ((.iaload), 1)) ∧ (decode zy_reckon_14_76.2.1 49 = .ok ((.idiv), 1)) ∧ (decode zy_reckon_14_76.2.1 50 = .ok ((.aload_n 0), 1)) ∧ (decode zy_reckon_14_76.2.1 51 = .ok ((.getfield 91), 3)) := by decide +kernel
theorem zd_14_76_39 : zz_D zy_reckon_14_76 39 (.irem) 1 40 := ⟨zg_14_76_39.1, rfl⟩
theorem zd_14_76_40 : zz_D zy_reckon_14_76 40 (.istore 4) 2 42 := ⟨zg_14_76_39.2.1, rfl⟩
theorem zd_14_76_42 : zz_D zy_reckon_14_76 42 (.iload_n 3) 1 43 := ⟨zg_14_76_39.2.2.1, rfl⟩
theorem zd_14_76_43 : zz_D zy_reckon_14_76 43 (.aload_n 0) 1 44 := ⟨zg_14_76_39.2.2.2.1, rfl⟩
theorem zd_14_76_44 : zz_D zy_reckon_14_76 44 (.getfield 94) 3 47 := ⟨zg_14_76_39.2.2.2.2.1, rfl⟩
theorem zd_14_76_47 : zz_D zy_reckon_14_76 47 (.iload_n 2) 1 48 := ⟨zg_14_76_39.2.2.2.2.2.1, rfl⟩
theorem zd_14_76_48 : zz_D zy_reckon_14_76 48 (.iaload) 1 49 := ⟨zg_14_76_39.2.2.2.2.2.2.1, rfl⟩
theorem zd_14_76_49 : zz_D zy_reckon_14_76 49 (.idiv) 1 50 := ⟨zg_14_76_39.2.2.2.2.2.2.2.1, rfl⟩
theorem zd_14_76_50 : zz_D zy_reckon_14_76 50 (.aload_n 0) 1 51 := ⟨zg_14_76_39.2.2.2.2.2.2.2.2.1, rfl⟩
theorem zd_14_76_51 : zz_D zy_reckon_14_76 51 (.getfield 91) 3 54 := ⟨zg_14_76_39.2.2.2.2.2.2.2.2.2, rfl⟩
theorem zg_14_76_54 : (decode zy_reckon_14_76.2.1 54 = .ok ((.iload_n 2), 1)) ∧ (decode zy_reckon_14_76.2.1 55 = .ok ((.iaload), 1)) ∧ (decode zy_reckon_14_76.2.1 56 = .ok ((.irem), 1)) ∧ (decode zy_reckon_14_76.2.1 57 = .ok ((.istore 5), 2)) ∧ (decode zy_reckon_14_76.2.1 59 = .ok ((.iload_n 3), 1)) ∧ (decode zy_reckon_14_76.2.1 60 = .ok ((.aload_n 0), 1)) ∧ (decode zy_reckon_14_76.2.1 61 = .ok ((.getfield 94), 3)) ∧ (decode zy_reckon_14_76.2.1 64 = .ok ((.iload_n 2), 1)) ∧ (decode zy_reckon_14_76.2.1 65 = .ok ((.iaload), 1)) ∧ (decode zy_reckon_14_76.2.1 66 = .ok ((.idiv), 1)) := by decide +kernel
theorem zd_14_76_54 : zz_D zy_reckon_14_76 54 (.iload_n 2) 1 55 := ⟨zg_14_76_54.1, rfl⟩
theorem zd_14_76_55 : zz_D zy_reckon_14_76 55 (.iaload) 1 56 := ⟨zg_14_76_54.2.1, rfl⟩
theorem zd_14_76_56 : zz_D zy_reckon_14_76 56 (.irem) 1 57 := ⟨zg_14_76_54.2.2.1, rfl⟩
theorem zd_14_76_57 : zz_D zy_reckon_14_76 57 (.istore 5) 2 59 := ⟨zg_14_76_54.2.2.2.1, rfl⟩
theorem zd_14_76_59 : zz_D zy_reckon_14_76 59 (.iload_n 3) 1 60 := ⟨zg_14_76_54.2.2.2.2.1, rfl⟩
theorem zd_14_76_60 : zz_D zy_reckon_14_76 60 (.aload_n 0) 1 61 := ⟨zg_14_76_54.2.2.2.2.2.1, rfl⟩
theorem zd_14_76_61 : zz_D zy_reckon_14_76 61 (.getfield 94) 3 64 := ⟨zg_14_76_54.2.2.2.2.2.2.1, rfl⟩
theorem zd_14_76_64 : zz_D zy_reckon_14_76 64 (.iload_n 2) 1 65 := ⟨zg_14_76_54.2.2.2.2.2.2.2.1, rfl⟩
theorem zd_14_76_65 : zz_D zy_reckon_14_76 65 (.iaload) 1 66 := ⟨zg_14_76_54.2.2.2.2.2.2.2.2.1, rfl⟩
theorem zd_14_76_66 : zz_D zy_reckon_14_76 66 (.idiv) 1 67 := ⟨zg_14_76_54.2.2.2.2.2.2.2.2.2, rfl⟩
theorem zg_14_76_67 : (decode zy_reckon_14_76.2.1 67 = .ok ((.aload_n 0), 1)) ∧ (decode zy_reckon_14_76.2.1 68 = .ok ((.getfield 91), 3)) ∧ (decode zy_reckon_14_76.2.1 71 = .ok ((.iload_n 2), 1)) ∧ (decode zy_reckon_14_76.2.1 72 = .ok ((.iaload), 1)) ∧ (decode zy_reckon_14_76.2.1 73 = .ok ((.idiv), 1)) ∧ (decode zy_reckon_14_76.2.1 74 = .ok ((.istore 6), 2)) ∧ (decode zy_reckon_14_76.2.1 76 = .ok ((.aload_n 0), 1)) ∧ (decode zy_reckon_14_76.2.1 77 = .ok ((.getfield 100), 3)) ∧ (decode zy_reckon_14_76.2.1 80 = .ok ((.iload_n 1), 1)) ∧ (decode zy_reckon_14_76.2.1 81 = .ok ((.iaload), 1)) := by decide +kernel
theorem zd_14_76_67 : zz_D zy_reckon_14_76 67 (.aload_n 0) 1 68 := ⟨zg_14_76_67.1, rfl⟩
theorem zd_14_76_68 : zz_D zy_reckon_14_76 68 (.getfield 91) 3 71 := ⟨zg_14_76_67.2.1, rfl⟩
theorem zd_14_76_71 : zz_D zy_reckon_14_76 71 (.iload_n 2) 1 72 := ⟨zg_14_76_67.2.2.1, rfl⟩
theorem zd_14_76_72 : zz_D zy_reckon_14_76 72 (.iaload) 1 73 := ⟨zg_14_76_67.2.2.2.1, rfl⟩
theorem zd_14_76_73 : zz_D zy_reckon_14_76 73 (.idiv) 1 74 := ⟨zg_14_76_67.2.2.2.2.1, rfl⟩
theorem zd_14_76_74 : zz_D zy_reckon_14_76 74 (.istore 6) 2 76 := ⟨zg_14_76_67.2.2.2.2.2.1, rfl⟩
theorem zd_14_76_76 : zz_D zy_reckon_14_76 76 (.aload_n 0) 1 77 := ⟨zg_14_76_67.2.2.2.2.2.2.1, rfl⟩
theorem zd_14_76_77 : zz_D zy_reckon_14_76 77 (.getfield 100) 3 80 := ⟨zg_14_76_67.2.2.2.2.2.2.2.1, rfl⟩
theorem zd_14_76_80 : zz_D zy_reckon_14_76 80 (.iload_n 1) 1 81 := ⟨zg_14_76_67.2.2.2.2.2.2.2.2.1, rfl⟩
theorem zd_14_76_81 : zz_D zy_reckon_14_76 81 (.iaload) 1 82 := ⟨zg_14_76_67.2.2.2.2.2.2.2.2.2, rfl⟩
theorem zg_14_76_82 : (decode zy_reckon_14_76.2.1 82 = .ok ((Instr.ifCond .ne) 19, 3)) ∧ (decode zy_reckon_14_76.2.1 101 = .ok ((.aload_n 0), 1)) ∧ (decode zy_reckon_14_76.2.1 102 = .ok ((.getfield 100), 3)) ∧ (decode zy_reckon_14_76.2.1 105 = .ok ((.iload_n 1), 1)) ∧ (decode zy_reckon_14_76.2.1 106 = .ok ((.iaload), 1)) ∧ (decode zy_reckon_14_76.2.1 107 = .ok ((.iconst 1), 1)) ∧ (decode zy_reckon_14_76.2.1 108 = .ok ((Instr.if_icmp .ne) 19, 3)) ∧ (decode zy_reckon_14_76.2.1 127 = .ok ((.aload_n 0), 1)) ∧ (decode zy_reckon_14_76.2.1 128 = .ok ((.aload_n 0), 1)) ∧ (decode zy_reckon_14_76.2.1 129 = .ok ((.getfield 103), 3)) := by decide +kernel
theorem zd_14_76_82 : zz_B zy_reckon_14_76 82 (Instr.ifCond .ne) 101 85 := ⟨19, zg_14_76_82.1, rfl, rfl⟩
theorem zd_14_76_101 : zz_D zy_reckon_14_76 101 (.aload_n 0) 1 102 := ⟨zg_14_76_82.2.1, rfl⟩
theorem zd_14_76_102 : zz_D zy_reckon_14_76 102 (.getfield 100) 3 105 := ⟨zg_14_76_82.2.2.1, rfl⟩
theorem zd_14_76_105 : zz_D zy_reckon_14_76 105 (.iload_n 1) 1 106 := ⟨zg_14_76_82.2.2.2.1, rfl⟩
theorem zd_14_76_106 : zz_D zy_reckon_14_76 106 (.iaload) 1 107 := ⟨zg_14_76_82.2.2.2.2.1, rfl⟩
theorem zd_14_76_107 : zz_D zy_reckon_14_76 107 (.iconst 1) 1 108 := ⟨zg_14_76_82.2.2.2.2.2.1, rfl⟩
theorem zd_14_76_108 : zz_B zy_reckon_14_76 108 (Instr.if_icmp .ne) 127 111 := ⟨19, zg_14_76_82.2.2.2.2.2.2.1, rfl, rfl⟩
theorem zd_14_76_127 : zz_D zy_reckon_14_76 127 (.aload_n 0) 1 128 := ⟨zg_14_76_82.2.2.2.2.2.2.2.1, rfl⟩
theorem zd_14_76_128 : zz_D zy_reckon_14_76 128 (.aload_n 0) 1 129 := ⟨zg_14_76_82.2.2.2.2.2.2.2.2.1, rfl⟩
theorem zd_14_76_129 : zz_D zy_reckon_14_76 129 (.getfield 103) 3 132 := ⟨zg_14_76_82.2.2.2.2.2.2.2.2.2, rfl⟩
theorem zg_14_76_132 : (decode zy_reckon_14_76.2.1 132 = .ok ((.iload_n 1), 1)) ∧ (decode zy_reckon_14_76.2.1 133 = .ok ((.iaload), 1)) ∧ (decode zy_reckon_14_76.2.1 134 = .ok ((.iload 6), 2)) ∧ (decode zy_reckon_14_76.2.1 136 = .ok ((.iload 5), 2)) ∧ (decode zy_reckon_14_76.2.1 138 = .ok ((.iload 4), 2)) ∧ (decode zy_reckon_14_76.2.1 140 = .ok ((.invokevirtual 438), 3)) ∧ (decode zy_reckon_14_76.2.1 143 = .ok ((.aload_n 0), 1)) ∧ (decode zy_reckon_14_76.2.1 144 = .ok ((.aload_n 0), 1)) ∧ (decode zy_reckon_14_76.2.1 145 = .ok ((.getfield 106), 3)) ∧ (decode zy_reckon_14_76.2.1 148 = .ok ((.iload_n 1), 1)) := by decide +kernel
theorem zd_14_76_132 : zz_D zy_reckon_14_76 132 (.iload_n 1) 1 133 := ⟨zg_14_76_132.1, rfl⟩
theorem zd_14_76_133 : zz_D zy_reckon_14_76 133 (.iaload) 1 134 := ⟨zg_14_76_132.2.1, rfl⟩
theorem zd_14_76_134 : zz_D zy_reckon_14_76 134 (.iload 6) 2 136 := ⟨zg_14_76_132.2.2.1, rfl⟩
theorem zd_14_76_136 : zz_D zy_reckon_14_76 136 (.iload 5) 2 138 := ⟨zg_14_76_132.2.2.2.1, rfl⟩
theorem zd_14_76_138 : zz_D zy_reckon_14_76 138 (.iload 4) 2 140 := ⟨zg_14_76_132.2.2.2.2.1, rfl⟩
theorem zd_14_76_140 : zz_D zy_reckon_14_76 140 (.invokevirtual 438) 3 143 := ⟨zg_14_76_132.2.2.2.2.2.1, rfl⟩
theorem zd_14_76_143 : zz_D zy_reckon_14_76 143 (.aload_n 0) 1 144 := ⟨zg_14_76_132.2.2.2.2.2.2.1, rfl⟩
theorem zd_14_76_144 : zz_D zy_reckon_14_76 144 (.aload_n 0) 1 145 := ⟨zg_14_76_132.2.2.2.2.2.2.2.1, rfl⟩
theorem zd_14_76_145 : zz_D zy_reckon_14_76 145 (.getfield 106) 3 148 := ⟨zg_14_76_132.2.2.2.2.2.2.2.2.1, rfl⟩
theorem zd_14_76_148 : zz_D zy_reckon_14_76 148 (.iload_n 1) 1 149 := ⟨zg_14_76_132.2.2.2.2.2.2.2.2.2, rfl⟩
theorem zg_14_76_149 : (decode zy_reckon_14_76.2.1 149 = .ok ((.iaload), 1)) ∧ (decode zy_reckon_14_76.2.1 150 = .ok ((.iload 6), 2)) ∧ (decode zy_reckon_14_76.2.1 152 = .ok ((.iload 5), 2)) ∧ (decode zy_reckon_14_76.2.1 154 = .ok ((.iload 4), 2)) ∧ (decode zy_reckon_14_76.2.1 156 = .ok ((.invokevirtual 438), 3)) ∧ (decode zy_reckon_14_76.2.1 159 = .ok ((.iadd), 1)) ∧ (decode zy_reckon_14_76.2.1 160 = .ok ((.aload_n 0), 1)) ∧ (decode zy_reckon_14_76.2.1 161 = .ok ((.getfield 121), 3)) ∧ (decode zy_reckon_14_76.2.1 164 = .ok ((.iload_n 1), 1)) ∧ (decode zy_reckon_14_76.2.1 165 = .ok ((.iaload), 1)) := by decide +kernel
theorem zd_14_76_149 : zz_D zy_reckon_14_76 149 (.iaload) 1 150 := ⟨zg_14_76_149.1, rfl⟩
theorem zd_14_76_150 : zz_D zy_reckon_14_76 150 (.iload 6) 2 152 := ⟨zg_14_76_149.2.1, rfl⟩
theorem zd_14_76_152 : zz_D zy_reckon_14_76 152 (.iload 5) 2 154 := ⟨zg_14_76_149.2.2.1, rfl⟩
theorem zd_14_76_154 : zz_D zy_reckon_14_76 154 (.iload 4) 2 156 := ⟨zg_14_76_149.2.2.2.1, rfl⟩
theorem zd_14_76_156 : zz_D zy_reckon_14_76 156 (.invokevirtual 438) 3 159 := ⟨zg_14_76_149.2.2.2.2.1, rfl⟩
theorem zd_14_76_159 : zz_D zy_reckon_14_76 159 (.iadd) 1 160 := ⟨zg_14_76_149.2.2.2.2.2.1, rfl⟩
theorem zd_14_76_160 : zz_D zy_reckon_14_76 160 (.aload_n 0) 1 161 := ⟨zg_14_76_149.2.2.2.2.2.2.1, rfl⟩
theorem zd_14_76_161 : zz_D zy_reckon_14_76 161 (.getfield 121) 3 164 := ⟨zg_14_76_149.2.2.2.2.2.2.2.1, rfl⟩
theorem zd_14_76_164 : zz_D zy_reckon_14_76 164 (.iload_n 1) 1 165 := ⟨zg_14_76_149.2.2.2.2.2.2.2.2.1, rfl⟩
theorem zd_14_76_165 : zz_D zy_reckon_14_76 165 (.iaload) 1 166 := ⟨zg_14_76_149.2.2.2.2.2.2.2.2.2, rfl⟩
theorem zg_14_76_166 : (decode zy_reckon_14_76.2.1 166 = .ok ((.invokestatic 261), 3)) ∧ (decode zy_reckon_14_76.2.1 169 = .ok ((.istore 7), 2)) ∧ (decode zy_reckon_14_76.2.1 171 = .ok ((.aload_n 0), 1)) ∧ (decode zy_reckon_14_76.2.1 172 = .ok ((.getfield 13), 3)) ∧ (decode zy_reckon_14_76.2.1 175 = .ok ((.aload_n 0), 1)) ∧ (decode zy_reckon_14_76.2.1 176 = .ok ((.getfield 97), 3)) ∧ (decode zy_reckon_14_76.2.1 179 = .ok ((.iload_n 2), 1)) ∧ (decode zy_reckon_14_76.2.1 180 = .ok ((.iaload), 1)) ∧ (decode zy_reckon_14_76.2.1 181 = .ok ((.iload_n 3), 1)) ∧ (decode zy_reckon_14_76.2.1 182 = .ok ((.iadd), 1)) := by decide +kernel
theorem zd_14_76_166 : zz_D zy_reckon_14_76 166 (.invokestatic 261) 3 169 := ⟨zg_14_76_166.1, rfl⟩
theorem zd_14_76_169 : zz_D zy_reckon_14_76 169 (.istore 7) 2 171 := ⟨zg_14_76_166.2.1, rfl⟩
theorem zd_14_76_171 : zz_D zy_reckon_14_76 171 (.aload_n 0) 1 172 := ⟨zg_14_76_166.2.2.1, rfl⟩
theorem zd_14_76_172 : zz_D zy_reckon_14_76 172 (.getfield 13) 3 175 := ⟨zg_14_76_166.2.2.2.1, rfl⟩
theorem zd_14_76_175 : zz_D zy_reckon_14_76 175 (.aload_n 0) 1 176 := ⟨zg_14_76_166.2.2.2.2.1, rfl⟩
theorem zd_14_76_176 : zz_D zy_reckon_14_76 176 (.getfield 97) 3 179 := ⟨zg_14_76_166.2.2.2.2.2.1, rfl⟩
theorem zd_14_76_179 : zz_D zy_reckon_14_76 179 (.iload_n 2) 1 180 := ⟨zg_14_76_166.2.2.2.2.2.2.1, rfl⟩
theorem zd_14_76_180 : zz_D zy_reckon_14_76 180 (.iaload) 1 181 := ⟨zg_14_76_166.2.2.2.2.2.2.2.1, rfl⟩
theorem zd_14_76_181 : zz_D zy_reckon_14_76 181 (.iload_n 3) 1 182 := ⟨zg_14_76_166.2.2.2.2.2.2.2.2.1, rfl⟩
theorem zd_14_76_182 : zz_D zy_reckon_14_76 182 (.iadd) 1 183 := ⟨zg_14_76_166.2.2.2.2.2.2.2.2.2, rfl⟩
theorem zg_14_76_183 : (decode zy_reckon_14_76.2.1 183 = .ok ((.iload 7), 2)) ∧ (decode zy_reckon_14_76.2.1 185 = .ok ((.iastore), 1)) ∧ (decode zy_reckon_14_76.2.1 186 = .ok ((.iinc 3 1), 3)) ∧ (decode zy_reckon_14_76.2.1 189 = .ok (Instr.goto (-166), 3)) ∧ (decode zy_reckon_14_76.2.1 111 = .ok ((.aload_n 0), 1)) ∧ (decode zy_reckon_14_76.2.1 112 = .ok ((.iload_n 1), 1)) ∧ (decode zy_reckon_14_76.2.1 113 = .ok ((.iload 6), 2)) ∧ (decode zy_reckon_14_76.2.1 115 = .ok ((.iload 5), 2)) ∧ (decode zy_reckon_14_76.2.1 117 = .ok ((.iload 4), 2)) ∧ (decode zy_reckon_14_76.2.1 119 = .ok ((.invokevirtual 444), 3)) := by decide +kernel
theorem zd_14_76_183 : zz_D zy_reckon_14_76 183 (.iload 7) 2 185 := ⟨zg_14_76_183.1, rfl⟩
theorem zd_14_76_185 : zz_D zy_reckon_14_76 185 (.iastore) 1 186 := ⟨zg_14_76_183.2.1, rfl⟩
theorem zd_14_76_186 : zz_D zy_reckon_14_76 186 (.iinc 3 1) 3 189 := ⟨zg_14_76_183.2.2.1, rfl⟩
theorem zd_14_76_189 : zz_B zy_reckon_14_76 189 Instr.goto 23 192 := ⟨(-166), zg_14_76_183.2.2.2.1, rfl, rfl⟩
theorem zd_14_76_111 : zz_D zy_reckon_14_76 111 (.aload_n 0) 1 112 := ⟨zg_14_76_183.2.2.2.2.1, rfl⟩
theorem zd_14_76_112 : zz_D zy_reckon_14_76 112 (.iload_n 1) 1 113 := ⟨zg_14_76_183.2.2.2.2.2.1, rfl⟩
theorem zd_14_76_113 : zz_D zy_reckon_14_76 113 (.iload 6) 2 115 := ⟨zg_14_76_183.2.2.2.2.2.2.1, rfl⟩
theorem zd_14_76_115 : zz_D zy_reckon_14_76 115 (.iload 5) 2 117 := ⟨zg_14_76_183.2.2.2.2.2.2.2.1, rfl⟩
theorem zd_14_76_117 : zz_D zy_reckon_14_76 117 (.iload 4) 2 119 := ⟨zg_14_76_183.2.2.2.2.2.2.2.2.1, rfl⟩
theorem zd_14_76_119 : zz_D zy_reckon_14_76 119 (.invokevirtual 444) 3 122 := ⟨zg_14_76_183.2.2.2.2.2.2.2.2.2, rfl⟩
theorem zg_14_76_122 : (decode zy_reckon_14_76.2.1 122 = .ok ((.istore 7), 2)) ∧ (decode zy_reckon_14_76.2.1 124 = .ok (Instr.goto 47, 3)) ∧ (decode zy_reckon_14_76.2.1 85 = .ok ((.aload_n 0), 1)) ∧ (decode zy_reckon_14_76.2.1 86 = .ok ((.iload_n 1), 1)) ∧ (decode zy_reckon_14_76.2.1 87 = .ok ((.iload 6), 2)) ∧ (decode zy_reckon_14_76.2.1 89 = .ok ((.iload 5), 2)) ∧ (decode zy_reckon_14_76.2.1 91 = .ok ((.iload 4), 2)) ∧ (decode zy_reckon_14_76.2.1 93 = .ok ((.invokevirtual 441), 3)) ∧ (decode zy_reckon_14_76.2.1 96 = .ok ((.istore 7), 2)) ∧ (decode zy_reckon_14_76.2.1 98 = .ok (Instr.goto 73, 3)) := by decide +kernel
theorem zd_14_76_122 : zz_D zy_reckon_14_76 122 (.istore 7) 2 124 := ⟨zg_14_76_122.1, rfl⟩
theorem zd_14_76_124 : zz_B zy_reckon_14_76 124 Instr.goto 171 127 := ⟨47, zg_14_76_122.2.1, rfl, rfl⟩
theorem zd_14_76_85 : zz_D zy_reckon_14_76 85 (.aload_n 0) 1 86 := ⟨zg_14_76_122.2.2.1, rfl⟩
theorem zd_14_76_86 : zz_D zy_reckon_14_76 86 (.iload_n 1) 1 87 := ⟨zg_14_76_122.2.2.2.1, rfl⟩
theorem zd_14_76_87 : zz_D zy_reckon_14_76 87 (.iload 6) 2 89 := ⟨zg_14_76_122.2.2.2.2.1, rfl⟩
theorem zd_14_76_89 : zz_D zy_reckon_14_76 89 (.iload 5) 2 91 := ⟨zg_14_76_122.2.2.2.2.2.1, rfl⟩
theorem zd_14_76_91 : zz_D zy_reckon_14_76 91 (.iload 4) 2 93 := ⟨zg_14_76_122.2.2.2.2.2.2.1, rfl⟩
theorem zd_14_76_93 : zz_D zy_reckon_14_76 93 (.invokevirtual 441) 3 96 := ⟨zg_14_76_122.2.2.2.2.2.2.2.1, rfl⟩
theorem zd_14_76_96 : zz_D zy_reckon_14_76 96 (.istore 7) 2 98 := ⟨zg_14_76_122.2.2.2.2.2.2.2.2.1, rfl⟩
theorem zd_14_76_98 : zz_B zy_reckon_14_76 98 Instr.goto 171 101 := ⟨73, zg_14_76_122.2.2.2.2.2.2.2.2.2, rfl, rfl⟩

-- TensorForgeModel setLayer (IIIIII)V
abbrev zr_setLayer_14_68 : Room := { frames := 0, cells := 0, slots := 0, locals := 0 }
def zp_setLayer_14_68 (p0 : Int) (p1 : Int) (p2 : Int) (p3 : Int) (p4 : Int) (p5 : Int) (S0 : zz_S) : zz_S → Prop := fun S => zz_G S ∧ zz_fr [] [] (fun a i => (a = 1109 ∧ i = p0.toNat) ∨ (a = 1110 ∧ i = p0.toNat) ∨ (a = 1111 ∧ i = p0.toNat) ∨ (a = 1112 ∧ i = p0.toNat) ∨ (a = 1113 ∧ i = p0.toNat)) S0 S ∧ (S 1109 p0.toNat = p1 ∧ S 1110 p0.toNat = p2 ∧ S 1111 p0.toNat = p3 ∧ S 1112 p0.toNat = p4 ∧ S 1113 p0.toNat = p5)
theorem zc_setLayer_14_68 {g : mm_G} {l : Launch} (p0 : Int) (p1 : Int) (p2 : Int) (p3 : Int) (p4 : Int) (p5 : Int) (S0 : zz_S) (n : Nat) (hn : zz_end ≤ n) (G_S0 : zz_G S0) (hp0 : 0 ≤ p0 ∧ p0 ≤ 9) (hp1 : 0 ≤ p1 ∧ p1 ≤ 3) (hp2 : 0 ≤ p2 ∧ p2 ≤ 3) (hp3 : 0 ≤ p3 ∧ p3 ≤ 3) (hp4 : 0 ≤ p4 ∧ p4 ≤ 1) (hp5 : 0 ≤ p5 ∧ p5 ≤ 31) : mm_Met g l zy_setLayer_14_68 zr_setLayer_14_68 [.ref 1079, zi p0, zi p1, zi p2, zi p3, zi p4, zi p5] (zz_M S0 n) n (zz_QV n (zp_setLayer_14_68 p0 p1 p2 p3 p4 p5 S0)) := by
  refine zz_enter (by decide) (Nat.le_of_ble_eq_true rfl) (zz_less (ls1 := [some (.ref 1079), some (zi p0), some (zi p1), some (zi p2), some (zi p3), some (zi p4), some (zi p5)]) ⟨rfl, ⟨rfl, ⟨rfl, ⟨rfl, ⟨rfl, ⟨rfl, ⟨rfl, trivial⟩⟩⟩⟩⟩⟩⟩ ?_)
  have F_S0 : zz_fr [] [] (fun a i => (a = 1109 ∧ i = p0.toNat) ∨ (a = 1110 ∧ i = p0.toNat) ∨ (a = 1111 ∧ i = p0.toNat) ∨ (a = 1112 ∧ i = p0.toNat) ∨ (a = 1113 ∧ i = p0.toNat)) S0 S0 := zz_fr.refl
  refine zz_aload_n (x := 1079) rfl zd_14_68_0 ?_
  refine zz_getr (kd := 0) (z := 1109) zd_14_68_1 zf_Md_109 zT_1079 rfl (zz_ltn hn rfl) (zz_G.eq G_S0 1079 44 1109 rfl rfl) (by decide) 1109 rfl ?_
  refine zz_iload_n (x := p0) rfl zd_14_68_4 ?_
  refine zz_iload_n (x := p1) rfl zd_14_68_5 ?_
  refine zz_iast zd_14_68_6 zT_1109 rfl (zz_ltn hn rfl) (by decide) (by omega) (fun S1 qS1 => ?_)
  have G_S1 := zz_G.put G_S0 qS1 0 3 rfl (by omega)
  have F_S1 := zz_fr.putv F_S0 qS1 (Or.inl ⟨rfl, rfl⟩)
  refine zz_aload_n (x := 1079) rfl zd_14_68_7 ?_
  refine zz_getr (kd := 0) (z := 1110) zd_14_68_8 zf_Md_112 zT_1079 rfl (zz_ltn hn rfl) (zz_G.eq G_S1 1079 45 1110 rfl rfl) (by decide) 1110 rfl ?_
  refine zz_iload_n (x := p0) rfl zd_14_68_11 ?_
  refine zz_iload_n (x := p2) rfl zd_14_68_12 ?_
  refine zz_iast zd_14_68_13 zT_1110 rfl (zz_ltn hn rfl) (by decide) (by omega) (fun S2 qS2 => ?_)
  have G_S2 := zz_G.put G_S1 qS2 0 3 rfl (by omega)
  have F_S2 := zz_fr.putv F_S1 qS2 (Or.inr (Or.inl ⟨rfl, rfl⟩))
  refine zz_aload_n (x := 1079) rfl zd_14_68_14 ?_
  refine zz_getr (kd := 0) (z := 1111) zd_14_68_15 zf_Md_115 zT_1079 rfl (zz_ltn hn rfl) (zz_G.eq G_S2 1079 46 1111 rfl rfl) (by decide) 1111 rfl ?_
  refine zz_iload_n (x := p0) rfl zd_14_68_18 ?_
  refine zz_iload (x := p3) rfl zd_14_68_19 ?_
  refine zz_iast zd_14_68_21 zT_1111 rfl (zz_ltn hn rfl) (by decide) (by omega) (fun S3 qS3 => ?_)
  have G_S3 := zz_G.put G_S2 qS3 0 3 rfl (by omega)
  have F_S3 := zz_fr.putv F_S2 qS3 (Or.inr (Or.inr (Or.inl ⟨rfl, rfl⟩)))
  refine zz_aload_n (x := 1079) rfl zd_14_68_22 ?_
  refine zz_getr (kd := 0) (z := 1112) zd_14_68_23 zf_Md_118 zT_1079 rfl (zz_ltn hn rfl) (zz_G.eq G_S3 1079 47 1112 rfl rfl) (by decide) 1112 rfl ?_
  refine zz_iload_n (x := p0) rfl zd_14_68_26 ?_
  refine zz_iload (x := p4) rfl zd_14_68_27 ?_
  refine zz_iast zd_14_68_29 zT_1112 rfl (zz_ltn hn rfl) (by decide) (by omega) (fun S4 qS4 => ?_)
  have G_S4 := zz_G.put G_S3 qS4 0 1 rfl (by omega)
  have F_S4 := zz_fr.putv F_S3 qS4 (Or.inr (Or.inr (Or.inr (Or.inl ⟨rfl, rfl⟩))))
  refine zz_aload_n (x := 1079) rfl zd_14_68_30 ?_
  refine zz_getr (kd := 0) (z := 1113) zd_14_68_31 zf_Md_121 zT_1079 rfl (zz_ltn hn rfl) (zz_G.eq G_S4 1079 48 1113 rfl rfl) (by decide) 1113 rfl ?_
  refine zz_iload_n (x := p0) rfl zd_14_68_34 ?_
  refine zz_iload (x := p5) rfl zd_14_68_35 ?_
  refine zz_iast zd_14_68_37 zT_1113 rfl (zz_ltn hn rfl) (by decide) (by omega) (fun S5 qS5 => ?_)
  have G_S5 := zz_G.put G_S4 qS5 0 31 rfl (by omega)
  have F_S5 := zz_fr.putv F_S4 qS5 (Or.inr (Or.inr (Or.inr (Or.inr (⟨rfl, rfl⟩)))))
  have e6 : S5 1109 p0.toNat = p1 := (zz_ro qS5 (fun h => absurd h.1 (by decide)) (zz_ro qS4 (fun h => absurd h.1 (by decide)) (zz_ro qS3 (fun h => absurd h.1 (by decide)) (zz_ro qS2 (fun h => absurd h.1 (by decide)) (zz_rs qS1)))))
  have e7 : S5 1110 p0.toNat = p2 := (zz_ro qS5 (fun h => absurd h.1 (by decide)) (zz_ro qS4 (fun h => absurd h.1 (by decide)) (zz_ro qS3 (fun h => absurd h.1 (by decide)) (zz_rs qS2))))
  have e8 : S5 1111 p0.toNat = p3 := (zz_ro qS5 (fun h => absurd h.1 (by decide)) (zz_ro qS4 (fun h => absurd h.1 (by decide)) (zz_rs qS3)))
  have e9 : S5 1112 p0.toNat = p4 := (zz_ro qS5 (fun h => absurd h.1 (by decide)) (zz_rs qS4))
  have e10 : S5 1113 p0.toNat = p5 := (zz_rs qS5)
  exact zz_vret zd_14_68_38 rfl (Nat.zero_le _) (Nat.zero_le _) ⟨_, rfl, G_S5, F_S5, by omega⟩
theorem zk_Md_430 : mm_Vl "TensorForgeModel" 430 11 6 zy_setLayer_14_68 := ⟨zyw_setLayer_14_68, (R_Md, F_Md, 69), rfl, mm_tb_1 2097 (by decide +kernel) rfl, mm_tb_1 2099 (by decide +kernel) rfl, mm_tb_s 122 (by decide +kernel) rfl⟩
theorem zf_Md_124 : mm_Fl "TensorForgeModel" 124 11 49 (.array .int) true := ⟨R_Md, F_Md, 69, t_Md, rfl, i_Md, by decide, mm_tb_1 1660 (by decide +kernel) rfl, rfl, t_Md_ok, n_Md, rfl, by decide +kernel⟩
theorem zg_14_67_362 : zq_at zy_convolution_14_67.2.1 362 42 ∧ zq_at zy_convolution_14_67.2.1 363 180 ∧ zq_at zy_convolution_14_67.2.1 364 0 ∧ zq_at zy_convolution_14_67.2.1 365 124 ∧ zq_at zy_convolution_14_67.2.1 366 21 ∧ zq_at zy_convolution_14_67.2.1 367 17 ∧ zq_at zy_convolution_14_67.2.1 368 21 ∧ zq_at zy_convolution_14_67.2.1 369 6 ∧ zq_at zy_convolution_14_67.2.1 370 79 ∧ zq_at zy_convolution_14_67.2.1 371 21 ∧ zq_at zy_convolution_14_67.2.1 372 18 ∧ zq_at zy_convolution_14_67.2.1 373 172 ∧ zq_at zy_convolution_14_67.2.1 344 3 ∧ zq_at zy_convolution_14_67.2.1 345 172 := by decide +kernel
theorem zd_14_67_362 : zz_D zy_convolution_14_67 362 (.aload_n 0) 1 363 := ⟨zq_42 zg_14_67_362.1, rfl⟩
theorem zd_14_67_363 : zz_D zy_convolution_14_67 363 (.getfield 124) 3 366 := ⟨zq_180 zg_14_67_362.2.1 zg_14_67_362.2.2.1 zg_14_67_362.2.2.2.1 rfl, rfl⟩
theorem zd_14_67_366 : zz_D zy_convolution_14_67 366 (.iload 17) 2 368 := ⟨zq_21 zg_14_67_362.2.2.2.2.1 zg_14_67_362.2.2.2.2.2.1, rfl⟩
theorem zd_14_67_368 : zz_D zy_convolution_14_67 368 (.iload 6) 2 370 := ⟨zq_21 zg_14_67_362.2.2.2.2.2.2.1 zg_14_67_362.2.2.2.2.2.2.2.1, rfl⟩
theorem zd_14_67_370 : zz_D zy_convolution_14_67 370 (.iastore) 1 371 := ⟨zq_79 zg_14_67_362.2.2.2.2.2.2.2.2.1, rfl⟩
theorem zd_14_67_371 : zz_D zy_convolution_14_67 371 (.iload 18) 2 373 := ⟨zq_21 zg_14_67_362.2.2.2.2.2.2.2.2.2.1 zg_14_67_362.2.2.2.2.2.2.2.2.2.2.1, rfl⟩
theorem zd_14_67_373 : zz_D zy_convolution_14_67 373 (.ireturn) 1 374 := ⟨zq_172 zg_14_67_362.2.2.2.2.2.2.2.2.2.2.2.1, rfl⟩
theorem zd_14_67_344 : zz_D zy_convolution_14_67 344 (.iconst 0) 1 345 := ⟨zq_3 zg_14_67_362.2.2.2.2.2.2.2.2.2.2.2.2.1, rfl⟩
theorem zd_14_67_345 : zz_D zy_convolution_14_67 345 (.ireturn) 1 346 := ⟨zq_172 zg_14_67_362.2.2.2.2.2.2.2.2.2.2.2.2.2, rfl⟩
-- TensorForgeModel convolution (IIIIII)I
abbrev zr_convolution_14_67 : Room := { frames := 2, cells := 0, slots := 0, locals := 33 }
def zp_convolution_14_67 (p0 : Int) (p1 : Int) (p2 : Int) (p3 : Int) (p4 : Int) (p5 : Int) (S0 : zz_S) : Int → zz_S → Prop := fun r S => zz_G S ∧ zz_fr [(1079, 0), (1079, 36)] [] (fun a i => (a = 1102 ∧ i = (S0 1079 36).toNat) ∨ (a = 1103 ∧ i = (S0 1079 36).toNat) ∨ (a = 1104 ∧ i = (S0 1079 36).toNat) ∨ (a = 1105 ∧ i = ((S0 1079 36) + 1).toNat) ∨ (a = 1106 ∧ i = ((S0 1079 36) - 1).toNat) ∨ (a = 1107 ∧ i = ((S0 1079 36) - 1).toNat) ∨ (a = 1109 ∧ i = ((S0 1079 36) - 1).toNat) ∨ (a = 1110 ∧ i = ((S0 1079 36) - 1).toNat) ∨ (a = 1111 ∧ i = ((S0 1079 36) - 1).toNat) ∨ (a = 1112 ∧ i = ((S0 1079 36) - 1).toNat) ∨ (a = 1113 ∧ i = ((S0 1079 36) - 1).toNat) ∨ (a = 1114 ∧ i = ((S0 1079 36) - 1).toNat)) S0 S ∧ (0 ≤ r ∧ r ≤ 10) ∧ (S 1079 36 ≥ S0 1079 36) ∧ (∀ v : zn_T, zn_M S0 v → zn_V v → zn_F v 1 p0 p0 (p1.tdiv 10) (p1.tmod 10) (p3.tdiv 10) (p3.tmod 10) (zn_sh p4) p2 p5 (S 1079 0) ∧ (S 1079 0 = 0 → r = v 15 0 ∧ ∀ nm : Int, zn_M S (zn_nw v 1 p0 p0 (p1.tdiv 10) (p1.tmod 10) (p3.tdiv 10) (p3.tmod 10) (zn_sh p4) (zn_rl p4) p2 p5 nm)) ∧ (S 1079 0 ≠ 0 → zn_M S v)) ∧ (zz_Hr S)
set_option maxHeartbeats 4000000 in
theorem zb_convolution_14_67_316 {g : mm_G} {l : Launch} (p0 : Int) (p1 : Int) (p2 : Int) (p3 : Int) (p4 : Int) (p5 : Int) (S0 : zz_S) (n : Nat) (hn : zz_end ≤ n) (G_S0 : zz_G S0) (hp0 : (-2147483648) ≤ p0 ∧ p0 ≤ 2147483647) (hp1 : (-2147483648) ≤ p1 ∧ p1 ≤ 2147483647) (hp2 : (-2147483648) ≤ p2 ∧ p2 ≤ 2147483647) (hp3 : (-2147483648) ≤ p3 ∧ p3 ≤ 2147483647) (hp4 : (-2147483648) ≤ p4 ∧ p4 ≤ 2147483647) (hp5 : (-2147483648) ≤ p5 ∧ p5 ≤ 2147483647) (R_S0 : zz_Hr S0) (x7 : Int) (x8 : Int) (x9 : Int) (x10 : Int) (x12 : Int) (x13 : Int) (S : zz_S) (G_S : zz_G S) (F_S : zz_fr [(1079, 0), (1079, 36)] [] (fun a i => (a = 1102 ∧ i = (S0 1079 36).toNat) ∨ (a = 1103 ∧ i = (S0 1079 36).toNat) ∨ (a = 1104 ∧ i = (S0 1079 36).toNat) ∨ (a = 1105 ∧ i = ((S0 1079 36) + 1).toNat) ∨ (a = 1106 ∧ i = ((S0 1079 36) - 1).toNat) ∨ (a = 1107 ∧ i = ((S0 1079 36) - 1).toNat) ∨ (a = 1109 ∧ i = ((S0 1079 36) - 1).toNat) ∨ (a = 1110 ∧ i = ((S0 1079 36) - 1).toNat) ∨ (a = 1111 ∧ i = ((S0 1079 36) - 1).toNat) ∨ (a = 1112 ∧ i = ((S0 1079 36) - 1).toNat) ∨ (a = 1113 ∧ i = ((S0 1079 36) - 1).toNat) ∨ (a = 1114 ∧ i = ((S0 1079 36) - 1).toNat)) S0 S) (i316_0 : 1 ≤ x7 ∧ x7 ≤ 3) (i316_1 : 1 ≤ x8 ∧ x8 ≤ 3) (i316_2 : 1 ≤ x9 ∧ x9 ≤ 2) (i316_3 : 0 ≤ x10 ∧ x10 ≤ 1) (i316_4 : 1 ≤ x12 ∧ x12 ≤ 63) (i316_5 : 1 ≤ x13 ∧ x13 ≤ 63) (i316_6 : 0 ≤ p4 ∧ p4 ≤ 31) (i316_7 : 0 ≤ p5 ∧ p5 ≤ 4096) (i316_8 : 1 ≤ p2 ∧ p2 ≤ 16) (i316_9 : 10 ≤ p3 ∧ p3 ≤ 21) (i316_10 : 11 ≤ p1 ∧ p1 ≤ 33) (i316_11 : 11 ≤ p1 ∧ p1 ≤ 33) (i316_12 : 1 ≤ p2 ∧ p2 ≤ 16) (i316_13 : 10 ≤ p3 ∧ p3 ≤ 21) (i316_14 : 0 ≤ p4 ∧ p4 ≤ 31) (i316_15 : 0 ≤ p5 ∧ p5 ≤ 4096) (i316_16 : S 1079 36 = S0 1079 36) (i316_17 : 0 ≤ p0 ∧ p0 ≤ S0 1079 36 - 1) (i316_18 : p5 + p2 * (4 + ((x7 * x8) * (S0 1104 p0.toNat))) ≤ 4096) (i316_19 : ∀ a i : Nat, 1102 ≤ a → a ≤ 1114 → S a i = S0 a i) (i316_20 : x7 = p1.tdiv 10 ∧ x8 = p1.tmod 10 ∧ x9 = p3.tdiv 10 ∧ x10 = p3.tmod 10) (i316_21 : x12 = (S0 1102 p0.toNat + 2 * x10 - x7) / x9 + 1 ∧ x13 = (S0 1103 p0.toNat + 2 * x10 - x8) / x9 + 1) (i316_22 : 0 ≤ S0 1102 p0.toNat + 2 * x10 - x7 ∧ 0 ≤ S0 1103 p0.toNat + 2 * x10 - x8) (i316_23 : (1 ≤ p2 ∧ p2 ≤ 16) ∧ (0 ≤ p4 ∧ p4 ≤ 31) ∧ 0 ≤ p5) (i316_24 : zz_Hr S) (R : Nat) (hR : 0 = R)  : zz_E g l zy_convolution_14_67 zr_convolution_14_67 (zz_QI n (zp_convolution_14_67 p0 p1 p2 p3 p4 p5 S0)) S n 316 [some (.ref 1079), some (zi p0), none, some (zi p2), none, some (zi p4), some (zi p5), some (zi x7), some (zi x8), some (zi x9), some (zi x10), none, some (zi x12), some (zi x13)] [] 0 0 := by
  have R_S := i316_24
  refine zz_aload_n (x := 1079) rfl zd_14_67_316 ?_
  have g306 := zz_G.r G_S 1079 36 0 11 rfl rfl
  refine zz_geti (z := S0 1079 36) zd_14_67_317 zf_Md_85 zT_1079 rfl (zz_ltn hn rfl) (by omega) ?_
  refine zz_iconst zd_14_67_320 ?_
  refine zz_isub zd_14_67_321 ?_
  refine zz_istore [some (.ref 1079), some (zi p0), none, some (zi p2), none, some (zi p4), some (zi p5), some (zi x7), some (zi x8), some (zi x9), some (zi x10), none, some (zi x12), some (zi x13), none, none, none, some (zi ((S0 1079 36) - 1))] zd_14_67_322 (by decide) rfl ?_
  refine zz_aload_n (x := 1079) rfl zd_14_67_324 ?_
  refine zz_iconst zd_14_67_325 ?_
  refine zz_iload_n (x := p0) rfl zd_14_67_326 ?_
  refine zz_iload (x := x12) rfl zd_14_67_327 ?_
  refine zz_iload (x := x13) rfl zd_14_67_329 ?_
  refine zz_iload_n (x := p2) rfl zd_14_67_331 ?_
  have g307 := zz_G.r G_S 1079 0 0 3 rfl rfl
  have g308 := zz_G.r G_S 1102 ((S 1079 36).toNat) 0 63 rfl rfl
  have g309 := zz_G.r G_S 1103 ((S 1079 36).toNat) 0 63 rfl rfl
  have g310 := zz_G.r G_S 1104 ((S 1079 36).toNat) 0 63 rfl rfl
  have g311 := zz_G.r G_S 1105 ((S 1079 36).toNat) (0) (if (S 1079 36).toNat = 0 then 0 else 10000000) rfl rfl
  have g312 := zz_G.r G_S 1106 ((S 1079 36 - 1).toNat) 0 2 rfl rfl
  have g313 := zz_G.r G_S 1107 ((S 1079 36 - 1).toNat) 0 10 rfl rfl
  have g314 := zz_G.r G_S 1105 ((S 1079 36 + 1).toNat) (0) (if (S 1079 36 + 1).toNat = 0 then 0 else 10000000) rfl rfl
  refine zz_callVI [zi 0, zi p0, zi x12, zi x13, zi p2] zd_14_67_332 zk_Md_426 zT_1079 (zz_ltn hn rfl) rfl rfl ⟨Nat.le_of_ble_eq_true rfl, Nat.le_of_ble_eq_true rfl⟩ ⟨rfl, rfl⟩ (Nat.zero_le _) (Nat.zero_le _) (zc_add_14_65 0 p0 x12 x13 p2 S n hn G_S (by omega) (by omega) (by omega) (by omega) (by omega) (by omega)) (fun v316 S315 hP => ?_)
  obtain ⟨G_S315, fS315, o317, o318, o319, o320, o321, o322, o323⟩ := hP
  rw [show S 1079 36 = S0 1079 36 from (by omega)] at o318
  rw [show S 1079 36 = S0 1079 36 from (by omega)] at o320
  rw [show S 1079 36 = S0 1079 36 from (by omega)] at o322
  rw [show S 1079 36 = S0 1079 36 from (by omega)] at o323
  rw [show S 1079 36 = S0 1079 36 from (by omega)] at fS315
  have F_S315 := zz_fr.trans F_S fS315 rfl (fun a i h => by rcases h with h | h | h | h | h | h; exact Or.inr (Or.inr (Or.inl h)); exact Or.inr (Or.inr (Or.inr (Or.inl h))); exact Or.inr (Or.inr (Or.inr (Or.inr (Or.inl h)))); exact Or.inr (Or.inr (Or.inr (Or.inr (Or.inr (Or.inl h))))); exact Or.inr (Or.inr (Or.inr (Or.inr (Or.inr (Or.inr (Or.inl h)))))); exact Or.inr (Or.inr (Or.inr (Or.inr (Or.inr (Or.inr (Or.inr (Or.inl h))))))))
  refine zz_istore [some (.ref 1079), some (zi p0), none, some (zi p2), none, some (zi p4), some (zi p5), some (zi x7), some (zi x8), some (zi x9), some (zi x10), none, some (zi x12), some (zi x13), none, none, none, some (zi ((S0 1079 36) - 1)), some (zi v316)] zd_14_67_335 (by decide) rfl ?_
  refine zz_aload_n (x := 1079) rfl zd_14_67_337 ?_
  have g324 := zz_G.r G_S315 1079 0 0 3 rfl rfl
  refine zz_geti (z := S315 1079 0) zd_14_67_338 zf_Md_187 zT_1079 rfl (zz_ltn hn rfl) rfl ?_
  refine zz_if_le (by omega) zd_14_67_341 (fun c325 => ?_) (fun c325 => ?_)
  · refine zz_aload_n (x := 1079) rfl zd_14_67_346 ?_
    refine zz_iload (x := (S0 1079 36) - 1) rfl zd_14_67_347 ?_
    refine zz_iload (x := x7) rfl zd_14_67_349 ?_
    refine zz_iload (x := x8) rfl zd_14_67_351 ?_
    refine zz_iload (x := x9) rfl zd_14_67_353 ?_
    refine zz_iload (x := x10) rfl zd_14_67_355 ?_
    refine zz_iload (x := p4) rfl zd_14_67_357 ?_
    refine zz_callVV [zi ((S0 1079 36) - 1), zi x7, zi x8, zi x9, zi x10, zi p4] zd_14_67_359 zk_Md_430 zT_1079 (zz_ltn hn rfl) rfl rfl ⟨Nat.le_of_ble_eq_true rfl, Nat.le_of_ble_eq_true rfl⟩ ⟨rfl, rfl⟩ (Nat.zero_le _) (Nat.zero_le _) (zc_setLayer_14_68 ((S0 1079 36) - 1) x7 x8 x9 x10 p4 S315 n hn G_S315 (by omega) (by omega) (by omega) (by omega) (by omega) (by omega)) (fun S326 hP => ?_)
    obtain ⟨G_S326, fS326, o328⟩ := hP
    have F_S326 := zz_fr.trans F_S315 fS326 rfl (fun a i h => by rcases h with h | h | h | h | h; exact Or.inr (Or.inr (Or.inr (Or.inr (Or.inr (Or.inr (Or.inr (Or.inr (Or.inl h)))))))); exact Or.inr (Or.inr (Or.inr (Or.inr (Or.inr (Or.inr (Or.inr (Or.inr (Or.inr (Or.inl h))))))))); exact Or.inr (Or.inr (Or.inr (Or.inr (Or.inr (Or.inr (Or.inr (Or.inr (Or.inr (Or.inr (Or.inl h)))))))))); exact Or.inr (Or.inr (Or.inr (Or.inr (Or.inr (Or.inr (Or.inr (Or.inr (Or.inr (Or.inr (Or.inr (Or.inl h))))))))))); exact Or.inr (Or.inr (Or.inr (Or.inr (Or.inr (Or.inr (Or.inr (Or.inr (Or.inr (Or.inr (Or.inr (Or.inr (Or.inl h)))))))))))))
    refine zz_aload_n (x := 1079) rfl zd_14_67_362 ?_
    refine zz_getr (kd := 0) (z := 1114) zd_14_67_363 zf_Md_124 zT_1079 rfl (zz_ltn hn rfl) (zz_G.eq G_S326 1079 49 1114 rfl rfl) (by decide) 1114 rfl ?_
    refine zz_iload (x := (S0 1079 36) - 1) rfl zd_14_67_366 ?_
    refine zz_iload (x := p5) rfl zd_14_67_368 ?_
    refine zz_iast zd_14_67_370 zT_1114 rfl (zz_ltn hn rfl) (by decide) (by omega) (fun S329 qS329 => ?_)
    have G_S329 := zz_G.put G_S326 qS329 0 4096 rfl (by omega)
    have F_S329 := zz_fr.putv F_S326 qS329 (Or.inr (Or.inr (Or.inr (Or.inr (Or.inr (Or.inr (Or.inr (Or.inr (Or.inr (Or.inr (Or.inr (⟨rfl, rfl⟩))))))))))))
    refine zz_iload (x := v316) rfl zd_14_67_371 ?_
    have g330 := zz_G.r G_S315 1079 36 0 11 rfl rfl
    have e331 : S329 1079 36 = S315 1079 36 := (zz_ro qS329 (fun h => absurd h.1 (by decide)) (zz_rc fS326 rfl rfl (by first | decide | (intro h; rcases h with h | h | h | h | h; exact absurd h.1 (by decide); exact absurd h.1 (by decide); exact absurd h.1 (by decide); exact absurd h.1 (by decide); exact absurd h.1 (by decide)) | omega) rfl))
    have e332 : S329 1079 0 = S315 1079 0 := (zz_ro qS329 (fun h => absurd h.1 (by decide)) (zz_rc fS326 rfl rfl (by first | decide | (intro h; rcases h with h | h | h | h | h; exact absurd h.1 (by decide); exact absurd h.1 (by decide); exact absurd h.1 (by decide); exact absurd h.1 (by decide); exact absurd h.1 (by decide)) | omega) rfl))
    have ha9 := o320 (by omega)
    have ht9 := R_S0.1 p0.toNat (by omega)
    unfold zz_tn at ht9
    have hk5 := i316_19 1105 (S0 1079 36).toNat (by decide) (by decide)
    have g333 := zz_G.r G_S315 1102 ((S0 1079 36).toNat) 0 63 rfl rfl
    have e334 : S329 1102 (S0 1079 36).toNat = S315 1102 (S0 1079 36).toNat := (zz_ro qS329 (fun h => absurd h.1 (by decide)) (zz_rc fS326 (zz_nc1 rfl) rfl (by first | decide | (intro h; rcases h with h | h | h | h | h; exact absurd h.1 (by decide); exact absurd h.1 (by decide); exact absurd h.1 (by decide); exact absurd h.1 (by decide); exact absurd h.1 (by decide)) | omega) rfl))
    have g335 := zz_G.r G_S315 1103 ((S0 1079 36).toNat) 0 63 rfl rfl
    have e336 : S329 1103 (S0 1079 36).toNat = S315 1103 (S0 1079 36).toNat := (zz_ro qS329 (fun h => absurd h.1 (by decide)) (zz_rc fS326 (zz_nc1 rfl) rfl (by first | decide | (intro h; rcases h with h | h | h | h | h; exact absurd h.1 (by decide); exact absurd h.1 (by decide); exact absurd h.1 (by decide); exact absurd h.1 (by decide); exact absurd h.1 (by decide)) | omega) rfl))
    have g337 := zz_G.r G_S315 1104 ((S0 1079 36).toNat) 0 63 rfl rfl
    have e338 : S329 1104 (S0 1079 36).toNat = S315 1104 (S0 1079 36).toNat := (zz_ro qS329 (fun h => absurd h.1 (by decide)) (zz_rc fS326 (zz_nc1 rfl) rfl (by first | decide | (intro h; rcases h with h | h | h | h | h; exact absurd h.1 (by decide); exact absurd h.1 (by decide); exact absurd h.1 (by decide); exact absurd h.1 (by decide); exact absurd h.1 (by decide)) | omega) rfl))
    have g339 := zz_G.r G_S315 1105 ((S0 1079 36).toNat) (0) (if (S0 1079 36).toNat = 0 then 0 else 10000000) rfl rfl
    have e340 : S329 1105 (S0 1079 36).toNat = S315 1105 (S0 1079 36).toNat := (zz_ro qS329 (fun h => absurd h.1 (by decide)) (zz_rc fS326 (zz_nc1 rfl) rfl (by first | decide | (intro h; rcases h with h | h | h | h | h; exact absurd h.1 (by decide); exact absurd h.1 (by decide); exact absurd h.1 (by decide); exact absurd h.1 (by decide); exact absurd h.1 (by decide)) | omega) rfl))
    have g341 := zz_G.r G_S315 1106 ((S0 1079 36 - 1).toNat) 0 2 rfl rfl
    have e342 : S329 1106 (S0 1079 36 - 1).toNat = S315 1106 (S0 1079 36 - 1).toNat := (zz_ro qS329 (fun h => absurd h.1 (by decide)) (zz_rc fS326 (zz_nc1 rfl) rfl (by first | decide | (intro h; rcases h with h | h | h | h | h; exact absurd h.1 (by decide); exact absurd h.1 (by decide); exact absurd h.1 (by decide); exact absurd h.1 (by decide); exact absurd h.1 (by decide)) | omega) rfl))
    have g343 := zz_G.r G_S315 1107 ((S0 1079 36 - 1).toNat) 0 10 rfl rfl
    have e344 : S329 1107 (S0 1079 36 - 1).toNat = S315 1107 (S0 1079 36 - 1).toNat := (zz_ro qS329 (fun h => absurd h.1 (by decide)) (zz_rc fS326 (zz_nc1 rfl) rfl (by first | decide | (intro h; rcases h with h | h | h | h | h; exact absurd h.1 (by decide); exact absurd h.1 (by decide); exact absurd h.1 (by decide); exact absurd h.1 (by decide); exact absurd h.1 (by decide)) | omega) rfl))
    have g345 := zz_G.r G_S0 1108 ((S0 1079 36 - 1).toNat) 0 10 rfl rfl
    have e346 : S329 1108 (S0 1079 36 - 1).toNat = S0 1108 (S0 1079 36 - 1).toNat := (zz_ro qS329 (fun h => absurd h.1 (by decide)) (zz_rc fS326 (zz_nc1 rfl) rfl (by first | decide | (intro h; rcases h with h | h | h | h | h; exact absurd h.1 (by decide); exact absurd h.1 (by decide); exact absurd h.1 (by decide); exact absurd h.1 (by decide); exact absurd h.1 (by decide)) | omega) (zz_rc fS315 (zz_nc1 rfl) rfl (by first | decide | (intro h; rcases h with h | h | h | h | h | h; exact absurd h.1 (by decide); exact absurd h.1 (by decide); exact absurd h.1 (by decide); exact absurd h.1 (by decide); exact absurd h.1 (by decide); exact absurd h.1 (by decide)) | omega) (zz_rc F_S (zz_nc1 rfl) rfl (by first | decide | (intro h; rcases h with h | h | h | h | h | h | h | h | h | h | h | h; exact absurd h.1 (by decide); exact absurd h.1 (by decide); exact absurd h.1 (by decide); exact absurd h.1 (by decide); exact absurd h.1 (by decide); exact absurd h.1 (by decide); exact absurd h.1 (by decide); exact absurd h.1 (by decide); exact absurd h.1 (by decide); exact absurd h.1 (by decide); exact absurd h.1 (by decide); exact absurd h.1 (by decide)) | omega) rfl))))
    have g347 := zz_G.r G_S326 1109 ((S0 1079 36 - 1).toNat) 0 3 rfl rfl
    have e348 : S329 1109 (S0 1079 36 - 1).toNat = S326 1109 (S0 1079 36 - 1).toNat := (zz_ro qS329 (fun h => absurd h.1 (by decide)) rfl)
    have g349 := zz_G.r G_S326 1110 ((S0 1079 36 - 1).toNat) 0 3 rfl rfl
    have e350 : S329 1110 (S0 1079 36 - 1).toNat = S326 1110 (S0 1079 36 - 1).toNat := (zz_ro qS329 (fun h => absurd h.1 (by decide)) rfl)
    have g351 := zz_G.r G_S326 1111 ((S0 1079 36 - 1).toNat) 0 3 rfl rfl
    have e352 : S329 1111 (S0 1079 36 - 1).toNat = S326 1111 (S0 1079 36 - 1).toNat := (zz_ro qS329 (fun h => absurd h.1 (by decide)) rfl)
    have e353 : S329 1114 (S0 1079 36 - 1).toNat = p5 := (zz_rs qS329)
    have g354 := zz_G.r G_S315 1105 ((S0 1079 36 + 1).toNat) (0) (if (S0 1079 36 + 1).toNat = 0 then 0 else 10000000) rfl rfl
    have e355 : S329 1105 (S0 1079 36 + 1).toNat = S315 1105 (S0 1079 36 + 1).toNat := (zz_ro qS329 (fun h => absurd h.1 (by decide)) (zz_rc fS326 (zz_nc1 rfl) rfl (by first | decide | (intro h; rcases h with h | h | h | h | h; exact absurd h.1 (by decide); exact absurd h.1 (by decide); exact absurd h.1 (by decide); exact absurd h.1 (by decide); exact absurd h.1 (by decide)) | omega) rfl))
    have g356 := zz_G.r G_S326 1112 ((S0 1079 36 - 1).toNat) 0 1 rfl rfl
    have e357 : S329 1112 (S0 1079 36 - 1).toNat = S326 1112 (S0 1079 36 - 1).toNat := (zz_ro qS329 (fun h => absurd h.1 (by decide)) rfl)
    have g358 := zz_G.r G_S326 1113 ((S0 1079 36 - 1).toNat) 0 31 rfl rfl
    have e359 : S329 1113 (S0 1079 36 - 1).toNat = S326 1113 (S0 1079 36 - 1).toNat := (zz_ro qS329 (fun h => absurd h.1 (by decide)) rfl)
    exact zz_iret zd_14_67_373 rfl (Nat.zero_le _) (Nat.zero_le _) ⟨_, _, rfl, G_S329, F_S329, by omega, by omega, (fun v hM hV => by have hi8 : (0 ≤ p0 ∧ p0 < S0 1079 36) ∧ 0 ≤ p0 ∧ p0 < S0 1079 36 := (by omega); have h7 := hV.1; have h6 := hM.1; obtain ⟨e7, e8, e9, e10⟩ := i316_20; rw [← e7, ← e8, ← e9, ← e10]; have q1 : zn_out 1 x7 x9 x10 (S0 1102 p0.toNat) = x12 := (zn_o1 ..).trans (by omega); have q2 : zn_out 1 x8 x9 x10 (S0 1103 p0.toNat) = x13 := (zn_o1 ..).trans (by omega); have q4 : zn_ch 1 p2 (S0 1104 p0.toNat) = p2 := zn_c1 ..; have q3 := zn_shx p4; have q5 := zn_nzM (K := 1) (kh := x7) (kw := x8) (st := x9) (ed := x10) (ch := p2) hM hi8.1.1 hi8.1.2; rw [q1, q2, q4] at q5; have q6 : S0 1105 (S0 1079 36).toNat = v 15 1 := (by rw [hM.1]; exact hM.2.1); have q7 : S 1105 (S0 1079 36).toNat = S0 1105 (S0 1079 36).toNat := i316_19 1105 (S0 1079 36).toNat (by decide) (by decide); have q8 := o323 (by omega); exact ⟨Or.inr (Or.inr (Or.inr ⟨by omega, (zn_inM hM).mpr hi8, (Or.inr ⟨by decide, ⟨by omega, by omega⟩, ⟨by omega, by omega⟩, Or.inr ⟨by decide, ⟨by omega, by omega⟩, ⟨by omega, by omega⟩, (zn_shx p4).2.mpr ⟨by omega, by omega⟩, by omega, by omega⟩⟩), ((zn_rsM hM hi8).mpr (Or.inr ⟨by decide, by omega, by omega, Or.inr ⟨by decide, by omega, by omega⟩, by omega, by omega⟩)), by omega, by omega⟩)), fun _ => ⟨by omega, fun nm => zn_M.up (T := (S0 1079 36).toNat) hM F_S329 rfl rfl (fun a i h => by omega) (by omega) (by omega) (by omega) hi8.1.1 hi8.1.2 (by rw [q1]; omega) (by rw [q2]; omega) (by rw [q4]; omega) (by rw [show (S0 1079 36).toNat + 1 = (S0 1079 36 + 1).toNat by omega, q1, q2, q4]; omega) (by rw [show (S0 1079 36).toNat - 1 = (S0 1079 36 - 1).toNat by omega]; exact (show S329 1106 (S0 1079 36 - 1).toNat = 0 by omega)) (by rw [show (S0 1079 36).toNat - 1 = (S0 1079 36 - 1).toNat by omega]; exact (show S329 1107 (S0 1079 36 - 1).toNat = p0 by omega)) (fun h => absurd h (by decide)) (by rw [show (S0 1079 36).toNat - 1 = (S0 1079 36 - 1).toNat by omega]; exact (show S329 1109 (S0 1079 36 - 1).toNat = x7 by omega)) (by rw [show (S0 1079 36).toNat - 1 = (S0 1079 36 - 1).toNat by omega]; exact (show S329 1110 (S0 1079 36 - 1).toNat = x8 by omega)) (by rw [show (S0 1079 36).toNat - 1 = (S0 1079 36 - 1).toNat by omega]; exact (show S329 1111 (S0 1079 36 - 1).toNat = x9 by omega)) (by rw [show (S0 1079 36).toNat - 1 = (S0 1079 36 - 1).toNat by omega]; exact (show S329 1112 (S0 1079 36 - 1).toNat = x10 by omega)) (by rw [show (S0 1079 36).toNat - 1 = (S0 1079 36 - 1).toNat by omega]; omega) (fun _ => (by rw [show (S0 1079 36).toNat - 1 = (S0 1079 36 - 1).toNat by omega]; exact (show S329 1114 (S0 1079 36 - 1).toNat = p5 by omega)))⟩, fun h => absurd (show S329 1079 0 = 0 by omega) h⟩), (zz_Hr.add (T := (S0 1079 36).toNat) (l := (S0 1079 36 - 1).toNat) F_S329 rfl rfl (fun a i h => by omega) R_S0 (by omega) (by omega) (by omega) (by unfold zz_tn zz_sz; rw [show S329 1102 (S0 1079 36).toNat = x12 by omega, show S329 1103 (S0 1079 36).toNat = x13 by omega, show S329 1104 (S0 1079 36).toNat = p2 by omega, show S329 1105 (S0 1079 36).toNat = S0 1105 (S0 1079 36).toNat by omega]; omega) (by unfold zz_la; rw [show S329 1106 (S0 1079 36 - 1).toNat = 0 by omega, show S329 1107 (S0 1079 36 - 1).toNat = p0 by omega, show S329 1109 (S0 1079 36 - 1).toNat = x7 by omega, show S329 1110 (S0 1079 36 - 1).toNat = x8 by omega, show S329 1114 (S0 1079 36 - 1).toNat = p5 by omega, show S329 1104 ((S0 1079 36 - 1).toNat + 1) = p2 by rw [show (S0 1079 36 - 1).toNat + 1 = (S0 1079 36).toNat by omega]; omega, show S329 1104 p0.toNat = S0 1104 p0.toNat from F_S329 1104 p0.toNat (zz_nc1 rfl) rfl (by omega)]; exact ⟨by omega, fun _ => ⟨by omega, by omega, by omega⟩, fun h => absurd h (by decide), fun h => absurd h (by decide)⟩))⟩
  · refine zz_iconst zd_14_67_344 ?_
    have g360 := zz_G.r G_S315 1079 36 0 11 rfl rfl
    exact zz_iret zd_14_67_345 rfl (Nat.zero_le _) (Nat.zero_le _) ⟨_, _, rfl, G_S315, F_S315, by omega, by omega, (fun v hM hV => by have hi8 : (0 ≤ p0 ∧ p0 < S0 1079 36) ∧ 0 ≤ p0 ∧ p0 < S0 1079 36 := (by omega); have h7 := hV.1; have h6 := hM.1; obtain ⟨e7, e8, e9, e10⟩ := i316_20; rw [← e7, ← e8, ← e9, ← e10]; have q1 : zn_out 1 x7 x9 x10 (S0 1102 p0.toNat) = x12 := (zn_o1 ..).trans (by omega); have q2 : zn_out 1 x8 x9 x10 (S0 1103 p0.toNat) = x13 := (zn_o1 ..).trans (by omega); have q4 : zn_ch 1 p2 (S0 1104 p0.toNat) = p2 := zn_c1 ..; have q3 := zn_shx p4; have q5 := zn_nzM (K := 1) (kh := x7) (kw := x8) (st := x9) (ed := x10) (ch := p2) hM hi8.1.1 hi8.1.2; rw [q1, q2, q4] at q5; have q6 : S0 1105 (S0 1079 36).toNat = v 15 1 := (by rw [hM.1]; exact hM.2.1); have q7 : S 1105 (S0 1079 36).toNat = S0 1105 (S0 1079 36).toNat := i316_19 1105 (S0 1079 36).toNat (by decide) (by decide); have q8 := o322 (by omega); exact ⟨Or.inr (Or.inr (Or.inl ⟨by omega, (zn_inM hM).mpr hi8, (Or.inr ⟨by decide, ⟨by omega, by omega⟩, ⟨by omega, by omega⟩, Or.inr ⟨by decide, ⟨by omega, by omega⟩, ⟨by omega, by omega⟩, (zn_shx p4).2.mpr ⟨by omega, by omega⟩, by omega, by omega⟩⟩), ((zn_rsM hM hi8).mpr (Or.inr ⟨by decide, by omega, by omega, Or.inr ⟨by decide, by omega, by omega⟩, by omega, by omega⟩)), fun h9 => by omega⟩)), fun h => absurd h (by omega), fun _ => o321 (by omega) v (hM.same i316_16 i316_19)⟩), (o319 (by omega) R_S)⟩
theorem zi_convolution_14_67 {g : mm_G} {l : Launch} (p0 : Int) (p1 : Int) (p2 : Int) (p3 : Int) (p4 : Int) (p5 : Int) (S0 : zz_S) (n : Nat) (hn : zz_end ≤ n) (G_S0 : zz_G S0) (hp0 : (-2147483648) ≤ p0 ∧ p0 ≤ 2147483647) (hp1 : (-2147483648) ≤ p1 ∧ p1 ≤ 2147483647) (hp2 : (-2147483648) ≤ p2 ∧ p2 ≤ 2147483647) (hp3 : (-2147483648) ≤ p3 ∧ p3 ≤ 2147483647) (hp4 : (-2147483648) ≤ p4 ∧ p4 ≤ 2147483647) (hp5 : (-2147483648) ≤ p5 ∧ p5 ≤ 2147483647) (R_S0 : zz_Hr S0) : ∀ N : Nat, (∀ (x7 : Int) (x8 : Int) (x9 : Int) (x10 : Int) (x12 : Int) (x13 : Int) (S : zz_S), zz_G S → zz_fr [(1079, 0), (1079, 36)] [] (fun a i => (a = 1102 ∧ i = (S0 1079 36).toNat) ∨ (a = 1103 ∧ i = (S0 1079 36).toNat) ∨ (a = 1104 ∧ i = (S0 1079 36).toNat) ∨ (a = 1105 ∧ i = ((S0 1079 36) + 1).toNat) ∨ (a = 1106 ∧ i = ((S0 1079 36) - 1).toNat) ∨ (a = 1107 ∧ i = ((S0 1079 36) - 1).toNat) ∨ (a = 1109 ∧ i = ((S0 1079 36) - 1).toNat) ∨ (a = 1110 ∧ i = ((S0 1079 36) - 1).toNat) ∨ (a = 1111 ∧ i = ((S0 1079 36) - 1).toNat) ∨ (a = 1112 ∧ i = ((S0 1079 36) - 1).toNat) ∨ (a = 1113 ∧ i = ((S0 1079 36) - 1).toNat) ∨ (a = 1114 ∧ i = ((S0 1079 36) - 1).toNat)) S0 S → (1 ≤ x7 ∧ x7 ≤ 3) → (1 ≤ x8 ∧ x8 ≤ 3) → (1 ≤ x9 ∧ x9 ≤ 2) → (0 ≤ x10 ∧ x10 ≤ 1) → (1 ≤ x12 ∧ x12 ≤ 63) → (1 ≤ x13 ∧ x13 ≤ 63) → (0 ≤ p4 ∧ p4 ≤ 31) → (0 ≤ p5 ∧ p5 ≤ 4096) → (1 ≤ p2 ∧ p2 ≤ 16) → (10 ≤ p3 ∧ p3 ≤ 21) → (11 ≤ p1 ∧ p1 ≤ 33) → (11 ≤ p1 ∧ p1 ≤ 33) → (1 ≤ p2 ∧ p2 ≤ 16) → (10 ≤ p3 ∧ p3 ≤ 21) → (0 ≤ p4 ∧ p4 ≤ 31) → (0 ≤ p5 ∧ p5 ≤ 4096) → (S 1079 36 = S0 1079 36) → (0 ≤ p0 ∧ p0 ≤ S0 1079 36 - 1) → (p5 + p2 * (4 + ((x7 * x8) * (S0 1104 p0.toNat))) ≤ 4096) → (∀ a i : Nat, 1102 ≤ a → a ≤ 1114 → S a i = S0 a i) → (x7 = p1.tdiv 10 ∧ x8 = p1.tmod 10 ∧ x9 = p3.tdiv 10 ∧ x10 = p3.tmod 10) → (x12 = (S0 1102 p0.toNat + 2 * x10 - x7) / x9 + 1 ∧ x13 = (S0 1103 p0.toNat + 2 * x10 - x8) / x9 + 1) → (0 ≤ S0 1102 p0.toNat + 2 * x10 - x7 ∧ 0 ≤ S0 1103 p0.toNat + 2 * x10 - x8) → ((1 ≤ p2 ∧ p2 ≤ 16) ∧ (0 ≤ p4 ∧ p4 ≤ 31) ∧ 0 ≤ p5) → (zz_Hr S) → 0 < N → zz_E g l zy_convolution_14_67 zr_convolution_14_67 (zz_QI n (zp_convolution_14_67 p0 p1 p2 p3 p4 p5 S0)) S n 316 [some (.ref 1079), some (zi p0), none, some (zi p2), none, some (zi p4), some (zi p5), some (zi x7), some (zi x8), some (zi x9), some (zi x10), none, some (zi x12), some (zi x13)] [] 0 0) := by
  intro N
  induction N with
  | zero => exact fun x7 x8 x9 x10 x12 x13 S _ _ _ _ _ _ _ _ _ _ _ _ _ _ _ _ _ _ _ _ _ _ _ _ _ _ _ h => absurd h (Nat.not_lt_zero _)
  | succ N ih =>
    exact fun x7 x8 x9 x10 x12 x13 S a b j0 j1 j2 j3 j4 j5 j6 j7 j8 j9 j10 j11 j12 j13 j14 j15 j16 j17 j18 j19 j20 j21 j22 j23 j24 hR => zb_convolution_14_67_316 p0 p1 p2 p3 p4 p5 S0 n hn G_S0 hp0 hp1 hp2 hp3 hp4 hp5 R_S0 x7 x8 x9 x10 x12 x13 S a b j0 j1 j2 j3 j4 j5 j6 j7 j8 j9 j10 j11 j12 j13 j14 j15 j16 j17 j18 j19 j20 j21 j22 j23 j24 _ rfl 
set_option maxHeartbeats 4000000 in
theorem zc_convolution_14_67 {g : mm_G} {l : Launch} (p0 : Int) (p1 : Int) (p2 : Int) (p3 : Int) (p4 : Int) (p5 : Int) (S0 : zz_S) (n : Nat) (hn : zz_end ≤ n) (G_S0 : zz_G S0) (hp0 : (-2147483648) ≤ p0 ∧ p0 ≤ 2147483647) (hp1 : (-2147483648) ≤ p1 ∧ p1 ≤ 2147483647) (hp2 : (-2147483648) ≤ p2 ∧ p2 ≤ 2147483647) (hp3 : (-2147483648) ≤ p3 ∧ p3 ≤ 2147483647) (hp4 : (-2147483648) ≤ p4 ∧ p4 ≤ 2147483647) (hp5 : (-2147483648) ≤ p5 ∧ p5 ≤ 2147483647) (R_S0 : zz_Hr S0) : mm_Met g l zy_convolution_14_67 zr_convolution_14_67 [.ref 1079, zi p0, zi p1, zi p2, zi p3, zi p4, zi p5] (zz_M S0 n) n (zz_QI n (zp_convolution_14_67 p0 p1 p2 p3 p4 p5 S0)) := by
  refine zz_enter (by decide) (Nat.le_of_ble_eq_true rfl) (zz_less (ls1 := [some (.ref 1079), some (zi p0), some (zi p1), some (zi p2), some (zi p3), some (zi p4), some (zi p5)]) ⟨rfl, ⟨rfl, ⟨rfl, ⟨rfl, ⟨rfl, ⟨rfl, ⟨rfl, trivial⟩⟩⟩⟩⟩⟩⟩ ?_)
  have F_S0 : zz_fr [(1079, 0), (1079, 36)] [] (fun a i => (a = 1102 ∧ i = (S0 1079 36).toNat) ∨ (a = 1103 ∧ i = (S0 1079 36).toNat) ∨ (a = 1104 ∧ i = (S0 1079 36).toNat) ∨ (a = 1105 ∧ i = ((S0 1079 36) + 1).toNat) ∨ (a = 1106 ∧ i = ((S0 1079 36) - 1).toNat) ∨ (a = 1107 ∧ i = ((S0 1079 36) - 1).toNat) ∨ (a = 1109 ∧ i = ((S0 1079 36) - 1).toNat) ∨ (a = 1110 ∧ i = ((S0 1079 36) - 1).toNat) ∨ (a = 1111 ∧ i = ((S0 1079 36) - 1).toNat) ∨ (a = 1112 ∧ i = ((S0 1079 36) - 1).toNat) ∨ (a = 1113 ∧ i = ((S0 1079 36) - 1).toNat) ∨ (a = 1114 ∧ i = ((S0 1079 36) - 1).toNat)) S0 S0 := zz_fr.refl
  have k316 : ∀ (x7 : Int) (x8 : Int) (x9 : Int) (x10 : Int) (x12 : Int) (x13 : Int) (S : zz_S), zz_G S → zz_fr [(1079, 0), (1079, 36)] [] (fun a i => (a = 1102 ∧ i = (S0 1079 36).toNat) ∨ (a = 1103 ∧ i = (S0 1079 36).toNat) ∨ (a = 1104 ∧ i = (S0 1079 36).toNat) ∨ (a = 1105 ∧ i = ((S0 1079 36) + 1).toNat) ∨ (a = 1106 ∧ i = ((S0 1079 36) - 1).toNat) ∨ (a = 1107 ∧ i = ((S0 1079 36) - 1).toNat) ∨ (a = 1109 ∧ i = ((S0 1079 36) - 1).toNat) ∨ (a = 1110 ∧ i = ((S0 1079 36) - 1).toNat) ∨ (a = 1111 ∧ i = ((S0 1079 36) - 1).toNat) ∨ (a = 1112 ∧ i = ((S0 1079 36) - 1).toNat) ∨ (a = 1113 ∧ i = ((S0 1079 36) - 1).toNat) ∨ (a = 1114 ∧ i = ((S0 1079 36) - 1).toNat)) S0 S → (1 ≤ x7 ∧ x7 ≤ 3) → (1 ≤ x8 ∧ x8 ≤ 3) → (1 ≤ x9 ∧ x9 ≤ 2) → (0 ≤ x10 ∧ x10 ≤ 1) → (1 ≤ x12 ∧ x12 ≤ 63) → (1 ≤ x13 ∧ x13 ≤ 63) → (0 ≤ p4 ∧ p4 ≤ 31) → (0 ≤ p5 ∧ p5 ≤ 4096) → (1 ≤ p2 ∧ p2 ≤ 16) → (10 ≤ p3 ∧ p3 ≤ 21) → (11 ≤ p1 ∧ p1 ≤ 33) → (11 ≤ p1 ∧ p1 ≤ 33) → (1 ≤ p2 ∧ p2 ≤ 16) → (10 ≤ p3 ∧ p3 ≤ 21) → (0 ≤ p4 ∧ p4 ≤ 31) → (0 ≤ p5 ∧ p5 ≤ 4096) → (S 1079 36 = S0 1079 36) → (0 ≤ p0 ∧ p0 ≤ S0 1079 36 - 1) → (p5 + p2 * (4 + ((x7 * x8) * (S0 1104 p0.toNat))) ≤ 4096) → (∀ a i : Nat, 1102 ≤ a → a ≤ 1114 → S a i = S0 a i) → (x7 = p1.tdiv 10 ∧ x8 = p1.tmod 10 ∧ x9 = p3.tdiv 10 ∧ x10 = p3.tmod 10) → (x12 = (S0 1102 p0.toNat + 2 * x10 - x7) / x9 + 1 ∧ x13 = (S0 1103 p0.toNat + 2 * x10 - x8) / x9 + 1) → (0 ≤ S0 1102 p0.toNat + 2 * x10 - x7 ∧ 0 ≤ S0 1103 p0.toNat + 2 * x10 - x8) → ((1 ≤ p2 ∧ p2 ≤ 16) ∧ (0 ≤ p4 ∧ p4 ≤ 31) ∧ 0 ≤ p5) → (zz_Hr S) → zz_E g l zy_convolution_14_67 zr_convolution_14_67 (zz_QI n (zp_convolution_14_67 p0 p1 p2 p3 p4 p5 S0)) S n 316 [some (.ref 1079), some (zi p0), none, some (zi p2), none, some (zi p4), some (zi p5), some (zi x7), some (zi x8), some (zi x9), some (zi x10), none, some (zi x12), some (zi x13)] [] 0 0 := fun x7 x8 x9 x10 x12 x13 S a b j0 j1 j2 j3 j4 j5 j6 j7 j8 j9 j10 j11 j12 j13 j14 j15 j16 j17 j18 j19 j20 j21 j22 j23 j24 => (zi_convolution_14_67 (g := g) (l := l) p0 p1 p2 p3 p4 p5 S0 n hn G_S0 hp0 hp1 hp2 hp3 hp4 hp5 R_S0 _) x7 x8 x9 x10 x12 x13 S a b j0 j1 j2 j3 j4 j5 j6 j7 j8 j9 j10 j11 j12 j13 j14 j15 j16 j17 j18 j19 j20 j21 j22 j23 j24 (Nat.lt_succ_self _)
  refine zz_aload_n (x := 1079) rfl zd_14_67_0 ?_
  refine zz_iload_n (x := p0) rfl zd_14_67_1 ?_
  have g1 := zz_G.r G_S0 1079 36 0 11 rfl rfl
  refine zz_callVI [zi p0] zd_14_67_2 zk_Md_411 zT_1079 (zz_ltn hn rfl) rfl rfl ⟨Nat.le_of_ble_eq_true rfl, Nat.le_of_ble_eq_true rfl⟩ ⟨rfl, rfl⟩ (Nat.zero_le _) (Nat.zero_le _) (zc_isTensor_14_66 p0 S0 n hn G_S0 (by omega)) (fun v3 S2 hP => ?_)
  obtain ⟨rfl, o4, o5⟩ := hP
  rcases (by omega : v3 = 0 ∨ v3 = 1) with rfl | rfl
  · refine zz_if_ne (by omega) zd_14_67_5 (fun c6 => ?_) (fun c6 => ?_)
    · exfalso; omega
    · refine zz_aload_n (x := 1079) rfl zd_14_67_8 ?_
      refine zz_iconst zd_14_67_9 ?_
      refine zz_iconst zd_14_67_10 ?_
      refine zz_iconst zd_14_67_11 ?_
      refine zz_callVI [zi 1, zi 0, zi 0] zd_14_67_12 zk_Md_196 zT_1079 (zz_ltn hn rfl) rfl rfl ⟨Nat.le_of_ble_eq_true rfl, Nat.le_of_ble_eq_true rfl⟩ ⟨rfl, rfl⟩ (Nat.zero_le _) (Nat.zero_le _) (zc_refuse_14_3 1 0 0 S0 n hn G_S0 (by omega) (by omega) (by omega)) (fun v8 S7 hP => ?_)
      obtain ⟨G_S7, fS7, o9, o10⟩ := hP
      have F_S7 := zz_fr.trans F_S0 fS7 rfl zz_nv
      have R_S7 : zz_Hr S7 := zz_Hr.fr fS7 rfl rfl (fun b j h => h.elim) R_S0
      rcases (by omega : v8 = 0 ∨ v8 = 1) with rfl | rfl
      · exfalso; omega
      · have e11 : S7 1079 0 = 1 := by omega
        clear o10
        refine zz_pop rfl zd_14_67_15 ?_
        refine zz_iconst zd_14_67_16 ?_
        have e12 : S7 1079 36 = S0 1079 36 := (zz_rc fS7 rfl rfl (fun h => h) rfl)
        exact zz_iret zd_14_67_17 rfl (Nat.zero_le _) (Nat.zero_le _) ⟨_, _, rfl, G_S7, F_S7, by omega, by omega, (fun v hM hV => by exact ⟨Or.inl ⟨by omega, fun hi => by have h9 := (zn_inM hM).mp hi; omega⟩, fun h => absurd h (by omega), fun _ => (zn_M.fr hM fS7 rfl rfl (fun b j h => h.elim) (by omega))⟩), R_S7⟩
  · refine zz_if_ne (by omega) zd_14_67_5 (fun c13 => ?_) (fun c13 => ?_)
    · skip
      refine zz_iload_n (x := p1) rfl zd_14_67_18 ?_
      refine zz_bipush (by decide) zd_14_67_19 ?_
      refine zz_idiv (by omega) (by omega) zd_14_67_21 (fun v14 hv14 av14 bv14 cv14 => ?_)
      refine zz_istore [some (.ref 1079), some (zi p0), some (zi p1), some (zi p2), some (zi p3), some (zi p4), some (zi p5), some (zi v14)] zd_14_67_22 (by decide) rfl ?_
      refine zz_iload_n (x := p1) rfl zd_14_67_24 ?_
      refine zz_bipush (by decide) zd_14_67_25 ?_
      refine zz_irem (by omega) (by omega) zd_14_67_27 (fun v15 hv15 av15 bv15 cv15 => ?_)
      refine zz_istore [some (.ref 1079), some (zi p0), some (zi p1), some (zi p2), some (zi p3), some (zi p4), some (zi p5), some (zi v14), some (zi v15)] zd_14_67_28 (by decide) rfl ?_
      refine zz_iload (x := p3) rfl zd_14_67_30 ?_
      refine zz_bipush (by decide) zd_14_67_32 ?_
      refine zz_idiv (by omega) (by omega) zd_14_67_34 (fun v16 hv16 av16 bv16 cv16 => ?_)
      refine zz_istore [some (.ref 1079), some (zi p0), some (zi p1), some (zi p2), some (zi p3), some (zi p4), some (zi p5), some (zi v14), some (zi v15), some (zi v16)] zd_14_67_35 (by decide) rfl ?_
      refine zz_iload (x := p3) rfl zd_14_67_37 ?_
      refine zz_bipush (by decide) zd_14_67_39 ?_
      refine zz_irem (by omega) (by omega) zd_14_67_41 (fun v17 hv17 av17 bv17 cv17 => ?_)
      refine zz_istore [some (.ref 1079), some (zi p0), some (zi p1), some (zi p2), some (zi p3), some (zi p4), some (zi p5), some (zi v14), some (zi v15), some (zi v16), some (zi v17)] zd_14_67_42 (by decide) rfl ?_
      clear bv14 cv14 bv15 cv15 bv16 cv16 bv17 cv17
      refine zz_iload_n (x := p1) rfl zd_14_67_44 ?_
      refine zz_i2l (by omega) zd_14_67_45 ?_
      refine zz_ldc2 (z := 11) zq_Md_218 (by decide) zd_14_67_46 ?_
      refine zz_ldc2 (z := 33) zq_Md_414 (by decide) zd_14_67_49 ?_
      refine zz_callSI [zl p1, zl 11, zl 33] zd_14_67_52 zk_Md_192 rfl rfl ⟨Nat.le_of_ble_eq_true rfl, Nat.le_of_ble_eq_true rfl⟩ ⟨rfl, rfl⟩ (Nat.zero_le _) (Nat.zero_le _) (zc_in_14_4 p1 11 33 S0 n hn G_S0 (by omega) (by omega) (by omega)) (fun v19 S18 hP => ?_)
      obtain ⟨rfl, o20, o21⟩ := hP
      rcases (by omega : v19 = 0 ∨ v19 = 1) with rfl | rfl
      · have n22 : p1 < 11 ∨ 33 < p1 := by omega
        clear o21
        refine zz_if_eq (by omega) zd_14_67_55 (fun c23 => ?_) (fun c23 => ?_)
        · refine zz_iconst zd_14_67_152 ?_
          refine zz_istore [some (.ref 1079), some (zi p0), some (zi p1), some (zi p2), some (zi p3), some (zi p4), some (zi p5), some (zi v14), some (zi v15), some (zi v16), some (zi v17), some (zi 0)] zd_14_67_153 (by decide) rfl ?_
          refine zz_iload (x := 0) rfl zd_14_67_155 ?_
          refine zz_if_eq (by omega) zd_14_67_157 (fun c24 => ?_) (fun c24 => ?_)
          · refine zz_iconst zd_14_67_178 ?_
            refine zz_istore [some (.ref 1079), some (zi p0), some (zi p1), some (zi p2), some (zi p3), some (zi p4), some (zi p5), some (zi v14), some (zi v15), some (zi v16), some (zi v17), some (zi 0), some (zi 0)] zd_14_67_179 (by decide) rfl ?_
            refine zz_iload (x := 0) rfl zd_14_67_181 ?_
            refine zz_if_eq (by omega) zd_14_67_183 (fun c25 => ?_) (fun c25 => ?_)
            · refine zz_iconst zd_14_67_204 ?_
              refine zz_istore [some (.ref 1079), some (zi p0), some (zi p1), some (zi p2), some (zi p3), some (zi p4), some (zi p5), some (zi v14), some (zi v15), some (zi v16), some (zi v17), some (zi 0), some (zi 0), some (zi 0)] zd_14_67_205 (by decide) rfl ?_
              refine zz_iload (x := 0) rfl zd_14_67_207 ?_
              refine zz_if_eq (by omega) zd_14_67_209 (fun c26 => ?_) (fun c26 => ?_)
              · refine zz_lconst (z := 0) (by decide) zd_14_67_233 ?_
                refine zz_lstore [some (.ref 1079), some (zi p0), some (zi p1), some (zi p2), some (zi p3), some (zi p4), some (zi p5), some (zi v14), some (zi v15), some (zi v16), some (zi v17), some (zi 0), some (zi 0), some (zi 0), some (zl 0), none] zd_14_67_234 (by decide) rfl ?_
                refine zz_iload (x := 0) rfl zd_14_67_236 ?_
                refine zz_i2l (by omega) zd_14_67_238 ?_
                refine zz_lconst (z := 1) (by decide) zd_14_67_239 ?_
                refine zz_ldc2 (z := 63) zq_Md_399 (by decide) zd_14_67_240 ?_
                refine zz_callSI [zl 0, zl 1, zl 63] zd_14_67_243 zk_Md_192 rfl rfl ⟨Nat.le_of_ble_eq_true rfl, Nat.le_of_ble_eq_true rfl⟩ ⟨rfl, rfl⟩ (Nat.zero_le _) (Nat.zero_le _) (zc_in_14_4 0 1 63 S0 n hn G_S0 (by omega) (by omega) (by omega)) (fun v28 S27 hP => ?_)
                obtain ⟨rfl, o29, o30⟩ := hP
                rcases (by omega : v28 = 0 ∨ v28 = 1) with rfl | rfl
                · have n31 : 0 < 1 ∨ 63 < 0 := by omega
                  clear o30
                  refine zz_if_eq (by omega) zd_14_67_246 (fun c32 => ?_) (fun c32 => ?_)
                  · refine zz_iconst zd_14_67_292 ?_
                    refine zz_istore [some (.ref 1079), some (zi p0), some (zi p1), some (zi p2), some (zi p3), some (zi p4), some (zi p5), some (zi v14), some (zi v15), some (zi v16), some (zi v17), some (zi 0), some (zi 0), some (zi 0), some (zl 0), none, some (zi 0)] zd_14_67_293 (by decide) rfl ?_
                    refine zz_aload_n (x := 1079) rfl zd_14_67_295 ?_
                    refine zz_iconst zd_14_67_296 ?_
                    refine zz_iload (x := 0) rfl zd_14_67_297 ?_
                    refine zz_if_ne (by omega) zd_14_67_299 (fun c33 => ?_) (fun c33 => ?_)
                    · exfalso; omega
                    · refine zz_iconst zd_14_67_302 ?_
                      refine zz_goto zd_14_67_303 ?_
                      refine zz_iconst zd_14_67_307 ?_
                      refine zz_callVI [zi 0, zi 1, zi 0] zd_14_67_308 zk_Md_196 zT_1079 (zz_ltn hn rfl) rfl rfl ⟨Nat.le_of_ble_eq_true rfl, Nat.le_of_ble_eq_true rfl⟩ ⟨rfl, rfl⟩ (Nat.zero_le _) (Nat.zero_le _) (zc_refuse_14_3 0 1 0 S0 n hn G_S0 (by omega) (by omega) (by omega)) (fun v35 S34 hP => ?_)
                      obtain ⟨G_S34, fS34, o36, o37⟩ := hP
                      have F_S34 := zz_fr.trans F_S0 fS34 rfl zz_nv
                      have R_S34 : zz_Hr S34 := zz_Hr.fr fS34 rfl rfl (fun b j h => h.elim) R_S0
                      rcases (by omega : v35 = 0 ∨ v35 = 1) with rfl | rfl
                      · exfalso; omega
                      · have e38 : S34 1079 0 = 2 := by omega
                        clear o37
                        refine zz_if_eq (by omega) zd_14_67_311 (fun c39 => ?_) (fun c39 => ?_)
                        · exfalso; omega
                        · refine zz_iconst zd_14_67_314 ?_
                          have e40 : S34 1079 36 = S0 1079 36 := (zz_rc fS34 rfl rfl (fun h => h) rfl)
                          exact zz_iret zd_14_67_315 rfl (Nat.zero_le _) (Nat.zero_le _) ⟨_, _, rfl, G_S34, F_S34, by omega, by omega, (fun v hM hV => by have hi8 : (0 ≤ p0 ∧ p0 < S0 1079 36) ∧ 0 ≤ p0 ∧ p0 < S0 1079 36 := (by omega); have h7 := hV.1; have h6 := hM.1; rw [← av14, ← av15, ← av16, ← av17]; exact ⟨Or.inr (Or.inl ⟨by omega, (zn_inM hM).mpr hi8, fun h9 => by have c9 := zn_cvf av14 av15 av16 av17 h9.1 ((zn_rsM hM hi8).mp h9.2); (try clear bv14); (try clear cv14); (try clear bv15); (try clear cv15); (try clear bv16); (try clear cv16); (try clear bv17); (try clear cv17); clear h9; omega⟩), fun h => absurd h (by omega), fun _ => (zn_M.fr hM fS34 rfl rfl (fun b j h => h.elim) (by omega))⟩), R_S34⟩
                  · exfalso; omega
                · exfalso; omega
              · exfalso; omega
            · exfalso; omega
          · exfalso; omega
        · exfalso; omega
      · have n41 : 11 ≤ p1 ∧ p1 ≤ 33 := by omega
        clear o21
        refine zz_if_eq (by omega) zd_14_67_55 (fun c42 => ?_) (fun c42 => ?_)
        · exfalso; omega
        · refine zz_iload (x := v14) rfl zd_14_67_58 ?_
          refine zz_i2l (by omega) zd_14_67_60 ?_
          refine zz_lconst (z := 1) (by decide) zd_14_67_61 ?_
          refine zz_ldc2 (z := 3) zq_Md_416 (by decide) zd_14_67_62 ?_
          refine zz_callSI [zl v14, zl 1, zl 3] zd_14_67_65 zk_Md_192 rfl rfl ⟨Nat.le_of_ble_eq_true rfl, Nat.le_of_ble_eq_true rfl⟩ ⟨rfl, rfl⟩ (Nat.zero_le _) (Nat.zero_le _) (zc_in_14_4 v14 1 3 S0 n hn G_S0 (by omega) (by omega) (by omega)) (fun v44 S43 hP => ?_)
          obtain ⟨rfl, o45, o46⟩ := hP
          rcases (by omega : v44 = 0 ∨ v44 = 1) with rfl | rfl
          · have n47 : v14 < 1 ∨ 3 < v14 := by omega
            clear o46
            refine zz_if_eq (by omega) zd_14_67_68 (fun c48 => ?_) (fun c48 => ?_)
            · refine zz_iconst zd_14_67_152 ?_
              refine zz_istore [some (.ref 1079), some (zi p0), some (zi p1), some (zi p2), some (zi p3), some (zi p4), some (zi p5), some (zi v14), some (zi v15), some (zi v16), some (zi v17), some (zi 0)] zd_14_67_153 (by decide) rfl ?_
              refine zz_iload (x := 0) rfl zd_14_67_155 ?_
              refine zz_if_eq (by omega) zd_14_67_157 (fun c49 => ?_) (fun c49 => ?_)
              · refine zz_iconst zd_14_67_178 ?_
                refine zz_istore [some (.ref 1079), some (zi p0), some (zi p1), some (zi p2), some (zi p3), some (zi p4), some (zi p5), some (zi v14), some (zi v15), some (zi v16), some (zi v17), some (zi 0), some (zi 0)] zd_14_67_179 (by decide) rfl ?_
                refine zz_iload (x := 0) rfl zd_14_67_181 ?_
                refine zz_if_eq (by omega) zd_14_67_183 (fun c50 => ?_) (fun c50 => ?_)
                · refine zz_iconst zd_14_67_204 ?_
                  refine zz_istore [some (.ref 1079), some (zi p0), some (zi p1), some (zi p2), some (zi p3), some (zi p4), some (zi p5), some (zi v14), some (zi v15), some (zi v16), some (zi v17), some (zi 0), some (zi 0), some (zi 0)] zd_14_67_205 (by decide) rfl ?_
                  refine zz_iload (x := 0) rfl zd_14_67_207 ?_
                  refine zz_if_eq (by omega) zd_14_67_209 (fun c51 => ?_) (fun c51 => ?_)
                  · refine zz_lconst (z := 0) (by decide) zd_14_67_233 ?_
                    refine zz_lstore [some (.ref 1079), some (zi p0), some (zi p1), some (zi p2), some (zi p3), some (zi p4), some (zi p5), some (zi v14), some (zi v15), some (zi v16), some (zi v17), some (zi 0), some (zi 0), some (zi 0), some (zl 0), none] zd_14_67_234 (by decide) rfl ?_
                    refine zz_iload (x := 0) rfl zd_14_67_236 ?_
                    refine zz_i2l (by omega) zd_14_67_238 ?_
                    refine zz_lconst (z := 1) (by decide) zd_14_67_239 ?_
                    refine zz_ldc2 (z := 63) zq_Md_399 (by decide) zd_14_67_240 ?_
                    refine zz_callSI [zl 0, zl 1, zl 63] zd_14_67_243 zk_Md_192 rfl rfl ⟨Nat.le_of_ble_eq_true rfl, Nat.le_of_ble_eq_true rfl⟩ ⟨rfl, rfl⟩ (Nat.zero_le _) (Nat.zero_le _) (zc_in_14_4 0 1 63 S0 n hn G_S0 (by omega) (by omega) (by omega)) (fun v53 S52 hP => ?_)
                    obtain ⟨rfl, o54, o55⟩ := hP
                    rcases (by omega : v53 = 0 ∨ v53 = 1) with rfl | rfl
                    · have n56 : 0 < 1 ∨ 63 < 0 := by omega
                      clear o55
                      refine zz_if_eq (by omega) zd_14_67_246 (fun c57 => ?_) (fun c57 => ?_)
                      · refine zz_iconst zd_14_67_292 ?_
                        refine zz_istore [some (.ref 1079), some (zi p0), some (zi p1), some (zi p2), some (zi p3), some (zi p4), some (zi p5), some (zi v14), some (zi v15), some (zi v16), some (zi v17), some (zi 0), some (zi 0), some (zi 0), some (zl 0), none, some (zi 0)] zd_14_67_293 (by decide) rfl ?_
                        refine zz_aload_n (x := 1079) rfl zd_14_67_295 ?_
                        refine zz_iconst zd_14_67_296 ?_
                        refine zz_iload (x := 0) rfl zd_14_67_297 ?_
                        refine zz_if_ne (by omega) zd_14_67_299 (fun c58 => ?_) (fun c58 => ?_)
                        · exfalso; omega
                        · refine zz_iconst zd_14_67_302 ?_
                          refine zz_goto zd_14_67_303 ?_
                          refine zz_iconst zd_14_67_307 ?_
                          refine zz_callVI [zi 0, zi 1, zi 0] zd_14_67_308 zk_Md_196 zT_1079 (zz_ltn hn rfl) rfl rfl ⟨Nat.le_of_ble_eq_true rfl, Nat.le_of_ble_eq_true rfl⟩ ⟨rfl, rfl⟩ (Nat.zero_le _) (Nat.zero_le _) (zc_refuse_14_3 0 1 0 S0 n hn G_S0 (by omega) (by omega) (by omega)) (fun v60 S59 hP => ?_)
                          obtain ⟨G_S59, fS59, o61, o62⟩ := hP
                          have F_S59 := zz_fr.trans F_S0 fS59 rfl zz_nv
                          have R_S59 : zz_Hr S59 := zz_Hr.fr fS59 rfl rfl (fun b j h => h.elim) R_S0
                          rcases (by omega : v60 = 0 ∨ v60 = 1) with rfl | rfl
                          · exfalso; omega
                          · have e63 : S59 1079 0 = 2 := by omega
                            clear o62
                            refine zz_if_eq (by omega) zd_14_67_311 (fun c64 => ?_) (fun c64 => ?_)
                            · exfalso; omega
                            · refine zz_iconst zd_14_67_314 ?_
                              have e65 : S59 1079 36 = S0 1079 36 := (zz_rc fS59 rfl rfl (fun h => h) rfl)
                              exact zz_iret zd_14_67_315 rfl (Nat.zero_le _) (Nat.zero_le _) ⟨_, _, rfl, G_S59, F_S59, by omega, by omega, (fun v hM hV => by have hi8 : (0 ≤ p0 ∧ p0 < S0 1079 36) ∧ 0 ≤ p0 ∧ p0 < S0 1079 36 := (by omega); have h7 := hV.1; have h6 := hM.1; rw [← av14, ← av15, ← av16, ← av17]; exact ⟨Or.inr (Or.inl ⟨by omega, (zn_inM hM).mpr hi8, fun h9 => by have c9 := zn_cvf av14 av15 av16 av17 h9.1 ((zn_rsM hM hi8).mp h9.2); (try clear bv14); (try clear cv14); (try clear bv15); (try clear cv15); (try clear bv16); (try clear cv16); (try clear bv17); (try clear cv17); clear h9; omega⟩), fun h => absurd h (by omega), fun _ => (zn_M.fr hM fS59 rfl rfl (fun b j h => h.elim) (by omega))⟩), R_S59⟩
                      · exfalso; omega
                    · exfalso; omega
                  · exfalso; omega
                · exfalso; omega
              · exfalso; omega
            · exfalso; omega
          · have n66 : 1 ≤ v14 ∧ v14 ≤ 3 := by omega
            clear o46
            refine zz_if_eq (by omega) zd_14_67_68 (fun c67 => ?_) (fun c67 => ?_)
            · exfalso; omega
            · refine zz_iload (x := v15) rfl zd_14_67_71 ?_
              refine zz_i2l (by omega) zd_14_67_73 ?_
              refine zz_lconst (z := 1) (by decide) zd_14_67_74 ?_
              refine zz_ldc2 (z := 3) zq_Md_416 (by decide) zd_14_67_75 ?_
              refine zz_callSI [zl v15, zl 1, zl 3] zd_14_67_78 zk_Md_192 rfl rfl ⟨Nat.le_of_ble_eq_true rfl, Nat.le_of_ble_eq_true rfl⟩ ⟨rfl, rfl⟩ (Nat.zero_le _) (Nat.zero_le _) (zc_in_14_4 v15 1 3 S0 n hn G_S0 (by omega) (by omega) (by omega)) (fun v69 S68 hP => ?_)
              obtain ⟨rfl, o70, o71⟩ := hP
              rcases (by omega : v69 = 0 ∨ v69 = 1) with rfl | rfl
              · have n72 : v15 < 1 ∨ 3 < v15 := by omega
                clear o71
                refine zz_if_eq (by omega) zd_14_67_81 (fun c73 => ?_) (fun c73 => ?_)
                · refine zz_iconst zd_14_67_152 ?_
                  refine zz_istore [some (.ref 1079), some (zi p0), some (zi p1), some (zi p2), some (zi p3), some (zi p4), some (zi p5), some (zi v14), some (zi v15), some (zi v16), some (zi v17), some (zi 0)] zd_14_67_153 (by decide) rfl ?_
                  refine zz_iload (x := 0) rfl zd_14_67_155 ?_
                  refine zz_if_eq (by omega) zd_14_67_157 (fun c74 => ?_) (fun c74 => ?_)
                  · refine zz_iconst zd_14_67_178 ?_
                    refine zz_istore [some (.ref 1079), some (zi p0), some (zi p1), some (zi p2), some (zi p3), some (zi p4), some (zi p5), some (zi v14), some (zi v15), some (zi v16), some (zi v17), some (zi 0), some (zi 0)] zd_14_67_179 (by decide) rfl ?_
                    refine zz_iload (x := 0) rfl zd_14_67_181 ?_
                    refine zz_if_eq (by omega) zd_14_67_183 (fun c75 => ?_) (fun c75 => ?_)
                    · refine zz_iconst zd_14_67_204 ?_
                      refine zz_istore [some (.ref 1079), some (zi p0), some (zi p1), some (zi p2), some (zi p3), some (zi p4), some (zi p5), some (zi v14), some (zi v15), some (zi v16), some (zi v17), some (zi 0), some (zi 0), some (zi 0)] zd_14_67_205 (by decide) rfl ?_
                      refine zz_iload (x := 0) rfl zd_14_67_207 ?_
                      refine zz_if_eq (by omega) zd_14_67_209 (fun c76 => ?_) (fun c76 => ?_)
                      · refine zz_lconst (z := 0) (by decide) zd_14_67_233 ?_
                        refine zz_lstore [some (.ref 1079), some (zi p0), some (zi p1), some (zi p2), some (zi p3), some (zi p4), some (zi p5), some (zi v14), some (zi v15), some (zi v16), some (zi v17), some (zi 0), some (zi 0), some (zi 0), some (zl 0), none] zd_14_67_234 (by decide) rfl ?_
                        refine zz_iload (x := 0) rfl zd_14_67_236 ?_
                        refine zz_i2l (by omega) zd_14_67_238 ?_
                        refine zz_lconst (z := 1) (by decide) zd_14_67_239 ?_
                        refine zz_ldc2 (z := 63) zq_Md_399 (by decide) zd_14_67_240 ?_
                        refine zz_callSI [zl 0, zl 1, zl 63] zd_14_67_243 zk_Md_192 rfl rfl ⟨Nat.le_of_ble_eq_true rfl, Nat.le_of_ble_eq_true rfl⟩ ⟨rfl, rfl⟩ (Nat.zero_le _) (Nat.zero_le _) (zc_in_14_4 0 1 63 S0 n hn G_S0 (by omega) (by omega) (by omega)) (fun v78 S77 hP => ?_)
                        obtain ⟨rfl, o79, o80⟩ := hP
                        rcases (by omega : v78 = 0 ∨ v78 = 1) with rfl | rfl
                        · have n81 : 0 < 1 ∨ 63 < 0 := by omega
                          clear o80
                          refine zz_if_eq (by omega) zd_14_67_246 (fun c82 => ?_) (fun c82 => ?_)
                          · refine zz_iconst zd_14_67_292 ?_
                            refine zz_istore [some (.ref 1079), some (zi p0), some (zi p1), some (zi p2), some (zi p3), some (zi p4), some (zi p5), some (zi v14), some (zi v15), some (zi v16), some (zi v17), some (zi 0), some (zi 0), some (zi 0), some (zl 0), none, some (zi 0)] zd_14_67_293 (by decide) rfl ?_
                            refine zz_aload_n (x := 1079) rfl zd_14_67_295 ?_
                            refine zz_iconst zd_14_67_296 ?_
                            refine zz_iload (x := 0) rfl zd_14_67_297 ?_
                            refine zz_if_ne (by omega) zd_14_67_299 (fun c83 => ?_) (fun c83 => ?_)
                            · exfalso; omega
                            · refine zz_iconst zd_14_67_302 ?_
                              refine zz_goto zd_14_67_303 ?_
                              refine zz_iconst zd_14_67_307 ?_
                              refine zz_callVI [zi 0, zi 1, zi 0] zd_14_67_308 zk_Md_196 zT_1079 (zz_ltn hn rfl) rfl rfl ⟨Nat.le_of_ble_eq_true rfl, Nat.le_of_ble_eq_true rfl⟩ ⟨rfl, rfl⟩ (Nat.zero_le _) (Nat.zero_le _) (zc_refuse_14_3 0 1 0 S0 n hn G_S0 (by omega) (by omega) (by omega)) (fun v85 S84 hP => ?_)
                              obtain ⟨G_S84, fS84, o86, o87⟩ := hP
                              have F_S84 := zz_fr.trans F_S0 fS84 rfl zz_nv
                              have R_S84 : zz_Hr S84 := zz_Hr.fr fS84 rfl rfl (fun b j h => h.elim) R_S0
                              rcases (by omega : v85 = 0 ∨ v85 = 1) with rfl | rfl
                              · exfalso; omega
                              · have e88 : S84 1079 0 = 2 := by omega
                                clear o87
                                refine zz_if_eq (by omega) zd_14_67_311 (fun c89 => ?_) (fun c89 => ?_)
                                · exfalso; omega
                                · refine zz_iconst zd_14_67_314 ?_
                                  have e90 : S84 1079 36 = S0 1079 36 := (zz_rc fS84 rfl rfl (fun h => h) rfl)
                                  exact zz_iret zd_14_67_315 rfl (Nat.zero_le _) (Nat.zero_le _) ⟨_, _, rfl, G_S84, F_S84, by omega, by omega, (fun v hM hV => by have hi8 : (0 ≤ p0 ∧ p0 < S0 1079 36) ∧ 0 ≤ p0 ∧ p0 < S0 1079 36 := (by omega); have h7 := hV.1; have h6 := hM.1; rw [← av14, ← av15, ← av16, ← av17]; exact ⟨Or.inr (Or.inl ⟨by omega, (zn_inM hM).mpr hi8, fun h9 => by have c9 := zn_cvf av14 av15 av16 av17 h9.1 ((zn_rsM hM hi8).mp h9.2); (try clear bv14); (try clear cv14); (try clear bv15); (try clear cv15); (try clear bv16); (try clear cv16); (try clear bv17); (try clear cv17); clear h9; omega⟩), fun h => absurd h (by omega), fun _ => (zn_M.fr hM fS84 rfl rfl (fun b j h => h.elim) (by omega))⟩), R_S84⟩
                          · exfalso; omega
                        · exfalso; omega
                      · exfalso; omega
                    · exfalso; omega
                  · exfalso; omega
                · exfalso; omega
              · have n91 : 1 ≤ v15 ∧ v15 ≤ 3 := by omega
                clear o71
                refine zz_if_eq (by omega) zd_14_67_81 (fun c92 => ?_) (fun c92 => ?_)
                · exfalso; omega
                · refine zz_iload_n (x := p2) rfl zd_14_67_84 ?_
                  refine zz_i2l (by omega) zd_14_67_85 ?_
                  refine zz_lconst (z := 1) (by decide) zd_14_67_86 ?_
                  refine zz_ldc2 (z := 16) zq_Md_367 (by decide) zd_14_67_87 ?_
                  refine zz_callSI [zl p2, zl 1, zl 16] zd_14_67_90 zk_Md_192 rfl rfl ⟨Nat.le_of_ble_eq_true rfl, Nat.le_of_ble_eq_true rfl⟩ ⟨rfl, rfl⟩ (Nat.zero_le _) (Nat.zero_le _) (zc_in_14_4 p2 1 16 S0 n hn G_S0 (by omega) (by omega) (by omega)) (fun v94 S93 hP => ?_)
                  obtain ⟨rfl, o95, o96⟩ := hP
                  rcases (by omega : v94 = 0 ∨ v94 = 1) with rfl | rfl
                  · have n97 : p2 < 1 ∨ 16 < p2 := by omega
                    clear o96
                    refine zz_if_eq (by omega) zd_14_67_93 (fun c98 => ?_) (fun c98 => ?_)
                    · refine zz_iconst zd_14_67_152 ?_
                      refine zz_istore [some (.ref 1079), some (zi p0), some (zi p1), some (zi p2), some (zi p3), some (zi p4), some (zi p5), some (zi v14), some (zi v15), some (zi v16), some (zi v17), some (zi 0)] zd_14_67_153 (by decide) rfl ?_
                      refine zz_iload (x := 0) rfl zd_14_67_155 ?_
                      refine zz_if_eq (by omega) zd_14_67_157 (fun c99 => ?_) (fun c99 => ?_)
                      · refine zz_iconst zd_14_67_178 ?_
                        refine zz_istore [some (.ref 1079), some (zi p0), some (zi p1), some (zi p2), some (zi p3), some (zi p4), some (zi p5), some (zi v14), some (zi v15), some (zi v16), some (zi v17), some (zi 0), some (zi 0)] zd_14_67_179 (by decide) rfl ?_
                        refine zz_iload (x := 0) rfl zd_14_67_181 ?_
                        refine zz_if_eq (by omega) zd_14_67_183 (fun c100 => ?_) (fun c100 => ?_)
                        · refine zz_iconst zd_14_67_204 ?_
                          refine zz_istore [some (.ref 1079), some (zi p0), some (zi p1), some (zi p2), some (zi p3), some (zi p4), some (zi p5), some (zi v14), some (zi v15), some (zi v16), some (zi v17), some (zi 0), some (zi 0), some (zi 0)] zd_14_67_205 (by decide) rfl ?_
                          refine zz_iload (x := 0) rfl zd_14_67_207 ?_
                          refine zz_if_eq (by omega) zd_14_67_209 (fun c101 => ?_) (fun c101 => ?_)
                          · refine zz_lconst (z := 0) (by decide) zd_14_67_233 ?_
                            refine zz_lstore [some (.ref 1079), some (zi p0), some (zi p1), some (zi p2), some (zi p3), some (zi p4), some (zi p5), some (zi v14), some (zi v15), some (zi v16), some (zi v17), some (zi 0), some (zi 0), some (zi 0), some (zl 0), none] zd_14_67_234 (by decide) rfl ?_
                            refine zz_iload (x := 0) rfl zd_14_67_236 ?_
                            refine zz_i2l (by omega) zd_14_67_238 ?_
                            refine zz_lconst (z := 1) (by decide) zd_14_67_239 ?_
                            refine zz_ldc2 (z := 63) zq_Md_399 (by decide) zd_14_67_240 ?_
                            refine zz_callSI [zl 0, zl 1, zl 63] zd_14_67_243 zk_Md_192 rfl rfl ⟨Nat.le_of_ble_eq_true rfl, Nat.le_of_ble_eq_true rfl⟩ ⟨rfl, rfl⟩ (Nat.zero_le _) (Nat.zero_le _) (zc_in_14_4 0 1 63 S0 n hn G_S0 (by omega) (by omega) (by omega)) (fun v103 S102 hP => ?_)
                            obtain ⟨rfl, o104, o105⟩ := hP
                            rcases (by omega : v103 = 0 ∨ v103 = 1) with rfl | rfl
                            · have n106 : 0 < 1 ∨ 63 < 0 := by omega
                              clear o105
                              refine zz_if_eq (by omega) zd_14_67_246 (fun c107 => ?_) (fun c107 => ?_)
                              · refine zz_iconst zd_14_67_292 ?_
                                refine zz_istore [some (.ref 1079), some (zi p0), some (zi p1), some (zi p2), some (zi p3), some (zi p4), some (zi p5), some (zi v14), some (zi v15), some (zi v16), some (zi v17), some (zi 0), some (zi 0), some (zi 0), some (zl 0), none, some (zi 0)] zd_14_67_293 (by decide) rfl ?_
                                refine zz_aload_n (x := 1079) rfl zd_14_67_295 ?_
                                refine zz_iconst zd_14_67_296 ?_
                                refine zz_iload (x := 0) rfl zd_14_67_297 ?_
                                refine zz_if_ne (by omega) zd_14_67_299 (fun c108 => ?_) (fun c108 => ?_)
                                · exfalso; omega
                                · refine zz_iconst zd_14_67_302 ?_
                                  refine zz_goto zd_14_67_303 ?_
                                  refine zz_iconst zd_14_67_307 ?_
                                  refine zz_callVI [zi 0, zi 1, zi 0] zd_14_67_308 zk_Md_196 zT_1079 (zz_ltn hn rfl) rfl rfl ⟨Nat.le_of_ble_eq_true rfl, Nat.le_of_ble_eq_true rfl⟩ ⟨rfl, rfl⟩ (Nat.zero_le _) (Nat.zero_le _) (zc_refuse_14_3 0 1 0 S0 n hn G_S0 (by omega) (by omega) (by omega)) (fun v110 S109 hP => ?_)
                                  obtain ⟨G_S109, fS109, o111, o112⟩ := hP
                                  have F_S109 := zz_fr.trans F_S0 fS109 rfl zz_nv
                                  have R_S109 : zz_Hr S109 := zz_Hr.fr fS109 rfl rfl (fun b j h => h.elim) R_S0
                                  rcases (by omega : v110 = 0 ∨ v110 = 1) with rfl | rfl
                                  · exfalso; omega
                                  · have e113 : S109 1079 0 = 2 := by omega
                                    clear o112
                                    refine zz_if_eq (by omega) zd_14_67_311 (fun c114 => ?_) (fun c114 => ?_)
                                    · exfalso; omega
                                    · refine zz_iconst zd_14_67_314 ?_
                                      have e115 : S109 1079 36 = S0 1079 36 := (zz_rc fS109 rfl rfl (fun h => h) rfl)
                                      exact zz_iret zd_14_67_315 rfl (Nat.zero_le _) (Nat.zero_le _) ⟨_, _, rfl, G_S109, F_S109, by omega, by omega, (fun v hM hV => by have hi8 : (0 ≤ p0 ∧ p0 < S0 1079 36) ∧ 0 ≤ p0 ∧ p0 < S0 1079 36 := (by omega); have h7 := hV.1; have h6 := hM.1; rw [← av14, ← av15, ← av16, ← av17]; exact ⟨Or.inr (Or.inl ⟨by omega, (zn_inM hM).mpr hi8, fun h9 => by have c9 := zn_cvf av14 av15 av16 av17 h9.1 ((zn_rsM hM hi8).mp h9.2); (try clear bv14); (try clear cv14); (try clear bv15); (try clear cv15); (try clear bv16); (try clear cv16); (try clear bv17); (try clear cv17); clear h9; omega⟩), fun h => absurd h (by omega), fun _ => (zn_M.fr hM fS109 rfl rfl (fun b j h => h.elim) (by omega))⟩), R_S109⟩
                              · exfalso; omega
                            · exfalso; omega
                          · exfalso; omega
                        · exfalso; omega
                      · exfalso; omega
                    · exfalso; omega
                  · have n116 : 1 ≤ p2 ∧ p2 ≤ 16 := by omega
                    clear o96
                    refine zz_if_eq (by omega) zd_14_67_93 (fun c117 => ?_) (fun c117 => ?_)
                    · exfalso; omega
                    · refine zz_iload (x := p3) rfl zd_14_67_96 ?_
                      refine zz_i2l (by omega) zd_14_67_98 ?_
                      refine zz_ldc2 (z := 10) zq_Md_407 (by decide) zd_14_67_99 ?_
                      refine zz_ldc2 (z := 21) zq_Md_418 (by decide) zd_14_67_102 ?_
                      refine zz_callSI [zl p3, zl 10, zl 21] zd_14_67_105 zk_Md_192 rfl rfl ⟨Nat.le_of_ble_eq_true rfl, Nat.le_of_ble_eq_true rfl⟩ ⟨rfl, rfl⟩ (Nat.zero_le _) (Nat.zero_le _) (zc_in_14_4 p3 10 21 S0 n hn G_S0 (by omega) (by omega) (by omega)) (fun v119 S118 hP => ?_)
                      obtain ⟨rfl, o120, o121⟩ := hP
                      rcases (by omega : v119 = 0 ∨ v119 = 1) with rfl | rfl
                      · have n122 : p3 < 10 ∨ 21 < p3 := by omega
                        clear o121
                        refine zz_if_eq (by omega) zd_14_67_108 (fun c123 => ?_) (fun c123 => ?_)
                        · refine zz_iconst zd_14_67_152 ?_
                          refine zz_istore [some (.ref 1079), some (zi p0), some (zi p1), some (zi p2), some (zi p3), some (zi p4), some (zi p5), some (zi v14), some (zi v15), some (zi v16), some (zi v17), some (zi 0)] zd_14_67_153 (by decide) rfl ?_
                          refine zz_iload (x := 0) rfl zd_14_67_155 ?_
                          refine zz_if_eq (by omega) zd_14_67_157 (fun c124 => ?_) (fun c124 => ?_)
                          · refine zz_iconst zd_14_67_178 ?_
                            refine zz_istore [some (.ref 1079), some (zi p0), some (zi p1), some (zi p2), some (zi p3), some (zi p4), some (zi p5), some (zi v14), some (zi v15), some (zi v16), some (zi v17), some (zi 0), some (zi 0)] zd_14_67_179 (by decide) rfl ?_
                            refine zz_iload (x := 0) rfl zd_14_67_181 ?_
                            refine zz_if_eq (by omega) zd_14_67_183 (fun c125 => ?_) (fun c125 => ?_)
                            · refine zz_iconst zd_14_67_204 ?_
                              refine zz_istore [some (.ref 1079), some (zi p0), some (zi p1), some (zi p2), some (zi p3), some (zi p4), some (zi p5), some (zi v14), some (zi v15), some (zi v16), some (zi v17), some (zi 0), some (zi 0), some (zi 0)] zd_14_67_205 (by decide) rfl ?_
                              refine zz_iload (x := 0) rfl zd_14_67_207 ?_
                              refine zz_if_eq (by omega) zd_14_67_209 (fun c126 => ?_) (fun c126 => ?_)
                              · refine zz_lconst (z := 0) (by decide) zd_14_67_233 ?_
                                refine zz_lstore [some (.ref 1079), some (zi p0), some (zi p1), some (zi p2), some (zi p3), some (zi p4), some (zi p5), some (zi v14), some (zi v15), some (zi v16), some (zi v17), some (zi 0), some (zi 0), some (zi 0), some (zl 0), none] zd_14_67_234 (by decide) rfl ?_
                                refine zz_iload (x := 0) rfl zd_14_67_236 ?_
                                refine zz_i2l (by omega) zd_14_67_238 ?_
                                refine zz_lconst (z := 1) (by decide) zd_14_67_239 ?_
                                refine zz_ldc2 (z := 63) zq_Md_399 (by decide) zd_14_67_240 ?_
                                refine zz_callSI [zl 0, zl 1, zl 63] zd_14_67_243 zk_Md_192 rfl rfl ⟨Nat.le_of_ble_eq_true rfl, Nat.le_of_ble_eq_true rfl⟩ ⟨rfl, rfl⟩ (Nat.zero_le _) (Nat.zero_le _) (zc_in_14_4 0 1 63 S0 n hn G_S0 (by omega) (by omega) (by omega)) (fun v128 S127 hP => ?_)
                                obtain ⟨rfl, o129, o130⟩ := hP
                                rcases (by omega : v128 = 0 ∨ v128 = 1) with rfl | rfl
                                · have n131 : 0 < 1 ∨ 63 < 0 := by omega
                                  clear o130
                                  refine zz_if_eq (by omega) zd_14_67_246 (fun c132 => ?_) (fun c132 => ?_)
                                  · refine zz_iconst zd_14_67_292 ?_
                                    refine zz_istore [some (.ref 1079), some (zi p0), some (zi p1), some (zi p2), some (zi p3), some (zi p4), some (zi p5), some (zi v14), some (zi v15), some (zi v16), some (zi v17), some (zi 0), some (zi 0), some (zi 0), some (zl 0), none, some (zi 0)] zd_14_67_293 (by decide) rfl ?_
                                    refine zz_aload_n (x := 1079) rfl zd_14_67_295 ?_
                                    refine zz_iconst zd_14_67_296 ?_
                                    refine zz_iload (x := 0) rfl zd_14_67_297 ?_
                                    refine zz_if_ne (by omega) zd_14_67_299 (fun c133 => ?_) (fun c133 => ?_)
                                    · exfalso; omega
                                    · refine zz_iconst zd_14_67_302 ?_
                                      refine zz_goto zd_14_67_303 ?_
                                      refine zz_iconst zd_14_67_307 ?_
                                      refine zz_callVI [zi 0, zi 1, zi 0] zd_14_67_308 zk_Md_196 zT_1079 (zz_ltn hn rfl) rfl rfl ⟨Nat.le_of_ble_eq_true rfl, Nat.le_of_ble_eq_true rfl⟩ ⟨rfl, rfl⟩ (Nat.zero_le _) (Nat.zero_le _) (zc_refuse_14_3 0 1 0 S0 n hn G_S0 (by omega) (by omega) (by omega)) (fun v135 S134 hP => ?_)
                                      obtain ⟨G_S134, fS134, o136, o137⟩ := hP
                                      have F_S134 := zz_fr.trans F_S0 fS134 rfl zz_nv
                                      have R_S134 : zz_Hr S134 := zz_Hr.fr fS134 rfl rfl (fun b j h => h.elim) R_S0
                                      rcases (by omega : v135 = 0 ∨ v135 = 1) with rfl | rfl
                                      · exfalso; omega
                                      · have e138 : S134 1079 0 = 2 := by omega
                                        clear o137
                                        refine zz_if_eq (by omega) zd_14_67_311 (fun c139 => ?_) (fun c139 => ?_)
                                        · exfalso; omega
                                        · refine zz_iconst zd_14_67_314 ?_
                                          have e140 : S134 1079 36 = S0 1079 36 := (zz_rc fS134 rfl rfl (fun h => h) rfl)
                                          exact zz_iret zd_14_67_315 rfl (Nat.zero_le _) (Nat.zero_le _) ⟨_, _, rfl, G_S134, F_S134, by omega, by omega, (fun v hM hV => by have hi8 : (0 ≤ p0 ∧ p0 < S0 1079 36) ∧ 0 ≤ p0 ∧ p0 < S0 1079 36 := (by omega); have h7 := hV.1; have h6 := hM.1; rw [← av14, ← av15, ← av16, ← av17]; exact ⟨Or.inr (Or.inl ⟨by omega, (zn_inM hM).mpr hi8, fun h9 => by have c9 := zn_cvf av14 av15 av16 av17 h9.1 ((zn_rsM hM hi8).mp h9.2); (try clear bv14); (try clear cv14); (try clear bv15); (try clear cv15); (try clear bv16); (try clear cv16); (try clear bv17); (try clear cv17); clear h9; omega⟩), fun h => absurd h (by omega), fun _ => (zn_M.fr hM fS134 rfl rfl (fun b j h => h.elim) (by omega))⟩), R_S134⟩
                                  · exfalso; omega
                                · exfalso; omega
                              · exfalso; omega
                            · exfalso; omega
                          · exfalso; omega
                        · exfalso; omega
                      · have n141 : 10 ≤ p3 ∧ p3 ≤ 21 := by omega
                        clear o121
                        refine zz_if_eq (by omega) zd_14_67_108 (fun c142 => ?_) (fun c142 => ?_)
                        · exfalso; omega
                        · refine zz_iload (x := v16) rfl zd_14_67_111 ?_
                          refine zz_i2l (by omega) zd_14_67_113 ?_
                          refine zz_lconst (z := 1) (by decide) zd_14_67_114 ?_
                          refine zz_ldc2 (z := 2) zq_Md_169 (by decide) zd_14_67_115 ?_
                          refine zz_callSI [zl v16, zl 1, zl 2] zd_14_67_118 zk_Md_192 rfl rfl ⟨Nat.le_of_ble_eq_true rfl, Nat.le_of_ble_eq_true rfl⟩ ⟨rfl, rfl⟩ (Nat.zero_le _) (Nat.zero_le _) (zc_in_14_4 v16 1 2 S0 n hn G_S0 (by omega) (by omega) (by omega)) (fun v144 S143 hP => ?_)
                          obtain ⟨rfl, o145, o146⟩ := hP
                          rcases (by omega : v144 = 0 ∨ v144 = 1) with rfl | rfl
                          · have n147 : v16 < 1 ∨ 2 < v16 := by omega
                            clear o146
                            refine zz_if_eq (by omega) zd_14_67_121 (fun c148 => ?_) (fun c148 => ?_)
                            · refine zz_iconst zd_14_67_152 ?_
                              refine zz_istore [some (.ref 1079), some (zi p0), some (zi p1), some (zi p2), some (zi p3), some (zi p4), some (zi p5), some (zi v14), some (zi v15), some (zi v16), some (zi v17), some (zi 0)] zd_14_67_153 (by decide) rfl ?_
                              refine zz_iload (x := 0) rfl zd_14_67_155 ?_
                              refine zz_if_eq (by omega) zd_14_67_157 (fun c149 => ?_) (fun c149 => ?_)
                              · refine zz_iconst zd_14_67_178 ?_
                                refine zz_istore [some (.ref 1079), some (zi p0), some (zi p1), some (zi p2), some (zi p3), some (zi p4), some (zi p5), some (zi v14), some (zi v15), some (zi v16), some (zi v17), some (zi 0), some (zi 0)] zd_14_67_179 (by decide) rfl ?_
                                refine zz_iload (x := 0) rfl zd_14_67_181 ?_
                                refine zz_if_eq (by omega) zd_14_67_183 (fun c150 => ?_) (fun c150 => ?_)
                                · refine zz_iconst zd_14_67_204 ?_
                                  refine zz_istore [some (.ref 1079), some (zi p0), some (zi p1), some (zi p2), some (zi p3), some (zi p4), some (zi p5), some (zi v14), some (zi v15), some (zi v16), some (zi v17), some (zi 0), some (zi 0), some (zi 0)] zd_14_67_205 (by decide) rfl ?_
                                  refine zz_iload (x := 0) rfl zd_14_67_207 ?_
                                  refine zz_if_eq (by omega) zd_14_67_209 (fun c151 => ?_) (fun c151 => ?_)
                                  · refine zz_lconst (z := 0) (by decide) zd_14_67_233 ?_
                                    refine zz_lstore [some (.ref 1079), some (zi p0), some (zi p1), some (zi p2), some (zi p3), some (zi p4), some (zi p5), some (zi v14), some (zi v15), some (zi v16), some (zi v17), some (zi 0), some (zi 0), some (zi 0), some (zl 0), none] zd_14_67_234 (by decide) rfl ?_
                                    refine zz_iload (x := 0) rfl zd_14_67_236 ?_
                                    refine zz_i2l (by omega) zd_14_67_238 ?_
                                    refine zz_lconst (z := 1) (by decide) zd_14_67_239 ?_
                                    refine zz_ldc2 (z := 63) zq_Md_399 (by decide) zd_14_67_240 ?_
                                    refine zz_callSI [zl 0, zl 1, zl 63] zd_14_67_243 zk_Md_192 rfl rfl ⟨Nat.le_of_ble_eq_true rfl, Nat.le_of_ble_eq_true rfl⟩ ⟨rfl, rfl⟩ (Nat.zero_le _) (Nat.zero_le _) (zc_in_14_4 0 1 63 S0 n hn G_S0 (by omega) (by omega) (by omega)) (fun v153 S152 hP => ?_)
                                    obtain ⟨rfl, o154, o155⟩ := hP
                                    rcases (by omega : v153 = 0 ∨ v153 = 1) with rfl | rfl
                                    · have n156 : 0 < 1 ∨ 63 < 0 := by omega
                                      clear o155
                                      refine zz_if_eq (by omega) zd_14_67_246 (fun c157 => ?_) (fun c157 => ?_)
                                      · refine zz_iconst zd_14_67_292 ?_
                                        refine zz_istore [some (.ref 1079), some (zi p0), some (zi p1), some (zi p2), some (zi p3), some (zi p4), some (zi p5), some (zi v14), some (zi v15), some (zi v16), some (zi v17), some (zi 0), some (zi 0), some (zi 0), some (zl 0), none, some (zi 0)] zd_14_67_293 (by decide) rfl ?_
                                        refine zz_aload_n (x := 1079) rfl zd_14_67_295 ?_
                                        refine zz_iconst zd_14_67_296 ?_
                                        refine zz_iload (x := 0) rfl zd_14_67_297 ?_
                                        refine zz_if_ne (by omega) zd_14_67_299 (fun c158 => ?_) (fun c158 => ?_)
                                        · exfalso; omega
                                        · refine zz_iconst zd_14_67_302 ?_
                                          refine zz_goto zd_14_67_303 ?_
                                          refine zz_iconst zd_14_67_307 ?_
                                          refine zz_callVI [zi 0, zi 1, zi 0] zd_14_67_308 zk_Md_196 zT_1079 (zz_ltn hn rfl) rfl rfl ⟨Nat.le_of_ble_eq_true rfl, Nat.le_of_ble_eq_true rfl⟩ ⟨rfl, rfl⟩ (Nat.zero_le _) (Nat.zero_le _) (zc_refuse_14_3 0 1 0 S0 n hn G_S0 (by omega) (by omega) (by omega)) (fun v160 S159 hP => ?_)
                                          obtain ⟨G_S159, fS159, o161, o162⟩ := hP
                                          have F_S159 := zz_fr.trans F_S0 fS159 rfl zz_nv
                                          have R_S159 : zz_Hr S159 := zz_Hr.fr fS159 rfl rfl (fun b j h => h.elim) R_S0
                                          rcases (by omega : v160 = 0 ∨ v160 = 1) with rfl | rfl
                                          · exfalso; omega
                                          · have e163 : S159 1079 0 = 2 := by omega
                                            clear o162
                                            refine zz_if_eq (by omega) zd_14_67_311 (fun c164 => ?_) (fun c164 => ?_)
                                            · exfalso; omega
                                            · refine zz_iconst zd_14_67_314 ?_
                                              have e165 : S159 1079 36 = S0 1079 36 := (zz_rc fS159 rfl rfl (fun h => h) rfl)
                                              exact zz_iret zd_14_67_315 rfl (Nat.zero_le _) (Nat.zero_le _) ⟨_, _, rfl, G_S159, F_S159, by omega, by omega, (fun v hM hV => by have hi8 : (0 ≤ p0 ∧ p0 < S0 1079 36) ∧ 0 ≤ p0 ∧ p0 < S0 1079 36 := (by omega); have h7 := hV.1; have h6 := hM.1; rw [← av14, ← av15, ← av16, ← av17]; exact ⟨Or.inr (Or.inl ⟨by omega, (zn_inM hM).mpr hi8, fun h9 => by have c9 := zn_cvf av14 av15 av16 av17 h9.1 ((zn_rsM hM hi8).mp h9.2); (try clear bv14); (try clear cv14); (try clear bv15); (try clear cv15); (try clear bv16); (try clear cv16); (try clear bv17); (try clear cv17); clear h9; omega⟩), fun h => absurd h (by omega), fun _ => (zn_M.fr hM fS159 rfl rfl (fun b j h => h.elim) (by omega))⟩), R_S159⟩
                                      · exfalso; omega
                                    · exfalso; omega
                                  · exfalso; omega
                                · exfalso; omega
                              · exfalso; omega
                            · exfalso; omega
                          · have n166 : 1 ≤ v16 ∧ v16 ≤ 2 := by omega
                            clear o146
                            refine zz_if_eq (by omega) zd_14_67_121 (fun c167 => ?_) (fun c167 => ?_)
                            · exfalso; omega
                            · refine zz_iload (x := v17) rfl zd_14_67_124 ?_
                              refine zz_i2l (by omega) zd_14_67_126 ?_
                              refine zz_lconst (z := 0) (by decide) zd_14_67_127 ?_
                              refine zz_lconst (z := 1) (by decide) zd_14_67_128 ?_
                              refine zz_callSI [zl v17, zl 0, zl 1] zd_14_67_129 zk_Md_192 rfl rfl ⟨Nat.le_of_ble_eq_true rfl, Nat.le_of_ble_eq_true rfl⟩ ⟨rfl, rfl⟩ (Nat.zero_le _) (Nat.zero_le _) (zc_in_14_4 v17 0 1 S0 n hn G_S0 (by omega) (by omega) (by omega)) (fun v169 S168 hP => ?_)
                              obtain ⟨rfl, o170, o171⟩ := hP
                              rcases (by omega : v169 = 0 ∨ v169 = 1) with rfl | rfl
                              · have n172 : v17 < 0 ∨ 1 < v17 := by omega
                                clear o171
                                refine zz_if_eq (by omega) zd_14_67_132 (fun c173 => ?_) (fun c173 => ?_)
                                · refine zz_iconst zd_14_67_152 ?_
                                  refine zz_istore [some (.ref 1079), some (zi p0), some (zi p1), some (zi p2), some (zi p3), some (zi p4), some (zi p5), some (zi v14), some (zi v15), some (zi v16), some (zi v17), some (zi 0)] zd_14_67_153 (by decide) rfl ?_
                                  refine zz_iload (x := 0) rfl zd_14_67_155 ?_
                                  refine zz_if_eq (by omega) zd_14_67_157 (fun c174 => ?_) (fun c174 => ?_)
                                  · refine zz_iconst zd_14_67_178 ?_
                                    refine zz_istore [some (.ref 1079), some (zi p0), some (zi p1), some (zi p2), some (zi p3), some (zi p4), some (zi p5), some (zi v14), some (zi v15), some (zi v16), some (zi v17), some (zi 0), some (zi 0)] zd_14_67_179 (by decide) rfl ?_
                                    refine zz_iload (x := 0) rfl zd_14_67_181 ?_
                                    refine zz_if_eq (by omega) zd_14_67_183 (fun c175 => ?_) (fun c175 => ?_)
                                    · refine zz_iconst zd_14_67_204 ?_
                                      refine zz_istore [some (.ref 1079), some (zi p0), some (zi p1), some (zi p2), some (zi p3), some (zi p4), some (zi p5), some (zi v14), some (zi v15), some (zi v16), some (zi v17), some (zi 0), some (zi 0), some (zi 0)] zd_14_67_205 (by decide) rfl ?_
                                      refine zz_iload (x := 0) rfl zd_14_67_207 ?_
                                      refine zz_if_eq (by omega) zd_14_67_209 (fun c176 => ?_) (fun c176 => ?_)
                                      · refine zz_lconst (z := 0) (by decide) zd_14_67_233 ?_
                                        refine zz_lstore [some (.ref 1079), some (zi p0), some (zi p1), some (zi p2), some (zi p3), some (zi p4), some (zi p5), some (zi v14), some (zi v15), some (zi v16), some (zi v17), some (zi 0), some (zi 0), some (zi 0), some (zl 0), none] zd_14_67_234 (by decide) rfl ?_
                                        refine zz_iload (x := 0) rfl zd_14_67_236 ?_
                                        refine zz_i2l (by omega) zd_14_67_238 ?_
                                        refine zz_lconst (z := 1) (by decide) zd_14_67_239 ?_
                                        refine zz_ldc2 (z := 63) zq_Md_399 (by decide) zd_14_67_240 ?_
                                        refine zz_callSI [zl 0, zl 1, zl 63] zd_14_67_243 zk_Md_192 rfl rfl ⟨Nat.le_of_ble_eq_true rfl, Nat.le_of_ble_eq_true rfl⟩ ⟨rfl, rfl⟩ (Nat.zero_le _) (Nat.zero_le _) (zc_in_14_4 0 1 63 S0 n hn G_S0 (by omega) (by omega) (by omega)) (fun v178 S177 hP => ?_)
                                        obtain ⟨rfl, o179, o180⟩ := hP
                                        rcases (by omega : v178 = 0 ∨ v178 = 1) with rfl | rfl
                                        · have n181 : 0 < 1 ∨ 63 < 0 := by omega
                                          clear o180
                                          refine zz_if_eq (by omega) zd_14_67_246 (fun c182 => ?_) (fun c182 => ?_)
                                          · refine zz_iconst zd_14_67_292 ?_
                                            refine zz_istore [some (.ref 1079), some (zi p0), some (zi p1), some (zi p2), some (zi p3), some (zi p4), some (zi p5), some (zi v14), some (zi v15), some (zi v16), some (zi v17), some (zi 0), some (zi 0), some (zi 0), some (zl 0), none, some (zi 0)] zd_14_67_293 (by decide) rfl ?_
                                            refine zz_aload_n (x := 1079) rfl zd_14_67_295 ?_
                                            refine zz_iconst zd_14_67_296 ?_
                                            refine zz_iload (x := 0) rfl zd_14_67_297 ?_
                                            refine zz_if_ne (by omega) zd_14_67_299 (fun c183 => ?_) (fun c183 => ?_)
                                            · exfalso; omega
                                            · refine zz_iconst zd_14_67_302 ?_
                                              refine zz_goto zd_14_67_303 ?_
                                              refine zz_iconst zd_14_67_307 ?_
                                              refine zz_callVI [zi 0, zi 1, zi 0] zd_14_67_308 zk_Md_196 zT_1079 (zz_ltn hn rfl) rfl rfl ⟨Nat.le_of_ble_eq_true rfl, Nat.le_of_ble_eq_true rfl⟩ ⟨rfl, rfl⟩ (Nat.zero_le _) (Nat.zero_le _) (zc_refuse_14_3 0 1 0 S0 n hn G_S0 (by omega) (by omega) (by omega)) (fun v185 S184 hP => ?_)
                                              obtain ⟨G_S184, fS184, o186, o187⟩ := hP
                                              have F_S184 := zz_fr.trans F_S0 fS184 rfl zz_nv
                                              have R_S184 : zz_Hr S184 := zz_Hr.fr fS184 rfl rfl (fun b j h => h.elim) R_S0
                                              rcases (by omega : v185 = 0 ∨ v185 = 1) with rfl | rfl
                                              · exfalso; omega
                                              · have e188 : S184 1079 0 = 2 := by omega
                                                clear o187
                                                refine zz_if_eq (by omega) zd_14_67_311 (fun c189 => ?_) (fun c189 => ?_)
                                                · exfalso; omega
                                                · refine zz_iconst zd_14_67_314 ?_
                                                  have e190 : S184 1079 36 = S0 1079 36 := (zz_rc fS184 rfl rfl (fun h => h) rfl)
                                                  exact zz_iret zd_14_67_315 rfl (Nat.zero_le _) (Nat.zero_le _) ⟨_, _, rfl, G_S184, F_S184, by omega, by omega, (fun v hM hV => by have hi8 : (0 ≤ p0 ∧ p0 < S0 1079 36) ∧ 0 ≤ p0 ∧ p0 < S0 1079 36 := (by omega); have h7 := hV.1; have h6 := hM.1; rw [← av14, ← av15, ← av16, ← av17]; exact ⟨Or.inr (Or.inl ⟨by omega, (zn_inM hM).mpr hi8, fun h9 => by have c9 := zn_cvf av14 av15 av16 av17 h9.1 ((zn_rsM hM hi8).mp h9.2); (try clear bv14); (try clear cv14); (try clear bv15); (try clear cv15); (try clear bv16); (try clear cv16); (try clear bv17); (try clear cv17); clear h9; omega⟩), fun h => absurd h (by omega), fun _ => (zn_M.fr hM fS184 rfl rfl (fun b j h => h.elim) (by omega))⟩), R_S184⟩
                                          · exfalso; omega
                                        · exfalso; omega
                                      · exfalso; omega
                                    · exfalso; omega
                                  · exfalso; omega
                                · exfalso; omega
                              · have n191 : 0 ≤ v17 ∧ v17 ≤ 1 := by omega
                                clear o171
                                refine zz_if_eq (by omega) zd_14_67_132 (fun c192 => ?_) (fun c192 => ?_)
                                · exfalso; omega
                                · refine zz_iload (x := p4) rfl zd_14_67_135 ?_
                                  refine zz_i2l (by omega) zd_14_67_137 ?_
                                  refine zz_lconst (z := 0) (by decide) zd_14_67_138 ?_
                                  refine zz_ldc2 (z := 31) zq_Md_357 (by decide) zd_14_67_139 ?_
                                  refine zz_callSI [zl p4, zl 0, zl 31] zd_14_67_142 zk_Md_192 rfl rfl ⟨Nat.le_of_ble_eq_true rfl, Nat.le_of_ble_eq_true rfl⟩ ⟨rfl, rfl⟩ (Nat.zero_le _) (Nat.zero_le _) (zc_in_14_4 p4 0 31 S0 n hn G_S0 (by omega) (by omega) (by omega)) (fun v194 S193 hP => ?_)
                                  obtain ⟨rfl, o195, o196⟩ := hP
                                  rcases (by omega : v194 = 0 ∨ v194 = 1) with rfl | rfl
                                  · have n197 : p4 < 0 ∨ 31 < p4 := by omega
                                    clear o196
                                    refine zz_if_eq (by omega) zd_14_67_145 (fun c198 => ?_) (fun c198 => ?_)
                                    · refine zz_iconst zd_14_67_152 ?_
                                      refine zz_istore [some (.ref 1079), some (zi p0), some (zi p1), some (zi p2), some (zi p3), some (zi p4), some (zi p5), some (zi v14), some (zi v15), some (zi v16), some (zi v17), some (zi 0)] zd_14_67_153 (by decide) rfl ?_
                                      refine zz_iload (x := 0) rfl zd_14_67_155 ?_
                                      refine zz_if_eq (by omega) zd_14_67_157 (fun c199 => ?_) (fun c199 => ?_)
                                      · refine zz_iconst zd_14_67_178 ?_
                                        refine zz_istore [some (.ref 1079), some (zi p0), some (zi p1), some (zi p2), some (zi p3), some (zi p4), some (zi p5), some (zi v14), some (zi v15), some (zi v16), some (zi v17), some (zi 0), some (zi 0)] zd_14_67_179 (by decide) rfl ?_
                                        refine zz_iload (x := 0) rfl zd_14_67_181 ?_
                                        refine zz_if_eq (by omega) zd_14_67_183 (fun c200 => ?_) (fun c200 => ?_)
                                        · refine zz_iconst zd_14_67_204 ?_
                                          refine zz_istore [some (.ref 1079), some (zi p0), some (zi p1), some (zi p2), some (zi p3), some (zi p4), some (zi p5), some (zi v14), some (zi v15), some (zi v16), some (zi v17), some (zi 0), some (zi 0), some (zi 0)] zd_14_67_205 (by decide) rfl ?_
                                          refine zz_iload (x := 0) rfl zd_14_67_207 ?_
                                          refine zz_if_eq (by omega) zd_14_67_209 (fun c201 => ?_) (fun c201 => ?_)
                                          · refine zz_lconst (z := 0) (by decide) zd_14_67_233 ?_
                                            refine zz_lstore [some (.ref 1079), some (zi p0), some (zi p1), some (zi p2), some (zi p3), some (zi p4), some (zi p5), some (zi v14), some (zi v15), some (zi v16), some (zi v17), some (zi 0), some (zi 0), some (zi 0), some (zl 0), none] zd_14_67_234 (by decide) rfl ?_
                                            refine zz_iload (x := 0) rfl zd_14_67_236 ?_
                                            refine zz_i2l (by omega) zd_14_67_238 ?_
                                            refine zz_lconst (z := 1) (by decide) zd_14_67_239 ?_
                                            refine zz_ldc2 (z := 63) zq_Md_399 (by decide) zd_14_67_240 ?_
                                            refine zz_callSI [zl 0, zl 1, zl 63] zd_14_67_243 zk_Md_192 rfl rfl ⟨Nat.le_of_ble_eq_true rfl, Nat.le_of_ble_eq_true rfl⟩ ⟨rfl, rfl⟩ (Nat.zero_le _) (Nat.zero_le _) (zc_in_14_4 0 1 63 S0 n hn G_S0 (by omega) (by omega) (by omega)) (fun v203 S202 hP => ?_)
                                            obtain ⟨rfl, o204, o205⟩ := hP
                                            rcases (by omega : v203 = 0 ∨ v203 = 1) with rfl | rfl
                                            · have n206 : 0 < 1 ∨ 63 < 0 := by omega
                                              clear o205
                                              refine zz_if_eq (by omega) zd_14_67_246 (fun c207 => ?_) (fun c207 => ?_)
                                              · refine zz_iconst zd_14_67_292 ?_
                                                refine zz_istore [some (.ref 1079), some (zi p0), some (zi p1), some (zi p2), some (zi p3), some (zi p4), some (zi p5), some (zi v14), some (zi v15), some (zi v16), some (zi v17), some (zi 0), some (zi 0), some (zi 0), some (zl 0), none, some (zi 0)] zd_14_67_293 (by decide) rfl ?_
                                                refine zz_aload_n (x := 1079) rfl zd_14_67_295 ?_
                                                refine zz_iconst zd_14_67_296 ?_
                                                refine zz_iload (x := 0) rfl zd_14_67_297 ?_
                                                refine zz_if_ne (by omega) zd_14_67_299 (fun c208 => ?_) (fun c208 => ?_)
                                                · exfalso; omega
                                                · refine zz_iconst zd_14_67_302 ?_
                                                  refine zz_goto zd_14_67_303 ?_
                                                  refine zz_iconst zd_14_67_307 ?_
                                                  refine zz_callVI [zi 0, zi 1, zi 0] zd_14_67_308 zk_Md_196 zT_1079 (zz_ltn hn rfl) rfl rfl ⟨Nat.le_of_ble_eq_true rfl, Nat.le_of_ble_eq_true rfl⟩ ⟨rfl, rfl⟩ (Nat.zero_le _) (Nat.zero_le _) (zc_refuse_14_3 0 1 0 S0 n hn G_S0 (by omega) (by omega) (by omega)) (fun v210 S209 hP => ?_)
                                                  obtain ⟨G_S209, fS209, o211, o212⟩ := hP
                                                  have F_S209 := zz_fr.trans F_S0 fS209 rfl zz_nv
                                                  have R_S209 : zz_Hr S209 := zz_Hr.fr fS209 rfl rfl (fun b j h => h.elim) R_S0
                                                  rcases (by omega : v210 = 0 ∨ v210 = 1) with rfl | rfl
                                                  · exfalso; omega
                                                  · have e213 : S209 1079 0 = 2 := by omega
                                                    clear o212
                                                    refine zz_if_eq (by omega) zd_14_67_311 (fun c214 => ?_) (fun c214 => ?_)
                                                    · exfalso; omega
                                                    · refine zz_iconst zd_14_67_314 ?_
                                                      have e215 : S209 1079 36 = S0 1079 36 := (zz_rc fS209 rfl rfl (fun h => h) rfl)
                                                      exact zz_iret zd_14_67_315 rfl (Nat.zero_le _) (Nat.zero_le _) ⟨_, _, rfl, G_S209, F_S209, by omega, by omega, (fun v hM hV => by have hi8 : (0 ≤ p0 ∧ p0 < S0 1079 36) ∧ 0 ≤ p0 ∧ p0 < S0 1079 36 := (by omega); have h7 := hV.1; have h6 := hM.1; rw [← av14, ← av15, ← av16, ← av17]; exact ⟨Or.inr (Or.inl ⟨by omega, (zn_inM hM).mpr hi8, fun h9 => by have c9 := zn_cvf av14 av15 av16 av17 h9.1 ((zn_rsM hM hi8).mp h9.2); (try clear bv14); (try clear cv14); (try clear bv15); (try clear cv15); (try clear bv16); (try clear cv16); (try clear bv17); (try clear cv17); clear h9; omega⟩), fun h => absurd h (by omega), fun _ => (zn_M.fr hM fS209 rfl rfl (fun b j h => h.elim) (by omega))⟩), R_S209⟩
                                              · exfalso; omega
                                            · exfalso; omega
                                          · exfalso; omega
                                        · exfalso; omega
                                      · exfalso; omega
                                    · exfalso; omega
                                  · have n216 : 0 ≤ p4 ∧ p4 ≤ 31 := by omega
                                    clear o196
                                    refine zz_if_eq (by omega) zd_14_67_145 (fun c217 => ?_) (fun c217 => ?_)
                                    · exfalso; omega
                                    · refine zz_iconst zd_14_67_148 ?_
                                      refine zz_goto zd_14_67_149 ?_
                                      refine zz_istore [some (.ref 1079), some (zi p0), some (zi p1), some (zi p2), some (zi p3), some (zi p4), some (zi p5), some (zi v14), some (zi v15), some (zi v16), some (zi v17), some (zi 1)] zd_14_67_153 (by decide) rfl ?_
                                      refine zz_iload (x := 1) rfl zd_14_67_155 ?_
                                      refine zz_if_eq (by omega) zd_14_67_157 (fun c218 => ?_) (fun c218 => ?_)
                                      · exfalso; omega
                                      · refine zz_aload_n (x := 1079) rfl zd_14_67_160 ?_
                                        refine zz_getr (kd := 0) (z := 1102) zd_14_67_161 zf_Md_88 zT_1079 rfl (zz_ltn hn rfl) (zz_G.eq G_S0 1079 37 1102 rfl rfl) (by decide) 1102 rfl ?_
                                        refine zz_iload_n (x := p0) rfl zd_14_67_164 ?_
                                        have g219 := zz_G.r G_S0 1102 p0.toNat 0 63 rfl rfl
                                        refine zz_iald (z := S0 1102 p0.toNat) zd_14_67_165 zT_1102 rfl (zz_ltn hn rfl) (by decide) (by omega) rfl ?_
                                        refine zz_iload (x := v14) rfl zd_14_67_166 ?_
                                        refine zz_iload (x := v16) rfl zd_14_67_168 ?_
                                        refine zz_iload (x := v17) rfl zd_14_67_170 ?_
                                        refine zz_callSI [zi (S0 1102 p0.toNat), zi v14, zi v16, zi v17] zd_14_67_172 zk_Md_420 rfl rfl ⟨Nat.le_of_ble_eq_true rfl, Nat.le_of_ble_eq_true rfl⟩ ⟨rfl, rfl⟩ (Nat.zero_le _) (Nat.zero_le _) (zc_resultsOf_14_64 (S0 1102 p0.toNat) v14 v16 v17 S0 n hn G_S0 (by omega) (by omega) (by omega) (by omega)) (fun v221 S220 hP => ?_)
                                        obtain ⟨rfl, o222, o223, o224, o225⟩ := hP
                                        refine zz_goto zd_14_67_175 ?_
                                        refine zz_istore [some (.ref 1079), some (zi p0), some (zi p1), some (zi p2), some (zi p3), some (zi p4), some (zi p5), some (zi v14), some (zi v15), some (zi v16), some (zi v17), some (zi 1), some (zi v221)] zd_14_67_179 (by decide) rfl ?_
                                        refine zz_iload (x := 1) rfl zd_14_67_181 ?_
                                        refine zz_if_eq (by omega) zd_14_67_183 (fun c226 => ?_) (fun c226 => ?_)
                                        · exfalso; omega
                                        · refine zz_aload_n (x := 1079) rfl zd_14_67_186 ?_
                                          refine zz_getr (kd := 0) (z := 1103) zd_14_67_187 zf_Md_91 zT_1079 rfl (zz_ltn hn rfl) (zz_G.eq G_S0 1079 38 1103 rfl rfl) (by decide) 1103 rfl ?_
                                          refine zz_iload_n (x := p0) rfl zd_14_67_190 ?_
                                          have g227 := zz_G.r G_S0 1103 p0.toNat 0 63 rfl rfl
                                          refine zz_iald (z := S0 1103 p0.toNat) zd_14_67_191 zT_1103 rfl (zz_ltn hn rfl) (by decide) (by omega) rfl ?_
                                          refine zz_iload (x := v15) rfl zd_14_67_192 ?_
                                          refine zz_iload (x := v16) rfl zd_14_67_194 ?_
                                          refine zz_iload (x := v17) rfl zd_14_67_196 ?_
                                          refine zz_callSI [zi (S0 1103 p0.toNat), zi v15, zi v16, zi v17] zd_14_67_198 zk_Md_420 rfl rfl ⟨Nat.le_of_ble_eq_true rfl, Nat.le_of_ble_eq_true rfl⟩ ⟨rfl, rfl⟩ (Nat.zero_le _) (Nat.zero_le _) (zc_resultsOf_14_64 (S0 1103 p0.toNat) v15 v16 v17 S0 n hn G_S0 (by omega) (by omega) (by omega) (by omega)) (fun v229 S228 hP => ?_)
                                          obtain ⟨rfl, o230, o231, o232, o233⟩ := hP
                                          refine zz_goto zd_14_67_201 ?_
                                          refine zz_istore [some (.ref 1079), some (zi p0), some (zi p1), some (zi p2), some (zi p3), some (zi p4), some (zi p5), some (zi v14), some (zi v15), some (zi v16), some (zi v17), some (zi 1), some (zi v221), some (zi v229)] zd_14_67_205 (by decide) rfl ?_
                                          refine zz_iload (x := 1) rfl zd_14_67_207 ?_
                                          refine zz_if_eq (by omega) zd_14_67_209 (fun c234 => ?_) (fun c234 => ?_)
                                          · exfalso; omega
                                          · refine zz_iload_n (x := p2) rfl zd_14_67_212 ?_
                                            refine zz_i2l (by omega) zd_14_67_213 ?_
                                            refine zz_iconst zd_14_67_214 ?_
                                            refine zz_iload (x := v14) rfl zd_14_67_215 ?_
                                            refine zz_iload (x := v15) rfl zd_14_67_217 ?_
                                            refine zz_imul zd_14_67_219 ?_
                                            have m235 := zz_mulb (a := v14) (b := v15) 3 3 9 (by omega) (by omega) (by decide)
                                            refine zz_aload_n (x := 1079) rfl zd_14_67_220 ?_
                                            refine zz_getr (kd := 0) (z := 1104) zd_14_67_221 zf_Md_94 zT_1079 rfl (zz_ltn hn rfl) (zz_G.eq G_S0 1079 39 1104 rfl rfl) (by decide) 1104 rfl ?_
                                            refine zz_iload_n (x := p0) rfl zd_14_67_224 ?_
                                            have g236 := zz_G.r G_S0 1104 p0.toNat 0 63 rfl rfl
                                            refine zz_iald (z := S0 1104 p0.toNat) zd_14_67_225 zT_1104 rfl (zz_ltn hn rfl) (by decide) (by omega) rfl ?_
                                            refine zz_imul zd_14_67_226 ?_
                                            have m237 := zz_mulb (a := v14 * v15) (b := S0 1104 p0.toNat) 9 63 567 (by omega) (by omega) (by decide)
                                            refine zz_iadd zd_14_67_227 ?_
                                            refine zz_i2l (by omega) zd_14_67_228 ?_
                                            refine zz_lmul zd_14_67_229 ?_
                                            have m238 := zz_mulb (a := p2) (b := 4 + ((v14 * v15) * (S0 1104 p0.toNat))) 16 571 9136 (by omega) (by omega) (by decide)
                                            refine zz_goto zd_14_67_230 ?_
                                            refine zz_lstore [some (.ref 1079), some (zi p0), some (zi p1), some (zi p2), some (zi p3), some (zi p4), some (zi p5), some (zi v14), some (zi v15), some (zi v16), some (zi v17), some (zi 1), some (zi v221), some (zi v229), some (zl (p2 * (4 + ((v14 * v15) * (S0 1104 p0.toNat))))), none] zd_14_67_234 (by decide) rfl ?_
                                            refine zz_iload (x := v221) rfl zd_14_67_236 ?_
                                            refine zz_i2l (by omega) zd_14_67_238 ?_
                                            refine zz_lconst (z := 1) (by decide) zd_14_67_239 ?_
                                            refine zz_ldc2 (z := 63) zq_Md_399 (by decide) zd_14_67_240 ?_
                                            refine zz_callSI [zl v221, zl 1, zl 63] zd_14_67_243 zk_Md_192 rfl rfl ⟨Nat.le_of_ble_eq_true rfl, Nat.le_of_ble_eq_true rfl⟩ ⟨rfl, rfl⟩ (Nat.zero_le _) (Nat.zero_le _) (zc_in_14_4 v221 1 63 S0 n hn G_S0 (by omega) (by omega) (by omega)) (fun v240 S239 hP => ?_)
                                            obtain ⟨rfl, o241, o242⟩ := hP
                                            rcases (by omega : v240 = 0 ∨ v240 = 1) with rfl | rfl
                                            · have n243 : v221 < 1 ∨ 63 < v221 := by omega
                                              clear o242
                                              refine zz_if_eq (by omega) zd_14_67_246 (fun c244 => ?_) (fun c244 => ?_)
                                              · refine zz_iconst zd_14_67_292 ?_
                                                refine zz_istore [some (.ref 1079), some (zi p0), some (zi p1), some (zi p2), some (zi p3), some (zi p4), some (zi p5), some (zi v14), some (zi v15), some (zi v16), some (zi v17), some (zi 1), some (zi v221), some (zi v229), some (zl (p2 * (4 + ((v14 * v15) * (S0 1104 p0.toNat))))), none, some (zi 0)] zd_14_67_293 (by decide) rfl ?_
                                                refine zz_aload_n (x := 1079) rfl zd_14_67_295 ?_
                                                refine zz_iconst zd_14_67_296 ?_
                                                refine zz_iload (x := 0) rfl zd_14_67_297 ?_
                                                refine zz_if_ne (by omega) zd_14_67_299 (fun c245 => ?_) (fun c245 => ?_)
                                                · exfalso; omega
                                                · refine zz_iconst zd_14_67_302 ?_
                                                  refine zz_goto zd_14_67_303 ?_
                                                  refine zz_iconst zd_14_67_307 ?_
                                                  refine zz_callVI [zi 0, zi 1, zi 0] zd_14_67_308 zk_Md_196 zT_1079 (zz_ltn hn rfl) rfl rfl ⟨Nat.le_of_ble_eq_true rfl, Nat.le_of_ble_eq_true rfl⟩ ⟨rfl, rfl⟩ (Nat.zero_le _) (Nat.zero_le _) (zc_refuse_14_3 0 1 0 S0 n hn G_S0 (by omega) (by omega) (by omega)) (fun v247 S246 hP => ?_)
                                                  obtain ⟨G_S246, fS246, o248, o249⟩ := hP
                                                  have F_S246 := zz_fr.trans F_S0 fS246 rfl zz_nv
                                                  have R_S246 : zz_Hr S246 := zz_Hr.fr fS246 rfl rfl (fun b j h => h.elim) R_S0
                                                  rcases (by omega : v247 = 0 ∨ v247 = 1) with rfl | rfl
                                                  · exfalso; omega
                                                  · have e250 : S246 1079 0 = 2 := by omega
                                                    clear o249
                                                    refine zz_if_eq (by omega) zd_14_67_311 (fun c251 => ?_) (fun c251 => ?_)
                                                    · exfalso; omega
                                                    · refine zz_iconst zd_14_67_314 ?_
                                                      have e252 : S246 1079 36 = S0 1079 36 := (zz_rc fS246 rfl rfl (fun h => h) rfl)
                                                      exact zz_iret zd_14_67_315 rfl (Nat.zero_le _) (Nat.zero_le _) ⟨_, _, rfl, G_S246, F_S246, by omega, by omega, (fun v hM hV => by have hi8 : (0 ≤ p0 ∧ p0 < S0 1079 36) ∧ 0 ≤ p0 ∧ p0 < S0 1079 36 := (by omega); have h7 := hV.1; have h6 := hM.1; rw [← av14, ← av15, ← av16, ← av17]; exact ⟨Or.inr (Or.inl ⟨by omega, (zn_inM hM).mpr hi8, fun h9 => by have c9 := zn_cvf av14 av15 av16 av17 h9.1 ((zn_rsM hM hi8).mp h9.2); (try clear bv14); (try clear cv14); (try clear bv15); (try clear cv15); (try clear bv16); (try clear cv16); (try clear bv17); (try clear cv17); clear h9; omega⟩), fun h => absurd h (by omega), fun _ => (zn_M.fr hM fS246 rfl rfl (fun b j h => h.elim) (by omega))⟩), R_S246⟩
                                              · exfalso; omega
                                            · have n253 : 1 ≤ v221 ∧ v221 ≤ 63 := by omega
                                              clear o242
                                              refine zz_if_eq (by omega) zd_14_67_246 (fun c254 => ?_) (fun c254 => ?_)
                                              · exfalso; omega
                                              · refine zz_iload (x := v229) rfl zd_14_67_249 ?_
                                                refine zz_i2l (by omega) zd_14_67_251 ?_
                                                refine zz_lconst (z := 1) (by decide) zd_14_67_252 ?_
                                                refine zz_ldc2 (z := 63) zq_Md_399 (by decide) zd_14_67_253 ?_
                                                refine zz_callSI [zl v229, zl 1, zl 63] zd_14_67_256 zk_Md_192 rfl rfl ⟨Nat.le_of_ble_eq_true rfl, Nat.le_of_ble_eq_true rfl⟩ ⟨rfl, rfl⟩ (Nat.zero_le _) (Nat.zero_le _) (zc_in_14_4 v229 1 63 S0 n hn G_S0 (by omega) (by omega) (by omega)) (fun v256 S255 hP => ?_)
                                                obtain ⟨rfl, o257, o258⟩ := hP
                                                rcases (by omega : v256 = 0 ∨ v256 = 1) with rfl | rfl
                                                · have n259 : v229 < 1 ∨ 63 < v229 := by omega
                                                  clear o258
                                                  refine zz_if_eq (by omega) zd_14_67_259 (fun c260 => ?_) (fun c260 => ?_)
                                                  · refine zz_iconst zd_14_67_292 ?_
                                                    refine zz_istore [some (.ref 1079), some (zi p0), some (zi p1), some (zi p2), some (zi p3), some (zi p4), some (zi p5), some (zi v14), some (zi v15), some (zi v16), some (zi v17), some (zi 1), some (zi v221), some (zi v229), some (zl (p2 * (4 + ((v14 * v15) * (S0 1104 p0.toNat))))), none, some (zi 0)] zd_14_67_293 (by decide) rfl ?_
                                                    refine zz_aload_n (x := 1079) rfl zd_14_67_295 ?_
                                                    refine zz_iconst zd_14_67_296 ?_
                                                    refine zz_iload (x := 0) rfl zd_14_67_297 ?_
                                                    refine zz_if_ne (by omega) zd_14_67_299 (fun c261 => ?_) (fun c261 => ?_)
                                                    · exfalso; omega
                                                    · refine zz_iconst zd_14_67_302 ?_
                                                      refine zz_goto zd_14_67_303 ?_
                                                      refine zz_iconst zd_14_67_307 ?_
                                                      refine zz_callVI [zi 0, zi 1, zi 0] zd_14_67_308 zk_Md_196 zT_1079 (zz_ltn hn rfl) rfl rfl ⟨Nat.le_of_ble_eq_true rfl, Nat.le_of_ble_eq_true rfl⟩ ⟨rfl, rfl⟩ (Nat.zero_le _) (Nat.zero_le _) (zc_refuse_14_3 0 1 0 S0 n hn G_S0 (by omega) (by omega) (by omega)) (fun v263 S262 hP => ?_)
                                                      obtain ⟨G_S262, fS262, o264, o265⟩ := hP
                                                      have F_S262 := zz_fr.trans F_S0 fS262 rfl zz_nv
                                                      have R_S262 : zz_Hr S262 := zz_Hr.fr fS262 rfl rfl (fun b j h => h.elim) R_S0
                                                      rcases (by omega : v263 = 0 ∨ v263 = 1) with rfl | rfl
                                                      · exfalso; omega
                                                      · have e266 : S262 1079 0 = 2 := by omega
                                                        clear o265
                                                        refine zz_if_eq (by omega) zd_14_67_311 (fun c267 => ?_) (fun c267 => ?_)
                                                        · exfalso; omega
                                                        · refine zz_iconst zd_14_67_314 ?_
                                                          have e268 : S262 1079 36 = S0 1079 36 := (zz_rc fS262 rfl rfl (fun h => h) rfl)
                                                          exact zz_iret zd_14_67_315 rfl (Nat.zero_le _) (Nat.zero_le _) ⟨_, _, rfl, G_S262, F_S262, by omega, by omega, (fun v hM hV => by have hi8 : (0 ≤ p0 ∧ p0 < S0 1079 36) ∧ 0 ≤ p0 ∧ p0 < S0 1079 36 := (by omega); have h7 := hV.1; have h6 := hM.1; rw [← av14, ← av15, ← av16, ← av17]; exact ⟨Or.inr (Or.inl ⟨by omega, (zn_inM hM).mpr hi8, fun h9 => by have c9 := zn_cvf av14 av15 av16 av17 h9.1 ((zn_rsM hM hi8).mp h9.2); (try clear bv14); (try clear cv14); (try clear bv15); (try clear cv15); (try clear bv16); (try clear cv16); (try clear bv17); (try clear cv17); clear h9; omega⟩), fun h => absurd h (by omega), fun _ => (zn_M.fr hM fS262 rfl rfl (fun b j h => h.elim) (by omega))⟩), R_S262⟩
                                                  · exfalso; omega
                                                · have n269 : 1 ≤ v229 ∧ v229 ≤ 63 := by omega
                                                  clear o258
                                                  refine zz_if_eq (by omega) zd_14_67_259 (fun c270 => ?_) (fun c270 => ?_)
                                                  · exfalso; omega
                                                  · refine zz_iload (x := p5) rfl zd_14_67_262 ?_
                                                    refine zz_i2l (by omega) zd_14_67_264 ?_
                                                    refine zz_lconst (z := 0) (by decide) zd_14_67_265 ?_
                                                    refine zz_ldc2 (z := 4096) zq_Md_424 (by decide) zd_14_67_266 ?_
                                                    refine zz_callSI [zl p5, zl 0, zl 4096] zd_14_67_269 zk_Md_192 rfl rfl ⟨Nat.le_of_ble_eq_true rfl, Nat.le_of_ble_eq_true rfl⟩ ⟨rfl, rfl⟩ (Nat.zero_le _) (Nat.zero_le _) (zc_in_14_4 p5 0 4096 S0 n hn G_S0 (by omega) (by omega) (by omega)) (fun v272 S271 hP => ?_)
                                                    obtain ⟨rfl, o273, o274⟩ := hP
                                                    rcases (by omega : v272 = 0 ∨ v272 = 1) with rfl | rfl
                                                    · have n275 : p5 < 0 ∨ 4096 < p5 := by omega
                                                      clear o274
                                                      refine zz_if_eq (by omega) zd_14_67_272 (fun c276 => ?_) (fun c276 => ?_)
                                                      · refine zz_iconst zd_14_67_292 ?_
                                                        refine zz_istore [some (.ref 1079), some (zi p0), some (zi p1), some (zi p2), some (zi p3), some (zi p4), some (zi p5), some (zi v14), some (zi v15), some (zi v16), some (zi v17), some (zi 1), some (zi v221), some (zi v229), some (zl (p2 * (4 + ((v14 * v15) * (S0 1104 p0.toNat))))), none, some (zi 0)] zd_14_67_293 (by decide) rfl ?_
                                                        refine zz_aload_n (x := 1079) rfl zd_14_67_295 ?_
                                                        refine zz_iconst zd_14_67_296 ?_
                                                        refine zz_iload (x := 0) rfl zd_14_67_297 ?_
                                                        refine zz_if_ne (by omega) zd_14_67_299 (fun c277 => ?_) (fun c277 => ?_)
                                                        · exfalso; omega
                                                        · refine zz_iconst zd_14_67_302 ?_
                                                          refine zz_goto zd_14_67_303 ?_
                                                          refine zz_iconst zd_14_67_307 ?_
                                                          refine zz_callVI [zi 0, zi 1, zi 0] zd_14_67_308 zk_Md_196 zT_1079 (zz_ltn hn rfl) rfl rfl ⟨Nat.le_of_ble_eq_true rfl, Nat.le_of_ble_eq_true rfl⟩ ⟨rfl, rfl⟩ (Nat.zero_le _) (Nat.zero_le _) (zc_refuse_14_3 0 1 0 S0 n hn G_S0 (by omega) (by omega) (by omega)) (fun v279 S278 hP => ?_)
                                                          obtain ⟨G_S278, fS278, o280, o281⟩ := hP
                                                          have F_S278 := zz_fr.trans F_S0 fS278 rfl zz_nv
                                                          have R_S278 : zz_Hr S278 := zz_Hr.fr fS278 rfl rfl (fun b j h => h.elim) R_S0
                                                          rcases (by omega : v279 = 0 ∨ v279 = 1) with rfl | rfl
                                                          · exfalso; omega
                                                          · have e282 : S278 1079 0 = 2 := by omega
                                                            clear o281
                                                            refine zz_if_eq (by omega) zd_14_67_311 (fun c283 => ?_) (fun c283 => ?_)
                                                            · exfalso; omega
                                                            · refine zz_iconst zd_14_67_314 ?_
                                                              have e284 : S278 1079 36 = S0 1079 36 := (zz_rc fS278 rfl rfl (fun h => h) rfl)
                                                              exact zz_iret zd_14_67_315 rfl (Nat.zero_le _) (Nat.zero_le _) ⟨_, _, rfl, G_S278, F_S278, by omega, by omega, (fun v hM hV => by have hi8 : (0 ≤ p0 ∧ p0 < S0 1079 36) ∧ 0 ≤ p0 ∧ p0 < S0 1079 36 := (by omega); have h7 := hV.1; have h6 := hM.1; rw [← av14, ← av15, ← av16, ← av17]; exact ⟨Or.inr (Or.inl ⟨by omega, (zn_inM hM).mpr hi8, fun h9 => by have c9 := zn_cvf av14 av15 av16 av17 h9.1 ((zn_rsM hM hi8).mp h9.2); (try clear bv14); (try clear cv14); (try clear bv15); (try clear cv15); (try clear bv16); (try clear cv16); (try clear bv17); (try clear cv17); clear h9; omega⟩), fun h => absurd h (by omega), fun _ => (zn_M.fr hM fS278 rfl rfl (fun b j h => h.elim) (by omega))⟩), R_S278⟩
                                                      · exfalso; omega
                                                    · have n285 : 0 ≤ p5 ∧ p5 ≤ 4096 := by omega
                                                      clear o274
                                                      refine zz_if_eq (by omega) zd_14_67_272 (fun c286 => ?_) (fun c286 => ?_)
                                                      · exfalso; omega
                                                      · refine zz_iload (x := p5) rfl zd_14_67_275 ?_
                                                        refine zz_i2l (by omega) zd_14_67_277 ?_
                                                        refine zz_lload (x := p2 * (4 + ((v14 * v15) * (S0 1104 p0.toNat)))) rfl zd_14_67_278 ?_
                                                        refine zz_ladd zd_14_67_280 ?_
                                                        refine zz_nmel (fun v287 ev287 => ?_)
                                                        refine zz_ldc2 (z := 4096) zq_Md_424 (by decide) zd_14_67_281 ?_
                                                        refine zz_lcmp (by omega) (by omega) zd_14_67_284 (fun v288 hv288 => ?_)
                                                        refine zz_if_gt (by omega) zd_14_67_285 (fun c289 => ?_) (fun c289 => ?_)
                                                        · refine zz_iconst zd_14_67_292 ?_
                                                          refine zz_istore [some (.ref 1079), some (zi p0), some (zi p1), some (zi p2), some (zi p3), some (zi p4), some (zi p5), some (zi v14), some (zi v15), some (zi v16), some (zi v17), some (zi 1), some (zi v221), some (zi v229), some (zl (p2 * (4 + ((v14 * v15) * (S0 1104 p0.toNat))))), none, some (zi 0)] zd_14_67_293 (by decide) rfl ?_
                                                          refine zz_aload_n (x := 1079) rfl zd_14_67_295 ?_
                                                          refine zz_iconst zd_14_67_296 ?_
                                                          refine zz_iload (x := 0) rfl zd_14_67_297 ?_
                                                          refine zz_if_ne (by omega) zd_14_67_299 (fun c290 => ?_) (fun c290 => ?_)
                                                          · exfalso; omega
                                                          · refine zz_iconst zd_14_67_302 ?_
                                                            refine zz_goto zd_14_67_303 ?_
                                                            refine zz_iconst zd_14_67_307 ?_
                                                            refine zz_callVI [zi 0, zi 1, zi 0] zd_14_67_308 zk_Md_196 zT_1079 (zz_ltn hn rfl) rfl rfl ⟨Nat.le_of_ble_eq_true rfl, Nat.le_of_ble_eq_true rfl⟩ ⟨rfl, rfl⟩ (Nat.zero_le _) (Nat.zero_le _) (zc_refuse_14_3 0 1 0 S0 n hn G_S0 (by omega) (by omega) (by omega)) (fun v292 S291 hP => ?_)
                                                            obtain ⟨G_S291, fS291, o293, o294⟩ := hP
                                                            have F_S291 := zz_fr.trans F_S0 fS291 rfl zz_nv
                                                            have R_S291 : zz_Hr S291 := zz_Hr.fr fS291 rfl rfl (fun b j h => h.elim) R_S0
                                                            rcases (by omega : v292 = 0 ∨ v292 = 1) with rfl | rfl
                                                            · exfalso; omega
                                                            · have e295 : S291 1079 0 = 2 := by omega
                                                              clear o294
                                                              refine zz_if_eq (by omega) zd_14_67_311 (fun c296 => ?_) (fun c296 => ?_)
                                                              · exfalso; omega
                                                              · refine zz_iconst zd_14_67_314 ?_
                                                                have e297 : S291 1079 36 = S0 1079 36 := (zz_rc fS291 rfl rfl (fun h => h) rfl)
                                                                exact zz_iret zd_14_67_315 rfl (Nat.zero_le _) (Nat.zero_le _) ⟨_, _, rfl, G_S291, F_S291, by omega, by omega, (fun v hM hV => by have hi8 : (0 ≤ p0 ∧ p0 < S0 1079 36) ∧ 0 ≤ p0 ∧ p0 < S0 1079 36 := (by omega); have h7 := hV.1; have h6 := hM.1; rw [← av14, ← av15, ← av16, ← av17]; exact ⟨Or.inr (Or.inl ⟨by omega, (zn_inM hM).mpr hi8, fun h9 => by have c9 := zn_cvf av14 av15 av16 av17 h9.1 ((zn_rsM hM hi8).mp h9.2); (try clear bv14); (try clear cv14); (try clear bv15); (try clear cv15); (try clear bv16); (try clear cv16); (try clear bv17); (try clear cv17); clear h9; omega⟩), fun h => absurd h (by omega), fun _ => (zn_M.fr hM fS291 rfl rfl (fun b j h => h.elim) (by omega))⟩), R_S291⟩
                                                        · refine zz_iconst zd_14_67_288 ?_
                                                          refine zz_goto zd_14_67_289 ?_
                                                          refine zz_istore [some (.ref 1079), some (zi p0), some (zi p1), some (zi p2), some (zi p3), some (zi p4), some (zi p5), some (zi v14), some (zi v15), some (zi v16), some (zi v17), some (zi 1), some (zi v221), some (zi v229), some (zl (p2 * (4 + ((v14 * v15) * (S0 1104 p0.toNat))))), none, some (zi 1)] zd_14_67_293 (by decide) rfl ?_
                                                          refine zz_aload_n (x := 1079) rfl zd_14_67_295 ?_
                                                          refine zz_iconst zd_14_67_296 ?_
                                                          refine zz_iload (x := 1) rfl zd_14_67_297 ?_
                                                          refine zz_if_ne (by omega) zd_14_67_299 (fun c298 => ?_) (fun c298 => ?_)
                                                          · refine zz_iconst zd_14_67_306 ?_
                                                            refine zz_iconst zd_14_67_307 ?_
                                                            refine zz_callVI [zi 0, zi 0, zi 0] zd_14_67_308 zk_Md_196 zT_1079 (zz_ltn hn rfl) rfl rfl ⟨Nat.le_of_ble_eq_true rfl, Nat.le_of_ble_eq_true rfl⟩ ⟨rfl, rfl⟩ (Nat.zero_le _) (Nat.zero_le _) (zc_refuse_14_3 0 0 0 S0 n hn G_S0 (by omega) (by omega) (by omega)) (fun v300 S299 hP => ?_)
                                                            obtain ⟨G_S299, fS299, o301, o302⟩ := hP
                                                            have F_S299 := zz_fr.trans F_S0 fS299 rfl zz_nv
                                                            have R_S299 : zz_Hr S299 := zz_Hr.fr fS299 rfl rfl (fun b j h => h.elim) R_S0
                                                            rcases (by omega : v300 = 0 ∨ v300 = 1) with rfl | rfl
                                                            · have e303 : S299 1079 0 = 0 := by omega
                                                              clear o302
                                                              refine zz_if_eq (by omega) zd_14_67_311 (fun c304 => ?_) (fun c304 => ?_)
                                                              · have e305 : S299 1079 36 = S0 1079 36 := (zz_rc fS299 rfl rfl (fun h => h) rfl)
                                                                refine zz_less (ls1 := [some (.ref 1079), some (zi p0), none, some (zi p2), none, some (zi p4), some (zi p5), some (zi v14), some (zi v15), some (zi v16), some (zi v17), none, some (zi v221), some (zi v229)]) ⟨rfl, ⟨rfl, ⟨rfl, ⟨rfl, ⟨rfl, ⟨rfl, ⟨rfl, ⟨rfl, ⟨rfl, ⟨rfl, ⟨rfl, trivial⟩⟩⟩⟩⟩⟩⟩⟩⟩⟩⟩ ?_
                                                                exact k316 v14 v15 v16 v17 v221 v229 S299 G_S299 F_S299 (by omega) (by omega) (by omega) (by omega) (by omega) (by omega) (by omega) (by omega) (by omega) (by omega) (by omega) (by omega) (by omega) (by omega) (by omega) (by omega) (by omega) (by omega) (by omega) (fun a i x y => fS299 a i (zz_nc4 rfl (by omega)) (zz_nc3 rfl (by omega)) (fun h => h)) ⟨av14, av15, av16, av17⟩ (by omega) (by omega) (by omega) R_S299
                                                              · exfalso; omega
                                                            · exfalso; omega
                                                          · exfalso; omega
    · exfalso; omega
abbrev zy_pool_14_69 : mm_Y := (⟨"TensorForgeModel", "pool", "(III)I"⟩, prog_14_method_69_code, 11, (some .int))
theorem zyw_pool_14_69 : mm_Yw zy_pool_14_69 3 := ⟨mm_tb_1 2104 (by decide +kernel) rfl, mm_tb_1 12 (by decide +kernel) rfl, ⟨by decide, by decide⟩, by decide +kernel⟩
theorem zg_14_69_0 : zq_at zy_pool_14_69.2.1 0 42 ∧ zq_at zy_pool_14_69.2.1 1 27 ∧ zq_at zy_pool_14_69.2.1 2 182 ∧ zq_at zy_pool_14_69.2.1 3 1 ∧ zq_at zy_pool_14_69.2.1 4 155 ∧ zq_at zy_pool_14_69.2.1 5 154 ∧ zq_at zy_pool_14_69.2.1 6 0 ∧ zq_at zy_pool_14_69.2.1 7 13 ∧ zq_at zy_pool_14_69.2.1 8 42 ∧ zq_at zy_pool_14_69.2.1 9 4 ∧ zq_at zy_pool_14_69.2.1 10 3 ∧ zq_at zy_pool_14_69.2.1 11 3 ∧ zq_at zy_pool_14_69.2.1 12 182 ∧ zq_at zy_pool_14_69.2.1 13 0 ∧ zq_at zy_pool_14_69.2.1 14 196 ∧ zq_at zy_pool_14_69.2.1 15 87 ∧ zq_at zy_pool_14_69.2.1 16 3 ∧ zq_at zy_pool_14_69.2.1 17 172 ∧ zq_at zy_pool_14_69.2.1 18 28 ∧ zq_at zy_pool_14_69.2.1 19 16 ∧ zq_at zy_pool_14_69.2.1 20 10 ∧ zq_at zy_pool_14_69.2.1 21 108 ∧ zq_at zy_pool_14_69.2.1 22 54 ∧ zq_at zy_pool_14_69.2.1 23 4 := by decide +kernel
theorem zd_14_69_0 : zz_D zy_pool_14_69 0 (.aload_n 0) 1 1 := ⟨zq_42 zg_14_69_0.1, rfl⟩
theorem zd_14_69_1 : zz_D zy_pool_14_69 1 (.iload_n 1) 1 2 := ⟨zq_27 zg_14_69_0.2.1, rfl⟩
theorem zd_14_69_2 : zz_D zy_pool_14_69 2 (.invokevirtual 411) 3 5 := ⟨zq_182 zg_14_69_0.2.2.1 zg_14_69_0.2.2.2.1 zg_14_69_0.2.2.2.2.1 rfl, rfl⟩
theorem zd_14_69_5 : zz_B zy_pool_14_69 5 (Instr.ifCond .ne) 18 8 := ⟨13, zq_154 zg_14_69_0.2.2.2.2.2.1 zg_14_69_0.2.2.2.2.2.2.1 zg_14_69_0.2.2.2.2.2.2.2.1 (by decide), rfl, rfl⟩
theorem zd_14_69_8 : zz_D zy_pool_14_69 8 (.aload_n 0) 1 9 := ⟨zq_42 zg_14_69_0.2.2.2.2.2.2.2.2.1, rfl⟩
theorem zd_14_69_9 : zz_D zy_pool_14_69 9 (.iconst 1) 1 10 := ⟨zq_4 zg_14_69_0.2.2.2.2.2.2.2.2.2.1, rfl⟩
theorem zd_14_69_10 : zz_D zy_pool_14_69 10 (.iconst 0) 1 11 := ⟨zq_3 zg_14_69_0.2.2.2.2.2.2.2.2.2.2.1, rfl⟩
theorem zd_14_69_11 : zz_D zy_pool_14_69 11 (.iconst 0) 1 12 := ⟨zq_3 zg_14_69_0.2.2.2.2.2.2.2.2.2.2.2.1, rfl⟩
theorem zd_14_69_12 : zz_D zy_pool_14_69 12 (.invokevirtual 196) 3 15 := ⟨zq_182 zg_14_69_0.2.2.2.2.2.2.2.2.2.2.2.2.1 zg_14_69_0.2.2.2.2.2.2.2.2.2.2.2.2.2.1 zg_14_69_0.2.2.2.2.2.2.2.2.2.2.2.2.2.2.1 rfl, rfl⟩
theorem zd_14_69_15 : zz_D zy_pool_14_69 15 (.pop) 1 16 := ⟨zq_87 zg_14_69_0.2.2.2.2.2.2.2.2.2.2.2.2.2.2.2.1, rfl⟩
theorem zd_14_69_16 : zz_D zy_pool_14_69 16 (.iconst 0) 1 17 := ⟨zq_3 zg_14_69_0.2.2.2.2.2.2.2.2.2.2.2.2.2.2.2.2.1, rfl⟩
theorem zd_14_69_17 : zz_D zy_pool_14_69 17 (.ireturn) 1 18 := ⟨zq_172 zg_14_69_0.2.2.2.2.2.2.2.2.2.2.2.2.2.2.2.2.2.1, rfl⟩
theorem zd_14_69_18 : zz_D zy_pool_14_69 18 (.iload_n 2) 1 19 := ⟨zq_28 zg_14_69_0.2.2.2.2.2.2.2.2.2.2.2.2.2.2.2.2.2.2.1, rfl⟩
theorem zd_14_69_19 : zz_D zy_pool_14_69 19 (.bipush 10) 2 21 := ⟨zq_16 zg_14_69_0.2.2.2.2.2.2.2.2.2.2.2.2.2.2.2.2.2.2.2.1 zg_14_69_0.2.2.2.2.2.2.2.2.2.2.2.2.2.2.2.2.2.2.2.2.1 (by decide), rfl⟩
theorem zd_14_69_21 : zz_D zy_pool_14_69 21 (.idiv) 1 22 := ⟨zq_108 zg_14_69_0.2.2.2.2.2.2.2.2.2.2.2.2.2.2.2.2.2.2.2.2.2.1, rfl⟩
theorem zd_14_69_22 : zz_D zy_pool_14_69 22 (.istore 4) 2 24 := ⟨zq_54 zg_14_69_0.2.2.2.2.2.2.2.2.2.2.2.2.2.2.2.2.2.2.2.2.2.2.1 zg_14_69_0.2.2.2.2.2.2.2.2.2.2.2.2.2.2.2.2.2.2.2.2.2.2.2, rfl⟩
theorem zg_14_69_24 : zq_at zy_pool_14_69.2.1 24 28 ∧ zq_at zy_pool_14_69.2.1 25 16 ∧ zq_at zy_pool_14_69.2.1 26 10 ∧ zq_at zy_pool_14_69.2.1 27 112 ∧ zq_at zy_pool_14_69.2.1 28 54 ∧ zq_at zy_pool_14_69.2.1 29 5 ∧ zq_at zy_pool_14_69.2.1 30 28 ∧ zq_at zy_pool_14_69.2.1 31 133 ∧ zq_at zy_pool_14_69.2.1 32 20 ∧ zq_at zy_pool_14_69.2.1 33 0 ∧ zq_at zy_pool_14_69.2.1 34 218 ∧ zq_at zy_pool_14_69.2.1 35 20 ∧ zq_at zy_pool_14_69.2.1 36 1 ∧ zq_at zy_pool_14_69.2.1 37 158 ∧ zq_at zy_pool_14_69.2.1 38 184 ∧ zq_at zy_pool_14_69.2.1 39 0 ∧ zq_at zy_pool_14_69.2.1 40 192 ∧ zq_at zy_pool_14_69.2.1 41 153 ∧ zq_at zy_pool_14_69.2.1 42 0 ∧ zq_at zy_pool_14_69.2.1 43 45 ∧ zq_at zy_pool_14_69.2.1 86 3 ∧ zq_at zy_pool_14_69.2.1 87 54 ∧ zq_at zy_pool_14_69.2.1 88 6 := by decide +kernel
theorem zd_14_69_24 : zz_D zy_pool_14_69 24 (.iload_n 2) 1 25 := ⟨zq_28 zg_14_69_24.1, rfl⟩
theorem zd_14_69_25 : zz_D zy_pool_14_69 25 (.bipush 10) 2 27 := ⟨zq_16 zg_14_69_24.2.1 zg_14_69_24.2.2.1 (by decide), rfl⟩
theorem zd_14_69_27 : zz_D zy_pool_14_69 27 (.irem) 1 28 := ⟨zq_112 zg_14_69_24.2.2.2.1, rfl⟩
theorem zd_14_69_28 : zz_D zy_pool_14_69 28 (.istore 5) 2 30 := ⟨zq_54 zg_14_69_24.2.2.2.2.1 zg_14_69_24.2.2.2.2.2.1, rfl⟩
theorem zd_14_69_30 : zz_D zy_pool_14_69 30 (.iload_n 2) 1 31 := ⟨zq_28 zg_14_69_24.2.2.2.2.2.2.1, rfl⟩
theorem zd_14_69_31 : zz_D zy_pool_14_69 31 (.i2l) 1 32 := ⟨zq_133 zg_14_69_24.2.2.2.2.2.2.2.1, rfl⟩
theorem zd_14_69_32 : zz_D zy_pool_14_69 32 (.ldc2_w 218) 3 35 := ⟨zq_20 zg_14_69_24.2.2.2.2.2.2.2.2.1 zg_14_69_24.2.2.2.2.2.2.2.2.2.1 zg_14_69_24.2.2.2.2.2.2.2.2.2.2.1 rfl, rfl⟩
theorem zd_14_69_35 : zz_D zy_pool_14_69 35 (.ldc2_w 414) 3 38 := ⟨zq_20 zg_14_69_24.2.2.2.2.2.2.2.2.2.2.2.1 zg_14_69_24.2.2.2.2.2.2.2.2.2.2.2.2.1 zg_14_69_24.2.2.2.2.2.2.2.2.2.2.2.2.2.1 rfl, rfl⟩
theorem zd_14_69_38 : zz_D zy_pool_14_69 38 (.invokestatic 192) 3 41 := ⟨zq_184 zg_14_69_24.2.2.2.2.2.2.2.2.2.2.2.2.2.2.1 zg_14_69_24.2.2.2.2.2.2.2.2.2.2.2.2.2.2.2.1 zg_14_69_24.2.2.2.2.2.2.2.2.2.2.2.2.2.2.2.2.1 rfl, rfl⟩
theorem zd_14_69_41 : zz_B zy_pool_14_69 41 (Instr.ifCond .eq) 86 44 := ⟨45, zq_153 zg_14_69_24.2.2.2.2.2.2.2.2.2.2.2.2.2.2.2.2.2.1 zg_14_69_24.2.2.2.2.2.2.2.2.2.2.2.2.2.2.2.2.2.2.1 zg_14_69_24.2.2.2.2.2.2.2.2.2.2.2.2.2.2.2.2.2.2.2.1 (by decide), rfl, rfl⟩
theorem zd_14_69_86 : zz_D zy_pool_14_69 86 (.iconst 0) 1 87 := ⟨zq_3 zg_14_69_24.2.2.2.2.2.2.2.2.2.2.2.2.2.2.2.2.2.2.2.2.1, rfl⟩
theorem zd_14_69_87 : zz_D zy_pool_14_69 87 (.istore 6) 2 89 := ⟨zq_54 zg_14_69_24.2.2.2.2.2.2.2.2.2.2.2.2.2.2.2.2.2.2.2.2.2.1 zg_14_69_24.2.2.2.2.2.2.2.2.2.2.2.2.2.2.2.2.2.2.2.2.2.2, rfl⟩
theorem zg_14_69_89 : zq_at zy_pool_14_69.2.1 89 21 ∧ zq_at zy_pool_14_69.2.1 90 6 ∧ zq_at zy_pool_14_69.2.1 91 153 ∧ zq_at zy_pool_14_69.2.1 92 0 ∧ zq_at zy_pool_14_69.2.1 93 19 ∧ zq_at zy_pool_14_69.2.1 110 3 ∧ zq_at zy_pool_14_69.2.1 111 54 ∧ zq_at zy_pool_14_69.2.1 112 7 ∧ zq_at zy_pool_14_69.2.1 113 21 ∧ zq_at zy_pool_14_69.2.1 114 6 ∧ zq_at zy_pool_14_69.2.1 115 153 ∧ zq_at zy_pool_14_69.2.1 116 0 ∧ zq_at zy_pool_14_69.2.1 117 19 ∧ zq_at zy_pool_14_69.2.1 134 3 ∧ zq_at zy_pool_14_69.2.1 135 54 ∧ zq_at zy_pool_14_69.2.1 136 8 ∧ zq_at zy_pool_14_69.2.1 137 42 ∧ zq_at zy_pool_14_69.2.1 138 3 ∧ zq_at zy_pool_14_69.2.1 139 21 ∧ zq_at zy_pool_14_69.2.1 140 7 ∧ zq_at zy_pool_14_69.2.1 141 153 ∧ zq_at zy_pool_14_69.2.1 142 0 ∧ zq_at zy_pool_14_69.2.1 143 8 ∧ zq_at zy_pool_14_69.2.1 149 4 := by decide +kernel
theorem zd_14_69_89 : zz_D zy_pool_14_69 89 (.iload 6) 2 91 := ⟨zq_21 zg_14_69_89.1 zg_14_69_89.2.1, rfl⟩
theorem zd_14_69_91 : zz_B zy_pool_14_69 91 (Instr.ifCond .eq) 110 94 := ⟨19, zq_153 zg_14_69_89.2.2.1 zg_14_69_89.2.2.2.1 zg_14_69_89.2.2.2.2.1 (by decide), rfl, rfl⟩
theorem zd_14_69_110 : zz_D zy_pool_14_69 110 (.iconst 0) 1 111 := ⟨zq_3 zg_14_69_89.2.2.2.2.2.1, rfl⟩
theorem zd_14_69_111 : zz_D zy_pool_14_69 111 (.istore 7) 2 113 := ⟨zq_54 zg_14_69_89.2.2.2.2.2.2.1 zg_14_69_89.2.2.2.2.2.2.2.1, rfl⟩
theorem zd_14_69_113 : zz_D zy_pool_14_69 113 (.iload 6) 2 115 := ⟨zq_21 zg_14_69_89.2.2.2.2.2.2.2.2.1 zg_14_69_89.2.2.2.2.2.2.2.2.2.1, rfl⟩
theorem zd_14_69_115 : zz_B zy_pool_14_69 115 (Instr.ifCond .eq) 134 118 := ⟨19, zq_153 zg_14_69_89.2.2.2.2.2.2.2.2.2.2.1 zg_14_69_89.2.2.2.2.2.2.2.2.2.2.2.1 zg_14_69_89.2.2.2.2.2.2.2.2.2.2.2.2.1 (by decide), rfl, rfl⟩
theorem zd_14_69_134 : zz_D zy_pool_14_69 134 (.iconst 0) 1 135 := ⟨zq_3 zg_14_69_89.2.2.2.2.2.2.2.2.2.2.2.2.2.1, rfl⟩
theorem zd_14_69_135 : zz_D zy_pool_14_69 135 (.istore 8) 2 137 := ⟨zq_54 zg_14_69_89.2.2.2.2.2.2.2.2.2.2.2.2.2.2.1 zg_14_69_89.2.2.2.2.2.2.2.2.2.2.2.2.2.2.2.1, rfl⟩
theorem zd_14_69_137 : zz_D zy_pool_14_69 137 (.aload_n 0) 1 138 := ⟨zq_42 zg_14_69_89.2.2.2.2.2.2.2.2.2.2.2.2.2.2.2.2.1, rfl⟩
theorem zd_14_69_138 : zz_D zy_pool_14_69 138 (.iconst 0) 1 139 := ⟨zq_3 zg_14_69_89.2.2.2.2.2.2.2.2.2.2.2.2.2.2.2.2.2.1, rfl⟩
theorem zd_14_69_139 : zz_D zy_pool_14_69 139 (.iload 7) 2 141 := ⟨zq_21 zg_14_69_89.2.2.2.2.2.2.2.2.2.2.2.2.2.2.2.2.2.2.1 zg_14_69_89.2.2.2.2.2.2.2.2.2.2.2.2.2.2.2.2.2.2.2.1, rfl⟩
theorem zd_14_69_141 : zz_B zy_pool_14_69 141 (Instr.ifCond .eq) 149 144 := ⟨8, zq_153 zg_14_69_89.2.2.2.2.2.2.2.2.2.2.2.2.2.2.2.2.2.2.2.2.1 zg_14_69_89.2.2.2.2.2.2.2.2.2.2.2.2.2.2.2.2.2.2.2.2.2.1 zg_14_69_89.2.2.2.2.2.2.2.2.2.2.2.2.2.2.2.2.2.2.2.2.2.2.1 (by decide), rfl, rfl⟩
theorem zd_14_69_149 : zz_D zy_pool_14_69 149 (.iconst 1) 1 150 := ⟨zq_4 zg_14_69_89.2.2.2.2.2.2.2.2.2.2.2.2.2.2.2.2.2.2.2.2.2.2.2, rfl⟩
theorem zg_14_69_150 : zq_at zy_pool_14_69.2.1 150 167 ∧ zq_at zy_pool_14_69.2.1 151 0 ∧ zq_at zy_pool_14_69.2.1 152 4 ∧ zq_at zy_pool_14_69.2.1 154 3 ∧ zq_at zy_pool_14_69.2.1 155 182 ∧ zq_at zy_pool_14_69.2.1 156 0 ∧ zq_at zy_pool_14_69.2.1 157 196 ∧ zq_at zy_pool_14_69.2.1 158 153 ∧ zq_at zy_pool_14_69.2.1 159 0 ∧ zq_at zy_pool_14_69.2.1 160 5 ∧ zq_at zy_pool_14_69.2.1 161 3 ∧ zq_at zy_pool_14_69.2.1 162 172 ∧ zq_at zy_pool_14_69.2.1 44 21 ∧ zq_at zy_pool_14_69.2.1 45 4 ∧ zq_at zy_pool_14_69.2.1 46 133 ∧ zq_at zy_pool_14_69.2.1 47 10 ∧ zq_at zy_pool_14_69.2.1 48 20 ∧ zq_at zy_pool_14_69.2.1 49 1 ∧ zq_at zy_pool_14_69.2.1 50 160 ∧ zq_at zy_pool_14_69.2.1 51 184 ∧ zq_at zy_pool_14_69.2.1 52 0 ∧ zq_at zy_pool_14_69.2.1 53 192 := by decide +kernel
theorem zd_14_69_150 : zz_B zy_pool_14_69 150 Instr.goto 154 153 := ⟨4, zq_167 zg_14_69_150.1 zg_14_69_150.2.1 zg_14_69_150.2.2.1 (by decide), rfl, rfl⟩
theorem zd_14_69_154 : zz_D zy_pool_14_69 154 (.iconst 0) 1 155 := ⟨zq_3 zg_14_69_150.2.2.2.1, rfl⟩
theorem zd_14_69_155 : zz_D zy_pool_14_69 155 (.invokevirtual 196) 3 158 := ⟨zq_182 zg_14_69_150.2.2.2.2.1 zg_14_69_150.2.2.2.2.2.1 zg_14_69_150.2.2.2.2.2.2.1 rfl, rfl⟩
theorem zd_14_69_158 : zz_B zy_pool_14_69 158 (Instr.ifCond .eq) 163 161 := ⟨5, zq_153 zg_14_69_150.2.2.2.2.2.2.2.1 zg_14_69_150.2.2.2.2.2.2.2.2.1 zg_14_69_150.2.2.2.2.2.2.2.2.2.1 (by decide), rfl, rfl⟩
theorem zd_14_69_161 : zz_D zy_pool_14_69 161 (.iconst 0) 1 162 := ⟨zq_3 zg_14_69_150.2.2.2.2.2.2.2.2.2.2.1, rfl⟩
theorem zd_14_69_162 : zz_D zy_pool_14_69 162 (.ireturn) 1 163 := ⟨zq_172 zg_14_69_150.2.2.2.2.2.2.2.2.2.2.2.1, rfl⟩
theorem zd_14_69_44 : zz_D zy_pool_14_69 44 (.iload 4) 2 46 := ⟨zq_21 zg_14_69_150.2.2.2.2.2.2.2.2.2.2.2.2.1 zg_14_69_150.2.2.2.2.2.2.2.2.2.2.2.2.2.1, rfl⟩
theorem zd_14_69_46 : zz_D zy_pool_14_69 46 (.i2l) 1 47 := ⟨zq_133 zg_14_69_150.2.2.2.2.2.2.2.2.2.2.2.2.2.2.1, rfl⟩
theorem zd_14_69_47 : zz_D zy_pool_14_69 47 (.lconst 1) 1 48 := ⟨zq_10 zg_14_69_150.2.2.2.2.2.2.2.2.2.2.2.2.2.2.2.1, rfl⟩
theorem zd_14_69_48 : zz_D zy_pool_14_69 48 (.ldc2_w 416) 3 51 := ⟨zq_20 zg_14_69_150.2.2.2.2.2.2.2.2.2.2.2.2.2.2.2.2.1 zg_14_69_150.2.2.2.2.2.2.2.2.2.2.2.2.2.2.2.2.2.1 zg_14_69_150.2.2.2.2.2.2.2.2.2.2.2.2.2.2.2.2.2.2.1 rfl, rfl⟩
theorem zd_14_69_51 : zz_D zy_pool_14_69 51 (.invokestatic 192) 3 54 := ⟨zq_184 zg_14_69_150.2.2.2.2.2.2.2.2.2.2.2.2.2.2.2.2.2.2.2.1 zg_14_69_150.2.2.2.2.2.2.2.2.2.2.2.2.2.2.2.2.2.2.2.2.1 zg_14_69_150.2.2.2.2.2.2.2.2.2.2.2.2.2.2.2.2.2.2.2.2.2 rfl, rfl⟩
theorem zg_14_69_54 : zq_at zy_pool_14_69.2.1 54 153 ∧ zq_at zy_pool_14_69.2.1 55 0 ∧ zq_at zy_pool_14_69.2.1 56 32 ∧ zq_at zy_pool_14_69.2.1 57 21 ∧ zq_at zy_pool_14_69.2.1 58 5 ∧ zq_at zy_pool_14_69.2.1 59 133 ∧ zq_at zy_pool_14_69.2.1 60 10 ∧ zq_at zy_pool_14_69.2.1 61 20 ∧ zq_at zy_pool_14_69.2.1 62 1 ∧ zq_at zy_pool_14_69.2.1 63 160 ∧ zq_at zy_pool_14_69.2.1 64 184 ∧ zq_at zy_pool_14_69.2.1 65 0 ∧ zq_at zy_pool_14_69.2.1 66 192 ∧ zq_at zy_pool_14_69.2.1 67 153 ∧ zq_at zy_pool_14_69.2.1 68 0 ∧ zq_at zy_pool_14_69.2.1 69 19 ∧ zq_at zy_pool_14_69.2.1 70 29 ∧ zq_at zy_pool_14_69.2.1 71 133 ∧ zq_at zy_pool_14_69.2.1 72 10 ∧ zq_at zy_pool_14_69.2.1 73 20 ∧ zq_at zy_pool_14_69.2.1 74 1 ∧ zq_at zy_pool_14_69.2.1 75 160 := by decide +kernel
theorem zd_14_69_54 : zz_B zy_pool_14_69 54 (Instr.ifCond .eq) 86 57 := ⟨32, zq_153 zg_14_69_54.1 zg_14_69_54.2.1 zg_14_69_54.2.2.1 (by decide), rfl, rfl⟩
theorem zd_14_69_57 : zz_D zy_pool_14_69 57 (.iload 5) 2 59 := ⟨zq_21 zg_14_69_54.2.2.2.1 zg_14_69_54.2.2.2.2.1, rfl⟩
theorem zd_14_69_59 : zz_D zy_pool_14_69 59 (.i2l) 1 60 := ⟨zq_133 zg_14_69_54.2.2.2.2.2.1, rfl⟩
theorem zd_14_69_60 : zz_D zy_pool_14_69 60 (.lconst 1) 1 61 := ⟨zq_10 zg_14_69_54.2.2.2.2.2.2.1, rfl⟩
theorem zd_14_69_61 : zz_D zy_pool_14_69 61 (.ldc2_w 416) 3 64 := ⟨zq_20 zg_14_69_54.2.2.2.2.2.2.2.1 zg_14_69_54.2.2.2.2.2.2.2.2.1 zg_14_69_54.2.2.2.2.2.2.2.2.2.1 rfl, rfl⟩
theorem zd_14_69_64 : zz_D zy_pool_14_69 64 (.invokestatic 192) 3 67 := ⟨zq_184 zg_14_69_54.2.2.2.2.2.2.2.2.2.2.1 zg_14_69_54.2.2.2.2.2.2.2.2.2.2.2.1 zg_14_69_54.2.2.2.2.2.2.2.2.2.2.2.2.1 rfl, rfl⟩
theorem zd_14_69_67 : zz_B zy_pool_14_69 67 (Instr.ifCond .eq) 86 70 := ⟨19, zq_153 zg_14_69_54.2.2.2.2.2.2.2.2.2.2.2.2.2.1 zg_14_69_54.2.2.2.2.2.2.2.2.2.2.2.2.2.2.1 zg_14_69_54.2.2.2.2.2.2.2.2.2.2.2.2.2.2.2.1 (by decide), rfl, rfl⟩
theorem zd_14_69_70 : zz_D zy_pool_14_69 70 (.iload_n 3) 1 71 := ⟨zq_29 zg_14_69_54.2.2.2.2.2.2.2.2.2.2.2.2.2.2.2.2.1, rfl⟩
theorem zd_14_69_71 : zz_D zy_pool_14_69 71 (.i2l) 1 72 := ⟨zq_133 zg_14_69_54.2.2.2.2.2.2.2.2.2.2.2.2.2.2.2.2.2.1, rfl⟩
theorem zd_14_69_72 : zz_D zy_pool_14_69 72 (.lconst 1) 1 73 := ⟨zq_10 zg_14_69_54.2.2.2.2.2.2.2.2.2.2.2.2.2.2.2.2.2.2.1, rfl⟩
theorem zd_14_69_73 : zz_D zy_pool_14_69 73 (.ldc2_w 416) 3 76 := ⟨zq_20 zg_14_69_54.2.2.2.2.2.2.2.2.2.2.2.2.2.2.2.2.2.2.2.1 zg_14_69_54.2.2.2.2.2.2.2.2.2.2.2.2.2.2.2.2.2.2.2.2.1 zg_14_69_54.2.2.2.2.2.2.2.2.2.2.2.2.2.2.2.2.2.2.2.2.2 rfl, rfl⟩
theorem zg_14_69_76 : zq_at zy_pool_14_69.2.1 76 184 ∧ zq_at zy_pool_14_69.2.1 77 0 ∧ zq_at zy_pool_14_69.2.1 78 192 ∧ zq_at zy_pool_14_69.2.1 79 153 ∧ zq_at zy_pool_14_69.2.1 80 0 ∧ zq_at zy_pool_14_69.2.1 81 7 ∧ zq_at zy_pool_14_69.2.1 82 4 ∧ zq_at zy_pool_14_69.2.1 83 167 ∧ zq_at zy_pool_14_69.2.1 84 0 ∧ zq_at zy_pool_14_69.2.1 85 4 ∧ zq_at zy_pool_14_69.2.1 94 42 ∧ zq_at zy_pool_14_69.2.1 95 180 ∧ zq_at zy_pool_14_69.2.1 96 0 ∧ zq_at zy_pool_14_69.2.1 97 88 ∧ zq_at zy_pool_14_69.2.1 98 27 ∧ zq_at zy_pool_14_69.2.1 99 46 ∧ zq_at zy_pool_14_69.2.1 100 21 ∧ zq_at zy_pool_14_69.2.1 101 4 ∧ zq_at zy_pool_14_69.2.1 102 29 ∧ zq_at zy_pool_14_69.2.1 103 3 ∧ zq_at zy_pool_14_69.2.1 104 184 ∧ zq_at zy_pool_14_69.2.1 105 1 ∧ zq_at zy_pool_14_69.2.1 106 164 := by decide +kernel
theorem zd_14_69_76 : zz_D zy_pool_14_69 76 (.invokestatic 192) 3 79 := ⟨zq_184 zg_14_69_76.1 zg_14_69_76.2.1 zg_14_69_76.2.2.1 rfl, rfl⟩
theorem zd_14_69_79 : zz_B zy_pool_14_69 79 (Instr.ifCond .eq) 86 82 := ⟨7, zq_153 zg_14_69_76.2.2.2.1 zg_14_69_76.2.2.2.2.1 zg_14_69_76.2.2.2.2.2.1 (by decide), rfl, rfl⟩
theorem zd_14_69_82 : zz_D zy_pool_14_69 82 (.iconst 1) 1 83 := ⟨zq_4 zg_14_69_76.2.2.2.2.2.2.1, rfl⟩
theorem zd_14_69_83 : zz_B zy_pool_14_69 83 Instr.goto 87 86 := ⟨4, zq_167 zg_14_69_76.2.2.2.2.2.2.2.1 zg_14_69_76.2.2.2.2.2.2.2.2.1 zg_14_69_76.2.2.2.2.2.2.2.2.2.1 (by decide), rfl, rfl⟩
theorem zd_14_69_94 : zz_D zy_pool_14_69 94 (.aload_n 0) 1 95 := ⟨zq_42 zg_14_69_76.2.2.2.2.2.2.2.2.2.2.1, rfl⟩
theorem zd_14_69_95 : zz_D zy_pool_14_69 95 (.getfield 88) 3 98 := ⟨zq_180 zg_14_69_76.2.2.2.2.2.2.2.2.2.2.2.1 zg_14_69_76.2.2.2.2.2.2.2.2.2.2.2.2.1 zg_14_69_76.2.2.2.2.2.2.2.2.2.2.2.2.2.1 rfl, rfl⟩
theorem zd_14_69_98 : zz_D zy_pool_14_69 98 (.iload_n 1) 1 99 := ⟨zq_27 zg_14_69_76.2.2.2.2.2.2.2.2.2.2.2.2.2.2.1, rfl⟩
theorem zd_14_69_99 : zz_D zy_pool_14_69 99 (.iaload) 1 100 := ⟨zq_46 zg_14_69_76.2.2.2.2.2.2.2.2.2.2.2.2.2.2.2.1, rfl⟩
theorem zd_14_69_100 : zz_D zy_pool_14_69 100 (.iload 4) 2 102 := ⟨zq_21 zg_14_69_76.2.2.2.2.2.2.2.2.2.2.2.2.2.2.2.2.1 zg_14_69_76.2.2.2.2.2.2.2.2.2.2.2.2.2.2.2.2.2.1, rfl⟩
theorem zd_14_69_102 : zz_D zy_pool_14_69 102 (.iload_n 3) 1 103 := ⟨zq_29 zg_14_69_76.2.2.2.2.2.2.2.2.2.2.2.2.2.2.2.2.2.2.1, rfl⟩
theorem zd_14_69_103 : zz_D zy_pool_14_69 103 (.iconst 0) 1 104 := ⟨zq_3 zg_14_69_76.2.2.2.2.2.2.2.2.2.2.2.2.2.2.2.2.2.2.2.1, rfl⟩
theorem zd_14_69_104 : zz_D zy_pool_14_69 104 (.invokestatic 420) 3 107 := ⟨zq_184 zg_14_69_76.2.2.2.2.2.2.2.2.2.2.2.2.2.2.2.2.2.2.2.2.1 zg_14_69_76.2.2.2.2.2.2.2.2.2.2.2.2.2.2.2.2.2.2.2.2.2.1 zg_14_69_76.2.2.2.2.2.2.2.2.2.2.2.2.2.2.2.2.2.2.2.2.2.2 rfl, rfl⟩
theorem zg_14_69_107 : zq_at zy_pool_14_69.2.1 107 167 ∧ zq_at zy_pool_14_69.2.1 108 0 ∧ zq_at zy_pool_14_69.2.1 109 4 ∧ zq_at zy_pool_14_69.2.1 118 42 ∧ zq_at zy_pool_14_69.2.1 119 180 ∧ zq_at zy_pool_14_69.2.1 120 0 ∧ zq_at zy_pool_14_69.2.1 121 91 ∧ zq_at zy_pool_14_69.2.1 122 27 ∧ zq_at zy_pool_14_69.2.1 123 46 ∧ zq_at zy_pool_14_69.2.1 124 21 ∧ zq_at zy_pool_14_69.2.1 125 5 ∧ zq_at zy_pool_14_69.2.1 126 29 ∧ zq_at zy_pool_14_69.2.1 127 3 ∧ zq_at zy_pool_14_69.2.1 128 184 ∧ zq_at zy_pool_14_69.2.1 129 1 ∧ zq_at zy_pool_14_69.2.1 130 164 ∧ zq_at zy_pool_14_69.2.1 131 167 ∧ zq_at zy_pool_14_69.2.1 132 0 ∧ zq_at zy_pool_14_69.2.1 133 4 ∧ zq_at zy_pool_14_69.2.1 144 21 ∧ zq_at zy_pool_14_69.2.1 145 8 ∧ zq_at zy_pool_14_69.2.1 146 154 ∧ zq_at zy_pool_14_69.2.1 147 0 ∧ zq_at zy_pool_14_69.2.1 148 7 := by decide +kernel
theorem zd_14_69_107 : zz_B zy_pool_14_69 107 Instr.goto 111 110 := ⟨4, zq_167 zg_14_69_107.1 zg_14_69_107.2.1 zg_14_69_107.2.2.1 (by decide), rfl, rfl⟩
theorem zd_14_69_118 : zz_D zy_pool_14_69 118 (.aload_n 0) 1 119 := ⟨zq_42 zg_14_69_107.2.2.2.1, rfl⟩
theorem zd_14_69_119 : zz_D zy_pool_14_69 119 (.getfield 91) 3 122 := ⟨zq_180 zg_14_69_107.2.2.2.2.1 zg_14_69_107.2.2.2.2.2.1 zg_14_69_107.2.2.2.2.2.2.1 rfl, rfl⟩
theorem zd_14_69_122 : zz_D zy_pool_14_69 122 (.iload_n 1) 1 123 := ⟨zq_27 zg_14_69_107.2.2.2.2.2.2.2.1, rfl⟩
theorem zd_14_69_123 : zz_D zy_pool_14_69 123 (.iaload) 1 124 := ⟨zq_46 zg_14_69_107.2.2.2.2.2.2.2.2.1, rfl⟩
theorem zd_14_69_124 : zz_D zy_pool_14_69 124 (.iload 5) 2 126 := ⟨zq_21 zg_14_69_107.2.2.2.2.2.2.2.2.2.1 zg_14_69_107.2.2.2.2.2.2.2.2.2.2.1, rfl⟩
theorem zd_14_69_126 : zz_D zy_pool_14_69 126 (.iload_n 3) 1 127 := ⟨zq_29 zg_14_69_107.2.2.2.2.2.2.2.2.2.2.2.1, rfl⟩
theorem zd_14_69_127 : zz_D zy_pool_14_69 127 (.iconst 0) 1 128 := ⟨zq_3 zg_14_69_107.2.2.2.2.2.2.2.2.2.2.2.2.1, rfl⟩
theorem zd_14_69_128 : zz_D zy_pool_14_69 128 (.invokestatic 420) 3 131 := ⟨zq_184 zg_14_69_107.2.2.2.2.2.2.2.2.2.2.2.2.2.1 zg_14_69_107.2.2.2.2.2.2.2.2.2.2.2.2.2.2.1 zg_14_69_107.2.2.2.2.2.2.2.2.2.2.2.2.2.2.2.1 rfl, rfl⟩
theorem zd_14_69_131 : zz_B zy_pool_14_69 131 Instr.goto 135 134 := ⟨4, zq_167 zg_14_69_107.2.2.2.2.2.2.2.2.2.2.2.2.2.2.2.2.1 zg_14_69_107.2.2.2.2.2.2.2.2.2.2.2.2.2.2.2.2.2.1 zg_14_69_107.2.2.2.2.2.2.2.2.2.2.2.2.2.2.2.2.2.2.1 (by decide), rfl, rfl⟩
theorem zd_14_69_144 : zz_D zy_pool_14_69 144 (.iload 8) 2 146 := ⟨zq_21 zg_14_69_107.2.2.2.2.2.2.2.2.2.2.2.2.2.2.2.2.2.2.2.1 zg_14_69_107.2.2.2.2.2.2.2.2.2.2.2.2.2.2.2.2.2.2.2.2.1, rfl⟩
theorem zd_14_69_146 : zz_B zy_pool_14_69 146 (Instr.ifCond .ne) 153 149 := ⟨7, zq_154 zg_14_69_107.2.2.2.2.2.2.2.2.2.2.2.2.2.2.2.2.2.2.2.2.2.1 zg_14_69_107.2.2.2.2.2.2.2.2.2.2.2.2.2.2.2.2.2.2.2.2.2.2.1 zg_14_69_107.2.2.2.2.2.2.2.2.2.2.2.2.2.2.2.2.2.2.2.2.2.2.2 (by decide), rfl, rfl⟩
theorem zg_14_69_153 : zq_at zy_pool_14_69.2.1 153 3 ∧ zq_at zy_pool_14_69.2.1 163 42 ∧ zq_at zy_pool_14_69.2.1 164 180 ∧ zq_at zy_pool_14_69.2.1 165 0 ∧ zq_at zy_pool_14_69.2.1 166 85 ∧ zq_at zy_pool_14_69.2.1 167 4 ∧ zq_at zy_pool_14_69.2.1 168 100 ∧ zq_at zy_pool_14_69.2.1 169 54 ∧ zq_at zy_pool_14_69.2.1 170 9 ∧ zq_at zy_pool_14_69.2.1 171 42 ∧ zq_at zy_pool_14_69.2.1 172 4 ∧ zq_at zy_pool_14_69.2.1 173 27 ∧ zq_at zy_pool_14_69.2.1 174 21 ∧ zq_at zy_pool_14_69.2.1 175 7 ∧ zq_at zy_pool_14_69.2.1 176 21 ∧ zq_at zy_pool_14_69.2.1 177 8 ∧ zq_at zy_pool_14_69.2.1 178 42 ∧ zq_at zy_pool_14_69.2.1 179 180 ∧ zq_at zy_pool_14_69.2.1 180 0 ∧ zq_at zy_pool_14_69.2.1 181 94 ∧ zq_at zy_pool_14_69.2.1 182 27 ∧ zq_at zy_pool_14_69.2.1 183 46 := by decide +kernel
theorem zd_14_69_153 : zz_D zy_pool_14_69 153 (.iconst 0) 1 154 := ⟨zq_3 zg_14_69_153.1, rfl⟩
theorem zd_14_69_163 : zz_D zy_pool_14_69 163 (.aload_n 0) 1 164 := ⟨zq_42 zg_14_69_153.2.1, rfl⟩
theorem zd_14_69_164 : zz_D zy_pool_14_69 164 (.getfield 85) 3 167 := ⟨zq_180 zg_14_69_153.2.2.1 zg_14_69_153.2.2.2.1 zg_14_69_153.2.2.2.2.1 rfl, rfl⟩
theorem zd_14_69_167 : zz_D zy_pool_14_69 167 (.iconst 1) 1 168 := ⟨zq_4 zg_14_69_153.2.2.2.2.2.1, rfl⟩
theorem zd_14_69_168 : zz_D zy_pool_14_69 168 (.isub) 1 169 := ⟨zq_100 zg_14_69_153.2.2.2.2.2.2.1, rfl⟩
theorem zd_14_69_169 : zz_D zy_pool_14_69 169 (.istore 9) 2 171 := ⟨zq_54 zg_14_69_153.2.2.2.2.2.2.2.1 zg_14_69_153.2.2.2.2.2.2.2.2.1, rfl⟩
theorem zd_14_69_171 : zz_D zy_pool_14_69 171 (.aload_n 0) 1 172 := ⟨zq_42 zg_14_69_153.2.2.2.2.2.2.2.2.2.1, rfl⟩
theorem zd_14_69_172 : zz_D zy_pool_14_69 172 (.iconst 1) 1 173 := ⟨zq_4 zg_14_69_153.2.2.2.2.2.2.2.2.2.2.1, rfl⟩
theorem zd_14_69_173 : zz_D zy_pool_14_69 173 (.iload_n 1) 1 174 := ⟨zq_27 zg_14_69_153.2.2.2.2.2.2.2.2.2.2.2.1, rfl⟩
theorem zd_14_69_174 : zz_D zy_pool_14_69 174 (.iload 7) 2 176 := ⟨zq_21 zg_14_69_153.2.2.2.2.2.2.2.2.2.2.2.2.1 zg_14_69_153.2.2.2.2.2.2.2.2.2.2.2.2.2.1, rfl⟩
theorem zd_14_69_176 : zz_D zy_pool_14_69 176 (.iload 8) 2 178 := ⟨zq_21 zg_14_69_153.2.2.2.2.2.2.2.2.2.2.2.2.2.2.1 zg_14_69_153.2.2.2.2.2.2.2.2.2.2.2.2.2.2.2.1, rfl⟩
theorem zd_14_69_178 : zz_D zy_pool_14_69 178 (.aload_n 0) 1 179 := ⟨zq_42 zg_14_69_153.2.2.2.2.2.2.2.2.2.2.2.2.2.2.2.2.1, rfl⟩
theorem zd_14_69_179 : zz_D zy_pool_14_69 179 (.getfield 94) 3 182 := ⟨zq_180 zg_14_69_153.2.2.2.2.2.2.2.2.2.2.2.2.2.2.2.2.2.1 zg_14_69_153.2.2.2.2.2.2.2.2.2.2.2.2.2.2.2.2.2.2.1 zg_14_69_153.2.2.2.2.2.2.2.2.2.2.2.2.2.2.2.2.2.2.2.1 rfl, rfl⟩
theorem zd_14_69_182 : zz_D zy_pool_14_69 182 (.iload_n 1) 1 183 := ⟨zq_27 zg_14_69_153.2.2.2.2.2.2.2.2.2.2.2.2.2.2.2.2.2.2.2.2.1, rfl⟩
theorem zd_14_69_183 : zz_D zy_pool_14_69 183 (.iaload) 1 184 := ⟨zq_46 zg_14_69_153.2.2.2.2.2.2.2.2.2.2.2.2.2.2.2.2.2.2.2.2.2, rfl⟩
theorem zg_14_69_184 : zq_at zy_pool_14_69.2.1 184 182 ∧ zq_at zy_pool_14_69.2.1 185 1 ∧ zq_at zy_pool_14_69.2.1 186 170 ∧ zq_at zy_pool_14_69.2.1 187 54 ∧ zq_at zy_pool_14_69.2.1 188 10 ∧ zq_at zy_pool_14_69.2.1 189 42 ∧ zq_at zy_pool_14_69.2.1 190 180 ∧ zq_at zy_pool_14_69.2.1 191 0 ∧ zq_at zy_pool_14_69.2.1 192 187 ∧ zq_at zy_pool_14_69.2.1 193 158 ∧ zq_at zy_pool_14_69.2.1 194 0 ∧ zq_at zy_pool_14_69.2.1 195 5 ∧ zq_at zy_pool_14_69.2.1 198 42 ∧ zq_at zy_pool_14_69.2.1 199 21 ∧ zq_at zy_pool_14_69.2.1 200 9 ∧ zq_at zy_pool_14_69.2.1 201 21 ∧ zq_at zy_pool_14_69.2.1 202 4 ∧ zq_at zy_pool_14_69.2.1 203 21 ∧ zq_at zy_pool_14_69.2.1 204 5 ∧ zq_at zy_pool_14_69.2.1 205 29 ∧ zq_at zy_pool_14_69.2.1 206 3 ∧ zq_at zy_pool_14_69.2.1 207 3 := by decide +kernel
theorem zd_14_69_184 : zz_D zy_pool_14_69 184 (.invokevirtual 426) 3 187 := ⟨zq_182 zg_14_69_184.1 zg_14_69_184.2.1 zg_14_69_184.2.2.1 rfl, rfl⟩
theorem zd_14_69_187 : zz_D zy_pool_14_69 187 (.istore 10) 2 189 := ⟨zq_54 zg_14_69_184.2.2.2.1 zg_14_69_184.2.2.2.2.1, rfl⟩
theorem zd_14_69_189 : zz_D zy_pool_14_69 189 (.aload_n 0) 1 190 := ⟨zq_42 zg_14_69_184.2.2.2.2.2.1, rfl⟩
theorem zd_14_69_190 : zz_D zy_pool_14_69 190 (.getfield 187) 3 193 := ⟨zq_180 zg_14_69_184.2.2.2.2.2.2.1 zg_14_69_184.2.2.2.2.2.2.2.1 zg_14_69_184.2.2.2.2.2.2.2.2.1 rfl, rfl⟩
theorem zd_14_69_193 : zz_B zy_pool_14_69 193 (Instr.ifCond .le) 198 196 := ⟨5, zq_158 zg_14_69_184.2.2.2.2.2.2.2.2.2.1 zg_14_69_184.2.2.2.2.2.2.2.2.2.2.1 zg_14_69_184.2.2.2.2.2.2.2.2.2.2.2.1 (by decide), rfl, rfl⟩
theorem zd_14_69_198 : zz_D zy_pool_14_69 198 (.aload_n 0) 1 199 := ⟨zq_42 zg_14_69_184.2.2.2.2.2.2.2.2.2.2.2.2.1, rfl⟩
theorem zd_14_69_199 : zz_D zy_pool_14_69 199 (.iload 9) 2 201 := ⟨zq_21 zg_14_69_184.2.2.2.2.2.2.2.2.2.2.2.2.2.1 zg_14_69_184.2.2.2.2.2.2.2.2.2.2.2.2.2.2.1, rfl⟩
theorem zd_14_69_201 : zz_D zy_pool_14_69 201 (.iload 4) 2 203 := ⟨zq_21 zg_14_69_184.2.2.2.2.2.2.2.2.2.2.2.2.2.2.2.1 zg_14_69_184.2.2.2.2.2.2.2.2.2.2.2.2.2.2.2.2.1, rfl⟩
theorem zd_14_69_203 : zz_D zy_pool_14_69 203 (.iload 5) 2 205 := ⟨zq_21 zg_14_69_184.2.2.2.2.2.2.2.2.2.2.2.2.2.2.2.2.2.1 zg_14_69_184.2.2.2.2.2.2.2.2.2.2.2.2.2.2.2.2.2.2.1, rfl⟩
theorem zd_14_69_205 : zz_D zy_pool_14_69 205 (.iload_n 3) 1 206 := ⟨zq_29 zg_14_69_184.2.2.2.2.2.2.2.2.2.2.2.2.2.2.2.2.2.2.2.1, rfl⟩
theorem zd_14_69_206 : zz_D zy_pool_14_69 206 (.iconst 0) 1 207 := ⟨zq_3 zg_14_69_184.2.2.2.2.2.2.2.2.2.2.2.2.2.2.2.2.2.2.2.2.1, rfl⟩
theorem zd_14_69_207 : zz_D zy_pool_14_69 207 (.iconst 0) 1 208 := ⟨zq_3 zg_14_69_184.2.2.2.2.2.2.2.2.2.2.2.2.2.2.2.2.2.2.2.2.2, rfl⟩
theorem zg_14_69_208 : zq_at zy_pool_14_69.2.1 208 182 ∧ zq_at zy_pool_14_69.2.1 209 1 ∧ zq_at zy_pool_14_69.2.1 210 174 ∧ zq_at zy_pool_14_69.2.1 211 21 ∧ zq_at zy_pool_14_69.2.1 212 10 ∧ zq_at zy_pool_14_69.2.1 213 172 ∧ zq_at zy_pool_14_69.2.1 196 3 ∧ zq_at zy_pool_14_69.2.1 197 172 := by decide +kernel
theorem zd_14_69_208 : zz_D zy_pool_14_69 208 (.invokevirtual 430) 3 211 := ⟨zq_182 zg_14_69_208.1 zg_14_69_208.2.1 zg_14_69_208.2.2.1 rfl, rfl⟩
theorem zd_14_69_211 : zz_D zy_pool_14_69 211 (.iload 10) 2 213 := ⟨zq_21 zg_14_69_208.2.2.2.1 zg_14_69_208.2.2.2.2.1, rfl⟩
theorem zd_14_69_213 : zz_D zy_pool_14_69 213 (.ireturn) 1 214 := ⟨zq_172 zg_14_69_208.2.2.2.2.2.1, rfl⟩
theorem zd_14_69_196 : zz_D zy_pool_14_69 196 (.iconst 0) 1 197 := ⟨zq_3 zg_14_69_208.2.2.2.2.2.2.1, rfl⟩
theorem zd_14_69_197 : zz_D zy_pool_14_69 197 (.ireturn) 1 198 := ⟨zq_172 zg_14_69_208.2.2.2.2.2.2.2, rfl⟩

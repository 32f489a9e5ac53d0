-- TensorForgeModel setLayer (IIIIII)V
abbrev zr_setLayer_14_68 : Room := { frames := 0, cells := 0, slots := 0, locals := 0 }
def zp_setLayer_14_68 (p0 : Int) (p1 : Int) (p2 : Int) (p3 : Int) (p4 : Int) (p5 : Int) (S0 : zz_S) : zz_S → Prop := fun S => zz_G S ∧ zz_fr [] [] (fun a i => (a = 1109 ∧ i = p0.toNat) ∨ (a = 1110 ∧ i = p0.toNat) ∨ (a = 1111 ∧ i = p0.toNat) ∨ (a = 1112 ∧ i = p0.toNat) ∨ (a = 1113 ∧ i = p0.toNat)) S0 S ∧ (S 1109 p0.toNat = p1 ∧ S 1110 p0.toNat = p2 ∧ S 1111 p0.toNat = p3 ∧ S 1112 p0.toNat = p4 ∧ S 1113 p0.toNat = p5)
theorem zc_setLayer_14_68 {g : mm_G} {l : Launch} (p0 : Int) (p1 : Int) (p2 : Int) (p3 : Int) (p4 : Int) (p5 : Int) (S0 : zz_S) (n : Nat) (hn : zz_end ≤ n) (G_S0 : zz_G S0) (hp0 : 0 ≤ p0 ∧ p0 ≤ 9) (hp1 : 0 ≤ p1 ∧ p1 ≤ 3) (hp2 : 0 ≤ p2 ∧ p2 ≤ 3) (hp3 : 0 ≤ p3 ∧ p3 ≤ 3) (hp4 : 0 ≤ p4 ∧ p4 ≤ 1) (hp5 : 0 ≤ p5 ∧ p5 ≤ 31) : mm_Met g l zy_setLayer_14_68 zr_setLayer_14_68 [.ref 1079, zi p0, zi p1, zi p2, zi p3, zi p4, zi p5] (zz_M S0 n) n (zz_QV n (zp_setLayer_14_68 p0 p1 p2 p3 p4 p5 S0)) := by
  refine zz_enter (by decide) (Nat.le_of_ble_eq_true rfl) (zz_less (ls1 := [some (.ref 1079), some (zi p0), some (zi p1), some (zi p2), some (zi p3), some (zi p4), some (zi p5)]) ⟨rfl, ⟨rfl, ⟨rfl, ⟨rfl, ⟨rfl, ⟨rfl, ⟨rfl, trivial⟩⟩⟩⟩⟩⟩⟩ ?_)
  have F_S0 : zz_fr [] [] (fun a i => (a = 1109 ∧ i = p0.toNat) ∨ (a = 1110 ∧ i = p0.toNat) ∨ (a = 1111 ∧ i = p0.toNat) ∨ (a = 1112 ∧ i = p0.toNat) ∨ (a = 1113 ∧ i = p0.toNat)) S0 S0 := zz_fr.refl
  refine zz_aload_n (x := 1079) rfl zd_14_68_0 ?_
  refine zz_getr (kd := 0) (z := 1109) zd_14_68_1 zf_Md_109 zT_1079 rfl (zz_ltn hn rfl) (zz_G.eq G_S0 1079 44 1109 rfl rfl) (by decide) 1109 rfl ?_
  refine zz_iload_n (x := p0) rfl zd_14_68_4 ?_
  refine zz_iload_n (x := p1) rfl zd_14_68_5 ?_
  refine zz_iast zd_14_68_6 zT_1109 rfl (zz_ltn hn rfl) (by decide) (by omega) (fun S1 qS1 => ?_)
  have G_S1 := zz_G.put G_S0 qS1 0 3 rfl (by omega)
  have F_S1 := zz_fr.putv F_S0 qS1 (Or.inl ⟨rfl, rfl⟩)
  refine zz_aload_n (x := 1079) rfl zd_14_68_7 ?_
  refine zz_getr (kd := 0) (z := 1110) zd_14_68_8 zf_Md_112 zT_1079 rfl (zz_ltn hn rfl) (zz_G.eq G_S1 1079 45 1110 rfl rfl) (by decide) 1110 rfl ?_
  refine zz_iload_n (x := p0) rfl zd_14_68_11 ?_
  refine zz_iload_n (x := p2) rfl zd_14_68_12 ?_
  refine zz_iast zd_14_68_13 zT_1110 rfl (zz_ltn hn rfl) (by decide) (by omega) (fun S2 qS2 => ?_)
  have G_S2 := zz_G.put G_S1 qS2 0 3 rfl (by omega)
  have F_S2 := zz_fr.putv F_S1 qS2 (Or.inr (Or.inl ⟨rfl, rfl⟩))
  refine zz_aload_n (x := 1079) rfl zd_14_68_14 ?_
  refine zz_getr (kd := 0) (z := 1111) zd_14_68_15 zf_Md_115 zT_1079 rfl (zz_ltn hn rfl) (zz_G.eq G_S2 1079 46 1111 rfl rfl) (by decide) 1111 rfl ?_
  refine zz_iload_n (x := p0) rfl zd_14_68_18 ?_
  refine zz_iload (x := p3) rfl zd_14_68_19 ?_
  refine zz_iast zd_14_68_21 zT_1111 rfl (zz_ltn hn rfl) (by decide) (by omega) (fun S3 qS3 => ?_)
  have G_S3 := zz_G.put G_S2 qS3 0 3 rfl (by omega)
  have F_S3 := zz_fr.putv F_S2 qS3 (Or.inr (Or.inr (Or.inl ⟨rfl, rfl⟩)))
  refine zz_aload_n (x := 1079) rfl zd_14_68_22 ?_
  refine zz_getr (kd := 0) (z := 1112) zd_14_68_23 zf_Md_118 zT_1079 rfl (zz_ltn hn rfl) (zz_G.eq G_S3 1079 47 1112 rfl rfl) (by decide) 1112 rfl ?_
  refine zz_iload_n (x := p0) rfl zd_14_68_26 ?_
  refine zz_iload (x := p4) rfl zd_14_68_27 ?_
  refine zz_iast zd_14_68_29 zT_1112 rfl (zz_ltn hn rfl) (by decide) (by omega) (fun S4 qS4 => ?_)
  have G_S4 := zz_G.put G_S3 qS4 0 1 rfl (by omega)
  have F_S4 := zz_fr.putv F_S3 qS4 (Or.inr (Or.inr (Or.inr (Or.inl ⟨rfl, rfl⟩))))
  refine zz_aload_n (x := 1079) rfl zd_14_68_30 ?_
  refine zz_getr (kd := 0) (z := 1113) zd_14_68_31 zf_Md_121 zT_1079 rfl (zz_ltn hn rfl) (zz_G.eq G_S4 1079 48 1113 rfl rfl) (by decide) 1113 rfl ?_
  refine zz_iload_n (x := p0) rfl zd_14_68_34 ?_
  refine zz_iload (x := p5) rfl zd_14_68_35 ?_
  refine zz_iast zd_14_68_37 zT_1113 rfl (zz_ltn hn rfl) (by decide) (by omega) (fun S5 qS5 => ?_)
  have G_S5 := zz_G.put G_S4 qS5 0 31 rfl (by omega)
  have F_S5 := zz_fr.putv F_S4 qS5 (Or.inr (Or.inr (Or.inr (Or.inr (⟨rfl, rfl⟩)))))
  have e6 : S5 1109 p0.toNat = p1 := (zz_ro qS5 (fun h => absurd h.1 (by decide)) (zz_ro qS4 (fun h => absurd h.1 (by decide)) (zz_ro qS3 (fun h => absurd h.1 (by decide)) (zz_ro qS2 (fun h => absurd h.1 (by decide)) (zz_rs qS1)))))
  have e7 : S5 1110 p0.toNat = p2 := (zz_ro qS5 (fun h => absurd h.1 (by decide)) (zz_ro qS4 (fun h => absurd h.1 (by decide)) (zz_ro qS3 (fun h => absurd h.1 (by decide)) (zz_rs qS2))))
  have e8 : S5 1111 p0.toNat = p3 := (zz_ro qS5 (fun h => absurd h.1 (by decide)) (zz_ro qS4 (fun h => absurd h.1 (by decide)) (zz_rs qS3)))
  have e9 : S5 1112 p0.toNat = p4 := (zz_ro qS5 (fun h => absurd h.1 (by decide)) (zz_rs qS4))
  have e10 : S5 1113 p0.toNat = p5 := (zz_rs qS5)
  exact zz_vret zd_14_68_38 rfl (Nat.zero_le _) (Nat.zero_le _) ⟨_, rfl, G_S5, F_S5, by omega⟩
theorem zk_Md_430 : mm_Vl "TensorForgeModel" 430 11 6 zy_setLayer_14_68 := ⟨zyw_setLayer_14_68, (R_Md, F_Md, 69), rfl, mm_tb_1 2097 (by decide +kernel) rfl, mm_tb_1 2099 (by decide +kernel) rfl, mm_tb_s 122 (by decide +kernel) rfl⟩
theorem zd_14_67_362 : zz_D zy_convolution_14_67 362 (.aload_n 0) 1 363 := ⟨by decide +kernel, rfl⟩
theorem zd_14_67_363 : zz_D zy_convolution_14_67 363 (.getfield 124) 3 366 := ⟨by decide +kernel, rfl⟩
theorem zf_Md_124 : mm_Fl "TensorForgeModel" 124 11 49 (.array .int) true := ⟨R_Md, F_Md, 69, t_Md, rfl, i_Md, by decide, mm_tb_1 1660 (by decide +kernel) rfl, rfl, t_Md_ok, n_Md, rfl, by decide +kernel⟩
theorem zd_14_67_366 : zz_D zy_convolution_14_67 366 (.iload 17) 2 368 := ⟨by decide +kernel, rfl⟩
theorem zd_14_67_368 : zz_D zy_convolution_14_67 368 (.iload 6) 2 370 := ⟨by decide +kernel, rfl⟩
theorem zd_14_67_370 : zz_D zy_convolution_14_67 370 (.iastore) 1 371 := ⟨by decide +kernel, rfl⟩
theorem zd_14_67_371 : zz_D zy_convolution_14_67 371 (.iload 18) 2 373 := ⟨by decide +kernel, rfl⟩
theorem zd_14_67_373 : zz_D zy_convolution_14_67 373 (.ireturn) 1 374 := ⟨by decide +kernel, rfl⟩
theorem zd_14_67_344 : zz_D zy_convolution_14_67 344 (.iconst 0) 1 345 := ⟨by decide +kernel, rfl⟩
theorem zd_14_67_345 : zz_D zy_convolution_14_67 345 (.ireturn) 1 346 := ⟨by decide +kernel, rfl⟩
-- TensorForgeModel convolution (IIIIII)I
abbrev zr_convolution_14_67 : Room := { frames := 2, cells := 0, slots := 0, locals := 33 }
def zp_convolution_14_67 (p0 : Int) (p1 : Int) (p2 : Int) (p3 : Int) (p4 : Int) (p5 : Int) (S0 : zz_S) : Int → zz_S → Prop := fun r S => zz_G S ∧ zz_fr [(1079, 0), (1079, 36)] [] (fun a i => (a = 1102 ∧ i = (S0 1079 36).toNat) ∨ (a = 1103 ∧ i = (S0 1079 36).toNat) ∨ (a = 1104 ∧ i = (S0 1079 36).toNat) ∨ (a = 1105 ∧ i = ((S0 1079 36) + 1).toNat) ∨ (a = 1106 ∧ i = ((S0 1079 36) - 1).toNat) ∨ (a = 1107 ∧ i = ((S0 1079 36) - 1).toNat) ∨ (a = 1109 ∧ i = ((S0 1079 36) - 1).toNat) ∨ (a = 1110 ∧ i = ((S0 1079 36) - 1).toNat) ∨ (a = 1111 ∧ i = ((S0 1079 36) - 1).toNat) ∨ (a = 1112 ∧ i = ((S0 1079 36) - 1).toNat) ∨ (a = 1113 ∧ i = ((S0 1079 36) - 1).toNat) ∨ (a = 1114 ∧ i = ((S0 1079 36) - 1).toNat)) S0 S ∧ (0 ≤ r ∧ r ≤ 10) ∧ (S 1079 36 ≥ S0 1079 36) ∧ (zz_Hr S)
theorem zc_convolution_14_67 {g : mm_G} {l : Launch} (p0 : Int) (p1 : Int) (p2 : Int) (p3 : Int) (p4 : Int) (p5 : Int) (S0 : zz_S) (n : Nat) (hn : zz_end ≤ n) (G_S0 : zz_G S0) (hp0 : (-2147483648) ≤ p0 ∧ p0 ≤ 2147483647) (hp1 : (-2147483648) ≤ p1 ∧ p1 ≤ 2147483647) (hp2 : (-2147483648) ≤ p2 ∧ p2 ≤ 2147483647) (hp3 : (-2147483648) ≤ p3 ∧ p3 ≤ 2147483647) (hp4 : (-2147483648) ≤ p4 ∧ p4 ≤ 2147483647) (hp5 : (-2147483648) ≤ p5 ∧ p5 ≤ 2147483647) (R_S0 : zz_Hr S0) : mm_Met g l zy_convolution_14_67 zr_convolution_14_67 [.ref 1079, zi p0, zi p1, zi p2, zi p3, zi p4, zi p5] (zz_M S0 n) n (zz_QI n (zp_convolution_14_67 p0 p1 p2 p3 p4 p5 S0)) := by
  refine zz_enter (by decide) (Nat.le_of_ble_eq_true rfl) (zz_less (ls1 := [some (.ref 1079), some (zi p0), some (zi p1), some (zi p2), some (zi p3), some (zi p4), some (zi p5)]) ⟨rfl, ⟨rfl, ⟨rfl, ⟨rfl, ⟨rfl, ⟨rfl, ⟨rfl, trivial⟩⟩⟩⟩⟩⟩⟩ ?_)
  have F_S0 : zz_fr [(1079, 0), (1079, 36)] [] (fun a i => (a = 1102 ∧ i = (S0 1079 36).toNat) ∨ (a = 1103 ∧ i = (S0 1079 36).toNat) ∨ (a = 1104 ∧ i = (S0 1079 36).toNat) ∨ (a = 1105 ∧ i = ((S0 1079 36) + 1).toNat) ∨ (a = 1106 ∧ i = ((S0 1079 36) - 1).toNat) ∨ (a = 1107 ∧ i = ((S0 1079 36) - 1).toNat) ∨ (a = 1109 ∧ i = ((S0 1079 36) - 1).toNat) ∨ (a = 1110 ∧ i = ((S0 1079 36) - 1).toNat) ∨ (a = 1111 ∧ i = ((S0 1079 36) - 1).toNat) ∨ (a = 1112 ∧ i = ((S0 1079 36) - 1).toNat) ∨ (a = 1113 ∧ i = ((S0 1079 36) - 1).toNat) ∨ (a = 1114 ∧ i = ((S0 1079 36) - 1).toNat)) S0 S0 := zz_fr.refl
  refine zz_aload_n (x := 1079) rfl zd_14_67_0 ?_
  refine zz_iload_n (x := p0) rfl zd_14_67_1 ?_
  have g1 := zz_G.r G_S0 1079 36 0 11 rfl rfl
  refine zz_callVI [zi p0] zd_14_67_2 zk_Md_411 zT_1079 (zz_ltn hn rfl) rfl rfl ⟨Nat.le_of_ble_eq_true rfl, Nat.le_of_ble_eq_true rfl⟩ ⟨rfl, rfl⟩ (Nat.zero_le _) (Nat.zero_le _) (zc_isTensor_14_66 p0 S0 n hn G_S0 (by omega)) (fun v3 S2 hP => ?_)
  obtain ⟨rfl, o4, o5⟩ := hP
  rcases (by omega : v3 = 0 ∨ v3 = 1) with rfl | rfl
  · refine zz_if_ne (by omega) zd_14_67_5 (fun c6 => ?_) (fun c6 => ?_)
    · exfalso; omega
    · refine zz_aload_n (x := 1079) rfl zd_14_67_8 ?_
      refine zz_iconst zd_14_67_9 ?_
      refine zz_iconst zd_14_67_10 ?_
      refine zz_iconst zd_14_67_11 ?_
      refine zz_callVI [zi 1, zi 0, zi 0] zd_14_67_12 zk_Md_196 zT_1079 (zz_ltn hn rfl) rfl rfl ⟨Nat.le_of_ble_eq_true rfl, Nat.le_of_ble_eq_true rfl⟩ ⟨rfl, rfl⟩ (Nat.zero_le _) (Nat.zero_le _) (zc_refuse_14_3 1 0 0 S0 n hn G_S0 (by omega) (by omega) (by omega)) (fun v8 S7 hP => ?_)
      obtain ⟨G_S7, fS7, o9, o10⟩ := hP
      have F_S7 := zz_fr.trans F_S0 fS7 rfl zz_nv
      have R_S7 : zz_Hr S7 := zz_Hr.fr fS7 rfl rfl (fun b j h => h.elim) R_S0
      rcases (by omega : v8 = 0 ∨ v8 = 1) with rfl | rfl
      · exfalso; omega
      · have e11 : S7 1079 0 = 1 := by omega
        refine zz_pop rfl zd_14_67_15 ?_
        refine zz_iconst zd_14_67_16 ?_
        have e12 : S7 1079 36 = S0 1079 36 := (zz_rc fS7 rfl rfl (fun h => h) rfl)
        exact zz_iret zd_14_67_17 rfl (Nat.zero_le _) (Nat.zero_le _) ⟨_, _, rfl, G_S7, F_S7, by omega, by omega, R_S7⟩
  · refine zz_if_ne (by omega) zd_14_67_5 (fun c13 => ?_) (fun c13 => ?_)
    · refine zz_iload_n (x := p1) rfl zd_14_67_18 ?_
      refine zz_bipush (by decide) zd_14_67_19 ?_
      refine zz_idiv (by omega) (by omega) zd_14_67_21 (fun v14 hv14 av14 bv14 cv14 => ?_)
      refine zz_istore [some (.ref 1079), some (zi p0), some (zi p1), some (zi p2), some (zi p3), some (zi p4), some (zi p5), some (zi v14)] zd_14_67_22 (by decide) rfl ?_
      refine zz_iload_n (x := p1) rfl zd_14_67_24 ?_
      refine zz_bipush (by decide) zd_14_67_25 ?_
      refine zz_irem (by omega) (by omega) zd_14_67_27 (fun v15 hv15 av15 bv15 cv15 => ?_)
      refine zz_istore [some (.ref 1079), some (zi p0), some (zi p1), some (zi p2), some (zi p3), some (zi p4), some (zi p5), some (zi v14), some (zi v15)] zd_14_67_28 (by decide) rfl ?_
      refine zz_iload (x := p3) rfl zd_14_67_30 ?_
      refine zz_bipush (by decide) zd_14_67_32 ?_
      refine zz_idiv (by omega) (by omega) zd_14_67_34 (fun v16 hv16 av16 bv16 cv16 => ?_)
      refine zz_istore [some (.ref 1079), some (zi p0), some (zi p1), some (zi p2), some (zi p3), some (zi p4), some (zi p5), some (zi v14), some (zi v15), some (zi v16)] zd_14_67_35 (by decide) rfl ?_
      refine zz_iload (x := p3) rfl zd_14_67_37 ?_
      refine zz_bipush (by decide) zd_14_67_39 ?_
      refine zz_irem (by omega) (by omega) zd_14_67_41 (fun v17 hv17 av17 bv17 cv17 => ?_)
      refine zz_istore [some (.ref 1079), some (zi p0), some (zi p1), some (zi p2), some (zi p3), some (zi p4), some (zi p5), some (zi v14), some (zi v15), some (zi v16), some (zi v17)] zd_14_67_42 (by decide) rfl ?_
      refine zz_iload_n (x := p1) rfl zd_14_67_44 ?_
      refine zz_i2l (by omega) zd_14_67_45 ?_
      refine zz_ldc2 (z := 11) zq_Md_218 (by decide) zd_14_67_46 ?_
      refine zz_ldc2 (z := 33) zq_Md_414 (by decide) zd_14_67_49 ?_
      refine zz_callSI [zl p1, zl 11, zl 33] zd_14_67_52 zk_Md_192 rfl rfl ⟨Nat.le_of_ble_eq_true rfl, Nat.le_of_ble_eq_true rfl⟩ ⟨rfl, rfl⟩ (Nat.zero_le _) (Nat.zero_le _) (zc_in_14_4 p1 11 33 S0 n hn G_S0 (by omega) (by omega) (by omega)) (fun v19 S18 hP => ?_)
      obtain ⟨rfl, o20, o21⟩ := hP
      rcases (by omega : v19 = 0 ∨ v19 = 1) with rfl | rfl
      · refine zz_if_eq (by omega) zd_14_67_55 (fun c22 => ?_) (fun c22 => ?_)
        · refine zz_iconst zd_14_67_152 ?_
          refine zz_istore [some (.ref 1079), some (zi p0), some (zi p1), some (zi p2), some (zi p3), some (zi p4), some (zi p5), some (zi v14), some (zi v15), some (zi v16), some (zi v17), some (zi 0)] zd_14_67_153 (by decide) rfl ?_
          refine zz_iload (x := 0) rfl zd_14_67_155 ?_
          refine zz_if_eq (by omega) zd_14_67_157 (fun c23 => ?_) (fun c23 => ?_)
          · refine zz_iconst zd_14_67_178 ?_
            refine zz_istore [some (.ref 1079), some (zi p0), some (zi p1), some (zi p2), some (zi p3), some (zi p4), some (zi p5), some (zi v14), some (zi v15), some (zi v16), some (zi v17), some (zi 0), some (zi 0)] zd_14_67_179 (by decide) rfl ?_
            refine zz_iload (x := 0) rfl zd_14_67_181 ?_
            refine zz_if_eq (by omega) zd_14_67_183 (fun c24 => ?_) (fun c24 => ?_)
            · refine zz_iconst zd_14_67_204 ?_
              refine zz_istore [some (.ref 1079), some (zi p0), some (zi p1), some (zi p2), some (zi p3), some (zi p4), some (zi p5), some (zi v14), some (zi v15), some (zi v16), some (zi v17), some (zi 0), some (zi 0), some (zi 0)] zd_14_67_205 (by decide) rfl ?_
              refine zz_iload (x := 0) rfl zd_14_67_207 ?_
              refine zz_if_eq (by omega) zd_14_67_209 (fun c25 => ?_) (fun c25 => ?_)
              · refine zz_lconst (z := 0) (by decide) zd_14_67_233 ?_
                refine zz_lstore [some (.ref 1079), some (zi p0), some (zi p1), some (zi p2), some (zi p3), some (zi p4), some (zi p5), some (zi v14), some (zi v15), some (zi v16), some (zi v17), some (zi 0), some (zi 0), some (zi 0), some (zl 0), none] zd_14_67_234 (by decide) rfl ?_
                refine zz_iload (x := 0) rfl zd_14_67_236 ?_
                refine zz_i2l (by omega) zd_14_67_238 ?_
                refine zz_lconst (z := 1) (by decide) zd_14_67_239 ?_
                refine zz_ldc2 (z := 63) zq_Md_399 (by decide) zd_14_67_240 ?_
                refine zz_callSI [zl 0, zl 1, zl 63] zd_14_67_243 zk_Md_192 rfl rfl ⟨Nat.le_of_ble_eq_true rfl, Nat.le_of_ble_eq_true rfl⟩ ⟨rfl, rfl⟩ (Nat.zero_le _) (Nat.zero_le _) (zc_in_14_4 0 1 63 S0 n hn G_S0 (by omega) (by omega) (by omega)) (fun v27 S26 hP => ?_)
                obtain ⟨rfl, o28, o29⟩ := hP
                rcases (by omega : v27 = 0 ∨ v27 = 1) with rfl | rfl
                · refine zz_if_eq (by omega) zd_14_67_246 (fun c30 => ?_) (fun c30 => ?_)
                  · refine zz_iconst zd_14_67_292 ?_
                    refine zz_istore [some (.ref 1079), some (zi p0), some (zi p1), some (zi p2), some (zi p3), some (zi p4), some (zi p5), some (zi v14), some (zi v15), some (zi v16), some (zi v17), some (zi 0), some (zi 0), some (zi 0), some (zl 0), none, some (zi 0)] zd_14_67_293 (by decide) rfl ?_
                    refine zz_aload_n (x := 1079) rfl zd_14_67_295 ?_
                    refine zz_iconst zd_14_67_296 ?_
                    refine zz_iload (x := 0) rfl zd_14_67_297 ?_
                    refine zz_if_ne (by omega) zd_14_67_299 (fun c31 => ?_) (fun c31 => ?_)
                    · exfalso; omega
                    · refine zz_iconst zd_14_67_302 ?_
                      refine zz_goto zd_14_67_303 ?_
                      refine zz_iconst zd_14_67_307 ?_
                      refine zz_callVI [zi 0, zi 1, zi 0] zd_14_67_308 zk_Md_196 zT_1079 (zz_ltn hn rfl) rfl rfl ⟨Nat.le_of_ble_eq_true rfl, Nat.le_of_ble_eq_true rfl⟩ ⟨rfl, rfl⟩ (Nat.zero_le _) (Nat.zero_le _) (zc_refuse_14_3 0 1 0 S0 n hn G_S0 (by omega) (by omega) (by omega)) (fun v33 S32 hP => ?_)
                      obtain ⟨G_S32, fS32, o34, o35⟩ := hP
                      have F_S32 := zz_fr.trans F_S0 fS32 rfl zz_nv
                      have R_S32 : zz_Hr S32 := zz_Hr.fr fS32 rfl rfl (fun b j h => h.elim) R_S0
                      rcases (by omega : v33 = 0 ∨ v33 = 1) with rfl | rfl
                      · exfalso; omega
                      · have e36 : S32 1079 0 = 2 := by omega
                        refine zz_if_eq (by omega) zd_14_67_311 (fun c37 => ?_) (fun c37 => ?_)
                        · exfalso; omega
                        · refine zz_iconst zd_14_67_314 ?_
                          have e38 : S32 1079 36 = S0 1079 36 := (zz_rc fS32 rfl rfl (fun h => h) rfl)
                          exact zz_iret zd_14_67_315 rfl (Nat.zero_le _) (Nat.zero_le _) ⟨_, _, rfl, G_S32, F_S32, by omega, by omega, R_S32⟩
                  · exfalso; omega
                · exfalso; omega
              · exfalso; omega
            · exfalso; omega
          · exfalso; omega
        · exfalso; omega
      · refine zz_if_eq (by omega) zd_14_67_55 (fun c39 => ?_) (fun c39 => ?_)
        · exfalso; omega
        · refine zz_iload (x := v14) rfl zd_14_67_58 ?_
          refine zz_i2l (by omega) zd_14_67_60 ?_
          refine zz_lconst (z := 1) (by decide) zd_14_67_61 ?_
          refine zz_ldc2 (z := 3) zq_Md_416 (by decide) zd_14_67_62 ?_
          refine zz_callSI [zl v14, zl 1, zl 3] zd_14_67_65 zk_Md_192 rfl rfl ⟨Nat.le_of_ble_eq_true rfl, Nat.le_of_ble_eq_true rfl⟩ ⟨rfl, rfl⟩ (Nat.zero_le _) (Nat.zero_le _) (zc_in_14_4 v14 1 3 S0 n hn G_S0 (by omega) (by omega) (by omega)) (fun v41 S40 hP => ?_)
          obtain ⟨rfl, o42, o43⟩ := hP
          rcases (by omega : v41 = 0 ∨ v41 = 1) with rfl | rfl
          · refine zz_if_eq (by omega) zd_14_67_68 (fun c44 => ?_) (fun c44 => ?_)
            · refine zz_iconst zd_14_67_152 ?_
              refine zz_istore [some (.ref 1079), some (zi p0), some (zi p1), some (zi p2), some (zi p3), some (zi p4), some (zi p5), some (zi v14), some (zi v15), some (zi v16), some (zi v17), some (zi 0)] zd_14_67_153 (by decide) rfl ?_
              refine zz_iload (x := 0) rfl zd_14_67_155 ?_
              refine zz_if_eq (by omega) zd_14_67_157 (fun c45 => ?_) (fun c45 => ?_)
              · refine zz_iconst zd_14_67_178 ?_
                refine zz_istore [some (.ref 1079), some (zi p0), some (zi p1), some (zi p2), some (zi p3), some (zi p4), some (zi p5), some (zi v14), some (zi v15), some (zi v16), some (zi v17), some (zi 0), some (zi 0)] zd_14_67_179 (by decide) rfl ?_
                refine zz_iload (x := 0) rfl zd_14_67_181 ?_
                refine zz_if_eq (by omega) zd_14_67_183 (fun c46 => ?_) (fun c46 => ?_)
                · refine zz_iconst zd_14_67_204 ?_
                  refine zz_istore [some (.ref 1079), some (zi p0), some (zi p1), some (zi p2), some (zi p3), some (zi p4), some (zi p5), some (zi v14), some (zi v15), some (zi v16), some (zi v17), some (zi 0), some (zi 0), some (zi 0)] zd_14_67_205 (by decide) rfl ?_
                  refine zz_iload (x := 0) rfl zd_14_67_207 ?_
                  refine zz_if_eq (by omega) zd_14_67_209 (fun c47 => ?_) (fun c47 => ?_)
                  · refine zz_lconst (z := 0) (by decide) zd_14_67_233 ?_
                    refine zz_lstore [some (.ref 1079), some (zi p0), some (zi p1), some (zi p2), some (zi p3), some (zi p4), some (zi p5), some (zi v14), some (zi v15), some (zi v16), some (zi v17), some (zi 0), some (zi 0), some (zi 0), some (zl 0), none] zd_14_67_234 (by decide) rfl ?_
                    refine zz_iload (x := 0) rfl zd_14_67_236 ?_
                    refine zz_i2l (by omega) zd_14_67_238 ?_
                    refine zz_lconst (z := 1) (by decide) zd_14_67_239 ?_
                    refine zz_ldc2 (z := 63) zq_Md_399 (by decide) zd_14_67_240 ?_
                    refine zz_callSI [zl 0, zl 1, zl 63] zd_14_67_243 zk_Md_192 rfl rfl ⟨Nat.le_of_ble_eq_true rfl, Nat.le_of_ble_eq_true rfl⟩ ⟨rfl, rfl⟩ (Nat.zero_le _) (Nat.zero_le _) (zc_in_14_4 0 1 63 S0 n hn G_S0 (by omega) (by omega) (by omega)) (fun v49 S48 hP => ?_)
                    obtain ⟨rfl, o50, o51⟩ := hP
                    rcases (by omega : v49 = 0 ∨ v49 = 1) with rfl | rfl
                    · refine zz_if_eq (by omega) zd_14_67_246 (fun c52 => ?_) (fun c52 => ?_)
                      · refine zz_iconst zd_14_67_292 ?_
                        refine zz_istore [some (.ref 1079), some (zi p0), some (zi p1), some (zi p2), some (zi p3), some (zi p4), some (zi p5), some (zi v14), some (zi v15), some (zi v16), some (zi v17), some (zi 0), some (zi 0), some (zi 0), some (zl 0), none, some (zi 0)] zd_14_67_293 (by decide) rfl ?_
                        refine zz_aload_n (x := 1079) rfl zd_14_67_295 ?_
                        refine zz_iconst zd_14_67_296 ?_
                        refine zz_iload (x := 0) rfl zd_14_67_297 ?_
                        refine zz_if_ne (by omega) zd_14_67_299 (fun c53 => ?_) (fun c53 => ?_)
                        · exfalso; omega
                        · refine zz_iconst zd_14_67_302 ?_
                          refine zz_goto zd_14_67_303 ?_
                          refine zz_iconst zd_14_67_307 ?_
                          refine zz_callVI [zi 0, zi 1, zi 0] zd_14_67_308 zk_Md_196 zT_1079 (zz_ltn hn rfl) rfl rfl ⟨Nat.le_of_ble_eq_true rfl, Nat.le_of_ble_eq_true rfl⟩ ⟨rfl, rfl⟩ (Nat.zero_le _) (Nat.zero_le _) (zc_refuse_14_3 0 1 0 S0 n hn G_S0 (by omega) (by omega) (by omega)) (fun v55 S54 hP => ?_)
                          obtain ⟨G_S54, fS54, o56, o57⟩ := hP
                          have F_S54 := zz_fr.trans F_S0 fS54 rfl zz_nv
                          have R_S54 : zz_Hr S54 := zz_Hr.fr fS54 rfl rfl (fun b j h => h.elim) R_S0
                          rcases (by omega : v55 = 0 ∨ v55 = 1) with rfl | rfl
                          · exfalso; omega
                          · have e58 : S54 1079 0 = 2 := by omega
                            refine zz_if_eq (by omega) zd_14_67_311 (fun c59 => ?_) (fun c59 => ?_)
                            · exfalso; omega
                            · refine zz_iconst zd_14_67_314 ?_
                              have e60 : S54 1079 36 = S0 1079 36 := (zz_rc fS54 rfl rfl (fun h => h) rfl)
                              exact zz_iret zd_14_67_315 rfl (Nat.zero_le _) (Nat.zero_le _) ⟨_, _, rfl, G_S54, F_S54, by omega, by omega, R_S54⟩
                      · exfalso; omega
                    · exfalso; omega
                  · exfalso; omega
                · exfalso; omega
              · exfalso; omega
            · exfalso; omega
          · refine zz_if_eq (by omega) zd_14_67_68 (fun c61 => ?_) (fun c61 => ?_)
            · exfalso; omega
            · refine zz_iload (x := v15) rfl zd_14_67_71 ?_
              refine zz_i2l (by omega) zd_14_67_73 ?_
              refine zz_lconst (z := 1) (by decide) zd_14_67_74 ?_
              refine zz_ldc2 (z := 3) zq_Md_416 (by decide) zd_14_67_75 ?_
              refine zz_callSI [zl v15, zl 1, zl 3] zd_14_67_78 zk_Md_192 rfl rfl ⟨Nat.le_of_ble_eq_true rfl, Nat.le_of_ble_eq_true rfl⟩ ⟨rfl, rfl⟩ (Nat.zero_le _) (Nat.zero_le _) (zc_in_14_4 v15 1 3 S0 n hn G_S0 (by omega) (by omega) (by omega)) (fun v63 S62 hP => ?_)
              obtain ⟨rfl, o64, o65⟩ := hP
              rcases (by omega : v63 = 0 ∨ v63 = 1) with rfl | rfl
              · refine zz_if_eq (by omega) zd_14_67_81 (fun c66 => ?_) (fun c66 => ?_)
                · refine zz_iconst zd_14_67_152 ?_
                  refine zz_istore [some (.ref 1079), some (zi p0), some (zi p1), some (zi p2), some (zi p3), some (zi p4), some (zi p5), some (zi v14), some (zi v15), some (zi v16), some (zi v17), some (zi 0)] zd_14_67_153 (by decide) rfl ?_
                  refine zz_iload (x := 0) rfl zd_14_67_155 ?_
                  refine zz_if_eq (by omega) zd_14_67_157 (fun c67 => ?_) (fun c67 => ?_)
                  · refine zz_iconst zd_14_67_178 ?_
                    refine zz_istore [some (.ref 1079), some (zi p0), some (zi p1), some (zi p2), some (zi p3), some (zi p4), some (zi p5), some (zi v14), some (zi v15), some (zi v16), some (zi v17), some (zi 0), some (zi 0)] zd_14_67_179 (by decide) rfl ?_
                    refine zz_iload (x := 0) rfl zd_14_67_181 ?_
                    refine zz_if_eq (by omega) zd_14_67_183 (fun c68 => ?_) (fun c68 => ?_)
                    · refine zz_iconst zd_14_67_204 ?_
                      refine zz_istore [some (.ref 1079), some (zi p0), some (zi p1), some (zi p2), some (zi p3), some (zi p4), some (zi p5), some (zi v14), some (zi v15), some (zi v16), some (zi v17), some (zi 0), some (zi 0), some (zi 0)] zd_14_67_205 (by decide) rfl ?_
                      refine zz_iload (x := 0) rfl zd_14_67_207 ?_
                      refine zz_if_eq (by omega) zd_14_67_209 (fun c69 => ?_) (fun c69 => ?_)
                      · refine zz_lconst (z := 0) (by decide) zd_14_67_233 ?_
                        refine zz_lstore [some (.ref 1079), some (zi p0), some (zi p1), some (zi p2), some (zi p3), some (zi p4), some (zi p5), some (zi v14), some (zi v15), some (zi v16), some (zi v17), some (zi 0), some (zi 0), some (zi 0), some (zl 0), none] zd_14_67_234 (by decide) rfl ?_
                        refine zz_iload (x := 0) rfl zd_14_67_236 ?_
                        refine zz_i2l (by omega) zd_14_67_238 ?_
                        refine zz_lconst (z := 1) (by decide) zd_14_67_239 ?_
                        refine zz_ldc2 (z := 63) zq_Md_399 (by decide) zd_14_67_240 ?_
                        refine zz_callSI [zl 0, zl 1, zl 63] zd_14_67_243 zk_Md_192 rfl rfl ⟨Nat.le_of_ble_eq_true rfl, Nat.le_of_ble_eq_true rfl⟩ ⟨rfl, rfl⟩ (Nat.zero_le _) (Nat.zero_le _) (zc_in_14_4 0 1 63 S0 n hn G_S0 (by omega) (by omega) (by omega)) (fun v71 S70 hP => ?_)
                        obtain ⟨rfl, o72, o73⟩ := hP
                        rcases (by omega : v71 = 0 ∨ v71 = 1) with rfl | rfl
                        · refine zz_if_eq (by omega) zd_14_67_246 (fun c74 => ?_) (fun c74 => ?_)
                          · refine zz_iconst zd_14_67_292 ?_
                            refine zz_istore [some (.ref 1079), some (zi p0), some (zi p1), some (zi p2), some (zi p3), some (zi p4), some (zi p5), some (zi v14), some (zi v15), some (zi v16), some (zi v17), some (zi 0), some (zi 0), some (zi 0), some (zl 0), none, some (zi 0)] zd_14_67_293 (by decide) rfl ?_
                            refine zz_aload_n (x := 1079) rfl zd_14_67_295 ?_
                            refine zz_iconst zd_14_67_296 ?_
                            refine zz_iload (x := 0) rfl zd_14_67_297 ?_
                            refine zz_if_ne (by omega) zd_14_67_299 (fun c75 => ?_) (fun c75 => ?_)
                            · exfalso; omega
                            · refine zz_iconst zd_14_67_302 ?_
                              refine zz_goto zd_14_67_303 ?_
                              refine zz_iconst zd_14_67_307 ?_
                              refine zz_callVI [zi 0, zi 1, zi 0] zd_14_67_308 zk_Md_196 zT_1079 (zz_ltn hn rfl) rfl rfl ⟨Nat.le_of_ble_eq_true rfl, Nat.le_of_ble_eq_true rfl⟩ ⟨rfl, rfl⟩ (Nat.zero_le _) (Nat.zero_le _) (zc_refuse_14_3 0 1 0 S0 n hn G_S0 (by omega) (by omega) (by omega)) (fun v77 S76 hP => ?_)
                              obtain ⟨G_S76, fS76, o78, o79⟩ := hP
                              have F_S76 := zz_fr.trans F_S0 fS76 rfl zz_nv
                              have R_S76 : zz_Hr S76 := zz_Hr.fr fS76 rfl rfl (fun b j h => h.elim) R_S0
                              rcases (by omega : v77 = 0 ∨ v77 = 1) with rfl | rfl
                              · exfalso; omega
                              · have e80 : S76 1079 0 = 2 := by omega
                                refine zz_if_eq (by omega) zd_14_67_311 (fun c81 => ?_) (fun c81 => ?_)
                                · exfalso; omega
                                · refine zz_iconst zd_14_67_314 ?_
                                  have e82 : S76 1079 36 = S0 1079 36 := (zz_rc fS76 rfl rfl (fun h => h) rfl)
                                  exact zz_iret zd_14_67_315 rfl (Nat.zero_le _) (Nat.zero_le _) ⟨_, _, rfl, G_S76, F_S76, by omega, by omega, R_S76⟩
                          · exfalso; omega
                        · exfalso; omega
                      · exfalso; omega
                    · exfalso; omega
                  · exfalso; omega
                · exfalso; omega
              · refine zz_if_eq (by omega) zd_14_67_81 (fun c83 => ?_) (fun c83 => ?_)
                · exfalso; omega
                · refine zz_iload_n (x := p2) rfl zd_14_67_84 ?_
                  refine zz_i2l (by omega) zd_14_67_85 ?_
                  refine zz_lconst (z := 1) (by decide) zd_14_67_86 ?_
                  refine zz_ldc2 (z := 16) zq_Md_367 (by decide) zd_14_67_87 ?_
                  refine zz_callSI [zl p2, zl 1, zl 16] zd_14_67_90 zk_Md_192 rfl rfl ⟨Nat.le_of_ble_eq_true rfl, Nat.le_of_ble_eq_true rfl⟩ ⟨rfl, rfl⟩ (Nat.zero_le _) (Nat.zero_le _) (zc_in_14_4 p2 1 16 S0 n hn G_S0 (by omega) (by omega) (by omega)) (fun v85 S84 hP => ?_)
                  obtain ⟨rfl, o86, o87⟩ := hP
                  rcases (by omega : v85 = 0 ∨ v85 = 1) with rfl | rfl
                  · refine zz_if_eq (by omega) zd_14_67_93 (fun c88 => ?_) (fun c88 => ?_)
                    · refine zz_iconst zd_14_67_152 ?_
                      refine zz_istore [some (.ref 1079), some (zi p0), some (zi p1), some (zi p2), some (zi p3), some (zi p4), some (zi p5), some (zi v14), some (zi v15), some (zi v16), some (zi v17), some (zi 0)] zd_14_67_153 (by decide) rfl ?_
                      refine zz_iload (x := 0) rfl zd_14_67_155 ?_
                      refine zz_if_eq (by omega) zd_14_67_157 (fun c89 => ?_) (fun c89 => ?_)
                      · refine zz_iconst zd_14_67_178 ?_
                        refine zz_istore [some (.ref 1079), some (zi p0), some (zi p1), some (zi p2), some (zi p3), some (zi p4), some (zi p5), some (zi v14), some (zi v15), some (zi v16), some (zi v17), some (zi 0), some (zi 0)] zd_14_67_179 (by decide) rfl ?_
                        refine zz_iload (x := 0) rfl zd_14_67_181 ?_
                        refine zz_if_eq (by omega) zd_14_67_183 (fun c90 => ?_) (fun c90 => ?_)
                        · refine zz_iconst zd_14_67_204 ?_
                          refine zz_istore [some (.ref 1079), some (zi p0), some (zi p1), some (zi p2), some (zi p3), some (zi p4), some (zi p5), some (zi v14), some (zi v15), some (zi v16), some (zi v17), some (zi 0), some (zi 0), some (zi 0)] zd_14_67_205 (by decide) rfl ?_
                          refine zz_iload (x := 0) rfl zd_14_67_207 ?_
                          refine zz_if_eq (by omega) zd_14_67_209 (fun c91 => ?_) (fun c91 => ?_)
                          · refine zz_lconst (z := 0) (by decide) zd_14_67_233 ?_
                            refine zz_lstore [some (.ref 1079), some (zi p0), some (zi p1), some (zi p2), some (zi p3), some (zi p4), some (zi p5), some (zi v14), some (zi v15), some (zi v16), some (zi v17), some (zi 0), some (zi 0), some (zi 0), some (zl 0), none] zd_14_67_234 (by decide) rfl ?_
                            refine zz_iload (x := 0) rfl zd_14_67_236 ?_
                            refine zz_i2l (by omega) zd_14_67_238 ?_
                            refine zz_lconst (z := 1) (by decide) zd_14_67_239 ?_
                            refine zz_ldc2 (z := 63) zq_Md_399 (by decide) zd_14_67_240 ?_
                            refine zz_callSI [zl 0, zl 1, zl 63] zd_14_67_243 zk_Md_192 rfl rfl ⟨Nat.le_of_ble_eq_true rfl, Nat.le_of_ble_eq_true rfl⟩ ⟨rfl, rfl⟩ (Nat.zero_le _) (Nat.zero_le _) (zc_in_14_4 0 1 63 S0 n hn G_S0 (by omega) (by omega) (by omega)) (fun v93 S92 hP => ?_)
                            obtain ⟨rfl, o94, o95⟩ := hP
                            rcases (by omega : v93 = 0 ∨ v93 = 1) with rfl | rfl
                            · refine zz_if_eq (by omega) zd_14_67_246 (fun c96 => ?_) (fun c96 => ?_)
                              · refine zz_iconst zd_14_67_292 ?_
                                refine zz_istore [some (.ref 1079), some (zi p0), some (zi p1), some (zi p2), some (zi p3), some (zi p4), some (zi p5), some (zi v14), some (zi v15), some (zi v16), some (zi v17), some (zi 0), some (zi 0), some (zi 0), some (zl 0), none, some (zi 0)] zd_14_67_293 (by decide) rfl ?_
                                refine zz_aload_n (x := 1079) rfl zd_14_67_295 ?_
                                refine zz_iconst zd_14_67_296 ?_
                                refine zz_iload (x := 0) rfl zd_14_67_297 ?_
                                refine zz_if_ne (by omega) zd_14_67_299 (fun c97 => ?_) (fun c97 => ?_)
                                · exfalso; omega
                                · refine zz_iconst zd_14_67_302 ?_
                                  refine zz_goto zd_14_67_303 ?_
                                  refine zz_iconst zd_14_67_307 ?_
                                  refine zz_callVI [zi 0, zi 1, zi 0] zd_14_67_308 zk_Md_196 zT_1079 (zz_ltn hn rfl) rfl rfl ⟨Nat.le_of_ble_eq_true rfl, Nat.le_of_ble_eq_true rfl⟩ ⟨rfl, rfl⟩ (Nat.zero_le _) (Nat.zero_le _) (zc_refuse_14_3 0 1 0 S0 n hn G_S0 (by omega) (by omega) (by omega)) (fun v99 S98 hP => ?_)
                                  obtain ⟨G_S98, fS98, o100, o101⟩ := hP
                                  have F_S98 := zz_fr.trans F_S0 fS98 rfl zz_nv
                                  have R_S98 : zz_Hr S98 := zz_Hr.fr fS98 rfl rfl (fun b j h => h.elim) R_S0
                                  rcases (by omega : v99 = 0 ∨ v99 = 1) with rfl | rfl
                                  · exfalso; omega
                                  · have e102 : S98 1079 0 = 2 := by omega
                                    refine zz_if_eq (by omega) zd_14_67_311 (fun c103 => ?_) (fun c103 => ?_)
                                    · exfalso; omega
                                    · refine zz_iconst zd_14_67_314 ?_
                                      have e104 : S98 1079 36 = S0 1079 36 := (zz_rc fS98 rfl rfl (fun h => h) rfl)
                                      exact zz_iret zd_14_67_315 rfl (Nat.zero_le _) (Nat.zero_le _) ⟨_, _, rfl, G_S98, F_S98, by omega, by omega, R_S98⟩
                              · exfalso; omega
                            · exfalso; omega
                          · exfalso; omega
                        · exfalso; omega
                      · exfalso; omega
                    · exfalso; omega
                  · refine zz_if_eq (by omega) zd_14_67_93 (fun c105 => ?_) (fun c105 => ?_)
                    · exfalso; omega
                    · refine zz_iload (x := p3) rfl zd_14_67_96 ?_
                      refine zz_i2l (by omega) zd_14_67_98 ?_
                      refine zz_ldc2 (z := 10) zq_Md_407 (by decide) zd_14_67_99 ?_
                      refine zz_ldc2 (z := 21) zq_Md_418 (by decide) zd_14_67_102 ?_
                      refine zz_callSI [zl p3, zl 10, zl 21] zd_14_67_105 zk_Md_192 rfl rfl ⟨Nat.le_of_ble_eq_true rfl, Nat.le_of_ble_eq_true rfl⟩ ⟨rfl, rfl⟩ (Nat.zero_le _) (Nat.zero_le _) (zc_in_14_4 p3 10 21 S0 n hn G_S0 (by omega) (by omega) (by omega)) (fun v107 S106 hP => ?_)
                      obtain ⟨rfl, o108, o109⟩ := hP
                      rcases (by omega : v107 = 0 ∨ v107 = 1) with rfl | rfl
                      · refine zz_if_eq (by omega) zd_14_67_108 (fun c110 => ?_) (fun c110 => ?_)
                        · refine zz_iconst zd_14_67_152 ?_
                          refine zz_istore [some (.ref 1079), some (zi p0), some (zi p1), some (zi p2), some (zi p3), some (zi p4), some (zi p5), some (zi v14), some (zi v15), some (zi v16), some (zi v17), some (zi 0)] zd_14_67_153 (by decide) rfl ?_
                          refine zz_iload (x := 0) rfl zd_14_67_155 ?_
                          refine zz_if_eq (by omega) zd_14_67_157 (fun c111 => ?_) (fun c111 => ?_)
                          · refine zz_iconst zd_14_67_178 ?_
                            refine zz_istore [some (.ref 1079), some (zi p0), some (zi p1), some (zi p2), some (zi p3), some (zi p4), some (zi p5), some (zi v14), some (zi v15), some (zi v16), some (zi v17), some (zi 0), some (zi 0)] zd_14_67_179 (by decide) rfl ?_
                            refine zz_iload (x := 0) rfl zd_14_67_181 ?_
                            refine zz_if_eq (by omega) zd_14_67_183 (fun c112 => ?_) (fun c112 => ?_)
                            · refine zz_iconst zd_14_67_204 ?_
                              refine zz_istore [some (.ref 1079), some (zi p0), some (zi p1), some (zi p2), some (zi p3), some (zi p4), some (zi p5), some (zi v14), some (zi v15), some (zi v16), some (zi v17), some (zi 0), some (zi 0), some (zi 0)] zd_14_67_205 (by decide) rfl ?_
                              refine zz_iload (x := 0) rfl zd_14_67_207 ?_
                              refine zz_if_eq (by omega) zd_14_67_209 (fun c113 => ?_) (fun c113 => ?_)
                              · refine zz_lconst (z := 0) (by decide) zd_14_67_233 ?_
                                refine zz_lstore [some (.ref 1079), some (zi p0), some (zi p1), some (zi p2), some (zi p3), some (zi p4), some (zi p5), some (zi v14), some (zi v15), some (zi v16), some (zi v17), some (zi 0), some (zi 0), some (zi 0), some (zl 0), none] zd_14_67_234 (by decide) rfl ?_
                                refine zz_iload (x := 0) rfl zd_14_67_236 ?_
                                refine zz_i2l (by omega) zd_14_67_238 ?_
                                refine zz_lconst (z := 1) (by decide) zd_14_67_239 ?_
                                refine zz_ldc2 (z := 63) zq_Md_399 (by decide) zd_14_67_240 ?_
                                refine zz_callSI [zl 0, zl 1, zl 63] zd_14_67_243 zk_Md_192 rfl rfl ⟨Nat.le_of_ble_eq_true rfl, Nat.le_of_ble_eq_true rfl⟩ ⟨rfl, rfl⟩ (Nat.zero_le _) (Nat.zero_le _) (zc_in_14_4 0 1 63 S0 n hn G_S0 (by omega) (by omega) (by omega)) (fun v115 S114 hP => ?_)
                                obtain ⟨rfl, o116, o117⟩ := hP
                                rcases (by omega : v115 = 0 ∨ v115 = 1) with rfl | rfl
                                · refine zz_if_eq (by omega) zd_14_67_246 (fun c118 => ?_) (fun c118 => ?_)
                                  · refine zz_iconst zd_14_67_292 ?_
                                    refine zz_istore [some (.ref 1079), some (zi p0), some (zi p1), some (zi p2), some (zi p3), some (zi p4), some (zi p5), some (zi v14), some (zi v15), some (zi v16), some (zi v17), some (zi 0), some (zi 0), some (zi 0), some (zl 0), none, some (zi 0)] zd_14_67_293 (by decide) rfl ?_
                                    refine zz_aload_n (x := 1079) rfl zd_14_67_295 ?_
                                    refine zz_iconst zd_14_67_296 ?_
                                    refine zz_iload (x := 0) rfl zd_14_67_297 ?_
                                    refine zz_if_ne (by omega) zd_14_67_299 (fun c119 => ?_) (fun c119 => ?_)
                                    · exfalso; omega
                                    · refine zz_iconst zd_14_67_302 ?_
                                      refine zz_goto zd_14_67_303 ?_
                                      refine zz_iconst zd_14_67_307 ?_
                                      refine zz_callVI [zi 0, zi 1, zi 0] zd_14_67_308 zk_Md_196 zT_1079 (zz_ltn hn rfl) rfl rfl ⟨Nat.le_of_ble_eq_true rfl, Nat.le_of_ble_eq_true rfl⟩ ⟨rfl, rfl⟩ (Nat.zero_le _) (Nat.zero_le _) (zc_refuse_14_3 0 1 0 S0 n hn G_S0 (by omega) (by omega) (by omega)) (fun v121 S120 hP => ?_)
                                      obtain ⟨G_S120, fS120, o122, o123⟩ := hP
                                      have F_S120 := zz_fr.trans F_S0 fS120 rfl zz_nv
                                      have R_S120 : zz_Hr S120 := zz_Hr.fr fS120 rfl rfl (fun b j h => h.elim) R_S0
                                      rcases (by omega : v121 = 0 ∨ v121 = 1) with rfl | rfl
                                      · exfalso; omega
                                      · have e124 : S120 1079 0 = 2 := by omega
                                        refine zz_if_eq (by omega) zd_14_67_311 (fun c125 => ?_) (fun c125 => ?_)
                                        · exfalso; omega
                                        · refine zz_iconst zd_14_67_314 ?_
                                          have e126 : S120 1079 36 = S0 1079 36 := (zz_rc fS120 rfl rfl (fun h => h) rfl)
                                          exact zz_iret zd_14_67_315 rfl (Nat.zero_le _) (Nat.zero_le _) ⟨_, _, rfl, G_S120, F_S120, by omega, by omega, R_S120⟩
                                  · exfalso; omega
                                · exfalso; omega
                              · exfalso; omega
                            · exfalso; omega
                          · exfalso; omega
                        · exfalso; omega
                      · refine zz_if_eq (by omega) zd_14_67_108 (fun c127 => ?_) (fun c127 => ?_)
                        · exfalso; omega
                        · refine zz_iload (x := v16) rfl zd_14_67_111 ?_
                          refine zz_i2l (by omega) zd_14_67_113 ?_
                          refine zz_lconst (z := 1) (by decide) zd_14_67_114 ?_
                          refine zz_ldc2 (z := 2) zq_Md_169 (by decide) zd_14_67_115 ?_
                          refine zz_callSI [zl v16, zl 1, zl 2] zd_14_67_118 zk_Md_192 rfl rfl ⟨Nat.le_of_ble_eq_true rfl, Nat.le_of_ble_eq_true rfl⟩ ⟨rfl, rfl⟩ (Nat.zero_le _) (Nat.zero_le _) (zc_in_14_4 v16 1 2 S0 n hn G_S0 (by omega) (by omega) (by omega)) (fun v129 S128 hP => ?_)
                          obtain ⟨rfl, o130, o131⟩ := hP
                          rcases (by omega : v129 = 0 ∨ v129 = 1) with rfl | rfl
                          · refine zz_if_eq (by omega) zd_14_67_121 (fun c132 => ?_) (fun c132 => ?_)
                            · refine zz_iconst zd_14_67_152 ?_
                              refine zz_istore [some (.ref 1079), some (zi p0), some (zi p1), some (zi p2), some (zi p3), some (zi p4), some (zi p5), some (zi v14), some (zi v15), some (zi v16), some (zi v17), some (zi 0)] zd_14_67_153 (by decide) rfl ?_
                              refine zz_iload (x := 0) rfl zd_14_67_155 ?_
                              refine zz_if_eq (by omega) zd_14_67_157 (fun c133 => ?_) (fun c133 => ?_)
                              · refine zz_iconst zd_14_67_178 ?_
                                refine zz_istore [some (.ref 1079), some (zi p0), some (zi p1), some (zi p2), some (zi p3), some (zi p4), some (zi p5), some (zi v14), some (zi v15), some (zi v16), some (zi v17), some (zi 0), some (zi 0)] zd_14_67_179 (by decide) rfl ?_
                                refine zz_iload (x := 0) rfl zd_14_67_181 ?_
                                refine zz_if_eq (by omega) zd_14_67_183 (fun c134 => ?_) (fun c134 => ?_)
                                · refine zz_iconst zd_14_67_204 ?_
                                  refine zz_istore [some (.ref 1079), some (zi p0), some (zi p1), some (zi p2), some (zi p3), some (zi p4), some (zi p5), some (zi v14), some (zi v15), some (zi v16), some (zi v17), some (zi 0), some (zi 0), some (zi 0)] zd_14_67_205 (by decide) rfl ?_
                                  refine zz_iload (x := 0) rfl zd_14_67_207 ?_
                                  refine zz_if_eq (by omega) zd_14_67_209 (fun c135 => ?_) (fun c135 => ?_)
                                  · refine zz_lconst (z := 0) (by decide) zd_14_67_233 ?_
                                    refine zz_lstore [some (.ref 1079), some (zi p0), some (zi p1), some (zi p2), some (zi p3), some (zi p4), some (zi p5), some (zi v14), some (zi v15), some (zi v16), some (zi v17), some (zi 0), some (zi 0), some (zi 0), some (zl 0), none] zd_14_67_234 (by decide) rfl ?_
                                    refine zz_iload (x := 0) rfl zd_14_67_236 ?_
                                    refine zz_i2l (by omega) zd_14_67_238 ?_
                                    refine zz_lconst (z := 1) (by decide) zd_14_67_239 ?_
                                    refine zz_ldc2 (z := 63) zq_Md_399 (by decide) zd_14_67_240 ?_
                                    refine zz_callSI [zl 0, zl 1, zl 63] zd_14_67_243 zk_Md_192 rfl rfl ⟨Nat.le_of_ble_eq_true rfl, Nat.le_of_ble_eq_true rfl⟩ ⟨rfl, rfl⟩ (Nat.zero_le _) (Nat.zero_le _) (zc_in_14_4 0 1 63 S0 n hn G_S0 (by omega) (by omega) (by omega)) (fun v137 S136 hP => ?_)
                                    obtain ⟨rfl, o138, o139⟩ := hP
                                    rcases (by omega : v137 = 0 ∨ v137 = 1) with rfl | rfl
                                    · refine zz_if_eq (by omega) zd_14_67_246 (fun c140 => ?_) (fun c140 => ?_)
                                      · refine zz_iconst zd_14_67_292 ?_
                                        refine zz_istore [some (.ref 1079), some (zi p0), some (zi p1), some (zi p2), some (zi p3), some (zi p4), some (zi p5), some (zi v14), some (zi v15), some (zi v16), some (zi v17), some (zi 0), some (zi 0), some (zi 0), some (zl 0), none, some (zi 0)] zd_14_67_293 (by decide) rfl ?_
                                        refine zz_aload_n (x := 1079) rfl zd_14_67_295 ?_
                                        refine zz_iconst zd_14_67_296 ?_
                                        refine zz_iload (x := 0) rfl zd_14_67_297 ?_
                                        refine zz_if_ne (by omega) zd_14_67_299 (fun c141 => ?_) (fun c141 => ?_)
                                        · exfalso; omega
                                        · refine zz_iconst zd_14_67_302 ?_
                                          refine zz_goto zd_14_67_303 ?_
                                          refine zz_iconst zd_14_67_307 ?_
                                          refine zz_callVI [zi 0, zi 1, zi 0] zd_14_67_308 zk_Md_196 zT_1079 (zz_ltn hn rfl) rfl rfl ⟨Nat.le_of_ble_eq_true rfl, Nat.le_of_ble_eq_true rfl⟩ ⟨rfl, rfl⟩ (Nat.zero_le _) (Nat.zero_le _) (zc_refuse_14_3 0 1 0 S0 n hn G_S0 (by omega) (by omega) (by omega)) (fun v143 S142 hP => ?_)
                                          obtain ⟨G_S142, fS142, o144, o145⟩ := hP
                                          have F_S142 := zz_fr.trans F_S0 fS142 rfl zz_nv
                                          have R_S142 : zz_Hr S142 := zz_Hr.fr fS142 rfl rfl (fun b j h => h.elim) R_S0
                                          rcases (by omega : v143 = 0 ∨ v143 = 1) with rfl | rfl
                                          · exfalso; omega
                                          · have e146 : S142 1079 0 = 2 := by omega
                                            refine zz_if_eq (by omega) zd_14_67_311 (fun c147 => ?_) (fun c147 => ?_)
                                            · exfalso; omega
                                            · refine zz_iconst zd_14_67_314 ?_
                                              have e148 : S142 1079 36 = S0 1079 36 := (zz_rc fS142 rfl rfl (fun h => h) rfl)
                                              exact zz_iret zd_14_67_315 rfl (Nat.zero_le _) (Nat.zero_le _) ⟨_, _, rfl, G_S142, F_S142, by omega, by omega, R_S142⟩
                                      · exfalso; omega
                                    · exfalso; omega
                                  · exfalso; omega
                                · exfalso; omega
                              · exfalso; omega
                            · exfalso; omega
                          · refine zz_if_eq (by omega) zd_14_67_121 (fun c149 => ?_) (fun c149 => ?_)
                            · exfalso; omega
                            · refine zz_iload (x := v17) rfl zd_14_67_124 ?_
                              refine zz_i2l (by omega) zd_14_67_126 ?_
                              refine zz_lconst (z := 0) (by decide) zd_14_67_127 ?_
                              refine zz_lconst (z := 1) (by decide) zd_14_67_128 ?_
                              refine zz_callSI [zl v17, zl 0, zl 1] zd_14_67_129 zk_Md_192 rfl rfl ⟨Nat.le_of_ble_eq_true rfl, Nat.le_of_ble_eq_true rfl⟩ ⟨rfl, rfl⟩ (Nat.zero_le _) (Nat.zero_le _) (zc_in_14_4 v17 0 1 S0 n hn G_S0 (by omega) (by omega) (by omega)) (fun v151 S150 hP => ?_)
                              obtain ⟨rfl, o152, o153⟩ := hP
                              rcases (by omega : v151 = 0 ∨ v151 = 1) with rfl | rfl
                              · refine zz_if_eq (by omega) zd_14_67_132 (fun c154 => ?_) (fun c154 => ?_)
                                · refine zz_iconst zd_14_67_152 ?_
                                  refine zz_istore [some (.ref 1079), some (zi p0), some (zi p1), some (zi p2), some (zi p3), some (zi p4), some (zi p5), some (zi v14), some (zi v15), some (zi v16), some (zi v17), some (zi 0)] zd_14_67_153 (by decide) rfl ?_
                                  refine zz_iload (x := 0) rfl zd_14_67_155 ?_
                                  refine zz_if_eq (by omega) zd_14_67_157 (fun c155 => ?_) (fun c155 => ?_)
                                  · refine zz_iconst zd_14_67_178 ?_
                                    refine zz_istore [some (.ref 1079), some (zi p0), some (zi p1), some (zi p2), some (zi p3), some (zi p4), some (zi p5), some (zi v14), some (zi v15), some (zi v16), some (zi v17), some (zi 0), some (zi 0)] zd_14_67_179 (by decide) rfl ?_
                                    refine zz_iload (x := 0) rfl zd_14_67_181 ?_
                                    refine zz_if_eq (by omega) zd_14_67_183 (fun c156 => ?_) (fun c156 => ?_)
                                    · refine zz_iconst zd_14_67_204 ?_
                                      refine zz_istore [some (.ref 1079), some (zi p0), some (zi p1), some (zi p2), some (zi p3), some (zi p4), some (zi p5), some (zi v14), some (zi v15), some (zi v16), some (zi v17), some (zi 0), some (zi 0), some (zi 0)] zd_14_67_205 (by decide) rfl ?_
                                      refine zz_iload (x := 0) rfl zd_14_67_207 ?_
                                      refine zz_if_eq (by omega) zd_14_67_209 (fun c157 => ?_) (fun c157 => ?_)
                                      · refine zz_lconst (z := 0) (by decide) zd_14_67_233 ?_
                                        refine zz_lstore [some (.ref 1079), some (zi p0), some (zi p1), some (zi p2), some (zi p3), some (zi p4), some (zi p5), some (zi v14), some (zi v15), some (zi v16), some (zi v17), some (zi 0), some (zi 0), some (zi 0), some (zl 0), none] zd_14_67_234 (by decide) rfl ?_
                                        refine zz_iload (x := 0) rfl zd_14_67_236 ?_
                                        refine zz_i2l (by omega) zd_14_67_238 ?_
                                        refine zz_lconst (z := 1) (by decide) zd_14_67_239 ?_
                                        refine zz_ldc2 (z := 63) zq_Md_399 (by decide) zd_14_67_240 ?_
                                        refine zz_callSI [zl 0, zl 1, zl 63] zd_14_67_243 zk_Md_192 rfl rfl ⟨Nat.le_of_ble_eq_true rfl, Nat.le_of_ble_eq_true rfl⟩ ⟨rfl, rfl⟩ (Nat.zero_le _) (Nat.zero_le _) (zc_in_14_4 0 1 63 S0 n hn G_S0 (by omega) (by omega) (by omega)) (fun v159 S158 hP => ?_)
                                        obtain ⟨rfl, o160, o161⟩ := hP
                                        rcases (by omega : v159 = 0 ∨ v159 = 1) with rfl | rfl
                                        · refine zz_if_eq (by omega) zd_14_67_246 (fun c162 => ?_) (fun c162 => ?_)
                                          · refine zz_iconst zd_14_67_292 ?_
                                            refine zz_istore [some (.ref 1079), some (zi p0), some (zi p1), some (zi p2), some (zi p3), some (zi p4), some (zi p5), some (zi v14), some (zi v15), some (zi v16), some (zi v17), some (zi 0), some (zi 0), some (zi 0), some (zl 0), none, some (zi 0)] zd_14_67_293 (by decide) rfl ?_
                                            refine zz_aload_n (x := 1079) rfl zd_14_67_295 ?_
                                            refine zz_iconst zd_14_67_296 ?_
                                            refine zz_iload (x := 0) rfl zd_14_67_297 ?_
                                            refine zz_if_ne (by omega) zd_14_67_299 (fun c163 => ?_) (fun c163 => ?_)
                                            · exfalso; omega
                                            · refine zz_iconst zd_14_67_302 ?_
                                              refine zz_goto zd_14_67_303 ?_
                                              refine zz_iconst zd_14_67_307 ?_
                                              refine zz_callVI [zi 0, zi 1, zi 0] zd_14_67_308 zk_Md_196 zT_1079 (zz_ltn hn rfl) rfl rfl ⟨Nat.le_of_ble_eq_true rfl, Nat.le_of_ble_eq_true rfl⟩ ⟨rfl, rfl⟩ (Nat.zero_le _) (Nat.zero_le _) (zc_refuse_14_3 0 1 0 S0 n hn G_S0 (by omega) (by omega) (by omega)) (fun v165 S164 hP => ?_)
                                              obtain ⟨G_S164, fS164, o166, o167⟩ := hP
                                              have F_S164 := zz_fr.trans F_S0 fS164 rfl zz_nv
                                              have R_S164 : zz_Hr S164 := zz_Hr.fr fS164 rfl rfl (fun b j h => h.elim) R_S0
                                              rcases (by omega : v165 = 0 ∨ v165 = 1) with rfl | rfl
                                              · exfalso; omega
                                              · have e168 : S164 1079 0 = 2 := by omega
                                                refine zz_if_eq (by omega) zd_14_67_311 (fun c169 => ?_) (fun c169 => ?_)
                                                · exfalso; omega
                                                · refine zz_iconst zd_14_67_314 ?_
                                                  have e170 : S164 1079 36 = S0 1079 36 := (zz_rc fS164 rfl rfl (fun h => h) rfl)
                                                  exact zz_iret zd_14_67_315 rfl (Nat.zero_le _) (Nat.zero_le _) ⟨_, _, rfl, G_S164, F_S164, by omega, by omega, R_S164⟩
                                          · exfalso; omega
                                        · exfalso; omega
                                      · exfalso; omega
                                    · exfalso; omega
                                  · exfalso; omega
                                · exfalso; omega
                              · refine zz_if_eq (by omega) zd_14_67_132 (fun c171 => ?_) (fun c171 => ?_)
                                · exfalso; omega
                                · refine zz_iload (x := p4) rfl zd_14_67_135 ?_
                                  refine zz_i2l (by omega) zd_14_67_137 ?_
                                  refine zz_lconst (z := 0) (by decide) zd_14_67_138 ?_
                                  refine zz_ldc2 (z := 31) zq_Md_357 (by decide) zd_14_67_139 ?_
                                  refine zz_callSI [zl p4, zl 0, zl 31] zd_14_67_142 zk_Md_192 rfl rfl ⟨Nat.le_of_ble_eq_true rfl, Nat.le_of_ble_eq_true rfl⟩ ⟨rfl, rfl⟩ (Nat.zero_le _) (Nat.zero_le _) (zc_in_14_4 p4 0 31 S0 n hn G_S0 (by omega) (by omega) (by omega)) (fun v173 S172 hP => ?_)
                                  obtain ⟨rfl, o174, o175⟩ := hP
                                  rcases (by omega : v173 = 0 ∨ v173 = 1) with rfl | rfl
                                  · refine zz_if_eq (by omega) zd_14_67_145 (fun c176 => ?_) (fun c176 => ?_)
                                    · refine zz_iconst zd_14_67_152 ?_
                                      refine zz_istore [some (.ref 1079), some (zi p0), some (zi p1), some (zi p2), some (zi p3), some (zi p4), some (zi p5), some (zi v14), some (zi v15), some (zi v16), some (zi v17), some (zi 0)] zd_14_67_153 (by decide) rfl ?_
                                      refine zz_iload (x := 0) rfl zd_14_67_155 ?_
                                      refine zz_if_eq (by omega) zd_14_67_157 (fun c177 => ?_) (fun c177 => ?_)
                                      · refine zz_iconst zd_14_67_178 ?_
                                        refine zz_istore [some (.ref 1079), some (zi p0), some (zi p1), some (zi p2), some (zi p3), some (zi p4), some (zi p5), some (zi v14), some (zi v15), some (zi v16), some (zi v17), some (zi 0), some (zi 0)] zd_14_67_179 (by decide) rfl ?_
                                        refine zz_iload (x := 0) rfl zd_14_67_181 ?_
                                        refine zz_if_eq (by omega) zd_14_67_183 (fun c178 => ?_) (fun c178 => ?_)
                                        · refine zz_iconst zd_14_67_204 ?_
                                          refine zz_istore [some (.ref 1079), some (zi p0), some (zi p1), some (zi p2), some (zi p3), some (zi p4), some (zi p5), some (zi v14), some (zi v15), some (zi v16), some (zi v17), some (zi 0), some (zi 0), some (zi 0)] zd_14_67_205 (by decide) rfl ?_
                                          refine zz_iload (x := 0) rfl zd_14_67_207 ?_
                                          refine zz_if_eq (by omega) zd_14_67_209 (fun c179 => ?_) (fun c179 => ?_)
                                          · refine zz_lconst (z := 0) (by decide) zd_14_67_233 ?_
                                            refine zz_lstore [some (.ref 1079), some (zi p0), some (zi p1), some (zi p2), some (zi p3), some (zi p4), some (zi p5), some (zi v14), some (zi v15), some (zi v16), some (zi v17), some (zi 0), some (zi 0), some (zi 0), some (zl 0), none] zd_14_67_234 (by decide) rfl ?_
                                            refine zz_iload (x := 0) rfl zd_14_67_236 ?_
                                            refine zz_i2l (by omega) zd_14_67_238 ?_
                                            refine zz_lconst (z := 1) (by decide) zd_14_67_239 ?_
                                            refine zz_ldc2 (z := 63) zq_Md_399 (by decide) zd_14_67_240 ?_
                                            refine zz_callSI [zl 0, zl 1, zl 63] zd_14_67_243 zk_Md_192 rfl rfl ⟨Nat.le_of_ble_eq_true rfl, Nat.le_of_ble_eq_true rfl⟩ ⟨rfl, rfl⟩ (Nat.zero_le _) (Nat.zero_le _) (zc_in_14_4 0 1 63 S0 n hn G_S0 (by omega) (by omega) (by omega)) (fun v181 S180 hP => ?_)
                                            obtain ⟨rfl, o182, o183⟩ := hP
                                            rcases (by omega : v181 = 0 ∨ v181 = 1) with rfl | rfl
                                            · refine zz_if_eq (by omega) zd_14_67_246 (fun c184 => ?_) (fun c184 => ?_)
                                              · refine zz_iconst zd_14_67_292 ?_
                                                refine zz_istore [some (.ref 1079), some (zi p0), some (zi p1), some (zi p2), some (zi p3), some (zi p4), some (zi p5), some (zi v14), some (zi v15), some (zi v16), some (zi v17), some (zi 0), some (zi 0), some (zi 0), some (zl 0), none, some (zi 0)] zd_14_67_293 (by decide) rfl ?_
                                                refine zz_aload_n (x := 1079) rfl zd_14_67_295 ?_
                                                refine zz_iconst zd_14_67_296 ?_
                                                refine zz_iload (x := 0) rfl zd_14_67_297 ?_
                                                refine zz_if_ne (by omega) zd_14_67_299 (fun c185 => ?_) (fun c185 => ?_)
                                                · exfalso; omega
                                                · refine zz_iconst zd_14_67_302 ?_
                                                  refine zz_goto zd_14_67_303 ?_
                                                  refine zz_iconst zd_14_67_307 ?_
                                                  refine zz_callVI [zi 0, zi 1, zi 0] zd_14_67_308 zk_Md_196 zT_1079 (zz_ltn hn rfl) rfl rfl ⟨Nat.le_of_ble_eq_true rfl, Nat.le_of_ble_eq_true rfl⟩ ⟨rfl, rfl⟩ (Nat.zero_le _) (Nat.zero_le _) (zc_refuse_14_3 0 1 0 S0 n hn G_S0 (by omega) (by omega) (by omega)) (fun v187 S186 hP => ?_)
                                                  obtain ⟨G_S186, fS186, o188, o189⟩ := hP
                                                  have F_S186 := zz_fr.trans F_S0 fS186 rfl zz_nv
                                                  have R_S186 : zz_Hr S186 := zz_Hr.fr fS186 rfl rfl (fun b j h => h.elim) R_S0
                                                  rcases (by omega : v187 = 0 ∨ v187 = 1) with rfl | rfl
                                                  · exfalso; omega
                                                  · have e190 : S186 1079 0 = 2 := by omega
                                                    refine zz_if_eq (by omega) zd_14_67_311 (fun c191 => ?_) (fun c191 => ?_)
                                                    · exfalso; omega
                                                    · refine zz_iconst zd_14_67_314 ?_
                                                      have e192 : S186 1079 36 = S0 1079 36 := (zz_rc fS186 rfl rfl (fun h => h) rfl)
                                                      exact zz_iret zd_14_67_315 rfl (Nat.zero_le _) (Nat.zero_le _) ⟨_, _, rfl, G_S186, F_S186, by omega, by omega, R_S186⟩
                                              · exfalso; omega
                                            · exfalso; omega
                                          · exfalso; omega
                                        · exfalso; omega
                                      · exfalso; omega
                                    · exfalso; omega
                                  · refine zz_if_eq (by omega) zd_14_67_145 (fun c193 => ?_) (fun c193 => ?_)
                                    · exfalso; omega
                                    · refine zz_iconst zd_14_67_148 ?_
                                      refine zz_goto zd_14_67_149 ?_
                                      refine zz_istore [some (.ref 1079), some (zi p0), some (zi p1), some (zi p2), some (zi p3), some (zi p4), some (zi p5), some (zi v14), some (zi v15), some (zi v16), some (zi v17), some (zi 1)] zd_14_67_153 (by decide) rfl ?_
                                      refine zz_iload (x := 1) rfl zd_14_67_155 ?_
                                      refine zz_if_eq (by omega) zd_14_67_157 (fun c194 => ?_) (fun c194 => ?_)
                                      · exfalso; omega
                                      · refine zz_aload_n (x := 1079) rfl zd_14_67_160 ?_
                                        refine zz_getr (kd := 0) (z := 1102) zd_14_67_161 zf_Md_88 zT_1079 rfl (zz_ltn hn rfl) (zz_G.eq G_S0 1079 37 1102 rfl rfl) (by decide) 1102 rfl ?_
                                        refine zz_iload_n (x := p0) rfl zd_14_67_164 ?_
                                        have g195 := zz_G.r G_S0 1102 p0.toNat 0 63 rfl rfl
                                        refine zz_iald (z := S0 1102 p0.toNat) zd_14_67_165 zT_1102 rfl (zz_ltn hn rfl) (by decide) (by omega) rfl ?_
                                        refine zz_iload (x := v14) rfl zd_14_67_166 ?_
                                        refine zz_iload (x := v16) rfl zd_14_67_168 ?_
                                        refine zz_iload (x := v17) rfl zd_14_67_170 ?_
                                        refine zz_callSI [zi (S0 1102 p0.toNat), zi v14, zi v16, zi v17] zd_14_67_172 zk_Md_420 rfl rfl ⟨Nat.le_of_ble_eq_true rfl, Nat.le_of_ble_eq_true rfl⟩ ⟨rfl, rfl⟩ (Nat.zero_le _) (Nat.zero_le _) (zc_resultsOf_14_64 (S0 1102 p0.toNat) v14 v16 v17 S0 n hn G_S0 (by omega) (by omega) (by omega) (by omega)) (fun v197 S196 hP => ?_)
                                        obtain ⟨rfl, o198, o199, o200⟩ := hP
                                        refine zz_goto zd_14_67_175 ?_
                                        refine zz_istore [some (.ref 1079), some (zi p0), some (zi p1), some (zi p2), some (zi p3), some (zi p4), some (zi p5), some (zi v14), some (zi v15), some (zi v16), some (zi v17), some (zi 1), some (zi v197)] zd_14_67_179 (by decide) rfl ?_
                                        refine zz_iload (x := 1) rfl zd_14_67_181 ?_
                                        refine zz_if_eq (by omega) zd_14_67_183 (fun c201 => ?_) (fun c201 => ?_)
                                        · exfalso; omega
                                        · refine zz_aload_n (x := 1079) rfl zd_14_67_186 ?_
                                          refine zz_getr (kd := 0) (z := 1103) zd_14_67_187 zf_Md_91 zT_1079 rfl (zz_ltn hn rfl) (zz_G.eq G_S0 1079 38 1103 rfl rfl) (by decide) 1103 rfl ?_
                                          refine zz_iload_n (x := p0) rfl zd_14_67_190 ?_
                                          have g202 := zz_G.r G_S0 1103 p0.toNat 0 63 rfl rfl
                                          refine zz_iald (z := S0 1103 p0.toNat) zd_14_67_191 zT_1103 rfl (zz_ltn hn rfl) (by decide) (by omega) rfl ?_
                                          refine zz_iload (x := v15) rfl zd_14_67_192 ?_
                                          refine zz_iload (x := v16) rfl zd_14_67_194 ?_
                                          refine zz_iload (x := v17) rfl zd_14_67_196 ?_
                                          refine zz_callSI [zi (S0 1103 p0.toNat), zi v15, zi v16, zi v17] zd_14_67_198 zk_Md_420 rfl rfl ⟨Nat.le_of_ble_eq_true rfl, Nat.le_of_ble_eq_true rfl⟩ ⟨rfl, rfl⟩ (Nat.zero_le _) (Nat.zero_le _) (zc_resultsOf_14_64 (S0 1103 p0.toNat) v15 v16 v17 S0 n hn G_S0 (by omega) (by omega) (by omega) (by omega)) (fun v204 S203 hP => ?_)
                                          obtain ⟨rfl, o205, o206, o207⟩ := hP
                                          refine zz_goto zd_14_67_201 ?_
                                          refine zz_istore [some (.ref 1079), some (zi p0), some (zi p1), some (zi p2), some (zi p3), some (zi p4), some (zi p5), some (zi v14), some (zi v15), some (zi v16), some (zi v17), some (zi 1), some (zi v197), some (zi v204)] zd_14_67_205 (by decide) rfl ?_
                                          refine zz_iload (x := 1) rfl zd_14_67_207 ?_
                                          refine zz_if_eq (by omega) zd_14_67_209 (fun c208 => ?_) (fun c208 => ?_)
                                          · exfalso; omega
                                          · refine zz_iload_n (x := p2) rfl zd_14_67_212 ?_
                                            refine zz_i2l (by omega) zd_14_67_213 ?_
                                            refine zz_iconst zd_14_67_214 ?_
                                            refine zz_iload (x := v14) rfl zd_14_67_215 ?_
                                            refine zz_iload (x := v15) rfl zd_14_67_217 ?_
                                            refine zz_imul zd_14_67_219 ?_
                                            have m209 := zz_mulb (a := v14) (b := v15) 3 3 9 (by omega) (by omega) (by decide)
                                            refine zz_aload_n (x := 1079) rfl zd_14_67_220 ?_
                                            refine zz_getr (kd := 0) (z := 1104) zd_14_67_221 zf_Md_94 zT_1079 rfl (zz_ltn hn rfl) (zz_G.eq G_S0 1079 39 1104 rfl rfl) (by decide) 1104 rfl ?_
                                            refine zz_iload_n (x := p0) rfl zd_14_67_224 ?_
                                            have g210 := zz_G.r G_S0 1104 p0.toNat 0 63 rfl rfl
                                            refine zz_iald (z := S0 1104 p0.toNat) zd_14_67_225 zT_1104 rfl (zz_ltn hn rfl) (by decide) (by omega) rfl ?_
                                            refine zz_imul zd_14_67_226 ?_
                                            have m211 := zz_mulb (a := v14 * v15) (b := S0 1104 p0.toNat) 9 63 567 (by omega) (by omega) (by decide)
                                            refine zz_iadd zd_14_67_227 ?_
                                            refine zz_i2l (by omega) zd_14_67_228 ?_
                                            refine zz_lmul zd_14_67_229 ?_
                                            have m212 := zz_mulb (a := p2) (b := 4 + ((v14 * v15) * (S0 1104 p0.toNat))) 16 571 9136 (by omega) (by omega) (by decide)
                                            refine zz_goto zd_14_67_230 ?_
                                            refine zz_lstore [some (.ref 1079), some (zi p0), some (zi p1), some (zi p2), some (zi p3), some (zi p4), some (zi p5), some (zi v14), some (zi v15), some (zi v16), some (zi v17), some (zi 1), some (zi v197), some (zi v204), some (zl (p2 * (4 + ((v14 * v15) * (S0 1104 p0.toNat))))), none] zd_14_67_234 (by decide) rfl ?_
                                            refine zz_iload (x := v197) rfl zd_14_67_236 ?_
                                            refine zz_i2l (by omega) zd_14_67_238 ?_
                                            refine zz_lconst (z := 1) (by decide) zd_14_67_239 ?_
                                            refine zz_ldc2 (z := 63) zq_Md_399 (by decide) zd_14_67_240 ?_
                                            refine zz_callSI [zl v197, zl 1, zl 63] zd_14_67_243 zk_Md_192 rfl rfl ⟨Nat.le_of_ble_eq_true rfl, Nat.le_of_ble_eq_true rfl⟩ ⟨rfl, rfl⟩ (Nat.zero_le _) (Nat.zero_le _) (zc_in_14_4 v197 1 63 S0 n hn G_S0 (by omega) (by omega) (by omega)) (fun v214 S213 hP => ?_)
                                            obtain ⟨rfl, o215, o216⟩ := hP
                                            rcases (by omega : v214 = 0 ∨ v214 = 1) with rfl | rfl
                                            · refine zz_if_eq (by omega) zd_14_67_246 (fun c217 => ?_) (fun c217 => ?_)
                                              · refine zz_iconst zd_14_67_292 ?_
                                                refine zz_istore [some (.ref 1079), some (zi p0), some (zi p1), some (zi p2), some (zi p3), some (zi p4), some (zi p5), some (zi v14), some (zi v15), some (zi v16), some (zi v17), some (zi 1), some (zi v197), some (zi v204), some (zl (p2 * (4 + ((v14 * v15) * (S0 1104 p0.toNat))))), none, some (zi 0)] zd_14_67_293 (by decide) rfl ?_
                                                refine zz_aload_n (x := 1079) rfl zd_14_67_295 ?_
                                                refine zz_iconst zd_14_67_296 ?_
                                                refine zz_iload (x := 0) rfl zd_14_67_297 ?_
                                                refine zz_if_ne (by omega) zd_14_67_299 (fun c218 => ?_) (fun c218 => ?_)
                                                · exfalso; omega
                                                · refine zz_iconst zd_14_67_302 ?_
                                                  refine zz_goto zd_14_67_303 ?_
                                                  refine zz_iconst zd_14_67_307 ?_
                                                  refine zz_callVI [zi 0, zi 1, zi 0] zd_14_67_308 zk_Md_196 zT_1079 (zz_ltn hn rfl) rfl rfl ⟨Nat.le_of_ble_eq_true rfl, Nat.le_of_ble_eq_true rfl⟩ ⟨rfl, rfl⟩ (Nat.zero_le _) (Nat.zero_le _) (zc_refuse_14_3 0 1 0 S0 n hn G_S0 (by omega) (by omega) (by omega)) (fun v220 S219 hP => ?_)
                                                  obtain ⟨G_S219, fS219, o221, o222⟩ := hP
                                                  have F_S219 := zz_fr.trans F_S0 fS219 rfl zz_nv
                                                  have R_S219 : zz_Hr S219 := zz_Hr.fr fS219 rfl rfl (fun b j h => h.elim) R_S0
                                                  rcases (by omega : v220 = 0 ∨ v220 = 1) with rfl | rfl
                                                  · exfalso; omega
                                                  · have e223 : S219 1079 0 = 2 := by omega
                                                    refine zz_if_eq (by omega) zd_14_67_311 (fun c224 => ?_) (fun c224 => ?_)
                                                    · exfalso; omega
                                                    · refine zz_iconst zd_14_67_314 ?_
                                                      have e225 : S219 1079 36 = S0 1079 36 := (zz_rc fS219 rfl rfl (fun h => h) rfl)
                                                      exact zz_iret zd_14_67_315 rfl (Nat.zero_le _) (Nat.zero_le _) ⟨_, _, rfl, G_S219, F_S219, by omega, by omega, R_S219⟩
                                              · exfalso; omega
                                            · refine zz_if_eq (by omega) zd_14_67_246 (fun c226 => ?_) (fun c226 => ?_)
                                              · exfalso; omega
                                              · refine zz_iload (x := v204) rfl zd_14_67_249 ?_
                                                refine zz_i2l (by omega) zd_14_67_251 ?_
                                                refine zz_lconst (z := 1) (by decide) zd_14_67_252 ?_
                                                refine zz_ldc2 (z := 63) zq_Md_399 (by decide) zd_14_67_253 ?_
                                                refine zz_callSI [zl v204, zl 1, zl 63] zd_14_67_256 zk_Md_192 rfl rfl ⟨Nat.le_of_ble_eq_true rfl, Nat.le_of_ble_eq_true rfl⟩ ⟨rfl, rfl⟩ (Nat.zero_le _) (Nat.zero_le _) (zc_in_14_4 v204 1 63 S0 n hn G_S0 (by omega) (by omega) (by omega)) (fun v228 S227 hP => ?_)
                                                obtain ⟨rfl, o229, o230⟩ := hP
                                                rcases (by omega : v228 = 0 ∨ v228 = 1) with rfl | rfl
                                                · refine zz_if_eq (by omega) zd_14_67_259 (fun c231 => ?_) (fun c231 => ?_)
                                                  · refine zz_iconst zd_14_67_292 ?_
                                                    refine zz_istore [some (.ref 1079), some (zi p0), some (zi p1), some (zi p2), some (zi p3), some (zi p4), some (zi p5), some (zi v14), some (zi v15), some (zi v16), some (zi v17), some (zi 1), some (zi v197), some (zi v204), some (zl (p2 * (4 + ((v14 * v15) * (S0 1104 p0.toNat))))), none, some (zi 0)] zd_14_67_293 (by decide) rfl ?_
                                                    refine zz_aload_n (x := 1079) rfl zd_14_67_295 ?_
                                                    refine zz_iconst zd_14_67_296 ?_
                                                    refine zz_iload (x := 0) rfl zd_14_67_297 ?_
                                                    refine zz_if_ne (by omega) zd_14_67_299 (fun c232 => ?_) (fun c232 => ?_)
                                                    · exfalso; omega
                                                    · refine zz_iconst zd_14_67_302 ?_
                                                      refine zz_goto zd_14_67_303 ?_
                                                      refine zz_iconst zd_14_67_307 ?_
                                                      refine zz_callVI [zi 0, zi 1, zi 0] zd_14_67_308 zk_Md_196 zT_1079 (zz_ltn hn rfl) rfl rfl ⟨Nat.le_of_ble_eq_true rfl, Nat.le_of_ble_eq_true rfl⟩ ⟨rfl, rfl⟩ (Nat.zero_le _) (Nat.zero_le _) (zc_refuse_14_3 0 1 0 S0 n hn G_S0 (by omega) (by omega) (by omega)) (fun v234 S233 hP => ?_)
                                                      obtain ⟨G_S233, fS233, o235, o236⟩ := hP
                                                      have F_S233 := zz_fr.trans F_S0 fS233 rfl zz_nv
                                                      have R_S233 : zz_Hr S233 := zz_Hr.fr fS233 rfl rfl (fun b j h => h.elim) R_S0
                                                      rcases (by omega : v234 = 0 ∨ v234 = 1) with rfl | rfl
                                                      · exfalso; omega
                                                      · have e237 : S233 1079 0 = 2 := by omega
                                                        refine zz_if_eq (by omega) zd_14_67_311 (fun c238 => ?_) (fun c238 => ?_)
                                                        · exfalso; omega
                                                        · refine zz_iconst zd_14_67_314 ?_
                                                          have e239 : S233 1079 36 = S0 1079 36 := (zz_rc fS233 rfl rfl (fun h => h) rfl)
                                                          exact zz_iret zd_14_67_315 rfl (Nat.zero_le _) (Nat.zero_le _) ⟨_, _, rfl, G_S233, F_S233, by omega, by omega, R_S233⟩
                                                  · exfalso; omega
                                                · refine zz_if_eq (by omega) zd_14_67_259 (fun c240 => ?_) (fun c240 => ?_)
                                                  · exfalso; omega
                                                  · refine zz_iload (x := p5) rfl zd_14_67_262 ?_
                                                    refine zz_i2l (by omega) zd_14_67_264 ?_
                                                    refine zz_lconst (z := 0) (by decide) zd_14_67_265 ?_
                                                    refine zz_ldc2 (z := 4096) zq_Md_424 (by decide) zd_14_67_266 ?_
                                                    refine zz_callSI [zl p5, zl 0, zl 4096] zd_14_67_269 zk_Md_192 rfl rfl ⟨Nat.le_of_ble_eq_true rfl, Nat.le_of_ble_eq_true rfl⟩ ⟨rfl, rfl⟩ (Nat.zero_le _) (Nat.zero_le _) (zc_in_14_4 p5 0 4096 S0 n hn G_S0 (by omega) (by omega) (by omega)) (fun v242 S241 hP => ?_)
                                                    obtain ⟨rfl, o243, o244⟩ := hP
                                                    rcases (by omega : v242 = 0 ∨ v242 = 1) with rfl | rfl
                                                    · refine zz_if_eq (by omega) zd_14_67_272 (fun c245 => ?_) (fun c245 => ?_)
                                                      · refine zz_iconst zd_14_67_292 ?_
                                                        refine zz_istore [some (.ref 1079), some (zi p0), some (zi p1), some (zi p2), some (zi p3), some (zi p4), some (zi p5), some (zi v14), some (zi v15), some (zi v16), some (zi v17), some (zi 1), some (zi v197), some (zi v204), some (zl (p2 * (4 + ((v14 * v15) * (S0 1104 p0.toNat))))), none, some (zi 0)] zd_14_67_293 (by decide) rfl ?_
                                                        refine zz_aload_n (x := 1079) rfl zd_14_67_295 ?_
                                                        refine zz_iconst zd_14_67_296 ?_
                                                        refine zz_iload (x := 0) rfl zd_14_67_297 ?_
                                                        refine zz_if_ne (by omega) zd_14_67_299 (fun c246 => ?_) (fun c246 => ?_)
                                                        · exfalso; omega
                                                        · refine zz_iconst zd_14_67_302 ?_
                                                          refine zz_goto zd_14_67_303 ?_
                                                          refine zz_iconst zd_14_67_307 ?_
                                                          refine zz_callVI [zi 0, zi 1, zi 0] zd_14_67_308 zk_Md_196 zT_1079 (zz_ltn hn rfl) rfl rfl ⟨Nat.le_of_ble_eq_true rfl, Nat.le_of_ble_eq_true rfl⟩ ⟨rfl, rfl⟩ (Nat.zero_le _) (Nat.zero_le _) (zc_refuse_14_3 0 1 0 S0 n hn G_S0 (by omega) (by omega) (by omega)) (fun v248 S247 hP => ?_)
                                                          obtain ⟨G_S247, fS247, o249, o250⟩ := hP
                                                          have F_S247 := zz_fr.trans F_S0 fS247 rfl zz_nv
                                                          have R_S247 : zz_Hr S247 := zz_Hr.fr fS247 rfl rfl (fun b j h => h.elim) R_S0
                                                          rcases (by omega : v248 = 0 ∨ v248 = 1) with rfl | rfl
                                                          · exfalso; omega
                                                          · have e251 : S247 1079 0 = 2 := by omega
                                                            refine zz_if_eq (by omega) zd_14_67_311 (fun c252 => ?_) (fun c252 => ?_)
                                                            · exfalso; omega
                                                            · refine zz_iconst zd_14_67_314 ?_
                                                              have e253 : S247 1079 36 = S0 1079 36 := (zz_rc fS247 rfl rfl (fun h => h) rfl)
                                                              exact zz_iret zd_14_67_315 rfl (Nat.zero_le _) (Nat.zero_le _) ⟨_, _, rfl, G_S247, F_S247, by omega, by omega, R_S247⟩
                                                      · exfalso; omega
                                                    · refine zz_if_eq (by omega) zd_14_67_272 (fun c254 => ?_) (fun c254 => ?_)
                                                      · exfalso; omega
                                                      · refine zz_iload (x := p5) rfl zd_14_67_275 ?_
                                                        refine zz_i2l (by omega) zd_14_67_277 ?_
                                                        refine zz_lload (x := p2 * (4 + ((v14 * v15) * (S0 1104 p0.toNat)))) rfl zd_14_67_278 ?_
                                                        refine zz_ladd zd_14_67_280 ?_
                                                        refine zz_nmel (fun v255 ev255 => ?_)
                                                        refine zz_ldc2 (z := 4096) zq_Md_424 (by decide) zd_14_67_281 ?_
                                                        refine zz_lcmp (by omega) (by omega) zd_14_67_284 (fun v256 hv256 => ?_)
                                                        refine zz_if_gt (by omega) zd_14_67_285 (fun c257 => ?_) (fun c257 => ?_)
                                                        · refine zz_iconst zd_14_67_292 ?_
                                                          refine zz_istore [some (.ref 1079), some (zi p0), some (zi p1), some (zi p2), some (zi p3), some (zi p4), some (zi p5), some (zi v14), some (zi v15), some (zi v16), some (zi v17), some (zi 1), some (zi v197), some (zi v204), some (zl (p2 * (4 + ((v14 * v15) * (S0 1104 p0.toNat))))), none, some (zi 0)] zd_14_67_293 (by decide) rfl ?_
                                                          refine zz_aload_n (x := 1079) rfl zd_14_67_295 ?_
                                                          refine zz_iconst zd_14_67_296 ?_
                                                          refine zz_iload (x := 0) rfl zd_14_67_297 ?_
                                                          refine zz_if_ne (by omega) zd_14_67_299 (fun c258 => ?_) (fun c258 => ?_)
                                                          · exfalso; omega
                                                          · refine zz_iconst zd_14_67_302 ?_
                                                            refine zz_goto zd_14_67_303 ?_
                                                            refine zz_iconst zd_14_67_307 ?_
                                                            refine zz_callVI [zi 0, zi 1, zi 0] zd_14_67_308 zk_Md_196 zT_1079 (zz_ltn hn rfl) rfl rfl ⟨Nat.le_of_ble_eq_true rfl, Nat.le_of_ble_eq_true rfl⟩ ⟨rfl, rfl⟩ (Nat.zero_le _) (Nat.zero_le _) (zc_refuse_14_3 0 1 0 S0 n hn G_S0 (by omega) (by omega) (by omega)) (fun v260 S259 hP => ?_)
                                                            obtain ⟨G_S259, fS259, o261, o262⟩ := hP
                                                            have F_S259 := zz_fr.trans F_S0 fS259 rfl zz_nv
                                                            have R_S259 : zz_Hr S259 := zz_Hr.fr fS259 rfl rfl (fun b j h => h.elim) R_S0
                                                            rcases (by omega : v260 = 0 ∨ v260 = 1) with rfl | rfl
                                                            · exfalso; omega
                                                            · have e263 : S259 1079 0 = 2 := by omega
                                                              refine zz_if_eq (by omega) zd_14_67_311 (fun c264 => ?_) (fun c264 => ?_)
                                                              · exfalso; omega
                                                              · refine zz_iconst zd_14_67_314 ?_
                                                                have e265 : S259 1079 36 = S0 1079 36 := (zz_rc fS259 rfl rfl (fun h => h) rfl)
                                                                exact zz_iret zd_14_67_315 rfl (Nat.zero_le _) (Nat.zero_le _) ⟨_, _, rfl, G_S259, F_S259, by omega, by omega, R_S259⟩
                                                        · refine zz_iconst zd_14_67_288 ?_
                                                          refine zz_goto zd_14_67_289 ?_
                                                          refine zz_istore [some (.ref 1079), some (zi p0), some (zi p1), some (zi p2), some (zi p3), some (zi p4), some (zi p5), some (zi v14), some (zi v15), some (zi v16), some (zi v17), some (zi 1), some (zi v197), some (zi v204), some (zl (p2 * (4 + ((v14 * v15) * (S0 1104 p0.toNat))))), none, some (zi 1)] zd_14_67_293 (by decide) rfl ?_
                                                          refine zz_aload_n (x := 1079) rfl zd_14_67_295 ?_
                                                          refine zz_iconst zd_14_67_296 ?_
                                                          refine zz_iload (x := 1) rfl zd_14_67_297 ?_
                                                          refine zz_if_ne (by omega) zd_14_67_299 (fun c266 => ?_) (fun c266 => ?_)
                                                          · refine zz_iconst zd_14_67_306 ?_
                                                            refine zz_iconst zd_14_67_307 ?_
                                                            refine zz_callVI [zi 0, zi 0, zi 0] zd_14_67_308 zk_Md_196 zT_1079 (zz_ltn hn rfl) rfl rfl ⟨Nat.le_of_ble_eq_true rfl, Nat.le_of_ble_eq_true rfl⟩ ⟨rfl, rfl⟩ (Nat.zero_le _) (Nat.zero_le _) (zc_refuse_14_3 0 0 0 S0 n hn G_S0 (by omega) (by omega) (by omega)) (fun v268 S267 hP => ?_)
                                                            obtain ⟨G_S267, fS267, o269, o270⟩ := hP
                                                            have F_S267 := zz_fr.trans F_S0 fS267 rfl zz_nv
                                                            have R_S267 : zz_Hr S267 := zz_Hr.fr fS267 rfl rfl (fun b j h => h.elim) R_S0
                                                            rcases (by omega : v268 = 0 ∨ v268 = 1) with rfl | rfl
                                                            · have e271 : S267 1079 0 = 0 := by omega
                                                              refine zz_if_eq (by omega) zd_14_67_311 (fun c272 => ?_) (fun c272 => ?_)
                                                              · refine zz_aload_n (x := 1079) rfl zd_14_67_316 ?_
                                                                refine zz_geti (z := S0 1079 36) zd_14_67_317 zf_Md_85 zT_1079 rfl (zz_ltn hn rfl) (zz_rc fS267 rfl rfl (fun h => h) rfl) ?_
                                                                refine zz_iconst zd_14_67_320 ?_
                                                                refine zz_isub zd_14_67_321 ?_
                                                                refine zz_istore [some (.ref 1079), some (zi p0), some (zi p1), some (zi p2), some (zi p3), some (zi p4), some (zi p5), some (zi v14), some (zi v15), some (zi v16), some (zi v17), some (zi 1), some (zi v197), some (zi v204), some (zl (p2 * (4 + ((v14 * v15) * (S0 1104 p0.toNat))))), none, some (zi 1), some (zi ((S0 1079 36) - 1))] zd_14_67_322 (by decide) rfl ?_
                                                                refine zz_aload_n (x := 1079) rfl zd_14_67_324 ?_
                                                                refine zz_iconst zd_14_67_325 ?_
                                                                refine zz_iload_n (x := p0) rfl zd_14_67_326 ?_
                                                                refine zz_iload (x := v197) rfl zd_14_67_327 ?_
                                                                refine zz_iload (x := v204) rfl zd_14_67_329 ?_
                                                                refine zz_iload_n (x := p2) rfl zd_14_67_331 ?_
                                                                have e273 : S267 1079 36 = S0 1079 36 := (zz_rc fS267 rfl rfl (fun h => h) rfl)
                                                                have g274 := zz_G.r G_S0 1105 ((S267 1079 36).toNat) (0) (if (S267 1079 36).toNat = 0 then 0 else 10000000) rfl rfl
                                                                have e275 : S267 1105 (S267 1079 36).toNat = S0 1105 (S267 1079 36).toNat := (zz_rc fS267 (zz_nc1 rfl) rfl (fun h => h) rfl)
                                                                refine zz_callVI [zi 0, zi p0, zi v197, zi v204, zi p2] zd_14_67_332 zk_Md_426 zT_1079 (zz_ltn hn rfl) rfl rfl ⟨Nat.le_of_ble_eq_true rfl, Nat.le_of_ble_eq_true rfl⟩ ⟨rfl, rfl⟩ (Nat.zero_le _) (Nat.zero_le _) (zc_add_14_65 0 p0 v197 v204 p2 S267 n hn G_S267 (by omega) (by omega) (by omega) (by omega) (by omega) (by omega)) (fun v277 S276 hP => ?_)
                                                                obtain ⟨G_S276, fS276, o278, o279, o280, o281⟩ := hP
                                                                rw [show S267 1079 36 = S0 1079 36 from (zz_rc fS267 rfl rfl (fun h => h) rfl)] at o279
                                                                rw [show S267 1079 36 = S0 1079 36 from (zz_rc fS267 rfl rfl (fun h => h) rfl)] at o281
                                                                rw [show S267 1079 36 = S0 1079 36 from (zz_rc fS267 rfl rfl (fun h => h) rfl)] at fS276
                                                                have F_S276 := zz_fr.trans F_S267 fS276 rfl (fun a i h => by rcases h with h | h | h | h | h | h; exact Or.inr (Or.inr (Or.inl h)); exact Or.inr (Or.inr (Or.inr (Or.inl h))); exact Or.inr (Or.inr (Or.inr (Or.inr (Or.inl h)))); exact Or.inr (Or.inr (Or.inr (Or.inr (Or.inr (Or.inl h))))); exact Or.inr (Or.inr (Or.inr (Or.inr (Or.inr (Or.inr (Or.inl h)))))); exact Or.inr (Or.inr (Or.inr (Or.inr (Or.inr (Or.inr (Or.inr (Or.inl h))))))))
                                                                refine zz_istore [some (.ref 1079), some (zi p0), some (zi p1), some (zi p2), some (zi p3), some (zi p4), some (zi p5), some (zi v14), some (zi v15), some (zi v16), some (zi v17), some (zi 1), some (zi v197), some (zi v204), some (zl (p2 * (4 + ((v14 * v15) * (S0 1104 p0.toNat))))), none, some (zi 1), some (zi ((S0 1079 36) - 1)), some (zi v277)] zd_14_67_335 (by decide) rfl ?_
                                                                refine zz_aload_n (x := 1079) rfl zd_14_67_337 ?_
                                                                have g282 := zz_G.r G_S276 1079 0 0 3 rfl rfl
                                                                refine zz_geti (z := S276 1079 0) zd_14_67_338 zf_Md_187 zT_1079 rfl (zz_ltn hn rfl) rfl ?_
                                                                refine zz_if_le (by omega) zd_14_67_341 (fun c283 => ?_) (fun c283 => ?_)
                                                                · refine zz_aload_n (x := 1079) rfl zd_14_67_346 ?_
                                                                  refine zz_iload (x := (S0 1079 36) - 1) rfl zd_14_67_347 ?_
                                                                  refine zz_iload (x := v14) rfl zd_14_67_349 ?_
                                                                  refine zz_iload (x := v15) rfl zd_14_67_351 ?_
                                                                  refine zz_iload (x := v16) rfl zd_14_67_353 ?_
                                                                  refine zz_iload (x := v17) rfl zd_14_67_355 ?_
                                                                  refine zz_iload (x := p4) rfl zd_14_67_357 ?_
                                                                  refine zz_callVV [zi ((S0 1079 36) - 1), zi v14, zi v15, zi v16, zi v17, zi p4] zd_14_67_359 zk_Md_430 zT_1079 (zz_ltn hn rfl) rfl rfl ⟨Nat.le_of_ble_eq_true rfl, Nat.le_of_ble_eq_true rfl⟩ ⟨rfl, rfl⟩ (Nat.zero_le _) (Nat.zero_le _) (zc_setLayer_14_68 ((S0 1079 36) - 1) v14 v15 v16 v17 p4 S276 n hn G_S276 (by omega) (by omega) (by omega) (by omega) (by omega) (by omega)) (fun S284 hP => ?_)
                                                                  obtain ⟨G_S284, fS284, o286⟩ := hP
                                                                  have F_S284 := zz_fr.trans F_S276 fS284 rfl (fun a i h => by rcases h with h | h | h | h | h; exact Or.inr (Or.inr (Or.inr (Or.inr (Or.inr (Or.inr (Or.inr (Or.inr (Or.inl h)))))))); exact Or.inr (Or.inr (Or.inr (Or.inr (Or.inr (Or.inr (Or.inr (Or.inr (Or.inr (Or.inl h))))))))); exact Or.inr (Or.inr (Or.inr (Or.inr (Or.inr (Or.inr (Or.inr (Or.inr (Or.inr (Or.inr (Or.inl h)))))))))); exact Or.inr (Or.inr (Or.inr (Or.inr (Or.inr (Or.inr (Or.inr (Or.inr (Or.inr (Or.inr (Or.inr (Or.inl h))))))))))); exact Or.inr (Or.inr (Or.inr (Or.inr (Or.inr (Or.inr (Or.inr (Or.inr (Or.inr (Or.inr (Or.inr (Or.inr (Or.inl h)))))))))))))
                                                                  refine zz_aload_n (x := 1079) rfl zd_14_67_362 ?_
                                                                  refine zz_getr (kd := 0) (z := 1114) zd_14_67_363 zf_Md_124 zT_1079 rfl (zz_ltn hn rfl) (zz_G.eq G_S284 1079 49 1114 rfl rfl) (by decide) 1114 rfl ?_
                                                                  refine zz_iload (x := (S0 1079 36) - 1) rfl zd_14_67_366 ?_
                                                                  refine zz_iload (x := p5) rfl zd_14_67_368 ?_
                                                                  refine zz_iast zd_14_67_370 zT_1114 rfl (zz_ltn hn rfl) (by decide) (by omega) (fun S287 qS287 => ?_)
                                                                  have G_S287 := zz_G.put G_S284 qS287 0 4096 rfl (by omega)
                                                                  have F_S287 := zz_fr.putv F_S284 qS287 (Or.inr (Or.inr (Or.inr (Or.inr (Or.inr (Or.inr (Or.inr (Or.inr (Or.inr (Or.inr (Or.inr (⟨rfl, rfl⟩))))))))))))
                                                                  refine zz_iload (x := v277) rfl zd_14_67_371 ?_
                                                                  have g288 := zz_G.r G_S276 1079 36 0 11 rfl rfl
                                                                  have e289 : S287 1079 36 = S276 1079 36 := (zz_ro qS287 (fun h => absurd h.1 (by decide)) (zz_rc fS284 rfl rfl (by omega) rfl))
                                                                  have ha9 := o281 (by omega)
                                                                  have g290 := zz_G.r G_S276 1102 ((S0 1079 36).toNat) 0 63 rfl rfl
                                                                  have e291 : S287 1102 (S0 1079 36).toNat = S276 1102 (S0 1079 36).toNat := (zz_ro qS287 (fun h => absurd h.1 (by decide)) (zz_rc fS284 (zz_nc1 rfl) rfl (by omega) rfl))
                                                                  have g292 := zz_G.r G_S276 1103 ((S0 1079 36).toNat) 0 63 rfl rfl
                                                                  have e293 : S287 1103 (S0 1079 36).toNat = S276 1103 (S0 1079 36).toNat := (zz_ro qS287 (fun h => absurd h.1 (by decide)) (zz_rc fS284 (zz_nc1 rfl) rfl (by omega) rfl))
                                                                  have g294 := zz_G.r G_S276 1104 ((S0 1079 36).toNat) 0 63 rfl rfl
                                                                  have e295 : S287 1104 (S0 1079 36).toNat = S276 1104 (S0 1079 36).toNat := (zz_ro qS287 (fun h => absurd h.1 (by decide)) (zz_rc fS284 (zz_nc1 rfl) rfl (by omega) rfl))
                                                                  have g296 := zz_G.r G_S276 1105 ((S0 1079 36).toNat) (0) (if (S0 1079 36).toNat = 0 then 0 else 10000000) rfl rfl
                                                                  have e297 : S287 1105 (S0 1079 36).toNat = S276 1105 (S0 1079 36).toNat := (zz_ro qS287 (fun h => absurd h.1 (by decide)) (zz_rc fS284 (zz_nc1 rfl) rfl (by omega) rfl))
                                                                  have g298 := zz_G.r G_S276 1106 ((S0 1079 36 - 1).toNat) 0 2 rfl rfl
                                                                  have e299 : S287 1106 (S0 1079 36 - 1).toNat = S276 1106 (S0 1079 36 - 1).toNat := (zz_ro qS287 (fun h => absurd h.1 (by decide)) (zz_rc fS284 (zz_nc1 rfl) rfl (by omega) rfl))
                                                                  have g300 := zz_G.r G_S276 1107 ((S0 1079 36 - 1).toNat) 0 10 rfl rfl
                                                                  have e301 : S287 1107 (S0 1079 36 - 1).toNat = S276 1107 (S0 1079 36 - 1).toNat := (zz_ro qS287 (fun h => absurd h.1 (by decide)) (zz_rc fS284 (zz_nc1 rfl) rfl (by omega) rfl))
                                                                  have g302 := zz_G.r G_S0 1108 ((S0 1079 36 - 1).toNat) 0 10 rfl rfl
                                                                  have e303 : S287 1108 (S0 1079 36 - 1).toNat = S0 1108 (S0 1079 36 - 1).toNat := (zz_ro qS287 (fun h => absurd h.1 (by decide)) (zz_rc fS284 (zz_nc1 rfl) rfl (by omega) (zz_rc fS276 (zz_nc1 rfl) rfl (by omega) (zz_rc fS267 (zz_nc1 rfl) rfl (fun h => h) rfl))))
                                                                  have g304 := zz_G.r G_S284 1109 ((S0 1079 36 - 1).toNat) 0 3 rfl rfl
                                                                  have e305 : S287 1109 (S0 1079 36 - 1).toNat = S284 1109 (S0 1079 36 - 1).toNat := (zz_ro qS287 (fun h => absurd h.1 (by decide)) rfl)
                                                                  have g306 := zz_G.r G_S284 1110 ((S0 1079 36 - 1).toNat) 0 3 rfl rfl
                                                                  have e307 : S287 1110 (S0 1079 36 - 1).toNat = S284 1110 (S0 1079 36 - 1).toNat := (zz_ro qS287 (fun h => absurd h.1 (by decide)) rfl)
                                                                  have g308 := zz_G.r G_S284 1111 ((S0 1079 36 - 1).toNat) 0 3 rfl rfl
                                                                  have e309 : S287 1111 (S0 1079 36 - 1).toNat = S284 1111 (S0 1079 36 - 1).toNat := (zz_ro qS287 (fun h => absurd h.1 (by decide)) rfl)
                                                                  have g310 := zz_G.r G_S287 1114 ((S0 1079 36 - 1).toNat) 0 4096 rfl rfl
                                                                  exact zz_iret zd_14_67_373 rfl (Nat.zero_le _) (Nat.zero_le _) ⟨_, _, rfl, G_S287, F_S287, by omega, by omega, (zz_Hr.add (T := (S0 1079 36).toNat) (l := (S0 1079 36 - 1).toNat) F_S287 rfl rfl (fun a i h => by omega) R_S0 (by omega) (by omega) (by omega) (by unfold zz_tn zz_sz; rw [show S287 1102 (S0 1079 36).toNat = v197 by omega, show S287 1103 (S0 1079 36).toNat = v204 by omega, show S287 1104 (S0 1079 36).toNat = p2 by omega, show S287 1105 (S0 1079 36).toNat = S0 1105 (S0 1079 36).toNat by omega]; omega) (by unfold zz_la; rw [show S287 1106 (S0 1079 36 - 1).toNat = 0 by omega, show S287 1107 (S0 1079 36 - 1).toNat = p0 by omega, show S287 1109 (S0 1079 36 - 1).toNat = v14 by omega, show S287 1110 (S0 1079 36 - 1).toNat = v15 by omega, show S287 1114 (S0 1079 36 - 1).toNat = p5 by omega, show S287 1104 ((S0 1079 36 - 1).toNat + 1) = p2 by rw [show (S0 1079 36 - 1).toNat + 1 = (S0 1079 36).toNat by omega]; omega, show S287 1104 p0.toNat = S0 1104 p0.toNat from F_S287 1104 p0.toNat (zz_nc1 rfl) rfl (by omega)]; exact ⟨by omega, fun _ => ⟨by omega, by omega, by omega⟩, fun h => absurd h (by decide), fun h => absurd h (by decide)⟩))⟩
                                                                · refine zz_iconst zd_14_67_344 ?_
                                                                  have g311 := zz_G.r G_S276 1079 36 0 11 rfl rfl
                                                                  exact zz_iret zd_14_67_345 rfl (Nat.zero_le _) (Nat.zero_le _) ⟨_, _, rfl, G_S276, F_S276, by omega, by omega, (o280 (by omega) R_S267)⟩
                                                              · exfalso; omega
                                                            · exfalso; omega
                                                          · exfalso; omega
    · exfalso; omega
abbrev zy_pool_14_69 : mm_Y := (⟨"TensorForgeModel", "pool", "(III)I"⟩, prog_14_method_69_code, 11, (some .int))
theorem zyw_pool_14_69 : mm_Yw zy_pool_14_69 3 := ⟨mm_tb_1 2104 (by decide +kernel) rfl, mm_tb_1 12 (by decide +kernel) rfl, ⟨by decide, by decide⟩, by decide +kernel⟩
theorem zd_14_69_0 : zz_D zy_pool_14_69 0 (.aload_n 0) 1 1 := ⟨by decide +kernel, rfl⟩
theorem zd_14_69_1 : zz_D zy_pool_14_69 1 (.iload_n 1) 1 2 := ⟨by decide +kernel, rfl⟩
theorem zd_14_69_2 : zz_D zy_pool_14_69 2 (.invokevirtual 411) 3 5 := ⟨by decide +kernel, rfl⟩
theorem zd_14_69_5 : zz_B zy_pool_14_69 5 (Instr.ifCond .ne) 18 8 := ⟨13, by decide +kernel, rfl, rfl⟩
theorem zd_14_69_8 : zz_D zy_pool_14_69 8 (.aload_n 0) 1 9 := ⟨by decide +kernel, rfl⟩
theorem zd_14_69_9 : zz_D zy_pool_14_69 9 (.iconst 1) 1 10 := ⟨by decide +kernel, rfl⟩
theorem zd_14_69_10 : zz_D zy_pool_14_69 10 (.iconst 0) 1 11 := ⟨by decide +kernel, rfl⟩
theorem zd_14_69_11 : zz_D zy_pool_14_69 11 (.iconst 0) 1 12 := ⟨by decide +kernel, rfl⟩
theorem zd_14_69_12 : zz_D zy_pool_14_69 12 (.invokevirtual 196) 3 15 := ⟨by decide +kernel, rfl⟩
theorem zd_14_69_15 : zz_D zy_pool_14_69 15 (.pop) 1 16 := ⟨by decide +kernel, rfl⟩
theorem zd_14_69_16 : zz_D zy_pool_14_69 16 (.iconst 0) 1 17 := ⟨by decide +kernel, rfl⟩
theorem zd_14_69_17 : zz_D zy_pool_14_69 17 (.ireturn) 1 18 := ⟨by decide +kernel, rfl⟩
theorem zd_14_69_18 : zz_D zy_pool_14_69 18 (.iload_n 2) 1 19 := ⟨by decide +kernel, rfl⟩
theorem zd_14_69_19 : zz_D zy_pool_14_69 19 (.bipush 10) 2 21 := ⟨by decide +kernel, rfl⟩
theorem zd_14_69_21 : zz_D zy_pool_14_69 21 (.idiv) 1 22 := ⟨by decide +kernel, rfl⟩
theorem zd_14_69_22 : zz_D zy_pool_14_69 22 (.istore 4) 2 24 := ⟨by decide +kernel, rfl⟩
theorem zd_14_69_24 : zz_D zy_pool_14_69 24 (.iload_n 2) 1 25 := ⟨by decide +kernel, rfl⟩
theorem zd_14_69_25 : zz_D zy_pool_14_69 25 (.bipush 10) 2 27 := ⟨by decide +kernel, rfl⟩
theorem zd_14_69_27 : zz_D zy_pool_14_69 27 (.irem) 1 28 := ⟨by decide +kernel, rfl⟩
theorem zd_14_69_28 : zz_D zy_pool_14_69 28 (.istore 5) 2 30 := ⟨by decide +kernel, rfl⟩
theorem zd_14_69_30 : zz_D zy_pool_14_69 30 (.iload_n 2) 1 31 := ⟨by decide +kernel, rfl⟩
theorem zd_14_69_31 : zz_D zy_pool_14_69 31 (.i2l) 1 32 := ⟨by decide +kernel, rfl⟩
theorem zd_14_69_32 : zz_D zy_pool_14_69 32 (.ldc2_w 218) 3 35 := ⟨by decide +kernel, rfl⟩
theorem zd_14_69_35 : zz_D zy_pool_14_69 35 (.ldc2_w 414) 3 38 := ⟨by decide +kernel, rfl⟩
theorem zd_14_69_38 : zz_D zy_pool_14_69 38 (.invokestatic 192) 3 41 := ⟨by decide +kernel, rfl⟩
theorem zd_14_69_41 : zz_B zy_pool_14_69 41 (Instr.ifCond .eq) 86 44 := ⟨45, by decide +kernel, rfl, rfl⟩
theorem zd_14_69_86 : zz_D zy_pool_14_69 86 (.iconst 0) 1 87 := ⟨by decide +kernel, rfl⟩
theorem zd_14_69_87 : zz_D zy_pool_14_69 87 (.istore 6) 2 89 := ⟨by decide +kernel, rfl⟩
theorem zd_14_69_89 : zz_D zy_pool_14_69 89 (.iload 6) 2 91 := ⟨by decide +kernel, rfl⟩
theorem zd_14_69_91 : zz_B zy_pool_14_69 91 (Instr.ifCond .eq) 110 94 := ⟨19, by decide +kernel, rfl, rfl⟩
theorem zd_14_69_110 : zz_D zy_pool_14_69 110 (.iconst 0) 1 111 := ⟨by decide +kernel, rfl⟩
theorem zd_14_69_111 : zz_D zy_pool_14_69 111 (.istore 7) 2 113 := ⟨by decide +kernel, rfl⟩
theorem zd_14_69_113 : zz_D zy_pool_14_69 113 (.iload 6) 2 115 := ⟨by decide +kernel, rfl⟩
theorem zd_14_69_115 : zz_B zy_pool_14_69 115 (Instr.ifCond .eq) 134 118 := ⟨19, by decide +kernel, rfl, rfl⟩
theorem zd_14_69_134 : zz_D zy_pool_14_69 134 (.iconst 0) 1 135 := ⟨by decide +kernel, rfl⟩
theorem zd_14_69_135 : zz_D zy_pool_14_69 135 (.istore 8) 2 137 := ⟨by decide +kernel, rfl⟩
theorem zd_14_69_137 : zz_D zy_pool_14_69 137 (.aload_n 0) 1 138 := ⟨by decide +kernel, rfl⟩
theorem zd_14_69_138 : zz_D zy_pool_14_69 138 (.iconst 0) 1 139 := ⟨by decide +kernel, rfl⟩
theorem zd_14_69_139 : zz_D zy_pool_14_69 139 (.iload 7) 2 141 := ⟨by decide +kernel, rfl⟩
theorem zd_14_69_141 : zz_B zy_pool_14_69 141 (Instr.ifCond .eq) 149 144 := ⟨8, by decide +kernel, rfl, rfl⟩
theorem zd_14_69_149 : zz_D zy_pool_14_69 149 (.iconst 1) 1 150 := ⟨by decide +kernel, rfl⟩
theorem zd_14_69_150 : zz_B zy_pool_14_69 150 Instr.goto 154 153 := ⟨4, by decide +kernel, rfl, rfl⟩
theorem zd_14_69_154 : zz_D zy_pool_14_69 154 (.iconst 0) 1 155 := ⟨by decide +kernel, rfl⟩
theorem zd_14_69_155 : zz_D zy_pool_14_69 155 (.invokevirtual 196) 3 158 := ⟨by decide +kernel, rfl⟩
theorem zd_14_69_158 : zz_B zy_pool_14_69 158 (Instr.ifCond .eq) 163 161 := ⟨5, by decide +kernel, rfl, rfl⟩
theorem zd_14_69_161 : zz_D zy_pool_14_69 161 (.iconst 0) 1 162 := ⟨by decide +kernel, rfl⟩
theorem zd_14_69_162 : zz_D zy_pool_14_69 162 (.ireturn) 1 163 := ⟨by decide +kernel, rfl⟩
theorem zd_14_69_44 : zz_D zy_pool_14_69 44 (.iload 4) 2 46 := ⟨by decide +kernel, rfl⟩
theorem zd_14_69_46 : zz_D zy_pool_14_69 46 (.i2l) 1 47 := ⟨by decide +kernel, rfl⟩
theorem zd_14_69_47 : zz_D zy_pool_14_69 47 (.lconst 1) 1 48 := ⟨by decide +kernel, rfl⟩
theorem zd_14_69_48 : zz_D zy_pool_14_69 48 (.ldc2_w 416) 3 51 := ⟨by decide +kernel, rfl⟩
theorem zd_14_69_51 : zz_D zy_pool_14_69 51 (.invokestatic 192) 3 54 := ⟨by decide +kernel, rfl⟩
theorem zd_14_69_54 : zz_B zy_pool_14_69 54 (Instr.ifCond .eq) 86 57 := ⟨32, by decide +kernel, rfl, rfl⟩
theorem zd_14_69_57 : zz_D zy_pool_14_69 57 (.iload 5) 2 59 := ⟨by decide +kernel, rfl⟩
theorem zd_14_69_59 : zz_D zy_pool_14_69 59 (.i2l) 1 60 := ⟨by decide +kernel, rfl⟩
theorem zd_14_69_60 : zz_D zy_pool_14_69 60 (.lconst 1) 1 61 := ⟨by decide +kernel, rfl⟩
theorem zd_14_69_61 : zz_D zy_pool_14_69 61 (.ldc2_w 416) 3 64 := ⟨by decide +kernel, rfl⟩
theorem zd_14_69_64 : zz_D zy_pool_14_69 64 (.invokestatic 192) 3 67 := ⟨by decide +kernel, rfl⟩
theorem zd_14_69_67 : zz_B zy_pool_14_69 67 (Instr.ifCond .eq) 86 70 := ⟨19, by decide +kernel, rfl, rfl⟩
theorem zd_14_69_70 : zz_D zy_pool_14_69 70 (.iload_n 3) 1 71 := ⟨by decide +kernel, rfl⟩
theorem zd_14_69_71 : zz_D zy_pool_14_69 71 (.i2l) 1 72 := ⟨by decide +kernel, rfl⟩
theorem zd_14_69_72 : zz_D zy_pool_14_69 72 (.lconst 1) 1 73 := ⟨by decide +kernel, rfl⟩
theorem zd_14_69_73 : zz_D zy_pool_14_69 73 (.ldc2_w 416) 3 76 := ⟨by decide +kernel, rfl⟩
theorem zd_14_69_76 : zz_D zy_pool_14_69 76 (.invokestatic 192) 3 79 := ⟨by decide +kernel, rfl⟩
theorem zd_14_69_79 : zz_B zy_pool_14_69 79 (Instr.ifCond .eq) 86 82 := ⟨7, by decide +kernel, rfl, rfl⟩
theorem zd_14_69_82 : zz_D zy_pool_14_69 82 (.iconst 1) 1 83 := ⟨by decide +kernel, rfl⟩
theorem zd_14_69_83 : zz_B zy_pool_14_69 83 Instr.goto 87 86 := ⟨4, by decide +kernel, rfl, rfl⟩
theorem zd_14_69_94 : zz_D zy_pool_14_69 94 (.aload_n 0) 1 95 := ⟨by decide +kernel, rfl⟩
theorem zd_14_69_95 : zz_D zy_pool_14_69 95 (.getfield 88) 3 98 := ⟨by decide +kernel, rfl⟩
theorem zd_14_69_98 : zz_D zy_pool_14_69 98 (.iload_n 1) 1 99 := ⟨by decide +kernel, rfl⟩
theorem zd_14_69_99 : zz_D zy_pool_14_69 99 (.iaload) 1 100 := ⟨by decide +kernel, rfl⟩
theorem zd_14_69_100 : zz_D zy_pool_14_69 100 (.iload 4) 2 102 := ⟨by decide +kernel, rfl⟩
theorem zd_14_69_102 : zz_D zy_pool_14_69 102 (.iload_n 3) 1 103 := ⟨by decide +kernel, rfl⟩
theorem zd_14_69_103 : zz_D zy_pool_14_69 103 (.iconst 0) 1 104 := ⟨by decide +kernel, rfl⟩
theorem zd_14_69_104 : zz_D zy_pool_14_69 104 (.invokestatic 420) 3 107 := ⟨by decide +kernel, rfl⟩
theorem zd_14_69_107 : zz_B zy_pool_14_69 107 Instr.goto 111 110 := ⟨4, by decide +kernel, rfl, rfl⟩
theorem zd_14_69_118 : zz_D zy_pool_14_69 118 (.aload_n 0) 1 119 := ⟨by decide +kernel, rfl⟩
theorem zd_14_69_119 : zz_D zy_pool_14_69 119 (.getfield 91) 3 122 := ⟨by decide +kernel, rfl⟩
theorem zd_14_69_122 : zz_D zy_pool_14_69 122 (.iload_n 1) 1 123 := ⟨by decide +kernel, rfl⟩
theorem zd_14_69_123 : zz_D zy_pool_14_69 123 (.iaload) 1 124 := ⟨by decide +kernel, rfl⟩
theorem zd_14_69_124 : zz_D zy_pool_14_69 124 (.iload 5) 2 126 := ⟨by decide +kernel, rfl⟩
theorem zd_14_69_126 : zz_D zy_pool_14_69 126 (.iload_n 3) 1 127 := ⟨by decide +kernel, rfl⟩
theorem zd_14_69_127 : zz_D zy_pool_14_69 127 (.iconst 0) 1 128 := ⟨by decide +kernel, rfl⟩
theorem zd_14_69_128 : zz_D zy_pool_14_69 128 (.invokestatic 420) 3 131 := ⟨by decide +kernel, rfl⟩
theorem zd_14_69_131 : zz_B zy_pool_14_69 131 Instr.goto 135 134 := ⟨4, by decide +kernel, rfl, rfl⟩
theorem zd_14_69_144 : zz_D zy_pool_14_69 144 (.iload 8) 2 146 := ⟨by decide +kernel, rfl⟩
theorem zd_14_69_146 : zz_B zy_pool_14_69 146 (Instr.ifCond .ne) 153 149 := ⟨7, by decide +kernel, rfl, rfl⟩
theorem zd_14_69_153 : zz_D zy_pool_14_69 153 (.iconst 0) 1 154 := ⟨by decide +kernel, rfl⟩
theorem zd_14_69_163 : zz_D zy_pool_14_69 163 (.aload_n 0) 1 164 := ⟨by decide +kernel, rfl⟩
theorem zd_14_69_164 : zz_D zy_pool_14_69 164 (.getfield 85) 3 167 := ⟨by decide +kernel, rfl⟩
theorem zd_14_69_167 : zz_D zy_pool_14_69 167 (.iconst 1) 1 168 := ⟨by decide +kernel, rfl⟩
theorem zd_14_69_168 : zz_D zy_pool_14_69 168 (.isub) 1 169 := ⟨by decide +kernel, rfl⟩
theorem zd_14_69_169 : zz_D zy_pool_14_69 169 (.istore 9) 2 171 := ⟨by decide +kernel, rfl⟩
theorem zd_14_69_171 : zz_D zy_pool_14_69 171 (.aload_n 0) 1 172 := ⟨by decide +kernel, rfl⟩
theorem zd_14_69_172 : zz_D zy_pool_14_69 172 (.iconst 1) 1 173 := ⟨by decide +kernel, rfl⟩
theorem zd_14_69_173 : zz_D zy_pool_14_69 173 (.iload_n 1) 1 174 := ⟨by decide +kernel, rfl⟩
theorem zd_14_69_174 : zz_D zy_pool_14_69 174 (.iload 7) 2 176 := ⟨by decide +kernel, rfl⟩
theorem zd_14_69_176 : zz_D zy_pool_14_69 176 (.iload 8) 2 178 := ⟨by decide +kernel, rfl⟩
theorem zd_14_69_178 : zz_D zy_pool_14_69 178 (.aload_n 0) 1 179 := ⟨by decide +kernel, rfl⟩
theorem zd_14_69_179 : zz_D zy_pool_14_69 179 (.getfield 94) 3 182 := ⟨by decide +kernel, rfl⟩
theorem zd_14_69_182 : zz_D zy_pool_14_69 182 (.iload_n 1) 1 183 := ⟨by decide +kernel, rfl⟩
theorem zd_14_69_183 : zz_D zy_pool_14_69 183 (.iaload) 1 184 := ⟨by decide +kernel, rfl⟩
theorem zd_14_69_184 : zz_D zy_pool_14_69 184 (.invokevirtual 426) 3 187 := ⟨by decide +kernel, rfl⟩
theorem zd_14_69_187 : zz_D zy_pool_14_69 187 (.istore 10) 2 189 := ⟨by decide +kernel, rfl⟩
theorem zd_14_69_189 : zz_D zy_pool_14_69 189 (.aload_n 0) 1 190 := ⟨by decide +kernel, rfl⟩
theorem zd_14_69_190 : zz_D zy_pool_14_69 190 (.getfield 187) 3 193 := ⟨by decide +kernel, rfl⟩
theorem zd_14_69_193 : zz_B zy_pool_14_69 193 (Instr.ifCond .le) 198 196 := ⟨5, by decide +kernel, rfl, rfl⟩
theorem zd_14_69_198 : zz_D zy_pool_14_69 198 (.aload_n 0) 1 199 := ⟨by decide +kernel, rfl⟩
theorem zd_14_69_199 : zz_D zy_pool_14_69 199 (.iload 9) 2 201 := ⟨by decide +kernel, rfl⟩
theorem zd_14_69_201 : zz_D zy_pool_14_69 201 (.iload 4) 2 203 := ⟨by decide +kernel, rfl⟩
theorem zd_14_69_203 : zz_D zy_pool_14_69 203 (.iload 5) 2 205 := ⟨by decide +kernel, rfl⟩
theorem zd_14_69_205 : zz_D zy_pool_14_69 205 (.iload_n 3) 1 206 := ⟨by decide +kernel, rfl⟩
theorem zd_14_69_206 : zz_D zy_pool_14_69 206 (.iconst 0) 1 207 := ⟨by decide +kernel, rfl⟩
theorem zd_14_69_207 : zz_D zy_pool_14_69 207 (.iconst 0) 1 208 := ⟨by decide +kernel, rfl⟩
theorem zd_14_69_208 : zz_D zy_pool_14_69 208 (.invokevirtual 430) 3 211 := ⟨by decide +kernel, rfl⟩
theorem zd_14_69_211 : zz_D zy_pool_14_69 211 (.iload 10) 2 213 := ⟨by decide +kernel, rfl⟩
theorem zd_14_69_213 : zz_D zy_pool_14_69 213 (.ireturn) 1 214 := ⟨by decide +kernel, rfl⟩
theorem zd_14_69_196 : zz_D zy_pool_14_69 196 (.iconst 0) 1 197 := ⟨by decide +kernel, rfl⟩
theorem zd_14_69_197 : zz_D zy_pool_14_69 197 (.ireturn) 1 198 := ⟨by decide +kernel, rfl⟩
-- TensorForgeModel pool (III)I
abbrev zr_pool_14_69 : Room := { frames := 2, cells := 0, slots := 0, locals := 33 }
def zp_pool_14_69 (p0 : Int) (p1 : Int) (p2 : Int) (S0 : zz_S) : Int → zz_S → Prop := fun r S => zz_G S ∧ zz_fr [(1079, 0), (1079, 36)] [] (fun a i => (a = 1102 ∧ i = (S0 1079 36).toNat) ∨ (a = 1103 ∧ i = (S0 1079 36).toNat) ∨ (a = 1104 ∧ i = (S0 1079 36).toNat) ∨ (a = 1105 ∧ i = ((S0 1079 36) + 1).toNat) ∨ (a = 1106 ∧ i = ((S0 1079 36) - 1).toNat) ∨ (a = 1107 ∧ i = ((S0 1079 36) - 1).toNat) ∨ (a = 1109 ∧ i = ((S0 1079 36) - 1).toNat) ∨ (a = 1110 ∧ i = ((S0 1079 36) - 1).toNat) ∨ (a = 1111 ∧ i = ((S0 1079 36) - 1).toNat) ∨ (a = 1112 ∧ i = ((S0 1079 36) - 1).toNat) ∨ (a = 1113 ∧ i = ((S0 1079 36) - 1).toNat)) S0 S ∧ (0 ≤ r ∧ r ≤ 10) ∧ (S 1079 36 ≥ S0 1079 36) ∧ (zz_Hr S)
theorem zc_pool_14_69 {g : mm_G} {l : Launch} (p0 : Int) (p1 : Int) (p2 : Int) (S0 : zz_S) (n : Nat) (hn : zz_end ≤ n) (G_S0 : zz_G S0) (hp0 : (-2147483648) ≤ p0 ∧ p0 ≤ 2147483647) (hp1 : (-2147483648) ≤ p1 ∧ p1 ≤ 2147483647) (hp2 : (-2147483648) ≤ p2 ∧ p2 ≤ 2147483647) (R_S0 : zz_Hr S0) : mm_Met g l zy_pool_14_69 zr_pool_14_69 [.ref 1079, zi p0, zi p1, zi p2] (zz_M S0 n) n (zz_QI n (zp_pool_14_69 p0 p1 p2 S0)) := by
  refine zz_enter (by decide) (Nat.le_of_ble_eq_true rfl) (zz_less (ls1 := [some (.ref 1079), some (zi p0), some (zi p1), some (zi p2)]) ⟨rfl, ⟨rfl, ⟨rfl, ⟨rfl, trivial⟩⟩⟩⟩ ?_)
  have F_S0 : zz_fr [(1079, 0), (1079, 36)] [] (fun a i => (a = 1102 ∧ i = (S0 1079 36).toNat) ∨ (a = 1103 ∧ i = (S0 1079 36).toNat) ∨ (a = 1104 ∧ i = (S0 1079 36).toNat) ∨ (a = 1105 ∧ i = ((S0 1079 36) + 1).toNat) ∨ (a = 1106 ∧ i = ((S0 1079 36) - 1).toNat) ∨ (a = 1107 ∧ i = ((S0 1079 36) - 1).toNat) ∨ (a = 1109 ∧ i = ((S0 1079 36) - 1).toNat) ∨ (a = 1110 ∧ i = ((S0 1079 36) - 1).toNat) ∨ (a = 1111 ∧ i = ((S0 1079 36) - 1).toNat) ∨ (a = 1112 ∧ i = ((S0 1079 36) - 1).toNat) ∨ (a = 1113 ∧ i = ((S0 1079 36) - 1).toNat)) S0 S0 := zz_fr.refl
  refine zz_aload_n (x := 1079) rfl zd_14_69_0 ?_
  refine zz_iload_n (x := p0) rfl zd_14_69_1 ?_
  have g1 := zz_G.r G_S0 1079 36 0 11 rfl rfl
  refine zz_callVI [zi p0] zd_14_69_2 zk_Md_411 zT_1079 (zz_ltn hn rfl) rfl rfl ⟨Nat.le_of_ble_eq_true rfl, Nat.le_of_ble_eq_true rfl⟩ ⟨rfl, rfl⟩ (Nat.zero_le _) (Nat.zero_le _) (zc_isTensor_14_66 p0 S0 n hn G_S0 (by omega)) (fun v3 S2 hP => ?_)
  obtain ⟨rfl, o4, o5⟩ := hP
  rcases (by omega : v3 = 0 ∨ v3 = 1) with rfl | rfl
  · refine zz_if_ne (by omega) zd_14_69_5 (fun c6 => ?_) (fun c6 => ?_)
    · exfalso; omega
    · refine zz_aload_n (x := 1079) rfl zd_14_69_8 ?_
      refine zz_iconst zd_14_69_9 ?_
      refine zz_iconst zd_14_69_10 ?_
      refine zz_iconst zd_14_69_11 ?_
      refine zz_callVI [zi 1, zi 0, zi 0] zd_14_69_12 zk_Md_196 zT_1079 (zz_ltn hn rfl) rfl rfl ⟨Nat.le_of_ble_eq_true rfl, Nat.le_of_ble_eq_true rfl⟩ ⟨rfl, rfl⟩ (Nat.zero_le _) (Nat.zero_le _) (zc_refuse_14_3 1 0 0 S0 n hn G_S0 (by omega) (by omega) (by omega)) (fun v8 S7 hP => ?_)
      obtain ⟨G_S7, fS7, o9, o10⟩ := hP
      have F_S7 := zz_fr.trans F_S0 fS7 rfl zz_nv
      have R_S7 : zz_Hr S7 := zz_Hr.fr fS7 rfl rfl (fun b j h => h.elim) R_S0
      rcases (by omega : v8 = 0 ∨ v8 = 1) with rfl | rfl
      · exfalso; omega
      · have e11 : S7 1079 0 = 1 := by omega
        refine zz_pop rfl zd_14_69_15 ?_
        refine zz_iconst zd_14_69_16 ?_
        have e12 : S7 1079 36 = S0 1079 36 := (zz_rc fS7 rfl rfl (fun h => h) rfl)
        exact zz_iret zd_14_69_17 rfl (Nat.zero_le _) (Nat.zero_le _) ⟨_, _, rfl, G_S7, F_S7, by omega, by omega, R_S7⟩
  · refine zz_if_ne (by omega) zd_14_69_5 (fun c13 => ?_) (fun c13 => ?_)
    · refine zz_iload_n (x := p1) rfl zd_14_69_18 ?_
      refine zz_bipush (by decide) zd_14_69_19 ?_
      refine zz_idiv (by omega) (by omega) zd_14_69_21 (fun v14 hv14 av14 bv14 cv14 => ?_)
      refine zz_istore [some (.ref 1079), some (zi p0), some (zi p1), some (zi p2), some (zi v14)] zd_14_69_22 (by decide) rfl ?_
      refine zz_iload_n (x := p1) rfl zd_14_69_24 ?_
      refine zz_bipush (by decide) zd_14_69_25 ?_
      refine zz_irem (by omega) (by omega) zd_14_69_27 (fun v15 hv15 av15 bv15 cv15 => ?_)
      refine zz_istore [some (.ref 1079), some (zi p0), some (zi p1), some (zi p2), some (zi v14), some (zi v15)] zd_14_69_28 (by decide) rfl ?_
      refine zz_iload_n (x := p1) rfl zd_14_69_30 ?_
      refine zz_i2l (by omega) zd_14_69_31 ?_
      refine zz_ldc2 (z := 11) zq_Md_218 (by decide) zd_14_69_32 ?_
      refine zz_ldc2 (z := 33) zq_Md_414 (by decide) zd_14_69_35 ?_
      refine zz_callSI [zl p1, zl 11, zl 33] zd_14_69_38 zk_Md_192 rfl rfl ⟨Nat.le_of_ble_eq_true rfl, Nat.le_of_ble_eq_true rfl⟩ ⟨rfl, rfl⟩ (Nat.zero_le _) (Nat.zero_le _) (zc_in_14_4 p1 11 33 S0 n hn G_S0 (by omega) (by omega) (by omega)) (fun v17 S16 hP => ?_)
      obtain ⟨rfl, o18, o19⟩ := hP
      rcases (by omega : v17 = 0 ∨ v17 = 1) with rfl | rfl
      · refine zz_if_eq (by omega) zd_14_69_41 (fun c20 => ?_) (fun c20 => ?_)
        · refine zz_iconst zd_14_69_86 ?_
          refine zz_istore [some (.ref 1079), some (zi p0), some (zi p1), some (zi p2), some (zi v14), some (zi v15), some (zi 0)] zd_14_69_87 (by decide) rfl ?_
          refine zz_iload (x := 0) rfl zd_14_69_89 ?_
          refine zz_if_eq (by omega) zd_14_69_91 (fun c21 => ?_) (fun c21 => ?_)
          · refine zz_iconst zd_14_69_110 ?_
            refine zz_istore [some (.ref 1079), some (zi p0), some (zi p1), some (zi p2), some (zi v14), some (zi v15), some (zi 0), some (zi 0)] zd_14_69_111 (by decide) rfl ?_
            refine zz_iload (x := 0) rfl zd_14_69_113 ?_
            refine zz_if_eq (by omega) zd_14_69_115 (fun c22 => ?_) (fun c22 => ?_)
            · refine zz_iconst zd_14_69_134 ?_
              refine zz_istore [some (.ref 1079), some (zi p0), some (zi p1), some (zi p2), some (zi v14), some (zi v15), some (zi 0), some (zi 0), some (zi 0)] zd_14_69_135 (by decide) rfl ?_
              refine zz_aload_n (x := 1079) rfl zd_14_69_137 ?_
              refine zz_iconst zd_14_69_138 ?_
              refine zz_iload (x := 0) rfl zd_14_69_139 ?_
              refine zz_if_eq (by omega) zd_14_69_141 (fun c23 => ?_) (fun c23 => ?_)
              · refine zz_iconst zd_14_69_149 ?_
                refine zz_goto zd_14_69_150 ?_
                refine zz_iconst zd_14_69_154 ?_
                refine zz_callVI [zi 0, zi 1, zi 0] zd_14_69_155 zk_Md_196 zT_1079 (zz_ltn hn rfl) rfl rfl ⟨Nat.le_of_ble_eq_true rfl, Nat.le_of_ble_eq_true rfl⟩ ⟨rfl, rfl⟩ (Nat.zero_le _) (Nat.zero_le _) (zc_refuse_14_3 0 1 0 S0 n hn G_S0 (by omega) (by omega) (by omega)) (fun v25 S24 hP => ?_)
                obtain ⟨G_S24, fS24, o26, o27⟩ := hP
                have F_S24 := zz_fr.trans F_S0 fS24 rfl zz_nv
                have R_S24 : zz_Hr S24 := zz_Hr.fr fS24 rfl rfl (fun b j h => h.elim) R_S0
                rcases (by omega : v25 = 0 ∨ v25 = 1) with rfl | rfl
                · exfalso; omega
                · have e28 : S24 1079 0 = 2 := by omega
                  refine zz_if_eq (by omega) zd_14_69_158 (fun c29 => ?_) (fun c29 => ?_)
                  · exfalso; omega
                  · refine zz_iconst zd_14_69_161 ?_
                    have e30 : S24 1079 36 = S0 1079 36 := (zz_rc fS24 rfl rfl (fun h => h) rfl)
                    exact zz_iret zd_14_69_162 rfl (Nat.zero_le _) (Nat.zero_le _) ⟨_, _, rfl, G_S24, F_S24, by omega, by omega, R_S24⟩
              · exfalso; omega
            · exfalso; omega
          · exfalso; omega
        · exfalso; omega
      · refine zz_if_eq (by omega) zd_14_69_41 (fun c31 => ?_) (fun c31 => ?_)
        · exfalso; omega
        · refine zz_iload (x := v14) rfl zd_14_69_44 ?_
          refine zz_i2l (by omega) zd_14_69_46 ?_
          refine zz_lconst (z := 1) (by decide) zd_14_69_47 ?_
          refine zz_ldc2 (z := 3) zq_Md_416 (by decide) zd_14_69_48 ?_
          refine zz_callSI [zl v14, zl 1, zl 3] zd_14_69_51 zk_Md_192 rfl rfl ⟨Nat.le_of_ble_eq_true rfl, Nat.le_of_ble_eq_true rfl⟩ ⟨rfl, rfl⟩ (Nat.zero_le _) (Nat.zero_le _) (zc_in_14_4 v14 1 3 S0 n hn G_S0 (by omega) (by omega) (by omega)) (fun v33 S32 hP => ?_)
          obtain ⟨rfl, o34, o35⟩ := hP
          rcases (by omega : v33 = 0 ∨ v33 = 1) with rfl | rfl
          · refine zz_if_eq (by omega) zd_14_69_54 (fun c36 => ?_) (fun c36 => ?_)
            · refine zz_iconst zd_14_69_86 ?_
              refine zz_istore [some (.ref 1079), some (zi p0), some (zi p1), some (zi p2), some (zi v14), some (zi v15), some (zi 0)] zd_14_69_87 (by decide) rfl ?_
              refine zz_iload (x := 0) rfl zd_14_69_89 ?_
              refine zz_if_eq (by omega) zd_14_69_91 (fun c37 => ?_) (fun c37 => ?_)
              · refine zz_iconst zd_14_69_110 ?_
                refine zz_istore [some (.ref 1079), some (zi p0), some (zi p1), some (zi p2), some (zi v14), some (zi v15), some (zi 0), some (zi 0)] zd_14_69_111 (by decide) rfl ?_
                refine zz_iload (x := 0) rfl zd_14_69_113 ?_
                refine zz_if_eq (by omega) zd_14_69_115 (fun c38 => ?_) (fun c38 => ?_)
                · refine zz_iconst zd_14_69_134 ?_
                  refine zz_istore [some (.ref 1079), some (zi p0), some (zi p1), some (zi p2), some (zi v14), some (zi v15), some (zi 0), some (zi 0), some (zi 0)] zd_14_69_135 (by decide) rfl ?_
                  refine zz_aload_n (x := 1079) rfl zd_14_69_137 ?_
                  refine zz_iconst zd_14_69_138 ?_
                  refine zz_iload (x := 0) rfl zd_14_69_139 ?_
                  refine zz_if_eq (by omega) zd_14_69_141 (fun c39 => ?_) (fun c39 => ?_)
                  · refine zz_iconst zd_14_69_149 ?_
                    refine zz_goto zd_14_69_150 ?_
                    refine zz_iconst zd_14_69_154 ?_
                    refine zz_callVI [zi 0, zi 1, zi 0] zd_14_69_155 zk_Md_196 zT_1079 (zz_ltn hn rfl) rfl rfl ⟨Nat.le_of_ble_eq_true rfl, Nat.le_of_ble_eq_true rfl⟩ ⟨rfl, rfl⟩ (Nat.zero_le _) (Nat.zero_le _) (zc_refuse_14_3 0 1 0 S0 n hn G_S0 (by omega) (by omega) (by omega)) (fun v41 S40 hP => ?_)
                    obtain ⟨G_S40, fS40, o42, o43⟩ := hP
                    have F_S40 := zz_fr.trans F_S0 fS40 rfl zz_nv
                    have R_S40 : zz_Hr S40 := zz_Hr.fr fS40 rfl rfl (fun b j h => h.elim) R_S0
                    rcases (by omega : v41 = 0 ∨ v41 = 1) with rfl | rfl
                    · exfalso; omega
                    · have e44 : S40 1079 0 = 2 := by omega
                      refine zz_if_eq (by omega) zd_14_69_158 (fun c45 => ?_) (fun c45 => ?_)
                      · exfalso; omega
                      · refine zz_iconst zd_14_69_161 ?_
                        have e46 : S40 1079 36 = S0 1079 36 := (zz_rc fS40 rfl rfl (fun h => h) rfl)
                        exact zz_iret zd_14_69_162 rfl (Nat.zero_le _) (Nat.zero_le _) ⟨_, _, rfl, G_S40, F_S40, by omega, by omega, R_S40⟩
                  · exfalso; omega
                · exfalso; omega
              · exfalso; omega
            · exfalso; omega
          · refine zz_if_eq (by omega) zd_14_69_54 (fun c47 => ?_) (fun c47 => ?_)
            · exfalso; omega
            · refine zz_iload (x := v15) rfl zd_14_69_57 ?_
              refine zz_i2l (by omega) zd_14_69_59 ?_
              refine zz_lconst (z := 1) (by decide) zd_14_69_60 ?_
              refine zz_ldc2 (z := 3) zq_Md_416 (by decide) zd_14_69_61 ?_
              refine zz_callSI [zl v15, zl 1, zl 3] zd_14_69_64 zk_Md_192 rfl rfl ⟨Nat.le_of_ble_eq_true rfl, Nat.le_of_ble_eq_true rfl⟩ ⟨rfl, rfl⟩ (Nat.zero_le _) (Nat.zero_le _) (zc_in_14_4 v15 1 3 S0 n hn G_S0 (by omega) (by omega) (by omega)) (fun v49 S48 hP => ?_)
              obtain ⟨rfl, o50, o51⟩ := hP
              rcases (by omega : v49 = 0 ∨ v49 = 1) with rfl | rfl
              · refine zz_if_eq (by omega) zd_14_69_67 (fun c52 => ?_) (fun c52 => ?_)
                · refine zz_iconst zd_14_69_86 ?_
                  refine zz_istore [some (.ref 1079), some (zi p0), some (zi p1), some (zi p2), some (zi v14), some (zi v15), some (zi 0)] zd_14_69_87 (by decide) rfl ?_
                  refine zz_iload (x := 0) rfl zd_14_69_89 ?_
                  refine zz_if_eq (by omega) zd_14_69_91 (fun c53 => ?_) (fun c53 => ?_)
                  · refine zz_iconst zd_14_69_110 ?_
                    refine zz_istore [some (.ref 1079), some (zi p0), some (zi p1), some (zi p2), some (zi v14), some (zi v15), some (zi 0), some (zi 0)] zd_14_69_111 (by decide) rfl ?_
                    refine zz_iload (x := 0) rfl zd_14_69_113 ?_
                    refine zz_if_eq (by omega) zd_14_69_115 (fun c54 => ?_) (fun c54 => ?_)
                    · refine zz_iconst zd_14_69_134 ?_
                      refine zz_istore [some (.ref 1079), some (zi p0), some (zi p1), some (zi p2), some (zi v14), some (zi v15), some (zi 0), some (zi 0), some (zi 0)] zd_14_69_135 (by decide) rfl ?_
                      refine zz_aload_n (x := 1079) rfl zd_14_69_137 ?_
                      refine zz_iconst zd_14_69_138 ?_
                      refine zz_iload (x := 0) rfl zd_14_69_139 ?_
                      refine zz_if_eq (by omega) zd_14_69_141 (fun c55 => ?_) (fun c55 => ?_)
                      · refine zz_iconst zd_14_69_149 ?_
                        refine zz_goto zd_14_69_150 ?_
                        refine zz_iconst zd_14_69_154 ?_
                        refine zz_callVI [zi 0, zi 1, zi 0] zd_14_69_155 zk_Md_196 zT_1079 (zz_ltn hn rfl) rfl rfl ⟨Nat.le_of_ble_eq_true rfl, Nat.le_of_ble_eq_true rfl⟩ ⟨rfl, rfl⟩ (Nat.zero_le _) (Nat.zero_le _) (zc_refuse_14_3 0 1 0 S0 n hn G_S0 (by omega) (by omega) (by omega)) (fun v57 S56 hP => ?_)
                        obtain ⟨G_S56, fS56, o58, o59⟩ := hP
                        have F_S56 := zz_fr.trans F_S0 fS56 rfl zz_nv
                        have R_S56 : zz_Hr S56 := zz_Hr.fr fS56 rfl rfl (fun b j h => h.elim) R_S0
                        rcases (by omega : v57 = 0 ∨ v57 = 1) with rfl | rfl
                        · exfalso; omega
                        · have e60 : S56 1079 0 = 2 := by omega
                          refine zz_if_eq (by omega) zd_14_69_158 (fun c61 => ?_) (fun c61 => ?_)
                          · exfalso; omega
                          · refine zz_iconst zd_14_69_161 ?_
                            have e62 : S56 1079 36 = S0 1079 36 := (zz_rc fS56 rfl rfl (fun h => h) rfl)
                            exact zz_iret zd_14_69_162 rfl (Nat.zero_le _) (Nat.zero_le _) ⟨_, _, rfl, G_S56, F_S56, by omega, by omega, R_S56⟩
                      · exfalso; omega
                    · exfalso; omega
                  · exfalso; omega
                · exfalso; omega
              · refine zz_if_eq (by omega) zd_14_69_67 (fun c63 => ?_) (fun c63 => ?_)
                · exfalso; omega
                · refine zz_iload_n (x := p2) rfl zd_14_69_70 ?_
                  refine zz_i2l (by omega) zd_14_69_71 ?_
                  refine zz_lconst (z := 1) (by decide) zd_14_69_72 ?_
                  refine zz_ldc2 (z := 3) zq_Md_416 (by decide) zd_14_69_73 ?_
                  refine zz_callSI [zl p2, zl 1, zl 3] zd_14_69_76 zk_Md_192 rfl rfl ⟨Nat.le_of_ble_eq_true rfl, Nat.le_of_ble_eq_true rfl⟩ ⟨rfl, rfl⟩ (Nat.zero_le _) (Nat.zero_le _) (zc_in_14_4 p2 1 3 S0 n hn G_S0 (by omega) (by omega) (by omega)) (fun v65 S64 hP => ?_)
                  obtain ⟨rfl, o66, o67⟩ := hP
                  rcases (by omega : v65 = 0 ∨ v65 = 1) with rfl | rfl
                  · refine zz_if_eq (by omega) zd_14_69_79 (fun c68 => ?_) (fun c68 => ?_)
                    · refine zz_iconst zd_14_69_86 ?_
                      refine zz_istore [some (.ref 1079), some (zi p0), some (zi p1), some (zi p2), some (zi v14), some (zi v15), some (zi 0)] zd_14_69_87 (by decide) rfl ?_
                      refine zz_iload (x := 0) rfl zd_14_69_89 ?_
                      refine zz_if_eq (by omega) zd_14_69_91 (fun c69 => ?_) (fun c69 => ?_)
                      · refine zz_iconst zd_14_69_110 ?_
                        refine zz_istore [some (.ref 1079), some (zi p0), some (zi p1), some (zi p2), some (zi v14), some (zi v15), some (zi 0), some (zi 0)] zd_14_69_111 (by decide) rfl ?_
                        refine zz_iload (x := 0) rfl zd_14_69_113 ?_
                        refine zz_if_eq (by omega) zd_14_69_115 (fun c70 => ?_) (fun c70 => ?_)
                        · refine zz_iconst zd_14_69_134 ?_
                          refine zz_istore [some (.ref 1079), some (zi p0), some (zi p1), some (zi p2), some (zi v14), some (zi v15), some (zi 0), some (zi 0), some (zi 0)] zd_14_69_135 (by decide) rfl ?_
                          refine zz_aload_n (x := 1079) rfl zd_14_69_137 ?_
                          refine zz_iconst zd_14_69_138 ?_
                          refine zz_iload (x := 0) rfl zd_14_69_139 ?_
                          refine zz_if_eq (by omega) zd_14_69_141 (fun c71 => ?_) (fun c71 => ?_)
                          · refine zz_iconst zd_14_69_149 ?_
                            refine zz_goto zd_14_69_150 ?_
                            refine zz_iconst zd_14_69_154 ?_
                            refine zz_callVI [zi 0, zi 1, zi 0] zd_14_69_155 zk_Md_196 zT_1079 (zz_ltn hn rfl) rfl rfl ⟨Nat.le_of_ble_eq_true rfl, Nat.le_of_ble_eq_true rfl⟩ ⟨rfl, rfl⟩ (Nat.zero_le _) (Nat.zero_le _) (zc_refuse_14_3 0 1 0 S0 n hn G_S0 (by omega) (by omega) (by omega)) (fun v73 S72 hP => ?_)
                            obtain ⟨G_S72, fS72, o74, o75⟩ := hP
                            have F_S72 := zz_fr.trans F_S0 fS72 rfl zz_nv
                            have R_S72 : zz_Hr S72 := zz_Hr.fr fS72 rfl rfl (fun b j h => h.elim) R_S0
                            rcases (by omega : v73 = 0 ∨ v73 = 1) with rfl | rfl
                            · exfalso; omega
                            · have e76 : S72 1079 0 = 2 := by omega
                              refine zz_if_eq (by omega) zd_14_69_158 (fun c77 => ?_) (fun c77 => ?_)
                              · exfalso; omega
                              · refine zz_iconst zd_14_69_161 ?_
                                have e78 : S72 1079 36 = S0 1079 36 := (zz_rc fS72 rfl rfl (fun h => h) rfl)
                                exact zz_iret zd_14_69_162 rfl (Nat.zero_le _) (Nat.zero_le _) ⟨_, _, rfl, G_S72, F_S72, by omega, by omega, R_S72⟩
                          · exfalso; omega
                        · exfalso; omega
                      · exfalso; omega
                    · exfalso; omega
                  · refine zz_if_eq (by omega) zd_14_69_79 (fun c79 => ?_) (fun c79 => ?_)
                    · exfalso; omega
                    · refine zz_iconst zd_14_69_82 ?_
                      refine zz_goto zd_14_69_83 ?_
                      refine zz_istore [some (.ref 1079), some (zi p0), some (zi p1), some (zi p2), some (zi v14), some (zi v15), some (zi 1)] zd_14_69_87 (by decide) rfl ?_
                      refine zz_iload (x := 1) rfl zd_14_69_89 ?_
                      refine zz_if_eq (by omega) zd_14_69_91 (fun c80 => ?_) (fun c80 => ?_)
                      · exfalso; omega
                      · refine zz_aload_n (x := 1079) rfl zd_14_69_94 ?_
                        refine zz_getr (kd := 0) (z := 1102) zd_14_69_95 zf_Md_88 zT_1079 rfl (zz_ltn hn rfl) (zz_G.eq G_S0 1079 37 1102 rfl rfl) (by decide) 1102 rfl ?_
                        refine zz_iload_n (x := p0) rfl zd_14_69_98 ?_
                        have g81 := zz_G.r G_S0 1102 p0.toNat 0 63 rfl rfl
                        refine zz_iald (z := S0 1102 p0.toNat) zd_14_69_99 zT_1102 rfl (zz_ltn hn rfl) (by decide) (by omega) rfl ?_
                        refine zz_iload (x := v14) rfl zd_14_69_100 ?_
                        refine zz_iload_n (x := p2) rfl zd_14_69_102 ?_
                        refine zz_iconst zd_14_69_103 ?_
                        refine zz_callSI [zi (S0 1102 p0.toNat), zi v14, zi p2, zi 0] zd_14_69_104 zk_Md_420 rfl rfl ⟨Nat.le_of_ble_eq_true rfl, Nat.le_of_ble_eq_true rfl⟩ ⟨rfl, rfl⟩ (Nat.zero_le _) (Nat.zero_le _) (zc_resultsOf_14_64 (S0 1102 p0.toNat) v14 p2 0 S0 n hn G_S0 (by omega) (by omega) (by omega) (by omega)) (fun v83 S82 hP => ?_)
                        obtain ⟨rfl, o84, o85, o86⟩ := hP
                        refine zz_goto zd_14_69_107 ?_
                        refine zz_istore [some (.ref 1079), some (zi p0), some (zi p1), some (zi p2), some (zi v14), some (zi v15), some (zi 1), some (zi v83)] zd_14_69_111 (by decide) rfl ?_
                        refine zz_iload (x := 1) rfl zd_14_69_113 ?_
                        refine zz_if_eq (by omega) zd_14_69_115 (fun c87 => ?_) (fun c87 => ?_)
                        · exfalso; omega
                        · refine zz_aload_n (x := 1079) rfl zd_14_69_118 ?_
                          refine zz_getr (kd := 0) (z := 1103) zd_14_69_119 zf_Md_91 zT_1079 rfl (zz_ltn hn rfl) (zz_G.eq G_S0 1079 38 1103 rfl rfl) (by decide) 1103 rfl ?_
                          refine zz_iload_n (x := p0) rfl zd_14_69_122 ?_
                          have g88 := zz_G.r G_S0 1103 p0.toNat 0 63 rfl rfl
                          refine zz_iald (z := S0 1103 p0.toNat) zd_14_69_123 zT_1103 rfl (zz_ltn hn rfl) (by decide) (by omega) rfl ?_
                          refine zz_iload (x := v15) rfl zd_14_69_124 ?_
                          refine zz_iload_n (x := p2) rfl zd_14_69_126 ?_
                          refine zz_iconst zd_14_69_127 ?_
                          refine zz_callSI [zi (S0 1103 p0.toNat), zi v15, zi p2, zi 0] zd_14_69_128 zk_Md_420 rfl rfl ⟨Nat.le_of_ble_eq_true rfl, Nat.le_of_ble_eq_true rfl⟩ ⟨rfl, rfl⟩ (Nat.zero_le _) (Nat.zero_le _) (zc_resultsOf_14_64 (S0 1103 p0.toNat) v15 p2 0 S0 n hn G_S0 (by omega) (by omega) (by omega) (by omega)) (fun v90 S89 hP => ?_)
                          obtain ⟨rfl, o91, o92, o93⟩ := hP
                          refine zz_goto zd_14_69_131 ?_
                          refine zz_istore [some (.ref 1079), some (zi p0), some (zi p1), some (zi p2), some (zi v14), some (zi v15), some (zi 1), some (zi v83), some (zi v90)] zd_14_69_135 (by decide) rfl ?_
                          refine zz_aload_n (x := 1079) rfl zd_14_69_137 ?_
                          refine zz_iconst zd_14_69_138 ?_
                          refine zz_iload (x := v83) rfl zd_14_69_139 ?_
                          refine zz_if_eq (by omega) zd_14_69_141 (fun c94 => ?_) (fun c94 => ?_)
                          · refine zz_iconst zd_14_69_149 ?_
                            refine zz_goto zd_14_69_150 ?_
                            refine zz_iconst zd_14_69_154 ?_
                            refine zz_callVI [zi 0, zi 1, zi 0] zd_14_69_155 zk_Md_196 zT_1079 (zz_ltn hn rfl) rfl rfl ⟨Nat.le_of_ble_eq_true rfl, Nat.le_of_ble_eq_true rfl⟩ ⟨rfl, rfl⟩ (Nat.zero_le _) (Nat.zero_le _) (zc_refuse_14_3 0 1 0 S0 n hn G_S0 (by omega) (by omega) (by omega)) (fun v96 S95 hP => ?_)
                            obtain ⟨G_S95, fS95, o97, o98⟩ := hP
                            have F_S95 := zz_fr.trans F_S0 fS95 rfl zz_nv
                            have R_S95 : zz_Hr S95 := zz_Hr.fr fS95 rfl rfl (fun b j h => h.elim) R_S0
                            rcases (by omega : v96 = 0 ∨ v96 = 1) with rfl | rfl
                            · exfalso; omega
                            · have e99 : S95 1079 0 = 2 := by omega
                              refine zz_if_eq (by omega) zd_14_69_158 (fun c100 => ?_) (fun c100 => ?_)
                              · exfalso; omega
                              · refine zz_iconst zd_14_69_161 ?_
                                have e101 : S95 1079 36 = S0 1079 36 := (zz_rc fS95 rfl rfl (fun h => h) rfl)
                                exact zz_iret zd_14_69_162 rfl (Nat.zero_le _) (Nat.zero_le _) ⟨_, _, rfl, G_S95, F_S95, by omega, by omega, R_S95⟩
                          · refine zz_iload (x := v90) rfl zd_14_69_144 ?_
                            refine zz_if_ne (by omega) zd_14_69_146 (fun c102 => ?_) (fun c102 => ?_)
                            · refine zz_iconst zd_14_69_153 ?_
                              refine zz_iconst zd_14_69_154 ?_
                              refine zz_callVI [zi 0, zi 0, zi 0] zd_14_69_155 zk_Md_196 zT_1079 (zz_ltn hn rfl) rfl rfl ⟨Nat.le_of_ble_eq_true rfl, Nat.le_of_ble_eq_true rfl⟩ ⟨rfl, rfl⟩ (Nat.zero_le _) (Nat.zero_le _) (zc_refuse_14_3 0 0 0 S0 n hn G_S0 (by omega) (by omega) (by omega)) (fun v104 S103 hP => ?_)
                              obtain ⟨G_S103, fS103, o105, o106⟩ := hP
                              have F_S103 := zz_fr.trans F_S0 fS103 rfl zz_nv
                              have R_S103 : zz_Hr S103 := zz_Hr.fr fS103 rfl rfl (fun b j h => h.elim) R_S0
                              rcases (by omega : v104 = 0 ∨ v104 = 1) with rfl | rfl
                              · have e107 : S103 1079 0 = 0 := by omega
                                refine zz_if_eq (by omega) zd_14_69_158 (fun c108 => ?_) (fun c108 => ?_)
                                · refine zz_aload_n (x := 1079) rfl zd_14_69_163 ?_
                                  refine zz_geti (z := S0 1079 36) zd_14_69_164 zf_Md_85 zT_1079 rfl (zz_ltn hn rfl) (zz_rc fS103 rfl rfl (fun h => h) rfl) ?_
                                  refine zz_iconst zd_14_69_167 ?_
                                  refine zz_isub zd_14_69_168 ?_
                                  refine zz_istore [some (.ref 1079), some (zi p0), some (zi p1), some (zi p2), some (zi v14), some (zi v15), some (zi 1), some (zi v83), some (zi v90), some (zi ((S0 1079 36) - 1))] zd_14_69_169 (by decide) rfl ?_
                                  refine zz_aload_n (x := 1079) rfl zd_14_69_171 ?_
                                  refine zz_iconst zd_14_69_172 ?_
                                  refine zz_iload_n (x := p0) rfl zd_14_69_173 ?_
                                  refine zz_iload (x := v83) rfl zd_14_69_174 ?_
                                  refine zz_iload (x := v90) rfl zd_14_69_176 ?_
                                  refine zz_aload_n (x := 1079) rfl zd_14_69_178 ?_
                                  refine zz_getr (kd := 0) (z := 1104) zd_14_69_179 zf_Md_94 zT_1079 rfl (zz_ltn hn rfl) (zz_G.eq G_S103 1079 39 1104 rfl rfl) (by decide) 1104 rfl ?_
                                  refine zz_iload_n (x := p0) rfl zd_14_69_182 ?_
                                  have g109 := zz_G.r G_S0 1104 p0.toNat 0 63 rfl rfl
                                  refine zz_iald (z := S0 1104 p0.toNat) zd_14_69_183 zT_1104 rfl (zz_ltn hn rfl) (by decide) (by omega) (zz_rc fS103 (zz_nc1 rfl) rfl (fun h => h) rfl) ?_
                                  have e110 : S103 1079 36 = S0 1079 36 := (zz_rc fS103 rfl rfl (fun h => h) rfl)
                                  have g111 := zz_G.r G_S0 1105 ((S103 1079 36).toNat) (0) (if (S103 1079 36).toNat = 0 then 0 else 10000000) rfl rfl
                                  have e112 : S103 1105 (S103 1079 36).toNat = S0 1105 (S103 1079 36).toNat := (zz_rc fS103 (zz_nc1 rfl) rfl (fun h => h) rfl)
                                  refine zz_callVI [zi 1, zi p0, zi v83, zi v90, zi (S0 1104 p0.toNat)] zd_14_69_184 zk_Md_426 zT_1079 (zz_ltn hn rfl) rfl rfl ⟨Nat.le_of_ble_eq_true rfl, Nat.le_of_ble_eq_true rfl⟩ ⟨rfl, rfl⟩ (Nat.zero_le _) (Nat.zero_le _) (zc_add_14_65 1 p0 v83 v90 (S0 1104 p0.toNat) S103 n hn G_S103 (by omega) (by omega) (by omega) (by omega) (by omega) (by omega)) (fun v114 S113 hP => ?_)
                                  obtain ⟨G_S113, fS113, o115, o116, o117, o118⟩ := hP
                                  rw [show S103 1079 36 = S0 1079 36 from (zz_rc fS103 rfl rfl (fun h => h) rfl)] at o116
                                  rw [show S103 1079 36 = S0 1079 36 from (zz_rc fS103 rfl rfl (fun h => h) rfl)] at o118
                                  rw [show S103 1079 36 = S0 1079 36 from (zz_rc fS103 rfl rfl (fun h => h) rfl)] at fS113
                                  have F_S113 := zz_fr.trans F_S103 fS113 rfl (fun a i h => by rcases h with h | h | h | h | h | h; exact Or.inr (Or.inr (Or.inl h)); exact Or.inr (Or.inr (Or.inr (Or.inl h))); exact Or.inr (Or.inr (Or.inr (Or.inr (Or.inl h)))); exact Or.inr (Or.inr (Or.inr (Or.inr (Or.inr (Or.inl h))))); exact Or.inr (Or.inr (Or.inr (Or.inr (Or.inr (Or.inr (Or.inl h)))))); exact Or.inr (Or.inr (Or.inr (Or.inr (Or.inr (Or.inr (Or.inr (Or.inl h))))))))
                                  refine zz_istore [some (.ref 1079), some (zi p0), some (zi p1), some (zi p2), some (zi v14), some (zi v15), some (zi 1), some (zi v83), some (zi v90), some (zi ((S0 1079 36) - 1)), some (zi v114)] zd_14_69_187 (by decide) rfl ?_
                                  refine zz_aload_n (x := 1079) rfl zd_14_69_189 ?_
                                  have g119 := zz_G.r G_S113 1079 0 0 3 rfl rfl
                                  refine zz_geti (z := S113 1079 0) zd_14_69_190 zf_Md_187 zT_1079 rfl (zz_ltn hn rfl) rfl ?_
                                  refine zz_if_le (by omega) zd_14_69_193 (fun c120 => ?_) (fun c120 => ?_)
                                  · refine zz_aload_n (x := 1079) rfl zd_14_69_198 ?_
                                    refine zz_iload (x := (S0 1079 36) - 1) rfl zd_14_69_199 ?_
                                    refine zz_iload (x := v14) rfl zd_14_69_201 ?_
                                    refine zz_iload (x := v15) rfl zd_14_69_203 ?_
                                    refine zz_iload_n (x := p2) rfl zd_14_69_205 ?_
                                    refine zz_iconst zd_14_69_206 ?_
                                    refine zz_iconst zd_14_69_207 ?_
                                    refine zz_callVV [zi ((S0 1079 36) - 1), zi v14, zi v15, zi p2, zi 0, zi 0] zd_14_69_208 zk_Md_430 zT_1079 (zz_ltn hn rfl) rfl rfl ⟨Nat.le_of_ble_eq_true rfl, Nat.le_of_ble_eq_true rfl⟩ ⟨rfl, rfl⟩ (Nat.zero_le _) (Nat.zero_le _) (zc_setLayer_14_68 ((S0 1079 36) - 1) v14 v15 p2 0 0 S113 n hn G_S113 (by omega) (by omega) (by omega) (by omega) (by omega) (by omega)) (fun S121 hP => ?_)
                                    obtain ⟨G_S121, fS121, o123⟩ := hP
                                    have F_S121 := zz_fr.trans F_S113 fS121 rfl (fun a i h => by rcases h with h | h | h | h | h; exact Or.inr (Or.inr (Or.inr (Or.inr (Or.inr (Or.inr (Or.inr (Or.inr (Or.inl h)))))))); exact Or.inr (Or.inr (Or.inr (Or.inr (Or.inr (Or.inr (Or.inr (Or.inr (Or.inr (Or.inl h))))))))); exact Or.inr (Or.inr (Or.inr (Or.inr (Or.inr (Or.inr (Or.inr (Or.inr (Or.inr (Or.inr (Or.inl h)))))))))); exact Or.inr (Or.inr (Or.inr (Or.inr (Or.inr (Or.inr (Or.inr (Or.inr (Or.inr (Or.inr (Or.inr (Or.inl h))))))))))); exact Or.inr (Or.inr (Or.inr (Or.inr (Or.inr (Or.inr (Or.inr (Or.inr (Or.inr (Or.inr (Or.inr (Or.inr (h)))))))))))))
                                    refine zz_iload (x := v114) rfl zd_14_69_211 ?_
                                    have g124 := zz_G.r G_S113 1079 36 0 11 rfl rfl
                                    have e125 : S121 1079 36 = S113 1079 36 := (zz_rc fS121 rfl rfl (by omega) rfl)
                                    have ha9 := o118 (by omega)
                                    have g126 := zz_G.r G_S113 1102 ((S0 1079 36).toNat) 0 63 rfl rfl
                                    have e127 : S121 1102 (S0 1079 36).toNat = S113 1102 (S0 1079 36).toNat := (zz_rc fS121 (zz_nc1 rfl) rfl (by omega) rfl)
                                    have g128 := zz_G.r G_S113 1103 ((S0 1079 36).toNat) 0 63 rfl rfl
                                    have e129 : S121 1103 (S0 1079 36).toNat = S113 1103 (S0 1079 36).toNat := (zz_rc fS121 (zz_nc1 rfl) rfl (by omega) rfl)
                                    have g130 := zz_G.r G_S113 1104 ((S0 1079 36).toNat) 0 63 rfl rfl
                                    have e131 : S121 1104 (S0 1079 36).toNat = S113 1104 (S0 1079 36).toNat := (zz_rc fS121 (zz_nc1 rfl) rfl (by omega) rfl)
                                    have g132 := zz_G.r G_S113 1105 ((S0 1079 36).toNat) (0) (if (S0 1079 36).toNat = 0 then 0 else 10000000) rfl rfl
                                    have e133 : S121 1105 (S0 1079 36).toNat = S113 1105 (S0 1079 36).toNat := (zz_rc fS121 (zz_nc1 rfl) rfl (by omega) rfl)
                                    have g134 := zz_G.r G_S113 1106 ((S0 1079 36 - 1).toNat) 0 2 rfl rfl
                                    have e135 : S121 1106 (S0 1079 36 - 1).toNat = S113 1106 (S0 1079 36 - 1).toNat := (zz_rc fS121 (zz_nc1 rfl) rfl (by omega) rfl)
                                    have g136 := zz_G.r G_S113 1107 ((S0 1079 36 - 1).toNat) 0 10 rfl rfl
                                    have e137 : S121 1107 (S0 1079 36 - 1).toNat = S113 1107 (S0 1079 36 - 1).toNat := (zz_rc fS121 (zz_nc1 rfl) rfl (by omega) rfl)
                                    have g138 := zz_G.r G_S0 1108 ((S0 1079 36 - 1).toNat) 0 10 rfl rfl
                                    have e139 : S121 1108 (S0 1079 36 - 1).toNat = S0 1108 (S0 1079 36 - 1).toNat := (zz_rc fS121 (zz_nc1 rfl) rfl (by omega) (zz_rc fS113 (zz_nc1 rfl) rfl (by omega) (zz_rc fS103 (zz_nc1 rfl) rfl (fun h => h) rfl)))
                                    have g140 := zz_G.r G_S121 1109 ((S0 1079 36 - 1).toNat) 0 3 rfl rfl
                                    have g141 := zz_G.r G_S121 1110 ((S0 1079 36 - 1).toNat) 0 3 rfl rfl
                                    have g142 := zz_G.r G_S121 1111 ((S0 1079 36 - 1).toNat) 0 3 rfl rfl
                                    have g143 := zz_G.r G_S0 1114 ((S0 1079 36 - 1).toNat) 0 4096 rfl rfl
                                    have e144 : S121 1114 (S0 1079 36 - 1).toNat = S0 1114 (S0 1079 36 - 1).toNat := (zz_rc fS121 (zz_nc1 rfl) rfl (by omega) (zz_rc fS113 (zz_nc1 rfl) rfl (by omega) (zz_rc fS103 (zz_nc1 rfl) rfl (fun h => h) rfl)))
                                    exact zz_iret zd_14_69_213 rfl (Nat.zero_le _) (Nat.zero_le _) ⟨_, _, rfl, G_S121, F_S121, by omega, by omega, (zz_Hr.add (T := (S0 1079 36).toNat) (l := (S0 1079 36 - 1).toNat) F_S121 rfl rfl (fun a i h => by omega) R_S0 (by omega) (by omega) (by omega) (by unfold zz_tn zz_sz; rw [show S121 1102 (S0 1079 36).toNat = v83 by omega, show S121 1103 (S0 1079 36).toNat = v90 by omega, show S121 1104 (S0 1079 36).toNat = S0 1104 p0.toNat by omega, show S121 1105 (S0 1079 36).toNat = S0 1105 (S0 1079 36).toNat by omega]; omega) (by unfold zz_la; rw [show S121 1106 (S0 1079 36 - 1).toNat = 1 by omega, show S121 1107 (S0 1079 36 - 1).toNat = p0 by omega, show S121 1109 (S0 1079 36 - 1).toNat = v14 by omega, show S121 1110 (S0 1079 36 - 1).toNat = v15 by omega, show S121 1111 (S0 1079 36 - 1).toNat = p2 by omega, show S121 1102 ((S0 1079 36 - 1).toNat + 1) = v83 by rw [show (S0 1079 36 - 1).toNat + 1 = (S0 1079 36).toNat by omega]; omega, show S121 1103 ((S0 1079 36 - 1).toNat + 1) = v90 by rw [show (S0 1079 36 - 1).toNat + 1 = (S0 1079 36).toNat by omega]; omega, show S121 1104 ((S0 1079 36 - 1).toNat + 1) = S0 1104 p0.toNat by rw [show (S0 1079 36 - 1).toNat + 1 = (S0 1079 36).toNat by omega]; omega, show S121 1102 p0.toNat = S0 1102 p0.toNat from F_S121 1102 p0.toNat (zz_nc1 rfl) rfl (by omega), show S121 1103 p0.toNat = S0 1103 p0.toNat from F_S121 1103 p0.toNat (zz_nc1 rfl) rfl (by omega), show S121 1104 p0.toNat = S0 1104 p0.toNat from F_S121 1104 p0.toNat (zz_nc1 rfl) rfl (by omega)]; exact ⟨by omega, fun h => absurd h (by decide), fun _ => ⟨by omega, by omega, by omega, by omega⟩, fun h => absurd h (by decide)⟩))⟩
                                  · refine zz_iconst zd_14_69_196 ?_
                                    have g145 := zz_G.r G_S113 1079 36 0 11 rfl rfl
                                    exact zz_iret zd_14_69_197 rfl (Nat.zero_le _) (Nat.zero_le _) ⟨_, _, rfl, G_S113, F_S113, by omega, by omega, (o117 (by omega) R_S103)⟩
                                · exfalso; omega
                              · exfalso; omega
                            · refine zz_iconst zd_14_69_149 ?_
                              refine zz_goto zd_14_69_150 ?_
                              refine zz_iconst zd_14_69_154 ?_
                              refine zz_callVI [zi 0, zi 1, zi 0] zd_14_69_155 zk_Md_196 zT_1079 (zz_ltn hn rfl) rfl rfl ⟨Nat.le_of_ble_eq_true rfl, Nat.le_of_ble_eq_true rfl⟩ ⟨rfl, rfl⟩ (Nat.zero_le _) (Nat.zero_le _) (zc_refuse_14_3 0 1 0 S0 n hn G_S0 (by omega) (by omega) (by omega)) (fun v147 S146 hP => ?_)
                              obtain ⟨G_S146, fS146, o148, o149⟩ := hP
                              have F_S146 := zz_fr.trans F_S0 fS146 rfl zz_nv
                              have R_S146 : zz_Hr S146 := zz_Hr.fr fS146 rfl rfl (fun b j h => h.elim) R_S0
                              rcases (by omega : v147 = 0 ∨ v147 = 1) with rfl | rfl
                              · exfalso; omega
                              · have e150 : S146 1079 0 = 2 := by omega
                                refine zz_if_eq (by omega) zd_14_69_158 (fun c151 => ?_) (fun c151 => ?_)
                                · exfalso; omega
                                · refine zz_iconst zd_14_69_161 ?_
                                  have e152 : S146 1079 36 = S0 1079 36 := (zz_rc fS146 rfl rfl (fun h => h) rfl)
                                  exact zz_iret zd_14_69_162 rfl (Nat.zero_le _) (Nat.zero_le _) ⟨_, _, rfl, G_S146, F_S146, by omega, by omega, R_S146⟩
    · exfalso; omega
abbrev zy_addition_14_70 : mm_Y := (⟨"TensorForgeModel", "addition", "(III)I"⟩, prog_14_method_70_code, 7, (some .int))
theorem zyw_addition_14_70 : mm_Yw zy_addition_14_70 3 := ⟨mm_tb_1 2108 (by decide +kernel) rfl, mm_tb_1 12 (by decide +kernel) rfl, ⟨by decide, by decide⟩, by decide +kernel⟩
theorem zd_14_70_0 : zz_D zy_addition_14_70 0 (.aload_n 0) 1 1 := ⟨by decide +kernel, rfl⟩
theorem zd_14_70_1 : zz_D zy_addition_14_70 1 (.iload_n 1) 1 2 := ⟨by decide +kernel, rfl⟩
theorem zd_14_70_2 : zz_D zy_addition_14_70 2 (.invokevirtual 411) 3 5 := ⟨by decide +kernel, rfl⟩
theorem zd_14_70_5 : zz_B zy_addition_14_70 5 (Instr.ifCond .eq) 16 8 := ⟨11, by decide +kernel, rfl, rfl⟩
theorem zd_14_70_16 : zz_D zy_addition_14_70 16 (.aload_n 0) 1 17 := ⟨by decide +kernel, rfl⟩
theorem zd_14_70_17 : zz_D zy_addition_14_70 17 (.iconst 1) 1 18 := ⟨by decide +kernel, rfl⟩
theorem zd_14_70_18 : zz_D zy_addition_14_70 18 (.iconst 0) 1 19 := ⟨by decide +kernel, rfl⟩
theorem zd_14_70_19 : zz_D zy_addition_14_70 19 (.iconst 0) 1 20 := ⟨by decide +kernel, rfl⟩
theorem zd_14_70_20 : zz_D zy_addition_14_70 20 (.invokevirtual 196) 3 23 := ⟨by decide +kernel, rfl⟩
theorem zd_14_70_23 : zz_D zy_addition_14_70 23 (.pop) 1 24 := ⟨by decide +kernel, rfl⟩
theorem zd_14_70_24 : zz_D zy_addition_14_70 24 (.iconst 0) 1 25 := ⟨by decide +kernel, rfl⟩
theorem zd_14_70_25 : zz_D zy_addition_14_70 25 (.ireturn) 1 26 := ⟨by decide +kernel, rfl⟩
theorem zd_14_70_8 : zz_D zy_addition_14_70 8 (.aload_n 0) 1 9 := ⟨by decide +kernel, rfl⟩
theorem zd_14_70_9 : zz_D zy_addition_14_70 9 (.iload_n 2) 1 10 := ⟨by decide +kernel, rfl⟩
theorem zd_14_70_10 : zz_D zy_addition_14_70 10 (.invokevirtual 411) 3 13 := ⟨by decide +kernel, rfl⟩
theorem zd_14_70_13 : zz_B zy_addition_14_70 13 (Instr.ifCond .ne) 26 16 := ⟨13, by decide +kernel, rfl, rfl⟩
theorem zd_14_70_26 : zz_D zy_addition_14_70 26 (.aload_n 0) 1 27 := ⟨by decide +kernel, rfl⟩
theorem zd_14_70_27 : zz_D zy_addition_14_70 27 (.getfield 88) 3 30 := ⟨by decide +kernel, rfl⟩
theorem zd_14_70_30 : zz_D zy_addition_14_70 30 (.iload_n 1) 1 31 := ⟨by decide +kernel, rfl⟩
theorem zd_14_70_31 : zz_D zy_addition_14_70 31 (.iaload) 1 32 := ⟨by decide +kernel, rfl⟩
theorem zd_14_70_32 : zz_D zy_addition_14_70 32 (.aload_n 0) 1 33 := ⟨by decide +kernel, rfl⟩
theorem zd_14_70_33 : zz_D zy_addition_14_70 33 (.getfield 88) 3 36 := ⟨by decide +kernel, rfl⟩
theorem zd_14_70_36 : zz_D zy_addition_14_70 36 (.iload_n 2) 1 37 := ⟨by decide +kernel, rfl⟩
theorem zd_14_70_37 : zz_D zy_addition_14_70 37 (.iaload) 1 38 := ⟨by decide +kernel, rfl⟩
theorem zd_14_70_38 : zz_B zy_addition_14_70 38 (Instr.if_icmp .ne) 75 41 := ⟨37, by decide +kernel, rfl, rfl⟩
theorem zd_14_70_75 : zz_D zy_addition_14_70 75 (.iconst 0) 1 76 := ⟨by decide +kernel, rfl⟩
theorem zd_14_70_76 : zz_D zy_addition_14_70 76 (.istore 4) 2 78 := ⟨by decide +kernel, rfl⟩
theorem zd_14_70_78 : zz_D zy_addition_14_70 78 (.aload_n 0) 1 79 := ⟨by decide +kernel, rfl⟩
theorem zd_14_70_79 : zz_D zy_addition_14_70 79 (.iconst 0) 1 80 := ⟨by decide +kernel, rfl⟩
theorem zd_14_70_80 : zz_D zy_addition_14_70 80 (.iload 4) 2 82 := ⟨by decide +kernel, rfl⟩
theorem zd_14_70_82 : zz_B zy_addition_14_70 82 (Instr.ifCond .eq) 97 85 := ⟨15, by decide +kernel, rfl, rfl⟩
theorem zd_14_70_97 : zz_D zy_addition_14_70 97 (.iconst 1) 1 98 := ⟨by decide +kernel, rfl⟩
theorem zd_14_70_98 : zz_B zy_addition_14_70 98 Instr.goto 102 101 := ⟨4, by decide +kernel, rfl, rfl⟩
theorem zd_14_70_102 : zz_D zy_addition_14_70 102 (.iconst 0) 1 103 := ⟨by decide +kernel, rfl⟩
theorem zd_14_70_103 : zz_D zy_addition_14_70 103 (.invokevirtual 196) 3 106 := ⟨by decide +kernel, rfl⟩
theorem zd_14_70_106 : zz_B zy_addition_14_70 106 (Instr.ifCond .eq) 111 109 := ⟨5, by decide +kernel, rfl, rfl⟩
theorem zd_14_70_109 : zz_D zy_addition_14_70 109 (.iconst 0) 1 110 := ⟨by decide +kernel, rfl⟩
theorem zd_14_70_110 : zz_D zy_addition_14_70 110 (.ireturn) 1 111 := ⟨by decide +kernel, rfl⟩
theorem zd_14_70_41 : zz_D zy_addition_14_70 41 (.aload_n 0) 1 42 := ⟨by decide +kernel, rfl⟩
theorem zd_14_70_42 : zz_D zy_addition_14_70 42 (.getfield 91) 3 45 := ⟨by decide +kernel, rfl⟩
theorem zd_14_70_45 : zz_D zy_addition_14_70 45 (.iload_n 1) 1 46 := ⟨by decide +kernel, rfl⟩
theorem zd_14_70_46 : zz_D zy_addition_14_70 46 (.iaload) 1 47 := ⟨by decide +kernel, rfl⟩
theorem zd_14_70_47 : zz_D zy_addition_14_70 47 (.aload_n 0) 1 48 := ⟨by decide +kernel, rfl⟩
theorem zd_14_70_48 : zz_D zy_addition_14_70 48 (.getfield 91) 3 51 := ⟨by decide +kernel, rfl⟩
theorem zd_14_70_51 : zz_D zy_addition_14_70 51 (.iload_n 2) 1 52 := ⟨by decide +kernel, rfl⟩
theorem zd_14_70_52 : zz_D zy_addition_14_70 52 (.iaload) 1 53 := ⟨by decide +kernel, rfl⟩
theorem zd_14_70_53 : zz_B zy_addition_14_70 53 (Instr.if_icmp .ne) 75 56 := ⟨22, by decide +kernel, rfl, rfl⟩
theorem zd_14_70_56 : zz_D zy_addition_14_70 56 (.aload_n 0) 1 57 := ⟨by decide +kernel, rfl⟩
theorem zd_14_70_57 : zz_D zy_addition_14_70 57 (.getfield 94) 3 60 := ⟨by decide +kernel, rfl⟩
theorem zd_14_70_60 : zz_D zy_addition_14_70 60 (.iload_n 1) 1 61 := ⟨by decide +kernel, rfl⟩
theorem zd_14_70_61 : zz_D zy_addition_14_70 61 (.iaload) 1 62 := ⟨by decide +kernel, rfl⟩
theorem zd_14_70_62 : zz_D zy_addition_14_70 62 (.aload_n 0) 1 63 := ⟨by decide +kernel, rfl⟩
theorem zd_14_70_63 : zz_D zy_addition_14_70 63 (.getfield 94) 3 66 := ⟨by decide +kernel, rfl⟩
theorem zd_14_70_66 : zz_D zy_addition_14_70 66 (.iload_n 2) 1 67 := ⟨by decide +kernel, rfl⟩
theorem zd_14_70_67 : zz_D zy_addition_14_70 67 (.iaload) 1 68 := ⟨by decide +kernel, rfl⟩
theorem zd_14_70_68 : zz_B zy_addition_14_70 68 (Instr.if_icmp .ne) 75 71 := ⟨7, by decide +kernel, rfl, rfl⟩
theorem zd_14_70_71 : zz_D zy_addition_14_70 71 (.iconst 1) 1 72 := ⟨by decide +kernel, rfl⟩
theorem zd_14_70_72 : zz_B zy_addition_14_70 72 Instr.goto 76 75 := ⟨4, by decide +kernel, rfl, rfl⟩
theorem zd_14_70_85 : zz_D zy_addition_14_70 85 (.iload_n 3) 1 86 := ⟨by decide +kernel, rfl⟩
theorem zd_14_70_86 : zz_D zy_addition_14_70 86 (.i2l) 1 87 := ⟨by decide +kernel, rfl⟩
theorem zd_14_70_87 : zz_D zy_addition_14_70 87 (.lconst 0) 1 88 := ⟨by decide +kernel, rfl⟩
theorem zd_14_70_88 : zz_D zy_addition_14_70 88 (.ldc2_w 357) 3 91 := ⟨by decide +kernel, rfl⟩
theorem zd_14_70_91 : zz_D zy_addition_14_70 91 (.invokestatic 192) 3 94 := ⟨by decide +kernel, rfl⟩
theorem zd_14_70_94 : zz_B zy_addition_14_70 94 (Instr.ifCond .ne) 101 97 := ⟨7, by decide +kernel, rfl, rfl⟩
theorem zd_14_70_101 : zz_D zy_addition_14_70 101 (.iconst 0) 1 102 := ⟨by decide +kernel, rfl⟩
theorem zd_14_70_111 : zz_D zy_addition_14_70 111 (.aload_n 0) 1 112 := ⟨by decide +kernel, rfl⟩
theorem zd_14_70_112 : zz_D zy_addition_14_70 112 (.getfield 85) 3 115 := ⟨by decide +kernel, rfl⟩
theorem zd_14_70_115 : zz_D zy_addition_14_70 115 (.iconst 1) 1 116 := ⟨by decide +kernel, rfl⟩
theorem zd_14_70_116 : zz_D zy_addition_14_70 116 (.isub) 1 117 := ⟨by decide +kernel, rfl⟩
theorem zd_14_70_117 : zz_D zy_addition_14_70 117 (.istore 5) 2 119 := ⟨by decide +kernel, rfl⟩
theorem zd_14_70_119 : zz_D zy_addition_14_70 119 (.aload_n 0) 1 120 := ⟨by decide +kernel, rfl⟩
theorem zd_14_70_120 : zz_D zy_addition_14_70 120 (.iconst 2) 1 121 := ⟨by decide +kernel, rfl⟩
theorem zd_14_70_121 : zz_D zy_addition_14_70 121 (.iload_n 1) 1 122 := ⟨by decide +kernel, rfl⟩
theorem zd_14_70_122 : zz_D zy_addition_14_70 122 (.aload_n 0) 1 123 := ⟨by decide +kernel, rfl⟩
theorem zd_14_70_123 : zz_D zy_addition_14_70 123 (.getfield 88) 3 126 := ⟨by decide +kernel, rfl⟩
theorem zd_14_70_126 : zz_D zy_addition_14_70 126 (.iload_n 1) 1 127 := ⟨by decide +kernel, rfl⟩
theorem zd_14_70_127 : zz_D zy_addition_14_70 127 (.iaload) 1 128 := ⟨by decide +kernel, rfl⟩
theorem zd_14_70_128 : zz_D zy_addition_14_70 128 (.aload_n 0) 1 129 := ⟨by decide +kernel, rfl⟩
theorem zd_14_70_129 : zz_D zy_addition_14_70 129 (.getfield 91) 3 132 := ⟨by decide +kernel, rfl⟩
theorem zd_14_70_132 : zz_D zy_addition_14_70 132 (.iload_n 1) 1 133 := ⟨by decide +kernel, rfl⟩
theorem zd_14_70_133 : zz_D zy_addition_14_70 133 (.iaload) 1 134 := ⟨by decide +kernel, rfl⟩
theorem zd_14_70_134 : zz_D zy_addition_14_70 134 (.aload_n 0) 1 135 := ⟨by decide +kernel, rfl⟩
theorem zd_14_70_135 : zz_D zy_addition_14_70 135 (.getfield 94) 3 138 := ⟨by decide +kernel, rfl⟩
theorem zd_14_70_138 : zz_D zy_addition_14_70 138 (.iload_n 1) 1 139 := ⟨by decide +kernel, rfl⟩
theorem zd_14_70_139 : zz_D zy_addition_14_70 139 (.iaload) 1 140 := ⟨by decide +kernel, rfl⟩
theorem zd_14_70_140 : zz_D zy_addition_14_70 140 (.invokevirtual 426) 3 143 := ⟨by decide +kernel, rfl⟩
theorem zd_14_70_143 : zz_D zy_addition_14_70 143 (.istore 6) 2 145 := ⟨by decide +kernel, rfl⟩
theorem zd_14_70_145 : zz_D zy_addition_14_70 145 (.aload_n 0) 1 146 := ⟨by decide +kernel, rfl⟩
theorem zd_14_70_146 : zz_D zy_addition_14_70 146 (.getfield 187) 3 149 := ⟨by decide +kernel, rfl⟩
theorem zd_14_70_149 : zz_B zy_addition_14_70 149 (Instr.ifCond .le) 154 152 := ⟨5, by decide +kernel, rfl, rfl⟩
theorem zd_14_70_154 : zz_D zy_addition_14_70 154 (.aload_n 0) 1 155 := ⟨by decide +kernel, rfl⟩
theorem zd_14_70_155 : zz_D zy_addition_14_70 155 (.getfield 106) 3 158 := ⟨by decide +kernel, rfl⟩
theorem zf_Md_106 : mm_Fl "TensorForgeModel" 106 11 43 (.array .int) true := ⟨R_Md, F_Md, 69, t_Md, rfl, i_Md, by decide, mm_tb_1 1654 (by decide +kernel) rfl, rfl, t_Md_ok, n_Md, rfl, by decide +kernel⟩
theorem zd_14_70_158 : zz_D zy_addition_14_70 158 (.iload 5) 2 160 := ⟨by decide +kernel, rfl⟩
theorem zd_14_70_160 : zz_D zy_addition_14_70 160 (.iload_n 2) 1 161 := ⟨by decide +kernel, rfl⟩
theorem zd_14_70_161 : zz_D zy_addition_14_70 161 (.iastore) 1 162 := ⟨by decide +kernel, rfl⟩
theorem zd_14_70_162 : zz_D zy_addition_14_70 162 (.aload_n 0) 1 163 := ⟨by decide +kernel, rfl⟩
theorem zd_14_70_163 : zz_D zy_addition_14_70 163 (.iload 5) 2 165 := ⟨by decide +kernel, rfl⟩
theorem zd_14_70_165 : zz_D zy_addition_14_70 165 (.iconst 1) 1 166 := ⟨by decide +kernel, rfl⟩
theorem zd_14_70_166 : zz_D zy_addition_14_70 166 (.iconst 1) 1 167 := ⟨by decide +kernel, rfl⟩
theorem zd_14_70_167 : zz_D zy_addition_14_70 167 (.iconst 1) 1 168 := ⟨by decide +kernel, rfl⟩
theorem zd_14_70_168 : zz_D zy_addition_14_70 168 (.iconst 0) 1 169 := ⟨by decide +kernel, rfl⟩
theorem zd_14_70_169 : zz_D zy_addition_14_70 169 (.iload_n 3) 1 170 := ⟨by decide +kernel, rfl⟩
theorem zd_14_70_170 : zz_D zy_addition_14_70 170 (.invokevirtual 430) 3 173 := ⟨by decide +kernel, rfl⟩
theorem zd_14_70_173 : zz_D zy_addition_14_70 173 (.iload 6) 2 175 := ⟨by decide +kernel, rfl⟩
theorem zd_14_70_175 : zz_D zy_addition_14_70 175 (.ireturn) 1 176 := ⟨by decide +kernel, rfl⟩
theorem zd_14_70_152 : zz_D zy_addition_14_70 152 (.iconst 0) 1 153 := ⟨by decide +kernel, rfl⟩
theorem zd_14_70_153 : zz_D zy_addition_14_70 153 (.ireturn) 1 154 := ⟨by decide +kernel, rfl⟩
-- TensorForgeModel addition (III)I
abbrev zr_addition_14_70 : Room := { frames := 2, cells := 0, slots := 0, locals := 33 }
def zp_addition_14_70 (p0 : Int) (p1 : Int) (p2 : Int) (S0 : zz_S) : Int → zz_S → Prop := fun r S => zz_G S ∧ zz_fr [(1079, 0), (1079, 36)] [] (fun a i => (a = 1102 ∧ i = (S0 1079 36).toNat) ∨ (a = 1103 ∧ i = (S0 1079 36).toNat) ∨ (a = 1104 ∧ i = (S0 1079 36).toNat) ∨ (a = 1105 ∧ i = ((S0 1079 36) + 1).toNat) ∨ (a = 1106 ∧ i = ((S0 1079 36) - 1).toNat) ∨ (a = 1107 ∧ i = ((S0 1079 36) - 1).toNat) ∨ (a = 1108 ∧ i = ((S0 1079 36) - 1).toNat) ∨ (a = 1109 ∧ i = ((S0 1079 36) - 1).toNat) ∨ (a = 1110 ∧ i = ((S0 1079 36) - 1).toNat) ∨ (a = 1111 ∧ i = ((S0 1079 36) - 1).toNat) ∨ (a = 1112 ∧ i = ((S0 1079 36) - 1).toNat) ∨ (a = 1113 ∧ i = ((S0 1079 36) - 1).toNat)) S0 S ∧ (0 ≤ r ∧ r ≤ 10) ∧ (S 1079 36 ≥ S0 1079 36) ∧ (zz_Hr S)
theorem zc_addition_14_70 {g : mm_G} {l : Launch} (p0 : Int) (p1 : Int) (p2 : Int) (S0 : zz_S) (n : Nat) (hn : zz_end ≤ n) (G_S0 : zz_G S0) (hp0 : (-2147483648) ≤ p0 ∧ p0 ≤ 2147483647) (hp1 : (-2147483648) ≤ p1 ∧ p1 ≤ 2147483647) (hp2 : (-2147483648) ≤ p2 ∧ p2 ≤ 2147483647) (R_S0 : zz_Hr S0) : mm_Met g l zy_addition_14_70 zr_addition_14_70 [.ref 1079, zi p0, zi p1, zi p2] (zz_M S0 n) n (zz_QI n (zp_addition_14_70 p0 p1 p2 S0)) := by
  refine zz_enter (by decide) (Nat.le_of_ble_eq_true rfl) (zz_less (ls1 := [some (.ref 1079), some (zi p0), some (zi p1), some (zi p2)]) ⟨rfl, ⟨rfl, ⟨rfl, ⟨rfl, trivial⟩⟩⟩⟩ ?_)
  have F_S0 : zz_fr [(1079, 0), (1079, 36)] [] (fun a i => (a = 1102 ∧ i = (S0 1079 36).toNat) ∨ (a = 1103 ∧ i = (S0 1079 36).toNat) ∨ (a = 1104 ∧ i = (S0 1079 36).toNat) ∨ (a = 1105 ∧ i = ((S0 1079 36) + 1).toNat) ∨ (a = 1106 ∧ i = ((S0 1079 36) - 1).toNat) ∨ (a = 1107 ∧ i = ((S0 1079 36) - 1).toNat) ∨ (a = 1108 ∧ i = ((S0 1079 36) - 1).toNat) ∨ (a = 1109 ∧ i = ((S0 1079 36) - 1).toNat) ∨ (a = 1110 ∧ i = ((S0 1079 36) - 1).toNat) ∨ (a = 1111 ∧ i = ((S0 1079 36) - 1).toNat) ∨ (a = 1112 ∧ i = ((S0 1079 36) - 1).toNat) ∨ (a = 1113 ∧ i = ((S0 1079 36) - 1).toNat)) S0 S0 := zz_fr.refl
  refine zz_aload_n (x := 1079) rfl zd_14_70_0 ?_
  refine zz_iload_n (x := p0) rfl zd_14_70_1 ?_
  have g1 := zz_G.r G_S0 1079 36 0 11 rfl rfl
  refine zz_callVI [zi p0] zd_14_70_2 zk_Md_411 zT_1079 (zz_ltn hn rfl) rfl rfl ⟨Nat.le_of_ble_eq_true rfl, Nat.le_of_ble_eq_true rfl⟩ ⟨rfl, rfl⟩ (Nat.zero_le _) (Nat.zero_le _) (zc_isTensor_14_66 p0 S0 n hn G_S0 (by omega)) (fun v3 S2 hP => ?_)
  obtain ⟨rfl, o4, o5⟩ := hP
  rcases (by omega : v3 = 0 ∨ v3 = 1) with rfl | rfl
  · refine zz_if_eq (by omega) zd_14_70_5 (fun c6 => ?_) (fun c6 => ?_)
    · refine zz_aload_n (x := 1079) rfl zd_14_70_16 ?_
      refine zz_iconst zd_14_70_17 ?_
      refine zz_iconst zd_14_70_18 ?_
      refine zz_iconst zd_14_70_19 ?_
      refine zz_callVI [zi 1, zi 0, zi 0] zd_14_70_20 zk_Md_196 zT_1079 (zz_ltn hn rfl) rfl rfl ⟨Nat.le_of_ble_eq_true rfl, Nat.le_of_ble_eq_true rfl⟩ ⟨rfl, rfl⟩ (Nat.zero_le _) (Nat.zero_le _) (zc_refuse_14_3 1 0 0 S0 n hn G_S0 (by omega) (by omega) (by omega)) (fun v8 S7 hP => ?_)
      obtain ⟨G_S7, fS7, o9, o10⟩ := hP
      have F_S7 := zz_fr.trans F_S0 fS7 rfl zz_nv
      have R_S7 : zz_Hr S7 := zz_Hr.fr fS7 rfl rfl (fun b j h => h.elim) R_S0
      rcases (by omega : v8 = 0 ∨ v8 = 1) with rfl | rfl
      · exfalso; omega
      · have e11 : S7 1079 0 = 1 := by omega
        refine zz_pop rfl zd_14_70_23 ?_
        refine zz_iconst zd_14_70_24 ?_
        have e12 : S7 1079 36 = S0 1079 36 := (zz_rc fS7 rfl rfl (fun h => h) rfl)
        exact zz_iret zd_14_70_25 rfl (Nat.zero_le _) (Nat.zero_le _) ⟨_, _, rfl, G_S7, F_S7, by omega, by omega, R_S7⟩
    · exfalso; omega
  · refine zz_if_eq (by omega) zd_14_70_5 (fun c13 => ?_) (fun c13 => ?_)
    · exfalso; omega
    · refine zz_aload_n (x := 1079) rfl zd_14_70_8 ?_
      refine zz_iload_n (x := p1) rfl zd_14_70_9 ?_
      refine zz_callVI [zi p1] zd_14_70_10 zk_Md_411 zT_1079 (zz_ltn hn rfl) rfl rfl ⟨Nat.le_of_ble_eq_true rfl, Nat.le_of_ble_eq_true rfl⟩ ⟨rfl, rfl⟩ (Nat.zero_le _) (Nat.zero_le _) (zc_isTensor_14_66 p1 S0 n hn G_S0 (by omega)) (fun v15 S14 hP => ?_)
      obtain ⟨rfl, o16, o17⟩ := hP
      rcases (by omega : v15 = 0 ∨ v15 = 1) with rfl | rfl
      · refine zz_if_ne (by omega) zd_14_70_13 (fun c18 => ?_) (fun c18 => ?_)
        · exfalso; omega
        · refine zz_aload_n (x := 1079) rfl zd_14_70_16 ?_
          refine zz_iconst zd_14_70_17 ?_
          refine zz_iconst zd_14_70_18 ?_
          refine zz_iconst zd_14_70_19 ?_
          refine zz_callVI [zi 1, zi 0, zi 0] zd_14_70_20 zk_Md_196 zT_1079 (zz_ltn hn rfl) rfl rfl ⟨Nat.le_of_ble_eq_true rfl, Nat.le_of_ble_eq_true rfl⟩ ⟨rfl, rfl⟩ (Nat.zero_le _) (Nat.zero_le _) (zc_refuse_14_3 1 0 0 S0 n hn G_S0 (by omega) (by omega) (by omega)) (fun v20 S19 hP => ?_)
          obtain ⟨G_S19, fS19, o21, o22⟩ := hP
          have F_S19 := zz_fr.trans F_S0 fS19 rfl zz_nv
          have R_S19 : zz_Hr S19 := zz_Hr.fr fS19 rfl rfl (fun b j h => h.elim) R_S0
          rcases (by omega : v20 = 0 ∨ v20 = 1) with rfl | rfl
          · exfalso; omega
          · have e23 : S19 1079 0 = 1 := by omega
            refine zz_pop rfl zd_14_70_23 ?_
            refine zz_iconst zd_14_70_24 ?_
            have e24 : S19 1079 36 = S0 1079 36 := (zz_rc fS19 rfl rfl (fun h => h) rfl)
            exact zz_iret zd_14_70_25 rfl (Nat.zero_le _) (Nat.zero_le _) ⟨_, _, rfl, G_S19, F_S19, by omega, by omega, R_S19⟩
      · refine zz_if_ne (by omega) zd_14_70_13 (fun c25 => ?_) (fun c25 => ?_)
        · refine zz_aload_n (x := 1079) rfl zd_14_70_26 ?_
          refine zz_getr (kd := 0) (z := 1102) zd_14_70_27 zf_Md_88 zT_1079 rfl (zz_ltn hn rfl) (zz_G.eq G_S0 1079 37 1102 rfl rfl) (by decide) 1102 rfl ?_
          refine zz_iload_n (x := p0) rfl zd_14_70_30 ?_
          have g26 := zz_G.r G_S0 1102 p0.toNat 0 63 rfl rfl
          refine zz_iald (z := S0 1102 p0.toNat) zd_14_70_31 zT_1102 rfl (zz_ltn hn rfl) (by decide) (by omega) rfl ?_
          refine zz_aload_n (x := 1079) rfl zd_14_70_32 ?_
          refine zz_getr (kd := 0) (z := 1102) zd_14_70_33 zf_Md_88 zT_1079 rfl (zz_ltn hn rfl) (zz_G.eq G_S0 1079 37 1102 rfl rfl) (by decide) 1102 rfl ?_
          refine zz_iload_n (x := p1) rfl zd_14_70_36 ?_
          have g27 := zz_G.r G_S0 1102 p1.toNat 0 63 rfl rfl
          refine zz_iald (z := S0 1102 p1.toNat) zd_14_70_37 zT_1102 rfl (zz_ltn hn rfl) (by decide) (by omega) rfl ?_
          refine zz_icmp_ne (by omega) (by omega) zd_14_70_38 (fun c28 => ?_) (fun c28 => ?_)
          · refine zz_iconst zd_14_70_75 ?_
            refine zz_istore [some (.ref 1079), some (zi p0), some (zi p1), some (zi p2), some (zi 0)] zd_14_70_76 (by decide) rfl ?_
            refine zz_aload_n (x := 1079) rfl zd_14_70_78 ?_
            refine zz_iconst zd_14_70_79 ?_
            refine zz_iload (x := 0) rfl zd_14_70_80 ?_
            refine zz_if_eq (by omega) zd_14_70_82 (fun c29 => ?_) (fun c29 => ?_)
            · refine zz_iconst zd_14_70_97 ?_
              refine zz_goto zd_14_70_98 ?_
              refine zz_iconst zd_14_70_102 ?_
              refine zz_callVI [zi 0, zi 1, zi 0] zd_14_70_103 zk_Md_196 zT_1079 (zz_ltn hn rfl) rfl rfl ⟨Nat.le_of_ble_eq_true rfl, Nat.le_of_ble_eq_true rfl⟩ ⟨rfl, rfl⟩ (Nat.zero_le _) (Nat.zero_le _) (zc_refuse_14_3 0 1 0 S0 n hn G_S0 (by omega) (by omega) (by omega)) (fun v31 S30 hP => ?_)
              obtain ⟨G_S30, fS30, o32, o33⟩ := hP
              have F_S30 := zz_fr.trans F_S0 fS30 rfl zz_nv
              have R_S30 : zz_Hr S30 := zz_Hr.fr fS30 rfl rfl (fun b j h => h.elim) R_S0
              rcases (by omega : v31 = 0 ∨ v31 = 1) with rfl | rfl
              · exfalso; omega
              · have e34 : S30 1079 0 = 2 := by omega
                refine zz_if_eq (by omega) zd_14_70_106 (fun c35 => ?_) (fun c35 => ?_)
                · exfalso; omega
                · refine zz_iconst zd_14_70_109 ?_
                  have e36 : S30 1079 36 = S0 1079 36 := (zz_rc fS30 rfl rfl (fun h => h) rfl)
                  exact zz_iret zd_14_70_110 rfl (Nat.zero_le _) (Nat.zero_le _) ⟨_, _, rfl, G_S30, F_S30, by omega, by omega, R_S30⟩
            · exfalso; omega
          · refine zz_aload_n (x := 1079) rfl zd_14_70_41 ?_
            refine zz_getr (kd := 0) (z := 1103) zd_14_70_42 zf_Md_91 zT_1079 rfl (zz_ltn hn rfl) (zz_G.eq G_S0 1079 38 1103 rfl rfl) (by decide) 1103 rfl ?_
            refine zz_iload_n (x := p0) rfl zd_14_70_45 ?_
            have g37 := zz_G.r G_S0 1103 p0.toNat 0 63 rfl rfl
            refine zz_iald (z := S0 1103 p0.toNat) zd_14_70_46 zT_1103 rfl (zz_ltn hn rfl) (by decide) (by omega) rfl ?_
            refine zz_aload_n (x := 1079) rfl zd_14_70_47 ?_
            refine zz_getr (kd := 0) (z := 1103) zd_14_70_48 zf_Md_91 zT_1079 rfl (zz_ltn hn rfl) (zz_G.eq G_S0 1079 38 1103 rfl rfl) (by decide) 1103 rfl ?_
            refine zz_iload_n (x := p1) rfl zd_14_70_51 ?_
            have g38 := zz_G.r G_S0 1103 p1.toNat 0 63 rfl rfl
            refine zz_iald (z := S0 1103 p1.toNat) zd_14_70_52 zT_1103 rfl (zz_ltn hn rfl) (by decide) (by omega) rfl ?_
            refine zz_icmp_ne (by omega) (by omega) zd_14_70_53 (fun c39 => ?_) (fun c39 => ?_)
            · refine zz_iconst zd_14_70_75 ?_
              refine zz_istore [some (.ref 1079), some (zi p0), some (zi p1), some (zi p2), some (zi 0)] zd_14_70_76 (by decide) rfl ?_
              refine zz_aload_n (x := 1079) rfl zd_14_70_78 ?_
              refine zz_iconst zd_14_70_79 ?_
              refine zz_iload (x := 0) rfl zd_14_70_80 ?_
              refine zz_if_eq (by omega) zd_14_70_82 (fun c40 => ?_) (fun c40 => ?_)
              · refine zz_iconst zd_14_70_97 ?_
                refine zz_goto zd_14_70_98 ?_
                refine zz_iconst zd_14_70_102 ?_
                refine zz_callVI [zi 0, zi 1, zi 0] zd_14_70_103 zk_Md_196 zT_1079 (zz_ltn hn rfl) rfl rfl ⟨Nat.le_of_ble_eq_true rfl, Nat.le_of_ble_eq_true rfl⟩ ⟨rfl, rfl⟩ (Nat.zero_le _) (Nat.zero_le _) (zc_refuse_14_3 0 1 0 S0 n hn G_S0 (by omega) (by omega) (by omega)) (fun v42 S41 hP => ?_)
                obtain ⟨G_S41, fS41, o43, o44⟩ := hP
                have F_S41 := zz_fr.trans F_S0 fS41 rfl zz_nv
                have R_S41 : zz_Hr S41 := zz_Hr.fr fS41 rfl rfl (fun b j h => h.elim) R_S0
                rcases (by omega : v42 = 0 ∨ v42 = 1) with rfl | rfl
                · exfalso; omega
                · have e45 : S41 1079 0 = 2 := by omega
                  refine zz_if_eq (by omega) zd_14_70_106 (fun c46 => ?_) (fun c46 => ?_)
                  · exfalso; omega
                  · refine zz_iconst zd_14_70_109 ?_
                    have e47 : S41 1079 36 = S0 1079 36 := (zz_rc fS41 rfl rfl (fun h => h) rfl)
                    exact zz_iret zd_14_70_110 rfl (Nat.zero_le _) (Nat.zero_le _) ⟨_, _, rfl, G_S41, F_S41, by omega, by omega, R_S41⟩
              · exfalso; omega
            · refine zz_aload_n (x := 1079) rfl zd_14_70_56 ?_
              refine zz_getr (kd := 0) (z := 1104) zd_14_70_57 zf_Md_94 zT_1079 rfl (zz_ltn hn rfl) (zz_G.eq G_S0 1079 39 1104 rfl rfl) (by decide) 1104 rfl ?_
              refine zz_iload_n (x := p0) rfl zd_14_70_60 ?_
              have g48 := zz_G.r G_S0 1104 p0.toNat 0 63 rfl rfl
              refine zz_iald (z := S0 1104 p0.toNat) zd_14_70_61 zT_1104 rfl (zz_ltn hn rfl) (by decide) (by omega) rfl ?_
              refine zz_aload_n (x := 1079) rfl zd_14_70_62 ?_
              refine zz_getr (kd := 0) (z := 1104) zd_14_70_63 zf_Md_94 zT_1079 rfl (zz_ltn hn rfl) (zz_G.eq G_S0 1079 39 1104 rfl rfl) (by decide) 1104 rfl ?_
              refine zz_iload_n (x := p1) rfl zd_14_70_66 ?_
              have g49 := zz_G.r G_S0 1104 p1.toNat 0 63 rfl rfl
              refine zz_iald (z := S0 1104 p1.toNat) zd_14_70_67 zT_1104 rfl (zz_ltn hn rfl) (by decide) (by omega) rfl ?_
              refine zz_icmp_ne (by omega) (by omega) zd_14_70_68 (fun c50 => ?_) (fun c50 => ?_)
              · refine zz_iconst zd_14_70_75 ?_
                refine zz_istore [some (.ref 1079), some (zi p0), some (zi p1), some (zi p2), some (zi 0)] zd_14_70_76 (by decide) rfl ?_
                refine zz_aload_n (x := 1079) rfl zd_14_70_78 ?_
                refine zz_iconst zd_14_70_79 ?_
                refine zz_iload (x := 0) rfl zd_14_70_80 ?_
                refine zz_if_eq (by omega) zd_14_70_82 (fun c51 => ?_) (fun c51 => ?_)
                · refine zz_iconst zd_14_70_97 ?_
                  refine zz_goto zd_14_70_98 ?_
                  refine zz_iconst zd_14_70_102 ?_
                  refine zz_callVI [zi 0, zi 1, zi 0] zd_14_70_103 zk_Md_196 zT_1079 (zz_ltn hn rfl) rfl rfl ⟨Nat.le_of_ble_eq_true rfl, Nat.le_of_ble_eq_true rfl⟩ ⟨rfl, rfl⟩ (Nat.zero_le _) (Nat.zero_le _) (zc_refuse_14_3 0 1 0 S0 n hn G_S0 (by omega) (by omega) (by omega)) (fun v53 S52 hP => ?_)
                  obtain ⟨G_S52, fS52, o54, o55⟩ := hP
                  have F_S52 := zz_fr.trans F_S0 fS52 rfl zz_nv
                  have R_S52 : zz_Hr S52 := zz_Hr.fr fS52 rfl rfl (fun b j h => h.elim) R_S0
                  rcases (by omega : v53 = 0 ∨ v53 = 1) with rfl | rfl
                  · exfalso; omega
                  · have e56 : S52 1079 0 = 2 := by omega
                    refine zz_if_eq (by omega) zd_14_70_106 (fun c57 => ?_) (fun c57 => ?_)
                    · exfalso; omega
                    · refine zz_iconst zd_14_70_109 ?_
                      have e58 : S52 1079 36 = S0 1079 36 := (zz_rc fS52 rfl rfl (fun h => h) rfl)
                      exact zz_iret zd_14_70_110 rfl (Nat.zero_le _) (Nat.zero_le _) ⟨_, _, rfl, G_S52, F_S52, by omega, by omega, R_S52⟩
                · exfalso; omega
              · refine zz_iconst zd_14_70_71 ?_
                refine zz_goto zd_14_70_72 ?_
                refine zz_istore [some (.ref 1079), some (zi p0), some (zi p1), some (zi p2), some (zi 1)] zd_14_70_76 (by decide) rfl ?_
                refine zz_aload_n (x := 1079) rfl zd_14_70_78 ?_
                refine zz_iconst zd_14_70_79 ?_
                refine zz_iload (x := 1) rfl zd_14_70_80 ?_
                refine zz_if_eq (by omega) zd_14_70_82 (fun c59 => ?_) (fun c59 => ?_)
                · exfalso; omega
                · refine zz_iload_n (x := p2) rfl zd_14_70_85 ?_
                  refine zz_i2l (by omega) zd_14_70_86 ?_
                  refine zz_lconst (z := 0) (by decide) zd_14_70_87 ?_
                  refine zz_ldc2 (z := 31) zq_Md_357 (by decide) zd_14_70_88 ?_
                  refine zz_callSI [zl p2, zl 0, zl 31] zd_14_70_91 zk_Md_192 rfl rfl ⟨Nat.le_of_ble_eq_true rfl, Nat.le_of_ble_eq_true rfl⟩ ⟨rfl, rfl⟩ (Nat.zero_le _) (Nat.zero_le _) (zc_in_14_4 p2 0 31 S0 n hn G_S0 (by omega) (by omega) (by omega)) (fun v61 S60 hP => ?_)
                  obtain ⟨rfl, o62, o63⟩ := hP
                  rcases (by omega : v61 = 0 ∨ v61 = 1) with rfl | rfl
                  · refine zz_if_ne (by omega) zd_14_70_94 (fun c64 => ?_) (fun c64 => ?_)
                    · exfalso; omega
                    · refine zz_iconst zd_14_70_97 ?_
                      refine zz_goto zd_14_70_98 ?_
                      refine zz_iconst zd_14_70_102 ?_
                      refine zz_callVI [zi 0, zi 1, zi 0] zd_14_70_103 zk_Md_196 zT_1079 (zz_ltn hn rfl) rfl rfl ⟨Nat.le_of_ble_eq_true rfl, Nat.le_of_ble_eq_true rfl⟩ ⟨rfl, rfl⟩ (Nat.zero_le _) (Nat.zero_le _) (zc_refuse_14_3 0 1 0 S0 n hn G_S0 (by omega) (by omega) (by omega)) (fun v66 S65 hP => ?_)
                      obtain ⟨G_S65, fS65, o67, o68⟩ := hP
                      have F_S65 := zz_fr.trans F_S0 fS65 rfl zz_nv
                      have R_S65 : zz_Hr S65 := zz_Hr.fr fS65 rfl rfl (fun b j h => h.elim) R_S0
                      rcases (by omega : v66 = 0 ∨ v66 = 1) with rfl | rfl
                      · exfalso; omega
                      · have e69 : S65 1079 0 = 2 := by omega
                        refine zz_if_eq (by omega) zd_14_70_106 (fun c70 => ?_) (fun c70 => ?_)
                        · exfalso; omega
                        · refine zz_iconst zd_14_70_109 ?_
                          have e71 : S65 1079 36 = S0 1079 36 := (zz_rc fS65 rfl rfl (fun h => h) rfl)
                          exact zz_iret zd_14_70_110 rfl (Nat.zero_le _) (Nat.zero_le _) ⟨_, _, rfl, G_S65, F_S65, by omega, by omega, R_S65⟩
                  · refine zz_if_ne (by omega) zd_14_70_94 (fun c72 => ?_) (fun c72 => ?_)
                    · refine zz_iconst zd_14_70_101 ?_
                      refine zz_iconst zd_14_70_102 ?_
                      refine zz_callVI [zi 0, zi 0, zi 0] zd_14_70_103 zk_Md_196 zT_1079 (zz_ltn hn rfl) rfl rfl ⟨Nat.le_of_ble_eq_true rfl, Nat.le_of_ble_eq_true rfl⟩ ⟨rfl, rfl⟩ (Nat.zero_le _) (Nat.zero_le _) (zc_refuse_14_3 0 0 0 S0 n hn G_S0 (by omega) (by omega) (by omega)) (fun v74 S73 hP => ?_)
                      obtain ⟨G_S73, fS73, o75, o76⟩ := hP
                      have F_S73 := zz_fr.trans F_S0 fS73 rfl zz_nv
                      have R_S73 : zz_Hr S73 := zz_Hr.fr fS73 rfl rfl (fun b j h => h.elim) R_S0
                      rcases (by omega : v74 = 0 ∨ v74 = 1) with rfl | rfl
                      · have e77 : S73 1079 0 = 0 := by omega
                        refine zz_if_eq (by omega) zd_14_70_106 (fun c78 => ?_) (fun c78 => ?_)
                        · refine zz_aload_n (x := 1079) rfl zd_14_70_111 ?_
                          refine zz_geti (z := S0 1079 36) zd_14_70_112 zf_Md_85 zT_1079 rfl (zz_ltn hn rfl) (zz_rc fS73 rfl rfl (fun h => h) rfl) ?_
                          refine zz_iconst zd_14_70_115 ?_
                          refine zz_isub zd_14_70_116 ?_
                          refine zz_istore [some (.ref 1079), some (zi p0), some (zi p1), some (zi p2), some (zi 1), some (zi ((S0 1079 36) - 1))] zd_14_70_117 (by decide) rfl ?_
                          refine zz_aload_n (x := 1079) rfl zd_14_70_119 ?_
                          refine zz_iconst zd_14_70_120 ?_
                          refine zz_iload_n (x := p0) rfl zd_14_70_121 ?_
                          refine zz_aload_n (x := 1079) rfl zd_14_70_122 ?_
                          refine zz_getr (kd := 0) (z := 1102) zd_14_70_123 zf_Md_88 zT_1079 rfl (zz_ltn hn rfl) (zz_G.eq G_S73 1079 37 1102 rfl rfl) (by decide) 1102 rfl ?_
                          refine zz_iload_n (x := p0) rfl zd_14_70_126 ?_
                          refine zz_iald (z := S0 1102 p0.toNat) zd_14_70_127 zT_1102 rfl (zz_ltn hn rfl) (by decide) (by omega) (zz_rc fS73 (zz_nc1 rfl) rfl (fun h => h) rfl) ?_
                          refine zz_aload_n (x := 1079) rfl zd_14_70_128 ?_
                          refine zz_getr (kd := 0) (z := 1103) zd_14_70_129 zf_Md_91 zT_1079 rfl (zz_ltn hn rfl) (zz_G.eq G_S73 1079 38 1103 rfl rfl) (by decide) 1103 rfl ?_
                          refine zz_iload_n (x := p0) rfl zd_14_70_132 ?_
                          refine zz_iald (z := S0 1103 p0.toNat) zd_14_70_133 zT_1103 rfl (zz_ltn hn rfl) (by decide) (by omega) (zz_rc fS73 (zz_nc1 rfl) rfl (fun h => h) rfl) ?_
                          refine zz_aload_n (x := 1079) rfl zd_14_70_134 ?_
                          refine zz_getr (kd := 0) (z := 1104) zd_14_70_135 zf_Md_94 zT_1079 rfl (zz_ltn hn rfl) (zz_G.eq G_S73 1079 39 1104 rfl rfl) (by decide) 1104 rfl ?_
                          refine zz_iload_n (x := p0) rfl zd_14_70_138 ?_
                          refine zz_iald (z := S0 1104 p0.toNat) zd_14_70_139 zT_1104 rfl (zz_ltn hn rfl) (by decide) (by omega) (zz_rc fS73 (zz_nc1 rfl) rfl (fun h => h) rfl) ?_
                          have e79 : S73 1079 36 = S0 1079 36 := (zz_rc fS73 rfl rfl (fun h => h) rfl)
                          have g80 := zz_G.r G_S0 1105 ((S73 1079 36).toNat) (0) (if (S73 1079 36).toNat = 0 then 0 else 10000000) rfl rfl
                          have e81 : S73 1105 (S73 1079 36).toNat = S0 1105 (S73 1079 36).toNat := (zz_rc fS73 (zz_nc1 rfl) rfl (fun h => h) rfl)
                          refine zz_callVI [zi 2, zi p0, zi (S0 1102 p0.toNat), zi (S0 1103 p0.toNat), zi (S0 1104 p0.toNat)] zd_14_70_140 zk_Md_426 zT_1079 (zz_ltn hn rfl) rfl rfl ⟨Nat.le_of_ble_eq_true rfl, Nat.le_of_ble_eq_true rfl⟩ ⟨rfl, rfl⟩ (Nat.zero_le _) (Nat.zero_le _) (zc_add_14_65 2 p0 (S0 1102 p0.toNat) (S0 1103 p0.toNat) (S0 1104 p0.toNat) S73 n hn G_S73 (by omega) (by omega) (by omega) (by omega) (by omega) (by omega)) (fun v83 S82 hP => ?_)
                          obtain ⟨G_S82, fS82, o84, o85, o86, o87⟩ := hP
                          rw [show S73 1079 36 = S0 1079 36 from (zz_rc fS73 rfl rfl (fun h => h) rfl)] at o85
                          rw [show S73 1079 36 = S0 1079 36 from (zz_rc fS73 rfl rfl (fun h => h) rfl)] at o87
                          rw [show S73 1079 36 = S0 1079 36 from (zz_rc fS73 rfl rfl (fun h => h) rfl)] at fS82
                          have F_S82 := zz_fr.trans F_S73 fS82 rfl (fun a i h => by rcases h with h | h | h | h | h | h; exact Or.inr (Or.inr (Or.inl h)); exact Or.inr (Or.inr (Or.inr (Or.inl h))); exact Or.inr (Or.inr (Or.inr (Or.inr (Or.inl h)))); exact Or.inr (Or.inr (Or.inr (Or.inr (Or.inr (Or.inl h))))); exact Or.inr (Or.inr (Or.inr (Or.inr (Or.inr (Or.inr (Or.inl h)))))); exact Or.inr (Or.inr (Or.inr (Or.inr (Or.inr (Or.inr (Or.inr (Or.inl h))))))))
                          refine zz_istore [some (.ref 1079), some (zi p0), some (zi p1), some (zi p2), some (zi 1), some (zi ((S0 1079 36) - 1)), some (zi v83)] zd_14_70_143 (by decide) rfl ?_
                          refine zz_aload_n (x := 1079) rfl zd_14_70_145 ?_
                          have g88 := zz_G.r G_S82 1079 0 0 3 rfl rfl
                          refine zz_geti (z := S82 1079 0) zd_14_70_146 zf_Md_187 zT_1079 rfl (zz_ltn hn rfl) rfl ?_
                          refine zz_if_le (by omega) zd_14_70_149 (fun c89 => ?_) (fun c89 => ?_)
                          · refine zz_aload_n (x := 1079) rfl zd_14_70_154 ?_
                            refine zz_getr (kd := 0) (z := 1108) zd_14_70_155 zf_Md_106 zT_1079 rfl (zz_ltn hn rfl) (zz_G.eq G_S82 1079 43 1108 rfl rfl) (by decide) 1108 rfl ?_
                            refine zz_iload (x := (S0 1079 36) - 1) rfl zd_14_70_158 ?_
                            refine zz_iload_n (x := p1) rfl zd_14_70_160 ?_
                            refine zz_iast zd_14_70_161 zT_1108 rfl (zz_ltn hn rfl) (by decide) (by omega) (fun S90 qS90 => ?_)
                            have G_S90 := zz_G.put G_S82 qS90 0 10 rfl (by omega)
                            have F_S90 := zz_fr.putv F_S82 qS90 (Or.inr (Or.inr (Or.inr (Or.inr (Or.inr (Or.inr (Or.inl ⟨rfl, rfl⟩)))))))
                            refine zz_aload_n (x := 1079) rfl zd_14_70_162 ?_
                            refine zz_iload (x := (S0 1079 36) - 1) rfl zd_14_70_163 ?_
                            refine zz_iconst zd_14_70_165 ?_
                            refine zz_iconst zd_14_70_166 ?_
                            refine zz_iconst zd_14_70_167 ?_
                            refine zz_iconst zd_14_70_168 ?_
                            refine zz_iload_n (x := p2) rfl zd_14_70_169 ?_
                            refine zz_callVV [zi ((S0 1079 36) - 1), zi 1, zi 1, zi 1, zi 0, zi p2] zd_14_70_170 zk_Md_430 zT_1079 (zz_ltn hn rfl) rfl rfl ⟨Nat.le_of_ble_eq_true rfl, Nat.le_of_ble_eq_true rfl⟩ ⟨rfl, rfl⟩ (Nat.zero_le _) (Nat.zero_le _) (zc_setLayer_14_68 ((S0 1079 36) - 1) 1 1 1 0 p2 S90 n hn G_S90 (by omega) (by omega) (by omega) (by omega) (by omega) (by omega)) (fun S91 hP => ?_)
                            obtain ⟨G_S91, fS91, o93⟩ := hP
                            have F_S91 := zz_fr.trans F_S90 fS91 rfl (fun a i h => by rcases h with h | h | h | h | h; exact Or.inr (Or.inr (Or.inr (Or.inr (Or.inr (Or.inr (Or.inr (Or.inr (Or.inr (Or.inl h))))))))); exact Or.inr (Or.inr (Or.inr (Or.inr (Or.inr (Or.inr (Or.inr (Or.inr (Or.inr (Or.inr (Or.inl h)))))))))); exact Or.inr (Or.inr (Or.inr (Or.inr (Or.inr (Or.inr (Or.inr (Or.inr (Or.inr (Or.inr (Or.inr (Or.inl h))))))))))); exact Or.inr (Or.inr (Or.inr (Or.inr (Or.inr (Or.inr (Or.inr (Or.inr (Or.inr (Or.inr (Or.inr (Or.inr (Or.inl h)))))))))))); exact Or.inr (Or.inr (Or.inr (Or.inr (Or.inr (Or.inr (Or.inr (Or.inr (Or.inr (Or.inr (Or.inr (Or.inr (Or.inr (h))))))))))))))
                            refine zz_iload (x := v83) rfl zd_14_70_173 ?_
                            have g94 := zz_G.r G_S82 1079 36 0 11 rfl rfl
                            have e95 : S91 1079 36 = S82 1079 36 := (zz_rc fS91 rfl rfl (by omega) (zz_ro qS90 (fun h => absurd h.1 (by decide)) rfl))
                            have ha9 := o87 (by omega)
                            have g96 := zz_G.r G_S82 1102 ((S0 1079 36).toNat) 0 63 rfl rfl
                            have e97 : S91 1102 (S0 1079 36).toNat = S82 1102 (S0 1079 36).toNat := (zz_rc fS91 (zz_nc1 rfl) rfl (by omega) (zz_ro qS90 (fun h => absurd h.1 (by decide)) rfl))
                            have g98 := zz_G.r G_S82 1103 ((S0 1079 36).toNat) 0 63 rfl rfl
                            have e99 : S91 1103 (S0 1079 36).toNat = S82 1103 (S0 1079 36).toNat := (zz_rc fS91 (zz_nc1 rfl) rfl (by omega) (zz_ro qS90 (fun h => absurd h.1 (by decide)) rfl))
                            have g100 := zz_G.r G_S82 1104 ((S0 1079 36).toNat) 0 63 rfl rfl
                            have e101 : S91 1104 (S0 1079 36).toNat = S82 1104 (S0 1079 36).toNat := (zz_rc fS91 (zz_nc1 rfl) rfl (by omega) (zz_ro qS90 (fun h => absurd h.1 (by decide)) rfl))
                            have g102 := zz_G.r G_S82 1105 ((S0 1079 36).toNat) (0) (if (S0 1079 36).toNat = 0 then 0 else 10000000) rfl rfl
                            have e103 : S91 1105 (S0 1079 36).toNat = S82 1105 (S0 1079 36).toNat := (zz_rc fS91 (zz_nc1 rfl) rfl (by omega) (zz_ro qS90 (fun h => absurd h.1 (by decide)) rfl))
                            have g104 := zz_G.r G_S82 1106 ((S0 1079 36 - 1).toNat) 0 2 rfl rfl
                            have e105 : S91 1106 (S0 1079 36 - 1).toNat = S82 1106 (S0 1079 36 - 1).toNat := (zz_rc fS91 (zz_nc1 rfl) rfl (by omega) (zz_ro qS90 (fun h => absurd h.1 (by decide)) rfl))
                            have g106 := zz_G.r G_S82 1107 ((S0 1079 36 - 1).toNat) 0 10 rfl rfl
                            have e107 : S91 1107 (S0 1079 36 - 1).toNat = S82 1107 (S0 1079 36 - 1).toNat := (zz_rc fS91 (zz_nc1 rfl) rfl (by omega) (zz_ro qS90 (fun h => absurd h.1 (by decide)) rfl))
                            have g108 := zz_G.r G_S90 1108 ((S0 1079 36 - 1).toNat) 0 10 rfl rfl
                            have e109 : S91 1108 (S0 1079 36 - 1).toNat = S90 1108 (S0 1079 36 - 1).toNat := (zz_rc fS91 (zz_nc1 rfl) rfl (by omega) rfl)
                            have g110 := zz_G.r G_S91 1109 ((S0 1079 36 - 1).toNat) 0 3 rfl rfl
                            have g111 := zz_G.r G_S91 1110 ((S0 1079 36 - 1).toNat) 0 3 rfl rfl
                            have g112 := zz_G.r G_S91 1111 ((S0 1079 36 - 1).toNat) 0 3 rfl rfl
                            have g113 := zz_G.r G_S0 1114 ((S0 1079 36 - 1).toNat) 0 4096 rfl rfl
                            have e114 : S91 1114 (S0 1079 36 - 1).toNat = S0 1114 (S0 1079 36 - 1).toNat := (zz_rc fS91 (zz_nc1 rfl) rfl (by omega) (zz_ro qS90 (fun h => absurd h.1 (by decide)) (zz_rc fS82 (zz_nc1 rfl) rfl (by omega) (zz_rc fS73 (zz_nc1 rfl) rfl (fun h => h) rfl))))
                            exact zz_iret zd_14_70_175 rfl (Nat.zero_le _) (Nat.zero_le _) ⟨_, _, rfl, G_S91, F_S91, by omega, by omega, (zz_Hr.add (T := (S0 1079 36).toNat) (l := (S0 1079 36 - 1).toNat) F_S91 rfl rfl (fun a i h => by omega) R_S0 (by omega) (by omega) (by omega) (by unfold zz_tn zz_sz; rw [show S91 1102 (S0 1079 36).toNat = S0 1102 p0.toNat by omega, show S91 1103 (S0 1079 36).toNat = S0 1103 p0.toNat by omega, show S91 1104 (S0 1079 36).toNat = S0 1104 p0.toNat by omega, show S91 1105 (S0 1079 36).toNat = S0 1105 (S0 1079 36).toNat by omega]; omega) (by unfold zz_la; rw [show S91 1106 (S0 1079 36 - 1).toNat = 2 by omega, show S91 1107 (S0 1079 36 - 1).toNat = p0 by omega, show S91 1108 (S0 1079 36 - 1).toNat = p1 by omega, show S91 1102 ((S0 1079 36 - 1).toNat + 1) = S0 1102 p0.toNat by rw [show (S0 1079 36 - 1).toNat + 1 = (S0 1079 36).toNat by omega]; omega, show S91 1103 ((S0 1079 36 - 1).toNat + 1) = S0 1103 p0.toNat by rw [show (S0 1079 36 - 1).toNat + 1 = (S0 1079 36).toNat by omega]; omega, show S91 1104 ((S0 1079 36 - 1).toNat + 1) = S0 1104 p0.toNat by rw [show (S0 1079 36 - 1).toNat + 1 = (S0 1079 36).toNat by omega]; omega, show S91 1102 p0.toNat = S0 1102 p0.toNat from F_S91 1102 p0.toNat (zz_nc1 rfl) rfl (by omega), show S91 1103 p0.toNat = S0 1103 p0.toNat from F_S91 1103 p0.toNat (zz_nc1 rfl) rfl (by omega), show S91 1104 p0.toNat = S0 1104 p0.toNat from F_S91 1104 p0.toNat (zz_nc1 rfl) rfl (by omega), show S91 1102 p1.toNat = S0 1102 p1.toNat from F_S91 1102 p1.toNat (zz_nc1 rfl) rfl (by omega), show S91 1103 p1.toNat = S0 1103 p1.toNat from F_S91 1103 p1.toNat (zz_nc1 rfl) rfl (by omega), show S91 1104 p1.toNat = S0 1104 p1.toNat from F_S91 1104 p1.toNat (zz_nc1 rfl) rfl (by omega)]; exact ⟨by omega, fun h => absurd h (by decide), fun h => absurd h (by decide), fun _ => ⟨by omega, ⟨by omega, by omega, by omega⟩, by omega, by omega, by omega⟩⟩))⟩
                          · refine zz_iconst zd_14_70_152 ?_
                            have g115 := zz_G.r G_S82 1079 36 0 11 rfl rfl
                            exact zz_iret zd_14_70_153 rfl (Nat.zero_le _) (Nat.zero_le _) ⟨_, _, rfl, G_S82, F_S82, by omega, by omega, (o86 (by omega) R_S73)⟩
                        · exfalso; omega
                      · exfalso; omega
                    · exfalso; omega
        · exfalso; omega
abbrev zy_form_14_71 : mm_Y := (⟨"TensorForgeModel", "form", "(II)I"⟩, prog_14_method_71_code, 3, (some .int))
theorem zyw_form_14_71 : mm_Yw zy_form_14_71 2 := ⟨mm_tb_1 2112 (by decide +kernel) rfl, mm_tb_1 12 (by decide +kernel) rfl, ⟨by decide, by decide⟩, by decide +kernel⟩
theorem zd_14_71_0 : zz_D zy_form_14_71 0 (.aload_n 0) 1 1 := ⟨by decide +kernel, rfl⟩
theorem zd_14_71_1 : zz_D zy_form_14_71 1 (.aload_n 0) 1 2 := ⟨by decide +kernel, rfl⟩
theorem zd_14_71_2 : zz_D zy_form_14_71 2 (.iload_n 1) 1 3 := ⟨by decide +kernel, rfl⟩
theorem zd_14_71_3 : zz_D zy_form_14_71 3 (.invokevirtual 411) 3 6 := ⟨by decide +kernel, rfl⟩
theorem zd_14_71_6 : zz_B zy_form_14_71 6 (Instr.ifCond .ne) 13 9 := ⟨7, by decide +kernel, rfl, rfl⟩
theorem zd_14_71_9 : zz_D zy_form_14_71 9 (.iconst 1) 1 10 := ⟨by decide +kernel, rfl⟩
theorem zd_14_71_10 : zz_B zy_form_14_71 10 Instr.goto 14 13 := ⟨4, by decide +kernel, rfl, rfl⟩
theorem zd_14_71_14 : zz_D zy_form_14_71 14 (.aload_n 0) 1 15 := ⟨by decide +kernel, rfl⟩
theorem zd_14_71_15 : zz_D zy_form_14_71 15 (.iload_n 1) 1 16 := ⟨by decide +kernel, rfl⟩
theorem zd_14_71_16 : zz_D zy_form_14_71 16 (.invokevirtual 411) 3 19 := ⟨by decide +kernel, rfl⟩
theorem zd_14_71_19 : zz_B zy_form_14_71 19 (Instr.ifCond .eq) 38 22 := ⟨19, by decide +kernel, rfl, rfl⟩
theorem zd_14_71_38 : zz_D zy_form_14_71 38 (.iconst 0) 1 39 := ⟨by decide +kernel, rfl⟩
theorem zd_14_71_39 : zz_D zy_form_14_71 39 (.iconst 0) 1 40 := ⟨by decide +kernel, rfl⟩
theorem zd_14_71_40 : zz_D zy_form_14_71 40 (.invokevirtual 196) 3 43 := ⟨by decide +kernel, rfl⟩
theorem zd_14_71_43 : zz_B zy_form_14_71 43 (Instr.ifCond .eq) 48 46 := ⟨5, by decide +kernel, rfl, rfl⟩
theorem zd_14_71_46 : zz_D zy_form_14_71 46 (.iconst 0) 1 47 := ⟨by decide +kernel, rfl⟩
theorem zd_14_71_47 : zz_D zy_form_14_71 47 (.ireturn) 1 48 := ⟨by decide +kernel, rfl⟩
theorem zd_14_71_22 : zz_D zy_form_14_71 22 (.iload_n 2) 1 23 := ⟨by decide +kernel, rfl⟩
theorem zd_14_71_23 : zz_D zy_form_14_71 23 (.i2l) 1 24 := ⟨by decide +kernel, rfl⟩
theorem zd_14_71_24 : zz_D zy_form_14_71 24 (.lconst 0) 1 25 := ⟨by decide +kernel, rfl⟩
theorem zd_14_71_25 : zz_D zy_form_14_71 25 (.ldc2_w 416) 3 28 := ⟨by decide +kernel, rfl⟩
theorem zd_14_71_28 : zz_D zy_form_14_71 28 (.invokestatic 192) 3 31 := ⟨by decide +kernel, rfl⟩
theorem zd_14_71_31 : zz_B zy_form_14_71 31 (Instr.ifCond .ne) 38 34 := ⟨7, by decide +kernel, rfl, rfl⟩
theorem zd_14_71_34 : zz_D zy_form_14_71 34 (.iconst 1) 1 35 := ⟨by decide +kernel, rfl⟩
theorem zd_14_71_35 : zz_B zy_form_14_71 35 Instr.goto 39 38 := ⟨4, by decide +kernel, rfl, rfl⟩
theorem zd_14_71_13 : zz_D zy_form_14_71 13 (.iconst 0) 1 14 := ⟨by decide +kernel, rfl⟩
theorem zd_14_71_48 : zz_D zy_form_14_71 48 (.iload_n 2) 1 49 := ⟨by decide +kernel, rfl⟩
theorem zd_14_71_49 : zz_B zy_form_14_71 49 (Instr.ifCond .ne) 61 52 := ⟨12, by decide +kernel, rfl, rfl⟩
theorem zd_14_71_61 : zz_D zy_form_14_71 61 (.iload_n 2) 1 62 := ⟨by decide +kernel, rfl⟩
theorem zd_14_71_62 : zz_D zy_form_14_71 62 (.iconst 1) 1 63 := ⟨by decide +kernel, rfl⟩
theorem zd_14_71_63 : zz_B zy_form_14_71 63 (Instr.if_icmp .ne) 75 66 := ⟨12, by decide +kernel, rfl, rfl⟩
theorem zd_14_71_75 : zz_D zy_form_14_71 75 (.iload_n 2) 1 76 := ⟨by decide +kernel, rfl⟩
theorem zd_14_71_76 : zz_D zy_form_14_71 76 (.iconst 2) 1 77 := ⟨by decide +kernel, rfl⟩
theorem zd_14_71_77 : zz_B zy_form_14_71 77 (Instr.if_icmp .ne) 89 80 := ⟨12, by decide +kernel, rfl, rfl⟩
theorem zd_14_71_89 : zz_D zy_form_14_71 89 (.aload_n 0) 1 90 := ⟨by decide +kernel, rfl⟩
theorem zd_14_71_90 : zz_D zy_form_14_71 90 (.getfield 97) 3 93 := ⟨by decide +kernel, rfl⟩
theorem zd_14_71_93 : zz_D zy_form_14_71 93 (.iload_n 1) 1 94 := ⟨by decide +kernel, rfl⟩
theorem zd_14_71_94 : zz_D zy_form_14_71 94 (.iaload) 1 95 := ⟨by decide +kernel, rfl⟩
theorem zd_14_71_95 : zz_D zy_form_14_71 95 (.ireturn) 1 96 := ⟨by decide +kernel, rfl⟩
theorem zd_14_71_80 : zz_D zy_form_14_71 80 (.aload_n 0) 1 81 := ⟨by decide +kernel, rfl⟩
theorem zd_14_71_81 : zz_D zy_form_14_71 81 (.getfield 94) 3 84 := ⟨by decide +kernel, rfl⟩
theorem zd_14_71_84 : zz_D zy_form_14_71 84 (.iload_n 1) 1 85 := ⟨by decide +kernel, rfl⟩
theorem zd_14_71_85 : zz_D zy_form_14_71 85 (.iaload) 1 86 := ⟨by decide +kernel, rfl⟩
theorem zd_14_71_86 : zz_B zy_form_14_71 86 Instr.goto 95 89 := ⟨9, by decide +kernel, rfl, rfl⟩
theorem zd_14_71_66 : zz_D zy_form_14_71 66 (.aload_n 0) 1 67 := ⟨by decide +kernel, rfl⟩
theorem zd_14_71_67 : zz_D zy_form_14_71 67 (.getfield 91) 3 70 := ⟨by decide +kernel, rfl⟩
theorem zd_14_71_70 : zz_D zy_form_14_71 70 (.iload_n 1) 1 71 := ⟨by decide +kernel, rfl⟩
theorem zd_14_71_71 : zz_D zy_form_14_71 71 (.iaload) 1 72 := ⟨by decide +kernel, rfl⟩
theorem zd_14_71_72 : zz_B zy_form_14_71 72 Instr.goto 95 75 := ⟨23, by decide +kernel, rfl, rfl⟩
theorem zd_14_71_52 : zz_D zy_form_14_71 52 (.aload_n 0) 1 53 := ⟨by decide +kernel, rfl⟩
theorem zd_14_71_53 : zz_D zy_form_14_71 53 (.getfield 88) 3 56 := ⟨by decide +kernel, rfl⟩
theorem zd_14_71_56 : zz_D zy_form_14_71 56 (.iload_n 1) 1 57 := ⟨by decide +kernel, rfl⟩
theorem zd_14_71_57 : zz_D zy_form_14_71 57 (.iaload) 1 58 := ⟨by decide +kernel, rfl⟩
theorem zd_14_71_58 : zz_B zy_form_14_71 58 Instr.goto 95 61 := ⟨37, by decide +kernel, rfl, rfl⟩

-- TensorForgeModel reckon ()V
abbrev zr_reckon_14_76 : Room := { frames := 3, cells := 0, slots := 0, locals := 56 }
def zp_reckon_14_76  (S0 : zz_S) : zz_S → Prop := fun S => zz_G S ∧ zz_fr [(1079, 0)] [1080] (fun _ _ => False) S0 S ∧ (zz_Hr S)
theorem zb_reckon_14_76_7 {g : mm_G} {l : Launch}  (S0 : zz_S) (n : Nat) (hn : zz_end ≤ n) (G_S0 : zz_G S0) (R_S0 : zz_Hr S0) (x1 : Int) (S : zz_S) (G_S : zz_G S) (F_S : zz_fr [(1079, 0)] [1080] (fun _ _ => False) S0 S) (i7_0 : 0 ≤ x1 ∧ x1 ≤ 10) (i7_1 : zz_Hr S) (R : Nat) (hR : (34359738368 + (2147483647 - x1).toNat) * 1099511627776 + 1099511627775 = R) (k23 : ∀ (x1 : Int) (x2 : Int) (x3 : Int) (S : zz_S), zz_G S → zz_fr [(1079, 0)] [1080] (fun _ _ => False) S0 S → (0 ≤ x1 ∧ x1 ≤ 9) → (1 ≤ x2 ∧ x2 ≤ 10) → (0 ≤ x3 ∧ x3 ≤ 250047) → (0 ≤ x1 ∧ x1 ≤ 10) → (x2 = x1 + 1) → (x1 + 1 < S0 1079 36) → (zz_Hr S) → (34359738368 + (2147483647 - x1).toNat) * 1099511627776 + (17179869184 + (2147483647 - x3).toNat) < R → zz_E g l zy_reckon_14_76 zr_reckon_14_76 (zz_QV n (zp_reckon_14_76  S0)) S n 23 [some (.ref 1079), some (zi x1), some (zi x2), some (zi x3)] [] 0 0) : zz_E g l zy_reckon_14_76 zr_reckon_14_76 (zz_QV n (zp_reckon_14_76  S0)) S n 7 [some (.ref 1079), some (zi x1)] [] 0 0 := by
  have R_S := i7_1
  refine zz_iload_n (x := x1) rfl zd_14_76_7 ?_
  refine zz_aload_n (x := 1079) rfl zd_14_76_8 ?_
  have g2 := zz_G.r G_S0 1079 36 0 11 rfl rfl
  refine zz_geti (z := S0 1079 36) zd_14_76_9 zf_Md_85 zT_1079 rfl (zz_ltn hn rfl) (zz_rc F_S rfl rfl (fun h => h) rfl) ?_
  refine zz_iconst zd_14_76_12 ?_
  refine zz_isub zd_14_76_13 ?_
  refine zz_icmp_ge (by omega) (by omega) zd_14_76_14 (fun c3 => ?_) (fun c3 => ?_)
  · exact zz_vret zd_14_76_198 rfl (Nat.zero_le _) (Nat.zero_le _) ⟨_, rfl, G_S, F_S, R_S⟩
  · refine zz_iload_n (x := x1) rfl zd_14_76_17 ?_
    refine zz_iconst zd_14_76_18 ?_
    refine zz_iadd zd_14_76_19 ?_
    refine zz_istore_n [some (.ref 1079), some (zi x1), some (zi (x1 + 1))] zd_14_76_20 (by decide) rfl ?_
    refine zz_iconst zd_14_76_21 ?_
    refine zz_istore_n [some (.ref 1079), some (zi x1), some (zi (x1 + 1)), some (zi 0)] zd_14_76_22 (by decide) rfl ?_
    refine zz_less (ls1 := [some (.ref 1079), some (zi x1), some (zi (x1 + 1)), some (zi 0)]) ⟨rfl, ⟨rfl, ⟨rfl, ⟨rfl, trivial⟩⟩⟩⟩ ?_
    exact k23 x1 (x1 + 1) 0 S G_S F_S (by omega) (by omega) (by omega) (by omega) (by omega) (by omega) R_S (by omega)
theorem zb_reckon_14_76_23 {g : mm_G} {l : Launch}  (S0 : zz_S) (n : Nat) (hn : zz_end ≤ n) (G_S0 : zz_G S0) (R_S0 : zz_Hr S0) (x1 : Int) (x2 : Int) (x3 : Int) (S : zz_S) (G_S : zz_G S) (F_S : zz_fr [(1079, 0)] [1080] (fun _ _ => False) S0 S) (i23_0 : 0 ≤ x1 ∧ x1 ≤ 9) (i23_1 : 1 ≤ x2 ∧ x2 ≤ 10) (i23_2 : 0 ≤ x3 ∧ x3 ≤ 250047) (i23_3 : 0 ≤ x1 ∧ x1 ≤ 10) (i23_4 : x2 = x1 + 1) (i23_5 : x1 + 1 < S0 1079 36) (i23_6 : zz_Hr S) (R : Nat) (hR : (34359738368 + (2147483647 - x1).toNat) * 1099511627776 + (17179869184 + (2147483647 - x3).toNat) = R) (k7 : ∀ (x1 : Int) (S : zz_S), zz_G S → zz_fr [(1079, 0)] [1080] (fun _ _ => False) S0 S → (0 ≤ x1 ∧ x1 ≤ 10) → (zz_Hr S) → (34359738368 + (2147483647 - x1).toNat) * 1099511627776 + 1099511627775 < R → zz_E g l zy_reckon_14_76 zr_reckon_14_76 (zz_QV n (zp_reckon_14_76  S0)) S n 7 [some (.ref 1079), some (zi x1)] [] 0 0) (k23 : ∀ (x1 : Int) (x2 : Int) (x3 : Int) (S : zz_S), zz_G S → zz_fr [(1079, 0)] [1080] (fun _ _ => False) S0 S → (0 ≤ x1 ∧ x1 ≤ 9) → (1 ≤ x2 ∧ x2 ≤ 10) → (0 ≤ x3 ∧ x3 ≤ 250047) → (0 ≤ x1 ∧ x1 ≤ 10) → (x2 = x1 + 1) → (x1 + 1 < S0 1079 36) → (zz_Hr S) → (34359738368 + (2147483647 - x1).toNat) * 1099511627776 + (17179869184 + (2147483647 - x3).toNat) < R → zz_E g l zy_reckon_14_76 zr_reckon_14_76 (zz_QV n (zp_reckon_14_76  S0)) S n 23 [some (.ref 1079), some (zi x1), some (zi x2), some (zi x3)] [] 0 0) : zz_E g l zy_reckon_14_76 zr_reckon_14_76 (zz_QV n (zp_reckon_14_76  S0)) S n 23 [some (.ref 1079), some (zi x1), some (zi x2), some (zi x3)] [] 0 0 := by
  have R_S := i23_6
  refine zz_iload_n (x := x3) rfl zd_14_76_23 ?_
  refine zz_aload_n (x := 1079) rfl zd_14_76_24 ?_
  refine zz_iload_n (x := x2) rfl zd_14_76_25 ?_
  have g4 := zz_G.r G_S0 1102 x2.toNat 0 63 rfl rfl
  have e5 : S 1102 x2.toNat = S0 1102 x2.toNat := (zz_rc F_S (zz_nc1 rfl) rfl (fun h => h) rfl)
  have g6 := zz_G.r G_S0 1103 x2.toNat 0 63 rfl rfl
  have e7 : S 1103 x2.toNat = S0 1103 x2.toNat := (zz_rc F_S (zz_nc1 rfl) rfl (fun h => h) rfl)
  have g8 := zz_G.r G_S0 1104 x2.toNat 0 63 rfl rfl
  have e9 : S 1104 x2.toNat = S0 1104 x2.toNat := (zz_rc F_S (zz_nc1 rfl) rfl (fun h => h) rfl)
  refine zz_callVI [zi x2] zd_14_76_26 zk_Md_200 zT_1079 (zz_ltn hn rfl) rfl rfl ⟨Nat.le_of_ble_eq_true rfl, Nat.le_of_ble_eq_true rfl⟩ ⟨rfl, rfl⟩ (Nat.zero_le _) (Nat.zero_le _) (zc_sizeOf_14_90 x2 S n hn G_S (by omega)) (fun v11 S10 hP => ?_)
  obtain ⟨rfl, o12, o13⟩ := hP
  refine zz_icmp_ge (by omega) (by omega) zd_14_76_29 (fun c14 => ?_) (fun c14 => ?_)
  · refine zz_iinc [some (.ref 1079), some (zi (x1 + 1)), some (zi x2), some (zi x3)] zd_14_76_192 rfl rfl ?_
    refine zz_goto zd_14_76_195 ?_
    refine zz_less (ls1 := [some (.ref 1079), some (zi (x1 + 1))]) ⟨rfl, ⟨rfl, trivial⟩⟩ ?_
    exact k7 (x1 + 1) S G_S F_S (by omega) R_S (by omega)
  · have e92 : x2 = x1 + 1 := by omega
    have hz9 := R_S0.1 x2.toNat (by omega)
    unfold zz_tn zz_sz at hz9
    have d2 : S 1102 x2.toNat = S0 1102 x2.toNat := zz_rc F_S (zz_nc1 rfl) rfl (fun h => h) rfl
    have d3 : S 1103 x2.toNat = S0 1103 x2.toNat := zz_rc F_S (zz_nc1 rfl) rfl (fun h => h) rfl
    have d4 : S 1104 x2.toNat = S0 1104 x2.toNat := zz_rc F_S (zz_nc1 rfl) rfl (fun h => h) rfl
    have d5 : S 1102 x2.toNat * S 1103 x2.toNat * S 1104 x2.toNat = S0 1102 x2.toNat * S0 1103 x2.toNat * S0 1104 x2.toNat := by rw [d2, d3, d4]
    have hs9 := zz_ny2 (h := S0 1102 x2.toNat) (w := S0 1103 x2.toNat) (c := S0 1104 x2.toNat) (k := x3) (by omega) (by omega) (by omega)
    have gf9 := zz_G.r G_S0 1105 x2.toNat (0) (if x2.toNat = 0 then 0 else 10000000) rfl rfl
    have u2 : S0 1102 (x1 + 1).toNat = S0 1102 x2.toNat := by rw [e92]
    have u3 : S0 1103 (x1 + 1).toNat = S0 1103 x2.toNat := by rw [e92]
    have u4 : S0 1104 (x1 + 1).toNat = S0 1104 x2.toNat := by rw [e92]
    refine zz_iload_n (x := x3) rfl zd_14_76_32 ?_
    refine zz_aload_n (x := 1079) rfl zd_14_76_33 ?_
    refine zz_getr (kd := 0) (z := 1104) zd_14_76_34 zf_Md_94 zT_1079 rfl (zz_ltn hn rfl) (zz_G.eq G_S 1079 39 1104 rfl rfl) (by decide) 1104 rfl ?_
    refine zz_iload_n (x := x2) rfl zd_14_76_37 ?_
    refine zz_iald (z := S0 1104 x2.toNat) zd_14_76_38 zT_1104 rfl (zz_ltn hn rfl) (by decide) (by omega) (zz_rc F_S (zz_nc1 rfl) rfl (fun h => h) rfl) ?_
    refine zz_irem (by omega) (by omega) zd_14_76_39 (fun v15 hv15 av15 bv15 cv15 => ?_)
    obtain rfl : v15 = x3 % (S0 1104 x2.toNat) := by omega
    refine zz_istore [some (.ref 1079), some (zi x1), some (zi x2), some (zi x3), some (zi (x3 % (S0 1104 x2.toNat)))] zd_14_76_40 (by decide) rfl ?_
    refine zz_iload_n (x := x3) rfl zd_14_76_42 ?_
    refine zz_aload_n (x := 1079) rfl zd_14_76_43 ?_
    refine zz_getr (kd := 0) (z := 1104) zd_14_76_44 zf_Md_94 zT_1079 rfl (zz_ltn hn rfl) (zz_G.eq G_S 1079 39 1104 rfl rfl) (by decide) 1104 rfl ?_
    refine zz_iload_n (x := x2) rfl zd_14_76_47 ?_
    refine zz_iald (z := S0 1104 x2.toNat) zd_14_76_48 zT_1104 rfl (zz_ltn hn rfl) (by decide) (by omega) (zz_rc F_S (zz_nc1 rfl) rfl (fun h => h) rfl) ?_
    refine zz_idiv (by omega) (by omega) zd_14_76_49 (fun v16 hv16 av16 bv16 cv16 => ?_)
    have m17 := zz_divb (by omega) (by omega) av16
    obtain rfl : v16 = x3 / (S0 1104 x2.toNat) := by omega
    refine zz_aload_n (x := 1079) rfl zd_14_76_50 ?_
    refine zz_getr (kd := 0) (z := 1103) zd_14_76_51 zf_Md_91 zT_1079 rfl (zz_ltn hn rfl) (zz_G.eq G_S 1079 38 1103 rfl rfl) (by decide) 1103 rfl ?_
    refine zz_iload_n (x := x2) rfl zd_14_76_54 ?_
    refine zz_iald (z := S0 1103 x2.toNat) zd_14_76_55 zT_1103 rfl (zz_ltn hn rfl) (by decide) (by omega) (zz_rc F_S (zz_nc1 rfl) rfl (fun h => h) rfl) ?_
    refine zz_irem (by omega) (by omega) zd_14_76_56 (fun v18 hv18 av18 bv18 cv18 => ?_)
    obtain rfl : v18 = (x3 / (S0 1104 x2.toNat)) % (S0 1103 x2.toNat) := by omega
    refine zz_istore [some (.ref 1079), some (zi x1), some (zi x2), some (zi x3), some (zi (x3 % (S0 1104 x2.toNat))), some (zi ((x3 / (S0 1104 x2.toNat)) % (S0 1103 x2.toNat)))] zd_14_76_57 (by decide) rfl ?_
    refine zz_iload_n (x := x3) rfl zd_14_76_59 ?_
    refine zz_aload_n (x := 1079) rfl zd_14_76_60 ?_
    refine zz_getr (kd := 0) (z := 1104) zd_14_76_61 zf_Md_94 zT_1079 rfl (zz_ltn hn rfl) (zz_G.eq G_S 1079 39 1104 rfl rfl) (by decide) 1104 rfl ?_
    refine zz_iload_n (x := x2) rfl zd_14_76_64 ?_
    refine zz_iald (z := S0 1104 x2.toNat) zd_14_76_65 zT_1104 rfl (zz_ltn hn rfl) (by decide) (by omega) (zz_rc F_S (zz_nc1 rfl) rfl (fun h => h) rfl) ?_
    refine zz_idiv (by omega) (by omega) zd_14_76_66 (fun v19 hv19 av19 bv19 cv19 => ?_)
    have m20 := zz_divb (by omega) (by omega) av19
    obtain rfl : v19 = x3 / (S0 1104 x2.toNat) := by omega
    refine zz_aload_n (x := 1079) rfl zd_14_76_67 ?_
    refine zz_getr (kd := 0) (z := 1103) zd_14_76_68 zf_Md_91 zT_1079 rfl (zz_ltn hn rfl) (zz_G.eq G_S 1079 38 1103 rfl rfl) (by decide) 1103 rfl ?_
    refine zz_iload_n (x := x2) rfl zd_14_76_71 ?_
    refine zz_iald (z := S0 1103 x2.toNat) zd_14_76_72 zT_1103 rfl (zz_ltn hn rfl) (by decide) (by omega) (zz_rc F_S (zz_nc1 rfl) rfl (fun h => h) rfl) ?_
    refine zz_idiv (by omega) (by omega) zd_14_76_73 (fun v21 hv21 av21 bv21 cv21 => ?_)
    have m22 := zz_divb (by omega) (by omega) av21
    obtain rfl : v21 = (x3 / (S0 1104 x2.toNat)) / (S0 1103 x2.toNat) := by omega
    refine zz_istore [some (.ref 1079), some (zi x1), some (zi x2), some (zi x3), some (zi (x3 % (S0 1104 x2.toNat))), some (zi ((x3 / (S0 1104 x2.toNat)) % (S0 1103 x2.toNat))), some (zi ((x3 / (S0 1104 x2.toNat)) / (S0 1103 x2.toNat)))] zd_14_76_74 (by decide) rfl ?_
    refine zz_aload_n (x := 1079) rfl zd_14_76_76 ?_
    refine zz_getr (kd := 0) (z := 1106) zd_14_76_77 zf_Md_100 zT_1079 rfl (zz_ltn hn rfl) (zz_G.eq G_S 1079 41 1106 rfl rfl) (by decide) 1106 rfl ?_
    refine zz_iload_n (x := x1) rfl zd_14_76_80 ?_
    have g23 := zz_G.r G_S0 1106 x1.toNat 0 2 rfl rfl
    refine zz_iald (z := S0 1106 x1.toNat) zd_14_76_81 zT_1106 rfl (zz_ltn hn rfl) (by decide) (by omega) (zz_rc F_S (zz_nc1 rfl) rfl (fun h => h) rfl) ?_
    refine zz_if_ne (by omega) zd_14_76_82 (fun c24 => ?_) (fun c24 => ?_)
    · refine zz_aload_n (x := 1079) rfl zd_14_76_101 ?_
      refine zz_getr (kd := 0) (z := 1106) zd_14_76_102 zf_Md_100 zT_1079 rfl (zz_ltn hn rfl) (zz_G.eq G_S 1079 41 1106 rfl rfl) (by decide) 1106 rfl ?_
      refine zz_iload_n (x := x1) rfl zd_14_76_105 ?_
      refine zz_iald (z := S0 1106 x1.toNat) zd_14_76_106 zT_1106 rfl (zz_ltn hn rfl) (by decide) (by omega) (zz_rc F_S (zz_nc1 rfl) rfl (fun h => h) rfl) ?_
      refine zz_iconst zd_14_76_107 ?_
      refine zz_icmp_ne (by omega) (by omega) zd_14_76_108 (fun c25 => ?_) (fun c25 => ?_)
      · have hb9 := R_S0.2 x1.toNat (by omega)
        unfold zz_la at hb9
        have hone := hb9.1
        have hk9 := hb9.2.2.2 (by omega)
        clear hb9
        rw [show x1.toNat + 1 = x2.toNat by omega] at hk9
        refine zz_aload_n (x := 1079) rfl zd_14_76_127 ?_
        refine zz_aload_n (x := 1079) rfl zd_14_76_128 ?_
        refine zz_getr (kd := 0) (z := 1107) zd_14_76_129 zf_Md_103 zT_1079 rfl (zz_ltn hn rfl) (zz_G.eq G_S 1079 42 1107 rfl rfl) (by decide) 1107 rfl ?_
        refine zz_iload_n (x := x1) rfl zd_14_76_132 ?_
        have g26 := zz_G.r G_S0 1107 x1.toNat 0 10 rfl rfl
        refine zz_iald (z := S0 1107 x1.toNat) zd_14_76_133 zT_1107 rfl (zz_ltn hn rfl) (by decide) (by omega) (zz_rc F_S (zz_nc1 rfl) rfl (fun h => h) rfl) ?_
        refine zz_iload (x := (x3 / (S0 1104 x2.toNat)) / (S0 1103 x2.toNat)) rfl zd_14_76_134 ?_
        refine zz_iload (x := (x3 / (S0 1104 x2.toNat)) % (S0 1103 x2.toNat)) rfl zd_14_76_136 ?_
        refine zz_iload (x := x3 % (S0 1104 x2.toNat)) rfl zd_14_76_138 ?_
        have g27 := zz_G.r G_S0 1102 ((S0 1107 x1.toNat).toNat) 0 63 rfl rfl
        have e28 : S 1102 (S0 1107 x1.toNat).toNat = S0 1102 (S0 1107 x1.toNat).toNat := (zz_rc F_S (zz_nc1 rfl) rfl (fun h => h) rfl)
        have g29 := zz_G.r G_S0 1103 ((S0 1107 x1.toNat).toNat) 0 63 rfl rfl
        have e30 : S 1103 (S0 1107 x1.toNat).toNat = S0 1103 (S0 1107 x1.toNat).toNat := (zz_rc F_S (zz_nc1 rfl) rfl (fun h => h) rfl)
        have g31 := zz_G.r G_S0 1104 ((S0 1107 x1.toNat).toNat) 0 63 rfl rfl
        have e32 : S 1104 (S0 1107 x1.toNat).toNat = S0 1104 (S0 1107 x1.toNat).toNat := (zz_rc F_S (zz_nc1 rfl) rfl (fun h => h) rfl)
        refine zz_callVI [zi (S0 1107 x1.toNat), zi ((x3 / (S0 1104 x2.toNat)) / (S0 1103 x2.toNat)), zi ((x3 / (S0 1104 x2.toNat)) % (S0 1103 x2.toNat)), zi (x3 % (S0 1104 x2.toNat))] zd_14_76_140 zk_Md_438 zT_1079 (zz_ltn hn rfl) rfl rfl ⟨Nat.le_of_ble_eq_true rfl, Nat.le_of_ble_eq_true rfl⟩ ⟨rfl, rfl⟩ (Nat.zero_le _) (Nat.zero_le _) (zc_cellAt_14_73 (S0 1107 x1.toNat) ((x3 / (S0 1104 x2.toNat)) / (S0 1103 x2.toNat)) ((x3 / (S0 1104 x2.toNat)) % (S0 1103 x2.toNat)) (x3 % (S0 1104 x2.toNat)) S n hn G_S (by omega) (by omega) (by omega) (by omega) (R_S.1 (S0 1107 x1.toNat).toNat (by rw [show S 1079 36 = S0 1079 36 from zz_rc F_S rfl rfl (fun h => h) rfl]; omega)) (by omega) (by omega) (by omega)) (fun v34 S33 hP => ?_)
        obtain ⟨rfl, o35⟩ := hP
        refine zz_aload_n (x := 1079) rfl zd_14_76_143 ?_
        refine zz_aload_n (x := 1079) rfl zd_14_76_144 ?_
        refine zz_getr (kd := 0) (z := 1108) zd_14_76_145 zf_Md_106 zT_1079 rfl (zz_ltn hn rfl) (zz_G.eq G_S 1079 43 1108 rfl rfl) (by decide) 1108 rfl ?_
        refine zz_iload_n (x := x1) rfl zd_14_76_148 ?_
        have g36 := zz_G.r G_S0 1108 x1.toNat 0 10 rfl rfl
        refine zz_iald (z := S0 1108 x1.toNat) zd_14_76_149 zT_1108 rfl (zz_ltn hn rfl) (by decide) (by omega) (zz_rc F_S (zz_nc1 rfl) rfl (fun h => h) rfl) ?_
        refine zz_iload (x := (x3 / (S0 1104 x2.toNat)) / (S0 1103 x2.toNat)) rfl zd_14_76_150 ?_
        refine zz_iload (x := (x3 / (S0 1104 x2.toNat)) % (S0 1103 x2.toNat)) rfl zd_14_76_152 ?_
        refine zz_iload (x := x3 % (S0 1104 x2.toNat)) rfl zd_14_76_154 ?_
        have g37 := zz_G.r G_S0 1102 ((S0 1108 x1.toNat).toNat) 0 63 rfl rfl
        have e38 : S 1102 (S0 1108 x1.toNat).toNat = S0 1102 (S0 1108 x1.toNat).toNat := (zz_rc F_S (zz_nc1 rfl) rfl (fun h => h) rfl)
        have g39 := zz_G.r G_S0 1103 ((S0 1108 x1.toNat).toNat) 0 63 rfl rfl
        have e40 : S 1103 (S0 1108 x1.toNat).toNat = S0 1103 (S0 1108 x1.toNat).toNat := (zz_rc F_S (zz_nc1 rfl) rfl (fun h => h) rfl)
        have g41 := zz_G.r G_S0 1104 ((S0 1108 x1.toNat).toNat) 0 63 rfl rfl
        have e42 : S 1104 (S0 1108 x1.toNat).toNat = S0 1104 (S0 1108 x1.toNat).toNat := (zz_rc F_S (zz_nc1 rfl) rfl (fun h => h) rfl)
        refine zz_callVI [zi (S0 1108 x1.toNat), zi ((x3 / (S0 1104 x2.toNat)) / (S0 1103 x2.toNat)), zi ((x3 / (S0 1104 x2.toNat)) % (S0 1103 x2.toNat)), zi (x3 % (S0 1104 x2.toNat))] zd_14_76_156 zk_Md_438 zT_1079 (zz_ltn hn rfl) rfl rfl ⟨Nat.le_of_ble_eq_true rfl, Nat.le_of_ble_eq_true rfl⟩ ⟨rfl, rfl⟩ (Nat.zero_le _) (Nat.zero_le _) (zc_cellAt_14_73 (S0 1108 x1.toNat) ((x3 / (S0 1104 x2.toNat)) / (S0 1103 x2.toNat)) ((x3 / (S0 1104 x2.toNat)) % (S0 1103 x2.toNat)) (x3 % (S0 1104 x2.toNat)) S n hn G_S (by omega) (by omega) (by omega) (by omega) (R_S.1 (S0 1108 x1.toNat).toNat (by rw [show S 1079 36 = S0 1079 36 from zz_rc F_S rfl rfl (fun h => h) rfl]; omega)) (by omega) (by omega) (by omega)) (fun v44 S43 hP => ?_)
        obtain ⟨rfl, o45⟩ := hP
        refine zz_iadd zd_14_76_159 ?_
        refine zz_nrm (fun v46 hv46 ev46 => ?_)
        refine zz_aload_n (x := 1079) rfl zd_14_76_160 ?_
        refine zz_getr (kd := 0) (z := 1113) zd_14_76_161 zf_Md_121 zT_1079 rfl (zz_ltn hn rfl) (zz_G.eq G_S 1079 48 1113 rfl rfl) (by decide) 1113 rfl ?_
        refine zz_iload_n (x := x1) rfl zd_14_76_164 ?_
        have g47 := zz_G.r G_S0 1113 x1.toNat 0 31 rfl rfl
        refine zz_iald (z := S0 1113 x1.toNat) zd_14_76_165 zT_1113 rfl (zz_ltn hn rfl) (by decide) (by omega) (zz_rc F_S (zz_nc1 rfl) rfl (fun h => h) rfl) ?_
        refine zz_callSI [zi v46, zi (S0 1113 x1.toNat)] zd_14_76_166 zk_Md_261 rfl rfl ⟨Nat.le_of_ble_eq_true rfl, Nat.le_of_ble_eq_true rfl⟩ ⟨rfl, rfl⟩ (Nat.zero_le _) (Nat.zero_le _) (zc_narrowed_14_26 v46 (S0 1113 x1.toNat) S n hn G_S (by omega) (by omega)) (fun v49 S48 hP => ?_)
        obtain ⟨rfl, o50⟩ := hP
        refine zz_istore [some (.ref 1079), some (zi x1), some (zi x2), some (zi x3), some (zi (x3 % (S0 1104 x2.toNat))), some (zi ((x3 / (S0 1104 x2.toNat)) % (S0 1103 x2.toNat))), some (zi ((x3 / (S0 1104 x2.toNat)) / (S0 1103 x2.toNat))), some (zi v49)] zd_14_76_169 (by decide) rfl ?_
        refine zz_aload_n (x := 1079) rfl zd_14_76_171 ?_
        refine zz_getr (kd := 0) (z := 1080) zd_14_76_172 zf_Md_13 zT_1079 rfl (zz_ltn hn rfl) (zz_G.eq G_S 1079 2 1080 rfl rfl) (by decide) 1080 rfl ?_
        refine zz_aload_n (x := 1079) rfl zd_14_76_175 ?_
        refine zz_getr (kd := 0) (z := 1105) zd_14_76_176 zf_Md_97 zT_1079 rfl (zz_ltn hn rfl) (zz_G.eq G_S 1079 40 1105 rfl rfl) (by decide) 1105 rfl ?_
        refine zz_iload_n (x := x2) rfl zd_14_76_179 ?_
        have g51 := zz_G.r G_S0 1105 x2.toNat (0) (if x2.toNat = 0 then 0 else 10000000) rfl rfl
        refine zz_iald (z := S0 1105 x2.toNat) zd_14_76_180 zT_1105 rfl (zz_ltn hn rfl) (by decide) (by omega) (zz_rc F_S (zz_nc1 rfl) rfl (fun h => h) rfl) ?_
        refine zz_iload_n (x := x3) rfl zd_14_76_181 ?_
        refine zz_iadd zd_14_76_182 ?_
        refine zz_iload (x := v49) rfl zd_14_76_183 ?_
        refine zz_iast zd_14_76_185 zT_1080 rfl (zz_ltn hn rfl) (by decide) (by omega) (fun S52 qS52 => ?_)
        have G_S52 := zz_G.put G_S qS52 (-2147483648) 2147483647 rfl (by omega)
        have F_S52 := zz_fr.putc F_S qS52 rfl
        have R_S52 : zz_Hr S52 := zz_Hr.fr (zz_fr.put1 qS52) rfl rfl (fun b j h => by omega) R_S
        refine zz_iinc [some (.ref 1079), some (zi x1), some (zi x2), some (zi (x3 + 1)), some (zi (x3 % (S0 1104 x2.toNat))), some (zi ((x3 / (S0 1104 x2.toNat)) % (S0 1103 x2.toNat))), some (zi ((x3 / (S0 1104 x2.toNat)) / (S0 1103 x2.toNat))), some (zi v49)] zd_14_76_186 rfl rfl ?_
        refine zz_goto zd_14_76_189 ?_
        refine zz_less (ls1 := [some (.ref 1079), some (zi x1), some (zi x2), some (zi (x3 + 1))]) ⟨rfl, ⟨rfl, ⟨rfl, ⟨rfl, trivial⟩⟩⟩⟩ ?_
        exact k23 x1 x2 (x3 + 1) S52 G_S52 F_S52 (by omega) (by omega) (by omega) (by omega) (by omega) (by omega) R_S52 (by omega)
      · refine zz_aload_n (x := 1079) rfl zd_14_76_111 ?_
        refine zz_iload_n (x := x1) rfl zd_14_76_112 ?_
        refine zz_iload (x := (x3 / (S0 1104 x2.toNat)) / (S0 1103 x2.toNat)) rfl zd_14_76_113 ?_
        refine zz_iload (x := (x3 / (S0 1104 x2.toNat)) % (S0 1103 x2.toNat)) rfl zd_14_76_115 ?_
        refine zz_iload (x := x3 % (S0 1104 x2.toNat)) rfl zd_14_76_117 ?_
        have g53 := zz_G.r G_S0 1079 36 0 11 rfl rfl
        have e54 : S 1079 36 = S0 1079 36 := (zz_rc F_S rfl rfl (fun h => h) rfl)
        have e55 : S 1106 x1.toNat = S0 1106 x1.toNat := (zz_rc F_S (zz_nc1 rfl) rfl (fun h => h) rfl)
        have g56 := zz_G.r G_S0 1102 ((x1 + 1).toNat) 0 63 rfl rfl
        have e57 : S 1102 (x1 + 1).toNat = S0 1102 (x1 + 1).toNat := (zz_rc F_S (zz_nc1 rfl) rfl (fun h => h) rfl)
        have g58 := zz_G.r G_S0 1103 ((x1 + 1).toNat) 0 63 rfl rfl
        have e59 : S 1103 (x1 + 1).toNat = S0 1103 (x1 + 1).toNat := (zz_rc F_S (zz_nc1 rfl) rfl (fun h => h) rfl)
        have g60 := zz_G.r G_S0 1104 ((x1 + 1).toNat) 0 63 rfl rfl
        have e61 : S 1104 (x1 + 1).toNat = S0 1104 (x1 + 1).toNat := (zz_rc F_S (zz_nc1 rfl) rfl (fun h => h) rfl)
        refine zz_callVI [zi x1, zi ((x3 / (S0 1104 x2.toNat)) / (S0 1103 x2.toNat)), zi ((x3 / (S0 1104 x2.toNat)) % (S0 1103 x2.toNat)), zi (x3 % (S0 1104 x2.toNat))] zd_14_76_119 zk_Md_444 zT_1079 (zz_ltn hn rfl) rfl rfl ⟨Nat.le_of_ble_eq_true rfl, Nat.le_of_ble_eq_true rfl⟩ ⟨rfl, rfl⟩ (Nat.zero_le _) (Nat.zero_le _) (zc_pooled_14_75 x1 ((x3 / (S0 1104 x2.toNat)) / (S0 1103 x2.toNat)) ((x3 / (S0 1104 x2.toNat)) % (S0 1103 x2.toNat)) (x3 % (S0 1104 x2.toNat)) S n hn G_S (by omega) (by omega) (by omega) (by omega) R_S (by omega) (by omega) (by omega) (by omega) (by omega)) (fun v63 S62 hP => ?_)
        obtain ⟨rfl, o64⟩ := hP
        refine zz_istore [some (.ref 1079), some (zi x1), some (zi x2), some (zi x3), some (zi (x3 % (S0 1104 x2.toNat))), some (zi ((x3 / (S0 1104 x2.toNat)) % (S0 1103 x2.toNat))), some (zi ((x3 / (S0 1104 x2.toNat)) / (S0 1103 x2.toNat))), some (zi v63)] zd_14_76_122 (by decide) rfl ?_
        refine zz_goto zd_14_76_124 ?_
        refine zz_aload_n (x := 1079) rfl zd_14_76_171 ?_
        refine zz_getr (kd := 0) (z := 1080) zd_14_76_172 zf_Md_13 zT_1079 rfl (zz_ltn hn rfl) (zz_G.eq G_S 1079 2 1080 rfl rfl) (by decide) 1080 rfl ?_
        refine zz_aload_n (x := 1079) rfl zd_14_76_175 ?_
        refine zz_getr (kd := 0) (z := 1105) zd_14_76_176 zf_Md_97 zT_1079 rfl (zz_ltn hn rfl) (zz_G.eq G_S 1079 40 1105 rfl rfl) (by decide) 1105 rfl ?_
        refine zz_iload_n (x := x2) rfl zd_14_76_179 ?_
        have g65 := zz_G.r G_S0 1105 x2.toNat (0) (if x2.toNat = 0 then 0 else 10000000) rfl rfl
        refine zz_iald (z := S0 1105 x2.toNat) zd_14_76_180 zT_1105 rfl (zz_ltn hn rfl) (by decide) (by omega) (zz_rc F_S (zz_nc1 rfl) rfl (fun h => h) rfl) ?_
        refine zz_iload_n (x := x3) rfl zd_14_76_181 ?_
        refine zz_iadd zd_14_76_182 ?_
        refine zz_iload (x := v63) rfl zd_14_76_183 ?_
        refine zz_iast zd_14_76_185 zT_1080 rfl (zz_ltn hn rfl) (by decide) (by omega) (fun S66 qS66 => ?_)
        have G_S66 := zz_G.put G_S qS66 (-2147483648) 2147483647 rfl (by omega)
        have F_S66 := zz_fr.putc F_S qS66 rfl
        have R_S66 : zz_Hr S66 := zz_Hr.fr (zz_fr.put1 qS66) rfl rfl (fun b j h => by omega) R_S
        refine zz_iinc [some (.ref 1079), some (zi x1), some (zi x2), some (zi (x3 + 1)), some (zi (x3 % (S0 1104 x2.toNat))), some (zi ((x3 / (S0 1104 x2.toNat)) % (S0 1103 x2.toNat))), some (zi ((x3 / (S0 1104 x2.toNat)) / (S0 1103 x2.toNat))), some (zi v63)] zd_14_76_186 rfl rfl ?_
        refine zz_goto zd_14_76_189 ?_
        refine zz_less (ls1 := [some (.ref 1079), some (zi x1), some (zi x2), some (zi (x3 + 1))]) ⟨rfl, ⟨rfl, ⟨rfl, ⟨rfl, trivial⟩⟩⟩⟩ ?_
        exact k23 x1 x2 (x3 + 1) S66 G_S66 F_S66 (by omega) (by omega) (by omega) (by omega) (by omega) (by omega) R_S66 (by omega)
    · refine zz_aload_n (x := 1079) rfl zd_14_76_85 ?_
      refine zz_iload_n (x := x1) rfl zd_14_76_86 ?_
      refine zz_iload (x := (x3 / (S0 1104 x2.toNat)) / (S0 1103 x2.toNat)) rfl zd_14_76_87 ?_
      refine zz_iload (x := (x3 / (S0 1104 x2.toNat)) % (S0 1103 x2.toNat)) rfl zd_14_76_89 ?_
      refine zz_iload (x := x3 % (S0 1104 x2.toNat)) rfl zd_14_76_91 ?_
      have g67 := zz_G.r G_S0 1079 36 0 11 rfl rfl
      have e68 : S 1079 36 = S0 1079 36 := (zz_rc F_S rfl rfl (fun h => h) rfl)
      have e69 : S 1106 x1.toNat = S0 1106 x1.toNat := (zz_rc F_S (zz_nc1 rfl) rfl (fun h => h) rfl)
      have g70 := zz_G.r G_S0 1104 ((x1 + 1).toNat) 0 63 rfl rfl
      have e71 : S 1104 (x1 + 1).toNat = S0 1104 (x1 + 1).toNat := (zz_rc F_S (zz_nc1 rfl) rfl (fun h => h) rfl)
      refine zz_callVI [zi x1, zi ((x3 / (S0 1104 x2.toNat)) / (S0 1103 x2.toNat)), zi ((x3 / (S0 1104 x2.toNat)) % (S0 1103 x2.toNat)), zi (x3 % (S0 1104 x2.toNat))] zd_14_76_93 zk_Md_441 zT_1079 (zz_ltn hn rfl) rfl rfl ⟨Nat.le_of_ble_eq_true rfl, Nat.le_of_ble_eq_true rfl⟩ ⟨rfl, rfl⟩ (Nat.zero_le _) (Nat.zero_le _) (zc_convolved_14_74 x1 ((x3 / (S0 1104 x2.toNat)) / (S0 1103 x2.toNat)) ((x3 / (S0 1104 x2.toNat)) % (S0 1103 x2.toNat)) (x3 % (S0 1104 x2.toNat)) S n hn G_S (by omega) (by omega) (by omega) (by omega) R_S (by omega) (by omega) (by omega)) (fun v73 S72 hP => ?_)
      obtain ⟨rfl, o74⟩ := hP
      refine zz_istore [some (.ref 1079), some (zi x1), some (zi x2), some (zi x3), some (zi (x3 % (S0 1104 x2.toNat))), some (zi ((x3 / (S0 1104 x2.toNat)) % (S0 1103 x2.toNat))), some (zi ((x3 / (S0 1104 x2.toNat)) / (S0 1103 x2.toNat))), some (zi v73)] zd_14_76_96 (by decide) rfl ?_
      refine zz_goto zd_14_76_98 ?_
      refine zz_aload_n (x := 1079) rfl zd_14_76_171 ?_
      refine zz_getr (kd := 0) (z := 1080) zd_14_76_172 zf_Md_13 zT_1079 rfl (zz_ltn hn rfl) (zz_G.eq G_S 1079 2 1080 rfl rfl) (by decide) 1080 rfl ?_
      refine zz_aload_n (x := 1079) rfl zd_14_76_175 ?_
      refine zz_getr (kd := 0) (z := 1105) zd_14_76_176 zf_Md_97 zT_1079 rfl (zz_ltn hn rfl) (zz_G.eq G_S 1079 40 1105 rfl rfl) (by decide) 1105 rfl ?_
      refine zz_iload_n (x := x2) rfl zd_14_76_179 ?_
      have g75 := zz_G.r G_S0 1105 x2.toNat (0) (if x2.toNat = 0 then 0 else 10000000) rfl rfl
      refine zz_iald (z := S0 1105 x2.toNat) zd_14_76_180 zT_1105 rfl (zz_ltn hn rfl) (by decide) (by omega) (zz_rc F_S (zz_nc1 rfl) rfl (fun h => h) rfl) ?_
      refine zz_iload_n (x := x3) rfl zd_14_76_181 ?_
      refine zz_iadd zd_14_76_182 ?_
      refine zz_iload (x := v73) rfl zd_14_76_183 ?_
      refine zz_iast zd_14_76_185 zT_1080 rfl (zz_ltn hn rfl) (by decide) (by omega) (fun S76 qS76 => ?_)
      have G_S76 := zz_G.put G_S qS76 (-2147483648) 2147483647 rfl (by omega)
      have F_S76 := zz_fr.putc F_S qS76 rfl
      have R_S76 : zz_Hr S76 := zz_Hr.fr (zz_fr.put1 qS76) rfl rfl (fun b j h => by omega) R_S
      refine zz_iinc [some (.ref 1079), some (zi x1), some (zi x2), some (zi (x3 + 1)), some (zi (x3 % (S0 1104 x2.toNat))), some (zi ((x3 / (S0 1104 x2.toNat)) % (S0 1103 x2.toNat))), some (zi ((x3 / (S0 1104 x2.toNat)) / (S0 1103 x2.toNat))), some (zi v73)] zd_14_76_186 rfl rfl ?_
      refine zz_goto zd_14_76_189 ?_
      refine zz_less (ls1 := [some (.ref 1079), some (zi x1), some (zi x2), some (zi (x3 + 1))]) ⟨rfl, ⟨rfl, ⟨rfl, ⟨rfl, trivial⟩⟩⟩⟩ ?_
      exact k23 x1 x2 (x3 + 1) S76 G_S76 F_S76 (by omega) (by omega) (by omega) (by omega) (by omega) (by omega) R_S76 (by omega)
theorem zi_reckon_14_76 {g : mm_G} {l : Launch}  (S0 : zz_S) (n : Nat) (hn : zz_end ≤ n) (G_S0 : zz_G S0) (R_S0 : zz_Hr S0) : ∀ N : Nat, (∀ (x1 : Int) (S : zz_S), zz_G S → zz_fr [(1079, 0)] [1080] (fun _ _ => False) S0 S → (0 ≤ x1 ∧ x1 ≤ 10) → (zz_Hr S) → (34359738368 + (2147483647 - x1).toNat) * 1099511627776 + 1099511627775 < N → zz_E g l zy_reckon_14_76 zr_reckon_14_76 (zz_QV n (zp_reckon_14_76  S0)) S n 7 [some (.ref 1079), some (zi x1)] [] 0 0) ∧ (∀ (x1 : Int) (x2 : Int) (x3 : Int) (S : zz_S), zz_G S → zz_fr [(1079, 0)] [1080] (fun _ _ => False) S0 S → (0 ≤ x1 ∧ x1 ≤ 9) → (1 ≤ x2 ∧ x2 ≤ 10) → (0 ≤ x3 ∧ x3 ≤ 250047) → (0 ≤ x1 ∧ x1 ≤ 10) → (x2 = x1 + 1) → (x1 + 1 < S0 1079 36) → (zz_Hr S) → (34359738368 + (2147483647 - x1).toNat) * 1099511627776 + (17179869184 + (2147483647 - x3).toNat) < N → zz_E g l zy_reckon_14_76 zr_reckon_14_76 (zz_QV n (zp_reckon_14_76  S0)) S n 23 [some (.ref 1079), some (zi x1), some (zi x2), some (zi x3)] [] 0 0) := by
  intro N
  induction N with
  | zero => exact ⟨fun x1 S _ _ _ _ h => absurd h (Nat.not_lt_zero _), fun x1 x2 x3 S _ _ _ _ _ _ _ _ _ h => absurd h (Nat.not_lt_zero _)⟩
  | succ N ih =>
    exact ⟨fun x1 S a b j0 j1 hR => zb_reckon_14_76_7  S0 n hn G_S0 R_S0 x1 S a b j0 j1 _ rfl (fun x1 x2 x3 S a b j0 j1 j2 j3 j4 j5 j6 h => ih.2 x1 x2 x3 S a b j0 j1 j2 j3 j4 j5 j6 (Nat.lt_of_lt_of_le h (Nat.le_of_lt_succ hR))),
      fun x1 x2 x3 S a b j0 j1 j2 j3 j4 j5 j6 hR => zb_reckon_14_76_23  S0 n hn G_S0 R_S0 x1 x2 x3 S a b j0 j1 j2 j3 j4 j5 j6 _ rfl (fun x1 S a b j0 j1 h => ih.1 x1 S a b j0 j1 (Nat.lt_of_lt_of_le h (Nat.le_of_lt_succ hR))) (fun x1 x2 x3 S a b j0 j1 j2 j3 j4 j5 j6 h => ih.2 x1 x2 x3 S a b j0 j1 j2 j3 j4 j5 j6 (Nat.lt_of_lt_of_le h (Nat.le_of_lt_succ hR)))⟩
theorem zc_reckon_14_76 {g : mm_G} {l : Launch}  (S0 : zz_S) (n : Nat) (hn : zz_end ≤ n) (G_S0 : zz_G S0) (R_S0 : zz_Hr S0) : mm_Met g l zy_reckon_14_76 zr_reckon_14_76 [.ref 1079] (zz_M S0 n) n (zz_QV n (zp_reckon_14_76  S0)) := by
  refine zz_enter (by decide) (Nat.le_of_ble_eq_true rfl) (zz_less (ls1 := [some (.ref 1079)]) ⟨rfl, trivial⟩ ?_)
  have F_S0 : zz_fr [(1079, 0)] [1080] (fun _ _ => False) S0 S0 := zz_fr.refl
  have k7 : ∀ (x1 : Int) (S : zz_S), zz_G S → zz_fr [(1079, 0)] [1080] (fun _ _ => False) S0 S → (0 ≤ x1 ∧ x1 ≤ 10) → (zz_Hr S) → zz_E g l zy_reckon_14_76 zr_reckon_14_76 (zz_QV n (zp_reckon_14_76  S0)) S n 7 [some (.ref 1079), some (zi x1)] [] 0 0 := fun x1 S a b j0 j1 => (zi_reckon_14_76 (g := g) (l := l)  S0 n hn G_S0 R_S0 _).1 x1 S a b j0 j1 (Nat.lt_succ_self _)
  refine zz_aload_n (x := 1079) rfl zd_14_76_0 ?_
  refine zz_iconst zd_14_76_1 ?_
  refine zz_puti zd_14_76_2 zf_Md_187 zT_1079 rfl (zz_ltn hn rfl) (fun S1 qS1 => ?_)
  have G_S1 := zz_G.put G_S0 qS1 0 3 rfl (by omega)
  have F_S1 := zz_fr.puts F_S0 qS1 rfl
  have R_S1 : zz_Hr S1 := zz_Hr.p79 qS1 (by decide) R_S0
  refine zz_iconst zd_14_76_5 ?_
  refine zz_istore_n [some (.ref 1079), some (zi 0)] zd_14_76_6 (by decide) rfl ?_
  refine zz_less (ls1 := [some (.ref 1079), some (zi 0)]) ⟨rfl, ⟨rfl, trivial⟩⟩ ?_
  exact k7 0 S1 G_S1 F_S1 (by omega) R_S1
abbrev zy_emit_14_77 : mm_Y := (⟨"TensorForgeModel", "emit", "(I)V"⟩, prog_14_method_77_code, 3, none)
theorem zyw_emit_14_77 : mm_Yw zy_emit_14_77 1 := ⟨mm_tb_1 2175 (by decide +kernel) rfl, mm_tb_1 12 (by decide +kernel) rfl, ⟨by decide, by decide⟩, by decide +kernel⟩
theorem zg_14_77_0 : (decode zy_emit_14_77.2.1 0 = .ok ((.iconst 0), 1)) ∧ (decode zy_emit_14_77.2.1 1 = .ok ((.istore_n 2), 1)) ∧ (decode zy_emit_14_77.2.1 2 = .ok ((.iload_n 2), 1)) ∧ (decode zy_emit_14_77.2.1 3 = .ok ((.iconst 4), 1)) ∧ (decode zy_emit_14_77.2.1 4 = .ok ((Instr.if_icmp .ge) 22, 3)) ∧ (decode zy_emit_14_77.2.1 7 = .ok ((.aload_n 0), 1)) ∧ (decode zy_emit_14_77.2.1 8 = .ok ((.getfield 36), 3)) ∧ (decode zy_emit_14_77.2.1 11 = .ok ((.iload_n 2), 1)) ∧ (decode zy_emit_14_77.2.1 12 = .ok ((.iconst 1), 1)) ∧ (decode zy_emit_14_77.2.1 13 = .ok ((.iadd), 1)) := by decide +kernel
theorem zd_14_77_0 : zz_D zy_emit_14_77 0 (.iconst 0) 1 1 := ⟨zg_14_77_0.1, rfl⟩
theorem zd_14_77_1 : zz_D zy_emit_14_77 1 (.istore_n 2) 1 2 := ⟨zg_14_77_0.2.1, rfl⟩
theorem zd_14_77_2 : zz_D zy_emit_14_77 2 (.iload_n 2) 1 3 := ⟨zg_14_77_0.2.2.1, rfl⟩
theorem zd_14_77_3 : zz_D zy_emit_14_77 3 (.iconst 4) 1 4 := ⟨zg_14_77_0.2.2.2.1, rfl⟩
theorem zd_14_77_4 : zz_B zy_emit_14_77 4 (Instr.if_icmp .ge) 26 7 := ⟨22, zg_14_77_0.2.2.2.2.1, rfl, rfl⟩
theorem zd_14_77_7 : zz_D zy_emit_14_77 7 (.aload_n 0) 1 8 := ⟨zg_14_77_0.2.2.2.2.2.1, rfl⟩
theorem zd_14_77_8 : zz_D zy_emit_14_77 8 (.getfield 36) 3 11 := ⟨zg_14_77_0.2.2.2.2.2.2.1, rfl⟩
theorem zd_14_77_11 : zz_D zy_emit_14_77 11 (.iload_n 2) 1 12 := ⟨zg_14_77_0.2.2.2.2.2.2.2.1, rfl⟩
theorem zd_14_77_12 : zz_D zy_emit_14_77 12 (.iconst 1) 1 13 := ⟨zg_14_77_0.2.2.2.2.2.2.2.2.1, rfl⟩
theorem zd_14_77_13 : zz_D zy_emit_14_77 13 (.iadd) 1 14 := ⟨zg_14_77_0.2.2.2.2.2.2.2.2.2, rfl⟩
theorem zg_14_77_14 : (decode zy_emit_14_77.2.1 14 = .ok ((.iload_n 1), 1)) ∧ (decode zy_emit_14_77.2.1 15 = .ok ((.iload_n 2), 1)) ∧ (decode zy_emit_14_77.2.1 16 = .ok ((.ishr), 1)) ∧ (decode zy_emit_14_77.2.1 17 = .ok ((.iconst 1), 1)) ∧ (decode zy_emit_14_77.2.1 18 = .ok ((.iand), 1)) ∧ (decode zy_emit_14_77.2.1 19 = .ok ((.iastore), 1)) ∧ (decode zy_emit_14_77.2.1 20 = .ok ((.iinc 2 1), 3)) ∧ (decode zy_emit_14_77.2.1 23 = .ok (Instr.goto (-21), 3)) ∧ (decode zy_emit_14_77.2.1 26 = .ok ((.aload_n 0), 1)) ∧ (decode zy_emit_14_77.2.1 27 = .ok ((.getfield 372), 3)) := by decide +kernel
theorem zd_14_77_14 : zz_D zy_emit_14_77 14 (.iload_n 1) 1 15 := ⟨zg_14_77_14.1, rfl⟩
theorem zd_14_77_15 : zz_D zy_emit_14_77 15 (.iload_n 2) 1 16 := ⟨zg_14_77_14.2.1, rfl⟩
theorem zd_14_77_16 : zz_D zy_emit_14_77 16 (.ishr) 1 17 := ⟨zg_14_77_14.2.2.1, rfl⟩
theorem zd_14_77_17 : zz_D zy_emit_14_77 17 (.iconst 1) 1 18 := ⟨zg_14_77_14.2.2.2.1, rfl⟩
theorem zd_14_77_18 : zz_D zy_emit_14_77 18 (.iand) 1 19 := ⟨zg_14_77_14.2.2.2.2.1, rfl⟩
theorem zd_14_77_19 : zz_D zy_emit_14_77 19 (.iastore) 1 20 := ⟨zg_14_77_14.2.2.2.2.2.1, rfl⟩
theorem zd_14_77_20 : zz_D zy_emit_14_77 20 (.iinc 2 1) 3 23 := ⟨zg_14_77_14.2.2.2.2.2.2.1, rfl⟩
theorem zd_14_77_23 : zz_B zy_emit_14_77 23 Instr.goto 2 26 := ⟨(-21), zg_14_77_14.2.2.2.2.2.2.2.1, rfl, rfl⟩
theorem zd_14_77_26 : zz_D zy_emit_14_77 26 (.aload_n 0) 1 27 := ⟨zg_14_77_14.2.2.2.2.2.2.2.2.1, rfl⟩
theorem zd_14_77_27 : zz_D zy_emit_14_77 27 (.getfield 372) 3 30 := ⟨zg_14_77_14.2.2.2.2.2.2.2.2.2, rfl⟩
theorem zg_14_77_30 : (decode zy_emit_14_77.2.1 30 = .ok ((.sipush 600), 3)) ∧ (decode zy_emit_14_77.2.1 33 = .ok ((Instr.if_icmp .ge) 16, 3)) ∧ (decode zy_emit_14_77.2.1 49 = .ok ((.aload_n 0), 1)) ∧ (decode zy_emit_14_77.2.1 50 = .ok ((.dup), 1)) ∧ (decode zy_emit_14_77.2.1 51 = .ok ((.getfield 372), 3)) ∧ (decode zy_emit_14_77.2.1 54 = .ok ((.iconst 1), 1)) ∧ (decode zy_emit_14_77.2.1 55 = .ok ((.iadd), 1)) ∧ (decode zy_emit_14_77.2.1 56 = .ok ((.putfield 372), 3)) ∧ (decode zy_emit_14_77.2.1 59 = .ok ((.return_), 1)) ∧ (decode zy_emit_14_77.2.1 36 = .ok ((.aload_n 0), 1)) := by decide +kernel
theorem zd_14_77_30 : zz_D zy_emit_14_77 30 (.sipush 600) 3 33 := ⟨zg_14_77_30.1, rfl⟩
theorem zd_14_77_33 : zz_B zy_emit_14_77 33 (Instr.if_icmp .ge) 49 36 := ⟨16, zg_14_77_30.2.1, rfl, rfl⟩
theorem zd_14_77_49 : zz_D zy_emit_14_77 49 (.aload_n 0) 1 50 := ⟨zg_14_77_30.2.2.1, rfl⟩
theorem zd_14_77_50 : zz_D zy_emit_14_77 50 (.dup) 1 51 := ⟨zg_14_77_30.2.2.2.1, rfl⟩
theorem zd_14_77_51 : zz_D zy_emit_14_77 51 (.getfield 372) 3 54 := ⟨zg_14_77_30.2.2.2.2.1, rfl⟩
theorem zd_14_77_54 : zz_D zy_emit_14_77 54 (.iconst 1) 1 55 := ⟨zg_14_77_30.2.2.2.2.2.1, rfl⟩
theorem zd_14_77_55 : zz_D zy_emit_14_77 55 (.iadd) 1 56 := ⟨zg_14_77_30.2.2.2.2.2.2.1, rfl⟩
theorem zd_14_77_56 : zz_D zy_emit_14_77 56 (.putfield 372) 3 59 := ⟨zg_14_77_30.2.2.2.2.2.2.2.1, rfl⟩
theorem zd_14_77_59 : zz_D zy_emit_14_77 59 (.return_) 1 60 := ⟨zg_14_77_30.2.2.2.2.2.2.2.2.1, rfl⟩
theorem zd_14_77_36 : zz_D zy_emit_14_77 36 (.aload_n 0) 1 37 := ⟨zg_14_77_30.2.2.2.2.2.2.2.2.2, rfl⟩
theorem zg_14_77_37 : (decode zy_emit_14_77.2.1 37 = .ok ((.getfield 33), 3)) ∧ (decode zy_emit_14_77.2.1 40 = .ok ((.aload_n 0), 1)) ∧ (decode zy_emit_14_77.2.1 41 = .ok ((.getfield 372), 3)) ∧ (decode zy_emit_14_77.2.1 44 = .ok ((.aload_n 0), 1)) ∧ (decode zy_emit_14_77.2.1 45 = .ok ((.invokevirtual 378), 3)) ∧ (decode zy_emit_14_77.2.1 48 = .ok ((.lastore), 1)) := by decide +kernel
theorem zd_14_77_37 : zz_D zy_emit_14_77 37 (.getfield 33) 3 40 := ⟨zg_14_77_37.1, rfl⟩
theorem zd_14_77_40 : zz_D zy_emit_14_77 40 (.aload_n 0) 1 41 := ⟨zg_14_77_37.2.1, rfl⟩
theorem zd_14_77_41 : zz_D zy_emit_14_77 41 (.getfield 372) 3 44 := ⟨zg_14_77_37.2.2.1, rfl⟩
theorem zd_14_77_44 : zz_D zy_emit_14_77 44 (.aload_n 0) 1 45 := ⟨zg_14_77_37.2.2.2.1, rfl⟩
theorem zd_14_77_45 : zz_D zy_emit_14_77 45 (.invokevirtual 378) 3 48 := ⟨zg_14_77_37.2.2.2.2.1, rfl⟩
theorem zd_14_77_48 : zz_D zy_emit_14_77 48 (.lastore) 1 49 := ⟨zg_14_77_37.2.2.2.2.2, rfl⟩
-- TensorForgeModel emit (I)V
abbrev zr_emit_14_77 : Room := { frames := 2, cells := 0, slots := 0, locals := 31 }
def zp_emit_14_77 (p0 : Int) (S0 : zz_S) : zz_S → Prop := fun S => zz_G S ∧ zz_fr [(1079, 10)] [1086, 1087] (fun _ _ => False) S0 S ∧ (S 1079 10 = S0 1079 10 + 1)
theorem zb_emit_14_77_2 {g : mm_G} {l : Launch} (p0 : Int) (S0 : zz_S) (n : Nat) (hn : zz_end ≤ n) (G_S0 : zz_G S0) (hp0 : (-2147483648) ≤ p0 ∧ p0 ≤ 2147483647) (hq : S0 1079 10 ≤ 999000) (x2 : Int) (S : zz_S) (G_S : zz_G S) (F_S : zz_fr [(1079, 10)] [1086, 1087] (fun _ _ => False) S0 S) (i2_0 : 0 ≤ x2 ∧ x2 ≤ 4) (i2_1 : S 1079 10 = S0 1079 10) (R : Nat) (hR : (4 - x2).toNat = R) (k2 : ∀ (x2 : Int) (S : zz_S), zz_G S → zz_fr [(1079, 10)] [1086, 1087] (fun _ _ => False) S0 S → (0 ≤ x2 ∧ x2 ≤ 4) → (S 1079 10 = S0 1079 10) → (4 - x2).toNat < R → zz_E g l zy_emit_14_77 zr_emit_14_77 (zz_QV n (zp_emit_14_77 p0 S0)) S n 2 [some (.ref 1079), some (zi p0), some (zi x2)] [] 0 0) : zz_E g l zy_emit_14_77 zr_emit_14_77 (zz_QV n (zp_emit_14_77 p0 S0)) S n 2 [some (.ref 1079), some (zi p0), some (zi x2)] [] 0 0 := by
  refine zz_iload_n (x := x2) rfl zd_14_77_2 ?_
  refine zz_iconst zd_14_77_3 ?_
  refine zz_icmp_ge (by omega) (by omega) zd_14_77_4 (fun c2 => ?_) (fun c2 => ?_)
  · refine zz_aload_n (x := 1079) rfl zd_14_77_26 ?_
    have g3 := zz_G.r G_S 1079 10 0 1000000 rfl rfl
    refine zz_geti (z := S 1079 10) zd_14_77_27 zf_Md_372 zT_1079 rfl (zz_ltn hn rfl) rfl ?_
    refine zz_sipush (by decide) zd_14_77_30 ?_
    refine zz_icmp_ge (by omega) (by omega) zd_14_77_33 (fun c4 => ?_) (fun c4 => ?_)
    · refine zz_aload_n (x := 1079) rfl zd_14_77_49 ?_
      refine zz_dup rfl zd_14_77_50 ?_
      refine zz_geti (z := S 1079 10) zd_14_77_51 zf_Md_372 zT_1079 rfl (zz_ltn hn rfl) rfl ?_
      refine zz_iconst zd_14_77_54 ?_
      refine zz_iadd zd_14_77_55 ?_
      refine zz_puti zd_14_77_56 zf_Md_372 zT_1079 rfl (zz_ltn hn rfl) (fun S5 qS5 => ?_)
      have G_S5 := zz_G.put G_S qS5 0 1000000 rfl (by omega)
      have F_S5 := zz_fr.puts F_S qS5 rfl
      have e6 : S5 1079 10 = (S 1079 10) + 1 := (zz_rs qS5)
      exact zz_vret zd_14_77_59 rfl (Nat.zero_le _) (Nat.zero_le _) ⟨_, rfl, G_S5, F_S5, by omega⟩
    · refine zz_aload_n (x := 1079) rfl zd_14_77_36 ?_
      refine zz_getr (kd := 0) (z := 1086) zd_14_77_37 zf_Md_33 zT_1079 rfl (zz_ltn hn rfl) (zz_G.eq G_S 1079 9 1086 rfl rfl) (by decide) 1086 rfl ?_
      refine zz_aload_n (x := 1079) rfl zd_14_77_40 ?_
      refine zz_geti (z := S 1079 10) zd_14_77_41 zf_Md_372 zT_1079 rfl (zz_ltn hn rfl) rfl ?_
      refine zz_aload_n (x := 1079) rfl zd_14_77_44 ?_
      refine zz_callVJ [] zd_14_77_45 zk_Md_378 zT_1079 (zz_ltn hn rfl) rfl rfl ⟨Nat.le_of_ble_eq_true rfl, Nat.le_of_ble_eq_true rfl⟩ ⟨rfl, rfl⟩ (Nat.zero_le _) (Nat.zero_le _) (zc_wordOfFields_14_53  S n hn G_S ) (fun v8 S7 hP => ?_)
      obtain ⟨rfl, o9⟩ := hP
      refine zz_last zd_14_77_48 zT_1086 rfl (zz_ltn hn rfl) (by decide) (by omega) (fun S10 qS10 => ?_)
      have G_S10 := zz_G.put G_S qS10 (-9223372036854775808) 9223372036854775807 rfl (by omega)
      have F_S10 := zz_fr.putc F_S qS10 rfl
      refine zz_aload_n (x := 1079) rfl zd_14_77_49 ?_
      refine zz_dup rfl zd_14_77_50 ?_
      refine zz_geti (z := S 1079 10) zd_14_77_51 zf_Md_372 zT_1079 rfl (zz_ltn hn rfl) (zz_ro qS10 (fun h => absurd h.1 (by decide)) rfl) ?_
      refine zz_iconst zd_14_77_54 ?_
      refine zz_iadd zd_14_77_55 ?_
      refine zz_puti zd_14_77_56 zf_Md_372 zT_1079 rfl (zz_ltn hn rfl) (fun S11 qS11 => ?_)
      have G_S11 := zz_G.put G_S10 qS11 0 1000000 rfl (by omega)
      have F_S11 := zz_fr.puts F_S10 qS11 rfl
      have e12 : S11 1079 10 = (S 1079 10) + 1 := (zz_rs qS11)
      exact zz_vret zd_14_77_59 rfl (Nat.zero_le _) (Nat.zero_le _) ⟨_, rfl, G_S11, F_S11, by omega⟩
  · refine zz_aload_n (x := 1079) rfl zd_14_77_7 ?_
    refine zz_getr (kd := 0) (z := 1087) zd_14_77_8 zf_Md_36 zT_1079 rfl (zz_ltn hn rfl) (zz_G.eq G_S 1079 11 1087 rfl rfl) (by decide) 1087 rfl ?_
    refine zz_iload_n (x := x2) rfl zd_14_77_11 ?_
    refine zz_iconst zd_14_77_12 ?_
    refine zz_iadd zd_14_77_13 ?_
    refine zz_iload_n (x := p0) rfl zd_14_77_14 ?_
    refine zz_iload_n (x := x2) rfl zd_14_77_15 ?_
    refine zz_ishr zd_14_77_16 (fun v13 hv13 ev13 => ?_)
    refine zz_iconst zd_14_77_17 ?_
    refine zz_iand (by omega) (by omega) zd_14_77_18 (fun v14 hv14 av14 bv14 ev14 => ?_)
    refine zz_iast zd_14_77_19 zT_1087 rfl (zz_ltn hn rfl) (by decide) (by omega) (fun S15 qS15 => ?_)
    have G_S15 := zz_G.put G_S qS15 (-2147483648) 2147483647 rfl (by omega)
    have F_S15 := zz_fr.putc F_S qS15 rfl
    refine zz_iinc [some (.ref 1079), some (zi p0), some (zi (x2 + 1))] zd_14_77_20 rfl rfl ?_
    refine zz_goto zd_14_77_23 ?_
    have g16 := zz_G.r G_S 1079 10 0 1000000 rfl rfl
    have e17 : S15 1079 10 = S 1079 10 := (zz_ro qS15 (fun h => absurd h.1 (by decide)) rfl)
    refine zz_less (ls1 := [some (.ref 1079), some (zi p0), some (zi (x2 + 1))]) ⟨rfl, ⟨rfl, ⟨rfl, trivial⟩⟩⟩ ?_
    exact k2 (x2 + 1) S15 G_S15 F_S15 (by omega) (by omega) (by omega)
theorem zi_emit_14_77 {g : mm_G} {l : Launch} (p0 : Int) (S0 : zz_S) (n : Nat) (hn : zz_end ≤ n) (G_S0 : zz_G S0) (hp0 : (-2147483648) ≤ p0 ∧ p0 ≤ 2147483647) (hq : S0 1079 10 ≤ 999000) : ∀ N : Nat, (∀ (x2 : Int) (S : zz_S), zz_G S → zz_fr [(1079, 10)] [1086, 1087] (fun _ _ => False) S0 S → (0 ≤ x2 ∧ x2 ≤ 4) → (S 1079 10 = S0 1079 10) → (4 - x2).toNat < N → zz_E g l zy_emit_14_77 zr_emit_14_77 (zz_QV n (zp_emit_14_77 p0 S0)) S n 2 [some (.ref 1079), some (zi p0), some (zi x2)] [] 0 0) := by
  intro N
  induction N with
  | zero => exact fun x2 S _ _ _ _ h => absurd h (Nat.not_lt_zero _)
  | succ N ih =>
    exact fun x2 S a b j0 j1 hR => zb_emit_14_77_2 p0 S0 n hn G_S0 hp0 hq x2 S a b j0 j1 _ rfl (fun x2 S a b j0 j1 h => ih x2 S a b j0 j1 (Nat.lt_of_lt_of_le h (Nat.le_of_lt_succ hR)))
theorem zc_emit_14_77 {g : mm_G} {l : Launch} (p0 : Int) (S0 : zz_S) (n : Nat) (hn : zz_end ≤ n) (G_S0 : zz_G S0) (hp0 : (-2147483648) ≤ p0 ∧ p0 ≤ 2147483647) (hq : S0 1079 10 ≤ 999000) : mm_Met g l zy_emit_14_77 zr_emit_14_77 [.ref 1079, zi p0] (zz_M S0 n) n (zz_QV n (zp_emit_14_77 p0 S0)) := by
  refine zz_enter (by decide) (Nat.le_of_ble_eq_true rfl) (zz_less (ls1 := [some (.ref 1079), some (zi p0)]) ⟨rfl, ⟨rfl, trivial⟩⟩ ?_)
  have F_S0 : zz_fr [(1079, 10)] [1086, 1087] (fun _ _ => False) S0 S0 := zz_fr.refl
  have k2 : ∀ (x2 : Int) (S : zz_S), zz_G S → zz_fr [(1079, 10)] [1086, 1087] (fun _ _ => False) S0 S → (0 ≤ x2 ∧ x2 ≤ 4) → (S 1079 10 = S0 1079 10) → zz_E g l zy_emit_14_77 zr_emit_14_77 (zz_QV n (zp_emit_14_77 p0 S0)) S n 2 [some (.ref 1079), some (zi p0), some (zi x2)] [] 0 0 := fun x2 S a b j0 j1 => (zi_emit_14_77 (g := g) (l := l) p0 S0 n hn G_S0 hp0 hq _) x2 S a b j0 j1 (Nat.lt_succ_self _)
  refine zz_iconst zd_14_77_0 ?_
  refine zz_istore_n [some (.ref 1079), some (zi p0), some (zi 0)] zd_14_77_1 (by decide) rfl ?_
  have g1 := zz_G.r G_S0 1079 10 0 1000000 rfl rfl
  refine zz_less (ls1 := [some (.ref 1079), some (zi p0), some (zi 0)]) ⟨rfl, ⟨rfl, ⟨rfl, trivial⟩⟩⟩ ?_
  exact k2 0 S0 G_S0 F_S0 (by omega) (by omega)
abbrev zy_set_14_78 : mm_Y := (⟨"TensorForgeModel", "set", "(IIII)V"⟩, prog_14_method_78_code, 5, none)
theorem zyw_set_14_78 : mm_Yw zy_set_14_78 4 := ⟨mm_tb_1 2159 (by decide +kernel) rfl, mm_tb_1 12 (by decide +kernel) rfl, ⟨by decide, by decide⟩, by decide +kernel⟩
theorem zg_14_78_0 : (decode zy_set_14_78.2.1 0 = .ok ((.aload_n 0), 1)) ∧ (decode zy_set_14_78.2.1 1 = .ok ((.getfield 36), 3)) ∧ (decode zy_set_14_78.2.1 4 = .ok ((.iconst 0), 1)) ∧ (decode zy_set_14_78.2.1 5 = .ok ((.iload_n 1), 1)) ∧ (decode zy_set_14_78.2.1 6 = .ok ((.iastore), 1)) ∧ (decode zy_set_14_78.2.1 7 = .ok ((.aload_n 0), 1)) ∧ (decode zy_set_14_78.2.1 8 = .ok ((.getfield 36), 3)) ∧ (decode zy_set_14_78.2.1 11 = .ok ((.iconst 5), 1)) ∧ (decode zy_set_14_78.2.1 12 = .ok ((.iload_n 2), 1)) ∧ (decode zy_set_14_78.2.1 13 = .ok ((.iastore), 1)) := by decide +kernel
theorem zd_14_78_0 : zz_D zy_set_14_78 0 (.aload_n 0) 1 1 := ⟨zg_14_78_0.1, rfl⟩
theorem zd_14_78_1 : zz_D zy_set_14_78 1 (.getfield 36) 3 4 := ⟨zg_14_78_0.2.1, rfl⟩
theorem zd_14_78_4 : zz_D zy_set_14_78 4 (.iconst 0) 1 5 := ⟨zg_14_78_0.2.2.1, rfl⟩
theorem zd_14_78_5 : zz_D zy_set_14_78 5 (.iload_n 1) 1 6 := ⟨zg_14_78_0.2.2.2.1, rfl⟩
theorem zd_14_78_6 : zz_D zy_set_14_78 6 (.iastore) 1 7 := ⟨zg_14_78_0.2.2.2.2.1, rfl⟩
theorem zd_14_78_7 : zz_D zy_set_14_78 7 (.aload_n 0) 1 8 := ⟨zg_14_78_0.2.2.2.2.2.1, rfl⟩
theorem zd_14_78_8 : zz_D zy_set_14_78 8 (.getfield 36) 3 11 := ⟨zg_14_78_0.2.2.2.2.2.2.1, rfl⟩
theorem zd_14_78_11 : zz_D zy_set_14_78 11 (.iconst 5) 1 12 := ⟨zg_14_78_0.2.2.2.2.2.2.2.1, rfl⟩
theorem zd_14_78_12 : zz_D zy_set_14_78 12 (.iload_n 2) 1 13 := ⟨zg_14_78_0.2.2.2.2.2.2.2.2.1, rfl⟩
theorem zd_14_78_13 : zz_D zy_set_14_78 13 (.iastore) 1 14 := ⟨zg_14_78_0.2.2.2.2.2.2.2.2.2, rfl⟩
theorem zg_14_78_14 : (decode zy_set_14_78.2.1 14 = .ok ((.aload_n 0), 1)) ∧ (decode zy_set_14_78.2.1 15 = .ok ((.getfield 36), 3)) ∧ (decode zy_set_14_78.2.1 18 = .ok ((.bipush 6), 2)) ∧ (decode zy_set_14_78.2.1 20 = .ok ((.iload_n 3), 1)) ∧ (decode zy_set_14_78.2.1 21 = .ok ((.iastore), 1)) ∧ (decode zy_set_14_78.2.1 22 = .ok ((.aload_n 0), 1)) ∧ (decode zy_set_14_78.2.1 23 = .ok ((.getfield 36), 3)) ∧ (decode zy_set_14_78.2.1 26 = .ok ((.bipush 7), 2)) ∧ (decode zy_set_14_78.2.1 28 = .ok ((.iload 4), 2)) ∧ (decode zy_set_14_78.2.1 30 = .ok ((.iastore), 1)) := by decide +kernel
theorem zd_14_78_14 : zz_D zy_set_14_78 14 (.aload_n 0) 1 15 := ⟨zg_14_78_14.1, rfl⟩
theorem zd_14_78_15 : zz_D zy_set_14_78 15 (.getfield 36) 3 18 := ⟨zg_14_78_14.2.1, rfl⟩
theorem zd_14_78_18 : zz_D zy_set_14_78 18 (.bipush 6) 2 20 := ⟨zg_14_78_14.2.2.1, rfl⟩
theorem zd_14_78_20 : zz_D zy_set_14_78 20 (.iload_n 3) 1 21 := ⟨zg_14_78_14.2.2.2.1, rfl⟩
theorem zd_14_78_21 : zz_D zy_set_14_78 21 (.iastore) 1 22 := ⟨zg_14_78_14.2.2.2.2.1, rfl⟩
theorem zd_14_78_22 : zz_D zy_set_14_78 22 (.aload_n 0) 1 23 := ⟨zg_14_78_14.2.2.2.2.2.1, rfl⟩
theorem zd_14_78_23 : zz_D zy_set_14_78 23 (.getfield 36) 3 26 := ⟨zg_14_78_14.2.2.2.2.2.2.1, rfl⟩
theorem zd_14_78_26 : zz_D zy_set_14_78 26 (.bipush 7) 2 28 := ⟨zg_14_78_14.2.2.2.2.2.2.2.1, rfl⟩
theorem zd_14_78_28 : zz_D zy_set_14_78 28 (.iload 4) 2 30 := ⟨zg_14_78_14.2.2.2.2.2.2.2.2.1, rfl⟩
theorem zd_14_78_30 : zz_D zy_set_14_78 30 (.iastore) 1 31 := ⟨zg_14_78_14.2.2.2.2.2.2.2.2.2, rfl⟩
theorem zg_14_78_31 : (decode zy_set_14_78.2.1 31 = .ok ((.aload_n 0), 1)) ∧ (decode zy_set_14_78.2.1 32 = .ok ((.getfield 36), 3)) ∧ (decode zy_set_14_78.2.1 35 = .ok ((.bipush 8), 2)) ∧ (decode zy_set_14_78.2.1 37 = .ok ((.iconst 0), 1)) ∧ (decode zy_set_14_78.2.1 38 = .ok ((.iastore), 1)) ∧ (decode zy_set_14_78.2.1 39 = .ok ((.aload_n 0), 1)) ∧ (decode zy_set_14_78.2.1 40 = .ok ((.getfield 36), 3)) ∧ (decode zy_set_14_78.2.1 43 = .ok ((.bipush 9), 2)) ∧ (decode zy_set_14_78.2.1 45 = .ok ((.iconst 0), 1)) ∧ (decode zy_set_14_78.2.1 46 = .ok ((.iastore), 1)) := by decide +kernel
theorem zd_14_78_31 : zz_D zy_set_14_78 31 (.aload_n 0) 1 32 := ⟨zg_14_78_31.1, rfl⟩
theorem zd_14_78_32 : zz_D zy_set_14_78 32 (.getfield 36) 3 35 := ⟨zg_14_78_31.2.1, rfl⟩
theorem zd_14_78_35 : zz_D zy_set_14_78 35 (.bipush 8) 2 37 := ⟨zg_14_78_31.2.2.1, rfl⟩
theorem zd_14_78_37 : zz_D zy_set_14_78 37 (.iconst 0) 1 38 := ⟨zg_14_78_31.2.2.2.1, rfl⟩
theorem zd_14_78_38 : zz_D zy_set_14_78 38 (.iastore) 1 39 := ⟨zg_14_78_31.2.2.2.2.1, rfl⟩
theorem zd_14_78_39 : zz_D zy_set_14_78 39 (.aload_n 0) 1 40 := ⟨zg_14_78_31.2.2.2.2.2.1, rfl⟩
theorem zd_14_78_40 : zz_D zy_set_14_78 40 (.getfield 36) 3 43 := ⟨zg_14_78_31.2.2.2.2.2.2.1, rfl⟩
theorem zd_14_78_43 : zz_D zy_set_14_78 43 (.bipush 9) 2 45 := ⟨zg_14_78_31.2.2.2.2.2.2.2.1, rfl⟩
theorem zd_14_78_45 : zz_D zy_set_14_78 45 (.iconst 0) 1 46 := ⟨zg_14_78_31.2.2.2.2.2.2.2.2.1, rfl⟩
theorem zd_14_78_46 : zz_D zy_set_14_78 46 (.iastore) 1 47 := ⟨zg_14_78_31.2.2.2.2.2.2.2.2.2, rfl⟩
theorem zg_14_78_47 : (decode zy_set_14_78.2.1 47 = .ok ((.aload_n 0), 1)) ∧ (decode zy_set_14_78.2.1 48 = .ok ((.getfield 36), 3)) ∧ (decode zy_set_14_78.2.1 51 = .ok ((.bipush 10), 2)) ∧ (decode zy_set_14_78.2.1 53 = .ok ((.iconst 0), 1)) ∧ (decode zy_set_14_78.2.1 54 = .ok ((.iastore), 1)) ∧ (decode zy_set_14_78.2.1 55 = .ok ((.aload_n 0), 1)) ∧ (decode zy_set_14_78.2.1 56 = .ok ((.getfield 36), 3)) ∧ (decode zy_set_14_78.2.1 59 = .ok ((.bipush 11), 2)) ∧ (decode zy_set_14_78.2.1 61 = .ok ((.iconst 0), 1)) ∧ (decode zy_set_14_78.2.1 62 = .ok ((.iastore), 1)) := by decide +kernel
theorem zd_14_78_47 : zz_D zy_set_14_78 47 (.aload_n 0) 1 48 := ⟨zg_14_78_47.1, rfl⟩
theorem zd_14_78_48 : zz_D zy_set_14_78 48 (.getfield 36) 3 51 := ⟨zg_14_78_47.2.1, rfl⟩
theorem zd_14_78_51 : zz_D zy_set_14_78 51 (.bipush 10) 2 53 := ⟨zg_14_78_47.2.2.1, rfl⟩
theorem zd_14_78_53 : zz_D zy_set_14_78 53 (.iconst 0) 1 54 := ⟨zg_14_78_47.2.2.2.1, rfl⟩
theorem zd_14_78_54 : zz_D zy_set_14_78 54 (.iastore) 1 55 := ⟨zg_14_78_47.2.2.2.2.1, rfl⟩
theorem zd_14_78_55 : zz_D zy_set_14_78 55 (.aload_n 0) 1 56 := ⟨zg_14_78_47.2.2.2.2.2.1, rfl⟩
theorem zd_14_78_56 : zz_D zy_set_14_78 56 (.getfield 36) 3 59 := ⟨zg_14_78_47.2.2.2.2.2.2.1, rfl⟩
theorem zd_14_78_59 : zz_D zy_set_14_78 59 (.bipush 11) 2 61 := ⟨zg_14_78_47.2.2.2.2.2.2.2.1, rfl⟩
theorem zd_14_78_61 : zz_D zy_set_14_78 61 (.iconst 0) 1 62 := ⟨zg_14_78_47.2.2.2.2.2.2.2.2.1, rfl⟩
theorem zd_14_78_62 : zz_D zy_set_14_78 62 (.iastore) 1 63 := ⟨zg_14_78_47.2.2.2.2.2.2.2.2.2, rfl⟩
theorem zd_14_78_63 : zz_D zy_set_14_78 63 (.return_) 1 64 := ⟨by decide +kernel, rfl⟩

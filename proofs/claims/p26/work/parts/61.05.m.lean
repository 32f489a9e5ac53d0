-- TensorForgeModel convolved (IIII)I
abbrev zr_convolved_14_74 : Room := { frames := 2, cells := 0, slots := 0, locals := 32 }
def zp_convolved_14_74 (p0 : Int) (p1 : Int) (p2 : Int) (p3 : Int) (S0 : zz_S) : Int → zz_S → Prop := fun r S => S0 = S ∧ ((-2147483648) ≤ r ∧ r ≤ 2147483647)
theorem zb_convolved_14_74_61 {g : mm_G} {l : Launch} (p0 : Int) (p1 : Int) (p2 : Int) (p3 : Int) (S0 : zz_S) (n : Nat) (hn : zz_end ≤ n) (G_S0 : zz_G S0) (hp0 : 0 ≤ p0 ∧ p0 ≤ 9) (hp1 : 0 ≤ p1 ∧ p1 ≤ 62) (hp2 : 0 ≤ p2 ∧ p2 ≤ 62) (hp3 : 0 ≤ p3 ∧ p3 ≤ 62) (R_S0 : zz_Hr S0) (hl : p0 + 1 < S0 1079 36) (hk : S0 1106 p0.toNat = 0) (ho : p3 < S0 1104 (p0 + 1).toNat) (x7 : Int) (x8 : Int) (x9 : Int) (S : zz_S) (G_S : zz_G S) (F_S : zz_fr [] [] (fun _ _ => False) S0 S) (i61_0 : (-2147483648) ≤ x7 ∧ x7 ≤ 2147483647) (i61_1 : 0 ≤ x8 ∧ x8 ≤ 567) (i61_2 : 0 ≤ x9 ∧ x9 ≤ 567) (i61_3 : x8 = (S0 1109 p0.toNat * S0 1110 p0.toNat) * S0 1104 (S0 1107 p0.toNat).toNat) (R : Nat) (hR : (34359738368 + (x8 - x9).toNat) * 1099511627776 + 1099511627775 = R) (k61 : ∀ (x7 : Int) (x8 : Int) (x9 : Int) (S : zz_S), zz_G S → zz_fr [] [] (fun _ _ => False) S0 S → ((-2147483648) ≤ x7 ∧ x7 ≤ 2147483647) → (0 ≤ x8 ∧ x8 ≤ 567) → (0 ≤ x9 ∧ x9 ≤ 567) → (x8 = (S0 1109 p0.toNat * S0 1110 p0.toNat) * S0 1104 (S0 1107 p0.toNat).toNat) → (34359738368 + (x8 - x9).toNat) * 1099511627776 + 1099511627775 < R → zz_E g l zy_convolved_14_74 zr_convolved_14_74 (zz_QI n (zp_convolved_14_74 p0 p1 p2 p3 S0)) S n 61 [some (.ref 1079), some (zi p0), some (zi p1), some (zi p2), some (zi p3), some (zi (S0 1107 p0.toNat)), some (zi (S0 1104 ((p0 + 1).toNat))), some (zi x7), some (zi x8), some (zi x9)] [] 0 0) (k163 : ∀ (x7 : Int) (x8 : Int) (x9 : Int) (x10 : Int) (x11 : Int) (x12 : Int) (S : zz_S), zz_G S → zz_fr [] [] (fun _ _ => False) S0 S → ((-2147483648) ≤ x7 ∧ x7 ≤ 2147483647) → (0 ≤ x8 ∧ x8 ≤ 567) → (0 ≤ x9 ∧ x9 ≤ 567) → (0 ≤ x10 ∧ x10 ≤ 62) → (0 ≤ x11 ∧ x11 ≤ 62) → (0 ≤ x12 ∧ x12 ≤ 62) → (x8 = (S0 1109 p0.toNat * S0 1110 p0.toNat) * S0 1104 (S0 1107 p0.toNat).toNat) → (x9 < x8) → (x8 = (S0 1109 p0.toNat * S0 1110 p0.toNat) * S0 1104 (S0 1107 p0.toNat).toNat) → (x9 < x8) → (x10 < S0 1104 (S0 1107 p0.toNat).toNat) → (x11 < S0 1102 (S0 1107 p0.toNat).toNat) → (x12 < S0 1103 (S0 1107 p0.toNat).toNat) → (34359738368 + (x8 - x9).toNat) * 1099511627776 + (17179869184 + 0) < R → zz_E g l zy_convolved_14_74 zr_convolved_14_74 (zz_QI n (zp_convolved_14_74 p0 p1 p2 p3 S0)) S n 163 [some (.ref 1079), some (zi p0), some (zi p1), some (zi p2), some (zi p3), some (zi (S0 1107 p0.toNat)), some (zi (S0 1104 ((p0 + 1).toNat))), some (zi x7), some (zi x8), some (zi x9), some (zi x10), some (zi x11), some (zi x12)] [] 0 0) : zz_E g l zy_convolved_14_74 zr_convolved_14_74 (zz_QI n (zp_convolved_14_74 p0 p1 p2 p3 S0)) S n 61 [some (.ref 1079), some (zi p0), some (zi p1), some (zi p2), some (zi p3), some (zi (S0 1107 p0.toNat)), some (zi (S0 1104 ((p0 + 1).toNat))), some (zi x7), some (zi x8), some (zi x9)] [] 0 0 := by
  have hb9 := R_S0.2 p0.toNat (by omega)
  unfold zz_la at hb9
  have hone := hb9.1
  have hk9 := hb9.2.1 (by omega)
  have h5 : 1 ≤ S0 1110 p0.toNat := hk9.2.1
  have go9 := zz_G.r G_S0 1107 p0.toNat 0 10 rfl rfl
  have ht9 := R_S0.1 (S0 1107 p0.toNat).toNat (by omega)
  unfold zz_tn at ht9
  have h4 : 1 ≤ S0 1104 (S0 1107 p0.toNat).toNat := ht9.2.2.1
  clear hb9 hk9 ht9
  have R_S : zz_Hr S := (zz_fr.eq F_S) ▸ R_S0
  refine zz_iload (x := x9) rfl zd_14_74_61 ?_
  refine zz_iload (x := x8) rfl zd_14_74_63 ?_
  refine zz_icmp_ge (by omega) (by omega) zd_14_74_65 (fun c13 => ?_) (fun c13 => ?_)
  · refine zz_iload (x := x7) rfl zd_14_74_212 ?_
    refine zz_aload_n (x := 1079) rfl zd_14_74_214 ?_
    refine zz_getr (kd := 0) (z := 1113) zd_14_74_215 zf_Md_121 zT_1079 rfl (zz_ltn hn rfl) (zz_G.eq G_S 1079 48 1113 rfl rfl) (by decide) 1113 rfl ?_
    refine zz_iload_n (x := p0) rfl zd_14_74_218 ?_
    have g14 := zz_G.r G_S0 1113 p0.toNat 0 31 rfl rfl
    refine zz_iald (z := S0 1113 p0.toNat) zd_14_74_219 zT_1113 rfl (zz_ltn hn rfl) (by decide) (by omega) (zz_rc F_S (zz_nc1 rfl) rfl (fun h => h) rfl) ?_
    refine zz_callSI [zi x7, zi (S0 1113 p0.toNat)] zd_14_74_220 zk_Md_261 rfl rfl ⟨Nat.le_of_ble_eq_true rfl, Nat.le_of_ble_eq_true rfl⟩ ⟨rfl, rfl⟩ (Nat.zero_le _) (Nat.zero_le _) (zc_narrowed_14_26 x7 (S0 1113 p0.toNat) S n hn G_S (by omega) (by omega)) (fun v16 S15 hP => ?_)
    obtain ⟨rfl, o17⟩ := hP
    exact zz_iret zd_14_74_223 rfl (Nat.zero_le _) (Nat.zero_le _) ⟨_, _, rfl, zz_fr.eq F_S, by omega⟩
  · refine zz_iload (x := x9) rfl zd_14_74_68 ?_
    refine zz_aload_n (x := 1079) rfl zd_14_74_70 ?_
    refine zz_getr (kd := 0) (z := 1104) zd_14_74_71 zf_Md_94 zT_1079 rfl (zz_ltn hn rfl) (zz_G.eq G_S 1079 39 1104 rfl rfl) (by decide) 1104 rfl ?_
    refine zz_iload (x := S0 1107 p0.toNat) rfl zd_14_74_74 ?_
    have g18 := zz_G.r G_S0 1104 ((S0 1107 p0.toNat).toNat) 0 63 rfl rfl
    refine zz_iald (z := S0 1104 ((S0 1107 p0.toNat).toNat)) zd_14_74_76 zT_1104 rfl (zz_ltn hn rfl) (by decide) (by omega) (zz_rc F_S (zz_nc1 rfl) rfl (fun h => h) rfl) ?_
    refine zz_irem (by omega) (by omega) zd_14_74_77 (fun v19 hv19 av19 bv19 cv19 => ?_)
    obtain rfl : v19 = x9 % (S0 1104 ((S0 1107 p0.toNat).toNat)) := by omega
    refine zz_istore [some (.ref 1079), some (zi p0), some (zi p1), some (zi p2), some (zi p3), some (zi (S0 1107 p0.toNat)), some (zi (S0 1104 ((p0 + 1).toNat))), some (zi x7), some (zi x8), some (zi x9), some (zi (x9 % (S0 1104 ((S0 1107 p0.toNat).toNat))))] zd_14_74_78 (by decide) rfl ?_
    refine zz_aload_n (x := 1079) rfl zd_14_74_80 ?_
    refine zz_getr (kd := 0) (z := 1111) zd_14_74_81 zf_Md_115 zT_1079 rfl (zz_ltn hn rfl) (zz_G.eq G_S 1079 46 1111 rfl rfl) (by decide) 1111 rfl ?_
    refine zz_iload_n (x := p0) rfl zd_14_74_84 ?_
    have g20 := zz_G.r G_S0 1111 p0.toNat 0 3 rfl rfl
    refine zz_iald (z := S0 1111 p0.toNat) zd_14_74_85 zT_1111 rfl (zz_ltn hn rfl) (by decide) (by omega) (zz_rc F_S (zz_nc1 rfl) rfl (fun h => h) rfl) ?_
    refine zz_iload_n (x := p1) rfl zd_14_74_86 ?_
    refine zz_imul zd_14_74_87 ?_
    have m21 := zz_mulb (a := S0 1111 p0.toNat) (b := p1) 3 62 186 (by omega) (by omega) (by decide)
    refine zz_iload (x := x9) rfl zd_14_74_88 ?_
    refine zz_aload_n (x := 1079) rfl zd_14_74_90 ?_
    refine zz_getr (kd := 0) (z := 1104) zd_14_74_91 zf_Md_94 zT_1079 rfl (zz_ltn hn rfl) (zz_G.eq G_S 1079 39 1104 rfl rfl) (by decide) 1104 rfl ?_
    refine zz_iload (x := S0 1107 p0.toNat) rfl zd_14_74_94 ?_
    refine zz_iald (z := S0 1104 ((S0 1107 p0.toNat).toNat)) zd_14_74_96 zT_1104 rfl (zz_ltn hn rfl) (by decide) (by omega) (zz_rc F_S (zz_nc1 rfl) rfl (fun h => h) rfl) ?_
    refine zz_idiv (by omega) (by omega) zd_14_74_97 (fun v22 hv22 av22 bv22 cv22 => ?_)
    have m23 := zz_divb (by omega) (by omega) av22
    obtain rfl : v22 = x9 / (S0 1104 ((S0 1107 p0.toNat).toNat)) := by omega
    refine zz_aload_n (x := 1079) rfl zd_14_74_98 ?_
    refine zz_getr (kd := 0) (z := 1110) zd_14_74_99 zf_Md_112 zT_1079 rfl (zz_ltn hn rfl) (zz_G.eq G_S 1079 45 1110 rfl rfl) (by decide) 1110 rfl ?_
    refine zz_iload_n (x := p0) rfl zd_14_74_102 ?_
    have g24 := zz_G.r G_S0 1110 p0.toNat 0 3 rfl rfl
    refine zz_iald (z := S0 1110 p0.toNat) zd_14_74_103 zT_1110 rfl (zz_ltn hn rfl) (by decide) (by omega) (zz_rc F_S (zz_nc1 rfl) rfl (fun h => h) rfl) ?_
    refine zz_idiv (by omega) (by omega) zd_14_74_104 (fun v25 hv25 av25 bv25 cv25 => ?_)
    have m26 := zz_divb (by omega) (by omega) av25
    obtain rfl : v25 = (x9 / (S0 1104 ((S0 1107 p0.toNat).toNat))) / (S0 1110 p0.toNat) := by omega
    refine zz_iadd zd_14_74_105 ?_
    refine zz_nme (fun v27 ev27 => ?_)
    refine zz_aload_n (x := 1079) rfl zd_14_74_106 ?_
    refine zz_getr (kd := 0) (z := 1112) zd_14_74_107 zf_Md_118 zT_1079 rfl (zz_ltn hn rfl) (zz_G.eq G_S 1079 47 1112 rfl rfl) (by decide) 1112 rfl ?_
    refine zz_iload_n (x := p0) rfl zd_14_74_110 ?_
    have g28 := zz_G.r G_S0 1112 p0.toNat 0 1 rfl rfl
    refine zz_iald (z := S0 1112 p0.toNat) zd_14_74_111 zT_1112 rfl (zz_ltn hn rfl) (by decide) (by omega) (zz_rc F_S (zz_nc1 rfl) rfl (fun h => h) rfl) ?_
    refine zz_isub zd_14_74_112 ?_
    refine zz_istore [some (.ref 1079), some (zi p0), some (zi p1), some (zi p2), some (zi p3), some (zi (S0 1107 p0.toNat)), some (zi (S0 1104 ((p0 + 1).toNat))), some (zi x7), some (zi x8), some (zi x9), some (zi (x9 % (S0 1104 ((S0 1107 p0.toNat).toNat)))), some (zi (v27 - (S0 1112 p0.toNat)))] zd_14_74_113 (by decide) rfl ?_
    refine zz_aload_n (x := 1079) rfl zd_14_74_115 ?_
    refine zz_getr (kd := 0) (z := 1111) zd_14_74_116 zf_Md_115 zT_1079 rfl (zz_ltn hn rfl) (zz_G.eq G_S 1079 46 1111 rfl rfl) (by decide) 1111 rfl ?_
    refine zz_iload_n (x := p0) rfl zd_14_74_119 ?_
    refine zz_iald (z := S0 1111 p0.toNat) zd_14_74_120 zT_1111 rfl (zz_ltn hn rfl) (by decide) (by omega) (zz_rc F_S (zz_nc1 rfl) rfl (fun h => h) rfl) ?_
    refine zz_iload_n (x := p2) rfl zd_14_74_121 ?_
    refine zz_imul zd_14_74_122 ?_
    have m29 := zz_mulb (a := S0 1111 p0.toNat) (b := p2) 3 62 186 (by omega) (by omega) (by decide)
    refine zz_iload (x := x9) rfl zd_14_74_123 ?_
    refine zz_aload_n (x := 1079) rfl zd_14_74_125 ?_
    refine zz_getr (kd := 0) (z := 1104) zd_14_74_126 zf_Md_94 zT_1079 rfl (zz_ltn hn rfl) (zz_G.eq G_S 1079 39 1104 rfl rfl) (by decide) 1104 rfl ?_
    refine zz_iload (x := S0 1107 p0.toNat) rfl zd_14_74_129 ?_
    refine zz_iald (z := S0 1104 ((S0 1107 p0.toNat).toNat)) zd_14_74_131 zT_1104 rfl (zz_ltn hn rfl) (by decide) (by omega) (zz_rc F_S (zz_nc1 rfl) rfl (fun h => h) rfl) ?_
    refine zz_idiv (by omega) (by omega) zd_14_74_132 (fun v30 hv30 av30 bv30 cv30 => ?_)
    have m31 := zz_divb (by omega) (by omega) av30
    obtain rfl : v30 = x9 / (S0 1104 ((S0 1107 p0.toNat).toNat)) := by omega
    refine zz_aload_n (x := 1079) rfl zd_14_74_133 ?_
    refine zz_getr (kd := 0) (z := 1110) zd_14_74_134 zf_Md_112 zT_1079 rfl (zz_ltn hn rfl) (zz_G.eq G_S 1079 45 1110 rfl rfl) (by decide) 1110 rfl ?_
    refine zz_iload_n (x := p0) rfl zd_14_74_137 ?_
    refine zz_iald (z := S0 1110 p0.toNat) zd_14_74_138 zT_1110 rfl (zz_ltn hn rfl) (by decide) (by omega) (zz_rc F_S (zz_nc1 rfl) rfl (fun h => h) rfl) ?_
    refine zz_irem (by omega) (by omega) zd_14_74_139 (fun v32 hv32 av32 bv32 cv32 => ?_)
    obtain rfl : v32 = (x9 / (S0 1104 ((S0 1107 p0.toNat).toNat))) % (S0 1110 p0.toNat) := by omega
    refine zz_iadd zd_14_74_140 ?_
    refine zz_nme (fun v33 ev33 => ?_)
    refine zz_aload_n (x := 1079) rfl zd_14_74_141 ?_
    refine zz_getr (kd := 0) (z := 1112) zd_14_74_142 zf_Md_118 zT_1079 rfl (zz_ltn hn rfl) (zz_G.eq G_S 1079 47 1112 rfl rfl) (by decide) 1112 rfl ?_
    refine zz_iload_n (x := p0) rfl zd_14_74_145 ?_
    refine zz_iald (z := S0 1112 p0.toNat) zd_14_74_146 zT_1112 rfl (zz_ltn hn rfl) (by decide) (by omega) (zz_rc F_S (zz_nc1 rfl) rfl (fun h => h) rfl) ?_
    refine zz_isub zd_14_74_147 ?_
    refine zz_istore [some (.ref 1079), some (zi p0), some (zi p1), some (zi p2), some (zi p3), some (zi (S0 1107 p0.toNat)), some (zi (S0 1104 ((p0 + 1).toNat))), some (zi x7), some (zi x8), some (zi x9), some (zi (x9 % (S0 1104 ((S0 1107 p0.toNat).toNat)))), some (zi (v27 - (S0 1112 p0.toNat))), some (zi (v33 - (S0 1112 p0.toNat)))] zd_14_74_148 (by decide) rfl ?_
    refine zz_aload_n (x := 1079) rfl zd_14_74_150 ?_
    refine zz_iload (x := S0 1107 p0.toNat) rfl zd_14_74_151 ?_
    refine zz_iload (x := v27 - (S0 1112 p0.toNat)) rfl zd_14_74_153 ?_
    have hd9 := (zz_dm (k := x9) (a := S0 1109 p0.toNat * S0 1110 p0.toNat) (b := S0 1104 (S0 1107 p0.toNat).toNat) (by omega) (by omega)).2
    refine zz_iload (x := v33 - (S0 1112 p0.toNat)) rfl zd_14_74_155 ?_
    have g34 := zz_G.r G_S0 1102 ((S0 1107 p0.toNat).toNat) 0 63 rfl rfl
    have e35 : S 1102 (S0 1107 p0.toNat).toNat = S0 1102 (S0 1107 p0.toNat).toNat := (zz_rc F_S (zz_nc1 rfl) rfl (fun h => h) rfl)
    have g36 := zz_G.r G_S0 1103 ((S0 1107 p0.toNat).toNat) 0 63 rfl rfl
    have e37 : S 1103 (S0 1107 p0.toNat).toNat = S0 1103 (S0 1107 p0.toNat).toNat := (zz_rc F_S (zz_nc1 rfl) rfl (fun h => h) rfl)
    refine zz_callVI [zi (S0 1107 p0.toNat), zi (v27 - (S0 1112 p0.toNat)), zi (v33 - (S0 1112 p0.toNat))] zd_14_74_157 zk_Md_434 zT_1079 (zz_ltn hn rfl) rfl rfl ⟨Nat.le_of_ble_eq_true rfl, Nat.le_of_ble_eq_true rfl⟩ ⟨rfl, rfl⟩ (Nat.zero_le _) (Nat.zero_le _) (zc_isThere_14_72 (S0 1107 p0.toNat) (v27 - (S0 1112 p0.toNat)) (v33 - (S0 1112 p0.toNat)) S n hn G_S (by omega) (by omega) (by omega)) (fun v39 S38 hP => ?_)
    obtain ⟨rfl, o40, o41⟩ := hP
    rcases (by omega : v39 = 0 ∨ v39 = 1) with rfl | rfl
    · refine zz_if_eq (by omega) zd_14_74_160 (fun c42 => ?_) (fun c42 => ?_)
      · refine zz_iinc [some (.ref 1079), some (zi p0), some (zi p1), some (zi p2), some (zi p3), some (zi (S0 1107 p0.toNat)), some (zi (S0 1104 ((p0 + 1).toNat))), some (zi x7), some (zi x8), some (zi (x9 + 1)), some (zi (x9 % (S0 1104 ((S0 1107 p0.toNat).toNat)))), some (zi (v27 - (S0 1112 p0.toNat))), some (zi (v33 - (S0 1112 p0.toNat)))] zd_14_74_206 rfl rfl ?_
        refine zz_goto zd_14_74_209 ?_
        refine zz_less (ls1 := [some (.ref 1079), some (zi p0), some (zi p1), some (zi p2), some (zi p3), some (zi (S0 1107 p0.toNat)), some (zi (S0 1104 ((p0 + 1).toNat))), some (zi x7), some (zi x8), some (zi (x9 + 1))]) ⟨rfl, ⟨rfl, ⟨rfl, ⟨rfl, ⟨rfl, ⟨rfl, ⟨rfl, ⟨rfl, ⟨rfl, ⟨rfl, trivial⟩⟩⟩⟩⟩⟩⟩⟩⟩⟩ ?_
        exact k61 x7 x8 (x9 + 1) S G_S F_S (by omega) (by omega) (by omega) i61_3 (by omega)
      · exfalso; omega
    · refine zz_if_eq (by omega) zd_14_74_160 (fun c43 => ?_) (fun c43 => ?_)
      · exfalso; omega
      · refine zz_less (ls1 := [some (.ref 1079), some (zi p0), some (zi p1), some (zi p2), some (zi p3), some (zi (S0 1107 p0.toNat)), some (zi (S0 1104 ((p0 + 1).toNat))), some (zi x7), some (zi x8), some (zi x9), some (zi (x9 % (S0 1104 ((S0 1107 p0.toNat).toNat)))), some (zi (v27 - (S0 1112 p0.toNat))), some (zi (v33 - (S0 1112 p0.toNat)))]) ⟨rfl, ⟨rfl, ⟨rfl, ⟨rfl, ⟨rfl, ⟨rfl, ⟨rfl, ⟨rfl, ⟨rfl, ⟨rfl, ⟨rfl, ⟨rfl, ⟨rfl, trivial⟩⟩⟩⟩⟩⟩⟩⟩⟩⟩⟩⟩⟩ ?_
        exact k163 x7 x8 x9 (x9 % (S0 1104 ((S0 1107 p0.toNat).toNat))) (v27 - (S0 1112 p0.toNat)) (v33 - (S0 1112 p0.toNat)) S G_S F_S (by omega) (by omega) (by omega) (by omega) (by omega) (by omega) i61_3 (by omega) i61_3 (by omega) (by omega) (by omega) (by omega) (by omega)
theorem zb_convolved_14_74_163 {g : mm_G} {l : Launch} (p0 : Int) (p1 : Int) (p2 : Int) (p3 : Int) (S0 : zz_S) (n : Nat) (hn : zz_end ≤ n) (G_S0 : zz_G S0) (hp0 : 0 ≤ p0 ∧ p0 ≤ 9) (hp1 : 0 ≤ p1 ∧ p1 ≤ 62) (hp2 : 0 ≤ p2 ∧ p2 ≤ 62) (hp3 : 0 ≤ p3 ∧ p3 ≤ 62) (R_S0 : zz_Hr S0) (hl : p0 + 1 < S0 1079 36) (hk : S0 1106 p0.toNat = 0) (ho : p3 < S0 1104 (p0 + 1).toNat) (x7 : Int) (x8 : Int) (x9 : Int) (x10 : Int) (x11 : Int) (x12 : Int) (S : zz_S) (G_S : zz_G S) (F_S : zz_fr [] [] (fun _ _ => False) S0 S) (i163_0 : (-2147483648) ≤ x7 ∧ x7 ≤ 2147483647) (i163_1 : 0 ≤ x8 ∧ x8 ≤ 567) (i163_2 : 0 ≤ x9 ∧ x9 ≤ 567) (i163_3 : 0 ≤ x10 ∧ x10 ≤ 62) (i163_4 : 0 ≤ x11 ∧ x11 ≤ 62) (i163_5 : 0 ≤ x12 ∧ x12 ≤ 62) (i163_6 : x8 = (S0 1109 p0.toNat * S0 1110 p0.toNat) * S0 1104 (S0 1107 p0.toNat).toNat) (i163_7 : x9 < x8) (i163_8 : x8 = (S0 1109 p0.toNat * S0 1110 p0.toNat) * S0 1104 (S0 1107 p0.toNat).toNat) (i163_9 : x9 < x8) (i163_10 : x10 < S0 1104 (S0 1107 p0.toNat).toNat) (i163_11 : x11 < S0 1102 (S0 1107 p0.toNat).toNat) (i163_12 : x12 < S0 1103 (S0 1107 p0.toNat).toNat) (R : Nat) (hR : (34359738368 + (x8 - x9).toNat) * 1099511627776 + (17179869184 + 0) = R) (k61 : ∀ (x7 : Int) (x8 : Int) (x9 : Int) (S : zz_S), zz_G S → zz_fr [] [] (fun _ _ => False) S0 S → ((-2147483648) ≤ x7 ∧ x7 ≤ 2147483647) → (0 ≤ x8 ∧ x8 ≤ 567) → (0 ≤ x9 ∧ x9 ≤ 567) → (x8 = (S0 1109 p0.toNat * S0 1110 p0.toNat) * S0 1104 (S0 1107 p0.toNat).toNat) → (34359738368 + (x8 - x9).toNat) * 1099511627776 + 1099511627775 < R → zz_E g l zy_convolved_14_74 zr_convolved_14_74 (zz_QI n (zp_convolved_14_74 p0 p1 p2 p3 S0)) S n 61 [some (.ref 1079), some (zi p0), some (zi p1), some (zi p2), some (zi p3), some (zi (S0 1107 p0.toNat)), some (zi (S0 1104 ((p0 + 1).toNat))), some (zi x7), some (zi x8), some (zi x9)] [] 0 0) : zz_E g l zy_convolved_14_74 zr_convolved_14_74 (zz_QI n (zp_convolved_14_74 p0 p1 p2 p3 S0)) S n 163 [some (.ref 1079), some (zi p0), some (zi p1), some (zi p2), some (zi p3), some (zi (S0 1107 p0.toNat)), some (zi (S0 1104 ((p0 + 1).toNat))), some (zi x7), some (zi x8), some (zi x9), some (zi x10), some (zi x11), some (zi x12)] [] 0 0 := by
  have hb9 := R_S0.2 p0.toNat (by omega)
  unfold zz_la at hb9
  have hone := hb9.1
  have hk9 := hb9.2.1 (by omega)
  have h5 : 1 ≤ S0 1110 p0.toNat := hk9.2.1
  have go9 := zz_G.r G_S0 1107 p0.toNat 0 10 rfl rfl
  have ht9 := R_S0.1 (S0 1107 p0.toNat).toNat (by omega)
  unfold zz_tn at ht9
  have h4 : 1 ≤ S0 1104 (S0 1107 p0.toNat).toNat := ht9.2.2.1
  clear hb9 hk9 ht9
  have R_S : zz_Hr S := (zz_fr.eq F_S) ▸ R_S0
  refine zz_iload (x := x7) rfl zd_14_74_163 ?_
  refine zz_aload_n (x := 1079) rfl zd_14_74_165 ?_
  refine zz_getr (kd := 0) (z := 1080) zd_14_74_166 zf_Md_13 zT_1079 rfl (zz_ltn hn rfl) (zz_G.eq G_S 1079 2 1080 rfl rfl) (by decide) 1080 rfl ?_
  refine zz_aload_n (x := 1079) rfl zd_14_74_169 ?_
  refine zz_getr (kd := 0) (z := 1114) zd_14_74_170 zf_Md_124 zT_1079 rfl (zz_ltn hn rfl) (zz_G.eq G_S 1079 49 1114 rfl rfl) (by decide) 1114 rfl ?_
  refine zz_iload_n (x := p0) rfl zd_14_74_173 ?_
  have g44 := zz_G.r G_S0 1114 p0.toNat 0 4096 rfl rfl
  refine zz_iald (z := S0 1114 p0.toNat) zd_14_74_174 zT_1114 rfl (zz_ltn hn rfl) (by decide) (by omega) (zz_rc F_S (zz_nc1 rfl) rfl (fun h => h) rfl) ?_
  refine zz_iconst zd_14_74_175 ?_
  refine zz_iload (x := S0 1104 ((p0 + 1).toNat)) rfl zd_14_74_176 ?_
  refine zz_imul zd_14_74_178 ?_
  refine zz_nrm (fun v45 hv45 ev45 => ?_)
  refine zz_iadd zd_14_74_179 ?_
  refine zz_nrm (fun v46 hv46 ev46 => ?_)
  refine zz_iload (x := x9) rfl zd_14_74_180 ?_
  refine zz_iload (x := S0 1104 ((p0 + 1).toNat)) rfl zd_14_74_182 ?_
  refine zz_imul zd_14_74_184 ?_
  refine zz_nrm (fun v47 hv47 ev47 => ?_)
  refine zz_iadd zd_14_74_185 ?_
  refine zz_nrm (fun v48 hv48 ev48 => ?_)
  refine zz_iload (x := p3) rfl zd_14_74_186 ?_
  have hb9 := R_S0.2 p0.toNat (by omega)
  unfold zz_la at hb9
  have hk9 := hb9.2.1 (by omega)
  rw [show p0.toNat + 1 = (p0 + 1).toNat by omega] at hk9
  have gr9 := zz_G.r G_S0 1109 p0.toNat 0 3 rfl rfl
  have hm9 : 0 ≤ (S0 1109 p0.toNat * S0 1110 p0.toNat) * S0 1104 (S0 1107 p0.toNat).toNat := Int.mul_nonneg (Int.mul_nonneg (by omega) (by omega)) (by omega)
  have hv9 := (zz_cv (P := S0 1114 p0.toNat) (C := S0 1104 (p0 + 1).toNat) (m := (S0 1109 p0.toNat * S0 1110 p0.toNat) * S0 1104 (S0 1107 p0.toNat).toNat) (o := p3) (k := x9) hk9.2.2 (by omega) hm9).2 (by omega)
  clear hb9 hk9 hm9
  refine zz_iadd zd_14_74_188 ?_
  refine zz_nrm (fun v49 hv49 ev49 => ?_)
  have g50 := zz_G.r G_S0 1080 v49.toNat (-2147483648) 2147483647 rfl rfl
  refine zz_iald (z := S0 1080 v49.toNat) zd_14_74_189 zT_1080 rfl (zz_ltn hn rfl) (by decide) (by omega) (zz_rc F_S (zz_nc1 rfl) rfl (fun h => h) rfl) ?_
  clear hv9
  refine zz_aload_n (x := 1079) rfl zd_14_74_190 ?_
  refine zz_iload (x := S0 1107 p0.toNat) rfl zd_14_74_191 ?_
  refine zz_iload (x := x11) rfl zd_14_74_193 ?_
  refine zz_iload (x := x12) rfl zd_14_74_195 ?_
  refine zz_iload (x := x10) rfl zd_14_74_197 ?_
  have g51 := zz_G.r G_S0 1102 ((S0 1107 p0.toNat).toNat) 0 63 rfl rfl
  have e52 : S 1102 (S0 1107 p0.toNat).toNat = S0 1102 (S0 1107 p0.toNat).toNat := (zz_rc F_S (zz_nc1 rfl) rfl (fun h => h) rfl)
  have g53 := zz_G.r G_S0 1103 ((S0 1107 p0.toNat).toNat) 0 63 rfl rfl
  have e54 : S 1103 (S0 1107 p0.toNat).toNat = S0 1103 (S0 1107 p0.toNat).toNat := (zz_rc F_S (zz_nc1 rfl) rfl (fun h => h) rfl)
  have g55 := zz_G.r G_S0 1104 ((S0 1107 p0.toNat).toNat) 0 63 rfl rfl
  have e56 : S 1104 (S0 1107 p0.toNat).toNat = S0 1104 (S0 1107 p0.toNat).toNat := (zz_rc F_S (zz_nc1 rfl) rfl (fun h => h) rfl)
  refine zz_callVI [zi (S0 1107 p0.toNat), zi x11, zi x12, zi x10] zd_14_74_199 zk_Md_438 zT_1079 (zz_ltn hn rfl) rfl rfl ⟨Nat.le_of_ble_eq_true rfl, Nat.le_of_ble_eq_true rfl⟩ ⟨rfl, rfl⟩ (Nat.zero_le _) (Nat.zero_le _) (zc_cellAt_14_73 (S0 1107 p0.toNat) x11 x12 x10 S n hn G_S (by omega) (by omega) (by omega) (by omega) (R_S.1 (S0 1107 p0.toNat).toNat (by rw [show S 1079 36 = S0 1079 36 from zz_rc F_S rfl rfl (fun h => h) rfl]; omega)) (by omega) (by omega) (by omega)) (fun v58 S57 hP => ?_)
  obtain ⟨rfl, o59⟩ := hP
  refine zz_imul zd_14_74_202 ?_
  refine zz_nrm (fun v60 hv60 ev60 => ?_)
  refine zz_iadd zd_14_74_203 ?_
  refine zz_nrm (fun v61 hv61 ev61 => ?_)
  refine zz_istore [some (.ref 1079), some (zi p0), some (zi p1), some (zi p2), some (zi p3), some (zi (S0 1107 p0.toNat)), some (zi (S0 1104 ((p0 + 1).toNat))), some (zi v61), some (zi x8), some (zi x9), some (zi x10), some (zi x11), some (zi x12)] zd_14_74_204 (by decide) rfl ?_
  refine zz_iinc [some (.ref 1079), some (zi p0), some (zi p1), some (zi p2), some (zi p3), some (zi (S0 1107 p0.toNat)), some (zi (S0 1104 ((p0 + 1).toNat))), some (zi v61), some (zi x8), some (zi (x9 + 1)), some (zi x10), some (zi x11), some (zi x12)] zd_14_74_206 rfl rfl ?_
  refine zz_goto zd_14_74_209 ?_
  refine zz_less (ls1 := [some (.ref 1079), some (zi p0), some (zi p1), some (zi p2), some (zi p3), some (zi (S0 1107 p0.toNat)), some (zi (S0 1104 ((p0 + 1).toNat))), some (zi v61), some (zi x8), some (zi (x9 + 1))]) ⟨rfl, ⟨rfl, ⟨rfl, ⟨rfl, ⟨rfl, ⟨rfl, ⟨rfl, ⟨rfl, ⟨rfl, ⟨rfl, trivial⟩⟩⟩⟩⟩⟩⟩⟩⟩⟩ ?_
  exact k61 v61 x8 (x9 + 1) S G_S F_S (by omega) (by omega) (by omega) i163_6 (by omega)
theorem zi_convolved_14_74 {g : mm_G} {l : Launch} (p0 : Int) (p1 : Int) (p2 : Int) (p3 : Int) (S0 : zz_S) (n : Nat) (hn : zz_end ≤ n) (G_S0 : zz_G S0) (hp0 : 0 ≤ p0 ∧ p0 ≤ 9) (hp1 : 0 ≤ p1 ∧ p1 ≤ 62) (hp2 : 0 ≤ p2 ∧ p2 ≤ 62) (hp3 : 0 ≤ p3 ∧ p3 ≤ 62) (R_S0 : zz_Hr S0) (hl : p0 + 1 < S0 1079 36) (hk : S0 1106 p0.toNat = 0) (ho : p3 < S0 1104 (p0 + 1).toNat) : ∀ N : Nat, (∀ (x7 : Int) (x8 : Int) (x9 : Int) (S : zz_S), zz_G S → zz_fr [] [] (fun _ _ => False) S0 S → ((-2147483648) ≤ x7 ∧ x7 ≤ 2147483647) → (0 ≤ x8 ∧ x8 ≤ 567) → (0 ≤ x9 ∧ x9 ≤ 567) → (x8 = (S0 1109 p0.toNat * S0 1110 p0.toNat) * S0 1104 (S0 1107 p0.toNat).toNat) → (34359738368 + (x8 - x9).toNat) * 1099511627776 + 1099511627775 < N → zz_E g l zy_convolved_14_74 zr_convolved_14_74 (zz_QI n (zp_convolved_14_74 p0 p1 p2 p3 S0)) S n 61 [some (.ref 1079), some (zi p0), some (zi p1), some (zi p2), some (zi p3), some (zi (S0 1107 p0.toNat)), some (zi (S0 1104 ((p0 + 1).toNat))), some (zi x7), some (zi x8), some (zi x9)] [] 0 0) ∧ (∀ (x7 : Int) (x8 : Int) (x9 : Int) (x10 : Int) (x11 : Int) (x12 : Int) (S : zz_S), zz_G S → zz_fr [] [] (fun _ _ => False) S0 S → ((-2147483648) ≤ x7 ∧ x7 ≤ 2147483647) → (0 ≤ x8 ∧ x8 ≤ 567) → (0 ≤ x9 ∧ x9 ≤ 567) → (0 ≤ x10 ∧ x10 ≤ 62) → (0 ≤ x11 ∧ x11 ≤ 62) → (0 ≤ x12 ∧ x12 ≤ 62) → (x8 = (S0 1109 p0.toNat * S0 1110 p0.toNat) * S0 1104 (S0 1107 p0.toNat).toNat) → (x9 < x8) → (x8 = (S0 1109 p0.toNat * S0 1110 p0.toNat) * S0 1104 (S0 1107 p0.toNat).toNat) → (x9 < x8) → (x10 < S0 1104 (S0 1107 p0.toNat).toNat) → (x11 < S0 1102 (S0 1107 p0.toNat).toNat) → (x12 < S0 1103 (S0 1107 p0.toNat).toNat) → (34359738368 + (x8 - x9).toNat) * 1099511627776 + (17179869184 + 0) < N → zz_E g l zy_convolved_14_74 zr_convolved_14_74 (zz_QI n (zp_convolved_14_74 p0 p1 p2 p3 S0)) S n 163 [some (.ref 1079), some (zi p0), some (zi p1), some (zi p2), some (zi p3), some (zi (S0 1107 p0.toNat)), some (zi (S0 1104 ((p0 + 1).toNat))), some (zi x7), some (zi x8), some (zi x9), some (zi x10), some (zi x11), some (zi x12)] [] 0 0) := by
  intro N
  induction N with
  | zero => exact ⟨fun x7 x8 x9 S _ _ _ _ _ _ h => absurd h (Nat.not_lt_zero _), fun x7 x8 x9 x10 x11 x12 S _ _ _ _ _ _ _ _ _ _ _ _ _ _ _ h => absurd h (Nat.not_lt_zero _)⟩
  | succ N ih =>
    exact ⟨fun x7 x8 x9 S a b j0 j1 j2 j3 hR => zb_convolved_14_74_61 p0 p1 p2 p3 S0 n hn G_S0 hp0 hp1 hp2 hp3 R_S0 hl hk ho x7 x8 x9 S a b j0 j1 j2 j3 _ rfl (fun x7 x8 x9 S a b j0 j1 j2 j3 h => ih.1 x7 x8 x9 S a b j0 j1 j2 j3 (Nat.lt_of_lt_of_le h (Nat.le_of_lt_succ hR))) (fun x7 x8 x9 x10 x11 x12 S a b j0 j1 j2 j3 j4 j5 j6 j7 j8 j9 j10 j11 j12 h => ih.2 x7 x8 x9 x10 x11 x12 S a b j0 j1 j2 j3 j4 j5 j6 j7 j8 j9 j10 j11 j12 (Nat.lt_of_lt_of_le h (Nat.le_of_lt_succ hR))),
      fun x7 x8 x9 x10 x11 x12 S a b j0 j1 j2 j3 j4 j5 j6 j7 j8 j9 j10 j11 j12 hR => zb_convolved_14_74_163 p0 p1 p2 p3 S0 n hn G_S0 hp0 hp1 hp2 hp3 R_S0 hl hk ho x7 x8 x9 x10 x11 x12 S a b j0 j1 j2 j3 j4 j5 j6 j7 j8 j9 j10 j11 j12 _ rfl (fun x7 x8 x9 S a b j0 j1 j2 j3 h => ih.1 x7 x8 x9 S a b j0 j1 j2 j3 (Nat.lt_of_lt_of_le h (Nat.le_of_lt_succ hR)))⟩
theorem zc_convolved_14_74 {g : mm_G} {l : Launch} (p0 : Int) (p1 : Int) (p2 : Int) (p3 : Int) (S0 : zz_S) (n : Nat) (hn : zz_end ≤ n) (G_S0 : zz_G S0) (hp0 : 0 ≤ p0 ∧ p0 ≤ 9) (hp1 : 0 ≤ p1 ∧ p1 ≤ 62) (hp2 : 0 ≤ p2 ∧ p2 ≤ 62) (hp3 : 0 ≤ p3 ∧ p3 ≤ 62) (R_S0 : zz_Hr S0) (hl : p0 + 1 < S0 1079 36) (hk : S0 1106 p0.toNat = 0) (ho : p3 < S0 1104 (p0 + 1).toNat) : mm_Met g l zy_convolved_14_74 zr_convolved_14_74 [.ref 1079, zi p0, zi p1, zi p2, zi p3] (zz_M S0 n) n (zz_QI n (zp_convolved_14_74 p0 p1 p2 p3 S0)) := by
  refine zz_enter (by decide) (Nat.le_of_ble_eq_true rfl) (zz_less (ls1 := [some (.ref 1079), some (zi p0), some (zi p1), some (zi p2), some (zi p3)]) ⟨rfl, ⟨rfl, ⟨rfl, ⟨rfl, ⟨rfl, trivial⟩⟩⟩⟩⟩ ?_)
  have F_S0 : zz_fr [] [] (fun _ _ => False) S0 S0 := zz_fr.refl
  have k61 : ∀ (x7 : Int) (x8 : Int) (x9 : Int) (S : zz_S), zz_G S → zz_fr [] [] (fun _ _ => False) S0 S → ((-2147483648) ≤ x7 ∧ x7 ≤ 2147483647) → (0 ≤ x8 ∧ x8 ≤ 567) → (0 ≤ x9 ∧ x9 ≤ 567) → (x8 = (S0 1109 p0.toNat * S0 1110 p0.toNat) * S0 1104 (S0 1107 p0.toNat).toNat) → zz_E g l zy_convolved_14_74 zr_convolved_14_74 (zz_QI n (zp_convolved_14_74 p0 p1 p2 p3 S0)) S n 61 [some (.ref 1079), some (zi p0), some (zi p1), some (zi p2), some (zi p3), some (zi (S0 1107 p0.toNat)), some (zi (S0 1104 ((p0 + 1).toNat))), some (zi x7), some (zi x8), some (zi x9)] [] 0 0 := fun x7 x8 x9 S a b j0 j1 j2 j3 => (zi_convolved_14_74 (g := g) (l := l) p0 p1 p2 p3 S0 n hn G_S0 hp0 hp1 hp2 hp3 R_S0 hl hk ho _).1 x7 x8 x9 S a b j0 j1 j2 j3 (Nat.lt_succ_self _)
  have hb9 := R_S0.2 p0.toNat (by omega)
  unfold zz_la at hb9
  have hone := hb9.1
  have hk9 := hb9.2.1 (by omega)
  have h5 : 1 ≤ S0 1110 p0.toNat := hk9.2.1
  have go9 := zz_G.r G_S0 1107 p0.toNat 0 10 rfl rfl
  have ht9 := R_S0.1 (S0 1107 p0.toNat).toNat (by omega)
  unfold zz_tn at ht9
  have h4 : 1 ≤ S0 1104 (S0 1107 p0.toNat).toNat := ht9.2.2.1
  clear hb9 hk9 ht9
  have hb9 := R_S0.2 p0.toNat (by omega)
  unfold zz_la at hb9
  have hk9 := hb9.2.1 (by omega)
  rw [show p0.toNat + 1 = (p0 + 1).toNat by omega] at hk9
  have gr9 := zz_G.r G_S0 1109 p0.toNat 0 3 rfl rfl
  have hm9 : 0 ≤ (S0 1109 p0.toNat * S0 1110 p0.toNat) * S0 1104 (S0 1107 p0.toNat).toNat := Int.mul_nonneg (Int.mul_nonneg (by omega) (by omega)) (by omega)
  have hv9 := (zz_cv (P := S0 1114 p0.toNat) (C := S0 1104 (p0 + 1).toNat) (m := (S0 1109 p0.toNat * S0 1110 p0.toNat) * S0 1104 (S0 1107 p0.toNat).toNat) (o := p3) (k := 0) hk9.2.2 (by omega) hm9).1
  clear hb9 hk9 hm9
  refine zz_aload_n (x := 1079) rfl zd_14_74_0 ?_
  refine zz_getr (kd := 0) (z := 1107) zd_14_74_1 zf_Md_103 zT_1079 rfl (zz_ltn hn rfl) (zz_G.eq G_S0 1079 42 1107 rfl rfl) (by decide) 1107 rfl ?_
  refine zz_iload_n (x := p0) rfl zd_14_74_4 ?_
  have g1 := zz_G.r G_S0 1107 p0.toNat 0 10 rfl rfl
  refine zz_iald (z := S0 1107 p0.toNat) zd_14_74_5 zT_1107 rfl (zz_ltn hn rfl) (by decide) (by omega) rfl ?_
  refine zz_istore [some (.ref 1079), some (zi p0), some (zi p1), some (zi p2), some (zi p3), some (zi (S0 1107 p0.toNat))] zd_14_74_6 (by decide) rfl ?_
  refine zz_aload_n (x := 1079) rfl zd_14_74_8 ?_
  refine zz_getr (kd := 0) (z := 1104) zd_14_74_9 zf_Md_94 zT_1079 rfl (zz_ltn hn rfl) (zz_G.eq G_S0 1079 39 1104 rfl rfl) (by decide) 1104 rfl ?_
  refine zz_iload_n (x := p0) rfl zd_14_74_12 ?_
  refine zz_iconst zd_14_74_13 ?_
  refine zz_iadd zd_14_74_14 ?_
  have g2 := zz_G.r G_S0 1104 ((p0 + 1).toNat) 0 63 rfl rfl
  refine zz_iald (z := S0 1104 ((p0 + 1).toNat)) zd_14_74_15 zT_1104 rfl (zz_ltn hn rfl) (by decide) (by omega) rfl ?_
  refine zz_istore [some (.ref 1079), some (zi p0), some (zi p1), some (zi p2), some (zi p3), some (zi (S0 1107 p0.toNat)), some (zi (S0 1104 ((p0 + 1).toNat)))] zd_14_74_16 (by decide) rfl ?_
  refine zz_aload_n (x := 1079) rfl zd_14_74_18 ?_
  refine zz_aload_n (x := 1079) rfl zd_14_74_19 ?_
  refine zz_getr (kd := 0) (z := 1114) zd_14_74_20 zf_Md_124 zT_1079 rfl (zz_ltn hn rfl) (zz_G.eq G_S0 1079 49 1114 rfl rfl) (by decide) 1114 rfl ?_
  refine zz_iload_n (x := p0) rfl zd_14_74_23 ?_
  have g3 := zz_G.r G_S0 1114 p0.toNat 0 4096 rfl rfl
  refine zz_iald (z := S0 1114 p0.toNat) zd_14_74_24 zT_1114 rfl (zz_ltn hn rfl) (by decide) (by omega) rfl ?_
  refine zz_iconst zd_14_74_25 ?_
  refine zz_iload (x := p3) rfl zd_14_74_26 ?_
  refine zz_imul zd_14_74_28 ?_
  refine zz_iadd zd_14_74_29 ?_
  refine zz_callVI [zi ((S0 1114 p0.toNat) + (4 * p3))] zd_14_74_30 zk_Md_258 zT_1079 (zz_ltn hn rfl) rfl rfl ⟨Nat.le_of_ble_eq_true rfl, Nat.le_of_ble_eq_true rfl⟩ ⟨rfl, rfl⟩ (Nat.zero_le _) (Nat.zero_le _) (zc_intAt_14_27 ((S0 1114 p0.toNat) + (4 * p3)) S0 n hn G_S0 (by omega)) (fun v5 S4 hP => ?_)
  obtain ⟨rfl, o6⟩ := hP
  refine zz_istore [some (.ref 1079), some (zi p0), some (zi p1), some (zi p2), some (zi p3), some (zi (S0 1107 p0.toNat)), some (zi (S0 1104 ((p0 + 1).toNat))), some (zi v5)] zd_14_74_33 (by decide) rfl ?_
  refine zz_aload_n (x := 1079) rfl zd_14_74_35 ?_
  refine zz_getr (kd := 0) (z := 1109) zd_14_74_36 zf_Md_109 zT_1079 rfl (zz_ltn hn rfl) (zz_G.eq G_S0 1079 44 1109 rfl rfl) (by decide) 1109 rfl ?_
  refine zz_iload_n (x := p0) rfl zd_14_74_39 ?_
  have g7 := zz_G.r G_S0 1109 p0.toNat 0 3 rfl rfl
  refine zz_iald (z := S0 1109 p0.toNat) zd_14_74_40 zT_1109 rfl (zz_ltn hn rfl) (by decide) (by omega) rfl ?_
  refine zz_aload_n (x := 1079) rfl zd_14_74_41 ?_
  refine zz_getr (kd := 0) (z := 1110) zd_14_74_42 zf_Md_112 zT_1079 rfl (zz_ltn hn rfl) (zz_G.eq G_S0 1079 45 1110 rfl rfl) (by decide) 1110 rfl ?_
  refine zz_iload_n (x := p0) rfl zd_14_74_45 ?_
  have g8 := zz_G.r G_S0 1110 p0.toNat 0 3 rfl rfl
  refine zz_iald (z := S0 1110 p0.toNat) zd_14_74_46 zT_1110 rfl (zz_ltn hn rfl) (by decide) (by omega) rfl ?_
  refine zz_imul zd_14_74_47 ?_
  have m9 := zz_mulb (a := S0 1109 p0.toNat) (b := S0 1110 p0.toNat) 3 3 9 (by omega) (by omega) (by decide)
  refine zz_aload_n (x := 1079) rfl zd_14_74_48 ?_
  refine zz_getr (kd := 0) (z := 1104) zd_14_74_49 zf_Md_94 zT_1079 rfl (zz_ltn hn rfl) (zz_G.eq G_S0 1079 39 1104 rfl rfl) (by decide) 1104 rfl ?_
  refine zz_iload (x := S0 1107 p0.toNat) rfl zd_14_74_52 ?_
  have g10 := zz_G.r G_S0 1104 ((S0 1107 p0.toNat).toNat) 0 63 rfl rfl
  refine zz_iald (z := S0 1104 ((S0 1107 p0.toNat).toNat)) zd_14_74_54 zT_1104 rfl (zz_ltn hn rfl) (by decide) (by omega) rfl ?_
  refine zz_imul zd_14_74_55 ?_
  have m11 := zz_mulb (a := (S0 1109 p0.toNat) * (S0 1110 p0.toNat)) (b := S0 1104 ((S0 1107 p0.toNat).toNat)) 9 63 567 (by omega) (by omega) (by decide)
  refine zz_nme (fun v12 ev12 => ?_)
  refine zz_istore [some (.ref 1079), some (zi p0), some (zi p1), some (zi p2), some (zi p3), some (zi (S0 1107 p0.toNat)), some (zi (S0 1104 ((p0 + 1).toNat))), some (zi v5), some (zi v12)] zd_14_74_56 (by decide) rfl ?_
  refine zz_iconst zd_14_74_58 ?_
  refine zz_istore [some (.ref 1079), some (zi p0), some (zi p1), some (zi p2), some (zi p3), some (zi (S0 1107 p0.toNat)), some (zi (S0 1104 ((p0 + 1).toNat))), some (zi v5), some (zi v12), some (zi 0)] zd_14_74_59 (by decide) rfl ?_
  refine zz_less (ls1 := [some (.ref 1079), some (zi p0), some (zi p1), some (zi p2), some (zi p3), some (zi (S0 1107 p0.toNat)), some (zi (S0 1104 ((p0 + 1).toNat))), some (zi v5), some (zi v12), some (zi 0)]) ⟨rfl, ⟨rfl, ⟨rfl, ⟨rfl, ⟨rfl, ⟨rfl, ⟨rfl, ⟨rfl, ⟨rfl, ⟨rfl, trivial⟩⟩⟩⟩⟩⟩⟩⟩⟩⟩ ?_
  exact k61 v5 v12 0 S0 G_S0 F_S0 (by omega) (by omega) (by omega) (by omega)
abbrev zy_pooled_14_75 : mm_Y := (⟨"TensorForgeModel", "pooled", "(IIII)I"⟩, prog_14_method_75_code, 8, (some .int))
theorem zyw_pooled_14_75 : mm_Yw zy_pooled_14_75 4 := ⟨mm_tb_1 2132 (by decide +kernel) rfl, mm_tb_1 12 (by decide +kernel) rfl, ⟨by decide, by decide⟩, by decide +kernel⟩
theorem zg_14_75_0 : zq_at zy_pooled_14_75.2.1 0 16 ∧ zq_at zy_pooled_14_75.2.1 1 128 ∧ zq_at zy_pooled_14_75.2.1 2 54 ∧ zq_at zy_pooled_14_75.2.1 3 5 ∧ zq_at zy_pooled_14_75.2.1 4 3 ∧ zq_at zy_pooled_14_75.2.1 5 54 ∧ zq_at zy_pooled_14_75.2.1 6 6 ∧ zq_at zy_pooled_14_75.2.1 7 21 ∧ zq_at zy_pooled_14_75.2.1 8 6 ∧ zq_at zy_pooled_14_75.2.1 9 42 ∧ zq_at zy_pooled_14_75.2.1 10 180 ∧ zq_at zy_pooled_14_75.2.1 11 0 ∧ zq_at zy_pooled_14_75.2.1 12 109 ∧ zq_at zy_pooled_14_75.2.1 13 27 ∧ zq_at zy_pooled_14_75.2.1 14 46 ∧ zq_at zy_pooled_14_75.2.1 15 42 ∧ zq_at zy_pooled_14_75.2.1 16 180 ∧ zq_at zy_pooled_14_75.2.1 17 0 ∧ zq_at zy_pooled_14_75.2.1 18 112 ∧ zq_at zy_pooled_14_75.2.1 19 27 ∧ zq_at zy_pooled_14_75.2.1 20 46 ∧ zq_at zy_pooled_14_75.2.1 21 104 := by decide +kernel
theorem zd_14_75_0 : zz_D zy_pooled_14_75 0 (.bipush (-128)) 2 2 := ⟨zq_16 zg_14_75_0.1 zg_14_75_0.2.1 (by decide), rfl⟩
theorem zd_14_75_2 : zz_D zy_pooled_14_75 2 (.istore 5) 2 4 := ⟨zq_54 zg_14_75_0.2.2.1 zg_14_75_0.2.2.2.1, rfl⟩
theorem zd_14_75_4 : zz_D zy_pooled_14_75 4 (.iconst 0) 1 5 := ⟨zq_3 zg_14_75_0.2.2.2.2.1, rfl⟩
theorem zd_14_75_5 : zz_D zy_pooled_14_75 5 (.istore 6) 2 7 := ⟨zq_54 zg_14_75_0.2.2.2.2.2.1 zg_14_75_0.2.2.2.2.2.2.1, rfl⟩
theorem zd_14_75_7 : zz_D zy_pooled_14_75 7 (.iload 6) 2 9 := ⟨zq_21 zg_14_75_0.2.2.2.2.2.2.2.1 zg_14_75_0.2.2.2.2.2.2.2.2.1, rfl⟩
theorem zd_14_75_9 : zz_D zy_pooled_14_75 9 (.aload_n 0) 1 10 := ⟨zq_42 zg_14_75_0.2.2.2.2.2.2.2.2.2.1, rfl⟩
theorem zd_14_75_10 : zz_D zy_pooled_14_75 10 (.getfield 109) 3 13 := ⟨zq_180 zg_14_75_0.2.2.2.2.2.2.2.2.2.2.1 zg_14_75_0.2.2.2.2.2.2.2.2.2.2.2.1 zg_14_75_0.2.2.2.2.2.2.2.2.2.2.2.2.1 rfl, rfl⟩
theorem zd_14_75_13 : zz_D zy_pooled_14_75 13 (.iload_n 1) 1 14 := ⟨zq_27 zg_14_75_0.2.2.2.2.2.2.2.2.2.2.2.2.2.1, rfl⟩
theorem zd_14_75_14 : zz_D zy_pooled_14_75 14 (.iaload) 1 15 := ⟨zq_46 zg_14_75_0.2.2.2.2.2.2.2.2.2.2.2.2.2.2.1, rfl⟩
theorem zd_14_75_15 : zz_D zy_pooled_14_75 15 (.aload_n 0) 1 16 := ⟨zq_42 zg_14_75_0.2.2.2.2.2.2.2.2.2.2.2.2.2.2.2.1, rfl⟩
theorem zd_14_75_16 : zz_D zy_pooled_14_75 16 (.getfield 112) 3 19 := ⟨zq_180 zg_14_75_0.2.2.2.2.2.2.2.2.2.2.2.2.2.2.2.2.1 zg_14_75_0.2.2.2.2.2.2.2.2.2.2.2.2.2.2.2.2.2.1 zg_14_75_0.2.2.2.2.2.2.2.2.2.2.2.2.2.2.2.2.2.2.1 rfl, rfl⟩
theorem zd_14_75_19 : zz_D zy_pooled_14_75 19 (.iload_n 1) 1 20 := ⟨zq_27 zg_14_75_0.2.2.2.2.2.2.2.2.2.2.2.2.2.2.2.2.2.2.2.1, rfl⟩
theorem zd_14_75_20 : zz_D zy_pooled_14_75 20 (.iaload) 1 21 := ⟨zq_46 zg_14_75_0.2.2.2.2.2.2.2.2.2.2.2.2.2.2.2.2.2.2.2.2.1, rfl⟩
theorem zd_14_75_21 : zz_D zy_pooled_14_75 21 (.imul) 1 22 := ⟨zq_104 zg_14_75_0.2.2.2.2.2.2.2.2.2.2.2.2.2.2.2.2.2.2.2.2.2, rfl⟩
theorem zg_14_75_22 : zq_at zy_pooled_14_75.2.1 22 162 ∧ zq_at zy_pooled_14_75.2.1 23 0 ∧ zq_at zy_pooled_14_75.2.1 24 75 ∧ zq_at zy_pooled_14_75.2.1 97 21 ∧ zq_at zy_pooled_14_75.2.1 98 5 ∧ zq_at zy_pooled_14_75.2.1 99 172 ∧ zq_at zy_pooled_14_75.2.1 25 42 ∧ zq_at zy_pooled_14_75.2.1 26 42 ∧ zq_at zy_pooled_14_75.2.1 27 180 ∧ zq_at zy_pooled_14_75.2.1 28 0 ∧ zq_at zy_pooled_14_75.2.1 29 103 ∧ zq_at zy_pooled_14_75.2.1 30 27 ∧ zq_at zy_pooled_14_75.2.1 31 46 ∧ zq_at zy_pooled_14_75.2.1 32 42 ∧ zq_at zy_pooled_14_75.2.1 33 180 ∧ zq_at zy_pooled_14_75.2.1 34 0 ∧ zq_at zy_pooled_14_75.2.1 35 115 ∧ zq_at zy_pooled_14_75.2.1 36 27 ∧ zq_at zy_pooled_14_75.2.1 37 46 ∧ zq_at zy_pooled_14_75.2.1 38 28 ∧ zq_at zy_pooled_14_75.2.1 39 104 ∧ zq_at zy_pooled_14_75.2.1 40 21 ∧ zq_at zy_pooled_14_75.2.1 41 6 ∧ zq_at zy_pooled_14_75.2.1 42 42 := by decide +kernel
theorem zd_14_75_22 : zz_B zy_pooled_14_75 22 (Instr.if_icmp .ge) 97 25 := ⟨75, zq_162 zg_14_75_22.1 zg_14_75_22.2.1 zg_14_75_22.2.2.1 (by decide), rfl, rfl⟩
theorem zd_14_75_97 : zz_D zy_pooled_14_75 97 (.iload 5) 2 99 := ⟨zq_21 zg_14_75_22.2.2.2.1 zg_14_75_22.2.2.2.2.1, rfl⟩
theorem zd_14_75_99 : zz_D zy_pooled_14_75 99 (.ireturn) 1 100 := ⟨zq_172 zg_14_75_22.2.2.2.2.2.1, rfl⟩
theorem zd_14_75_25 : zz_D zy_pooled_14_75 25 (.aload_n 0) 1 26 := ⟨zq_42 zg_14_75_22.2.2.2.2.2.2.1, rfl⟩
theorem zd_14_75_26 : zz_D zy_pooled_14_75 26 (.aload_n 0) 1 27 := ⟨zq_42 zg_14_75_22.2.2.2.2.2.2.2.1, rfl⟩
theorem zd_14_75_27 : zz_D zy_pooled_14_75 27 (.getfield 103) 3 30 := ⟨zq_180 zg_14_75_22.2.2.2.2.2.2.2.2.1 zg_14_75_22.2.2.2.2.2.2.2.2.2.1 zg_14_75_22.2.2.2.2.2.2.2.2.2.2.1 rfl, rfl⟩
theorem zd_14_75_30 : zz_D zy_pooled_14_75 30 (.iload_n 1) 1 31 := ⟨zq_27 zg_14_75_22.2.2.2.2.2.2.2.2.2.2.2.1, rfl⟩
theorem zd_14_75_31 : zz_D zy_pooled_14_75 31 (.iaload) 1 32 := ⟨zq_46 zg_14_75_22.2.2.2.2.2.2.2.2.2.2.2.2.1, rfl⟩
theorem zd_14_75_32 : zz_D zy_pooled_14_75 32 (.aload_n 0) 1 33 := ⟨zq_42 zg_14_75_22.2.2.2.2.2.2.2.2.2.2.2.2.2.1, rfl⟩
theorem zd_14_75_33 : zz_D zy_pooled_14_75 33 (.getfield 115) 3 36 := ⟨zq_180 zg_14_75_22.2.2.2.2.2.2.2.2.2.2.2.2.2.2.1 zg_14_75_22.2.2.2.2.2.2.2.2.2.2.2.2.2.2.2.1 zg_14_75_22.2.2.2.2.2.2.2.2.2.2.2.2.2.2.2.2.1 rfl, rfl⟩
theorem zd_14_75_36 : zz_D zy_pooled_14_75 36 (.iload_n 1) 1 37 := ⟨zq_27 zg_14_75_22.2.2.2.2.2.2.2.2.2.2.2.2.2.2.2.2.2.1, rfl⟩
theorem zd_14_75_37 : zz_D zy_pooled_14_75 37 (.iaload) 1 38 := ⟨zq_46 zg_14_75_22.2.2.2.2.2.2.2.2.2.2.2.2.2.2.2.2.2.2.1, rfl⟩
theorem zd_14_75_38 : zz_D zy_pooled_14_75 38 (.iload_n 2) 1 39 := ⟨zq_28 zg_14_75_22.2.2.2.2.2.2.2.2.2.2.2.2.2.2.2.2.2.2.2.1, rfl⟩
theorem zd_14_75_39 : zz_D zy_pooled_14_75 39 (.imul) 1 40 := ⟨zq_104 zg_14_75_22.2.2.2.2.2.2.2.2.2.2.2.2.2.2.2.2.2.2.2.2.1, rfl⟩
theorem zd_14_75_40 : zz_D zy_pooled_14_75 40 (.iload 6) 2 42 := ⟨zq_21 zg_14_75_22.2.2.2.2.2.2.2.2.2.2.2.2.2.2.2.2.2.2.2.2.2.1 zg_14_75_22.2.2.2.2.2.2.2.2.2.2.2.2.2.2.2.2.2.2.2.2.2.2.1, rfl⟩
theorem zd_14_75_42 : zz_D zy_pooled_14_75 42 (.aload_n 0) 1 43 := ⟨zq_42 zg_14_75_22.2.2.2.2.2.2.2.2.2.2.2.2.2.2.2.2.2.2.2.2.2.2.2, rfl⟩
theorem zg_14_75_43 : zq_at zy_pooled_14_75.2.1 43 180 ∧ zq_at zy_pooled_14_75.2.1 44 0 ∧ zq_at zy_pooled_14_75.2.1 45 112 ∧ zq_at zy_pooled_14_75.2.1 46 27 ∧ zq_at zy_pooled_14_75.2.1 47 46 ∧ zq_at zy_pooled_14_75.2.1 48 108 ∧ zq_at zy_pooled_14_75.2.1 49 96 ∧ zq_at zy_pooled_14_75.2.1 50 42 ∧ zq_at zy_pooled_14_75.2.1 51 180 ∧ zq_at zy_pooled_14_75.2.1 52 0 ∧ zq_at zy_pooled_14_75.2.1 53 115 ∧ zq_at zy_pooled_14_75.2.1 54 27 ∧ zq_at zy_pooled_14_75.2.1 55 46 ∧ zq_at zy_pooled_14_75.2.1 56 29 ∧ zq_at zy_pooled_14_75.2.1 57 104 ∧ zq_at zy_pooled_14_75.2.1 58 21 ∧ zq_at zy_pooled_14_75.2.1 59 6 ∧ zq_at zy_pooled_14_75.2.1 60 42 ∧ zq_at zy_pooled_14_75.2.1 61 180 ∧ zq_at zy_pooled_14_75.2.1 62 0 ∧ zq_at zy_pooled_14_75.2.1 63 112 ∧ zq_at zy_pooled_14_75.2.1 64 27 ∧ zq_at zy_pooled_14_75.2.1 65 46 ∧ zq_at zy_pooled_14_75.2.1 66 112 := by decide +kernel
theorem zd_14_75_43 : zz_D zy_pooled_14_75 43 (.getfield 112) 3 46 := ⟨zq_180 zg_14_75_43.1 zg_14_75_43.2.1 zg_14_75_43.2.2.1 rfl, rfl⟩
theorem zd_14_75_46 : zz_D zy_pooled_14_75 46 (.iload_n 1) 1 47 := ⟨zq_27 zg_14_75_43.2.2.2.1, rfl⟩
theorem zd_14_75_47 : zz_D zy_pooled_14_75 47 (.iaload) 1 48 := ⟨zq_46 zg_14_75_43.2.2.2.2.1, rfl⟩
theorem zd_14_75_48 : zz_D zy_pooled_14_75 48 (.idiv) 1 49 := ⟨zq_108 zg_14_75_43.2.2.2.2.2.1, rfl⟩
theorem zd_14_75_49 : zz_D zy_pooled_14_75 49 (.iadd) 1 50 := ⟨zq_96 zg_14_75_43.2.2.2.2.2.2.1, rfl⟩
theorem zd_14_75_50 : zz_D zy_pooled_14_75 50 (.aload_n 0) 1 51 := ⟨zq_42 zg_14_75_43.2.2.2.2.2.2.2.1, rfl⟩
theorem zd_14_75_51 : zz_D zy_pooled_14_75 51 (.getfield 115) 3 54 := ⟨zq_180 zg_14_75_43.2.2.2.2.2.2.2.2.1 zg_14_75_43.2.2.2.2.2.2.2.2.2.1 zg_14_75_43.2.2.2.2.2.2.2.2.2.2.1 rfl, rfl⟩
theorem zd_14_75_54 : zz_D zy_pooled_14_75 54 (.iload_n 1) 1 55 := ⟨zq_27 zg_14_75_43.2.2.2.2.2.2.2.2.2.2.2.1, rfl⟩
theorem zd_14_75_55 : zz_D zy_pooled_14_75 55 (.iaload) 1 56 := ⟨zq_46 zg_14_75_43.2.2.2.2.2.2.2.2.2.2.2.2.1, rfl⟩
theorem zd_14_75_56 : zz_D zy_pooled_14_75 56 (.iload_n 3) 1 57 := ⟨zq_29 zg_14_75_43.2.2.2.2.2.2.2.2.2.2.2.2.2.1, rfl⟩
theorem zd_14_75_57 : zz_D zy_pooled_14_75 57 (.imul) 1 58 := ⟨zq_104 zg_14_75_43.2.2.2.2.2.2.2.2.2.2.2.2.2.2.1, rfl⟩
theorem zd_14_75_58 : zz_D zy_pooled_14_75 58 (.iload 6) 2 60 := ⟨zq_21 zg_14_75_43.2.2.2.2.2.2.2.2.2.2.2.2.2.2.2.1 zg_14_75_43.2.2.2.2.2.2.2.2.2.2.2.2.2.2.2.2.1, rfl⟩
theorem zd_14_75_60 : zz_D zy_pooled_14_75 60 (.aload_n 0) 1 61 := ⟨zq_42 zg_14_75_43.2.2.2.2.2.2.2.2.2.2.2.2.2.2.2.2.2.1, rfl⟩
theorem zd_14_75_61 : zz_D zy_pooled_14_75 61 (.getfield 112) 3 64 := ⟨zq_180 zg_14_75_43.2.2.2.2.2.2.2.2.2.2.2.2.2.2.2.2.2.2.1 zg_14_75_43.2.2.2.2.2.2.2.2.2.2.2.2.2.2.2.2.2.2.2.1 zg_14_75_43.2.2.2.2.2.2.2.2.2.2.2.2.2.2.2.2.2.2.2.2.1 rfl, rfl⟩
theorem zd_14_75_64 : zz_D zy_pooled_14_75 64 (.iload_n 1) 1 65 := ⟨zq_27 zg_14_75_43.2.2.2.2.2.2.2.2.2.2.2.2.2.2.2.2.2.2.2.2.2.1, rfl⟩
theorem zd_14_75_65 : zz_D zy_pooled_14_75 65 (.iaload) 1 66 := ⟨zq_46 zg_14_75_43.2.2.2.2.2.2.2.2.2.2.2.2.2.2.2.2.2.2.2.2.2.2.1, rfl⟩
theorem zd_14_75_66 : zz_D zy_pooled_14_75 66 (.irem) 1 67 := ⟨zq_112 zg_14_75_43.2.2.2.2.2.2.2.2.2.2.2.2.2.2.2.2.2.2.2.2.2.2.2, rfl⟩
theorem zg_14_75_67 : zq_at zy_pooled_14_75.2.1 67 96 ∧ zq_at zy_pooled_14_75.2.1 68 21 ∧ zq_at zy_pooled_14_75.2.1 69 4 ∧ zq_at zy_pooled_14_75.2.1 70 182 ∧ zq_at zy_pooled_14_75.2.1 71 1 ∧ zq_at zy_pooled_14_75.2.1 72 182 ∧ zq_at zy_pooled_14_75.2.1 73 54 ∧ zq_at zy_pooled_14_75.2.1 74 7 ∧ zq_at zy_pooled_14_75.2.1 75 21 ∧ zq_at zy_pooled_14_75.2.1 76 7 ∧ zq_at zy_pooled_14_75.2.1 77 21 ∧ zq_at zy_pooled_14_75.2.1 78 5 ∧ zq_at zy_pooled_14_75.2.1 79 164 ∧ zq_at zy_pooled_14_75.2.1 80 0 ∧ zq_at zy_pooled_14_75.2.1 81 8 ∧ zq_at zy_pooled_14_75.2.1 87 21 ∧ zq_at zy_pooled_14_75.2.1 88 5 ∧ zq_at zy_pooled_14_75.2.1 89 54 ∧ zq_at zy_pooled_14_75.2.1 90 5 ∧ zq_at zy_pooled_14_75.2.1 91 132 ∧ zq_at zy_pooled_14_75.2.1 92 6 ∧ zq_at zy_pooled_14_75.2.1 93 1 := by decide +kernel
theorem zd_14_75_67 : zz_D zy_pooled_14_75 67 (.iadd) 1 68 := ⟨zq_96 zg_14_75_67.1, rfl⟩
theorem zd_14_75_68 : zz_D zy_pooled_14_75 68 (.iload 4) 2 70 := ⟨zq_21 zg_14_75_67.2.1 zg_14_75_67.2.2.1, rfl⟩
theorem zd_14_75_70 : zz_D zy_pooled_14_75 70 (.invokevirtual 438) 3 73 := ⟨zq_182 zg_14_75_67.2.2.2.1 zg_14_75_67.2.2.2.2.1 zg_14_75_67.2.2.2.2.2.1 rfl, rfl⟩
theorem zd_14_75_73 : zz_D zy_pooled_14_75 73 (.istore 7) 2 75 := ⟨zq_54 zg_14_75_67.2.2.2.2.2.2.1 zg_14_75_67.2.2.2.2.2.2.2.1, rfl⟩
theorem zd_14_75_75 : zz_D zy_pooled_14_75 75 (.iload 7) 2 77 := ⟨zq_21 zg_14_75_67.2.2.2.2.2.2.2.2.1 zg_14_75_67.2.2.2.2.2.2.2.2.2.1, rfl⟩
theorem zd_14_75_77 : zz_D zy_pooled_14_75 77 (.iload 5) 2 79 := ⟨zq_21 zg_14_75_67.2.2.2.2.2.2.2.2.2.2.1 zg_14_75_67.2.2.2.2.2.2.2.2.2.2.2.1, rfl⟩
theorem zd_14_75_79 : zz_B zy_pooled_14_75 79 (Instr.if_icmp .le) 87 82 := ⟨8, zq_164 zg_14_75_67.2.2.2.2.2.2.2.2.2.2.2.2.1 zg_14_75_67.2.2.2.2.2.2.2.2.2.2.2.2.2.1 zg_14_75_67.2.2.2.2.2.2.2.2.2.2.2.2.2.2.1 (by decide), rfl, rfl⟩
theorem zd_14_75_87 : zz_D zy_pooled_14_75 87 (.iload 5) 2 89 := ⟨zq_21 zg_14_75_67.2.2.2.2.2.2.2.2.2.2.2.2.2.2.2.1 zg_14_75_67.2.2.2.2.2.2.2.2.2.2.2.2.2.2.2.2.1, rfl⟩
theorem zd_14_75_89 : zz_D zy_pooled_14_75 89 (.istore 5) 2 91 := ⟨zq_54 zg_14_75_67.2.2.2.2.2.2.2.2.2.2.2.2.2.2.2.2.2.1 zg_14_75_67.2.2.2.2.2.2.2.2.2.2.2.2.2.2.2.2.2.2.1, rfl⟩
theorem zd_14_75_91 : zz_D zy_pooled_14_75 91 (.iinc 6 1) 3 94 := ⟨zq_132 zg_14_75_67.2.2.2.2.2.2.2.2.2.2.2.2.2.2.2.2.2.2.2.1 zg_14_75_67.2.2.2.2.2.2.2.2.2.2.2.2.2.2.2.2.2.2.2.2.1 zg_14_75_67.2.2.2.2.2.2.2.2.2.2.2.2.2.2.2.2.2.2.2.2.2 (by decide), rfl⟩
theorem zg_14_75_94 : zq_at zy_pooled_14_75.2.1 94 167 ∧ zq_at zy_pooled_14_75.2.1 95 255 ∧ zq_at zy_pooled_14_75.2.1 96 169 ∧ zq_at zy_pooled_14_75.2.1 82 21 ∧ zq_at zy_pooled_14_75.2.1 83 7 ∧ zq_at zy_pooled_14_75.2.1 84 167 ∧ zq_at zy_pooled_14_75.2.1 85 0 ∧ zq_at zy_pooled_14_75.2.1 86 5 := by decide +kernel
theorem zd_14_75_94 : zz_B zy_pooled_14_75 94 Instr.goto 7 97 := ⟨(-87), zq_167 zg_14_75_94.1 zg_14_75_94.2.1 zg_14_75_94.2.2.1 (by decide), rfl, rfl⟩
theorem zd_14_75_82 : zz_D zy_pooled_14_75 82 (.iload 7) 2 84 := ⟨zq_21 zg_14_75_94.2.2.2.1 zg_14_75_94.2.2.2.2.1, rfl⟩
theorem zd_14_75_84 : zz_B zy_pooled_14_75 84 Instr.goto 89 87 := ⟨5, zq_167 zg_14_75_94.2.2.2.2.2.1 zg_14_75_94.2.2.2.2.2.2.1 zg_14_75_94.2.2.2.2.2.2.2 (by decide), rfl, rfl⟩

-- TensorForge$Machine combine ()V
abbrev zr_combine_6_16 : Room := { frames := 1, cells := 0, slots := 0, locals := 15 }
def zp_combine_6_16  (S0 : zz_S) : zz_S → Prop := fun S => zz_G S ∧ zz_fr [] [1035] (fun _ _ => False) S0 S
theorem zb_combine_6_16_2 {g : mm_G} {l : Launch}  (S0 : zz_S) (n : Nat) (hn : zz_end ≤ n) (G_S0 : zz_G S0) (hl : zz_lc 6 (S0 1031 7) (S0 1031 8) (S0 1031 9) (S0 1031 10) (S0 1031 11) (S0 1031 12) (S0 1031 13) (S0 1031 6)) (x1 : Int) (S : zz_S) (G_S : zz_G S) (F_S : zz_fr [] [1035] (fun _ _ => False) S0 S) (i2_0 : 0 ≤ x1 ∧ x1 ≤ 63) (R : Nat) (hR : (34359738368 + (S0 1031 8 - x1).toNat) * 1099511627776 + 1099511627775 = R) (k12 : ∀ (x1 : Int) (x2 : Int) (S : zz_S), zz_G S → zz_fr [] [1035] (fun _ _ => False) S0 S → (0 ≤ x1 ∧ x1 ≤ 62) → (0 ≤ x2 ∧ x2 ≤ 31) → (0 ≤ x1 ∧ x1 ≤ 63) → (x1 < S0 1031 8) → (34359738368 + (S0 1031 8 - x1).toNat) * 1099511627776 + (17179869184 + (S0 1031 9 - x2).toNat) < R → zz_E g l zy_combine_6_16 zr_combine_6_16 (zz_QV n (zp_combine_6_16  S0)) S n 12 [some (.ref 1031), some (zi x1), some (zi x2)] [] 0 0) : zz_E g l zy_combine_6_16 zr_combine_6_16 (zz_QV n (zp_combine_6_16  S0)) S n 2 [some (.ref 1031), some (zi x1)] [] 0 0 := by
  refine zz_iload_n (x := x1) rfl zd_6_16_2 ?_
  refine zz_aload_n (x := 1031) rfl zd_6_16_3 ?_
  have g2 := zz_G.r G_S0 1031 8 0 63 rfl rfl
  refine zz_geti (z := S0 1031 8) zd_6_16_4 zf_Machine_113 zT_1031 rfl (zz_ltn hn rfl) (zz_rc F_S rfl rfl (fun h => h) rfl) ?_
  refine zz_icmp_ge (by omega) (by omega) zd_6_16_7 (fun c3 => ?_) (fun c3 => ?_)
  · exact zz_vret zd_6_16_118 rfl (Nat.zero_le _) (Nat.zero_le _) ⟨_, rfl, G_S, F_S⟩
  · refine zz_iconst zd_6_16_10 ?_
    refine zz_istore_n [some (.ref 1031), some (zi x1), some (zi 0)] zd_6_16_11 (by decide) rfl ?_
    have g4 := zz_G.r G_S0 1031 9 0 31 rfl rfl
    refine zz_less (ls1 := [some (.ref 1031), some (zi x1), some (zi 0)]) ⟨rfl, ⟨rfl, ⟨rfl, trivial⟩⟩⟩ ?_
    exact k12 x1 0 S G_S F_S (by omega) (by omega) (by omega) (by omega) (by omega)
theorem zb_combine_6_16_12 {g : mm_G} {l : Launch}  (S0 : zz_S) (n : Nat) (hn : zz_end ≤ n) (G_S0 : zz_G S0) (hl : zz_lc 6 (S0 1031 7) (S0 1031 8) (S0 1031 9) (S0 1031 10) (S0 1031 11) (S0 1031 12) (S0 1031 13) (S0 1031 6)) (x1 : Int) (x2 : Int) (S : zz_S) (G_S : zz_G S) (F_S : zz_fr [] [1035] (fun _ _ => False) S0 S) (i12_0 : 0 ≤ x1 ∧ x1 ≤ 62) (i12_1 : 0 ≤ x2 ∧ x2 ≤ 31) (i12_2 : 0 ≤ x1 ∧ x1 ≤ 63) (i12_3 : x1 < S0 1031 8) (R : Nat) (hR : (34359738368 + (S0 1031 8 - x1).toNat) * 1099511627776 + (17179869184 + (S0 1031 9 - x2).toNat) = R) (k2 : ∀ (x1 : Int) (S : zz_S), zz_G S → zz_fr [] [1035] (fun _ _ => False) S0 S → (0 ≤ x1 ∧ x1 ≤ 63) → (34359738368 + (S0 1031 8 - x1).toNat) * 1099511627776 + 1099511627775 < R → zz_E g l zy_combine_6_16 zr_combine_6_16 (zz_QV n (zp_combine_6_16  S0)) S n 2 [some (.ref 1031), some (zi x1)] [] 0 0) (k12 : ∀ (x1 : Int) (x2 : Int) (S : zz_S), zz_G S → zz_fr [] [1035] (fun _ _ => False) S0 S → (0 ≤ x1 ∧ x1 ≤ 62) → (0 ≤ x2 ∧ x2 ≤ 31) → (0 ≤ x1 ∧ x1 ≤ 63) → (x1 < S0 1031 8) → (34359738368 + (S0 1031 8 - x1).toNat) * 1099511627776 + (17179869184 + (S0 1031 9 - x2).toNat) < R → zz_E g l zy_combine_6_16 zr_combine_6_16 (zz_QV n (zp_combine_6_16  S0)) S n 12 [some (.ref 1031), some (zi x1), some (zi x2)] [] 0 0) : zz_E g l zy_combine_6_16 zr_combine_6_16 (zz_QV n (zp_combine_6_16  S0)) S n 12 [some (.ref 1031), some (zi x1), some (zi x2)] [] 0 0 := by
  have l0 := hl
  unfold zz_lc at l0
  have lk := l0.2.2.2.2.2.2.2.1 rfl
  have l2 := l0.2.1 (by decide)
  clear l0
  have gS := zz_G.r G_S0 1031 6 2 8 rfl rfl
  have gT := zz_G.r G_S0 1031 12 0 1023 rfl rfl
  have m1 : x1 * S0 1031 6 ≤ (S0 1031 8 - 1) * S0 1031 6 := Int.mul_le_mul_of_nonneg_right (by omega) (by omega)
  have m2 : x1 * S0 1031 12 ≤ (S0 1031 8 - 1) * S0 1031 12 := Int.mul_le_mul_of_nonneg_right (by omega) (by omega)
  refine zz_iload_n (x := x2) rfl zd_6_16_12 ?_
  refine zz_aload_n (x := 1031) rfl zd_6_16_13 ?_
  have g5 := zz_G.r G_S0 1031 9 0 31 rfl rfl
  refine zz_geti (z := S0 1031 9) zd_6_16_14 zf_Machine_116 zT_1031 rfl (zz_ltn hn rfl) (zz_rc F_S rfl rfl (fun h => h) rfl) ?_
  refine zz_icmp_ge (by omega) (by omega) zd_6_16_17 (fun c6 => ?_) (fun c6 => ?_)
  · refine zz_iinc [some (.ref 1031), some (zi (x1 + 1)), some (zi x2)] zd_6_16_112 rfl rfl ?_
    refine zz_goto zd_6_16_115 ?_
    have g7 := zz_G.r G_S0 1031 8 0 63 rfl rfl
    refine zz_less (ls1 := [some (.ref 1031), some (zi (x1 + 1))]) ⟨rfl, ⟨rfl, trivial⟩⟩ ?_
    exact k2 (x1 + 1) S G_S F_S (by omega) (by omega)
  · refine zz_aload_n (x := 1031) rfl zd_6_16_20 ?_
    have g8 := zz_G.r G_S0 1031 11 0 511 rfl rfl
    refine zz_geti (z := S0 1031 11) zd_6_16_21 zf_Machine_122 zT_1031 rfl (zz_ltn hn rfl) (zz_rc F_S rfl rfl (fun h => h) rfl) ?_
    refine zz_iload_n (x := x1) rfl zd_6_16_24 ?_
    refine zz_aload_n (x := 1031) rfl zd_6_16_25 ?_
    have g9 := zz_G.r G_S0 1031 6 2 8 rfl rfl
    refine zz_geti (z := S0 1031 6) zd_6_16_26 zf_Machine_36 zT_1031 rfl (zz_ltn hn rfl) (zz_rc F_S rfl rfl (fun h => h) rfl) ?_
    refine zz_imul zd_6_16_29 ?_
    have m10 := zz_mulb (a := x1) (b := S0 1031 6) 62 8 496 (by omega) (by omega) (by decide)
    refine zz_iadd zd_6_16_30 ?_
    refine zz_iload_n (x := x2) rfl zd_6_16_31 ?_
    refine zz_iadd zd_6_16_32 ?_
    refine zz_istore_n [some (.ref 1031), some (zi x1), some (zi x2), some (zi (((S0 1031 11) + (x1 * (S0 1031 6))) + x2))] zd_6_16_33 (by decide) rfl ?_
    refine zz_aload_n (x := 1031) rfl zd_6_16_34 ?_
    refine zz_getr (kd := 0) (z := 1033) zd_6_16_35 zf_Machine_19 zT_1031 rfl (zz_ltn hn rfl) (zz_G.eq G_S 1031 1 1033 rfl rfl) (by decide) 1033 rfl ?_
    refine zz_aload_n (x := 1031) rfl zd_6_16_38 ?_
    have g11 := zz_G.r G_S0 1031 10 0 511 rfl rfl
    refine zz_geti (z := S0 1031 10) zd_6_16_39 zf_Machine_119 zT_1031 rfl (zz_ltn hn rfl) (zz_rc F_S rfl rfl (fun h => h) rfl) ?_
    refine zz_iload_n (x := x1) rfl zd_6_16_42 ?_
    refine zz_aload_n (x := 1031) rfl zd_6_16_43 ?_
    refine zz_geti (z := S0 1031 6) zd_6_16_44 zf_Machine_36 zT_1031 rfl (zz_ltn hn rfl) (zz_rc F_S rfl rfl (fun h => h) rfl) ?_
    refine zz_imul zd_6_16_47 ?_
    have m12 := zz_mulb (a := x1) (b := S0 1031 6) 62 8 496 (by omega) (by omega) (by decide)
    refine zz_iadd zd_6_16_48 ?_
    refine zz_iload_n (x := x2) rfl zd_6_16_49 ?_
    refine zz_iadd zd_6_16_50 ?_
    have g13 := zz_G.r G_S0 1033 ((((S0 1031 10) + (x1 * (S0 1031 6))) + x2).toNat) (-128) 127 rfl rfl
    refine zz_bald (z := S0 1033 ((((S0 1031 10) + (x1 * (S0 1031 6))) + x2).toNat)) zd_6_16_51 zT_1033 rfl (zz_ltn hn rfl) (by decide) (by omega) (zz_rc F_S (zz_nc1 rfl) rfl (fun h => h) rfl) ?_
    refine zz_istore [some (.ref 1031), some (zi x1), some (zi x2), some (zi (((S0 1031 11) + (x1 * (S0 1031 6))) + x2)), some (zi (S0 1033 ((((S0 1031 10) + (x1 * (S0 1031 6))) + x2).toNat)))] zd_6_16_52 (by decide) rfl ?_
    refine zz_aload_n (x := 1031) rfl zd_6_16_54 ?_
    have g14 := zz_G.r G_S0 1031 13 0 31 rfl rfl
    refine zz_geti (z := S0 1031 13) zd_6_16_55 zf_Machine_128 zT_1031 rfl (zz_ltn hn rfl) (zz_rc F_S rfl rfl (fun h => h) rfl) ?_
    refine zz_iconst zd_6_16_58 ?_
    refine zz_icmp_ne (by omega) (by omega) zd_6_16_59 (fun c15 => ?_) (fun c15 => ?_)
    · refine zz_aload_n (x := 1031) rfl zd_6_16_76 ?_
      refine zz_getr (kd := 0) (z := 1035) zd_6_16_77 zf_Machine_25 zT_1031 rfl (zz_ltn hn rfl) (zz_G.eq G_S 1031 3 1035 rfl rfl) (by decide) 1035 rfl ?_
      refine zz_iload_n (x := ((S0 1031 11) + (x1 * (S0 1031 6))) + x2) rfl zd_6_16_80 ?_
      refine zz_aload_n (x := 1031) rfl zd_6_16_81 ?_
      refine zz_geti (z := S0 1031 13) zd_6_16_82 zf_Machine_128 zT_1031 rfl (zz_ltn hn rfl) (zz_rc F_S rfl rfl (fun h => h) rfl) ?_
      refine zz_iconst zd_6_16_85 ?_
      refine zz_icmp_ne (by omega) (by omega) zd_6_16_86 (fun c16 => ?_) (fun c16 => ?_)
      · refine zz_iload (x := S0 1033 ((((S0 1031 10) + (x1 * (S0 1031 6))) + x2).toNat)) rfl zd_6_16_103 ?_
        refine zz_iast zd_6_16_105 zT_1035 rfl (zz_ltn hn rfl) (by decide) (by omega) (fun S17 qS17 => ?_)
        have G_S17 := zz_G.put G_S qS17 (-2147483648) 2147483647 rfl (by omega)
        have F_S17 := zz_fr.putc F_S qS17 rfl
        refine zz_iinc [some (.ref 1031), some (zi x1), some (zi (x2 + 1)), some (zi (((S0 1031 11) + (x1 * (S0 1031 6))) + x2)), some (zi (S0 1033 ((((S0 1031 10) + (x1 * (S0 1031 6))) + x2).toNat)))] zd_6_16_106 rfl rfl ?_
        refine zz_goto zd_6_16_109 ?_
        have g18 := zz_G.r G_S0 1031 8 0 63 rfl rfl
        refine zz_less (ls1 := [some (.ref 1031), some (zi x1), some (zi (x2 + 1))]) ⟨rfl, ⟨rfl, ⟨rfl, trivial⟩⟩⟩ ?_
        exact k12 x1 (x2 + 1) S17 G_S17 F_S17 (by omega) (by omega) (by omega) (by omega) (by omega)
      · refine zz_aload_n (x := 1031) rfl zd_6_16_89 ?_
        refine zz_getr (kd := 0) (z := 1035) zd_6_16_90 zf_Machine_25 zT_1031 rfl (zz_ltn hn rfl) (zz_G.eq G_S 1031 3 1035 rfl rfl) (by decide) 1035 rfl ?_
        refine zz_iload_n (x := ((S0 1031 11) + (x1 * (S0 1031 6))) + x2) rfl zd_6_16_93 ?_
        have g19 := zz_G.r G_S 1035 ((((S0 1031 11) + (x1 * (S0 1031 6))) + x2).toNat) (-2147483648) 2147483647 rfl rfl
        refine zz_iald (z := S 1035 ((((S0 1031 11) + (x1 * (S0 1031 6))) + x2).toNat)) zd_6_16_94 zT_1035 rfl (zz_ltn hn rfl) (by decide) (by omega) rfl ?_
        refine zz_iload (x := S0 1033 ((((S0 1031 10) + (x1 * (S0 1031 6))) + x2).toNat)) rfl zd_6_16_95 ?_
        refine zz_mmax (by omega) (by omega) zd_6_16_97 zm_Machine_135 ⟨Nat.le_of_ble_eq_true rfl, Nat.le_of_ble_eq_true rfl⟩ (Nat.zero_le _) (Nat.zero_le _) (fun v20 hv20 => ?_)
        refine zz_goto zd_6_16_100 ?_
        refine zz_iast zd_6_16_105 zT_1035 rfl (zz_ltn hn rfl) (by decide) (by omega) (fun S21 qS21 => ?_)
        have G_S21 := zz_G.put G_S qS21 (-2147483648) 2147483647 rfl (by omega)
        have F_S21 := zz_fr.putc F_S qS21 rfl
        refine zz_iinc [some (.ref 1031), some (zi x1), some (zi (x2 + 1)), some (zi (((S0 1031 11) + (x1 * (S0 1031 6))) + x2)), some (zi (S0 1033 ((((S0 1031 10) + (x1 * (S0 1031 6))) + x2).toNat)))] zd_6_16_106 rfl rfl ?_
        refine zz_goto zd_6_16_109 ?_
        have g22 := zz_G.r G_S0 1031 8 0 63 rfl rfl
        refine zz_less (ls1 := [some (.ref 1031), some (zi x1), some (zi (x2 + 1))]) ⟨rfl, ⟨rfl, ⟨rfl, trivial⟩⟩⟩ ?_
        exact k12 x1 (x2 + 1) S21 G_S21 F_S21 (by omega) (by omega) (by omega) (by omega) (by omega)
    · refine zz_aload_n (x := 1031) rfl zd_6_16_62 ?_
      refine zz_getr (kd := 0) (z := 1035) zd_6_16_63 zf_Machine_25 zT_1031 rfl (zz_ltn hn rfl) (zz_G.eq G_S 1031 3 1035 rfl rfl) (by decide) 1035 rfl ?_
      refine zz_iload_n (x := ((S0 1031 11) + (x1 * (S0 1031 6))) + x2) rfl zd_6_16_66 ?_
      refine zz_dup2_11 rfl rfl zd_6_16_67 ?_
      have g23 := zz_G.r G_S 1035 ((((S0 1031 11) + (x1 * (S0 1031 6))) + x2).toNat) (-2147483648) 2147483647 rfl rfl
      refine zz_iald (z := S 1035 ((((S0 1031 11) + (x1 * (S0 1031 6))) + x2).toNat)) zd_6_16_68 zT_1035 rfl (zz_ltn hn rfl) (by decide) (by omega) rfl ?_
      refine zz_iload (x := S0 1033 ((((S0 1031 10) + (x1 * (S0 1031 6))) + x2).toNat)) rfl zd_6_16_69 ?_
      refine zz_iadd zd_6_16_71 ?_
      refine zz_nrm (fun v24 hv24 ev24 => ?_)
      refine zz_iast zd_6_16_72 zT_1035 rfl (zz_ltn hn rfl) (by decide) (by omega) (fun S25 qS25 => ?_)
      have G_S25 := zz_G.put G_S qS25 (-2147483648) 2147483647 rfl (by omega)
      have F_S25 := zz_fr.putc F_S qS25 rfl
      refine zz_goto zd_6_16_73 ?_
      refine zz_iinc [some (.ref 1031), some (zi x1), some (zi (x2 + 1)), some (zi (((S0 1031 11) + (x1 * (S0 1031 6))) + x2)), some (zi (S0 1033 ((((S0 1031 10) + (x1 * (S0 1031 6))) + x2).toNat)))] zd_6_16_106 rfl rfl ?_
      refine zz_goto zd_6_16_109 ?_
      have g26 := zz_G.r G_S0 1031 8 0 63 rfl rfl
      refine zz_less (ls1 := [some (.ref 1031), some (zi x1), some (zi (x2 + 1))]) ⟨rfl, ⟨rfl, ⟨rfl, trivial⟩⟩⟩ ?_
      exact k12 x1 (x2 + 1) S25 G_S25 F_S25 (by omega) (by omega) (by omega) (by omega) (by omega)
theorem zi_combine_6_16 {g : mm_G} {l : Launch}  (S0 : zz_S) (n : Nat) (hn : zz_end ≤ n) (G_S0 : zz_G S0) (hl : zz_lc 6 (S0 1031 7) (S0 1031 8) (S0 1031 9) (S0 1031 10) (S0 1031 11) (S0 1031 12) (S0 1031 13) (S0 1031 6)) : ∀ N : Nat, (∀ (x1 : Int) (S : zz_S), zz_G S → zz_fr [] [1035] (fun _ _ => False) S0 S → (0 ≤ x1 ∧ x1 ≤ 63) → (34359738368 + (S0 1031 8 - x1).toNat) * 1099511627776 + 1099511627775 < N → zz_E g l zy_combine_6_16 zr_combine_6_16 (zz_QV n (zp_combine_6_16  S0)) S n 2 [some (.ref 1031), some (zi x1)] [] 0 0) ∧ (∀ (x1 : Int) (x2 : Int) (S : zz_S), zz_G S → zz_fr [] [1035] (fun _ _ => False) S0 S → (0 ≤ x1 ∧ x1 ≤ 62) → (0 ≤ x2 ∧ x2 ≤ 31) → (0 ≤ x1 ∧ x1 ≤ 63) → (x1 < S0 1031 8) → (34359738368 + (S0 1031 8 - x1).toNat) * 1099511627776 + (17179869184 + (S0 1031 9 - x2).toNat) < N → zz_E g l zy_combine_6_16 zr_combine_6_16 (zz_QV n (zp_combine_6_16  S0)) S n 12 [some (.ref 1031), some (zi x1), some (zi x2)] [] 0 0) := by
  intro N
  induction N with
  | zero => exact ⟨fun x1 S _ _ _ h => absurd h (Nat.not_lt_zero _), fun x1 x2 S _ _ _ _ _ _ h => absurd h (Nat.not_lt_zero _)⟩
  | succ N ih =>
    exact ⟨fun x1 S a b j0 hR => zb_combine_6_16_2  S0 n hn G_S0 hl x1 S a b j0 _ rfl (fun x1 x2 S a b j0 j1 j2 j3 h => ih.2 x1 x2 S a b j0 j1 j2 j3 (Nat.lt_of_lt_of_le h (Nat.le_of_lt_succ hR))),
      fun x1 x2 S a b j0 j1 j2 j3 hR => zb_combine_6_16_12  S0 n hn G_S0 hl x1 x2 S a b j0 j1 j2 j3 _ rfl (fun x1 S a b j0 h => ih.1 x1 S a b j0 (Nat.lt_of_lt_of_le h (Nat.le_of_lt_succ hR))) (fun x1 x2 S a b j0 j1 j2 j3 h => ih.2 x1 x2 S a b j0 j1 j2 j3 (Nat.lt_of_lt_of_le h (Nat.le_of_lt_succ hR)))⟩
theorem zc_combine_6_16 {g : mm_G} {l : Launch}  (S0 : zz_S) (n : Nat) (hn : zz_end ≤ n) (G_S0 : zz_G S0) (hl : zz_lc 6 (S0 1031 7) (S0 1031 8) (S0 1031 9) (S0 1031 10) (S0 1031 11) (S0 1031 12) (S0 1031 13) (S0 1031 6)) : mm_Met g l zy_combine_6_16 zr_combine_6_16 [.ref 1031] (zz_M S0 n) n (zz_QV n (zp_combine_6_16  S0)) := by
  refine zz_enter (by decide) (Nat.le_of_ble_eq_true rfl) (zz_less (ls1 := [some (.ref 1031)]) ⟨rfl, trivial⟩ ?_)
  have F_S0 : zz_fr [] [1035] (fun _ _ => False) S0 S0 := zz_fr.refl
  have k2 : ∀ (x1 : Int) (S : zz_S), zz_G S → zz_fr [] [1035] (fun _ _ => False) S0 S → (0 ≤ x1 ∧ x1 ≤ 63) → zz_E g l zy_combine_6_16 zr_combine_6_16 (zz_QV n (zp_combine_6_16  S0)) S n 2 [some (.ref 1031), some (zi x1)] [] 0 0 := fun x1 S a b j0 => (zi_combine_6_16 (g := g) (l := l)  S0 n hn G_S0 hl _).1 x1 S a b j0 (Nat.lt_succ_self _)
  refine zz_iconst zd_6_16_0 ?_
  refine zz_istore_n [some (.ref 1031), some (zi 0)] zd_6_16_1 (by decide) rfl ?_
  have g1 := zz_G.r G_S0 1031 8 0 63 rfl rfl
  refine zz_less (ls1 := [some (.ref 1031), some (zi 0)]) ⟨rfl, ⟨rfl, trivial⟩⟩ ?_
  exact k2 0 S0 G_S0 F_S0 (by omega)
theorem zk_Machine_101 : mm_Vl "TensorForge$Machine" 101 3 0 zy_combine_6_16 := ⟨zyw_combine_6_16, (R_Machine, F_Machine, 14), rfl, mm_tb_1 817 (by decide +kernel) rfl, mm_tb_1 819 (by decide +kernel) rfl, mm_tb_s 32 (by decide +kernel) rfl⟩
abbrev zy_narrow_6_17 : mm_Y := (⟨"TensorForge$Machine", "narrow", "()V"⟩, prog_6_method_17_code, 3, none)
theorem zyw_narrow_6_17 : mm_Yw zy_narrow_6_17 0 := ⟨mm_tb_1 825 (by decide +kernel) rfl, mm_tb_1 4 (by decide +kernel) rfl, ⟨by decide, by decide⟩, by decide +kernel⟩
abbrev zy_narrowed_6_19 : mm_Y := (⟨"TensorForge$Machine", "narrowed", "(II)B"⟩, prog_6_method_19_code, 5, (some .byte))
theorem zyw_narrowed_6_19 : mm_Yw zy_narrowed_6_19 2 := ⟨mm_tb_1 828 (by decide +kernel) rfl, mm_tb_1 4 (by decide +kernel) rfl, ⟨by decide, by decide⟩, by decide +kernel⟩
theorem zq_Machine_145 : Cond.constantLong "TensorForge$Machine" 145 (-128 : Int64) ∈ mm_tb := mm_tb_1 829 (by decide +kernel) rfl
theorem zq_Machine_147 : Cond.constantLong "TensorForge$Machine" 147 (127 : Int64) ∈ mm_tb := mm_tb_1 830 (by decide +kernel) rfl
theorem zm_Machine_149 : Cond.methodLink "TensorForge$Machine" 149 Lib.MathLoose.min_long.x ∈ mm_tb ∧ Cond.static Lib.MathLoose.min_long.x ∈ mm_tb ∧ Cond.initialized "java/lang/Math" ∈ mm_tb ∧ Cond.code Lib.MathLoose.min_long.x Lib.MathLoose.min_long.code 4 (some .long) ∈ mm_tb := ⟨mm_tb_1 831 (by decide +kernel) rfl, mm_tb_1 832 (by decide +kernel) rfl, mm_tb_1 25 (by decide +kernel) rfl, mm_tb_1 833 (by decide +kernel) rfl⟩
theorem zm_Machine_153 : Cond.methodLink "TensorForge$Machine" 153 Lib.MathLoose.max_long.x ∈ mm_tb ∧ Cond.static Lib.MathLoose.max_long.x ∈ mm_tb ∧ Cond.initialized "java/lang/Math" ∈ mm_tb ∧ Cond.code Lib.MathLoose.max_long.x Lib.MathLoose.max_long.code 4 (some .long) ∈ mm_tb := ⟨mm_tb_1 834 (by decide +kernel) rfl, mm_tb_1 835 (by decide +kernel) rfl, mm_tb_1 25 (by decide +kernel) rfl, mm_tb_1 836 (by decide +kernel) rfl⟩
theorem zg_6_10_103 : zq_at zy_perform_6_10.2.1 103 167 ∧ zq_at zy_perform_6_10.2.1 104 0 ∧ zq_at zy_perform_6_10.2.1 105 17 ∧ zq_at zy_perform_6_10.2.1 106 42 ∧ zq_at zy_perform_6_10.2.1 107 182 ∧ zq_at zy_perform_6_10.2.1 108 0 ∧ zq_at zy_perform_6_10.2.1 109 104 := by decide +kernel
theorem zd_6_10_103 : zz_B zy_perform_6_10 103 Instr.goto 120 106 := ⟨17, zq_167 zg_6_10_103.1 zg_6_10_103.2.1 zg_6_10_103.2.2.1 (by decide), rfl, rfl⟩
theorem zd_6_10_106 : zz_D zy_perform_6_10 106 (.aload_n 0) 1 107 := ⟨zq_42 zg_6_10_103.2.2.2.1, rfl⟩
theorem zd_6_10_107 : zz_D zy_perform_6_10 107 (.invokevirtual 104) 3 110 := ⟨zq_182 zg_6_10_103.2.2.2.2.1 zg_6_10_103.2.2.2.2.2.1 zg_6_10_103.2.2.2.2.2.2 rfl, rfl⟩
theorem zg_6_17_0 : zq_at zy_narrow_6_17.2.1 0 3 ∧ zq_at zy_narrow_6_17.2.1 1 60 ∧ zq_at zy_narrow_6_17.2.1 2 27 ∧ zq_at zy_narrow_6_17.2.1 3 42 ∧ zq_at zy_narrow_6_17.2.1 4 180 ∧ zq_at zy_narrow_6_17.2.1 5 0 ∧ zq_at zy_narrow_6_17.2.1 6 113 ∧ zq_at zy_narrow_6_17.2.1 7 162 ∧ zq_at zy_narrow_6_17.2.1 8 0 ∧ zq_at zy_narrow_6_17.2.1 9 68 ∧ zq_at zy_narrow_6_17.2.1 75 177 ∧ zq_at zy_narrow_6_17.2.1 10 3 ∧ zq_at zy_narrow_6_17.2.1 11 61 ∧ zq_at zy_narrow_6_17.2.1 12 28 ∧ zq_at zy_narrow_6_17.2.1 13 42 ∧ zq_at zy_narrow_6_17.2.1 14 180 ∧ zq_at zy_narrow_6_17.2.1 15 0 ∧ zq_at zy_narrow_6_17.2.1 16 116 ∧ zq_at zy_narrow_6_17.2.1 17 162 ∧ zq_at zy_narrow_6_17.2.1 18 0 ∧ zq_at zy_narrow_6_17.2.1 19 52 ∧ zq_at zy_narrow_6_17.2.1 69 132 ∧ zq_at zy_narrow_6_17.2.1 70 1 ∧ zq_at zy_narrow_6_17.2.1 71 1 := by decide +kernel
theorem zd_6_17_0 : zz_D zy_narrow_6_17 0 (.iconst 0) 1 1 := ⟨zq_3 zg_6_17_0.1, rfl⟩
theorem zd_6_17_1 : zz_D zy_narrow_6_17 1 (.istore_n 1) 1 2 := ⟨zq_60 zg_6_17_0.2.1, rfl⟩
theorem zd_6_17_2 : zz_D zy_narrow_6_17 2 (.iload_n 1) 1 3 := ⟨zq_27 zg_6_17_0.2.2.1, rfl⟩
theorem zd_6_17_3 : zz_D zy_narrow_6_17 3 (.aload_n 0) 1 4 := ⟨zq_42 zg_6_17_0.2.2.2.1, rfl⟩
theorem zd_6_17_4 : zz_D zy_narrow_6_17 4 (.getfield 113) 3 7 := ⟨zq_180 zg_6_17_0.2.2.2.2.1 zg_6_17_0.2.2.2.2.2.1 zg_6_17_0.2.2.2.2.2.2.1 rfl, rfl⟩
theorem zd_6_17_7 : zz_B zy_narrow_6_17 7 (Instr.if_icmp .ge) 75 10 := ⟨68, zq_162 zg_6_17_0.2.2.2.2.2.2.2.1 zg_6_17_0.2.2.2.2.2.2.2.2.1 zg_6_17_0.2.2.2.2.2.2.2.2.2.1 (by decide), rfl, rfl⟩
theorem zd_6_17_75 : zz_D zy_narrow_6_17 75 (.return_) 1 76 := ⟨zq_177 zg_6_17_0.2.2.2.2.2.2.2.2.2.2.1, rfl⟩
theorem zd_6_17_10 : zz_D zy_narrow_6_17 10 (.iconst 0) 1 11 := ⟨zq_3 zg_6_17_0.2.2.2.2.2.2.2.2.2.2.2.1, rfl⟩
theorem zd_6_17_11 : zz_D zy_narrow_6_17 11 (.istore_n 2) 1 12 := ⟨zq_61 zg_6_17_0.2.2.2.2.2.2.2.2.2.2.2.2.1, rfl⟩
theorem zd_6_17_12 : zz_D zy_narrow_6_17 12 (.iload_n 2) 1 13 := ⟨zq_28 zg_6_17_0.2.2.2.2.2.2.2.2.2.2.2.2.2.1, rfl⟩
theorem zd_6_17_13 : zz_D zy_narrow_6_17 13 (.aload_n 0) 1 14 := ⟨zq_42 zg_6_17_0.2.2.2.2.2.2.2.2.2.2.2.2.2.2.1, rfl⟩
theorem zd_6_17_14 : zz_D zy_narrow_6_17 14 (.getfield 116) 3 17 := ⟨zq_180 zg_6_17_0.2.2.2.2.2.2.2.2.2.2.2.2.2.2.2.1 zg_6_17_0.2.2.2.2.2.2.2.2.2.2.2.2.2.2.2.2.1 zg_6_17_0.2.2.2.2.2.2.2.2.2.2.2.2.2.2.2.2.2.1 rfl, rfl⟩
theorem zd_6_17_17 : zz_B zy_narrow_6_17 17 (Instr.if_icmp .ge) 69 20 := ⟨52, zq_162 zg_6_17_0.2.2.2.2.2.2.2.2.2.2.2.2.2.2.2.2.2.2.1 zg_6_17_0.2.2.2.2.2.2.2.2.2.2.2.2.2.2.2.2.2.2.2.1 zg_6_17_0.2.2.2.2.2.2.2.2.2.2.2.2.2.2.2.2.2.2.2.2.1 (by decide), rfl, rfl⟩
theorem zd_6_17_69 : zz_D zy_narrow_6_17 69 (.iinc 1 1) 3 72 := ⟨zq_132 zg_6_17_0.2.2.2.2.2.2.2.2.2.2.2.2.2.2.2.2.2.2.2.2.2.1 zg_6_17_0.2.2.2.2.2.2.2.2.2.2.2.2.2.2.2.2.2.2.2.2.2.2.1 zg_6_17_0.2.2.2.2.2.2.2.2.2.2.2.2.2.2.2.2.2.2.2.2.2.2.2 (by decide), rfl⟩
theorem zg_6_17_72 : zq_at zy_narrow_6_17.2.1 72 167 ∧ zq_at zy_narrow_6_17.2.1 73 255 ∧ zq_at zy_narrow_6_17.2.1 74 186 ∧ zq_at zy_narrow_6_17.2.1 20 42 ∧ zq_at zy_narrow_6_17.2.1 21 180 ∧ zq_at zy_narrow_6_17.2.1 22 0 ∧ zq_at zy_narrow_6_17.2.1 23 28 ∧ zq_at zy_narrow_6_17.2.1 24 42 ∧ zq_at zy_narrow_6_17.2.1 25 180 ∧ zq_at zy_narrow_6_17.2.1 26 0 ∧ zq_at zy_narrow_6_17.2.1 27 122 ∧ zq_at zy_narrow_6_17.2.1 28 27 ∧ zq_at zy_narrow_6_17.2.1 29 42 ∧ zq_at zy_narrow_6_17.2.1 30 180 ∧ zq_at zy_narrow_6_17.2.1 31 0 ∧ zq_at zy_narrow_6_17.2.1 32 36 ∧ zq_at zy_narrow_6_17.2.1 33 104 ∧ zq_at zy_narrow_6_17.2.1 34 96 ∧ zq_at zy_narrow_6_17.2.1 35 28 ∧ zq_at zy_narrow_6_17.2.1 36 96 ∧ zq_at zy_narrow_6_17.2.1 37 42 ∧ zq_at zy_narrow_6_17.2.1 38 180 ∧ zq_at zy_narrow_6_17.2.1 39 0 ∧ zq_at zy_narrow_6_17.2.1 40 25 := by decide +kernel
theorem zd_6_17_72 : zz_B zy_narrow_6_17 72 Instr.goto 2 75 := ⟨(-70), zq_167 zg_6_17_72.1 zg_6_17_72.2.1 zg_6_17_72.2.2.1 (by decide), rfl, rfl⟩
theorem zd_6_17_20 : zz_D zy_narrow_6_17 20 (.aload_n 0) 1 21 := ⟨zq_42 zg_6_17_72.2.2.2.1, rfl⟩
theorem zd_6_17_21 : zz_D zy_narrow_6_17 21 (.getfield 28) 3 24 := ⟨zq_180 zg_6_17_72.2.2.2.2.1 zg_6_17_72.2.2.2.2.2.1 zg_6_17_72.2.2.2.2.2.2.1 rfl, rfl⟩
theorem zd_6_17_24 : zz_D zy_narrow_6_17 24 (.aload_n 0) 1 25 := ⟨zq_42 zg_6_17_72.2.2.2.2.2.2.2.1, rfl⟩
theorem zd_6_17_25 : zz_D zy_narrow_6_17 25 (.getfield 122) 3 28 := ⟨zq_180 zg_6_17_72.2.2.2.2.2.2.2.2.1 zg_6_17_72.2.2.2.2.2.2.2.2.2.1 zg_6_17_72.2.2.2.2.2.2.2.2.2.2.1 rfl, rfl⟩
theorem zd_6_17_28 : zz_D zy_narrow_6_17 28 (.iload_n 1) 1 29 := ⟨zq_27 zg_6_17_72.2.2.2.2.2.2.2.2.2.2.2.1, rfl⟩
theorem zd_6_17_29 : zz_D zy_narrow_6_17 29 (.aload_n 0) 1 30 := ⟨zq_42 zg_6_17_72.2.2.2.2.2.2.2.2.2.2.2.2.1, rfl⟩
theorem zd_6_17_30 : zz_D zy_narrow_6_17 30 (.getfield 36) 3 33 := ⟨zq_180 zg_6_17_72.2.2.2.2.2.2.2.2.2.2.2.2.2.1 zg_6_17_72.2.2.2.2.2.2.2.2.2.2.2.2.2.2.1 zg_6_17_72.2.2.2.2.2.2.2.2.2.2.2.2.2.2.2.1 rfl, rfl⟩
theorem zd_6_17_33 : zz_D zy_narrow_6_17 33 (.imul) 1 34 := ⟨zq_104 zg_6_17_72.2.2.2.2.2.2.2.2.2.2.2.2.2.2.2.2.1, rfl⟩
theorem zd_6_17_34 : zz_D zy_narrow_6_17 34 (.iadd) 1 35 := ⟨zq_96 zg_6_17_72.2.2.2.2.2.2.2.2.2.2.2.2.2.2.2.2.2.1, rfl⟩
theorem zd_6_17_35 : zz_D zy_narrow_6_17 35 (.iload_n 2) 1 36 := ⟨zq_28 zg_6_17_72.2.2.2.2.2.2.2.2.2.2.2.2.2.2.2.2.2.2.1, rfl⟩
theorem zd_6_17_36 : zz_D zy_narrow_6_17 36 (.iadd) 1 37 := ⟨zq_96 zg_6_17_72.2.2.2.2.2.2.2.2.2.2.2.2.2.2.2.2.2.2.2.1, rfl⟩
theorem zd_6_17_37 : zz_D zy_narrow_6_17 37 (.aload_n 0) 1 38 := ⟨zq_42 zg_6_17_72.2.2.2.2.2.2.2.2.2.2.2.2.2.2.2.2.2.2.2.2.1, rfl⟩
theorem zd_6_17_38 : zz_D zy_narrow_6_17 38 (.getfield 25) 3 41 := ⟨zq_180 zg_6_17_72.2.2.2.2.2.2.2.2.2.2.2.2.2.2.2.2.2.2.2.2.2.1 zg_6_17_72.2.2.2.2.2.2.2.2.2.2.2.2.2.2.2.2.2.2.2.2.2.2.1 zg_6_17_72.2.2.2.2.2.2.2.2.2.2.2.2.2.2.2.2.2.2.2.2.2.2.2 rfl, rfl⟩
theorem zg_6_17_41 : zq_at zy_narrow_6_17.2.1 41 42 ∧ zq_at zy_narrow_6_17.2.1 42 180 ∧ zq_at zy_narrow_6_17.2.1 43 0 ∧ zq_at zy_narrow_6_17.2.1 44 119 ∧ zq_at zy_narrow_6_17.2.1 45 27 ∧ zq_at zy_narrow_6_17.2.1 46 42 ∧ zq_at zy_narrow_6_17.2.1 47 180 ∧ zq_at zy_narrow_6_17.2.1 48 0 ∧ zq_at zy_narrow_6_17.2.1 49 36 ∧ zq_at zy_narrow_6_17.2.1 50 104 ∧ zq_at zy_narrow_6_17.2.1 51 96 ∧ zq_at zy_narrow_6_17.2.1 52 28 ∧ zq_at zy_narrow_6_17.2.1 53 96 ∧ zq_at zy_narrow_6_17.2.1 54 46 ∧ zq_at zy_narrow_6_17.2.1 55 42 ∧ zq_at zy_narrow_6_17.2.1 56 180 ∧ zq_at zy_narrow_6_17.2.1 57 0 ∧ zq_at zy_narrow_6_17.2.1 58 128 ∧ zq_at zy_narrow_6_17.2.1 59 184 ∧ zq_at zy_narrow_6_17.2.1 60 0 ∧ zq_at zy_narrow_6_17.2.1 61 141 := by decide +kernel
theorem zd_6_17_41 : zz_D zy_narrow_6_17 41 (.aload_n 0) 1 42 := ⟨zq_42 zg_6_17_41.1, rfl⟩
theorem zd_6_17_42 : zz_D zy_narrow_6_17 42 (.getfield 119) 3 45 := ⟨zq_180 zg_6_17_41.2.1 zg_6_17_41.2.2.1 zg_6_17_41.2.2.2.1 rfl, rfl⟩
theorem zd_6_17_45 : zz_D zy_narrow_6_17 45 (.iload_n 1) 1 46 := ⟨zq_27 zg_6_17_41.2.2.2.2.1, rfl⟩
theorem zd_6_17_46 : zz_D zy_narrow_6_17 46 (.aload_n 0) 1 47 := ⟨zq_42 zg_6_17_41.2.2.2.2.2.1, rfl⟩
theorem zd_6_17_47 : zz_D zy_narrow_6_17 47 (.getfield 36) 3 50 := ⟨zq_180 zg_6_17_41.2.2.2.2.2.2.1 zg_6_17_41.2.2.2.2.2.2.2.1 zg_6_17_41.2.2.2.2.2.2.2.2.1 rfl, rfl⟩
theorem zd_6_17_50 : zz_D zy_narrow_6_17 50 (.imul) 1 51 := ⟨zq_104 zg_6_17_41.2.2.2.2.2.2.2.2.2.1, rfl⟩
theorem zd_6_17_51 : zz_D zy_narrow_6_17 51 (.iadd) 1 52 := ⟨zq_96 zg_6_17_41.2.2.2.2.2.2.2.2.2.2.1, rfl⟩
theorem zd_6_17_52 : zz_D zy_narrow_6_17 52 (.iload_n 2) 1 53 := ⟨zq_28 zg_6_17_41.2.2.2.2.2.2.2.2.2.2.2.1, rfl⟩
theorem zd_6_17_53 : zz_D zy_narrow_6_17 53 (.iadd) 1 54 := ⟨zq_96 zg_6_17_41.2.2.2.2.2.2.2.2.2.2.2.2.1, rfl⟩
theorem zd_6_17_54 : zz_D zy_narrow_6_17 54 (.iaload) 1 55 := ⟨zq_46 zg_6_17_41.2.2.2.2.2.2.2.2.2.2.2.2.2.1, rfl⟩
theorem zd_6_17_55 : zz_D zy_narrow_6_17 55 (.aload_n 0) 1 56 := ⟨zq_42 zg_6_17_41.2.2.2.2.2.2.2.2.2.2.2.2.2.2.1, rfl⟩
theorem zd_6_17_56 : zz_D zy_narrow_6_17 56 (.getfield 128) 3 59 := ⟨zq_180 zg_6_17_41.2.2.2.2.2.2.2.2.2.2.2.2.2.2.2.1 zg_6_17_41.2.2.2.2.2.2.2.2.2.2.2.2.2.2.2.2.1 zg_6_17_41.2.2.2.2.2.2.2.2.2.2.2.2.2.2.2.2.2.1 rfl, rfl⟩
theorem zd_6_17_59 : zz_D zy_narrow_6_17 59 (.invokestatic 141) 3 62 := ⟨zq_184 zg_6_17_41.2.2.2.2.2.2.2.2.2.2.2.2.2.2.2.2.2.2.1 zg_6_17_41.2.2.2.2.2.2.2.2.2.2.2.2.2.2.2.2.2.2.2.1 zg_6_17_41.2.2.2.2.2.2.2.2.2.2.2.2.2.2.2.2.2.2.2.2 rfl, rfl⟩
theorem zg_6_19_0 : zq_at zy_narrowed_6_19.2.1 0 27 ∧ zq_at zy_narrowed_6_19.2.1 1 16 ∧ zq_at zy_narrowed_6_19.2.1 2 15 ∧ zq_at zy_narrowed_6_19.2.1 3 126 ∧ zq_at zy_narrowed_6_19.2.1 4 61 ∧ zq_at zy_narrowed_6_19.2.1 5 26 ∧ zq_at zy_narrowed_6_19.2.1 6 133 ∧ zq_at zy_narrowed_6_19.2.1 7 66 ∧ zq_at zy_narrowed_6_19.2.1 8 28 ∧ zq_at zy_narrowed_6_19.2.1 9 158 ∧ zq_at zy_narrowed_6_19.2.1 10 0 ∧ zq_at zy_narrowed_6_19.2.1 11 13 ∧ zq_at zy_narrowed_6_19.2.1 22 20 ∧ zq_at zy_narrowed_6_19.2.1 23 0 ∧ zq_at zy_narrowed_6_19.2.1 24 145 ∧ zq_at zy_narrowed_6_19.2.1 25 20 ∧ zq_at zy_narrowed_6_19.2.1 26 0 ∧ zq_at zy_narrowed_6_19.2.1 27 147 ∧ zq_at zy_narrowed_6_19.2.1 28 33 ∧ zq_at zy_narrowed_6_19.2.1 29 184 ∧ zq_at zy_narrowed_6_19.2.1 30 0 ∧ zq_at zy_narrowed_6_19.2.1 31 149 := by decide +kernel
theorem zd_6_19_0 : zz_D zy_narrowed_6_19 0 (.iload_n 1) 1 1 := ⟨zq_27 zg_6_19_0.1, rfl⟩
theorem zd_6_19_1 : zz_D zy_narrowed_6_19 1 (.bipush 15) 2 3 := ⟨zq_16 zg_6_19_0.2.1 zg_6_19_0.2.2.1 (by decide), rfl⟩
theorem zd_6_19_3 : zz_D zy_narrowed_6_19 3 (.iand) 1 4 := ⟨zq_126 zg_6_19_0.2.2.2.1, rfl⟩
theorem zd_6_19_4 : zz_D zy_narrowed_6_19 4 (.istore_n 2) 1 5 := ⟨zq_61 zg_6_19_0.2.2.2.2.1, rfl⟩
theorem zd_6_19_5 : zz_D zy_narrowed_6_19 5 (.iload_n 0) 1 6 := ⟨zq_26 zg_6_19_0.2.2.2.2.2.1, rfl⟩
theorem zd_6_19_6 : zz_D zy_narrowed_6_19 6 (.i2l) 1 7 := ⟨zq_133 zg_6_19_0.2.2.2.2.2.2.1, rfl⟩
theorem zd_6_19_7 : zz_D zy_narrowed_6_19 7 (.lstore_n 3) 1 8 := ⟨zq_66 zg_6_19_0.2.2.2.2.2.2.2.1, rfl⟩
theorem zd_6_19_8 : zz_D zy_narrowed_6_19 8 (.iload_n 2) 1 9 := ⟨zq_28 zg_6_19_0.2.2.2.2.2.2.2.2.1, rfl⟩
theorem zd_6_19_9 : zz_B zy_narrowed_6_19 9 (Instr.ifCond .le) 22 12 := ⟨13, zq_158 zg_6_19_0.2.2.2.2.2.2.2.2.2.1 zg_6_19_0.2.2.2.2.2.2.2.2.2.2.1 zg_6_19_0.2.2.2.2.2.2.2.2.2.2.2.1 (by decide), rfl, rfl⟩
theorem zd_6_19_22 : zz_D zy_narrowed_6_19 22 (.ldc2_w 145) 3 25 := ⟨zq_20 zg_6_19_0.2.2.2.2.2.2.2.2.2.2.2.2.1 zg_6_19_0.2.2.2.2.2.2.2.2.2.2.2.2.2.1 zg_6_19_0.2.2.2.2.2.2.2.2.2.2.2.2.2.2.1 rfl, rfl⟩
theorem zd_6_19_25 : zz_D zy_narrowed_6_19 25 (.ldc2_w 147) 3 28 := ⟨zq_20 zg_6_19_0.2.2.2.2.2.2.2.2.2.2.2.2.2.2.2.1 zg_6_19_0.2.2.2.2.2.2.2.2.2.2.2.2.2.2.2.2.1 zg_6_19_0.2.2.2.2.2.2.2.2.2.2.2.2.2.2.2.2.2.1 rfl, rfl⟩
theorem zd_6_19_28 : zz_D zy_narrowed_6_19 28 (.lload_n 3) 1 29 := ⟨zq_33 zg_6_19_0.2.2.2.2.2.2.2.2.2.2.2.2.2.2.2.2.2.2.1, rfl⟩
theorem zd_6_19_29 : zz_D zy_narrowed_6_19 29 (.invokestatic 149) 3 32 := ⟨zq_184 zg_6_19_0.2.2.2.2.2.2.2.2.2.2.2.2.2.2.2.2.2.2.2.1 zg_6_19_0.2.2.2.2.2.2.2.2.2.2.2.2.2.2.2.2.2.2.2.2.1 zg_6_19_0.2.2.2.2.2.2.2.2.2.2.2.2.2.2.2.2.2.2.2.2.2 rfl, rfl⟩
theorem zg_6_19_32 : zq_at zy_narrowed_6_19.2.1 32 184 ∧ zq_at zy_narrowed_6_19.2.1 33 0 ∧ zq_at zy_narrowed_6_19.2.1 34 153 ∧ zq_at zy_narrowed_6_19.2.1 35 66 ∧ zq_at zy_narrowed_6_19.2.1 36 27 ∧ zq_at zy_narrowed_6_19.2.1 37 16 ∧ zq_at zy_narrowed_6_19.2.1 38 16 ∧ zq_at zy_narrowed_6_19.2.1 39 161 ∧ zq_at zy_narrowed_6_19.2.1 40 0 ∧ zq_at zy_narrowed_6_19.2.1 41 11 ∧ zq_at zy_narrowed_6_19.2.1 50 33 ∧ zq_at zy_narrowed_6_19.2.1 51 136 ∧ zq_at zy_narrowed_6_19.2.1 52 145 ∧ zq_at zy_narrowed_6_19.2.1 53 172 ∧ zq_at zy_narrowed_6_19.2.1 42 33 ∧ zq_at zy_narrowed_6_19.2.1 43 9 ∧ zq_at zy_narrowed_6_19.2.1 44 148 ∧ zq_at zy_narrowed_6_19.2.1 45 156 ∧ zq_at zy_narrowed_6_19.2.1 46 0 ∧ zq_at zy_narrowed_6_19.2.1 47 5 ∧ zq_at zy_narrowed_6_19.2.1 48 9 ∧ zq_at zy_narrowed_6_19.2.1 49 66 ∧ zq_at zy_narrowed_6_19.2.1 12 33 ∧ zq_at zy_narrowed_6_19.2.1 13 10 := by decide +kernel
theorem zd_6_19_32 : zz_D zy_narrowed_6_19 32 (.invokestatic 153) 3 35 := ⟨zq_184 zg_6_19_32.1 zg_6_19_32.2.1 zg_6_19_32.2.2.1 rfl, rfl⟩
theorem zd_6_19_35 : zz_D zy_narrowed_6_19 35 (.lstore_n 3) 1 36 := ⟨zq_66 zg_6_19_32.2.2.2.1, rfl⟩
theorem zd_6_19_36 : zz_D zy_narrowed_6_19 36 (.iload_n 1) 1 37 := ⟨zq_27 zg_6_19_32.2.2.2.2.1, rfl⟩
theorem zd_6_19_37 : zz_D zy_narrowed_6_19 37 (.bipush 16) 2 39 := ⟨zq_16 zg_6_19_32.2.2.2.2.2.1 zg_6_19_32.2.2.2.2.2.2.1 (by decide), rfl⟩
theorem zd_6_19_39 : zz_B zy_narrowed_6_19 39 (Instr.if_icmp .lt) 50 42 := ⟨11, zq_161 zg_6_19_32.2.2.2.2.2.2.2.1 zg_6_19_32.2.2.2.2.2.2.2.2.1 zg_6_19_32.2.2.2.2.2.2.2.2.2.1 (by decide), rfl, rfl⟩
theorem zd_6_19_50 : zz_D zy_narrowed_6_19 50 (.lload_n 3) 1 51 := ⟨zq_33 zg_6_19_32.2.2.2.2.2.2.2.2.2.2.1, rfl⟩
theorem zd_6_19_51 : zz_D zy_narrowed_6_19 51 (.l2i) 1 52 := ⟨zq_136 zg_6_19_32.2.2.2.2.2.2.2.2.2.2.2.1, rfl⟩
theorem zd_6_19_52 : zz_D zy_narrowed_6_19 52 (.i2b) 1 53 := ⟨zq_145 zg_6_19_32.2.2.2.2.2.2.2.2.2.2.2.2.1, rfl⟩
theorem zd_6_19_53 : zz_D zy_narrowed_6_19 53 (.ireturn) 1 54 := ⟨zq_172 zg_6_19_32.2.2.2.2.2.2.2.2.2.2.2.2.2.1, rfl⟩
theorem zd_6_19_42 : zz_D zy_narrowed_6_19 42 (.lload_n 3) 1 43 := ⟨zq_33 zg_6_19_32.2.2.2.2.2.2.2.2.2.2.2.2.2.2.1, rfl⟩
theorem zd_6_19_43 : zz_D zy_narrowed_6_19 43 (.lconst 0) 1 44 := ⟨zq_9 zg_6_19_32.2.2.2.2.2.2.2.2.2.2.2.2.2.2.2.1, rfl⟩
theorem zd_6_19_44 : zz_D zy_narrowed_6_19 44 (.lcmp) 1 45 := ⟨zq_148 zg_6_19_32.2.2.2.2.2.2.2.2.2.2.2.2.2.2.2.2.1, rfl⟩
theorem zd_6_19_45 : zz_B zy_narrowed_6_19 45 (Instr.ifCond .ge) 50 48 := ⟨5, zq_156 zg_6_19_32.2.2.2.2.2.2.2.2.2.2.2.2.2.2.2.2.2.1 zg_6_19_32.2.2.2.2.2.2.2.2.2.2.2.2.2.2.2.2.2.2.1 zg_6_19_32.2.2.2.2.2.2.2.2.2.2.2.2.2.2.2.2.2.2.2.1 (by decide), rfl, rfl⟩
theorem zd_6_19_48 : zz_D zy_narrowed_6_19 48 (.lconst 0) 1 49 := ⟨zq_9 zg_6_19_32.2.2.2.2.2.2.2.2.2.2.2.2.2.2.2.2.2.2.2.2.1, rfl⟩
theorem zd_6_19_49 : zz_D zy_narrowed_6_19 49 (.lstore_n 3) 1 50 := ⟨zq_66 zg_6_19_32.2.2.2.2.2.2.2.2.2.2.2.2.2.2.2.2.2.2.2.2.2.1, rfl⟩
theorem zd_6_19_12 : zz_D zy_narrowed_6_19 12 (.lload_n 3) 1 13 := ⟨zq_33 zg_6_19_32.2.2.2.2.2.2.2.2.2.2.2.2.2.2.2.2.2.2.2.2.2.2.1, rfl⟩
theorem zd_6_19_13 : zz_D zy_narrowed_6_19 13 (.lconst 1) 1 14 := ⟨zq_10 zg_6_19_32.2.2.2.2.2.2.2.2.2.2.2.2.2.2.2.2.2.2.2.2.2.2.2, rfl⟩
theorem zg_6_19_14 : zq_at zy_narrowed_6_19.2.1 14 28 ∧ zq_at zy_narrowed_6_19.2.1 15 4 ∧ zq_at zy_narrowed_6_19.2.1 16 100 ∧ zq_at zy_narrowed_6_19.2.1 17 121 ∧ zq_at zy_narrowed_6_19.2.1 18 97 ∧ zq_at zy_narrowed_6_19.2.1 19 28 ∧ zq_at zy_narrowed_6_19.2.1 20 123 ∧ zq_at zy_narrowed_6_19.2.1 21 66 := by decide +kernel
theorem zd_6_19_14 : zz_D zy_narrowed_6_19 14 (.iload_n 2) 1 15 := ⟨zq_28 zg_6_19_14.1, rfl⟩
theorem zd_6_19_15 : zz_D zy_narrowed_6_19 15 (.iconst 1) 1 16 := ⟨zq_4 zg_6_19_14.2.1, rfl⟩
theorem zd_6_19_16 : zz_D zy_narrowed_6_19 16 (.isub) 1 17 := ⟨zq_100 zg_6_19_14.2.2.1, rfl⟩
theorem zd_6_19_17 : zz_D zy_narrowed_6_19 17 (.lshl) 1 18 := ⟨zq_121 zg_6_19_14.2.2.2.1, rfl⟩
theorem zd_6_19_18 : zz_D zy_narrowed_6_19 18 (.ladd) 1 19 := ⟨zq_97 zg_6_19_14.2.2.2.2.1, rfl⟩
theorem zd_6_19_19 : zz_D zy_narrowed_6_19 19 (.iload_n 2) 1 20 := ⟨zq_28 zg_6_19_14.2.2.2.2.2.1, rfl⟩
theorem zd_6_19_20 : zz_D zy_narrowed_6_19 20 (.lshr) 1 21 := ⟨zq_123 zg_6_19_14.2.2.2.2.2.2.1, rfl⟩
theorem zd_6_19_21 : zz_D zy_narrowed_6_19 21 (.lstore_n 3) 1 22 := ⟨zq_66 zg_6_19_14.2.2.2.2.2.2.2, rfl⟩
-- TensorForge$Machine narrowed (II)B
abbrev zr_narrowed_6_19 : Room := { frames := 1, cells := 0, slots := 0, locals := 17 }
def zp_narrowed_6_19 (p0 : Int) (p1 : Int) (S0 : zz_S) : Int → zz_S → Prop := fun r S => S0 = S ∧ ((-128) ≤ r ∧ r ≤ 127)
theorem zc_narrowed_6_19 {g : mm_G} {l : Launch} (p0 : Int) (p1 : Int) (S0 : zz_S) (n : Nat) (hn : zz_end ≤ n) (G_S0 : zz_G S0) (hp0 : (-2147483648) ≤ p0 ∧ p0 ≤ 2147483647) (hp1 : (-2147483648) ≤ p1 ∧ p1 ≤ 2147483647) : mm_Met g l zy_narrowed_6_19 zr_narrowed_6_19 [zi p0, zi p1] (zz_M S0 n) n (zz_QI n (zp_narrowed_6_19 p0 p1 S0)) := by
  refine zz_enter (by decide) (Nat.le_of_ble_eq_true rfl) (zz_less (ls1 := [some (zi p0), some (zi p1)]) ⟨rfl, ⟨rfl, trivial⟩⟩ ?_)
  refine zz_iload_n (x := p1) rfl zd_6_19_0 ?_
  refine zz_bipush (by decide) zd_6_19_1 ?_
  refine zz_iand (by omega) (by omega) zd_6_19_3 (fun v1 hv1 av1 bv1 ev1 => ?_)
  refine zz_istore_n [some (zi p0), some (zi p1), some (zi v1)] zd_6_19_4 (by decide) rfl ?_
  refine zz_iload_n (x := p0) rfl zd_6_19_5 ?_
  refine zz_i2l (by omega) zd_6_19_6 ?_
  refine zz_lstore_n [some (zi p0), some (zi p1), some (zi v1), some (zl p0), none] zd_6_19_7 (by decide) rfl ?_
  refine zz_iload_n (x := v1) rfl zd_6_19_8 ?_
  refine zz_if_le (by omega) zd_6_19_9 (fun c2 => ?_) (fun c2 => ?_)
  · refine zz_ldc2 (z := (-128)) zq_Machine_145 (by decide) zd_6_19_22 ?_
    refine zz_ldc2 (z := 127) zq_Machine_147 (by decide) zd_6_19_25 ?_
    refine zz_lload_n (x := p0) rfl zd_6_19_28 ?_
    refine zz_mminl (by omega) (by omega) zd_6_19_29 zm_Machine_149 ⟨Nat.le_of_ble_eq_true rfl, Nat.le_of_ble_eq_true rfl⟩ (Nat.zero_le _) (Nat.zero_le _) (fun v3 hv3 => ?_)
    refine zz_mmaxl (by omega) (by omega) zd_6_19_32 zm_Machine_153 ⟨Nat.le_of_ble_eq_true rfl, Nat.le_of_ble_eq_true rfl⟩ (Nat.zero_le _) (Nat.zero_le _) (fun v4 hv4 => ?_)
    refine zz_lstore_n [some (zi p0), some (zi p1), some (zi v1), some (zl v4), none] zd_6_19_35 (by decide) rfl ?_
    refine zz_iload_n (x := p1) rfl zd_6_19_36 ?_
    refine zz_bipush (by decide) zd_6_19_37 ?_
    refine zz_icmp_lt (by omega) (by omega) zd_6_19_39 (fun c5 => ?_) (fun c5 => ?_)
    · refine zz_lload_n (x := v4) rfl zd_6_19_50 ?_
      refine zz_l2i (by omega) zd_6_19_51 (fun v6 hv6 av6 ev6 => ?_)
      refine zz_i2b zd_6_19_52 (fun v7 hv7 => ?_)
      exact zz_bret zd_6_19_53 rfl (by omega) (Nat.zero_le _) (Nat.zero_le _) ⟨_, _, rfl, rfl, by omega⟩
    · refine zz_lload_n (x := v4) rfl zd_6_19_42 ?_
      refine zz_lconst (z := 0) (by decide) zd_6_19_43 ?_
      refine zz_lcmp (by omega) (by omega) zd_6_19_44 (fun v8 hv8 => ?_)
      refine zz_if_ge (by omega) zd_6_19_45 (fun c9 => ?_) (fun c9 => ?_)
      · refine zz_lload_n (x := v4) rfl zd_6_19_50 ?_
        refine zz_l2i (by omega) zd_6_19_51 (fun v10 hv10 av10 ev10 => ?_)
        refine zz_i2b zd_6_19_52 (fun v11 hv11 => ?_)
        exact zz_bret zd_6_19_53 rfl (by omega) (Nat.zero_le _) (Nat.zero_le _) ⟨_, _, rfl, rfl, by omega⟩
      · refine zz_lconst (z := 0) (by decide) zd_6_19_48 ?_
        refine zz_lstore_n [some (zi p0), some (zi p1), some (zi v1), some (zl 0), none] zd_6_19_49 (by decide) rfl ?_
        refine zz_lload_n (x := 0) rfl zd_6_19_50 ?_
        refine zz_l2i (by omega) zd_6_19_51 (fun v12 hv12 av12 ev12 => ?_)
        refine zz_i2b zd_6_19_52 (fun v13 hv13 => ?_)
        exact zz_bret zd_6_19_53 rfl (by omega) (Nat.zero_le _) (Nat.zero_le _) ⟨_, _, rfl, rfl, by omega⟩
  · refine zz_lload_n (x := p0) rfl zd_6_19_12 ?_
    refine zz_lconst (z := 1) (by decide) zd_6_19_13 ?_
    refine zz_iload_n (x := v1) rfl zd_6_19_14 ?_
    refine zz_iconst zd_6_19_15 ?_
    refine zz_isub zd_6_19_16 ?_
    refine zz_lshl zd_6_19_17 (fun v14 hv14 ev14 => ?_)
    refine zz_ladd zd_6_19_18 ?_
    refine zz_nrml (fun v15 hv15 ev15 => ?_)
    refine zz_iload_n (x := v1) rfl zd_6_19_19 ?_
    refine zz_lshr zd_6_19_20 (fun v16 hv16 ev16 => ?_)
    refine zz_lstore_n [some (zi p0), some (zi p1), some (zi v1), some (zl v16), none] zd_6_19_21 (by decide) rfl ?_
    refine zz_ldc2 (z := (-128)) zq_Machine_145 (by decide) zd_6_19_22 ?_
    refine zz_ldc2 (z := 127) zq_Machine_147 (by decide) zd_6_19_25 ?_
    refine zz_lload_n (x := v16) rfl zd_6_19_28 ?_
    refine zz_mminl (by omega) (by omega) zd_6_19_29 zm_Machine_149 ⟨Nat.le_of_ble_eq_true rfl, Nat.le_of_ble_eq_true rfl⟩ (Nat.zero_le _) (Nat.zero_le _) (fun v17 hv17 => ?_)
    refine zz_mmaxl (by omega) (by omega) zd_6_19_32 zm_Machine_153 ⟨Nat.le_of_ble_eq_true rfl, Nat.le_of_ble_eq_true rfl⟩ (Nat.zero_le _) (Nat.zero_le _) (fun v18 hv18 => ?_)
    refine zz_lstore_n [some (zi p0), some (zi p1), some (zi v1), some (zl v18), none] zd_6_19_35 (by decide) rfl ?_
    refine zz_iload_n (x := p1) rfl zd_6_19_36 ?_
    refine zz_bipush (by decide) zd_6_19_37 ?_
    refine zz_icmp_lt (by omega) (by omega) zd_6_19_39 (fun c19 => ?_) (fun c19 => ?_)
    · refine zz_lload_n (x := v18) rfl zd_6_19_50 ?_
      refine zz_l2i (by omega) zd_6_19_51 (fun v20 hv20 av20 ev20 => ?_)
      refine zz_i2b zd_6_19_52 (fun v21 hv21 => ?_)
      exact zz_bret zd_6_19_53 rfl (by omega) (Nat.zero_le _) (Nat.zero_le _) ⟨_, _, rfl, rfl, by omega⟩
    · refine zz_lload_n (x := v18) rfl zd_6_19_42 ?_
      refine zz_lconst (z := 0) (by decide) zd_6_19_43 ?_
      refine zz_lcmp (by omega) (by omega) zd_6_19_44 (fun v22 hv22 => ?_)
      refine zz_if_ge (by omega) zd_6_19_45 (fun c23 => ?_) (fun c23 => ?_)
      · refine zz_lload_n (x := v18) rfl zd_6_19_50 ?_
        refine zz_l2i (by omega) zd_6_19_51 (fun v24 hv24 av24 ev24 => ?_)
        refine zz_i2b zd_6_19_52 (fun v25 hv25 => ?_)
        exact zz_bret zd_6_19_53 rfl (by omega) (Nat.zero_le _) (Nat.zero_le _) ⟨_, _, rfl, rfl, by omega⟩
      · refine zz_lconst (z := 0) (by decide) zd_6_19_48 ?_
        refine zz_lstore_n [some (zi p0), some (zi p1), some (zi v1), some (zl 0), none] zd_6_19_49 (by decide) rfl ?_
        refine zz_lload_n (x := 0) rfl zd_6_19_50 ?_
        refine zz_l2i (by omega) zd_6_19_51 (fun v26 hv26 av26 ev26 => ?_)
        refine zz_i2b zd_6_19_52 (fun v27 hv27 => ?_)
        exact zz_bret zd_6_19_53 rfl (by omega) (Nat.zero_le _) (Nat.zero_le _) ⟨_, _, rfl, rfl, by omega⟩
theorem zk_Machine_141 : mm_Sl "TensorForge$Machine" 141 2 zy_narrowed_6_19 := ⟨zyw_narrowed_6_19, mm_tb_1 826 (by decide +kernel) rfl, mm_tb_1 827 (by decide +kernel) rfl⟩
theorem zg_6_17_62 : zq_at zy_narrow_6_17.2.1 62 84 ∧ zq_at zy_narrow_6_17.2.1 63 132 ∧ zq_at zy_narrow_6_17.2.1 64 2 ∧ zq_at zy_narrow_6_17.2.1 65 1 ∧ zq_at zy_narrow_6_17.2.1 66 167 ∧ zq_at zy_narrow_6_17.2.1 67 255 ∧ zq_at zy_narrow_6_17.2.1 68 202 := by decide +kernel
theorem zd_6_17_62 : zz_D zy_narrow_6_17 62 (.bastore) 1 63 := ⟨zq_84 zg_6_17_62.1, rfl⟩
theorem zd_6_17_63 : zz_D zy_narrow_6_17 63 (.iinc 2 1) 3 66 := ⟨zq_132 zg_6_17_62.2.1 zg_6_17_62.2.2.1 zg_6_17_62.2.2.2.1 (by decide), rfl⟩
theorem zd_6_17_66 : zz_B zy_narrow_6_17 66 Instr.goto 12 69 := ⟨(-54), zq_167 zg_6_17_62.2.2.2.2.1 zg_6_17_62.2.2.2.2.2.1 zg_6_17_62.2.2.2.2.2.2 (by decide), rfl, rfl⟩
-- TensorForge$Machine narrow ()V
abbrev zr_narrow_6_17 : Room := { frames := 2, cells := 0, slots := 0, locals := 35 }
def zp_narrow_6_17  (S0 : zz_S) : zz_S → Prop := fun S => zz_G S ∧ zz_fr [] [1036] (fun _ _ => False) S0 S
theorem zb_narrow_6_17_2 {g : mm_G} {l : Launch}  (S0 : zz_S) (n : Nat) (hn : zz_end ≤ n) (G_S0 : zz_G S0) (hl : zz_lc 7 (S0 1031 7) (S0 1031 8) (S0 1031 9) (S0 1031 10) (S0 1031 11) (S0 1031 12) (S0 1031 13) (S0 1031 6)) (x1 : Int) (S : zz_S) (G_S : zz_G S) (F_S : zz_fr [] [1036] (fun _ _ => False) S0 S) (i2_0 : 0 ≤ x1 ∧ x1 ≤ 63) (R : Nat) (hR : (34359738368 + (S0 1031 8 - x1).toNat) * 1099511627776 + 1099511627775 = R) (k12 : ∀ (x1 : Int) (x2 : Int) (S : zz_S), zz_G S → zz_fr [] [1036] (fun _ _ => False) S0 S → (0 ≤ x1 ∧ x1 ≤ 62) → (0 ≤ x2 ∧ x2 ≤ 31) → (0 ≤ x1 ∧ x1 ≤ 63) → (x1 < S0 1031 8) → (34359738368 + (S0 1031 8 - x1).toNat) * 1099511627776 + (17179869184 + (S0 1031 9 - x2).toNat) < R → zz_E g l zy_narrow_6_17 zr_narrow_6_17 (zz_QV n (zp_narrow_6_17  S0)) S n 12 [some (.ref 1031), some (zi x1), some (zi x2)] [] 0 0) : zz_E g l zy_narrow_6_17 zr_narrow_6_17 (zz_QV n (zp_narrow_6_17  S0)) S n 2 [some (.ref 1031), some (zi x1)] [] 0 0 := by
  refine zz_iload_n (x := x1) rfl zd_6_17_2 ?_
  refine zz_aload_n (x := 1031) rfl zd_6_17_3 ?_
  have g2 := zz_G.r G_S0 1031 8 0 63 rfl rfl
  refine zz_geti (z := S0 1031 8) zd_6_17_4 zf_Machine_113 zT_1031 rfl (zz_ltn hn rfl) (zz_rc F_S rfl rfl (fun h => h) rfl) ?_
  refine zz_icmp_ge (by omega) (by omega) zd_6_17_7 (fun c3 => ?_) (fun c3 => ?_)
  · exact zz_vret zd_6_17_75 rfl (Nat.zero_le _) (Nat.zero_le _) ⟨_, rfl, G_S, F_S⟩
  · refine zz_iconst zd_6_17_10 ?_
    refine zz_istore_n [some (.ref 1031), some (zi x1), some (zi 0)] zd_6_17_11 (by decide) rfl ?_
    have g4 := zz_G.r G_S0 1031 9 0 31 rfl rfl
    refine zz_less (ls1 := [some (.ref 1031), some (zi x1), some (zi 0)]) ⟨rfl, ⟨rfl, ⟨rfl, trivial⟩⟩⟩ ?_
    exact k12 x1 0 S G_S F_S (by omega) (by omega) (by omega) (by omega) (by omega)
theorem zb_narrow_6_17_12 {g : mm_G} {l : Launch}  (S0 : zz_S) (n : Nat) (hn : zz_end ≤ n) (G_S0 : zz_G S0) (hl : zz_lc 7 (S0 1031 7) (S0 1031 8) (S0 1031 9) (S0 1031 10) (S0 1031 11) (S0 1031 12) (S0 1031 13) (S0 1031 6)) (x1 : Int) (x2 : Int) (S : zz_S) (G_S : zz_G S) (F_S : zz_fr [] [1036] (fun _ _ => False) S0 S) (i12_0 : 0 ≤ x1 ∧ x1 ≤ 62) (i12_1 : 0 ≤ x2 ∧ x2 ≤ 31) (i12_2 : 0 ≤ x1 ∧ x1 ≤ 63) (i12_3 : x1 < S0 1031 8) (R : Nat) (hR : (34359738368 + (S0 1031 8 - x1).toNat) * 1099511627776 + (17179869184 + (S0 1031 9 - x2).toNat) = R) (k2 : ∀ (x1 : Int) (S : zz_S), zz_G S → zz_fr [] [1036] (fun _ _ => False) S0 S → (0 ≤ x1 ∧ x1 ≤ 63) → (34359738368 + (S0 1031 8 - x1).toNat) * 1099511627776 + 1099511627775 < R → zz_E g l zy_narrow_6_17 zr_narrow_6_17 (zz_QV n (zp_narrow_6_17  S0)) S n 2 [some (.ref 1031), some (zi x1)] [] 0 0) (k12 : ∀ (x1 : Int) (x2 : Int) (S : zz_S), zz_G S → zz_fr [] [1036] (fun _ _ => False) S0 S → (0 ≤ x1 ∧ x1 ≤ 62) → (0 ≤ x2 ∧ x2 ≤ 31) → (0 ≤ x1 ∧ x1 ≤ 63) → (x1 < S0 1031 8) → (34359738368 + (S0 1031 8 - x1).toNat) * 1099511627776 + (17179869184 + (S0 1031 9 - x2).toNat) < R → zz_E g l zy_narrow_6_17 zr_narrow_6_17 (zz_QV n (zp_narrow_6_17  S0)) S n 12 [some (.ref 1031), some (zi x1), some (zi x2)] [] 0 0) : zz_E g l zy_narrow_6_17 zr_narrow_6_17 (zz_QV n (zp_narrow_6_17  S0)) S n 12 [some (.ref 1031), some (zi x1), some (zi x2)] [] 0 0 := by
  have l0 := hl
  unfold zz_lc at l0
  have lk := l0.2.2.2.2.2.2.2.2.1 rfl
  have l2 := l0.2.1 (by decide)
  clear l0
  have gS := zz_G.r G_S0 1031 6 2 8 rfl rfl
  have gT := zz_G.r G_S0 1031 12 0 1023 rfl rfl
  have m1 : x1 * S0 1031 6 ≤ (S0 1031 8 - 1) * S0 1031 6 := Int.mul_le_mul_of_nonneg_right (by omega) (by omega)
  have m2 : x1 * S0 1031 12 ≤ (S0 1031 8 - 1) * S0 1031 12 := Int.mul_le_mul_of_nonneg_right (by omega) (by omega)
  refine zz_iload_n (x := x2) rfl zd_6_17_12 ?_
  refine zz_aload_n (x := 1031) rfl zd_6_17_13 ?_
  have g5 := zz_G.r G_S0 1031 9 0 31 rfl rfl
  refine zz_geti (z := S0 1031 9) zd_6_17_14 zf_Machine_116 zT_1031 rfl (zz_ltn hn rfl) (zz_rc F_S rfl rfl (fun h => h) rfl) ?_
  refine zz_icmp_ge (by omega) (by omega) zd_6_17_17 (fun c6 => ?_) (fun c6 => ?_)
  · refine zz_iinc [some (.ref 1031), some (zi (x1 + 1)), some (zi x2)] zd_6_17_69 rfl rfl ?_
    refine zz_goto zd_6_17_72 ?_
    have g7 := zz_G.r G_S0 1031 8 0 63 rfl rfl
    refine zz_less (ls1 := [some (.ref 1031), some (zi (x1 + 1))]) ⟨rfl, ⟨rfl, trivial⟩⟩ ?_
    exact k2 (x1 + 1) S G_S F_S (by omega) (by omega)
  · refine zz_aload_n (x := 1031) rfl zd_6_17_20 ?_
    refine zz_getr (kd := 0) (z := 1036) zd_6_17_21 zf_Machine_28 zT_1031 rfl (zz_ltn hn rfl) (zz_G.eq G_S 1031 4 1036 rfl rfl) (by decide) 1036 rfl ?_
    refine zz_aload_n (x := 1031) rfl zd_6_17_24 ?_
    have g8 := zz_G.r G_S0 1031 11 0 511 rfl rfl
    refine zz_geti (z := S0 1031 11) zd_6_17_25 zf_Machine_122 zT_1031 rfl (zz_ltn hn rfl) (zz_rc F_S rfl rfl (fun h => h) rfl) ?_
    refine zz_iload_n (x := x1) rfl zd_6_17_28 ?_
    refine zz_aload_n (x := 1031) rfl zd_6_17_29 ?_
    have g9 := zz_G.r G_S0 1031 6 2 8 rfl rfl
    refine zz_geti (z := S0 1031 6) zd_6_17_30 zf_Machine_36 zT_1031 rfl (zz_ltn hn rfl) (zz_rc F_S rfl rfl (fun h => h) rfl) ?_
    refine zz_imul zd_6_17_33 ?_
    have m10 := zz_mulb (a := x1) (b := S0 1031 6) 62 8 496 (by omega) (by omega) (by decide)
    refine zz_iadd zd_6_17_34 ?_
    refine zz_iload_n (x := x2) rfl zd_6_17_35 ?_
    refine zz_iadd zd_6_17_36 ?_
    refine zz_aload_n (x := 1031) rfl zd_6_17_37 ?_
    refine zz_getr (kd := 0) (z := 1035) zd_6_17_38 zf_Machine_25 zT_1031 rfl (zz_ltn hn rfl) (zz_G.eq G_S 1031 3 1035 rfl rfl) (by decide) 1035 rfl ?_
    refine zz_aload_n (x := 1031) rfl zd_6_17_41 ?_
    have g11 := zz_G.r G_S0 1031 10 0 511 rfl rfl
    refine zz_geti (z := S0 1031 10) zd_6_17_42 zf_Machine_119 zT_1031 rfl (zz_ltn hn rfl) (zz_rc F_S rfl rfl (fun h => h) rfl) ?_
    refine zz_iload_n (x := x1) rfl zd_6_17_45 ?_
    refine zz_aload_n (x := 1031) rfl zd_6_17_46 ?_
    refine zz_geti (z := S0 1031 6) zd_6_17_47 zf_Machine_36 zT_1031 rfl (zz_ltn hn rfl) (zz_rc F_S rfl rfl (fun h => h) rfl) ?_
    refine zz_imul zd_6_17_50 ?_
    have m12 := zz_mulb (a := x1) (b := S0 1031 6) 62 8 496 (by omega) (by omega) (by decide)
    refine zz_iadd zd_6_17_51 ?_
    refine zz_iload_n (x := x2) rfl zd_6_17_52 ?_
    refine zz_iadd zd_6_17_53 ?_
    have g13 := zz_G.r G_S0 1035 ((((S0 1031 10) + (x1 * (S0 1031 6))) + x2).toNat) (-2147483648) 2147483647 rfl rfl
    refine zz_iald (z := S0 1035 ((((S0 1031 10) + (x1 * (S0 1031 6))) + x2).toNat)) zd_6_17_54 zT_1035 rfl (zz_ltn hn rfl) (by decide) (by omega) (zz_rc F_S (zz_nc1 rfl) rfl (fun h => h) rfl) ?_
    refine zz_aload_n (x := 1031) rfl zd_6_17_55 ?_
    have g14 := zz_G.r G_S0 1031 13 0 31 rfl rfl
    refine zz_geti (z := S0 1031 13) zd_6_17_56 zf_Machine_128 zT_1031 rfl (zz_ltn hn rfl) (zz_rc F_S rfl rfl (fun h => h) rfl) ?_
    refine zz_callSI [zi (S0 1035 ((((S0 1031 10) + (x1 * (S0 1031 6))) + x2).toNat)), zi (S0 1031 13)] zd_6_17_59 zk_Machine_141 rfl rfl ⟨Nat.le_of_ble_eq_true rfl, Nat.le_of_ble_eq_true rfl⟩ ⟨rfl, rfl⟩ (Nat.zero_le _) (Nat.zero_le _) (zc_narrowed_6_19 (S0 1035 ((((S0 1031 10) + (x1 * (S0 1031 6))) + x2).toNat)) (S0 1031 13) S n hn G_S (by omega) (by omega)) (fun v16 S15 hP => ?_)
    obtain ⟨rfl, o17⟩ := hP
    refine zz_bast zd_6_17_62 zT_1036 rfl (zz_ltn hn rfl) (by decide) (by omega) (by omega) (fun S18 qS18 => ?_)
    have G_S18 := zz_G.put G_S qS18 (-128) 127 rfl (by omega)
    have F_S18 := zz_fr.putc F_S qS18 rfl
    refine zz_iinc [some (.ref 1031), some (zi x1), some (zi (x2 + 1))] zd_6_17_63 rfl rfl ?_
    refine zz_goto zd_6_17_66 ?_
    have g19 := zz_G.r G_S0 1031 8 0 63 rfl rfl
    refine zz_less (ls1 := [some (.ref 1031), some (zi x1), some (zi (x2 + 1))]) ⟨rfl, ⟨rfl, ⟨rfl, trivial⟩⟩⟩ ?_
    exact k12 x1 (x2 + 1) S18 G_S18 F_S18 (by omega) (by omega) (by omega) (by omega) (by omega)
theorem zi_narrow_6_17 {g : mm_G} {l : Launch}  (S0 : zz_S) (n : Nat) (hn : zz_end ≤ n) (G_S0 : zz_G S0) (hl : zz_lc 7 (S0 1031 7) (S0 1031 8) (S0 1031 9) (S0 1031 10) (S0 1031 11) (S0 1031 12) (S0 1031 13) (S0 1031 6)) : ∀ N : Nat, (∀ (x1 : Int) (S : zz_S), zz_G S → zz_fr [] [1036] (fun _ _ => False) S0 S → (0 ≤ x1 ∧ x1 ≤ 63) → (34359738368 + (S0 1031 8 - x1).toNat) * 1099511627776 + 1099511627775 < N → zz_E g l zy_narrow_6_17 zr_narrow_6_17 (zz_QV n (zp_narrow_6_17  S0)) S n 2 [some (.ref 1031), some (zi x1)] [] 0 0) ∧ (∀ (x1 : Int) (x2 : Int) (S : zz_S), zz_G S → zz_fr [] [1036] (fun _ _ => False) S0 S → (0 ≤ x1 ∧ x1 ≤ 62) → (0 ≤ x2 ∧ x2 ≤ 31) → (0 ≤ x1 ∧ x1 ≤ 63) → (x1 < S0 1031 8) → (34359738368 + (S0 1031 8 - x1).toNat) * 1099511627776 + (17179869184 + (S0 1031 9 - x2).toNat) < N → zz_E g l zy_narrow_6_17 zr_narrow_6_17 (zz_QV n (zp_narrow_6_17  S0)) S n 12 [some (.ref 1031), some (zi x1), some (zi x2)] [] 0 0) := by
  intro N
  induction N with
  | zero => exact ⟨fun x1 S _ _ _ h => absurd h (Nat.not_lt_zero _), fun x1 x2 S _ _ _ _ _ _ h => absurd h (Nat.not_lt_zero _)⟩
  | succ N ih =>
    exact ⟨fun x1 S a b j0 hR => zb_narrow_6_17_2  S0 n hn G_S0 hl x1 S a b j0 _ rfl (fun x1 x2 S a b j0 j1 j2 j3 h => ih.2 x1 x2 S a b j0 j1 j2 j3 (Nat.lt_of_lt_of_le h (Nat.le_of_lt_succ hR))),
      fun x1 x2 S a b j0 j1 j2 j3 hR => zb_narrow_6_17_12  S0 n hn G_S0 hl x1 x2 S a b j0 j1 j2 j3 _ rfl (fun x1 S a b j0 h => ih.1 x1 S a b j0 (Nat.lt_of_lt_of_le h (Nat.le_of_lt_succ hR))) (fun x1 x2 S a b j0 j1 j2 j3 h => ih.2 x1 x2 S a b j0 j1 j2 j3 (Nat.lt_of_lt_of_le h (Nat.le_of_lt_succ hR)))⟩
theorem zc_narrow_6_17 {g : mm_G} {l : Launch}  (S0 : zz_S) (n : Nat) (hn : zz_end ≤ n) (G_S0 : zz_G S0) (hl : zz_lc 7 (S0 1031 7) (S0 1031 8) (S0 1031 9) (S0 1031 10) (S0 1031 11) (S0 1031 12) (S0 1031 13) (S0 1031 6)) : mm_Met g l zy_narrow_6_17 zr_narrow_6_17 [.ref 1031] (zz_M S0 n) n (zz_QV n (zp_narrow_6_17  S0)) := by
  refine zz_enter (by decide) (Nat.le_of_ble_eq_true rfl) (zz_less (ls1 := [some (.ref 1031)]) ⟨rfl, trivial⟩ ?_)
  have F_S0 : zz_fr [] [1036] (fun _ _ => False) S0 S0 := zz_fr.refl
  have k2 : ∀ (x1 : Int) (S : zz_S), zz_G S → zz_fr [] [1036] (fun _ _ => False) S0 S → (0 ≤ x1 ∧ x1 ≤ 63) → zz_E g l zy_narrow_6_17 zr_narrow_6_17 (zz_QV n (zp_narrow_6_17  S0)) S n 2 [some (.ref 1031), some (zi x1)] [] 0 0 := fun x1 S a b j0 => (zi_narrow_6_17 (g := g) (l := l)  S0 n hn G_S0 hl _).1 x1 S a b j0 (Nat.lt_succ_self _)
  refine zz_iconst zd_6_17_0 ?_
  refine zz_istore_n [some (.ref 1031), some (zi 0)] zd_6_17_1 (by decide) rfl ?_
  have g1 := zz_G.r G_S0 1031 8 0 63 rfl rfl
  refine zz_less (ls1 := [some (.ref 1031), some (zi 0)]) ⟨rfl, ⟨rfl, trivial⟩⟩ ?_
  exact k2 0 S0 G_S0 F_S0 (by omega)
theorem zk_Machine_104 : mm_Vl "TensorForge$Machine" 104 3 0 zy_narrow_6_17 := ⟨zyw_narrow_6_17, (R_Machine, F_Machine, 14), rfl, mm_tb_1 822 (by decide +kernel) rfl, mm_tb_1 824 (by decide +kernel) rfl, mm_tb_s 33 (by decide +kernel) rfl⟩
abbrev zy_store_6_18 : mm_Y := (⟨"TensorForge$Machine", "store", "()V"⟩, prog_6_method_18_code, 3, none)
theorem zyw_store_6_18 : mm_Yw zy_store_6_18 0 := ⟨mm_tb_1 840 (by decide +kernel) rfl, mm_tb_1 4 (by decide +kernel) rfl, ⟨by decide, by decide⟩, by decide +kernel⟩
theorem zg_6_10_110 : zq_at zy_perform_6_10.2.1 110 167 ∧ zq_at zy_perform_6_10.2.1 111 0 ∧ zq_at zy_perform_6_10.2.1 112 10 ∧ zq_at zy_perform_6_10.2.1 113 42 ∧ zq_at zy_perform_6_10.2.1 114 182 ∧ zq_at zy_perform_6_10.2.1 115 0 ∧ zq_at zy_perform_6_10.2.1 116 107 := by decide +kernel
theorem zd_6_10_110 : zz_B zy_perform_6_10 110 Instr.goto 120 113 := ⟨10, zq_167 zg_6_10_110.1 zg_6_10_110.2.1 zg_6_10_110.2.2.1 (by decide), rfl, rfl⟩
theorem zd_6_10_113 : zz_D zy_perform_6_10 113 (.aload_n 0) 1 114 := ⟨zq_42 zg_6_10_110.2.2.2.1, rfl⟩
theorem zd_6_10_114 : zz_D zy_perform_6_10 114 (.invokevirtual 107) 3 117 := ⟨zq_182 zg_6_10_110.2.2.2.2.1 zg_6_10_110.2.2.2.2.2.1 zg_6_10_110.2.2.2.2.2.2 rfl, rfl⟩
theorem zg_6_18_0 : zq_at zy_store_6_18.2.1 0 3 ∧ zq_at zy_store_6_18.2.1 1 60 ∧ zq_at zy_store_6_18.2.1 2 27 ∧ zq_at zy_store_6_18.2.1 3 42 ∧ zq_at zy_store_6_18.2.1 4 180 ∧ zq_at zy_store_6_18.2.1 5 0 ∧ zq_at zy_store_6_18.2.1 6 113 ∧ zq_at zy_store_6_18.2.1 7 162 ∧ zq_at zy_store_6_18.2.1 8 0 ∧ zq_at zy_store_6_18.2.1 9 61 ∧ zq_at zy_store_6_18.2.1 68 177 ∧ zq_at zy_store_6_18.2.1 10 3 ∧ zq_at zy_store_6_18.2.1 11 61 ∧ zq_at zy_store_6_18.2.1 12 28 ∧ zq_at zy_store_6_18.2.1 13 42 ∧ zq_at zy_store_6_18.2.1 14 180 ∧ zq_at zy_store_6_18.2.1 15 0 ∧ zq_at zy_store_6_18.2.1 16 116 ∧ zq_at zy_store_6_18.2.1 17 162 ∧ zq_at zy_store_6_18.2.1 18 0 ∧ zq_at zy_store_6_18.2.1 19 45 ∧ zq_at zy_store_6_18.2.1 62 132 ∧ zq_at zy_store_6_18.2.1 63 1 ∧ zq_at zy_store_6_18.2.1 64 1 := by decide +kernel
theorem zd_6_18_0 : zz_D zy_store_6_18 0 (.iconst 0) 1 1 := ⟨zq_3 zg_6_18_0.1, rfl⟩
theorem zd_6_18_1 : zz_D zy_store_6_18 1 (.istore_n 1) 1 2 := ⟨zq_60 zg_6_18_0.2.1, rfl⟩
theorem zd_6_18_2 : zz_D zy_store_6_18 2 (.iload_n 1) 1 3 := ⟨zq_27 zg_6_18_0.2.2.1, rfl⟩
theorem zd_6_18_3 : zz_D zy_store_6_18 3 (.aload_n 0) 1 4 := ⟨zq_42 zg_6_18_0.2.2.2.1, rfl⟩
theorem zd_6_18_4 : zz_D zy_store_6_18 4 (.getfield 113) 3 7 := ⟨zq_180 zg_6_18_0.2.2.2.2.1 zg_6_18_0.2.2.2.2.2.1 zg_6_18_0.2.2.2.2.2.2.1 rfl, rfl⟩
theorem zd_6_18_7 : zz_B zy_store_6_18 7 (Instr.if_icmp .ge) 68 10 := ⟨61, zq_162 zg_6_18_0.2.2.2.2.2.2.2.1 zg_6_18_0.2.2.2.2.2.2.2.2.1 zg_6_18_0.2.2.2.2.2.2.2.2.2.1 (by decide), rfl, rfl⟩
theorem zd_6_18_68 : zz_D zy_store_6_18 68 (.return_) 1 69 := ⟨zq_177 zg_6_18_0.2.2.2.2.2.2.2.2.2.2.1, rfl⟩
theorem zd_6_18_10 : zz_D zy_store_6_18 10 (.iconst 0) 1 11 := ⟨zq_3 zg_6_18_0.2.2.2.2.2.2.2.2.2.2.2.1, rfl⟩
theorem zd_6_18_11 : zz_D zy_store_6_18 11 (.istore_n 2) 1 12 := ⟨zq_61 zg_6_18_0.2.2.2.2.2.2.2.2.2.2.2.2.1, rfl⟩
theorem zd_6_18_12 : zz_D zy_store_6_18 12 (.iload_n 2) 1 13 := ⟨zq_28 zg_6_18_0.2.2.2.2.2.2.2.2.2.2.2.2.2.1, rfl⟩
theorem zd_6_18_13 : zz_D zy_store_6_18 13 (.aload_n 0) 1 14 := ⟨zq_42 zg_6_18_0.2.2.2.2.2.2.2.2.2.2.2.2.2.2.1, rfl⟩
theorem zd_6_18_14 : zz_D zy_store_6_18 14 (.getfield 116) 3 17 := ⟨zq_180 zg_6_18_0.2.2.2.2.2.2.2.2.2.2.2.2.2.2.2.1 zg_6_18_0.2.2.2.2.2.2.2.2.2.2.2.2.2.2.2.2.1 zg_6_18_0.2.2.2.2.2.2.2.2.2.2.2.2.2.2.2.2.2.1 rfl, rfl⟩
theorem zd_6_18_17 : zz_B zy_store_6_18 17 (Instr.if_icmp .ge) 62 20 := ⟨45, zq_162 zg_6_18_0.2.2.2.2.2.2.2.2.2.2.2.2.2.2.2.2.2.2.1 zg_6_18_0.2.2.2.2.2.2.2.2.2.2.2.2.2.2.2.2.2.2.2.1 zg_6_18_0.2.2.2.2.2.2.2.2.2.2.2.2.2.2.2.2.2.2.2.2.1 (by decide), rfl, rfl⟩
theorem zd_6_18_62 : zz_D zy_store_6_18 62 (.iinc 1 1) 3 65 := ⟨zq_132 zg_6_18_0.2.2.2.2.2.2.2.2.2.2.2.2.2.2.2.2.2.2.2.2.2.1 zg_6_18_0.2.2.2.2.2.2.2.2.2.2.2.2.2.2.2.2.2.2.2.2.2.2.1 zg_6_18_0.2.2.2.2.2.2.2.2.2.2.2.2.2.2.2.2.2.2.2.2.2.2.2 (by decide), rfl⟩
theorem zg_6_18_65 : zq_at zy_store_6_18.2.1 65 167 ∧ zq_at zy_store_6_18.2.1 66 255 ∧ zq_at zy_store_6_18.2.1 67 193 ∧ zq_at zy_store_6_18.2.1 20 42 ∧ zq_at zy_store_6_18.2.1 21 180 ∧ zq_at zy_store_6_18.2.1 22 0 ∧ zq_at zy_store_6_18.2.1 23 13 ∧ zq_at zy_store_6_18.2.1 24 42 ∧ zq_at zy_store_6_18.2.1 25 180 ∧ zq_at zy_store_6_18.2.1 26 0 ∧ zq_at zy_store_6_18.2.1 27 110 ∧ zq_at zy_store_6_18.2.1 28 27 ∧ zq_at zy_store_6_18.2.1 29 42 ∧ zq_at zy_store_6_18.2.1 30 180 ∧ zq_at zy_store_6_18.2.1 31 0 ∧ zq_at zy_store_6_18.2.1 32 125 ∧ zq_at zy_store_6_18.2.1 33 104 ∧ zq_at zy_store_6_18.2.1 34 96 ∧ zq_at zy_store_6_18.2.1 35 28 ∧ zq_at zy_store_6_18.2.1 36 96 ∧ zq_at zy_store_6_18.2.1 37 42 ∧ zq_at zy_store_6_18.2.1 38 180 ∧ zq_at zy_store_6_18.2.1 39 0 ∧ zq_at zy_store_6_18.2.1 40 28 := by decide +kernel
theorem zd_6_18_65 : zz_B zy_store_6_18 65 Instr.goto 2 68 := ⟨(-63), zq_167 zg_6_18_65.1 zg_6_18_65.2.1 zg_6_18_65.2.2.1 (by decide), rfl, rfl⟩
theorem zd_6_18_20 : zz_D zy_store_6_18 20 (.aload_n 0) 1 21 := ⟨zq_42 zg_6_18_65.2.2.2.1, rfl⟩
theorem zd_6_18_21 : zz_D zy_store_6_18 21 (.getfield 13) 3 24 := ⟨zq_180 zg_6_18_65.2.2.2.2.1 zg_6_18_65.2.2.2.2.2.1 zg_6_18_65.2.2.2.2.2.2.1 rfl, rfl⟩
theorem zd_6_18_24 : zz_D zy_store_6_18 24 (.aload_n 0) 1 25 := ⟨zq_42 zg_6_18_65.2.2.2.2.2.2.2.1, rfl⟩
theorem zd_6_18_25 : zz_D zy_store_6_18 25 (.getfield 110) 3 28 := ⟨zq_180 zg_6_18_65.2.2.2.2.2.2.2.2.1 zg_6_18_65.2.2.2.2.2.2.2.2.2.1 zg_6_18_65.2.2.2.2.2.2.2.2.2.2.1 rfl, rfl⟩
theorem zd_6_18_28 : zz_D zy_store_6_18 28 (.iload_n 1) 1 29 := ⟨zq_27 zg_6_18_65.2.2.2.2.2.2.2.2.2.2.2.1, rfl⟩
theorem zd_6_18_29 : zz_D zy_store_6_18 29 (.aload_n 0) 1 30 := ⟨zq_42 zg_6_18_65.2.2.2.2.2.2.2.2.2.2.2.2.1, rfl⟩
theorem zd_6_18_30 : zz_D zy_store_6_18 30 (.getfield 125) 3 33 := ⟨zq_180 zg_6_18_65.2.2.2.2.2.2.2.2.2.2.2.2.2.1 zg_6_18_65.2.2.2.2.2.2.2.2.2.2.2.2.2.2.1 zg_6_18_65.2.2.2.2.2.2.2.2.2.2.2.2.2.2.2.1 rfl, rfl⟩
theorem zd_6_18_33 : zz_D zy_store_6_18 33 (.imul) 1 34 := ⟨zq_104 zg_6_18_65.2.2.2.2.2.2.2.2.2.2.2.2.2.2.2.2.1, rfl⟩
theorem zd_6_18_34 : zz_D zy_store_6_18 34 (.iadd) 1 35 := ⟨zq_96 zg_6_18_65.2.2.2.2.2.2.2.2.2.2.2.2.2.2.2.2.2.1, rfl⟩
theorem zd_6_18_35 : zz_D zy_store_6_18 35 (.iload_n 2) 1 36 := ⟨zq_28 zg_6_18_65.2.2.2.2.2.2.2.2.2.2.2.2.2.2.2.2.2.2.1, rfl⟩
theorem zd_6_18_36 : zz_D zy_store_6_18 36 (.iadd) 1 37 := ⟨zq_96 zg_6_18_65.2.2.2.2.2.2.2.2.2.2.2.2.2.2.2.2.2.2.2.1, rfl⟩
theorem zd_6_18_37 : zz_D zy_store_6_18 37 (.aload_n 0) 1 38 := ⟨zq_42 zg_6_18_65.2.2.2.2.2.2.2.2.2.2.2.2.2.2.2.2.2.2.2.2.1, rfl⟩
theorem zd_6_18_38 : zz_D zy_store_6_18 38 (.getfield 28) 3 41 := ⟨zq_180 zg_6_18_65.2.2.2.2.2.2.2.2.2.2.2.2.2.2.2.2.2.2.2.2.2.1 zg_6_18_65.2.2.2.2.2.2.2.2.2.2.2.2.2.2.2.2.2.2.2.2.2.2.1 zg_6_18_65.2.2.2.2.2.2.2.2.2.2.2.2.2.2.2.2.2.2.2.2.2.2.2 rfl, rfl⟩
theorem zg_6_18_41 : zq_at zy_store_6_18.2.1 41 42 ∧ zq_at zy_store_6_18.2.1 42 180 ∧ zq_at zy_store_6_18.2.1 43 0 ∧ zq_at zy_store_6_18.2.1 44 119 ∧ zq_at zy_store_6_18.2.1 45 27 ∧ zq_at zy_store_6_18.2.1 46 42 ∧ zq_at zy_store_6_18.2.1 47 180 ∧ zq_at zy_store_6_18.2.1 48 0 ∧ zq_at zy_store_6_18.2.1 49 36 ∧ zq_at zy_store_6_18.2.1 50 104 ∧ zq_at zy_store_6_18.2.1 51 96 ∧ zq_at zy_store_6_18.2.1 52 28 ∧ zq_at zy_store_6_18.2.1 53 96 ∧ zq_at zy_store_6_18.2.1 54 51 ∧ zq_at zy_store_6_18.2.1 55 84 ∧ zq_at zy_store_6_18.2.1 56 132 ∧ zq_at zy_store_6_18.2.1 57 2 ∧ zq_at zy_store_6_18.2.1 58 1 ∧ zq_at zy_store_6_18.2.1 59 167 ∧ zq_at zy_store_6_18.2.1 60 255 ∧ zq_at zy_store_6_18.2.1 61 209 := by decide +kernel
theorem zd_6_18_41 : zz_D zy_store_6_18 41 (.aload_n 0) 1 42 := ⟨zq_42 zg_6_18_41.1, rfl⟩
theorem zd_6_18_42 : zz_D zy_store_6_18 42 (.getfield 119) 3 45 := ⟨zq_180 zg_6_18_41.2.1 zg_6_18_41.2.2.1 zg_6_18_41.2.2.2.1 rfl, rfl⟩
theorem zd_6_18_45 : zz_D zy_store_6_18 45 (.iload_n 1) 1 46 := ⟨zq_27 zg_6_18_41.2.2.2.2.1, rfl⟩
theorem zd_6_18_46 : zz_D zy_store_6_18 46 (.aload_n 0) 1 47 := ⟨zq_42 zg_6_18_41.2.2.2.2.2.1, rfl⟩
theorem zd_6_18_47 : zz_D zy_store_6_18 47 (.getfield 36) 3 50 := ⟨zq_180 zg_6_18_41.2.2.2.2.2.2.1 zg_6_18_41.2.2.2.2.2.2.2.1 zg_6_18_41.2.2.2.2.2.2.2.2.1 rfl, rfl⟩
theorem zd_6_18_50 : zz_D zy_store_6_18 50 (.imul) 1 51 := ⟨zq_104 zg_6_18_41.2.2.2.2.2.2.2.2.2.1, rfl⟩
theorem zd_6_18_51 : zz_D zy_store_6_18 51 (.iadd) 1 52 := ⟨zq_96 zg_6_18_41.2.2.2.2.2.2.2.2.2.2.1, rfl⟩
theorem zd_6_18_52 : zz_D zy_store_6_18 52 (.iload_n 2) 1 53 := ⟨zq_28 zg_6_18_41.2.2.2.2.2.2.2.2.2.2.2.1, rfl⟩
theorem zd_6_18_53 : zz_D zy_store_6_18 53 (.iadd) 1 54 := ⟨zq_96 zg_6_18_41.2.2.2.2.2.2.2.2.2.2.2.2.1, rfl⟩
theorem zd_6_18_54 : zz_D zy_store_6_18 54 (.baload) 1 55 := ⟨zq_51 zg_6_18_41.2.2.2.2.2.2.2.2.2.2.2.2.2.1, rfl⟩
theorem zd_6_18_55 : zz_D zy_store_6_18 55 (.bastore) 1 56 := ⟨zq_84 zg_6_18_41.2.2.2.2.2.2.2.2.2.2.2.2.2.2.1, rfl⟩
theorem zd_6_18_56 : zz_D zy_store_6_18 56 (.iinc 2 1) 3 59 := ⟨zq_132 zg_6_18_41.2.2.2.2.2.2.2.2.2.2.2.2.2.2.2.1 zg_6_18_41.2.2.2.2.2.2.2.2.2.2.2.2.2.2.2.2.1 zg_6_18_41.2.2.2.2.2.2.2.2.2.2.2.2.2.2.2.2.2.1 (by decide), rfl⟩
theorem zd_6_18_59 : zz_B zy_store_6_18 59 Instr.goto 12 62 := ⟨(-47), zq_167 zg_6_18_41.2.2.2.2.2.2.2.2.2.2.2.2.2.2.2.2.2.2.1 zg_6_18_41.2.2.2.2.2.2.2.2.2.2.2.2.2.2.2.2.2.2.2.1 zg_6_18_41.2.2.2.2.2.2.2.2.2.2.2.2.2.2.2.2.2.2.2.2 (by decide), rfl, rfl⟩
-- TensorForge$Machine store ()V
abbrev zr_store_6_18 : Room := { frames := 0, cells := 0, slots := 0, locals := 0 }
def zp_store_6_18  (S0 : zz_S) : zz_S → Prop := fun S => zz_G S ∧ zz_fr [] [1032] (fun _ _ => False) S0 S
theorem zb_store_6_18_2 {g : mm_G} {l : Launch}  (S0 : zz_S) (n : Nat) (hn : zz_end ≤ n) (G_S0 : zz_G S0) (hl : zz_lc 8 (S0 1031 7) (S0 1031 8) (S0 1031 9) (S0 1031 10) (S0 1031 11) (S0 1031 12) (S0 1031 13) (S0 1031 6)) (x1 : Int) (S : zz_S) (G_S : zz_G S) (F_S : zz_fr [] [1032] (fun _ _ => False) S0 S) (i2_0 : 0 ≤ x1 ∧ x1 ≤ 63) (R : Nat) (hR : (34359738368 + (S0 1031 8 - x1).toNat) * 1099511627776 + 1099511627775 = R) (k12 : ∀ (x1 : Int) (x2 : Int) (S : zz_S), zz_G S → zz_fr [] [1032] (fun _ _ => False) S0 S → (0 ≤ x1 ∧ x1 ≤ 62) → (0 ≤ x2 ∧ x2 ≤ 31) → (0 ≤ x1 ∧ x1 ≤ 63) → (x1 < S0 1031 8) → (34359738368 + (S0 1031 8 - x1).toNat) * 1099511627776 + (17179869184 + (S0 1031 9 - x2).toNat) < R → zz_E g l zy_store_6_18 zr_store_6_18 (zz_QV n (zp_store_6_18  S0)) S n 12 [some (.ref 1031), some (zi x1), some (zi x2)] [] 0 0) : zz_E g l zy_store_6_18 zr_store_6_18 (zz_QV n (zp_store_6_18  S0)) S n 2 [some (.ref 1031), some (zi x1)] [] 0 0 := by
  refine zz_iload_n (x := x1) rfl zd_6_18_2 ?_
  refine zz_aload_n (x := 1031) rfl zd_6_18_3 ?_
  have g2 := zz_G.r G_S0 1031 8 0 63 rfl rfl
  refine zz_geti (z := S0 1031 8) zd_6_18_4 zf_Machine_113 zT_1031 rfl (zz_ltn hn rfl) (zz_rc F_S rfl rfl (fun h => h) rfl) ?_
  refine zz_icmp_ge (by omega) (by omega) zd_6_18_7 (fun c3 => ?_) (fun c3 => ?_)
  · exact zz_vret zd_6_18_68 rfl (Nat.zero_le _) (Nat.zero_le _) ⟨_, rfl, G_S, F_S⟩
  · refine zz_iconst zd_6_18_10 ?_
    refine zz_istore_n [some (.ref 1031), some (zi x1), some (zi 0)] zd_6_18_11 (by decide) rfl ?_
    have g4 := zz_G.r G_S0 1031 9 0 31 rfl rfl
    refine zz_less (ls1 := [some (.ref 1031), some (zi x1), some (zi 0)]) ⟨rfl, ⟨rfl, ⟨rfl, trivial⟩⟩⟩ ?_
    exact k12 x1 0 S G_S F_S (by omega) (by omega) (by omega) (by omega) (by omega)
theorem zb_store_6_18_12 {g : mm_G} {l : Launch}  (S0 : zz_S) (n : Nat) (hn : zz_end ≤ n) (G_S0 : zz_G S0) (hl : zz_lc 8 (S0 1031 7) (S0 1031 8) (S0 1031 9) (S0 1031 10) (S0 1031 11) (S0 1031 12) (S0 1031 13) (S0 1031 6)) (x1 : Int) (x2 : Int) (S : zz_S) (G_S : zz_G S) (F_S : zz_fr [] [1032] (fun _ _ => False) S0 S) (i12_0 : 0 ≤ x1 ∧ x1 ≤ 62) (i12_1 : 0 ≤ x2 ∧ x2 ≤ 31) (i12_2 : 0 ≤ x1 ∧ x1 ≤ 63) (i12_3 : x1 < S0 1031 8) (R : Nat) (hR : (34359738368 + (S0 1031 8 - x1).toNat) * 1099511627776 + (17179869184 + (S0 1031 9 - x2).toNat) = R) (k2 : ∀ (x1 : Int) (S : zz_S), zz_G S → zz_fr [] [1032] (fun _ _ => False) S0 S → (0 ≤ x1 ∧ x1 ≤ 63) → (34359738368 + (S0 1031 8 - x1).toNat) * 1099511627776 + 1099511627775 < R → zz_E g l zy_store_6_18 zr_store_6_18 (zz_QV n (zp_store_6_18  S0)) S n 2 [some (.ref 1031), some (zi x1)] [] 0 0) (k12 : ∀ (x1 : Int) (x2 : Int) (S : zz_S), zz_G S → zz_fr [] [1032] (fun _ _ => False) S0 S → (0 ≤ x1 ∧ x1 ≤ 62) → (0 ≤ x2 ∧ x2 ≤ 31) → (0 ≤ x1 ∧ x1 ≤ 63) → (x1 < S0 1031 8) → (34359738368 + (S0 1031 8 - x1).toNat) * 1099511627776 + (17179869184 + (S0 1031 9 - x2).toNat) < R → zz_E g l zy_store_6_18 zr_store_6_18 (zz_QV n (zp_store_6_18  S0)) S n 12 [some (.ref 1031), some (zi x1), some (zi x2)] [] 0 0) : zz_E g l zy_store_6_18 zr_store_6_18 (zz_QV n (zp_store_6_18  S0)) S n 12 [some (.ref 1031), some (zi x1), some (zi x2)] [] 0 0 := by
  have l0 := hl
  unfold zz_lc at l0
  have lk := l0.2.2.2.2.2.2.2.2.2 rfl
  have l2 := l0.2.1 (by decide)
  clear l0
  have gS := zz_G.r G_S0 1031 6 2 8 rfl rfl
  have gT := zz_G.r G_S0 1031 12 0 1023 rfl rfl
  have m1 : x1 * S0 1031 6 ≤ (S0 1031 8 - 1) * S0 1031 6 := Int.mul_le_mul_of_nonneg_right (by omega) (by omega)
  have m2 : x1 * S0 1031 12 ≤ (S0 1031 8 - 1) * S0 1031 12 := Int.mul_le_mul_of_nonneg_right (by omega) (by omega)
  refine zz_iload_n (x := x2) rfl zd_6_18_12 ?_
  refine zz_aload_n (x := 1031) rfl zd_6_18_13 ?_
  have g5 := zz_G.r G_S0 1031 9 0 31 rfl rfl
  refine zz_geti (z := S0 1031 9) zd_6_18_14 zf_Machine_116 zT_1031 rfl (zz_ltn hn rfl) (zz_rc F_S rfl rfl (fun h => h) rfl) ?_
  refine zz_icmp_ge (by omega) (by omega) zd_6_18_17 (fun c6 => ?_) (fun c6 => ?_)
  · refine zz_iinc [some (.ref 1031), some (zi (x1 + 1)), some (zi x2)] zd_6_18_62 rfl rfl ?_
    refine zz_goto zd_6_18_65 ?_
    have g7 := zz_G.r G_S0 1031 8 0 63 rfl rfl
    refine zz_less (ls1 := [some (.ref 1031), some (zi (x1 + 1))]) ⟨rfl, ⟨rfl, trivial⟩⟩ ?_
    exact k2 (x1 + 1) S G_S F_S (by omega) (by omega)
  · refine zz_aload_n (x := 1031) rfl zd_6_18_20 ?_
    refine zz_getr (kd := 0) (z := 1032) zd_6_18_21 zf_Machine_13 zT_1031 rfl (zz_ltn hn rfl) (zz_G.eq G_S 1031 0 1032 rfl rfl) (by decide) 1032 rfl ?_
    refine zz_aload_n (x := 1031) rfl zd_6_18_24 ?_
    have g8 := zz_G.r G_S0 1031 7 0 4095 rfl rfl
    refine zz_geti (z := S0 1031 7) zd_6_18_25 zf_Machine_110 zT_1031 rfl (zz_ltn hn rfl) (zz_rc F_S rfl rfl (fun h => h) rfl) ?_
    refine zz_iload_n (x := x1) rfl zd_6_18_28 ?_
    refine zz_aload_n (x := 1031) rfl zd_6_18_29 ?_
    have g9 := zz_G.r G_S0 1031 12 0 1023 rfl rfl
    refine zz_geti (z := S0 1031 12) zd_6_18_30 zf_Machine_125 zT_1031 rfl (zz_ltn hn rfl) (zz_rc F_S rfl rfl (fun h => h) rfl) ?_
    refine zz_imul zd_6_18_33 ?_
    have m10 := zz_mulb (a := x1) (b := S0 1031 12) 62 1023 63426 (by omega) (by omega) (by decide)
    refine zz_iadd zd_6_18_34 ?_
    refine zz_iload_n (x := x2) rfl zd_6_18_35 ?_
    refine zz_iadd zd_6_18_36 ?_
    refine zz_aload_n (x := 1031) rfl zd_6_18_37 ?_
    refine zz_getr (kd := 0) (z := 1036) zd_6_18_38 zf_Machine_28 zT_1031 rfl (zz_ltn hn rfl) (zz_G.eq G_S 1031 4 1036 rfl rfl) (by decide) 1036 rfl ?_
    refine zz_aload_n (x := 1031) rfl zd_6_18_41 ?_
    have g11 := zz_G.r G_S0 1031 10 0 511 rfl rfl
    refine zz_geti (z := S0 1031 10) zd_6_18_42 zf_Machine_119 zT_1031 rfl (zz_ltn hn rfl) (zz_rc F_S rfl rfl (fun h => h) rfl) ?_
    refine zz_iload_n (x := x1) rfl zd_6_18_45 ?_
    refine zz_aload_n (x := 1031) rfl zd_6_18_46 ?_
    have g12 := zz_G.r G_S0 1031 6 2 8 rfl rfl
    refine zz_geti (z := S0 1031 6) zd_6_18_47 zf_Machine_36 zT_1031 rfl (zz_ltn hn rfl) (zz_rc F_S rfl rfl (fun h => h) rfl) ?_
    refine zz_imul zd_6_18_50 ?_
    have m13 := zz_mulb (a := x1) (b := S0 1031 6) 62 8 496 (by omega) (by omega) (by decide)
    refine zz_iadd zd_6_18_51 ?_
    refine zz_iload_n (x := x2) rfl zd_6_18_52 ?_
    refine zz_iadd zd_6_18_53 ?_
    have g14 := zz_G.r G_S0 1036 ((((S0 1031 10) + (x1 * (S0 1031 6))) + x2).toNat) (-128) 127 rfl rfl
    refine zz_bald (z := S0 1036 ((((S0 1031 10) + (x1 * (S0 1031 6))) + x2).toNat)) zd_6_18_54 zT_1036 rfl (zz_ltn hn rfl) (by decide) (by omega) (zz_rc F_S (zz_nc1 rfl) rfl (fun h => h) rfl) ?_
    refine zz_bast zd_6_18_55 zT_1032 rfl (zz_ltn hn rfl) (by decide) (by omega) (by omega) (fun S15 qS15 => ?_)
    have G_S15 := zz_G.put G_S qS15 (-128) 127 rfl (by omega)
    have F_S15 := zz_fr.putc F_S qS15 rfl
    refine zz_iinc [some (.ref 1031), some (zi x1), some (zi (x2 + 1))] zd_6_18_56 rfl rfl ?_
    refine zz_goto zd_6_18_59 ?_
    have g16 := zz_G.r G_S0 1031 8 0 63 rfl rfl
    refine zz_less (ls1 := [some (.ref 1031), some (zi x1), some (zi (x2 + 1))]) ⟨rfl, ⟨rfl, ⟨rfl, trivial⟩⟩⟩ ?_
    exact k12 x1 (x2 + 1) S15 G_S15 F_S15 (by omega) (by omega) (by omega) (by omega) (by omega)
theorem zi_store_6_18 {g : mm_G} {l : Launch}  (S0 : zz_S) (n : Nat) (hn : zz_end ≤ n) (G_S0 : zz_G S0) (hl : zz_lc 8 (S0 1031 7) (S0 1031 8) (S0 1031 9) (S0 1031 10) (S0 1031 11) (S0 1031 12) (S0 1031 13) (S0 1031 6)) : ∀ N : Nat, (∀ (x1 : Int) (S : zz_S), zz_G S → zz_fr [] [1032] (fun _ _ => False) S0 S → (0 ≤ x1 ∧ x1 ≤ 63) → (34359738368 + (S0 1031 8 - x1).toNat) * 1099511627776 + 1099511627775 < N → zz_E g l zy_store_6_18 zr_store_6_18 (zz_QV n (zp_store_6_18  S0)) S n 2 [some (.ref 1031), some (zi x1)] [] 0 0) ∧ (∀ (x1 : Int) (x2 : Int) (S : zz_S), zz_G S → zz_fr [] [1032] (fun _ _ => False) S0 S → (0 ≤ x1 ∧ x1 ≤ 62) → (0 ≤ x2 ∧ x2 ≤ 31) → (0 ≤ x1 ∧ x1 ≤ 63) → (x1 < S0 1031 8) → (34359738368 + (S0 1031 8 - x1).toNat) * 1099511627776 + (17179869184 + (S0 1031 9 - x2).toNat) < N → zz_E g l zy_store_6_18 zr_store_6_18 (zz_QV n (zp_store_6_18  S0)) S n 12 [some (.ref 1031), some (zi x1), some (zi x2)] [] 0 0) := by
  intro N
  induction N with
  | zero => exact ⟨fun x1 S _ _ _ h => absurd h (Nat.not_lt_zero _), fun x1 x2 S _ _ _ _ _ _ h => absurd h (Nat.not_lt_zero _)⟩
  | succ N ih =>
    exact ⟨fun x1 S a b j0 hR => zb_store_6_18_2  S0 n hn G_S0 hl x1 S a b j0 _ rfl (fun x1 x2 S a b j0 j1 j2 j3 h => ih.2 x1 x2 S a b j0 j1 j2 j3 (Nat.lt_of_lt_of_le h (Nat.le_of_lt_succ hR))),
      fun x1 x2 S a b j0 j1 j2 j3 hR => zb_store_6_18_12  S0 n hn G_S0 hl x1 x2 S a b j0 j1 j2 j3 _ rfl (fun x1 S a b j0 h => ih.1 x1 S a b j0 (Nat.lt_of_lt_of_le h (Nat.le_of_lt_succ hR))) (fun x1 x2 S a b j0 j1 j2 j3 h => ih.2 x1 x2 S a b j0 j1 j2 j3 (Nat.lt_of_lt_of_le h (Nat.le_of_lt_succ hR)))⟩
theorem zc_store_6_18 {g : mm_G} {l : Launch}  (S0 : zz_S) (n : Nat) (hn : zz_end ≤ n) (G_S0 : zz_G S0) (hl : zz_lc 8 (S0 1031 7) (S0 1031 8) (S0 1031 9) (S0 1031 10) (S0 1031 11) (S0 1031 12) (S0 1031 13) (S0 1031 6)) : mm_Met g l zy_store_6_18 zr_store_6_18 [.ref 1031] (zz_M S0 n) n (zz_QV n (zp_store_6_18  S0)) := by
  refine zz_enter (by decide) (Nat.le_of_ble_eq_true rfl) (zz_less (ls1 := [some (.ref 1031)]) ⟨rfl, trivial⟩ ?_)
  have F_S0 : zz_fr [] [1032] (fun _ _ => False) S0 S0 := zz_fr.refl
  have k2 : ∀ (x1 : Int) (S : zz_S), zz_G S → zz_fr [] [1032] (fun _ _ => False) S0 S → (0 ≤ x1 ∧ x1 ≤ 63) → zz_E g l zy_store_6_18 zr_store_6_18 (zz_QV n (zp_store_6_18  S0)) S n 2 [some (.ref 1031), some (zi x1)] [] 0 0 := fun x1 S a b j0 => (zi_store_6_18 (g := g) (l := l)  S0 n hn G_S0 hl _).1 x1 S a b j0 (Nat.lt_succ_self _)
  refine zz_iconst zd_6_18_0 ?_
  refine zz_istore_n [some (.ref 1031), some (zi 0)] zd_6_18_1 (by decide) rfl ?_
  have g1 := zz_G.r G_S0 1031 8 0 63 rfl rfl
  refine zz_less (ls1 := [some (.ref 1031), some (zi 0)]) ⟨rfl, ⟨rfl, trivial⟩⟩ ?_
  exact k2 0 S0 G_S0 F_S0 (by omega)
theorem zk_Machine_107 : mm_Vl "TensorForge$Machine" 107 3 0 zy_store_6_18 := ⟨zyw_store_6_18, (R_Machine, F_Machine, 14), rfl, mm_tb_1 837 (by decide +kernel) rfl, mm_tb_1 839 (by decide +kernel) rfl, mm_tb_s 34 (by decide +kernel) rfl⟩
theorem zg_6_10_117 : zq_at zy_perform_6_10.2.1 117 167 ∧ zq_at zy_perform_6_10.2.1 118 0 ∧ zq_at zy_perform_6_10.2.1 119 3 := by decide +kernel
theorem zd_6_10_117 : zz_B zy_perform_6_10 117 Instr.goto 120 120 := ⟨3, zq_167 zg_6_10_117.1 zg_6_10_117.2.1 zg_6_10_117.2.2 (by decide), rfl, rfl⟩
-- TensorForge$Machine perform (J)V
abbrev zr_perform_6_10 : Room := { frames := 3, cells := 0, slots := 0, locals := 49 }
def zp_perform_6_10 (p0 : Int) (S0 : zz_S) : zz_S → Prop := fun S => zz_G S ∧ zz_fr [(1031, 7), (1031, 8), (1031, 9), (1031, 10), (1031, 11), (1031, 12), (1031, 13)] [1032, 1033, 1034, 1035, 1036] (fun _ _ => False) S0 S
theorem zc_perform_6_10 {g : mm_G} {l : Launch} (p0 : Int) (S0 : zz_S) (n : Nat) (hn : zz_end ≤ n) (G_S0 : zz_G S0) (hp0 : (-9223372036854775808) ≤ p0 ∧ p0 ≤ 9223372036854775807) (hl : zz_lcl p0 (S0 1031 6)) : mm_Met g l zy_perform_6_10 zr_perform_6_10 [.ref 1031, zl p0] (zz_M S0 n) n (zz_QV n (zp_perform_6_10 p0 S0)) := by
  refine zz_enter (by decide) (Nat.le_of_ble_eq_true rfl) (zz_less (ls1 := [some (.ref 1031), some (zl p0), none]) ⟨rfl, ⟨rfl, trivial⟩⟩ ?_)
  have F_S0 : zz_fr [(1031, 7), (1031, 8), (1031, 9), (1031, 10), (1031, 11), (1031, 12), (1031, 13)] [1032, 1033, 1034, 1035, 1036] (fun _ _ => False) S0 S0 := zz_fr.refl
  refine zz_aload_n (x := 1031) rfl zd_6_10_0 ?_
  refine zz_lload_n (x := p0) rfl zd_6_10_1 ?_
  refine zz_callVV [zl p0] zd_6_10_2 zk_Machine_84 zT_1031 (zz_ltn hn rfl) rfl rfl ⟨Nat.le_of_ble_eq_true rfl, Nat.le_of_ble_eq_true rfl⟩ ⟨rfl, rfl⟩ (Nat.zero_le _) (Nat.zero_le _) (zc_decode_6_11 p0 S0 n hn G_S0 (by omega)) (fun S1 hP => ?_)
  obtain ⟨G_S1, fS1, o3, o4, o5, o6, o7, o8, o9⟩ := hP
  have F_S1 := zz_fr.trans F_S0 fS1 rfl zz_nv
  refine zz_lload_n (x := p0) rfl zd_6_10_5 ?_
  refine zz_iconst zd_6_10_6 ?_
  refine zz_callSI [zl p0, zi 0] zd_6_10_7 zk_Machine_72 rfl rfl ⟨Nat.le_of_ble_eq_true rfl, Nat.le_of_ble_eq_true rfl⟩ ⟨rfl, rfl⟩ (Nat.zero_le _) (Nat.zero_le _) (zc_get_12_2x_0 p0 S1 n hn G_S1 (by omega)) (fun v11 S10 hP => ?_)
  obtain ⟨rfl, o12, o13⟩ := hP
  subst o13
  by_cases c14 : zz_fy p0 0 15 = 1
  · refine zz_swIn 1 46 c14 (by decide) zd_6_10_10 rfl rfl ?_
    refine zz_aload_n (x := 1031) rfl zd_6_10_56 ?_
    refine zz_aload_n (x := 1031) rfl zd_6_10_57 ?_
    refine zz_getr (kd := 0) (z := 1033) zd_6_10_58 zf_Machine_19 zT_1031 rfl (zz_ltn hn rfl) (zz_G.eq G_S1 1031 1 1033 rfl rfl) (by decide) 1033 rfl ?_
    have g15 := zz_G.r G_S1 1031 10 0 511 rfl rfl
    have g16 := zz_G.r G_S1 1031 11 0 511 rfl rfl
    have g17 := zz_G.r G_S1 1031 12 0 1023 rfl rfl
    have g18 := zz_G.r G_S1 1031 13 0 31 rfl rfl
    have g19 := zz_G.r G_S0 1031 6 2 8 rfl rfl
    have e20 : S1 1031 6 = S0 1031 6 := (zz_rc fS1 rfl rfl (fun h => h) rfl)
    have g21 := zz_G.r G_S1 1031 7 0 4095 rfl rfl
    have g22 := zz_G.r G_S1 1031 8 0 63 rfl rfl
    have g23 := zz_G.r G_S1 1031 9 0 31 rfl rfl
    refine zz_callVV [.ref 1033] zd_6_10_61 zk_Machine_88 zT_1031 (zz_ltn hn rfl) rfl rfl ⟨Nat.le_of_ble_eq_true rfl, Nat.le_of_ble_eq_true rfl⟩ ⟨rfl, rfl⟩ (Nat.zero_le _) (Nat.zero_le _) (zc_loadBytes_6_12_1033  S1 n hn G_S1 (by have h9 := hl; unfold zz_lcl at h9; rw [show zz_fy p0 0 15 = 1 by omega, show zz_fy p0 8 4095 = S1 1031 7 by omega, show zz_fy p0 20 63 = S1 1031 8 by omega, show zz_fy p0 26 31 = S1 1031 9 by omega, show zz_fy p0 31 511 = S1 1031 10 by omega, show zz_fy p0 40 511 = S1 1031 11 by omega, show zz_fy p0 49 1023 = S1 1031 12 by omega, show zz_fy p0 59 31 = S1 1031 13 by omega, show S0 1031 6 = S1 1031 6 by omega] at h9; exact h9)) (fun S24 hP => ?_)
    obtain ⟨G_S24, fS24⟩ := hP
    have F_S24 := zz_fr.trans F_S1 fS24 rfl zz_nv
    refine zz_goto zd_6_10_64 ?_
    exact zz_vret zd_6_10_120 rfl (Nat.zero_le _) (Nat.zero_le _) ⟨_, rfl, G_S24, F_S24⟩
  by_cases c26 : zz_fy p0 0 15 = 2
  · refine zz_swIn 2 57 c26 (by decide) zd_6_10_10 rfl rfl ?_
    refine zz_aload_n (x := 1031) rfl zd_6_10_67 ?_
    refine zz_aload_n (x := 1031) rfl zd_6_10_68 ?_
    refine zz_getr (kd := 0) (z := 1034) zd_6_10_69 zf_Machine_22 zT_1031 rfl (zz_ltn hn rfl) (zz_G.eq G_S1 1031 2 1034 rfl rfl) (by decide) 1034 rfl ?_
    have g27 := zz_G.r G_S1 1031 10 0 511 rfl rfl
    have g28 := zz_G.r G_S1 1031 11 0 511 rfl rfl
    have g29 := zz_G.r G_S1 1031 12 0 1023 rfl rfl
    have g30 := zz_G.r G_S1 1031 13 0 31 rfl rfl
    have g31 := zz_G.r G_S0 1031 6 2 8 rfl rfl
    have e32 : S1 1031 6 = S0 1031 6 := (zz_rc fS1 rfl rfl (fun h => h) rfl)
    have g33 := zz_G.r G_S1 1031 7 0 4095 rfl rfl
    have g34 := zz_G.r G_S1 1031 8 0 63 rfl rfl
    have g35 := zz_G.r G_S1 1031 9 0 31 rfl rfl
    refine zz_callVV [.ref 1034] zd_6_10_72 zk_Machine_88 zT_1031 (zz_ltn hn rfl) rfl rfl ⟨Nat.le_of_ble_eq_true rfl, Nat.le_of_ble_eq_true rfl⟩ ⟨rfl, rfl⟩ (Nat.zero_le _) (Nat.zero_le _) (zc_loadBytes_6_12_1034  S1 n hn G_S1 (by have h9 := hl; unfold zz_lcl at h9; rw [show zz_fy p0 0 15 = 2 by omega, show zz_fy p0 8 4095 = S1 1031 7 by omega, show zz_fy p0 20 63 = S1 1031 8 by omega, show zz_fy p0 26 31 = S1 1031 9 by omega, show zz_fy p0 31 511 = S1 1031 10 by omega, show zz_fy p0 40 511 = S1 1031 11 by omega, show zz_fy p0 49 1023 = S1 1031 12 by omega, show zz_fy p0 59 31 = S1 1031 13 by omega, show S0 1031 6 = S1 1031 6 by omega] at h9; exact h9)) (fun S36 hP => ?_)
    obtain ⟨G_S36, fS36⟩ := hP
    have F_S36 := zz_fr.trans F_S1 fS36 rfl zz_nv
    refine zz_goto zd_6_10_75 ?_
    exact zz_vret zd_6_10_120 rfl (Nat.zero_le _) (Nat.zero_le _) ⟨_, rfl, G_S36, F_S36⟩
  by_cases c38 : zz_fy p0 0 15 = 3
  · refine zz_swIn 3 68 c38 (by decide) zd_6_10_10 rfl rfl ?_
    refine zz_aload_n (x := 1031) rfl zd_6_10_78 ?_
    have g39 := zz_G.r G_S1 1031 10 0 511 rfl rfl
    have g40 := zz_G.r G_S1 1031 11 0 511 rfl rfl
    have g41 := zz_G.r G_S1 1031 12 0 1023 rfl rfl
    have g42 := zz_G.r G_S1 1031 13 0 31 rfl rfl
    have g43 := zz_G.r G_S0 1031 6 2 8 rfl rfl
    have e44 : S1 1031 6 = S0 1031 6 := (zz_rc fS1 rfl rfl (fun h => h) rfl)
    have g45 := zz_G.r G_S1 1031 7 0 4095 rfl rfl
    have g46 := zz_G.r G_S1 1031 8 0 63 rfl rfl
    have g47 := zz_G.r G_S1 1031 9 0 31 rfl rfl
    refine zz_callVV [] zd_6_10_79 zk_Machine_92 zT_1031 (zz_ltn hn rfl) rfl rfl ⟨Nat.le_of_ble_eq_true rfl, Nat.le_of_ble_eq_true rfl⟩ ⟨rfl, rfl⟩ (Nat.zero_le _) (Nat.zero_le _) (zc_clearCells_6_13  S1 n hn G_S1 (by have h9 := hl; unfold zz_lcl at h9; rw [show zz_fy p0 0 15 = 3 by omega, show zz_fy p0 8 4095 = S1 1031 7 by omega, show zz_fy p0 20 63 = S1 1031 8 by omega, show zz_fy p0 26 31 = S1 1031 9 by omega, show zz_fy p0 31 511 = S1 1031 10 by omega, show zz_fy p0 40 511 = S1 1031 11 by omega, show zz_fy p0 49 1023 = S1 1031 12 by omega, show zz_fy p0 59 31 = S1 1031 13 by omega, show S0 1031 6 = S1 1031 6 by omega] at h9; exact h9)) (fun S48 hP => ?_)
    obtain ⟨G_S48, fS48⟩ := hP
    have F_S48 := zz_fr.trans F_S1 fS48 rfl zz_nv
    refine zz_goto zd_6_10_82 ?_
    exact zz_vret zd_6_10_120 rfl (Nat.zero_le _) (Nat.zero_le _) ⟨_, rfl, G_S48, F_S48⟩
  by_cases c50 : zz_fy p0 0 15 = 4
  · refine zz_swIn 4 75 c50 (by decide) zd_6_10_10 rfl rfl ?_
    refine zz_aload_n (x := 1031) rfl zd_6_10_85 ?_
    have g51 := zz_G.r G_S1 1031 10 0 511 rfl rfl
    have g52 := zz_G.r G_S1 1031 11 0 511 rfl rfl
    have g53 := zz_G.r G_S1 1031 12 0 1023 rfl rfl
    have g54 := zz_G.r G_S1 1031 13 0 31 rfl rfl
    have g55 := zz_G.r G_S0 1031 6 2 8 rfl rfl
    have e56 : S1 1031 6 = S0 1031 6 := (zz_rc fS1 rfl rfl (fun h => h) rfl)
    have g57 := zz_G.r G_S1 1031 7 0 4095 rfl rfl
    have g58 := zz_G.r G_S1 1031 8 0 63 rfl rfl
    have g59 := zz_G.r G_S1 1031 9 0 31 rfl rfl
    refine zz_callVV [] zd_6_10_86 zk_Machine_95 zT_1031 (zz_ltn hn rfl) rfl rfl ⟨Nat.le_of_ble_eq_true rfl, Nat.le_of_ble_eq_true rfl⟩ ⟨rfl, rfl⟩ (Nat.zero_le _) (Nat.zero_le _) (zc_loadSums_6_14  S1 n hn G_S1 (by have h9 := hl; unfold zz_lcl at h9; rw [show zz_fy p0 0 15 = 4 by omega, show zz_fy p0 8 4095 = S1 1031 7 by omega, show zz_fy p0 20 63 = S1 1031 8 by omega, show zz_fy p0 26 31 = S1 1031 9 by omega, show zz_fy p0 31 511 = S1 1031 10 by omega, show zz_fy p0 40 511 = S1 1031 11 by omega, show zz_fy p0 49 1023 = S1 1031 12 by omega, show zz_fy p0 59 31 = S1 1031 13 by omega, show S0 1031 6 = S1 1031 6 by omega] at h9; exact h9)) (fun S60 hP => ?_)
    obtain ⟨G_S60, fS60⟩ := hP
    have F_S60 := zz_fr.trans F_S1 fS60 rfl zz_nv
    refine zz_goto zd_6_10_89 ?_
    exact zz_vret zd_6_10_120 rfl (Nat.zero_le _) (Nat.zero_le _) ⟨_, rfl, G_S60, F_S60⟩
  by_cases c62 : zz_fy p0 0 15 = 5
  · refine zz_swIn 5 82 c62 (by decide) zd_6_10_10 rfl rfl ?_
    refine zz_aload_n (x := 1031) rfl zd_6_10_92 ?_
    have g63 := zz_G.r G_S1 1031 10 0 511 rfl rfl
    have g64 := zz_G.r G_S1 1031 11 0 511 rfl rfl
    have g65 := zz_G.r G_S1 1031 12 0 1023 rfl rfl
    have g66 := zz_G.r G_S1 1031 13 0 31 rfl rfl
    have g67 := zz_G.r G_S0 1031 6 2 8 rfl rfl
    have e68 : S1 1031 6 = S0 1031 6 := (zz_rc fS1 rfl rfl (fun h => h) rfl)
    have g69 := zz_G.r G_S1 1031 7 0 4095 rfl rfl
    have g70 := zz_G.r G_S1 1031 8 0 63 rfl rfl
    have g71 := zz_G.r G_S1 1031 9 0 31 rfl rfl
    refine zz_callVV [] zd_6_10_93 zk_Machine_98 zT_1031 (zz_ltn hn rfl) rfl rfl ⟨Nat.le_of_ble_eq_true rfl, Nat.le_of_ble_eq_true rfl⟩ ⟨rfl, rfl⟩ (Nat.zero_le _) (Nat.zero_le _) (zc_multiply_6_15  S1 n hn G_S1 (by have h9 := hl; unfold zz_lcl at h9; rw [show zz_fy p0 0 15 = 5 by omega, show zz_fy p0 8 4095 = S1 1031 7 by omega, show zz_fy p0 20 63 = S1 1031 8 by omega, show zz_fy p0 26 31 = S1 1031 9 by omega, show zz_fy p0 31 511 = S1 1031 10 by omega, show zz_fy p0 40 511 = S1 1031 11 by omega, show zz_fy p0 49 1023 = S1 1031 12 by omega, show zz_fy p0 59 31 = S1 1031 13 by omega, show S0 1031 6 = S1 1031 6 by omega] at h9; exact h9)) (fun S72 hP => ?_)
    obtain ⟨G_S72, fS72⟩ := hP
    have F_S72 := zz_fr.trans F_S1 fS72 rfl zz_nv
    refine zz_goto zd_6_10_96 ?_
    exact zz_vret zd_6_10_120 rfl (Nat.zero_le _) (Nat.zero_le _) ⟨_, rfl, G_S72, F_S72⟩
  by_cases c74 : zz_fy p0 0 15 = 6
  · refine zz_swIn 6 89 c74 (by decide) zd_6_10_10 rfl rfl ?_
    refine zz_aload_n (x := 1031) rfl zd_6_10_99 ?_
    have g75 := zz_G.r G_S1 1031 10 0 511 rfl rfl
    have g76 := zz_G.r G_S1 1031 11 0 511 rfl rfl
    have g77 := zz_G.r G_S1 1031 12 0 1023 rfl rfl
    have g78 := zz_G.r G_S1 1031 13 0 31 rfl rfl
    have g79 := zz_G.r G_S0 1031 6 2 8 rfl rfl
    have e80 : S1 1031 6 = S0 1031 6 := (zz_rc fS1 rfl rfl (fun h => h) rfl)
    have g81 := zz_G.r G_S1 1031 7 0 4095 rfl rfl
    have g82 := zz_G.r G_S1 1031 8 0 63 rfl rfl
    have g83 := zz_G.r G_S1 1031 9 0 31 rfl rfl
    refine zz_callVV [] zd_6_10_100 zk_Machine_101 zT_1031 (zz_ltn hn rfl) rfl rfl ⟨Nat.le_of_ble_eq_true rfl, Nat.le_of_ble_eq_true rfl⟩ ⟨rfl, rfl⟩ (Nat.zero_le _) (Nat.zero_le _) (zc_combine_6_16  S1 n hn G_S1 (by have h9 := hl; unfold zz_lcl at h9; rw [show zz_fy p0 0 15 = 6 by omega, show zz_fy p0 8 4095 = S1 1031 7 by omega, show zz_fy p0 20 63 = S1 1031 8 by omega, show zz_fy p0 26 31 = S1 1031 9 by omega, show zz_fy p0 31 511 = S1 1031 10 by omega, show zz_fy p0 40 511 = S1 1031 11 by omega, show zz_fy p0 49 1023 = S1 1031 12 by omega, show zz_fy p0 59 31 = S1 1031 13 by omega, show S0 1031 6 = S1 1031 6 by omega] at h9; exact h9)) (fun S84 hP => ?_)
    obtain ⟨G_S84, fS84⟩ := hP
    have F_S84 := zz_fr.trans F_S1 fS84 rfl zz_nv
    refine zz_goto zd_6_10_103 ?_
    exact zz_vret zd_6_10_120 rfl (Nat.zero_le _) (Nat.zero_le _) ⟨_, rfl, G_S84, F_S84⟩
  by_cases c86 : zz_fy p0 0 15 = 7
  · refine zz_swIn 7 96 c86 (by decide) zd_6_10_10 rfl rfl ?_
    refine zz_aload_n (x := 1031) rfl zd_6_10_106 ?_
    have g87 := zz_G.r G_S1 1031 10 0 511 rfl rfl
    have g88 := zz_G.r G_S1 1031 11 0 511 rfl rfl
    have g89 := zz_G.r G_S1 1031 12 0 1023 rfl rfl
    have g90 := zz_G.r G_S1 1031 13 0 31 rfl rfl
    have g91 := zz_G.r G_S0 1031 6 2 8 rfl rfl
    have e92 : S1 1031 6 = S0 1031 6 := (zz_rc fS1 rfl rfl (fun h => h) rfl)
    have g93 := zz_G.r G_S1 1031 7 0 4095 rfl rfl
    have g94 := zz_G.r G_S1 1031 8 0 63 rfl rfl
    have g95 := zz_G.r G_S1 1031 9 0 31 rfl rfl
    refine zz_callVV [] zd_6_10_107 zk_Machine_104 zT_1031 (zz_ltn hn rfl) rfl rfl ⟨Nat.le_of_ble_eq_true rfl, Nat.le_of_ble_eq_true rfl⟩ ⟨rfl, rfl⟩ (Nat.zero_le _) (Nat.zero_le _) (zc_narrow_6_17  S1 n hn G_S1 (by have h9 := hl; unfold zz_lcl at h9; rw [show zz_fy p0 0 15 = 7 by omega, show zz_fy p0 8 4095 = S1 1031 7 by omega, show zz_fy p0 20 63 = S1 1031 8 by omega, show zz_fy p0 26 31 = S1 1031 9 by omega, show zz_fy p0 31 511 = S1 1031 10 by omega, show zz_fy p0 40 511 = S1 1031 11 by omega, show zz_fy p0 49 1023 = S1 1031 12 by omega, show zz_fy p0 59 31 = S1 1031 13 by omega, show S0 1031 6 = S1 1031 6 by omega] at h9; exact h9)) (fun S96 hP => ?_)
    obtain ⟨G_S96, fS96⟩ := hP
    have F_S96 := zz_fr.trans F_S1 fS96 rfl zz_nv
    refine zz_goto zd_6_10_110 ?_
    exact zz_vret zd_6_10_120 rfl (Nat.zero_le _) (Nat.zero_le _) ⟨_, rfl, G_S96, F_S96⟩
  by_cases c98 : zz_fy p0 0 15 = 8
  · refine zz_swIn 8 103 c98 (by decide) zd_6_10_10 rfl rfl ?_
    refine zz_aload_n (x := 1031) rfl zd_6_10_113 ?_
    have g99 := zz_G.r G_S1 1031 10 0 511 rfl rfl
    have g100 := zz_G.r G_S1 1031 11 0 511 rfl rfl
    have g101 := zz_G.r G_S1 1031 12 0 1023 rfl rfl
    have g102 := zz_G.r G_S1 1031 13 0 31 rfl rfl
    have g103 := zz_G.r G_S0 1031 6 2 8 rfl rfl
    have e104 : S1 1031 6 = S0 1031 6 := (zz_rc fS1 rfl rfl (fun h => h) rfl)
    have g105 := zz_G.r G_S1 1031 7 0 4095 rfl rfl
    have g106 := zz_G.r G_S1 1031 8 0 63 rfl rfl
    have g107 := zz_G.r G_S1 1031 9 0 31 rfl rfl
    refine zz_callVV [] zd_6_10_114 zk_Machine_107 zT_1031 (zz_ltn hn rfl) rfl rfl ⟨Nat.le_of_ble_eq_true rfl, Nat.le_of_ble_eq_true rfl⟩ ⟨rfl, rfl⟩ (Nat.zero_le _) (Nat.zero_le _) (zc_store_6_18  S1 n hn G_S1 (by have h9 := hl; unfold zz_lcl at h9; rw [show zz_fy p0 0 15 = 8 by omega, show zz_fy p0 8 4095 = S1 1031 7 by omega, show zz_fy p0 20 63 = S1 1031 8 by omega, show zz_fy p0 26 31 = S1 1031 9 by omega, show zz_fy p0 31 511 = S1 1031 10 by omega, show zz_fy p0 40 511 = S1 1031 11 by omega, show zz_fy p0 49 1023 = S1 1031 12 by omega, show zz_fy p0 59 31 = S1 1031 13 by omega, show S0 1031 6 = S1 1031 6 by omega] at h9; exact h9)) (fun S108 hP => ?_)
    obtain ⟨G_S108, fS108⟩ := hP
    have F_S108 := zz_fr.trans F_S1 fS108 rfl zz_nv
    refine zz_goto zd_6_10_117 ?_
    exact zz_vret zd_6_10_120 rfl (Nat.zero_le _) (Nat.zero_le _) ⟨_, rfl, G_S108, F_S108⟩
  refine zz_swOut (by omega) (by omega) zd_6_10_10 rfl ?_
  exact zz_vret zd_6_10_120 rfl (Nat.zero_le _) (Nat.zero_le _) ⟨_, rfl, G_S1, F_S1⟩
theorem zk_Run_146 : mm_Vl "TensorForge$Run" 146 3 1 zy_perform_6_10 := ⟨zyw_perform_6_10, (R_Machine, F_Machine, 14), rfl, mm_tb_1 790 (by decide +kernel) rfl, mm_tb_1 791 (by decide +kernel) rfl, mm_tb_1 792 (by decide +kernel) rfl⟩
theorem zg_10_10_117 : zq_at zy_begin_10_10.2.1 117 177 := by decide +kernel
theorem zd_10_10_117 : zz_D zy_begin_10_10 117 (.return_) 1 118 := ⟨zq_177 zg_10_10_117, rfl⟩

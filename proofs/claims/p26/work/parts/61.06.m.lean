-- TensorForgeModel pooled (IIII)I
abbrev zr_pooled_14_75 : Room := { frames := 1, cells := 0, slots := 0, locals := 16 }
def zp_pooled_14_75 (p0 : Int) (p1 : Int) (p2 : Int) (p3 : Int) (S0 : zz_S) : Int → zz_S → Prop := fun r S => S0 = S ∧ ((-2147483648) ≤ r ∧ r ≤ 2147483647)
theorem zb_pooled_14_75_7 {g : mm_G} {l : Launch} (p0 : Int) (p1 : Int) (p2 : Int) (p3 : Int) (S0 : zz_S) (n : Nat) (hn : zz_end ≤ n) (G_S0 : zz_G S0) (hp0 : 0 ≤ p0 ∧ p0 ≤ 9) (hp1 : 0 ≤ p1 ∧ p1 ≤ 62) (hp2 : 0 ≤ p2 ∧ p2 ≤ 62) (hp3 : 0 ≤ p3 ∧ p3 ≤ 62) (R_S0 : zz_Hr S0) (hl : p0 + 1 < S0 1079 36) (hk : S0 1106 p0.toNat = 1) (hy : p1 < S0 1102 (p0 + 1).toNat) (hx : p2 < S0 1103 (p0 + 1).toNat) (ho : p3 < S0 1104 (p0 + 1).toNat) (x5 : Int) (x6 : Int) (S : zz_S) (G_S : zz_G S) (F_S : zz_fr [] [] (fun _ _ => False) S0 S) (i7_0 : (-128) ≤ x5 ∧ x5 ≤ 2147483647) (i7_1 : 0 ≤ x6 ∧ x6 ≤ 9) (R : Nat) (hR : (2147483647 - x6).toNat = R) (k7 : ∀ (x5 : Int) (x6 : Int) (S : zz_S), zz_G S → zz_fr [] [] (fun _ _ => False) S0 S → ((-128) ≤ x5 ∧ x5 ≤ 2147483647) → (0 ≤ x6 ∧ x6 ≤ 9) → (2147483647 - x6).toNat < R → zz_E g l zy_pooled_14_75 zr_pooled_14_75 (zz_QI n (zp_pooled_14_75 p0 p1 p2 p3 S0)) S n 7 [some (.ref 1079), some (zi p0), some (zi p1), some (zi p2), some (zi p3), some (zi x5), some (zi x6)] [] 0 0) : zz_E g l zy_pooled_14_75 zr_pooled_14_75 (zz_QI n (zp_pooled_14_75 p0 p1 p2 p3 S0)) S n 7 [some (.ref 1079), some (zi p0), some (zi p1), some (zi p2), some (zi p3), some (zi x5), some (zi x6)] [] 0 0 := by
  have hb9 := R_S0.2 p0.toNat (by omega)
  unfold zz_la at hb9
  have hone := hb9.1
  have hk9 := hb9.2.2.1 (by omega)
  have h5 : 1 ≤ S0 1110 p0.toNat := hk9.1
  have go9 := zz_G.r G_S0 1107 p0.toNat 0 10 rfl rfl
  have ht9 := R_S0.1 (S0 1107 p0.toNat).toNat (by omega)
  unfold zz_tn at ht9
  have h4 : 1 ≤ S0 1104 (S0 1107 p0.toNat).toNat := ht9.2.2.1
  clear hb9 hk9 ht9
  have R_S : zz_Hr S := (zz_fr.eq F_S) ▸ R_S0
  refine zz_iload (x := x6) rfl zd_14_75_7 ?_
  refine zz_aload_n (x := 1079) rfl zd_14_75_9 ?_
  refine zz_getr (kd := 0) (z := 1109) zd_14_75_10 zf_Md_109 zT_1079 rfl (zz_ltn hn rfl) (zz_G.eq G_S 1079 44 1109 rfl rfl) (by decide) 1109 rfl ?_
  refine zz_iload_n (x := p0) rfl zd_14_75_13 ?_
  have g1 := zz_G.r G_S0 1109 p0.toNat 0 3 rfl rfl
  refine zz_iald (z := S0 1109 p0.toNat) zd_14_75_14 zT_1109 rfl (zz_ltn hn rfl) (by decide) (by omega) (zz_rc F_S (zz_nc1 rfl) rfl (fun h => h) rfl) ?_
  refine zz_aload_n (x := 1079) rfl zd_14_75_15 ?_
  refine zz_getr (kd := 0) (z := 1110) zd_14_75_16 zf_Md_112 zT_1079 rfl (zz_ltn hn rfl) (zz_G.eq G_S 1079 45 1110 rfl rfl) (by decide) 1110 rfl ?_
  refine zz_iload_n (x := p0) rfl zd_14_75_19 ?_
  have g2 := zz_G.r G_S0 1110 p0.toNat 0 3 rfl rfl
  refine zz_iald (z := S0 1110 p0.toNat) zd_14_75_20 zT_1110 rfl (zz_ltn hn rfl) (by decide) (by omega) (zz_rc F_S (zz_nc1 rfl) rfl (fun h => h) rfl) ?_
  refine zz_imul zd_14_75_21 ?_
  have m3 := zz_mulb (a := S0 1109 p0.toNat) (b := S0 1110 p0.toNat) 3 3 9 (by omega) (by omega) (by decide)
  refine zz_icmp_ge (by omega) (by omega) zd_14_75_22 (fun c4 => ?_) (fun c4 => ?_)
  · refine zz_iload (x := x5) rfl zd_14_75_97 ?_
    exact zz_iret zd_14_75_99 rfl (Nat.zero_le _) (Nat.zero_le _) ⟨_, _, rfl, zz_fr.eq F_S, by omega⟩
  · have hb9 := R_S0.2 p0.toNat (by omega)
    unfold zz_la at hb9
    have hk9 := hb9.2.2.1 (by omega)
    rw [show p0.toNat + 1 = (p0 + 1).toNat by omega] at hk9
    have hd9 := zz_dm (k := x6) (a := S0 1109 p0.toNat) (b := S0 1110 p0.toNat) (by omega) (by omega)
    have gs9 := zz_G.r G_S0 1111 p0.toNat 0 3 rfl rfl
    have q1 : S0 1111 p0.toNat * p1 ≤ S0 1111 p0.toNat * (S0 1102 (p0 + 1).toNat - 1) := Int.mul_le_mul_of_nonneg_left (by omega) (by omega)
    have q2 : S0 1111 p0.toNat * p2 ≤ S0 1111 p0.toNat * (S0 1103 (p0 + 1).toNat - 1) := Int.mul_le_mul_of_nonneg_left (by omega) (by omega)
    have q3 : 0 ≤ S0 1111 p0.toNat * p1 := Int.mul_nonneg (by omega) (by omega)
    have q4 : 0 ≤ S0 1111 p0.toNat * p2 := Int.mul_nonneg (by omega) (by omega)
    clear hb9
    refine zz_aload_n (x := 1079) rfl zd_14_75_25 ?_
    refine zz_aload_n (x := 1079) rfl zd_14_75_26 ?_
    refine zz_getr (kd := 0) (z := 1107) zd_14_75_27 zf_Md_103 zT_1079 rfl (zz_ltn hn rfl) (zz_G.eq G_S 1079 42 1107 rfl rfl) (by decide) 1107 rfl ?_
    refine zz_iload_n (x := p0) rfl zd_14_75_30 ?_
    have g5 := zz_G.r G_S0 1107 p0.toNat 0 10 rfl rfl
    refine zz_iald (z := S0 1107 p0.toNat) zd_14_75_31 zT_1107 rfl (zz_ltn hn rfl) (by decide) (by omega) (zz_rc F_S (zz_nc1 rfl) rfl (fun h => h) rfl) ?_
    refine zz_aload_n (x := 1079) rfl zd_14_75_32 ?_
    refine zz_getr (kd := 0) (z := 1111) zd_14_75_33 zf_Md_115 zT_1079 rfl (zz_ltn hn rfl) (zz_G.eq G_S 1079 46 1111 rfl rfl) (by decide) 1111 rfl ?_
    refine zz_iload_n (x := p0) rfl zd_14_75_36 ?_
    have g6 := zz_G.r G_S0 1111 p0.toNat 0 3 rfl rfl
    refine zz_iald (z := S0 1111 p0.toNat) zd_14_75_37 zT_1111 rfl (zz_ltn hn rfl) (by decide) (by omega) (zz_rc F_S (zz_nc1 rfl) rfl (fun h => h) rfl) ?_
    refine zz_iload_n (x := p1) rfl zd_14_75_38 ?_
    refine zz_imul zd_14_75_39 ?_
    have m7 := zz_mulb (a := S0 1111 p0.toNat) (b := p1) 3 62 186 (by omega) (by omega) (by decide)
    refine zz_iload (x := x6) rfl zd_14_75_40 ?_
    refine zz_aload_n (x := 1079) rfl zd_14_75_42 ?_
    refine zz_getr (kd := 0) (z := 1110) zd_14_75_43 zf_Md_112 zT_1079 rfl (zz_ltn hn rfl) (zz_G.eq G_S 1079 45 1110 rfl rfl) (by decide) 1110 rfl ?_
    refine zz_iload_n (x := p0) rfl zd_14_75_46 ?_
    refine zz_iald (z := S0 1110 p0.toNat) zd_14_75_47 zT_1110 rfl (zz_ltn hn rfl) (by decide) (by omega) (zz_rc F_S (zz_nc1 rfl) rfl (fun h => h) rfl) ?_
    refine zz_idiv (by omega) (by omega) zd_14_75_48 (fun v8 hv8 av8 bv8 cv8 => ?_)
    have m9 := zz_divb (by omega) (by omega) av8
    obtain rfl : v8 = x6 / (S0 1110 p0.toNat) := by omega
    refine zz_iadd zd_14_75_49 ?_
    refine zz_nme (fun v10 ev10 => ?_)
    refine zz_aload_n (x := 1079) rfl zd_14_75_50 ?_
    refine zz_getr (kd := 0) (z := 1111) zd_14_75_51 zf_Md_115 zT_1079 rfl (zz_ltn hn rfl) (zz_G.eq G_S 1079 46 1111 rfl rfl) (by decide) 1111 rfl ?_
    refine zz_iload_n (x := p0) rfl zd_14_75_54 ?_
    refine zz_iald (z := S0 1111 p0.toNat) zd_14_75_55 zT_1111 rfl (zz_ltn hn rfl) (by decide) (by omega) (zz_rc F_S (zz_nc1 rfl) rfl (fun h => h) rfl) ?_
    refine zz_iload_n (x := p2) rfl zd_14_75_56 ?_
    refine zz_imul zd_14_75_57 ?_
    have m11 := zz_mulb (a := S0 1111 p0.toNat) (b := p2) 3 62 186 (by omega) (by omega) (by decide)
    refine zz_iload (x := x6) rfl zd_14_75_58 ?_
    refine zz_aload_n (x := 1079) rfl zd_14_75_60 ?_
    refine zz_getr (kd := 0) (z := 1110) zd_14_75_61 zf_Md_112 zT_1079 rfl (zz_ltn hn rfl) (zz_G.eq G_S 1079 45 1110 rfl rfl) (by decide) 1110 rfl ?_
    refine zz_iload_n (x := p0) rfl zd_14_75_64 ?_
    refine zz_iald (z := S0 1110 p0.toNat) zd_14_75_65 zT_1110 rfl (zz_ltn hn rfl) (by decide) (by omega) (zz_rc F_S (zz_nc1 rfl) rfl (fun h => h) rfl) ?_
    refine zz_irem (by omega) (by omega) zd_14_75_66 (fun v12 hv12 av12 bv12 cv12 => ?_)
    obtain rfl : v12 = x6 % (S0 1110 p0.toNat) := by omega
    refine zz_iadd zd_14_75_67 ?_
    refine zz_nme (fun v13 ev13 => ?_)
    refine zz_iload (x := p3) rfl zd_14_75_68 ?_
    have g14 := zz_G.r G_S0 1102 ((S0 1107 p0.toNat).toNat) 0 63 rfl rfl
    have e15 : S 1102 (S0 1107 p0.toNat).toNat = S0 1102 (S0 1107 p0.toNat).toNat := (zz_rc F_S (zz_nc1 rfl) rfl (fun h => h) rfl)
    have g16 := zz_G.r G_S0 1103 ((S0 1107 p0.toNat).toNat) 0 63 rfl rfl
    have e17 : S 1103 (S0 1107 p0.toNat).toNat = S0 1103 (S0 1107 p0.toNat).toNat := (zz_rc F_S (zz_nc1 rfl) rfl (fun h => h) rfl)
    have g18 := zz_G.r G_S0 1104 ((S0 1107 p0.toNat).toNat) 0 63 rfl rfl
    have e19 : S 1104 (S0 1107 p0.toNat).toNat = S0 1104 (S0 1107 p0.toNat).toNat := (zz_rc F_S (zz_nc1 rfl) rfl (fun h => h) rfl)
    refine zz_callVI [zi (S0 1107 p0.toNat), zi v10, zi v13, zi p3] zd_14_75_70 zk_Md_438 zT_1079 (zz_ltn hn rfl) rfl rfl ⟨Nat.le_of_ble_eq_true rfl, Nat.le_of_ble_eq_true rfl⟩ ⟨rfl, rfl⟩ (Nat.zero_le _) (Nat.zero_le _) (zc_cellAt_14_73 (S0 1107 p0.toNat) v10 v13 p3 S n hn G_S (by omega) (by omega) (by omega) (by omega) (R_S.1 (S0 1107 p0.toNat).toNat (by rw [show S 1079 36 = S0 1079 36 from zz_rc F_S rfl rfl (fun h => h) rfl]; omega)) (by omega) (by omega) (by omega)) (fun v21 S20 hP => ?_)
    obtain ⟨rfl, o22⟩ := hP
    refine zz_istore [some (.ref 1079), some (zi p0), some (zi p1), some (zi p2), some (zi p3), some (zi x5), some (zi x6), some (zi v21)] zd_14_75_73 (by decide) rfl ?_
    refine zz_iload (x := v21) rfl zd_14_75_75 ?_
    refine zz_iload (x := x5) rfl zd_14_75_77 ?_
    refine zz_icmp_le (by omega) (by omega) zd_14_75_79 (fun c23 => ?_) (fun c23 => ?_)
    · refine zz_iload (x := x5) rfl zd_14_75_87 ?_
      refine zz_istore [some (.ref 1079), some (zi p0), some (zi p1), some (zi p2), some (zi p3), some (zi x5), some (zi x6), some (zi v21)] zd_14_75_89 (by decide) rfl ?_
      refine zz_iinc [some (.ref 1079), some (zi p0), some (zi p1), some (zi p2), some (zi p3), some (zi x5), some (zi (x6 + 1)), some (zi v21)] zd_14_75_91 rfl rfl ?_
      refine zz_goto zd_14_75_94 ?_
      refine zz_less (ls1 := [some (.ref 1079), some (zi p0), some (zi p1), some (zi p2), some (zi p3), some (zi x5), some (zi (x6 + 1))]) ⟨rfl, ⟨rfl, ⟨rfl, ⟨rfl, ⟨rfl, ⟨rfl, ⟨rfl, trivial⟩⟩⟩⟩⟩⟩⟩ ?_
      exact k7 x5 (x6 + 1) S G_S F_S (by omega) (by omega) (by omega)
    · refine zz_iload (x := v21) rfl zd_14_75_82 ?_
      refine zz_goto zd_14_75_84 ?_
      refine zz_istore [some (.ref 1079), some (zi p0), some (zi p1), some (zi p2), some (zi p3), some (zi v21), some (zi x6), some (zi v21)] zd_14_75_89 (by decide) rfl ?_
      refine zz_iinc [some (.ref 1079), some (zi p0), some (zi p1), some (zi p2), some (zi p3), some (zi v21), some (zi (x6 + 1)), some (zi v21)] zd_14_75_91 rfl rfl ?_
      refine zz_goto zd_14_75_94 ?_
      refine zz_less (ls1 := [some (.ref 1079), some (zi p0), some (zi p1), some (zi p2), some (zi p3), some (zi v21), some (zi (x6 + 1))]) ⟨rfl, ⟨rfl, ⟨rfl, ⟨rfl, ⟨rfl, ⟨rfl, ⟨rfl, trivial⟩⟩⟩⟩⟩⟩⟩ ?_
      exact k7 v21 (x6 + 1) S G_S F_S (by omega) (by omega) (by omega)
theorem zi_pooled_14_75 {g : mm_G} {l : Launch} (p0 : Int) (p1 : Int) (p2 : Int) (p3 : Int) (S0 : zz_S) (n : Nat) (hn : zz_end ≤ n) (G_S0 : zz_G S0) (hp0 : 0 ≤ p0 ∧ p0 ≤ 9) (hp1 : 0 ≤ p1 ∧ p1 ≤ 62) (hp2 : 0 ≤ p2 ∧ p2 ≤ 62) (hp3 : 0 ≤ p3 ∧ p3 ≤ 62) (R_S0 : zz_Hr S0) (hl : p0 + 1 < S0 1079 36) (hk : S0 1106 p0.toNat = 1) (hy : p1 < S0 1102 (p0 + 1).toNat) (hx : p2 < S0 1103 (p0 + 1).toNat) (ho : p3 < S0 1104 (p0 + 1).toNat) : ∀ N : Nat, (∀ (x5 : Int) (x6 : Int) (S : zz_S), zz_G S → zz_fr [] [] (fun _ _ => False) S0 S → ((-128) ≤ x5 ∧ x5 ≤ 2147483647) → (0 ≤ x6 ∧ x6 ≤ 9) → (2147483647 - x6).toNat < N → zz_E g l zy_pooled_14_75 zr_pooled_14_75 (zz_QI n (zp_pooled_14_75 p0 p1 p2 p3 S0)) S n 7 [some (.ref 1079), some (zi p0), some (zi p1), some (zi p2), some (zi p3), some (zi x5), some (zi x6)] [] 0 0) := by
  intro N
  induction N with
  | zero => exact fun x5 x6 S _ _ _ _ h => absurd h (Nat.not_lt_zero _)
  | succ N ih =>
    exact fun x5 x6 S a b j0 j1 hR => zb_pooled_14_75_7 p0 p1 p2 p3 S0 n hn G_S0 hp0 hp1 hp2 hp3 R_S0 hl hk hy hx ho x5 x6 S a b j0 j1 _ rfl (fun x5 x6 S a b j0 j1 h => ih x5 x6 S a b j0 j1 (Nat.lt_of_lt_of_le h (Nat.le_of_lt_succ hR)))
theorem zc_pooled_14_75 {g : mm_G} {l : Launch} (p0 : Int) (p1 : Int) (p2 : Int) (p3 : Int) (S0 : zz_S) (n : Nat) (hn : zz_end ≤ n) (G_S0 : zz_G S0) (hp0 : 0 ≤ p0 ∧ p0 ≤ 9) (hp1 : 0 ≤ p1 ∧ p1 ≤ 62) (hp2 : 0 ≤ p2 ∧ p2 ≤ 62) (hp3 : 0 ≤ p3 ∧ p3 ≤ 62) (R_S0 : zz_Hr S0) (hl : p0 + 1 < S0 1079 36) (hk : S0 1106 p0.toNat = 1) (hy : p1 < S0 1102 (p0 + 1).toNat) (hx : p2 < S0 1103 (p0 + 1).toNat) (ho : p3 < S0 1104 (p0 + 1).toNat) : mm_Met g l zy_pooled_14_75 zr_pooled_14_75 [.ref 1079, zi p0, zi p1, zi p2, zi p3] (zz_M S0 n) n (zz_QI n (zp_pooled_14_75 p0 p1 p2 p3 S0)) := by
  refine zz_enter (by decide) (Nat.le_of_ble_eq_true rfl) (zz_less (ls1 := [some (.ref 1079), some (zi p0), some (zi p1), some (zi p2), some (zi p3)]) ⟨rfl, ⟨rfl, ⟨rfl, ⟨rfl, ⟨rfl, trivial⟩⟩⟩⟩⟩ ?_)
  have F_S0 : zz_fr [] [] (fun _ _ => False) S0 S0 := zz_fr.refl
  have k7 : ∀ (x5 : Int) (x6 : Int) (S : zz_S), zz_G S → zz_fr [] [] (fun _ _ => False) S0 S → ((-128) ≤ x5 ∧ x5 ≤ 2147483647) → (0 ≤ x6 ∧ x6 ≤ 9) → zz_E g l zy_pooled_14_75 zr_pooled_14_75 (zz_QI n (zp_pooled_14_75 p0 p1 p2 p3 S0)) S n 7 [some (.ref 1079), some (zi p0), some (zi p1), some (zi p2), some (zi p3), some (zi x5), some (zi x6)] [] 0 0 := fun x5 x6 S a b j0 j1 => (zi_pooled_14_75 (g := g) (l := l) p0 p1 p2 p3 S0 n hn G_S0 hp0 hp1 hp2 hp3 R_S0 hl hk hy hx ho _) x5 x6 S a b j0 j1 (Nat.lt_succ_self _)
  have hb9 := R_S0.2 p0.toNat (by omega)
  unfold zz_la at hb9
  have hone := hb9.1
  have hk9 := hb9.2.2.1 (by omega)
  have h5 : 1 ≤ S0 1110 p0.toNat := hk9.1
  have go9 := zz_G.r G_S0 1107 p0.toNat 0 10 rfl rfl
  have ht9 := R_S0.1 (S0 1107 p0.toNat).toNat (by omega)
  unfold zz_tn at ht9
  have h4 : 1 ≤ S0 1104 (S0 1107 p0.toNat).toNat := ht9.2.2.1
  clear hb9 hk9 ht9
  refine zz_bipush (by decide) zd_14_75_0 ?_
  refine zz_istore [some (.ref 1079), some (zi p0), some (zi p1), some (zi p2), some (zi p3), some (zi (-128))] zd_14_75_2 (by decide) rfl ?_
  refine zz_iconst zd_14_75_4 ?_
  refine zz_istore [some (.ref 1079), some (zi p0), some (zi p1), some (zi p2), some (zi p3), some (zi (-128)), some (zi 0)] zd_14_75_5 (by decide) rfl ?_
  refine zz_less (ls1 := [some (.ref 1079), some (zi p0), some (zi p1), some (zi p2), some (zi p3), some (zi (-128)), some (zi 0)]) ⟨rfl, ⟨rfl, ⟨rfl, ⟨rfl, ⟨rfl, ⟨rfl, ⟨rfl, trivial⟩⟩⟩⟩⟩⟩⟩ ?_
  exact k7 (-128) 0 S0 G_S0 F_S0 (by omega) (by omega)
abbrev zy_reckon_14_76 : mm_Y := (⟨"TensorForgeModel", "reckon", "()V"⟩, prog_14_method_76_code, 8, none)
theorem zyw_reckon_14_76 : mm_Yw zy_reckon_14_76 0 := ⟨mm_tb_1 2116 (by decide +kernel) rfl, mm_tb_1 12 (by decide +kernel) rfl, ⟨by decide, by decide⟩, by decide +kernel⟩
theorem zk_Md_444 : mm_Vl "TensorForgeModel" 444 11 4 zy_pooled_14_75 := ⟨zyw_pooled_14_75, (R_Md, F_Md, 69), rfl, mm_tb_1 2129 (by decide +kernel) rfl, mm_tb_1 2131 (by decide +kernel) rfl, mm_tb_s 126 (by decide +kernel) rfl⟩
theorem zk_Md_441 : mm_Vl "TensorForgeModel" 441 11 4 zy_convolved_14_74 := ⟨zyw_convolved_14_74, (R_Md, F_Md, 69), rfl, mm_tb_1 2117 (by decide +kernel) rfl, mm_tb_1 2119 (by decide +kernel) rfl, mm_tb_s 123 (by decide +kernel) rfl⟩
theorem zg_14_76_0 : zq_at zy_reckon_14_76.2.1 0 42 ∧ zq_at zy_reckon_14_76.2.1 1 3 ∧ zq_at zy_reckon_14_76.2.1 2 181 ∧ zq_at zy_reckon_14_76.2.1 3 0 ∧ zq_at zy_reckon_14_76.2.1 4 187 ∧ zq_at zy_reckon_14_76.2.1 5 3 ∧ zq_at zy_reckon_14_76.2.1 6 60 ∧ zq_at zy_reckon_14_76.2.1 7 27 ∧ zq_at zy_reckon_14_76.2.1 8 42 ∧ zq_at zy_reckon_14_76.2.1 9 180 ∧ zq_at zy_reckon_14_76.2.1 10 0 ∧ zq_at zy_reckon_14_76.2.1 11 85 ∧ zq_at zy_reckon_14_76.2.1 12 4 ∧ zq_at zy_reckon_14_76.2.1 13 100 ∧ zq_at zy_reckon_14_76.2.1 14 162 ∧ zq_at zy_reckon_14_76.2.1 15 0 ∧ zq_at zy_reckon_14_76.2.1 16 184 ∧ zq_at zy_reckon_14_76.2.1 198 177 ∧ zq_at zy_reckon_14_76.2.1 17 27 ∧ zq_at zy_reckon_14_76.2.1 18 4 ∧ zq_at zy_reckon_14_76.2.1 19 96 ∧ zq_at zy_reckon_14_76.2.1 20 61 ∧ zq_at zy_reckon_14_76.2.1 21 3 ∧ zq_at zy_reckon_14_76.2.1 22 62 := by decide +kernel
theorem zd_14_76_0 : zz_D zy_reckon_14_76 0 (.aload_n 0) 1 1 := ⟨zq_42 zg_14_76_0.1, rfl⟩
theorem zd_14_76_1 : zz_D zy_reckon_14_76 1 (.iconst 0) 1 2 := ⟨zq_3 zg_14_76_0.2.1, rfl⟩
theorem zd_14_76_2 : zz_D zy_reckon_14_76 2 (.putfield 187) 3 5 := ⟨zq_181 zg_14_76_0.2.2.1 zg_14_76_0.2.2.2.1 zg_14_76_0.2.2.2.2.1 rfl, rfl⟩
theorem zd_14_76_5 : zz_D zy_reckon_14_76 5 (.iconst 0) 1 6 := ⟨zq_3 zg_14_76_0.2.2.2.2.2.1, rfl⟩
theorem zd_14_76_6 : zz_D zy_reckon_14_76 6 (.istore_n 1) 1 7 := ⟨zq_60 zg_14_76_0.2.2.2.2.2.2.1, rfl⟩
theorem zd_14_76_7 : zz_D zy_reckon_14_76 7 (.iload_n 1) 1 8 := ⟨zq_27 zg_14_76_0.2.2.2.2.2.2.2.1, rfl⟩
theorem zd_14_76_8 : zz_D zy_reckon_14_76 8 (.aload_n 0) 1 9 := ⟨zq_42 zg_14_76_0.2.2.2.2.2.2.2.2.1, rfl⟩
theorem zd_14_76_9 : zz_D zy_reckon_14_76 9 (.getfield 85) 3 12 := ⟨zq_180 zg_14_76_0.2.2.2.2.2.2.2.2.2.1 zg_14_76_0.2.2.2.2.2.2.2.2.2.2.1 zg_14_76_0.2.2.2.2.2.2.2.2.2.2.2.1 rfl, rfl⟩
theorem zd_14_76_12 : zz_D zy_reckon_14_76 12 (.iconst 1) 1 13 := ⟨zq_4 zg_14_76_0.2.2.2.2.2.2.2.2.2.2.2.2.1, rfl⟩
theorem zd_14_76_13 : zz_D zy_reckon_14_76 13 (.isub) 1 14 := ⟨zq_100 zg_14_76_0.2.2.2.2.2.2.2.2.2.2.2.2.2.1, rfl⟩
theorem zd_14_76_14 : zz_B zy_reckon_14_76 14 (Instr.if_icmp .ge) 198 17 := ⟨184, zq_162 zg_14_76_0.2.2.2.2.2.2.2.2.2.2.2.2.2.2.1 zg_14_76_0.2.2.2.2.2.2.2.2.2.2.2.2.2.2.2.1 zg_14_76_0.2.2.2.2.2.2.2.2.2.2.2.2.2.2.2.2.1 (by decide), rfl, rfl⟩
theorem zd_14_76_198 : zz_D zy_reckon_14_76 198 (.return_) 1 199 := ⟨zq_177 zg_14_76_0.2.2.2.2.2.2.2.2.2.2.2.2.2.2.2.2.2.1, rfl⟩
theorem zd_14_76_17 : zz_D zy_reckon_14_76 17 (.iload_n 1) 1 18 := ⟨zq_27 zg_14_76_0.2.2.2.2.2.2.2.2.2.2.2.2.2.2.2.2.2.2.1, rfl⟩
theorem zd_14_76_18 : zz_D zy_reckon_14_76 18 (.iconst 1) 1 19 := ⟨zq_4 zg_14_76_0.2.2.2.2.2.2.2.2.2.2.2.2.2.2.2.2.2.2.2.1, rfl⟩
theorem zd_14_76_19 : zz_D zy_reckon_14_76 19 (.iadd) 1 20 := ⟨zq_96 zg_14_76_0.2.2.2.2.2.2.2.2.2.2.2.2.2.2.2.2.2.2.2.2.1, rfl⟩
theorem zd_14_76_20 : zz_D zy_reckon_14_76 20 (.istore_n 2) 1 21 := ⟨zq_61 zg_14_76_0.2.2.2.2.2.2.2.2.2.2.2.2.2.2.2.2.2.2.2.2.2.1, rfl⟩
theorem zd_14_76_21 : zz_D zy_reckon_14_76 21 (.iconst 0) 1 22 := ⟨zq_3 zg_14_76_0.2.2.2.2.2.2.2.2.2.2.2.2.2.2.2.2.2.2.2.2.2.2.1, rfl⟩
theorem zd_14_76_22 : zz_D zy_reckon_14_76 22 (.istore_n 3) 1 23 := ⟨zq_62 zg_14_76_0.2.2.2.2.2.2.2.2.2.2.2.2.2.2.2.2.2.2.2.2.2.2.2, rfl⟩
theorem zg_14_76_23 : zq_at zy_reckon_14_76.2.1 23 29 ∧ zq_at zy_reckon_14_76.2.1 24 42 ∧ zq_at zy_reckon_14_76.2.1 25 28 ∧ zq_at zy_reckon_14_76.2.1 26 182 ∧ zq_at zy_reckon_14_76.2.1 27 0 ∧ zq_at zy_reckon_14_76.2.1 28 200 ∧ zq_at zy_reckon_14_76.2.1 29 162 ∧ zq_at zy_reckon_14_76.2.1 30 0 ∧ zq_at zy_reckon_14_76.2.1 31 163 ∧ zq_at zy_reckon_14_76.2.1 192 132 ∧ zq_at zy_reckon_14_76.2.1 193 1 ∧ zq_at zy_reckon_14_76.2.1 194 1 ∧ zq_at zy_reckon_14_76.2.1 195 167 ∧ zq_at zy_reckon_14_76.2.1 196 255 ∧ zq_at zy_reckon_14_76.2.1 197 68 ∧ zq_at zy_reckon_14_76.2.1 32 29 ∧ zq_at zy_reckon_14_76.2.1 33 42 ∧ zq_at zy_reckon_14_76.2.1 34 180 ∧ zq_at zy_reckon_14_76.2.1 35 0 ∧ zq_at zy_reckon_14_76.2.1 36 94 ∧ zq_at zy_reckon_14_76.2.1 37 28 ∧ zq_at zy_reckon_14_76.2.1 38 46 ∧ zq_at zy_reckon_14_76.2.1 39 112 := by decide +kernel
theorem zd_14_76_23 : zz_D zy_reckon_14_76 23 (.iload_n 3) 1 24 := ⟨zq_29 zg_14_76_23.1, rfl⟩
theorem zd_14_76_24 : zz_D zy_reckon_14_76 24 (.aload_n 0) 1 25 := ⟨zq_42 zg_14_76_23.2.1, rfl⟩
theorem zd_14_76_25 : zz_D zy_reckon_14_76 25 (.iload_n 2) 1 26 := ⟨zq_28 zg_14_76_23.2.2.1, rfl⟩
theorem zd_14_76_26 : zz_D zy_reckon_14_76 26 (.invokevirtual 200) 3 29 := ⟨zq_182 zg_14_76_23.2.2.2.1 zg_14_76_23.2.2.2.2.1 zg_14_76_23.2.2.2.2.2.1 rfl, rfl⟩
theorem zd_14_76_29 : zz_B zy_reckon_14_76 29 (Instr.if_icmp .ge) 192 32 := ⟨163, zq_162 zg_14_76_23.2.2.2.2.2.2.1 zg_14_76_23.2.2.2.2.2.2.2.1 zg_14_76_23.2.2.2.2.2.2.2.2.1 (by decide), rfl, rfl⟩
theorem zd_14_76_192 : zz_D zy_reckon_14_76 192 (.iinc 1 1) 3 195 := ⟨zq_132 zg_14_76_23.2.2.2.2.2.2.2.2.2.1 zg_14_76_23.2.2.2.2.2.2.2.2.2.2.1 zg_14_76_23.2.2.2.2.2.2.2.2.2.2.2.1 (by decide), rfl⟩
theorem zd_14_76_195 : zz_B zy_reckon_14_76 195 Instr.goto 7 198 := ⟨(-188), zq_167 zg_14_76_23.2.2.2.2.2.2.2.2.2.2.2.2.1 zg_14_76_23.2.2.2.2.2.2.2.2.2.2.2.2.2.1 zg_14_76_23.2.2.2.2.2.2.2.2.2.2.2.2.2.2.1 (by decide), rfl, rfl⟩
theorem zd_14_76_32 : zz_D zy_reckon_14_76 32 (.iload_n 3) 1 33 := ⟨zq_29 zg_14_76_23.2.2.2.2.2.2.2.2.2.2.2.2.2.2.2.1, rfl⟩
theorem zd_14_76_33 : zz_D zy_reckon_14_76 33 (.aload_n 0) 1 34 := ⟨zq_42 zg_14_76_23.2.2.2.2.2.2.2.2.2.2.2.2.2.2.2.2.1, rfl⟩
theorem zd_14_76_34 : zz_D zy_reckon_14_76 34 (.getfield 94) 3 37 := ⟨zq_180 zg_14_76_23.2.2.2.2.2.2.2.2.2.2.2.2.2.2.2.2.2.1 zg_14_76_23.2.2.2.2.2.2.2.2.2.2.2.2.2.2.2.2.2.2.1 zg_14_76_23.2.2.2.2.2.2.2.2.2.2.2.2.2.2.2.2.2.2.2.1 rfl, rfl⟩
theorem zd_14_76_37 : zz_D zy_reckon_14_76 37 (.iload_n 2) 1 38 := ⟨zq_28 zg_14_76_23.2.2.2.2.2.2.2.2.2.2.2.2.2.2.2.2.2.2.2.2.1, rfl⟩
theorem zd_14_76_38 : zz_D zy_reckon_14_76 38 (.iaload) 1 39 := ⟨zq_46 zg_14_76_23.2.2.2.2.2.2.2.2.2.2.2.2.2.2.2.2.2.2.2.2.2.1, rfl⟩
theorem zd_14_76_39 : zz_D zy_reckon_14_76 39 (.irem) 1 40 := ⟨zq_112 zg_14_76_23.2.2.2.2.2.2.2.2.2.2.2.2.2.2.2.2.2.2.2.2.2.2, rfl⟩
theorem zg_14_76_40 : zq_at zy_reckon_14_76.2.1 40 54 ∧ zq_at zy_reckon_14_76.2.1 41 4 ∧ zq_at zy_reckon_14_76.2.1 42 29 ∧ zq_at zy_reckon_14_76.2.1 43 42 ∧ zq_at zy_reckon_14_76.2.1 44 180 ∧ zq_at zy_reckon_14_76.2.1 45 0 ∧ zq_at zy_reckon_14_76.2.1 46 94 ∧ zq_at zy_reckon_14_76.2.1 47 28 ∧ zq_at zy_reckon_14_76.2.1 48 46 ∧ zq_at zy_reckon_14_76.2.1 49 108 ∧ zq_at zy_reckon_14_76.2.1 50 42 ∧ zq_at zy_reckon_14_76.2.1 51 180 ∧ zq_at zy_reckon_14_76.2.1 52 0 ∧ zq_at zy_reckon_14_76.2.1 53 91 ∧ zq_at zy_reckon_14_76.2.1 54 28 ∧ zq_at zy_reckon_14_76.2.1 55 46 ∧ zq_at zy_reckon_14_76.2.1 56 112 ∧ zq_at zy_reckon_14_76.2.1 57 54 ∧ zq_at zy_reckon_14_76.2.1 58 5 ∧ zq_at zy_reckon_14_76.2.1 59 29 ∧ zq_at zy_reckon_14_76.2.1 60 42 ∧ zq_at zy_reckon_14_76.2.1 61 180 ∧ zq_at zy_reckon_14_76.2.1 62 0 ∧ zq_at zy_reckon_14_76.2.1 63 94 := by decide +kernel
theorem zd_14_76_40 : zz_D zy_reckon_14_76 40 (.istore 4) 2 42 := ⟨zq_54 zg_14_76_40.1 zg_14_76_40.2.1, rfl⟩
theorem zd_14_76_42 : zz_D zy_reckon_14_76 42 (.iload_n 3) 1 43 := ⟨zq_29 zg_14_76_40.2.2.1, rfl⟩
theorem zd_14_76_43 : zz_D zy_reckon_14_76 43 (.aload_n 0) 1 44 := ⟨zq_42 zg_14_76_40.2.2.2.1, rfl⟩
theorem zd_14_76_44 : zz_D zy_reckon_14_76 44 (.getfield 94) 3 47 := ⟨zq_180 zg_14_76_40.2.2.2.2.1 zg_14_76_40.2.2.2.2.2.1 zg_14_76_40.2.2.2.2.2.2.1 rfl, rfl⟩
theorem zd_14_76_47 : zz_D zy_reckon_14_76 47 (.iload_n 2) 1 48 := ⟨zq_28 zg_14_76_40.2.2.2.2.2.2.2.1, rfl⟩
theorem zd_14_76_48 : zz_D zy_reckon_14_76 48 (.iaload) 1 49 := ⟨zq_46 zg_14_76_40.2.2.2.2.2.2.2.2.1, rfl⟩
theorem zd_14_76_49 : zz_D zy_reckon_14_76 49 (.idiv) 1 50 := ⟨zq_108 zg_14_76_40.2.2.2.2.2.2.2.2.2.1, rfl⟩
theorem zd_14_76_50 : zz_D zy_reckon_14_76 50 (.aload_n 0) 1 51 := ⟨zq_42 zg_14_76_40.2.2.2.2.2.2.2.2.2.2.1, rfl⟩
theorem zd_14_76_51 : zz_D zy_reckon_14_76 51 (.getfield 91) 3 54 := ⟨zq_180 zg_14_76_40.2.2.2.2.2.2.2.2.2.2.2.1 zg_14_76_40.2.2.2.2.2.2.2.2.2.2.2.2.1 zg_14_76_40.2.2.2.2.2.2.2.2.2.2.2.2.2.1 rfl, rfl⟩
theorem zd_14_76_54 : zz_D zy_reckon_14_76 54 (.iload_n 2) 1 55 := ⟨zq_28 zg_14_76_40.2.2.2.2.2.2.2.2.2.2.2.2.2.2.1, rfl⟩
theorem zd_14_76_55 : zz_D zy_reckon_14_76 55 (.iaload) 1 56 := ⟨zq_46 zg_14_76_40.2.2.2.2.2.2.2.2.2.2.2.2.2.2.2.1, rfl⟩
theorem zd_14_76_56 : zz_D zy_reckon_14_76 56 (.irem) 1 57 := ⟨zq_112 zg_14_76_40.2.2.2.2.2.2.2.2.2.2.2.2.2.2.2.2.1, rfl⟩
theorem zd_14_76_57 : zz_D zy_reckon_14_76 57 (.istore 5) 2 59 := ⟨zq_54 zg_14_76_40.2.2.2.2.2.2.2.2.2.2.2.2.2.2.2.2.2.1 zg_14_76_40.2.2.2.2.2.2.2.2.2.2.2.2.2.2.2.2.2.2.1, rfl⟩
theorem zd_14_76_59 : zz_D zy_reckon_14_76 59 (.iload_n 3) 1 60 := ⟨zq_29 zg_14_76_40.2.2.2.2.2.2.2.2.2.2.2.2.2.2.2.2.2.2.2.1, rfl⟩
theorem zd_14_76_60 : zz_D zy_reckon_14_76 60 (.aload_n 0) 1 61 := ⟨zq_42 zg_14_76_40.2.2.2.2.2.2.2.2.2.2.2.2.2.2.2.2.2.2.2.2.1, rfl⟩
theorem zd_14_76_61 : zz_D zy_reckon_14_76 61 (.getfield 94) 3 64 := ⟨zq_180 zg_14_76_40.2.2.2.2.2.2.2.2.2.2.2.2.2.2.2.2.2.2.2.2.2.1 zg_14_76_40.2.2.2.2.2.2.2.2.2.2.2.2.2.2.2.2.2.2.2.2.2.2.1 zg_14_76_40.2.2.2.2.2.2.2.2.2.2.2.2.2.2.2.2.2.2.2.2.2.2.2 rfl, rfl⟩
theorem zg_14_76_64 : zq_at zy_reckon_14_76.2.1 64 28 ∧ zq_at zy_reckon_14_76.2.1 65 46 ∧ zq_at zy_reckon_14_76.2.1 66 108 ∧ zq_at zy_reckon_14_76.2.1 67 42 ∧ zq_at zy_reckon_14_76.2.1 68 180 ∧ zq_at zy_reckon_14_76.2.1 69 0 ∧ zq_at zy_reckon_14_76.2.1 70 91 ∧ zq_at zy_reckon_14_76.2.1 71 28 ∧ zq_at zy_reckon_14_76.2.1 72 46 ∧ zq_at zy_reckon_14_76.2.1 73 108 ∧ zq_at zy_reckon_14_76.2.1 74 54 ∧ zq_at zy_reckon_14_76.2.1 75 6 ∧ zq_at zy_reckon_14_76.2.1 76 42 ∧ zq_at zy_reckon_14_76.2.1 77 180 ∧ zq_at zy_reckon_14_76.2.1 78 0 ∧ zq_at zy_reckon_14_76.2.1 79 100 ∧ zq_at zy_reckon_14_76.2.1 80 27 ∧ zq_at zy_reckon_14_76.2.1 81 46 ∧ zq_at zy_reckon_14_76.2.1 82 154 ∧ zq_at zy_reckon_14_76.2.1 83 0 ∧ zq_at zy_reckon_14_76.2.1 84 19 ∧ zq_at zy_reckon_14_76.2.1 101 42 := by decide +kernel
theorem zd_14_76_64 : zz_D zy_reckon_14_76 64 (.iload_n 2) 1 65 := ⟨zq_28 zg_14_76_64.1, rfl⟩
theorem zd_14_76_65 : zz_D zy_reckon_14_76 65 (.iaload) 1 66 := ⟨zq_46 zg_14_76_64.2.1, rfl⟩
theorem zd_14_76_66 : zz_D zy_reckon_14_76 66 (.idiv) 1 67 := ⟨zq_108 zg_14_76_64.2.2.1, rfl⟩
theorem zd_14_76_67 : zz_D zy_reckon_14_76 67 (.aload_n 0) 1 68 := ⟨zq_42 zg_14_76_64.2.2.2.1, rfl⟩
theorem zd_14_76_68 : zz_D zy_reckon_14_76 68 (.getfield 91) 3 71 := ⟨zq_180 zg_14_76_64.2.2.2.2.1 zg_14_76_64.2.2.2.2.2.1 zg_14_76_64.2.2.2.2.2.2.1 rfl, rfl⟩
theorem zd_14_76_71 : zz_D zy_reckon_14_76 71 (.iload_n 2) 1 72 := ⟨zq_28 zg_14_76_64.2.2.2.2.2.2.2.1, rfl⟩
theorem zd_14_76_72 : zz_D zy_reckon_14_76 72 (.iaload) 1 73 := ⟨zq_46 zg_14_76_64.2.2.2.2.2.2.2.2.1, rfl⟩
theorem zd_14_76_73 : zz_D zy_reckon_14_76 73 (.idiv) 1 74 := ⟨zq_108 zg_14_76_64.2.2.2.2.2.2.2.2.2.1, rfl⟩
theorem zd_14_76_74 : zz_D zy_reckon_14_76 74 (.istore 6) 2 76 := ⟨zq_54 zg_14_76_64.2.2.2.2.2.2.2.2.2.2.1 zg_14_76_64.2.2.2.2.2.2.2.2.2.2.2.1, rfl⟩
theorem zd_14_76_76 : zz_D zy_reckon_14_76 76 (.aload_n 0) 1 77 := ⟨zq_42 zg_14_76_64.2.2.2.2.2.2.2.2.2.2.2.2.1, rfl⟩
theorem zd_14_76_77 : zz_D zy_reckon_14_76 77 (.getfield 100) 3 80 := ⟨zq_180 zg_14_76_64.2.2.2.2.2.2.2.2.2.2.2.2.2.1 zg_14_76_64.2.2.2.2.2.2.2.2.2.2.2.2.2.2.1 zg_14_76_64.2.2.2.2.2.2.2.2.2.2.2.2.2.2.2.1 rfl, rfl⟩
theorem zd_14_76_80 : zz_D zy_reckon_14_76 80 (.iload_n 1) 1 81 := ⟨zq_27 zg_14_76_64.2.2.2.2.2.2.2.2.2.2.2.2.2.2.2.2.1, rfl⟩
theorem zd_14_76_81 : zz_D zy_reckon_14_76 81 (.iaload) 1 82 := ⟨zq_46 zg_14_76_64.2.2.2.2.2.2.2.2.2.2.2.2.2.2.2.2.2.1, rfl⟩
theorem zd_14_76_82 : zz_B zy_reckon_14_76 82 (Instr.ifCond .ne) 101 85 := ⟨19, zq_154 zg_14_76_64.2.2.2.2.2.2.2.2.2.2.2.2.2.2.2.2.2.2.1 zg_14_76_64.2.2.2.2.2.2.2.2.2.2.2.2.2.2.2.2.2.2.2.1 zg_14_76_64.2.2.2.2.2.2.2.2.2.2.2.2.2.2.2.2.2.2.2.2.1 (by decide), rfl, rfl⟩
theorem zd_14_76_101 : zz_D zy_reckon_14_76 101 (.aload_n 0) 1 102 := ⟨zq_42 zg_14_76_64.2.2.2.2.2.2.2.2.2.2.2.2.2.2.2.2.2.2.2.2.2, rfl⟩
theorem zg_14_76_102 : zq_at zy_reckon_14_76.2.1 102 180 ∧ zq_at zy_reckon_14_76.2.1 103 0 ∧ zq_at zy_reckon_14_76.2.1 104 100 ∧ zq_at zy_reckon_14_76.2.1 105 27 ∧ zq_at zy_reckon_14_76.2.1 106 46 ∧ zq_at zy_reckon_14_76.2.1 107 4 ∧ zq_at zy_reckon_14_76.2.1 108 160 ∧ zq_at zy_reckon_14_76.2.1 109 0 ∧ zq_at zy_reckon_14_76.2.1 110 19 ∧ zq_at zy_reckon_14_76.2.1 127 42 ∧ zq_at zy_reckon_14_76.2.1 128 42 ∧ zq_at zy_reckon_14_76.2.1 129 180 ∧ zq_at zy_reckon_14_76.2.1 130 0 ∧ zq_at zy_reckon_14_76.2.1 131 103 ∧ zq_at zy_reckon_14_76.2.1 132 27 ∧ zq_at zy_reckon_14_76.2.1 133 46 ∧ zq_at zy_reckon_14_76.2.1 134 21 ∧ zq_at zy_reckon_14_76.2.1 135 6 ∧ zq_at zy_reckon_14_76.2.1 136 21 ∧ zq_at zy_reckon_14_76.2.1 137 5 ∧ zq_at zy_reckon_14_76.2.1 138 21 ∧ zq_at zy_reckon_14_76.2.1 139 4 := by decide +kernel
theorem zd_14_76_102 : zz_D zy_reckon_14_76 102 (.getfield 100) 3 105 := ⟨zq_180 zg_14_76_102.1 zg_14_76_102.2.1 zg_14_76_102.2.2.1 rfl, rfl⟩
theorem zd_14_76_105 : zz_D zy_reckon_14_76 105 (.iload_n 1) 1 106 := ⟨zq_27 zg_14_76_102.2.2.2.1, rfl⟩
theorem zd_14_76_106 : zz_D zy_reckon_14_76 106 (.iaload) 1 107 := ⟨zq_46 zg_14_76_102.2.2.2.2.1, rfl⟩
theorem zd_14_76_107 : zz_D zy_reckon_14_76 107 (.iconst 1) 1 108 := ⟨zq_4 zg_14_76_102.2.2.2.2.2.1, rfl⟩
theorem zd_14_76_108 : zz_B zy_reckon_14_76 108 (Instr.if_icmp .ne) 127 111 := ⟨19, zq_160 zg_14_76_102.2.2.2.2.2.2.1 zg_14_76_102.2.2.2.2.2.2.2.1 zg_14_76_102.2.2.2.2.2.2.2.2.1 (by decide), rfl, rfl⟩
theorem zd_14_76_127 : zz_D zy_reckon_14_76 127 (.aload_n 0) 1 128 := ⟨zq_42 zg_14_76_102.2.2.2.2.2.2.2.2.2.1, rfl⟩
theorem zd_14_76_128 : zz_D zy_reckon_14_76 128 (.aload_n 0) 1 129 := ⟨zq_42 zg_14_76_102.2.2.2.2.2.2.2.2.2.2.1, rfl⟩
theorem zd_14_76_129 : zz_D zy_reckon_14_76 129 (.getfield 103) 3 132 := ⟨zq_180 zg_14_76_102.2.2.2.2.2.2.2.2.2.2.2.1 zg_14_76_102.2.2.2.2.2.2.2.2.2.2.2.2.1 zg_14_76_102.2.2.2.2.2.2.2.2.2.2.2.2.2.1 rfl, rfl⟩
theorem zd_14_76_132 : zz_D zy_reckon_14_76 132 (.iload_n 1) 1 133 := ⟨zq_27 zg_14_76_102.2.2.2.2.2.2.2.2.2.2.2.2.2.2.1, rfl⟩
theorem zd_14_76_133 : zz_D zy_reckon_14_76 133 (.iaload) 1 134 := ⟨zq_46 zg_14_76_102.2.2.2.2.2.2.2.2.2.2.2.2.2.2.2.1, rfl⟩
theorem zd_14_76_134 : zz_D zy_reckon_14_76 134 (.iload 6) 2 136 := ⟨zq_21 zg_14_76_102.2.2.2.2.2.2.2.2.2.2.2.2.2.2.2.2.1 zg_14_76_102.2.2.2.2.2.2.2.2.2.2.2.2.2.2.2.2.2.1, rfl⟩
theorem zd_14_76_136 : zz_D zy_reckon_14_76 136 (.iload 5) 2 138 := ⟨zq_21 zg_14_76_102.2.2.2.2.2.2.2.2.2.2.2.2.2.2.2.2.2.2.1 zg_14_76_102.2.2.2.2.2.2.2.2.2.2.2.2.2.2.2.2.2.2.2.1, rfl⟩
theorem zd_14_76_138 : zz_D zy_reckon_14_76 138 (.iload 4) 2 140 := ⟨zq_21 zg_14_76_102.2.2.2.2.2.2.2.2.2.2.2.2.2.2.2.2.2.2.2.2.1 zg_14_76_102.2.2.2.2.2.2.2.2.2.2.2.2.2.2.2.2.2.2.2.2.2, rfl⟩
theorem zg_14_76_140 : zq_at zy_reckon_14_76.2.1 140 182 ∧ zq_at zy_reckon_14_76.2.1 141 1 ∧ zq_at zy_reckon_14_76.2.1 142 182 ∧ zq_at zy_reckon_14_76.2.1 143 42 ∧ zq_at zy_reckon_14_76.2.1 144 42 ∧ zq_at zy_reckon_14_76.2.1 145 180 ∧ zq_at zy_reckon_14_76.2.1 146 0 ∧ zq_at zy_reckon_14_76.2.1 147 106 ∧ zq_at zy_reckon_14_76.2.1 148 27 ∧ zq_at zy_reckon_14_76.2.1 149 46 ∧ zq_at zy_reckon_14_76.2.1 150 21 ∧ zq_at zy_reckon_14_76.2.1 151 6 ∧ zq_at zy_reckon_14_76.2.1 152 21 ∧ zq_at zy_reckon_14_76.2.1 153 5 ∧ zq_at zy_reckon_14_76.2.1 154 21 ∧ zq_at zy_reckon_14_76.2.1 155 4 ∧ zq_at zy_reckon_14_76.2.1 156 182 ∧ zq_at zy_reckon_14_76.2.1 157 1 ∧ zq_at zy_reckon_14_76.2.1 158 182 ∧ zq_at zy_reckon_14_76.2.1 159 96 ∧ zq_at zy_reckon_14_76.2.1 160 42 ∧ zq_at zy_reckon_14_76.2.1 161 180 ∧ zq_at zy_reckon_14_76.2.1 162 0 ∧ zq_at zy_reckon_14_76.2.1 163 121 := by decide +kernel
theorem zd_14_76_140 : zz_D zy_reckon_14_76 140 (.invokevirtual 438) 3 143 := ⟨zq_182 zg_14_76_140.1 zg_14_76_140.2.1 zg_14_76_140.2.2.1 rfl, rfl⟩
theorem zd_14_76_143 : zz_D zy_reckon_14_76 143 (.aload_n 0) 1 144 := ⟨zq_42 zg_14_76_140.2.2.2.1, rfl⟩
theorem zd_14_76_144 : zz_D zy_reckon_14_76 144 (.aload_n 0) 1 145 := ⟨zq_42 zg_14_76_140.2.2.2.2.1, rfl⟩
theorem zd_14_76_145 : zz_D zy_reckon_14_76 145 (.getfield 106) 3 148 := ⟨zq_180 zg_14_76_140.2.2.2.2.2.1 zg_14_76_140.2.2.2.2.2.2.1 zg_14_76_140.2.2.2.2.2.2.2.1 rfl, rfl⟩
theorem zd_14_76_148 : zz_D zy_reckon_14_76 148 (.iload_n 1) 1 149 := ⟨zq_27 zg_14_76_140.2.2.2.2.2.2.2.2.1, rfl⟩
theorem zd_14_76_149 : zz_D zy_reckon_14_76 149 (.iaload) 1 150 := ⟨zq_46 zg_14_76_140.2.2.2.2.2.2.2.2.2.1, rfl⟩
theorem zd_14_76_150 : zz_D zy_reckon_14_76 150 (.iload 6) 2 152 := ⟨zq_21 zg_14_76_140.2.2.2.2.2.2.2.2.2.2.1 zg_14_76_140.2.2.2.2.2.2.2.2.2.2.2.1, rfl⟩
theorem zd_14_76_152 : zz_D zy_reckon_14_76 152 (.iload 5) 2 154 := ⟨zq_21 zg_14_76_140.2.2.2.2.2.2.2.2.2.2.2.2.1 zg_14_76_140.2.2.2.2.2.2.2.2.2.2.2.2.2.1, rfl⟩
theorem zd_14_76_154 : zz_D zy_reckon_14_76 154 (.iload 4) 2 156 := ⟨zq_21 zg_14_76_140.2.2.2.2.2.2.2.2.2.2.2.2.2.2.1 zg_14_76_140.2.2.2.2.2.2.2.2.2.2.2.2.2.2.2.1, rfl⟩
theorem zd_14_76_156 : zz_D zy_reckon_14_76 156 (.invokevirtual 438) 3 159 := ⟨zq_182 zg_14_76_140.2.2.2.2.2.2.2.2.2.2.2.2.2.2.2.2.1 zg_14_76_140.2.2.2.2.2.2.2.2.2.2.2.2.2.2.2.2.2.1 zg_14_76_140.2.2.2.2.2.2.2.2.2.2.2.2.2.2.2.2.2.2.1 rfl, rfl⟩
theorem zd_14_76_159 : zz_D zy_reckon_14_76 159 (.iadd) 1 160 := ⟨zq_96 zg_14_76_140.2.2.2.2.2.2.2.2.2.2.2.2.2.2.2.2.2.2.2.1, rfl⟩
theorem zd_14_76_160 : zz_D zy_reckon_14_76 160 (.aload_n 0) 1 161 := ⟨zq_42 zg_14_76_140.2.2.2.2.2.2.2.2.2.2.2.2.2.2.2.2.2.2.2.2.1, rfl⟩
theorem zd_14_76_161 : zz_D zy_reckon_14_76 161 (.getfield 121) 3 164 := ⟨zq_180 zg_14_76_140.2.2.2.2.2.2.2.2.2.2.2.2.2.2.2.2.2.2.2.2.2.1 zg_14_76_140.2.2.2.2.2.2.2.2.2.2.2.2.2.2.2.2.2.2.2.2.2.2.1 zg_14_76_140.2.2.2.2.2.2.2.2.2.2.2.2.2.2.2.2.2.2.2.2.2.2.2 rfl, rfl⟩
theorem zg_14_76_164 : zq_at zy_reckon_14_76.2.1 164 27 ∧ zq_at zy_reckon_14_76.2.1 165 46 ∧ zq_at zy_reckon_14_76.2.1 166 184 ∧ zq_at zy_reckon_14_76.2.1 167 1 ∧ zq_at zy_reckon_14_76.2.1 168 5 ∧ zq_at zy_reckon_14_76.2.1 169 54 ∧ zq_at zy_reckon_14_76.2.1 170 7 ∧ zq_at zy_reckon_14_76.2.1 171 42 ∧ zq_at zy_reckon_14_76.2.1 172 180 ∧ zq_at zy_reckon_14_76.2.1 173 0 ∧ zq_at zy_reckon_14_76.2.1 174 13 ∧ zq_at zy_reckon_14_76.2.1 175 42 ∧ zq_at zy_reckon_14_76.2.1 176 180 ∧ zq_at zy_reckon_14_76.2.1 177 0 ∧ zq_at zy_reckon_14_76.2.1 178 97 ∧ zq_at zy_reckon_14_76.2.1 179 28 ∧ zq_at zy_reckon_14_76.2.1 180 46 ∧ zq_at zy_reckon_14_76.2.1 181 29 ∧ zq_at zy_reckon_14_76.2.1 182 96 ∧ zq_at zy_reckon_14_76.2.1 183 21 ∧ zq_at zy_reckon_14_76.2.1 184 7 ∧ zq_at zy_reckon_14_76.2.1 185 79 := by decide +kernel
theorem zd_14_76_164 : zz_D zy_reckon_14_76 164 (.iload_n 1) 1 165 := ⟨zq_27 zg_14_76_164.1, rfl⟩
theorem zd_14_76_165 : zz_D zy_reckon_14_76 165 (.iaload) 1 166 := ⟨zq_46 zg_14_76_164.2.1, rfl⟩
theorem zd_14_76_166 : zz_D zy_reckon_14_76 166 (.invokestatic 261) 3 169 := ⟨zq_184 zg_14_76_164.2.2.1 zg_14_76_164.2.2.2.1 zg_14_76_164.2.2.2.2.1 rfl, rfl⟩
theorem zd_14_76_169 : zz_D zy_reckon_14_76 169 (.istore 7) 2 171 := ⟨zq_54 zg_14_76_164.2.2.2.2.2.1 zg_14_76_164.2.2.2.2.2.2.1, rfl⟩
theorem zd_14_76_171 : zz_D zy_reckon_14_76 171 (.aload_n 0) 1 172 := ⟨zq_42 zg_14_76_164.2.2.2.2.2.2.2.1, rfl⟩
theorem zd_14_76_172 : zz_D zy_reckon_14_76 172 (.getfield 13) 3 175 := ⟨zq_180 zg_14_76_164.2.2.2.2.2.2.2.2.1 zg_14_76_164.2.2.2.2.2.2.2.2.2.1 zg_14_76_164.2.2.2.2.2.2.2.2.2.2.1 rfl, rfl⟩
theorem zd_14_76_175 : zz_D zy_reckon_14_76 175 (.aload_n 0) 1 176 := ⟨zq_42 zg_14_76_164.2.2.2.2.2.2.2.2.2.2.2.1, rfl⟩
theorem zd_14_76_176 : zz_D zy_reckon_14_76 176 (.getfield 97) 3 179 := ⟨zq_180 zg_14_76_164.2.2.2.2.2.2.2.2.2.2.2.2.1 zg_14_76_164.2.2.2.2.2.2.2.2.2.2.2.2.2.1 zg_14_76_164.2.2.2.2.2.2.2.2.2.2.2.2.2.2.1 rfl, rfl⟩
theorem zd_14_76_179 : zz_D zy_reckon_14_76 179 (.iload_n 2) 1 180 := ⟨zq_28 zg_14_76_164.2.2.2.2.2.2.2.2.2.2.2.2.2.2.2.1, rfl⟩
theorem zd_14_76_180 : zz_D zy_reckon_14_76 180 (.iaload) 1 181 := ⟨zq_46 zg_14_76_164.2.2.2.2.2.2.2.2.2.2.2.2.2.2.2.2.1, rfl⟩
theorem zd_14_76_181 : zz_D zy_reckon_14_76 181 (.iload_n 3) 1 182 := ⟨zq_29 zg_14_76_164.2.2.2.2.2.2.2.2.2.2.2.2.2.2.2.2.2.1, rfl⟩
theorem zd_14_76_182 : zz_D zy_reckon_14_76 182 (.iadd) 1 183 := ⟨zq_96 zg_14_76_164.2.2.2.2.2.2.2.2.2.2.2.2.2.2.2.2.2.2.1, rfl⟩
theorem zd_14_76_183 : zz_D zy_reckon_14_76 183 (.iload 7) 2 185 := ⟨zq_21 zg_14_76_164.2.2.2.2.2.2.2.2.2.2.2.2.2.2.2.2.2.2.2.1 zg_14_76_164.2.2.2.2.2.2.2.2.2.2.2.2.2.2.2.2.2.2.2.2.1, rfl⟩
theorem zd_14_76_185 : zz_D zy_reckon_14_76 185 (.iastore) 1 186 := ⟨zq_79 zg_14_76_164.2.2.2.2.2.2.2.2.2.2.2.2.2.2.2.2.2.2.2.2.2, rfl⟩
theorem zg_14_76_186 : zq_at zy_reckon_14_76.2.1 186 132 ∧ zq_at zy_reckon_14_76.2.1 187 3 ∧ zq_at zy_reckon_14_76.2.1 188 1 ∧ zq_at zy_reckon_14_76.2.1 189 167 ∧ zq_at zy_reckon_14_76.2.1 190 255 ∧ zq_at zy_reckon_14_76.2.1 191 90 ∧ zq_at zy_reckon_14_76.2.1 111 42 ∧ zq_at zy_reckon_14_76.2.1 112 27 ∧ zq_at zy_reckon_14_76.2.1 113 21 ∧ zq_at zy_reckon_14_76.2.1 114 6 ∧ zq_at zy_reckon_14_76.2.1 115 21 ∧ zq_at zy_reckon_14_76.2.1 116 5 ∧ zq_at zy_reckon_14_76.2.1 117 21 ∧ zq_at zy_reckon_14_76.2.1 118 4 ∧ zq_at zy_reckon_14_76.2.1 119 182 ∧ zq_at zy_reckon_14_76.2.1 120 1 ∧ zq_at zy_reckon_14_76.2.1 121 188 ∧ zq_at zy_reckon_14_76.2.1 122 54 ∧ zq_at zy_reckon_14_76.2.1 123 7 ∧ zq_at zy_reckon_14_76.2.1 124 167 ∧ zq_at zy_reckon_14_76.2.1 125 0 ∧ zq_at zy_reckon_14_76.2.1 126 47 ∧ zq_at zy_reckon_14_76.2.1 85 42 ∧ zq_at zy_reckon_14_76.2.1 86 27 := by decide +kernel
theorem zd_14_76_186 : zz_D zy_reckon_14_76 186 (.iinc 3 1) 3 189 := ⟨zq_132 zg_14_76_186.1 zg_14_76_186.2.1 zg_14_76_186.2.2.1 (by decide), rfl⟩
theorem zd_14_76_189 : zz_B zy_reckon_14_76 189 Instr.goto 23 192 := ⟨(-166), zq_167 zg_14_76_186.2.2.2.1 zg_14_76_186.2.2.2.2.1 zg_14_76_186.2.2.2.2.2.1 (by decide), rfl, rfl⟩
theorem zd_14_76_111 : zz_D zy_reckon_14_76 111 (.aload_n 0) 1 112 := ⟨zq_42 zg_14_76_186.2.2.2.2.2.2.1, rfl⟩
theorem zd_14_76_112 : zz_D zy_reckon_14_76 112 (.iload_n 1) 1 113 := ⟨zq_27 zg_14_76_186.2.2.2.2.2.2.2.1, rfl⟩
theorem zd_14_76_113 : zz_D zy_reckon_14_76 113 (.iload 6) 2 115 := ⟨zq_21 zg_14_76_186.2.2.2.2.2.2.2.2.1 zg_14_76_186.2.2.2.2.2.2.2.2.2.1, rfl⟩
theorem zd_14_76_115 : zz_D zy_reckon_14_76 115 (.iload 5) 2 117 := ⟨zq_21 zg_14_76_186.2.2.2.2.2.2.2.2.2.2.1 zg_14_76_186.2.2.2.2.2.2.2.2.2.2.2.1, rfl⟩
theorem zd_14_76_117 : zz_D zy_reckon_14_76 117 (.iload 4) 2 119 := ⟨zq_21 zg_14_76_186.2.2.2.2.2.2.2.2.2.2.2.2.1 zg_14_76_186.2.2.2.2.2.2.2.2.2.2.2.2.2.1, rfl⟩
theorem zd_14_76_119 : zz_D zy_reckon_14_76 119 (.invokevirtual 444) 3 122 := ⟨zq_182 zg_14_76_186.2.2.2.2.2.2.2.2.2.2.2.2.2.2.1 zg_14_76_186.2.2.2.2.2.2.2.2.2.2.2.2.2.2.2.1 zg_14_76_186.2.2.2.2.2.2.2.2.2.2.2.2.2.2.2.2.1 rfl, rfl⟩
theorem zd_14_76_122 : zz_D zy_reckon_14_76 122 (.istore 7) 2 124 := ⟨zq_54 zg_14_76_186.2.2.2.2.2.2.2.2.2.2.2.2.2.2.2.2.2.1 zg_14_76_186.2.2.2.2.2.2.2.2.2.2.2.2.2.2.2.2.2.2.1, rfl⟩
theorem zd_14_76_124 : zz_B zy_reckon_14_76 124 Instr.goto 171 127 := ⟨47, zq_167 zg_14_76_186.2.2.2.2.2.2.2.2.2.2.2.2.2.2.2.2.2.2.2.1 zg_14_76_186.2.2.2.2.2.2.2.2.2.2.2.2.2.2.2.2.2.2.2.2.1 zg_14_76_186.2.2.2.2.2.2.2.2.2.2.2.2.2.2.2.2.2.2.2.2.2.1 (by decide), rfl, rfl⟩
theorem zd_14_76_85 : zz_D zy_reckon_14_76 85 (.aload_n 0) 1 86 := ⟨zq_42 zg_14_76_186.2.2.2.2.2.2.2.2.2.2.2.2.2.2.2.2.2.2.2.2.2.2.1, rfl⟩
theorem zd_14_76_86 : zz_D zy_reckon_14_76 86 (.iload_n 1) 1 87 := ⟨zq_27 zg_14_76_186.2.2.2.2.2.2.2.2.2.2.2.2.2.2.2.2.2.2.2.2.2.2.2, rfl⟩
theorem zg_14_76_87 : zq_at zy_reckon_14_76.2.1 87 21 ∧ zq_at zy_reckon_14_76.2.1 88 6 ∧ zq_at zy_reckon_14_76.2.1 89 21 ∧ zq_at zy_reckon_14_76.2.1 90 5 ∧ zq_at zy_reckon_14_76.2.1 91 21 ∧ zq_at zy_reckon_14_76.2.1 92 4 ∧ zq_at zy_reckon_14_76.2.1 93 182 ∧ zq_at zy_reckon_14_76.2.1 94 1 ∧ zq_at zy_reckon_14_76.2.1 95 185 ∧ zq_at zy_reckon_14_76.2.1 96 54 ∧ zq_at zy_reckon_14_76.2.1 97 7 ∧ zq_at zy_reckon_14_76.2.1 98 167 ∧ zq_at zy_reckon_14_76.2.1 99 0 ∧ zq_at zy_reckon_14_76.2.1 100 73 := by decide +kernel
theorem zd_14_76_87 : zz_D zy_reckon_14_76 87 (.iload 6) 2 89 := ⟨zq_21 zg_14_76_87.1 zg_14_76_87.2.1, rfl⟩
theorem zd_14_76_89 : zz_D zy_reckon_14_76 89 (.iload 5) 2 91 := ⟨zq_21 zg_14_76_87.2.2.1 zg_14_76_87.2.2.2.1, rfl⟩
theorem zd_14_76_91 : zz_D zy_reckon_14_76 91 (.iload 4) 2 93 := ⟨zq_21 zg_14_76_87.2.2.2.2.1 zg_14_76_87.2.2.2.2.2.1, rfl⟩
theorem zd_14_76_93 : zz_D zy_reckon_14_76 93 (.invokevirtual 441) 3 96 := ⟨zq_182 zg_14_76_87.2.2.2.2.2.2.1 zg_14_76_87.2.2.2.2.2.2.2.1 zg_14_76_87.2.2.2.2.2.2.2.2.1 rfl, rfl⟩
theorem zd_14_76_96 : zz_D zy_reckon_14_76 96 (.istore 7) 2 98 := ⟨zq_54 zg_14_76_87.2.2.2.2.2.2.2.2.2.1 zg_14_76_87.2.2.2.2.2.2.2.2.2.2.1, rfl⟩
theorem zd_14_76_98 : zz_B zy_reckon_14_76 98 Instr.goto 171 101 := ⟨73, zq_167 zg_14_76_87.2.2.2.2.2.2.2.2.2.2.2.1 zg_14_76_87.2.2.2.2.2.2.2.2.2.2.2.2.1 zg_14_76_87.2.2.2.2.2.2.2.2.2.2.2.2.2 (by decide), rfl, rfl⟩
-- TensorForgeModel reckon ()V
abbrev zr_reckon_14_76 : Room := { frames := 3, cells := 0, slots := 0, locals := 56 }
def zp_reckon_14_76  (S0 : zz_S) : zz_S → Prop := fun S => zz_G S ∧ zz_fr [(1079, 0)] [1080] (fun _ _ => False) S0 S ∧ (zz_Hr S)
theorem zb_reckon_14_76_7 {g : mm_G} {l : Launch}  (S0 : zz_S) (n : Nat) (hn : zz_end ≤ n) (G_S0 : zz_G S0) (R_S0 : zz_Hr S0) (x1 : Int) (S : zz_S) (G_S : zz_G S) (F_S : zz_fr [(1079, 0)] [1080] (fun _ _ => False) S0 S) (i7_0 : 0 ≤ x1 ∧ x1 ≤ 10) (i7_1 : zz_Hr S) (R : Nat) (hR : (34359738368 + (2147483647 - x1).toNat) * 1099511627776 + 1099511627775 = R) (k23 : ∀ (x1 : Int) (x2 : Int) (x3 : Int) (S : zz_S), zz_G S → zz_fr [(1079, 0)] [1080] (fun _ _ => False) S0 S → (0 ≤ x1 ∧ x1 ≤ 9) → (1 ≤ x2 ∧ x2 ≤ 10) → (0 ≤ x3 ∧ x3 ≤ 250047) → (0 ≤ x1 ∧ x1 ≤ 10) → (x2 = x1 + 1) → (x1 + 1 < S0 1079 36) → (zz_Hr S) → (34359738368 + (2147483647 - x1).toNat) * 1099511627776 + (17179869184 + (2147483647 - x3).toNat) < R → zz_E g l zy_reckon_14_76 zr_reckon_14_76 (zz_QV n (zp_reckon_14_76  S0)) S n 23 [some (.ref 1079), some (zi x1), some (zi x2), some (zi x3)] [] 0 0) : zz_E g l zy_reckon_14_76 zr_reckon_14_76 (zz_QV n (zp_reckon_14_76  S0)) S n 7 [some (.ref 1079), some (zi x1)] [] 0 0 := by
  have R_S := i7_1
  refine zz_iload_n (x := x1) rfl zd_14_76_7 ?_
  refine zz_aload_n (x := 1079) rfl zd_14_76_8 ?_
  have g2 := zz_G.r G_S0 1079 36 0 11 rfl rfl
  refine zz_geti (z := S0 1079 36) zd_14_76_9 zf_Md_85 zT_1079 rfl (zz_ltn hn rfl) (zz_rc F_S rfl rfl (fun h => h) rfl) ?_
  refine zz_iconst zd_14_76_12 ?_
  refine zz_isub zd_14_76_13 ?_
  refine zz_icmp_ge (by omega) (by omega) zd_14_76_14 (fun c3 => ?_) (fun c3 => ?_)
  · exact zz_vret zd_14_76_198 rfl (Nat.zero_le _) (Nat.zero_le _) ⟨_, rfl, G_S, F_S, R_S⟩
  · refine zz_iload_n (x := x1) rfl zd_14_76_17 ?_
    refine zz_iconst zd_14_76_18 ?_
    refine zz_iadd zd_14_76_19 ?_
    refine zz_istore_n [some (.ref 1079), some (zi x1), some (zi (x1 + 1))] zd_14_76_20 (by decide) rfl ?_
    refine zz_iconst zd_14_76_21 ?_
    refine zz_istore_n [some (.ref 1079), some (zi x1), some (zi (x1 + 1)), some (zi 0)] zd_14_76_22 (by decide) rfl ?_
    refine zz_less (ls1 := [some (.ref 1079), some (zi x1), some (zi (x1 + 1)), some (zi 0)]) ⟨rfl, ⟨rfl, ⟨rfl, ⟨rfl, trivial⟩⟩⟩⟩ ?_
    exact k23 x1 (x1 + 1) 0 S G_S F_S (by omega) (by omega) (by omega) (by omega) (by omega) (by omega) R_S (by omega)
theorem zb_reckon_14_76_23 {g : mm_G} {l : Launch}  (S0 : zz_S) (n : Nat) (hn : zz_end ≤ n) (G_S0 : zz_G S0) (R_S0 : zz_Hr S0) (x1 : Int) (x2 : Int) (x3 : Int) (S : zz_S) (G_S : zz_G S) (F_S : zz_fr [(1079, 0)] [1080] (fun _ _ => False) S0 S) (i23_0 : 0 ≤ x1 ∧ x1 ≤ 9) (i23_1 : 1 ≤ x2 ∧ x2 ≤ 10) (i23_2 : 0 ≤ x3 ∧ x3 ≤ 250047) (i23_3 : 0 ≤ x1 ∧ x1 ≤ 10) (i23_4 : x2 = x1 + 1) (i23_5 : x1 + 1 < S0 1079 36) (i23_6 : zz_Hr S) (R : Nat) (hR : (34359738368 + (2147483647 - x1).toNat) * 1099511627776 + (17179869184 + (2147483647 - x3).toNat) = R) (k7 : ∀ (x1 : Int) (S : zz_S), zz_G S → zz_fr [(1079, 0)] [1080] (fun _ _ => False) S0 S → (0 ≤ x1 ∧ x1 ≤ 10) → (zz_Hr S) → (34359738368 + (2147483647 - x1).toNat) * 1099511627776 + 1099511627775 < R → zz_E g l zy_reckon_14_76 zr_reckon_14_76 (zz_QV n (zp_reckon_14_76  S0)) S n 7 [some (.ref 1079), some (zi x1)] [] 0 0) (k23 : ∀ (x1 : Int) (x2 : Int) (x3 : Int) (S : zz_S), zz_G S → zz_fr [(1079, 0)] [1080] (fun _ _ => False) S0 S → (0 ≤ x1 ∧ x1 ≤ 9) → (1 ≤ x2 ∧ x2 ≤ 10) → (0 ≤ x3 ∧ x3 ≤ 250047) → (0 ≤ x1 ∧ x1 ≤ 10) → (x2 = x1 + 1) → (x1 + 1 < S0 1079 36) → (zz_Hr S) → (34359738368 + (2147483647 - x1).toNat) * 1099511627776 + (17179869184 + (2147483647 - x3).toNat) < R → zz_E g l zy_reckon_14_76 zr_reckon_14_76 (zz_QV n (zp_reckon_14_76  S0)) S n 23 [some (.ref 1079), some (zi x1), some (zi x2), some (zi x3)] [] 0 0) : zz_E g l zy_reckon_14_76 zr_reckon_14_76 (zz_QV n (zp_reckon_14_76  S0)) S n 23 [some (.ref 1079), some (zi x1), some (zi x2), some (zi x3)] [] 0 0 := by
  have R_S := i23_6
  refine zz_iload_n (x := x3) rfl zd_14_76_23 ?_
  refine zz_aload_n (x := 1079) rfl zd_14_76_24 ?_
  refine zz_iload_n (x := x2) rfl zd_14_76_25 ?_
  have g4 := zz_G.r G_S0 1102 x2.toNat 0 63 rfl rfl
  have e5 : S 1102 x2.toNat = S0 1102 x2.toNat := (zz_rc F_S (zz_nc1 rfl) rfl (fun h => h) rfl)
  have g6 := zz_G.r G_S0 1103 x2.toNat 0 63 rfl rfl
  have e7 : S 1103 x2.toNat = S0 1103 x2.toNat := (zz_rc F_S (zz_nc1 rfl) rfl (fun h => h) rfl)
  have g8 := zz_G.r G_S0 1104 x2.toNat 0 63 rfl rfl
  have e9 : S 1104 x2.toNat = S0 1104 x2.toNat := (zz_rc F_S (zz_nc1 rfl) rfl (fun h => h) rfl)
  refine zz_callVI [zi x2] zd_14_76_26 zk_Md_200 zT_1079 (zz_ltn hn rfl) rfl rfl ⟨Nat.le_of_ble_eq_true rfl, Nat.le_of_ble_eq_true rfl⟩ ⟨rfl, rfl⟩ (Nat.zero_le _) (Nat.zero_le _) (zc_sizeOf_14_90 x2 S n hn G_S (by omega)) (fun v11 S10 hP => ?_)
  obtain ⟨rfl, o12, o13⟩ := hP
  refine zz_icmp_ge (by omega) (by omega) zd_14_76_29 (fun c14 => ?_) (fun c14 => ?_)
  · refine zz_iinc [some (.ref 1079), some (zi (x1 + 1)), some (zi x2), some (zi x3)] zd_14_76_192 rfl rfl ?_
    refine zz_goto zd_14_76_195 ?_
    refine zz_less (ls1 := [some (.ref 1079), some (zi (x1 + 1))]) ⟨rfl, ⟨rfl, trivial⟩⟩ ?_
    exact k7 (x1 + 1) S G_S F_S (by omega) R_S (by omega)
  · have e92 : x2 = x1 + 1 := by omega
    have hz9 := R_S0.1 x2.toNat (by omega)
    unfold zz_tn zz_sz at hz9
    have d2 : S 1102 x2.toNat = S0 1102 x2.toNat := zz_rc F_S (zz_nc1 rfl) rfl (fun h => h) rfl
    have d3 : S 1103 x2.toNat = S0 1103 x2.toNat := zz_rc F_S (zz_nc1 rfl) rfl (fun h => h) rfl
    have d4 : S 1104 x2.toNat = S0 1104 x2.toNat := zz_rc F_S (zz_nc1 rfl) rfl (fun h => h) rfl
    have d5 : S 1102 x2.toNat * S 1103 x2.toNat * S 1104 x2.toNat = S0 1102 x2.toNat * S0 1103 x2.toNat * S0 1104 x2.toNat := by rw [d2, d3, d4]
    have hs9 := zz_ny2 (h := S0 1102 x2.toNat) (w := S0 1103 x2.toNat) (c := S0 1104 x2.toNat) (k := x3) (by omega) (by omega) (by omega)
    have gf9 := zz_G.r G_S0 1105 x2.toNat (0) (if x2.toNat = 0 then 0 else 10000000) rfl rfl
    have u2 : S0 1102 (x1 + 1).toNat = S0 1102 x2.toNat := by rw [e92]
    have u3 : S0 1103 (x1 + 1).toNat = S0 1103 x2.toNat := by rw [e92]
    have u4 : S0 1104 (x1 + 1).toNat = S0 1104 x2.toNat := by rw [e92]
    refine zz_iload_n (x := x3) rfl zd_14_76_32 ?_
    refine zz_aload_n (x := 1079) rfl zd_14_76_33 ?_
    refine zz_getr (kd := 0) (z := 1104) zd_14_76_34 zf_Md_94 zT_1079 rfl (zz_ltn hn rfl) (zz_G.eq G_S 1079 39 1104 rfl rfl) (by decide) 1104 rfl ?_
    refine zz_iload_n (x := x2) rfl zd_14_76_37 ?_
    refine zz_iald (z := S0 1104 x2.toNat) zd_14_76_38 zT_1104 rfl (zz_ltn hn rfl) (by decide) (by omega) (zz_rc F_S (zz_nc1 rfl) rfl (fun h => h) rfl) ?_
    refine zz_irem (by omega) (by omega) zd_14_76_39 (fun v15 hv15 av15 bv15 cv15 => ?_)
    obtain rfl : v15 = x3 % (S0 1104 x2.toNat) := by omega
    refine zz_istore [some (.ref 1079), some (zi x1), some (zi x2), some (zi x3), some (zi (x3 % (S0 1104 x2.toNat)))] zd_14_76_40 (by decide) rfl ?_
    refine zz_iload_n (x := x3) rfl zd_14_76_42 ?_
    refine zz_aload_n (x := 1079) rfl zd_14_76_43 ?_
    refine zz_getr (kd := 0) (z := 1104) zd_14_76_44 zf_Md_94 zT_1079 rfl (zz_ltn hn rfl) (zz_G.eq G_S 1079 39 1104 rfl rfl) (by decide) 1104 rfl ?_
    refine zz_iload_n (x := x2) rfl zd_14_76_47 ?_
    refine zz_iald (z := S0 1104 x2.toNat) zd_14_76_48 zT_1104 rfl (zz_ltn hn rfl) (by decide) (by omega) (zz_rc F_S (zz_nc1 rfl) rfl (fun h => h) rfl) ?_
    refine zz_idiv (by omega) (by omega) zd_14_76_49 (fun v16 hv16 av16 bv16 cv16 => ?_)
    have m17 := zz_divb (by omega) (by omega) av16
    obtain rfl : v16 = x3 / (S0 1104 x2.toNat) := by omega
    refine zz_aload_n (x := 1079) rfl zd_14_76_50 ?_
    refine zz_getr (kd := 0) (z := 1103) zd_14_76_51 zf_Md_91 zT_1079 rfl (zz_ltn hn rfl) (zz_G.eq G_S 1079 38 1103 rfl rfl) (by decide) 1103 rfl ?_
    refine zz_iload_n (x := x2) rfl zd_14_76_54 ?_
    refine zz_iald (z := S0 1103 x2.toNat) zd_14_76_55 zT_1103 rfl (zz_ltn hn rfl) (by decide) (by omega) (zz_rc F_S (zz_nc1 rfl) rfl (fun h => h) rfl) ?_
    refine zz_irem (by omega) (by omega) zd_14_76_56 (fun v18 hv18 av18 bv18 cv18 => ?_)
    obtain rfl : v18 = (x3 / (S0 1104 x2.toNat)) % (S0 1103 x2.toNat) := by omega
    refine zz_istore [some (.ref 1079), some (zi x1), some (zi x2), some (zi x3), some (zi (x3 % (S0 1104 x2.toNat))), some (zi ((x3 / (S0 1104 x2.toNat)) % (S0 1103 x2.toNat)))] zd_14_76_57 (by decide) rfl ?_
    refine zz_iload_n (x := x3) rfl zd_14_76_59 ?_
    refine zz_aload_n (x := 1079) rfl zd_14_76_60 ?_
    refine zz_getr (kd := 0) (z := 1104) zd_14_76_61 zf_Md_94 zT_1079 rfl (zz_ltn hn rfl) (zz_G.eq G_S 1079 39 1104 rfl rfl) (by decide) 1104 rfl ?_
    refine zz_iload_n (x := x2) rfl zd_14_76_64 ?_
    refine zz_iald (z := S0 1104 x2.toNat) zd_14_76_65 zT_1104 rfl (zz_ltn hn rfl) (by decide) (by omega) (zz_rc F_S (zz_nc1 rfl) rfl (fun h => h) rfl) ?_
    refine zz_idiv (by omega) (by omega) zd_14_76_66 (fun v19 hv19 av19 bv19 cv19 => ?_)
    have m20 := zz_divb (by omega) (by omega) av19
    obtain rfl : v19 = x3 / (S0 1104 x2.toNat) := by omega
    refine zz_aload_n (x := 1079) rfl zd_14_76_67 ?_
    refine zz_getr (kd := 0) (z := 1103) zd_14_76_68 zf_Md_91 zT_1079 rfl (zz_ltn hn rfl) (zz_G.eq G_S 1079 38 1103 rfl rfl) (by decide) 1103 rfl ?_
    refine zz_iload_n (x := x2) rfl zd_14_76_71 ?_
    refine zz_iald (z := S0 1103 x2.toNat) zd_14_76_72 zT_1103 rfl (zz_ltn hn rfl) (by decide) (by omega) (zz_rc F_S (zz_nc1 rfl) rfl (fun h => h) rfl) ?_
    refine zz_idiv (by omega) (by omega) zd_14_76_73 (fun v21 hv21 av21 bv21 cv21 => ?_)
    have m22 := zz_divb (by omega) (by omega) av21
    obtain rfl : v21 = (x3 / (S0 1104 x2.toNat)) / (S0 1103 x2.toNat) := by omega
    refine zz_istore [some (.ref 1079), some (zi x1), some (zi x2), some (zi x3), some (zi (x3 % (S0 1104 x2.toNat))), some (zi ((x3 / (S0 1104 x2.toNat)) % (S0 1103 x2.toNat))), some (zi ((x3 / (S0 1104 x2.toNat)) / (S0 1103 x2.toNat)))] zd_14_76_74 (by decide) rfl ?_
    refine zz_aload_n (x := 1079) rfl zd_14_76_76 ?_
    refine zz_getr (kd := 0) (z := 1106) zd_14_76_77 zf_Md_100 zT_1079 rfl (zz_ltn hn rfl) (zz_G.eq G_S 1079 41 1106 rfl rfl) (by decide) 1106 rfl ?_
    refine zz_iload_n (x := x1) rfl zd_14_76_80 ?_
    have g23 := zz_G.r G_S0 1106 x1.toNat 0 2 rfl rfl
    refine zz_iald (z := S0 1106 x1.toNat) zd_14_76_81 zT_1106 rfl (zz_ltn hn rfl) (by decide) (by omega) (zz_rc F_S (zz_nc1 rfl) rfl (fun h => h) rfl) ?_
    refine zz_if_ne (by omega) zd_14_76_82 (fun c24 => ?_) (fun c24 => ?_)
    · refine zz_aload_n (x := 1079) rfl zd_14_76_101 ?_
      refine zz_getr (kd := 0) (z := 1106) zd_14_76_102 zf_Md_100 zT_1079 rfl (zz_ltn hn rfl) (zz_G.eq G_S 1079 41 1106 rfl rfl) (by decide) 1106 rfl ?_
      refine zz_iload_n (x := x1) rfl zd_14_76_105 ?_
      refine zz_iald (z := S0 1106 x1.toNat) zd_14_76_106 zT_1106 rfl (zz_ltn hn rfl) (by decide) (by omega) (zz_rc F_S (zz_nc1 rfl) rfl (fun h => h) rfl) ?_
      refine zz_iconst zd_14_76_107 ?_
      refine zz_icmp_ne (by omega) (by omega) zd_14_76_108 (fun c25 => ?_) (fun c25 => ?_)
      · have hb9 := R_S0.2 x1.toNat (by omega)
        unfold zz_la at hb9
        have hone := hb9.1
        have hk9 := hb9.2.2.2 (by omega)
        clear hb9
        rw [show x1.toNat + 1 = x2.toNat by omega] at hk9
        refine zz_aload_n (x := 1079) rfl zd_14_76_127 ?_
        refine zz_aload_n (x := 1079) rfl zd_14_76_128 ?_
        refine zz_getr (kd := 0) (z := 1107) zd_14_76_129 zf_Md_103 zT_1079 rfl (zz_ltn hn rfl) (zz_G.eq G_S 1079 42 1107 rfl rfl) (by decide) 1107 rfl ?_
        refine zz_iload_n (x := x1) rfl zd_14_76_132 ?_
        have g26 := zz_G.r G_S0 1107 x1.toNat 0 10 rfl rfl
        refine zz_iald (z := S0 1107 x1.toNat) zd_14_76_133 zT_1107 rfl (zz_ltn hn rfl) (by decide) (by omega) (zz_rc F_S (zz_nc1 rfl) rfl (fun h => h) rfl) ?_
        refine zz_iload (x := (x3 / (S0 1104 x2.toNat)) / (S0 1103 x2.toNat)) rfl zd_14_76_134 ?_
        refine zz_iload (x := (x3 / (S0 1104 x2.toNat)) % (S0 1103 x2.toNat)) rfl zd_14_76_136 ?_
        refine zz_iload (x := x3 % (S0 1104 x2.toNat)) rfl zd_14_76_138 ?_
        have g27 := zz_G.r G_S0 1102 ((S0 1107 x1.toNat).toNat) 0 63 rfl rfl
        have e28 : S 1102 (S0 1107 x1.toNat).toNat = S0 1102 (S0 1107 x1.toNat).toNat := (zz_rc F_S (zz_nc1 rfl) rfl (fun h => h) rfl)
        have g29 := zz_G.r G_S0 1103 ((S0 1107 x1.toNat).toNat) 0 63 rfl rfl
        have e30 : S 1103 (S0 1107 x1.toNat).toNat = S0 1103 (S0 1107 x1.toNat).toNat := (zz_rc F_S (zz_nc1 rfl) rfl (fun h => h) rfl)
        have g31 := zz_G.r G_S0 1104 ((S0 1107 x1.toNat).toNat) 0 63 rfl rfl
        have e32 : S 1104 (S0 1107 x1.toNat).toNat = S0 1104 (S0 1107 x1.toNat).toNat := (zz_rc F_S (zz_nc1 rfl) rfl (fun h => h) rfl)
        refine zz_callVI [zi (S0 1107 x1.toNat), zi ((x3 / (S0 1104 x2.toNat)) / (S0 1103 x2.toNat)), zi ((x3 / (S0 1104 x2.toNat)) % (S0 1103 x2.toNat)), zi (x3 % (S0 1104 x2.toNat))] zd_14_76_140 zk_Md_438 zT_1079 (zz_ltn hn rfl) rfl rfl ⟨Nat.le_of_ble_eq_true rfl, Nat.le_of_ble_eq_true rfl⟩ ⟨rfl, rfl⟩ (Nat.zero_le _) (Nat.zero_le _) (zc_cellAt_14_73 (S0 1107 x1.toNat) ((x3 / (S0 1104 x2.toNat)) / (S0 1103 x2.toNat)) ((x3 / (S0 1104 x2.toNat)) % (S0 1103 x2.toNat)) (x3 % (S0 1104 x2.toNat)) S n hn G_S (by omega) (by omega) (by omega) (by omega) (R_S.1 (S0 1107 x1.toNat).toNat (by rw [show S 1079 36 = S0 1079 36 from zz_rc F_S rfl rfl (fun h => h) rfl]; omega)) (by omega) (by omega) (by omega)) (fun v34 S33 hP => ?_)
        obtain ⟨rfl, o35⟩ := hP
        refine zz_aload_n (x := 1079) rfl zd_14_76_143 ?_
        refine zz_aload_n (x := 1079) rfl zd_14_76_144 ?_
        refine zz_getr (kd := 0) (z := 1108) zd_14_76_145 zf_Md_106 zT_1079 rfl (zz_ltn hn rfl) (zz_G.eq G_S 1079 43 1108 rfl rfl) (by decide) 1108 rfl ?_
        refine zz_iload_n (x := x1) rfl zd_14_76_148 ?_
        have g36 := zz_G.r G_S0 1108 x1.toNat 0 10 rfl rfl
        refine zz_iald (z := S0 1108 x1.toNat) zd_14_76_149 zT_1108 rfl (zz_ltn hn rfl) (by decide) (by omega) (zz_rc F_S (zz_nc1 rfl) rfl (fun h => h) rfl) ?_
        refine zz_iload (x := (x3 / (S0 1104 x2.toNat)) / (S0 1103 x2.toNat)) rfl zd_14_76_150 ?_
        refine zz_iload (x := (x3 / (S0 1104 x2.toNat)) % (S0 1103 x2.toNat)) rfl zd_14_76_152 ?_
        refine zz_iload (x := x3 % (S0 1104 x2.toNat)) rfl zd_14_76_154 ?_
        have g37 := zz_G.r G_S0 1102 ((S0 1108 x1.toNat).toNat) 0 63 rfl rfl
        have e38 : S 1102 (S0 1108 x1.toNat).toNat = S0 1102 (S0 1108 x1.toNat).toNat := (zz_rc F_S (zz_nc1 rfl) rfl (fun h => h) rfl)
        have g39 := zz_G.r G_S0 1103 ((S0 1108 x1.toNat).toNat) 0 63 rfl rfl
        have e40 : S 1103 (S0 1108 x1.toNat).toNat = S0 1103 (S0 1108 x1.toNat).toNat := (zz_rc F_S (zz_nc1 rfl) rfl (fun h => h) rfl)
        have g41 := zz_G.r G_S0 1104 ((S0 1108 x1.toNat).toNat) 0 63 rfl rfl
        have e42 : S 1104 (S0 1108 x1.toNat).toNat = S0 1104 (S0 1108 x1.toNat).toNat := (zz_rc F_S (zz_nc1 rfl) rfl (fun h => h) rfl)
        refine zz_callVI [zi (S0 1108 x1.toNat), zi ((x3 / (S0 1104 x2.toNat)) / (S0 1103 x2.toNat)), zi ((x3 / (S0 1104 x2.toNat)) % (S0 1103 x2.toNat)), zi (x3 % (S0 1104 x2.toNat))] zd_14_76_156 zk_Md_438 zT_1079 (zz_ltn hn rfl) rfl rfl ⟨Nat.le_of_ble_eq_true rfl, Nat.le_of_ble_eq_true rfl⟩ ⟨rfl, rfl⟩ (Nat.zero_le _) (Nat.zero_le _) (zc_cellAt_14_73 (S0 1108 x1.toNat) ((x3 / (S0 1104 x2.toNat)) / (S0 1103 x2.toNat)) ((x3 / (S0 1104 x2.toNat)) % (S0 1103 x2.toNat)) (x3 % (S0 1104 x2.toNat)) S n hn G_S (by omega) (by omega) (by omega) (by omega) (R_S.1 (S0 1108 x1.toNat).toNat (by rw [show S 1079 36 = S0 1079 36 from zz_rc F_S rfl rfl (fun h => h) rfl]; omega)) (by omega) (by omega) (by omega)) (fun v44 S43 hP => ?_)
        obtain ⟨rfl, o45⟩ := hP
        refine zz_iadd zd_14_76_159 ?_
        refine zz_nrm (fun v46 hv46 ev46 => ?_)
        refine zz_aload_n (x := 1079) rfl zd_14_76_160 ?_
        refine zz_getr (kd := 0) (z := 1113) zd_14_76_161 zf_Md_121 zT_1079 rfl (zz_ltn hn rfl) (zz_G.eq G_S 1079 48 1113 rfl rfl) (by decide) 1113 rfl ?_
        refine zz_iload_n (x := x1) rfl zd_14_76_164 ?_
        have g47 := zz_G.r G_S0 1113 x1.toNat 0 31 rfl rfl
        refine zz_iald (z := S0 1113 x1.toNat) zd_14_76_165 zT_1113 rfl (zz_ltn hn rfl) (by decide) (by omega) (zz_rc F_S (zz_nc1 rfl) rfl (fun h => h) rfl) ?_
        refine zz_callSI [zi v46, zi (S0 1113 x1.toNat)] zd_14_76_166 zk_Md_261 rfl rfl ⟨Nat.le_of_ble_eq_true rfl, Nat.le_of_ble_eq_true rfl⟩ ⟨rfl, rfl⟩ (Nat.zero_le _) (Nat.zero_le _) (zc_narrowed_14_26 v46 (S0 1113 x1.toNat) S n hn G_S (by omega) (by omega)) (fun v49 S48 hP => ?_)
        obtain ⟨rfl, o50⟩ := hP
        refine zz_istore [some (.ref 1079), some (zi x1), some (zi x2), some (zi x3), some (zi (x3 % (S0 1104 x2.toNat))), some (zi ((x3 / (S0 1104 x2.toNat)) % (S0 1103 x2.toNat))), some (zi ((x3 / (S0 1104 x2.toNat)) / (S0 1103 x2.toNat))), some (zi v49)] zd_14_76_169 (by decide) rfl ?_
        refine zz_aload_n (x := 1079) rfl zd_14_76_171 ?_
        refine zz_getr (kd := 0) (z := 1080) zd_14_76_172 zf_Md_13 zT_1079 rfl (zz_ltn hn rfl) (zz_G.eq G_S 1079 2 1080 rfl rfl) (by decide) 1080 rfl ?_
        refine zz_aload_n (x := 1079) rfl zd_14_76_175 ?_
        refine zz_getr (kd := 0) (z := 1105) zd_14_76_176 zf_Md_97 zT_1079 rfl (zz_ltn hn rfl) (zz_G.eq G_S 1079 40 1105 rfl rfl) (by decide) 1105 rfl ?_
        refine zz_iload_n (x := x2) rfl zd_14_76_179 ?_
        have g51 := zz_G.r G_S0 1105 x2.toNat (0) (if x2.toNat = 0 then 0 else 10000000) rfl rfl
        refine zz_iald (z := S0 1105 x2.toNat) zd_14_76_180 zT_1105 rfl (zz_ltn hn rfl) (by decide) (by omega) (zz_rc F_S (zz_nc1 rfl) rfl (fun h => h) rfl) ?_
        refine zz_iload_n (x := x3) rfl zd_14_76_181 ?_
        refine zz_iadd zd_14_76_182 ?_
        refine zz_iload (x := v49) rfl zd_14_76_183 ?_
        refine zz_iast zd_14_76_185 zT_1080 rfl (zz_ltn hn rfl) (by decide) (by omega) (fun S52 qS52 => ?_)
        have G_S52 := zz_G.put G_S qS52 (-2147483648) 2147483647 rfl (by omega)
        have F_S52 := zz_fr.putc F_S qS52 rfl
        have R_S52 : zz_Hr S52 := zz_Hr.fr (zz_fr.put1 qS52) rfl rfl (fun b j h => by omega) R_S
        refine zz_iinc [some (.ref 1079), some (zi x1), some (zi x2), some (zi (x3 + 1)), some (zi (x3 % (S0 1104 x2.toNat))), some (zi ((x3 / (S0 1104 x2.toNat)) % (S0 1103 x2.toNat))), some (zi ((x3 / (S0 1104 x2.toNat)) / (S0 1103 x2.toNat))), some (zi v49)] zd_14_76_186 rfl rfl ?_
        refine zz_goto zd_14_76_189 ?_
        refine zz_less (ls1 := [some (.ref 1079), some (zi x1), some (zi x2), some (zi (x3 + 1))]) ⟨rfl, ⟨rfl, ⟨rfl, ⟨rfl, trivial⟩⟩⟩⟩ ?_
        exact k23 x1 x2 (x3 + 1) S52 G_S52 F_S52 (by omega) (by omega) (by omega) (by omega) (by omega) (by omega) R_S52 (by omega)
      · refine zz_aload_n (x := 1079) rfl zd_14_76_111 ?_
        refine zz_iload_n (x := x1) rfl zd_14_76_112 ?_
        refine zz_iload (x := (x3 / (S0 1104 x2.toNat)) / (S0 1103 x2.toNat)) rfl zd_14_76_113 ?_
        refine zz_iload (x := (x3 / (S0 1104 x2.toNat)) % (S0 1103 x2.toNat)) rfl zd_14_76_115 ?_
        refine zz_iload (x := x3 % (S0 1104 x2.toNat)) rfl zd_14_76_117 ?_
        have g53 := zz_G.r G_S0 1079 36 0 11 rfl rfl
        have e54 : S 1079 36 = S0 1079 36 := (zz_rc F_S rfl rfl (fun h => h) rfl)
        have e55 : S 1106 x1.toNat = S0 1106 x1.toNat := (zz_rc F_S (zz_nc1 rfl) rfl (fun h => h) rfl)
        have g56 := zz_G.r G_S0 1102 ((x1 + 1).toNat) 0 63 rfl rfl
        have e57 : S 1102 (x1 + 1).toNat = S0 1102 (x1 + 1).toNat := (zz_rc F_S (zz_nc1 rfl) rfl (fun h => h) rfl)
        have g58 := zz_G.r G_S0 1103 ((x1 + 1).toNat) 0 63 rfl rfl
        have e59 : S 1103 (x1 + 1).toNat = S0 1103 (x1 + 1).toNat := (zz_rc F_S (zz_nc1 rfl) rfl (fun h => h) rfl)
        have g60 := zz_G.r G_S0 1104 ((x1 + 1).toNat) 0 63 rfl rfl
        have e61 : S 1104 (x1 + 1).toNat = S0 1104 (x1 + 1).toNat := (zz_rc F_S (zz_nc1 rfl) rfl (fun h => h) rfl)
        refine zz_callVI [zi x1, zi ((x3 / (S0 1104 x2.toNat)) / (S0 1103 x2.toNat)), zi ((x3 / (S0 1104 x2.toNat)) % (S0 1103 x2.toNat)), zi (x3 % (S0 1104 x2.toNat))] zd_14_76_119 zk_Md_444 zT_1079 (zz_ltn hn rfl) rfl rfl ⟨Nat.le_of_ble_eq_true rfl, Nat.le_of_ble_eq_true rfl⟩ ⟨rfl, rfl⟩ (Nat.zero_le _) (Nat.zero_le _) (zc_pooled_14_75 x1 ((x3 / (S0 1104 x2.toNat)) / (S0 1103 x2.toNat)) ((x3 / (S0 1104 x2.toNat)) % (S0 1103 x2.toNat)) (x3 % (S0 1104 x2.toNat)) S n hn G_S (by omega) (by omega) (by omega) (by omega) R_S (by omega) (by omega) (by omega) (by omega) (by omega)) (fun v63 S62 hP => ?_)
        obtain ⟨rfl, o64⟩ := hP
        refine zz_istore [some (.ref 1079), some (zi x1), some (zi x2), some (zi x3), some (zi (x3 % (S0 1104 x2.toNat))), some (zi ((x3 / (S0 1104 x2.toNat)) % (S0 1103 x2.toNat))), some (zi ((x3 / (S0 1104 x2.toNat)) / (S0 1103 x2.toNat))), some (zi v63)] zd_14_76_122 (by decide) rfl ?_
        refine zz_goto zd_14_76_124 ?_
        refine zz_aload_n (x := 1079) rfl zd_14_76_171 ?_
        refine zz_getr (kd := 0) (z := 1080) zd_14_76_172 zf_Md_13 zT_1079 rfl (zz_ltn hn rfl) (zz_G.eq G_S 1079 2 1080 rfl rfl) (by decide) 1080 rfl ?_
        refine zz_aload_n (x := 1079) rfl zd_14_76_175 ?_
        refine zz_getr (kd := 0) (z := 1105) zd_14_76_176 zf_Md_97 zT_1079 rfl (zz_ltn hn rfl) (zz_G.eq G_S 1079 40 1105 rfl rfl) (by decide) 1105 rfl ?_
        refine zz_iload_n (x := x2) rfl zd_14_76_179 ?_
        have g65 := zz_G.r G_S0 1105 x2.toNat (0) (if x2.toNat = 0 then 0 else 10000000) rfl rfl
        refine zz_iald (z := S0 1105 x2.toNat) zd_14_76_180 zT_1105 rfl (zz_ltn hn rfl) (by decide) (by omega) (zz_rc F_S (zz_nc1 rfl) rfl (fun h => h) rfl) ?_
        refine zz_iload_n (x := x3) rfl zd_14_76_181 ?_
        refine zz_iadd zd_14_76_182 ?_
        refine zz_iload (x := v63) rfl zd_14_76_183 ?_
        refine zz_iast zd_14_76_185 zT_1080 rfl (zz_ltn hn rfl) (by decide) (by omega) (fun S66 qS66 => ?_)
        have G_S66 := zz_G.put G_S qS66 (-2147483648) 2147483647 rfl (by omega)
        have F_S66 := zz_fr.putc F_S qS66 rfl
        have R_S66 : zz_Hr S66 := zz_Hr.fr (zz_fr.put1 qS66) rfl rfl (fun b j h => by omega) R_S
        refine zz_iinc [some (.ref 1079), some (zi x1), some (zi x2), some (zi (x3 + 1)), some (zi (x3 % (S0 1104 x2.toNat))), some (zi ((x3 / (S0 1104 x2.toNat)) % (S0 1103 x2.toNat))), some (zi ((x3 / (S0 1104 x2.toNat)) / (S0 1103 x2.toNat))), some (zi v63)] zd_14_76_186 rfl rfl ?_
        refine zz_goto zd_14_76_189 ?_
        refine zz_less (ls1 := [some (.ref 1079), some (zi x1), some (zi x2), some (zi (x3 + 1))]) ⟨rfl, ⟨rfl, ⟨rfl, ⟨rfl, trivial⟩⟩⟩⟩ ?_
        exact k23 x1 x2 (x3 + 1) S66 G_S66 F_S66 (by omega) (by omega) (by omega) (by omega) (by omega) (by omega) R_S66 (by omega)
    · refine zz_aload_n (x := 1079) rfl zd_14_76_85 ?_
      refine zz_iload_n (x := x1) rfl zd_14_76_86 ?_
      refine zz_iload (x := (x3 / (S0 1104 x2.toNat)) / (S0 1103 x2.toNat)) rfl zd_14_76_87 ?_
      refine zz_iload (x := (x3 / (S0 1104 x2.toNat)) % (S0 1103 x2.toNat)) rfl zd_14_76_89 ?_
      refine zz_iload (x := x3 % (S0 1104 x2.toNat)) rfl zd_14_76_91 ?_
      have g67 := zz_G.r G_S0 1079 36 0 11 rfl rfl
      have e68 : S 1079 36 = S0 1079 36 := (zz_rc F_S rfl rfl (fun h => h) rfl)
      have e69 : S 1106 x1.toNat = S0 1106 x1.toNat := (zz_rc F_S (zz_nc1 rfl) rfl (fun h => h) rfl)
      have g70 := zz_G.r G_S0 1104 ((x1 + 1).toNat) 0 63 rfl rfl
      have e71 : S 1104 (x1 + 1).toNat = S0 1104 (x1 + 1).toNat := (zz_rc F_S (zz_nc1 rfl) rfl (fun h => h) rfl)
      refine zz_callVI [zi x1, zi ((x3 / (S0 1104 x2.toNat)) / (S0 1103 x2.toNat)), zi ((x3 / (S0 1104 x2.toNat)) % (S0 1103 x2.toNat)), zi (x3 % (S0 1104 x2.toNat))] zd_14_76_93 zk_Md_441 zT_1079 (zz_ltn hn rfl) rfl rfl ⟨Nat.le_of_ble_eq_true rfl, Nat.le_of_ble_eq_true rfl⟩ ⟨rfl, rfl⟩ (Nat.zero_le _) (Nat.zero_le _) (zc_convolved_14_74 x1 ((x3 / (S0 1104 x2.toNat)) / (S0 1103 x2.toNat)) ((x3 / (S0 1104 x2.toNat)) % (S0 1103 x2.toNat)) (x3 % (S0 1104 x2.toNat)) S n hn G_S (by omega) (by omega) (by omega) (by omega) R_S (by omega) (by omega) (by omega)) (fun v73 S72 hP => ?_)
      obtain ⟨rfl, o74⟩ := hP
      refine zz_istore [some (.ref 1079), some (zi x1), some (zi x2), some (zi x3), some (zi (x3 % (S0 1104 x2.toNat))), some (zi ((x3 / (S0 1104 x2.toNat)) % (S0 1103 x2.toNat))), some (zi ((x3 / (S0 1104 x2.toNat)) / (S0 1103 x2.toNat))), some (zi v73)] zd_14_76_96 (by decide) rfl ?_
      refine zz_goto zd_14_76_98 ?_
      refine zz_aload_n (x := 1079) rfl zd_14_76_171 ?_
      refine zz_getr (kd := 0) (z := 1080) zd_14_76_172 zf_Md_13 zT_1079 rfl (zz_ltn hn rfl) (zz_G.eq G_S 1079 2 1080 rfl rfl) (by decide) 1080 rfl ?_
      refine zz_aload_n (x := 1079) rfl zd_14_76_175 ?_
      refine zz_getr (kd := 0) (z := 1105) zd_14_76_176 zf_Md_97 zT_1079 rfl (zz_ltn hn rfl) (zz_G.eq G_S 1079 40 1105 rfl rfl) (by decide) 1105 rfl ?_
      refine zz_iload_n (x := x2) rfl zd_14_76_179 ?_
      have g75 := zz_G.r G_S0 1105 x2.toNat (0) (if x2.toNat = 0 then 0 else 10000000) rfl rfl
      refine zz_iald (z := S0 1105 x2.toNat) zd_14_76_180 zT_1105 rfl (zz_ltn hn rfl) (by decide) (by omega) (zz_rc F_S (zz_nc1 rfl) rfl (fun h => h) rfl) ?_
      refine zz_iload_n (x := x3) rfl zd_14_76_181 ?_
      refine zz_iadd zd_14_76_182 ?_
      refine zz_iload (x := v73) rfl zd_14_76_183 ?_
      refine zz_iast zd_14_76_185 zT_1080 rfl (zz_ltn hn rfl) (by decide) (by omega) (fun S76 qS76 => ?_)
      have G_S76 := zz_G.put G_S qS76 (-2147483648) 2147483647 rfl (by omega)
      have F_S76 := zz_fr.putc F_S qS76 rfl
      have R_S76 : zz_Hr S76 := zz_Hr.fr (zz_fr.put1 qS76) rfl rfl (fun b j h => by omega) R_S
      refine zz_iinc [some (.ref 1079), some (zi x1), some (zi x2), some (zi (x3 + 1)), some (zi (x3 % (S0 1104 x2.toNat))), some (zi ((x3 / (S0 1104 x2.toNat)) % (S0 1103 x2.toNat))), some (zi ((x3 / (S0 1104 x2.toNat)) / (S0 1103 x2.toNat))), some (zi v73)] zd_14_76_186 rfl rfl ?_
      refine zz_goto zd_14_76_189 ?_
      refine zz_less (ls1 := [some (.ref 1079), some (zi x1), some (zi x2), some (zi (x3 + 1))]) ⟨rfl, ⟨rfl, ⟨rfl, ⟨rfl, trivial⟩⟩⟩⟩ ?_
      exact k23 x1 x2 (x3 + 1) S76 G_S76 F_S76 (by omega) (by omega) (by omega) (by omega) (by omega) (by omega) R_S76 (by omega)
theorem zi_reckon_14_76 {g : mm_G} {l : Launch}  (S0 : zz_S) (n : Nat) (hn : zz_end ≤ n) (G_S0 : zz_G S0) (R_S0 : zz_Hr S0) : ∀ N : Nat, (∀ (x1 : Int) (S : zz_S), zz_G S → zz_fr [(1079, 0)] [1080] (fun _ _ => False) S0 S → (0 ≤ x1 ∧ x1 ≤ 10) → (zz_Hr S) → (34359738368 + (2147483647 - x1).toNat) * 1099511627776 + 1099511627775 < N → zz_E g l zy_reckon_14_76 zr_reckon_14_76 (zz_QV n (zp_reckon_14_76  S0)) S n 7 [some (.ref 1079), some (zi x1)] [] 0 0) ∧ (∀ (x1 : Int) (x2 : Int) (x3 : Int) (S : zz_S), zz_G S → zz_fr [(1079, 0)] [1080] (fun _ _ => False) S0 S → (0 ≤ x1 ∧ x1 ≤ 9) → (1 ≤ x2 ∧ x2 ≤ 10) → (0 ≤ x3 ∧ x3 ≤ 250047) → (0 ≤ x1 ∧ x1 ≤ 10) → (x2 = x1 + 1) → (x1 + 1 < S0 1079 36) → (zz_Hr S) → (34359738368 + (2147483647 - x1).toNat) * 1099511627776 + (17179869184 + (2147483647 - x3).toNat) < N → zz_E g l zy_reckon_14_76 zr_reckon_14_76 (zz_QV n (zp_reckon_14_76  S0)) S n 23 [some (.ref 1079), some (zi x1), some (zi x2), some (zi x3)] [] 0 0) := by
  intro N
  induction N with
  | zero => exact ⟨fun x1 S _ _ _ _ h => absurd h (Nat.not_lt_zero _), fun x1 x2 x3 S _ _ _ _ _ _ _ _ _ h => absurd h (Nat.not_lt_zero _)⟩
  | succ N ih =>
    exact ⟨fun x1 S a b j0 j1 hR => zb_reckon_14_76_7  S0 n hn G_S0 R_S0 x1 S a b j0 j1 _ rfl (fun x1 x2 x3 S a b j0 j1 j2 j3 j4 j5 j6 h => ih.2 x1 x2 x3 S a b j0 j1 j2 j3 j4 j5 j6 (Nat.lt_of_lt_of_le h (Nat.le_of_lt_succ hR))),
      fun x1 x2 x3 S a b j0 j1 j2 j3 j4 j5 j6 hR => zb_reckon_14_76_23  S0 n hn G_S0 R_S0 x1 x2 x3 S a b j0 j1 j2 j3 j4 j5 j6 _ rfl (fun x1 S a b j0 j1 h => ih.1 x1 S a b j0 j1 (Nat.lt_of_lt_of_le h (Nat.le_of_lt_succ hR))) (fun x1 x2 x3 S a b j0 j1 j2 j3 j4 j5 j6 h => ih.2 x1 x2 x3 S a b j0 j1 j2 j3 j4 j5 j6 (Nat.lt_of_lt_of_le h (Nat.le_of_lt_succ hR)))⟩
theorem zc_reckon_14_76 {g : mm_G} {l : Launch}  (S0 : zz_S) (n : Nat) (hn : zz_end ≤ n) (G_S0 : zz_G S0) (R_S0 : zz_Hr S0) : mm_Met g l zy_reckon_14_76 zr_reckon_14_76 [.ref 1079] (zz_M S0 n) n (zz_QV n (zp_reckon_14_76  S0)) := by
  refine zz_enter (by decide) (Nat.le_of_ble_eq_true rfl) (zz_less (ls1 := [some (.ref 1079)]) ⟨rfl, trivial⟩ ?_)
  have F_S0 : zz_fr [(1079, 0)] [1080] (fun _ _ => False) S0 S0 := zz_fr.refl
  have k7 : ∀ (x1 : Int) (S : zz_S), zz_G S → zz_fr [(1079, 0)] [1080] (fun _ _ => False) S0 S → (0 ≤ x1 ∧ x1 ≤ 10) → (zz_Hr S) → zz_E g l zy_reckon_14_76 zr_reckon_14_76 (zz_QV n (zp_reckon_14_76  S0)) S n 7 [some (.ref 1079), some (zi x1)] [] 0 0 := fun x1 S a b j0 j1 => (zi_reckon_14_76 (g := g) (l := l)  S0 n hn G_S0 R_S0 _).1 x1 S a b j0 j1 (Nat.lt_succ_self _)
  refine zz_aload_n (x := 1079) rfl zd_14_76_0 ?_
  refine zz_iconst zd_14_76_1 ?_
  refine zz_puti zd_14_76_2 zf_Md_187 zT_1079 rfl (zz_ltn hn rfl) (fun S1 qS1 => ?_)
  have G_S1 := zz_G.put G_S0 qS1 0 3 rfl (by omega)
  have F_S1 := zz_fr.puts F_S0 qS1 rfl
  have R_S1 : zz_Hr S1 := zz_Hr.p79 qS1 (by decide) R_S0
  refine zz_iconst zd_14_76_5 ?_
  refine zz_istore_n [some (.ref 1079), some (zi 0)] zd_14_76_6 (by decide) rfl ?_
  refine zz_less (ls1 := [some (.ref 1079), some (zi 0)]) ⟨rfl, ⟨rfl, trivial⟩⟩ ?_
  exact k7 0 S1 G_S1 F_S1 (by omega) R_S1
abbrev zy_emit_14_77 : mm_Y := (⟨"TensorForgeModel", "emit", "(I)V"⟩, prog_14_method_77_code, 3, none)
theorem zyw_emit_14_77 : mm_Yw zy_emit_14_77 1 := ⟨mm_tb_1 2175 (by decide +kernel) rfl, mm_tb_1 12 (by decide +kernel) rfl, ⟨by decide, by decide⟩, by decide +kernel⟩
theorem zg_14_77_0 : zq_at zy_emit_14_77.2.1 0 3 ∧ zq_at zy_emit_14_77.2.1 1 61 ∧ zq_at zy_emit_14_77.2.1 2 28 ∧ zq_at zy_emit_14_77.2.1 3 7 ∧ zq_at zy_emit_14_77.2.1 4 162 ∧ zq_at zy_emit_14_77.2.1 5 0 ∧ zq_at zy_emit_14_77.2.1 6 22 ∧ zq_at zy_emit_14_77.2.1 7 42 ∧ zq_at zy_emit_14_77.2.1 8 180 ∧ zq_at zy_emit_14_77.2.1 9 0 ∧ zq_at zy_emit_14_77.2.1 10 36 ∧ zq_at zy_emit_14_77.2.1 11 28 ∧ zq_at zy_emit_14_77.2.1 12 4 ∧ zq_at zy_emit_14_77.2.1 13 96 ∧ zq_at zy_emit_14_77.2.1 14 27 ∧ zq_at zy_emit_14_77.2.1 15 28 ∧ zq_at zy_emit_14_77.2.1 16 122 ∧ zq_at zy_emit_14_77.2.1 17 4 ∧ zq_at zy_emit_14_77.2.1 18 126 ∧ zq_at zy_emit_14_77.2.1 19 79 ∧ zq_at zy_emit_14_77.2.1 20 132 ∧ zq_at zy_emit_14_77.2.1 21 2 ∧ zq_at zy_emit_14_77.2.1 22 1 := by decide +kernel
theorem zd_14_77_0 : zz_D zy_emit_14_77 0 (.iconst 0) 1 1 := ⟨zq_3 zg_14_77_0.1, rfl⟩
theorem zd_14_77_1 : zz_D zy_emit_14_77 1 (.istore_n 2) 1 2 := ⟨zq_61 zg_14_77_0.2.1, rfl⟩
theorem zd_14_77_2 : zz_D zy_emit_14_77 2 (.iload_n 2) 1 3 := ⟨zq_28 zg_14_77_0.2.2.1, rfl⟩
theorem zd_14_77_3 : zz_D zy_emit_14_77 3 (.iconst 4) 1 4 := ⟨zq_7 zg_14_77_0.2.2.2.1, rfl⟩
theorem zd_14_77_4 : zz_B zy_emit_14_77 4 (Instr.if_icmp .ge) 26 7 := ⟨22, zq_162 zg_14_77_0.2.2.2.2.1 zg_14_77_0.2.2.2.2.2.1 zg_14_77_0.2.2.2.2.2.2.1 (by decide), rfl, rfl⟩
theorem zd_14_77_7 : zz_D zy_emit_14_77 7 (.aload_n 0) 1 8 := ⟨zq_42 zg_14_77_0.2.2.2.2.2.2.2.1, rfl⟩
theorem zd_14_77_8 : zz_D zy_emit_14_77 8 (.getfield 36) 3 11 := ⟨zq_180 zg_14_77_0.2.2.2.2.2.2.2.2.1 zg_14_77_0.2.2.2.2.2.2.2.2.2.1 zg_14_77_0.2.2.2.2.2.2.2.2.2.2.1 rfl, rfl⟩
theorem zd_14_77_11 : zz_D zy_emit_14_77 11 (.iload_n 2) 1 12 := ⟨zq_28 zg_14_77_0.2.2.2.2.2.2.2.2.2.2.2.1, rfl⟩
theorem zd_14_77_12 : zz_D zy_emit_14_77 12 (.iconst 1) 1 13 := ⟨zq_4 zg_14_77_0.2.2.2.2.2.2.2.2.2.2.2.2.1, rfl⟩
theorem zd_14_77_13 : zz_D zy_emit_14_77 13 (.iadd) 1 14 := ⟨zq_96 zg_14_77_0.2.2.2.2.2.2.2.2.2.2.2.2.2.1, rfl⟩
theorem zd_14_77_14 : zz_D zy_emit_14_77 14 (.iload_n 1) 1 15 := ⟨zq_27 zg_14_77_0.2.2.2.2.2.2.2.2.2.2.2.2.2.2.1, rfl⟩
theorem zd_14_77_15 : zz_D zy_emit_14_77 15 (.iload_n 2) 1 16 := ⟨zq_28 zg_14_77_0.2.2.2.2.2.2.2.2.2.2.2.2.2.2.2.1, rfl⟩
theorem zd_14_77_16 : zz_D zy_emit_14_77 16 (.ishr) 1 17 := ⟨zq_122 zg_14_77_0.2.2.2.2.2.2.2.2.2.2.2.2.2.2.2.2.1, rfl⟩
theorem zd_14_77_17 : zz_D zy_emit_14_77 17 (.iconst 1) 1 18 := ⟨zq_4 zg_14_77_0.2.2.2.2.2.2.2.2.2.2.2.2.2.2.2.2.2.1, rfl⟩
theorem zd_14_77_18 : zz_D zy_emit_14_77 18 (.iand) 1 19 := ⟨zq_126 zg_14_77_0.2.2.2.2.2.2.2.2.2.2.2.2.2.2.2.2.2.2.1, rfl⟩
theorem zd_14_77_19 : zz_D zy_emit_14_77 19 (.iastore) 1 20 := ⟨zq_79 zg_14_77_0.2.2.2.2.2.2.2.2.2.2.2.2.2.2.2.2.2.2.2.1, rfl⟩
theorem zd_14_77_20 : zz_D zy_emit_14_77 20 (.iinc 2 1) 3 23 := ⟨zq_132 zg_14_77_0.2.2.2.2.2.2.2.2.2.2.2.2.2.2.2.2.2.2.2.2.1 zg_14_77_0.2.2.2.2.2.2.2.2.2.2.2.2.2.2.2.2.2.2.2.2.2.1 zg_14_77_0.2.2.2.2.2.2.2.2.2.2.2.2.2.2.2.2.2.2.2.2.2.2 (by decide), rfl⟩
theorem zg_14_77_23 : zq_at zy_emit_14_77.2.1 23 167 ∧ zq_at zy_emit_14_77.2.1 24 255 ∧ zq_at zy_emit_14_77.2.1 25 235 ∧ zq_at zy_emit_14_77.2.1 26 42 ∧ zq_at zy_emit_14_77.2.1 27 180 ∧ zq_at zy_emit_14_77.2.1 28 1 ∧ zq_at zy_emit_14_77.2.1 29 116 ∧ zq_at zy_emit_14_77.2.1 30 17 ∧ zq_at zy_emit_14_77.2.1 31 2 ∧ zq_at zy_emit_14_77.2.1 32 88 ∧ zq_at zy_emit_14_77.2.1 33 162 ∧ zq_at zy_emit_14_77.2.1 34 0 ∧ zq_at zy_emit_14_77.2.1 35 16 ∧ zq_at zy_emit_14_77.2.1 49 42 ∧ zq_at zy_emit_14_77.2.1 50 89 ∧ zq_at zy_emit_14_77.2.1 51 180 ∧ zq_at zy_emit_14_77.2.1 52 1 ∧ zq_at zy_emit_14_77.2.1 53 116 ∧ zq_at zy_emit_14_77.2.1 54 4 ∧ zq_at zy_emit_14_77.2.1 55 96 ∧ zq_at zy_emit_14_77.2.1 56 181 ∧ zq_at zy_emit_14_77.2.1 57 1 ∧ zq_at zy_emit_14_77.2.1 58 116 ∧ zq_at zy_emit_14_77.2.1 59 177 := by decide +kernel
theorem zd_14_77_23 : zz_B zy_emit_14_77 23 Instr.goto 2 26 := ⟨(-21), zq_167 zg_14_77_23.1 zg_14_77_23.2.1 zg_14_77_23.2.2.1 (by decide), rfl, rfl⟩
theorem zd_14_77_26 : zz_D zy_emit_14_77 26 (.aload_n 0) 1 27 := ⟨zq_42 zg_14_77_23.2.2.2.1, rfl⟩
theorem zd_14_77_27 : zz_D zy_emit_14_77 27 (.getfield 372) 3 30 := ⟨zq_180 zg_14_77_23.2.2.2.2.1 zg_14_77_23.2.2.2.2.2.1 zg_14_77_23.2.2.2.2.2.2.1 rfl, rfl⟩
theorem zd_14_77_30 : zz_D zy_emit_14_77 30 (.sipush 600) 3 33 := ⟨zq_17 zg_14_77_23.2.2.2.2.2.2.2.1 zg_14_77_23.2.2.2.2.2.2.2.2.1 zg_14_77_23.2.2.2.2.2.2.2.2.2.1 (by decide), rfl⟩
theorem zd_14_77_33 : zz_B zy_emit_14_77 33 (Instr.if_icmp .ge) 49 36 := ⟨16, zq_162 zg_14_77_23.2.2.2.2.2.2.2.2.2.2.1 zg_14_77_23.2.2.2.2.2.2.2.2.2.2.2.1 zg_14_77_23.2.2.2.2.2.2.2.2.2.2.2.2.1 (by decide), rfl, rfl⟩
theorem zd_14_77_49 : zz_D zy_emit_14_77 49 (.aload_n 0) 1 50 := ⟨zq_42 zg_14_77_23.2.2.2.2.2.2.2.2.2.2.2.2.2.1, rfl⟩
theorem zd_14_77_50 : zz_D zy_emit_14_77 50 (.dup) 1 51 := ⟨zq_89 zg_14_77_23.2.2.2.2.2.2.2.2.2.2.2.2.2.2.1, rfl⟩
theorem zd_14_77_51 : zz_D zy_emit_14_77 51 (.getfield 372) 3 54 := ⟨zq_180 zg_14_77_23.2.2.2.2.2.2.2.2.2.2.2.2.2.2.2.1 zg_14_77_23.2.2.2.2.2.2.2.2.2.2.2.2.2.2.2.2.1 zg_14_77_23.2.2.2.2.2.2.2.2.2.2.2.2.2.2.2.2.2.1 rfl, rfl⟩
theorem zd_14_77_54 : zz_D zy_emit_14_77 54 (.iconst 1) 1 55 := ⟨zq_4 zg_14_77_23.2.2.2.2.2.2.2.2.2.2.2.2.2.2.2.2.2.2.1, rfl⟩
theorem zd_14_77_55 : zz_D zy_emit_14_77 55 (.iadd) 1 56 := ⟨zq_96 zg_14_77_23.2.2.2.2.2.2.2.2.2.2.2.2.2.2.2.2.2.2.2.1, rfl⟩
theorem zd_14_77_56 : zz_D zy_emit_14_77 56 (.putfield 372) 3 59 := ⟨zq_181 zg_14_77_23.2.2.2.2.2.2.2.2.2.2.2.2.2.2.2.2.2.2.2.2.1 zg_14_77_23.2.2.2.2.2.2.2.2.2.2.2.2.2.2.2.2.2.2.2.2.2.1 zg_14_77_23.2.2.2.2.2.2.2.2.2.2.2.2.2.2.2.2.2.2.2.2.2.2.1 rfl, rfl⟩
theorem zd_14_77_59 : zz_D zy_emit_14_77 59 (.return_) 1 60 := ⟨zq_177 zg_14_77_23.2.2.2.2.2.2.2.2.2.2.2.2.2.2.2.2.2.2.2.2.2.2.2, rfl⟩
theorem zg_14_77_36 : zq_at zy_emit_14_77.2.1 36 42 ∧ zq_at zy_emit_14_77.2.1 37 180 ∧ zq_at zy_emit_14_77.2.1 38 0 ∧ zq_at zy_emit_14_77.2.1 39 33 ∧ zq_at zy_emit_14_77.2.1 40 42 ∧ zq_at zy_emit_14_77.2.1 41 180 ∧ zq_at zy_emit_14_77.2.1 42 1 ∧ zq_at zy_emit_14_77.2.1 43 116 ∧ zq_at zy_emit_14_77.2.1 44 42 ∧ zq_at zy_emit_14_77.2.1 45 182 ∧ zq_at zy_emit_14_77.2.1 46 1 ∧ zq_at zy_emit_14_77.2.1 47 122 ∧ zq_at zy_emit_14_77.2.1 48 80 := by decide +kernel
theorem zd_14_77_36 : zz_D zy_emit_14_77 36 (.aload_n 0) 1 37 := ⟨zq_42 zg_14_77_36.1, rfl⟩
theorem zd_14_77_37 : zz_D zy_emit_14_77 37 (.getfield 33) 3 40 := ⟨zq_180 zg_14_77_36.2.1 zg_14_77_36.2.2.1 zg_14_77_36.2.2.2.1 rfl, rfl⟩
theorem zd_14_77_40 : zz_D zy_emit_14_77 40 (.aload_n 0) 1 41 := ⟨zq_42 zg_14_77_36.2.2.2.2.1, rfl⟩
theorem zd_14_77_41 : zz_D zy_emit_14_77 41 (.getfield 372) 3 44 := ⟨zq_180 zg_14_77_36.2.2.2.2.2.1 zg_14_77_36.2.2.2.2.2.2.1 zg_14_77_36.2.2.2.2.2.2.2.1 rfl, rfl⟩
theorem zd_14_77_44 : zz_D zy_emit_14_77 44 (.aload_n 0) 1 45 := ⟨zq_42 zg_14_77_36.2.2.2.2.2.2.2.2.1, rfl⟩
theorem zd_14_77_45 : zz_D zy_emit_14_77 45 (.invokevirtual 378) 3 48 := ⟨zq_182 zg_14_77_36.2.2.2.2.2.2.2.2.2.1 zg_14_77_36.2.2.2.2.2.2.2.2.2.2.1 zg_14_77_36.2.2.2.2.2.2.2.2.2.2.2.1 rfl, rfl⟩
theorem zd_14_77_48 : zz_D zy_emit_14_77 48 (.lastore) 1 49 := ⟨zq_80 zg_14_77_36.2.2.2.2.2.2.2.2.2.2.2.2, rfl⟩

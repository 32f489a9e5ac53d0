-- TensorForgeModel meets (II)Z
abbrev zr_meets_14_112 : Room := { frames := 2, cells := 0, slots := 0, locals := 31 }
def zp_meets_14_112 (p0 : Int) (p1 : Int) (S0 : zz_S) : Int → zz_S → Prop := fun r S => S0 = S ∧ (0 ≤ r ∧ r ≤ 1) ∧ (r = 1 → p1 < 250047 * (p0 + 1)) ∧ (zn_RF S0 (p0 + 1) p1 r)
theorem zb_meets_14_112_5 {g : mm_G} {l : Launch} (p0 : Int) (p1 : Int) (S0 : zz_S) (n : Nat) (hn : zz_end ≤ n) (G_S0 : zz_G S0) (hp0 : 0 ≤ p0 ∧ p0 ≤ 9) (hp1 : 0 ≤ p1 ∧ p1 ≤ 2800000) (hb : ∀ u : Nat, (u : Int) ≤ p0 → S0 1105 u ≤ 250047 * (u : Int)) (x3 : Int) (x4 : Int) (S : zz_S) (G_S : zz_G S) (F_S : zz_fr [] [] (fun _ _ => False) S0 S) (i5_0 : 0 ≤ x3 ∧ x3 ≤ 1) (i5_1 : 0 ≤ x4 ∧ x4 ≤ 10) (i5_2 : x3 = 1 → p1 < 250047 * (p0 + 1)) (i5_3 : x4 ≤ p0 + 1) (i5_4 : zn_RM S0 (p0 + 1) p1 x3 x4) (R : Nat) (hR : (p0 + 1 - x4).toNat = R) (k5 : ∀ (x3 : Int) (x4 : Int) (S : zz_S), zz_G S → zz_fr [] [] (fun _ _ => False) S0 S → (0 ≤ x3 ∧ x3 ≤ 1) → (0 ≤ x4 ∧ x4 ≤ 10) → (x3 = 1 → p1 < 250047 * (p0 + 1)) → (x4 ≤ p0 + 1) → (zn_RM S0 (p0 + 1) p1 x3 x4) → (p0 + 1 - x4).toNat < R → zz_E g l zy_meets_14_112 zr_meets_14_112 (zz_QI n (zp_meets_14_112 p0 p1 S0)) S n 5 [some (.ref 1079), some (zi p0), some (zi p1), some (zi x3), some (zi x4)] [] 0 0) : zz_E g l zy_meets_14_112 zr_meets_14_112 (zz_QI n (zp_meets_14_112 p0 p1 S0)) S n 5 [some (.ref 1079), some (zi p0), some (zi p1), some (zi x3), some (zi x4)] [] 0 0 := by
  refine zz_iload (x := x4) rfl zd_14_112_5 ?_
  refine zz_iload_n (x := p0) rfl zd_14_112_7 ?_
  refine zz_icmp_gt (by omega) (by omega) zd_14_112_8 (fun c1 => ?_) (fun c1 => ?_)
  · refine zz_iload_n (x := x3) rfl zd_14_112_74 ?_
    exact zz_zret zd_14_112_75 rfl (by omega) (Nat.zero_le _) (Nat.zero_le _) ⟨_, _, rfl, zz_fr.eq F_S, by omega, by omega, (zn_RFe i5_4 (by omega))⟩
  · have hbx := hb x4.toNat (by omega)
    refine zz_iload_n (x := x3) rfl zd_14_112_11 ?_
    refine zz_if_ne (by omega) zd_14_112_12 (fun c2 => ?_) (fun c2 => ?_)
    · refine zz_iconst zd_14_112_62 ?_
      refine zz_goto zd_14_112_63 ?_
      refine zz_istore_n [some (.ref 1079), some (zi p0), some (zi p1), some (zi 1), some (zi x4)] zd_14_112_67 (by decide) rfl ?_
      refine zz_iinc [some (.ref 1079), some (zi p0), some (zi p1), some (zi 1), some (zi (x4 + 1))] zd_14_112_68 rfl rfl ?_
      refine zz_goto zd_14_112_71 ?_
      refine zz_less (ls1 := [some (.ref 1079), some (zi p0), some (zi p1), some (zi 1), some (zi (x4 + 1))]) ⟨rfl, ⟨rfl, ⟨rfl, ⟨rfl, ⟨rfl, trivial⟩⟩⟩⟩⟩ ?_
      exact k5 1 (x4 + 1) S G_S F_S (by omega) (by omega) (by omega) (by omega) (zn_RMy (by have q9 := i5_4; rw [show x3 = 1 by omega] at q9; exact q9)) (by omega)
    · refine zz_aload_n (x := 1079) rfl zd_14_112_15 ?_
      refine zz_iload (x := x4) rfl zd_14_112_16 ?_
      refine zz_iload_n (x := p0) rfl zd_14_112_18 ?_
      refine zz_callVI [zi x4, zi p0] zd_14_112_19 zk_Md_616 zT_1079 (zz_ltn hn rfl) rfl rfl ⟨Nat.le_of_ble_eq_true rfl, Nat.le_of_ble_eq_true rfl⟩ ⟨rfl, rfl⟩ (Nat.zero_le _) (Nat.zero_le _) (zc_isNeeded_14_111 x4 p0 S n hn G_S (by omega) (by omega)) (fun v4 S3 hP => ?_)
      obtain ⟨rfl, o5, o6⟩ := hP
      rcases (by omega : v4 = 0 ∨ v4 = 1) with rfl | rfl
      · rw [← zz_fr.eq F_S] at o6
        refine zz_if_eq (by omega) zd_14_112_22 (fun c7 => ?_) (fun c7 => ?_)
        · refine zz_iconst zd_14_112_66 ?_
          refine zz_istore_n [some (.ref 1079), some (zi p0), some (zi p1), some (zi 0), some (zi x4)] zd_14_112_67 (by decide) rfl ?_
          refine zz_iinc [some (.ref 1079), some (zi p0), some (zi p1), some (zi 0), some (zi (x4 + 1))] zd_14_112_68 rfl rfl ?_
          refine zz_goto zd_14_112_71 ?_
          refine zz_less (ls1 := [some (.ref 1079), some (zi p0), some (zi p1), some (zi 0), some (zi (x4 + 1))]) ⟨rfl, ⟨rfl, ⟨rfl, ⟨rfl, ⟨rfl, trivial⟩⟩⟩⟩⟩ ?_
          exact k5 0 (x4 + 1) S G_S F_S (by omega) (by omega) (by omega) (by omega) (zn_RMn (by have q9 := i5_4; rw [show x3 = 0 by omega] at q9; exact q9) (by omega) (Or.inl o6) (by omega)) (by omega)
        · exfalso; omega
      · rw [← zz_fr.eq F_S] at o6
        refine zz_if_eq (by omega) zd_14_112_22 (fun c8 => ?_) (fun c8 => ?_)
        · exfalso; omega
        · refine zz_iload_n (x := p1) rfl zd_14_112_25 ?_
          refine zz_aload_n (x := 1079) rfl zd_14_112_26 ?_
          refine zz_getr (kd := 0) (z := 1105) zd_14_112_27 zf_Md_97 zT_1079 rfl (zz_ltn hn rfl) (zz_G.eq G_S 1079 40 1105 rfl rfl) (by decide) 1105 rfl ?_
          refine zz_iload (x := x4) rfl zd_14_112_30 ?_
          have g9 := zz_G.r G_S0 1105 x4.toNat (0) (if x4.toNat = 0 then 0 else 10000000) rfl rfl
          refine zz_iald (z := S0 1105 x4.toNat) zd_14_112_32 zT_1105 rfl (zz_ltn hn rfl) (by decide) (by omega) (zz_rc F_S (zz_nc1 rfl) rfl (fun h => h) rfl) ?_
          refine zz_aload_n (x := 1079) rfl zd_14_112_33 ?_
          refine zz_iload (x := x4) rfl zd_14_112_34 ?_
          have g10 := zz_G.r G_S0 1102 x4.toNat 0 63 rfl rfl
          have e11 : S 1102 x4.toNat = S0 1102 x4.toNat := (zz_rc F_S (zz_nc1 rfl) rfl (fun h => h) rfl)
          have g12 := zz_G.r G_S0 1103 x4.toNat 0 63 rfl rfl
          have e13 : S 1103 x4.toNat = S0 1103 x4.toNat := (zz_rc F_S (zz_nc1 rfl) rfl (fun h => h) rfl)
          have g14 := zz_G.r G_S0 1104 x4.toNat 0 63 rfl rfl
          have e15 : S 1104 x4.toNat = S0 1104 x4.toNat := (zz_rc F_S (zz_nc1 rfl) rfl (fun h => h) rfl)
          refine zz_callVI [zi x4] zd_14_112_36 zk_Md_200 zT_1079 (zz_ltn hn rfl) rfl rfl ⟨Nat.le_of_ble_eq_true rfl, Nat.le_of_ble_eq_true rfl⟩ ⟨rfl, rfl⟩ (Nat.zero_le _) (Nat.zero_le _) (zc_sizeOf_14_90 x4 S n hn G_S (by omega)) (fun v17 S16 hP => ?_)
          obtain ⟨rfl, o18, o19⟩ := hP
          rw [← zz_fr.eq F_S] at o19
          skip
          refine zz_iadd zd_14_112_39 ?_
          refine zz_icmp_ge (by omega) (by omega) zd_14_112_40 (fun c20 => ?_) (fun c20 => ?_)
          · refine zz_iconst zd_14_112_66 ?_
            refine zz_istore_n [some (.ref 1079), some (zi p0), some (zi p1), some (zi 0), some (zi x4)] zd_14_112_67 (by decide) rfl ?_
            refine zz_iinc [some (.ref 1079), some (zi p0), some (zi p1), some (zi 0), some (zi (x4 + 1))] zd_14_112_68 rfl rfl ?_
            refine zz_goto zd_14_112_71 ?_
            refine zz_less (ls1 := [some (.ref 1079), some (zi p0), some (zi p1), some (zi 0), some (zi (x4 + 1))]) ⟨rfl, ⟨rfl, ⟨rfl, ⟨rfl, ⟨rfl, trivial⟩⟩⟩⟩⟩ ?_
            exact k5 0 (x4 + 1) S G_S F_S (by omega) (by omega) (by omega) (by omega) (zn_RMn (by have q9 := i5_4; rw [show x3 = 0 by omega] at q9; exact q9) (by omega) (Or.inr (Or.inl ⟨_, o19, by omega⟩)) (by omega)) (by omega)
          · refine zz_aload_n (x := 1079) rfl zd_14_112_43 ?_
            refine zz_getr (kd := 0) (z := 1105) zd_14_112_44 zf_Md_97 zT_1079 rfl (zz_ltn hn rfl) (zz_G.eq G_S 1079 40 1105 rfl rfl) (by decide) 1105 rfl ?_
            refine zz_iload (x := x4) rfl zd_14_112_47 ?_
            refine zz_iald (z := S0 1105 x4.toNat) zd_14_112_49 zT_1105 rfl (zz_ltn hn rfl) (by decide) (by omega) (zz_rc F_S (zz_nc1 rfl) rfl (fun h => h) rfl) ?_
            refine zz_iload_n (x := p1) rfl zd_14_112_50 ?_
            refine zz_aload_n (x := 1079) rfl zd_14_112_51 ?_
            refine zz_iload_n (x := p0) rfl zd_14_112_52 ?_
            refine zz_iconst zd_14_112_53 ?_
            refine zz_iadd zd_14_112_54 ?_
            have g21 := zz_G.r G_S0 1102 ((p0 + 1).toNat) 0 63 rfl rfl
            have e22 : S 1102 (p0 + 1).toNat = S0 1102 (p0 + 1).toNat := (zz_rc F_S (zz_nc1 rfl) rfl (fun h => h) rfl)
            have g23 := zz_G.r G_S0 1103 ((p0 + 1).toNat) 0 63 rfl rfl
            have e24 : S 1103 (p0 + 1).toNat = S0 1103 (p0 + 1).toNat := (zz_rc F_S (zz_nc1 rfl) rfl (fun h => h) rfl)
            have g25 := zz_G.r G_S0 1104 ((p0 + 1).toNat) 0 63 rfl rfl
            have e26 : S 1104 (p0 + 1).toNat = S0 1104 (p0 + 1).toNat := (zz_rc F_S (zz_nc1 rfl) rfl (fun h => h) rfl)
            refine zz_callVI [zi (p0 + 1)] zd_14_112_55 zk_Md_200 zT_1079 (zz_ltn hn rfl) rfl rfl ⟨Nat.le_of_ble_eq_true rfl, Nat.le_of_ble_eq_true rfl⟩ ⟨rfl, rfl⟩ (Nat.zero_le _) (Nat.zero_le _) (zc_sizeOf_14_90 (p0 + 1) S n hn G_S (by omega)) (fun v28 S27 hP => ?_)
            obtain ⟨rfl, o29, o30⟩ := hP
            rw [← zz_fr.eq F_S] at o30
            skip
            refine zz_iadd zd_14_112_58 ?_
            refine zz_icmp_ge (by omega) (by omega) zd_14_112_59 (fun c31 => ?_) (fun c31 => ?_)
            · refine zz_iconst zd_14_112_66 ?_
              refine zz_istore_n [some (.ref 1079), some (zi p0), some (zi p1), some (zi 0), some (zi x4)] zd_14_112_67 (by decide) rfl ?_
              refine zz_iinc [some (.ref 1079), some (zi p0), some (zi p1), some (zi 0), some (zi (x4 + 1))] zd_14_112_68 rfl rfl ?_
              refine zz_goto zd_14_112_71 ?_
              refine zz_less (ls1 := [some (.ref 1079), some (zi p0), some (zi p1), some (zi 0), some (zi (x4 + 1))]) ⟨rfl, ⟨rfl, ⟨rfl, ⟨rfl, ⟨rfl, trivial⟩⟩⟩⟩⟩ ?_
              exact k5 0 (x4 + 1) S G_S F_S (by omega) (by omega) (by omega) (by omega) (zn_RMn (by have q9 := i5_4; rw [show x3 = 0 by omega] at q9; exact q9) (by omega) (Or.inr (Or.inr ⟨_, o30, by omega⟩)) (by omega)) (by omega)
            · refine zz_iconst zd_14_112_62 ?_
              refine zz_goto zd_14_112_63 ?_
              refine zz_istore_n [some (.ref 1079), some (zi p0), some (zi p1), some (zi 1), some (zi x4)] zd_14_112_67 (by decide) rfl ?_
              refine zz_iinc [some (.ref 1079), some (zi p0), some (zi p1), some (zi 1), some (zi (x4 + 1))] zd_14_112_68 rfl rfl ?_
              refine zz_goto zd_14_112_71 ?_
              refine zz_less (ls1 := [some (.ref 1079), some (zi p0), some (zi p1), some (zi 1), some (zi (x4 + 1))]) ⟨rfl, ⟨rfl, ⟨rfl, ⟨rfl, ⟨rfl, trivial⟩⟩⟩⟩⟩ ?_
              exact k5 1 (x4 + 1) S G_S F_S (by omega) (by omega) (by omega) (by omega) (zn_RMs (by omega) (by omega) o6 o19 (by omega) o30 (by omega) rfl) (by omega)
theorem zi_meets_14_112 {g : mm_G} {l : Launch} (p0 : Int) (p1 : Int) (S0 : zz_S) (n : Nat) (hn : zz_end ≤ n) (G_S0 : zz_G S0) (hp0 : 0 ≤ p0 ∧ p0 ≤ 9) (hp1 : 0 ≤ p1 ∧ p1 ≤ 2800000) (hb : ∀ u : Nat, (u : Int) ≤ p0 → S0 1105 u ≤ 250047 * (u : Int)) : ∀ N : Nat, (∀ (x3 : Int) (x4 : Int) (S : zz_S), zz_G S → zz_fr [] [] (fun _ _ => False) S0 S → (0 ≤ x3 ∧ x3 ≤ 1) → (0 ≤ x4 ∧ x4 ≤ 10) → (x3 = 1 → p1 < 250047 * (p0 + 1)) → (x4 ≤ p0 + 1) → (zn_RM S0 (p0 + 1) p1 x3 x4) → (p0 + 1 - x4).toNat < N → zz_E g l zy_meets_14_112 zr_meets_14_112 (zz_QI n (zp_meets_14_112 p0 p1 S0)) S n 5 [some (.ref 1079), some (zi p0), some (zi p1), some (zi x3), some (zi x4)] [] 0 0) := by
  intro N
  induction N with
  | zero => exact fun x3 x4 S _ _ _ _ _ _ _ h => absurd h (Nat.not_lt_zero _)
  | succ N ih =>
    exact fun x3 x4 S a b j0 j1 j2 j3 j4 hR => zb_meets_14_112_5 p0 p1 S0 n hn G_S0 hp0 hp1 hb x3 x4 S a b j0 j1 j2 j3 j4 _ rfl (fun x3 x4 S a b j0 j1 j2 j3 j4 h => ih x3 x4 S a b j0 j1 j2 j3 j4 (Nat.lt_of_lt_of_le h (Nat.le_of_lt_succ hR)))
theorem zc_meets_14_112 {g : mm_G} {l : Launch} (p0 : Int) (p1 : Int) (S0 : zz_S) (n : Nat) (hn : zz_end ≤ n) (G_S0 : zz_G S0) (hp0 : 0 ≤ p0 ∧ p0 ≤ 9) (hp1 : 0 ≤ p1 ∧ p1 ≤ 2800000) (hb : ∀ u : Nat, (u : Int) ≤ p0 → S0 1105 u ≤ 250047 * (u : Int)) : mm_Met g l zy_meets_14_112 zr_meets_14_112 [.ref 1079, zi p0, zi p1] (zz_M S0 n) n (zz_QI n (zp_meets_14_112 p0 p1 S0)) := by
  refine zz_enter (by decide) (Nat.le_of_ble_eq_true rfl) (zz_less (ls1 := [some (.ref 1079), some (zi p0), some (zi p1)]) ⟨rfl, ⟨rfl, ⟨rfl, trivial⟩⟩⟩ ?_)
  have F_S0 : zz_fr [] [] (fun _ _ => False) S0 S0 := zz_fr.refl
  have k5 : ∀ (x3 : Int) (x4 : Int) (S : zz_S), zz_G S → zz_fr [] [] (fun _ _ => False) S0 S → (0 ≤ x3 ∧ x3 ≤ 1) → (0 ≤ x4 ∧ x4 ≤ 10) → (x3 = 1 → p1 < 250047 * (p0 + 1)) → (x4 ≤ p0 + 1) → (zn_RM S0 (p0 + 1) p1 x3 x4) → zz_E g l zy_meets_14_112 zr_meets_14_112 (zz_QI n (zp_meets_14_112 p0 p1 S0)) S n 5 [some (.ref 1079), some (zi p0), some (zi p1), some (zi x3), some (zi x4)] [] 0 0 := fun x3 x4 S a b j0 j1 j2 j3 j4 => (zi_meets_14_112 (g := g) (l := l) p0 p1 S0 n hn G_S0 hp0 hp1 hb _) x3 x4 S a b j0 j1 j2 j3 j4 (Nat.lt_succ_self _)
  refine zz_iconst zd_14_112_0 ?_
  refine zz_istore_n [some (.ref 1079), some (zi p0), some (zi p1), some (zi 0)] zd_14_112_1 (by decide) rfl ?_
  refine zz_iconst zd_14_112_2 ?_
  refine zz_istore [some (.ref 1079), some (zi p0), some (zi p1), some (zi 0), some (zi 0)] zd_14_112_3 (by decide) rfl ?_
  refine zz_less (ls1 := [some (.ref 1079), some (zi p0), some (zi p1), some (zi 0), some (zi 0)]) ⟨rfl, ⟨rfl, ⟨rfl, ⟨rfl, ⟨rfl, trivial⟩⟩⟩⟩⟩ ?_
  exact k5 0 0 S0 G_S0 F_S0 (by omega) (by omega) (by omega) (by omega) zn_RM0
abbrev zy_place_14_113 : mm_Y := (⟨"TensorForgeModel", "place", "()I"⟩, prog_14_method_113_code, 4, (some .int))
theorem zyw_place_14_113 : mm_Yw zy_place_14_113 0 := ⟨mm_tb_1 2276 (by decide +kernel) rfl, mm_tb_1 12 (by decide +kernel) rfl, ⟨by decide, by decide⟩, by decide +kernel⟩
abbrev zy_placeAll_14_114 : mm_Y := (⟨"TensorForgeModel", "placeAll", "()I"⟩, prog_14_method_114_code, 4, (some .int))
theorem zyw_placeAll_14_114 : mm_Yw zy_placeAll_14_114 0 := ⟨mm_tb_1 2280 (by decide +kernel) rfl, mm_tb_1 12 (by decide +kernel) rfl, ⟨by decide, by decide⟩, by decide +kernel⟩
theorem zk_Md_622 : mm_Vl "TensorForgeModel" 622 11 2 zy_meets_14_112 := ⟨zyw_meets_14_112, (R_Md, F_Md, 69), rfl, mm_tb_1 2281 (by decide +kernel) rfl, mm_tb_1 2283 (by decide +kernel) rfl, mm_tb_s 156 (by decide +kernel) rfl⟩
theorem zg_14_113_0 : zq_at zy_place_14_113.2.1 0 3 ∧ zq_at zy_place_14_113.2.1 1 60 ∧ zq_at zy_place_14_113.2.1 2 27 ∧ zq_at zy_place_14_113.2.1 3 16 ∧ zq_at zy_place_14_113.2.1 4 12 ∧ zq_at zy_place_14_113.2.1 5 162 ∧ zq_at zy_place_14_113.2.1 6 0 ∧ zq_at zy_place_14_113.2.1 7 21 ∧ zq_at zy_place_14_113.2.1 26 42 ∧ zq_at zy_place_14_113.2.1 27 182 ∧ zq_at zy_place_14_113.2.1 28 2 ∧ zq_at zy_place_14_113.2.1 29 107 := by decide +kernel
theorem zd_14_113_0 : zz_D zy_place_14_113 0 (.iconst 0) 1 1 := ⟨zq_3 zg_14_113_0.1, rfl⟩
theorem zd_14_113_1 : zz_D zy_place_14_113 1 (.istore_n 1) 1 2 := ⟨zq_60 zg_14_113_0.2.1, rfl⟩
theorem zd_14_113_2 : zz_D zy_place_14_113 2 (.iload_n 1) 1 3 := ⟨zq_27 zg_14_113_0.2.2.1, rfl⟩
theorem zd_14_113_3 : zz_D zy_place_14_113 3 (.bipush 12) 2 5 := ⟨zq_16 zg_14_113_0.2.2.2.1 zg_14_113_0.2.2.2.2.1 (by decide), rfl⟩
theorem zd_14_113_5 : zz_B zy_place_14_113 5 (Instr.if_icmp .ge) 26 8 := ⟨21, zq_162 zg_14_113_0.2.2.2.2.2.1 zg_14_113_0.2.2.2.2.2.2.1 zg_14_113_0.2.2.2.2.2.2.2.1 (by decide), rfl, rfl⟩
theorem zd_14_113_26 : zz_D zy_place_14_113 26 (.aload_n 0) 1 27 := ⟨zq_42 zg_14_113_0.2.2.2.2.2.2.2.2.1, rfl⟩
theorem zd_14_113_27 : zz_D zy_place_14_113 27 (.invokevirtual 619) 3 30 := ⟨zq_182 zg_14_113_0.2.2.2.2.2.2.2.2.2.1 zg_14_113_0.2.2.2.2.2.2.2.2.2.2.1 zg_14_113_0.2.2.2.2.2.2.2.2.2.2.2 rfl, rfl⟩
theorem zg_14_114_0 : zq_at zy_placeAll_14_114.2.1 0 42 ∧ zq_at zy_placeAll_14_114.2.1 1 3 ∧ zq_at zy_placeAll_14_114.2.1 2 182 ∧ zq_at zy_placeAll_14_114.2.1 3 0 ∧ zq_at zy_placeAll_14_114.2.1 4 200 ∧ zq_at zy_placeAll_14_114.2.1 5 60 ∧ zq_at zy_placeAll_14_114.2.1 6 3 ∧ zq_at zy_placeAll_14_114.2.1 7 61 ∧ zq_at zy_placeAll_14_114.2.1 8 28 ∧ zq_at zy_placeAll_14_114.2.1 9 42 ∧ zq_at zy_placeAll_14_114.2.1 10 180 ∧ zq_at zy_placeAll_14_114.2.1 11 0 ∧ zq_at zy_placeAll_14_114.2.1 12 85 ∧ zq_at zy_placeAll_14_114.2.1 13 4 ∧ zq_at zy_placeAll_14_114.2.1 14 100 ∧ zq_at zy_placeAll_14_114.2.1 15 162 ∧ zq_at zy_placeAll_14_114.2.1 16 0 ∧ zq_at zy_placeAll_14_114.2.1 17 62 ∧ zq_at zy_placeAll_14_114.2.1 77 42 ∧ zq_at zy_placeAll_14_114.2.1 78 180 ∧ zq_at zy_placeAll_14_114.2.1 79 0 ∧ zq_at zy_placeAll_14_114.2.1 80 97 ∧ zq_at zy_placeAll_14_114.2.1 81 42 := by decide +kernel
theorem zd_14_114_0 : zz_D zy_placeAll_14_114 0 (.aload_n 0) 1 1 := ⟨zq_42 zg_14_114_0.1, rfl⟩
theorem zd_14_114_1 : zz_D zy_placeAll_14_114 1 (.iconst 0) 1 2 := ⟨zq_3 zg_14_114_0.2.1, rfl⟩
theorem zd_14_114_2 : zz_D zy_placeAll_14_114 2 (.invokevirtual 200) 3 5 := ⟨zq_182 zg_14_114_0.2.2.1 zg_14_114_0.2.2.2.1 zg_14_114_0.2.2.2.2.1 rfl, rfl⟩
theorem zd_14_114_5 : zz_D zy_placeAll_14_114 5 (.istore_n 1) 1 6 := ⟨zq_60 zg_14_114_0.2.2.2.2.2.1, rfl⟩
theorem zd_14_114_6 : zz_D zy_placeAll_14_114 6 (.iconst 0) 1 7 := ⟨zq_3 zg_14_114_0.2.2.2.2.2.2.1, rfl⟩
theorem zd_14_114_7 : zz_D zy_placeAll_14_114 7 (.istore_n 2) 1 8 := ⟨zq_61 zg_14_114_0.2.2.2.2.2.2.2.1, rfl⟩
theorem zd_14_114_8 : zz_D zy_placeAll_14_114 8 (.iload_n 2) 1 9 := ⟨zq_28 zg_14_114_0.2.2.2.2.2.2.2.2.1, rfl⟩
theorem zd_14_114_9 : zz_D zy_placeAll_14_114 9 (.aload_n 0) 1 10 := ⟨zq_42 zg_14_114_0.2.2.2.2.2.2.2.2.2.1, rfl⟩
theorem zd_14_114_10 : zz_D zy_placeAll_14_114 10 (.getfield 85) 3 13 := ⟨zq_180 zg_14_114_0.2.2.2.2.2.2.2.2.2.2.1 zg_14_114_0.2.2.2.2.2.2.2.2.2.2.2.1 zg_14_114_0.2.2.2.2.2.2.2.2.2.2.2.2.1 rfl, rfl⟩
theorem zd_14_114_13 : zz_D zy_placeAll_14_114 13 (.iconst 1) 1 14 := ⟨zq_4 zg_14_114_0.2.2.2.2.2.2.2.2.2.2.2.2.2.1, rfl⟩
theorem zd_14_114_14 : zz_D zy_placeAll_14_114 14 (.isub) 1 15 := ⟨zq_100 zg_14_114_0.2.2.2.2.2.2.2.2.2.2.2.2.2.2.1, rfl⟩
theorem zd_14_114_15 : zz_B zy_placeAll_14_114 15 (Instr.if_icmp .ge) 77 18 := ⟨62, zq_162 zg_14_114_0.2.2.2.2.2.2.2.2.2.2.2.2.2.2.2.1 zg_14_114_0.2.2.2.2.2.2.2.2.2.2.2.2.2.2.2.2.1 zg_14_114_0.2.2.2.2.2.2.2.2.2.2.2.2.2.2.2.2.2.1 (by decide), rfl, rfl⟩
theorem zd_14_114_77 : zz_D zy_placeAll_14_114 77 (.aload_n 0) 1 78 := ⟨zq_42 zg_14_114_0.2.2.2.2.2.2.2.2.2.2.2.2.2.2.2.2.2.2.1, rfl⟩
theorem zd_14_114_78 : zz_D zy_placeAll_14_114 78 (.getfield 97) 3 81 := ⟨zq_180 zg_14_114_0.2.2.2.2.2.2.2.2.2.2.2.2.2.2.2.2.2.2.2.1 zg_14_114_0.2.2.2.2.2.2.2.2.2.2.2.2.2.2.2.2.2.2.2.2.1 zg_14_114_0.2.2.2.2.2.2.2.2.2.2.2.2.2.2.2.2.2.2.2.2.2.1 rfl, rfl⟩
theorem zd_14_114_81 : zz_D zy_placeAll_14_114 81 (.aload_n 0) 1 82 := ⟨zq_42 zg_14_114_0.2.2.2.2.2.2.2.2.2.2.2.2.2.2.2.2.2.2.2.2.2.2, rfl⟩
theorem zg_14_114_82 : zq_at zy_placeAll_14_114.2.1 82 180 ∧ zq_at zy_placeAll_14_114.2.1 83 0 ∧ zq_at zy_placeAll_14_114.2.1 84 85 ∧ zq_at zy_placeAll_14_114.2.1 85 27 ∧ zq_at zy_placeAll_14_114.2.1 86 79 ∧ zq_at zy_placeAll_14_114.2.1 87 27 ∧ zq_at zy_placeAll_14_114.2.1 88 172 ∧ zq_at zy_placeAll_14_114.2.1 18 3 ∧ zq_at zy_placeAll_14_114.2.1 19 62 ∧ zq_at zy_placeAll_14_114.2.1 20 42 ∧ zq_at zy_placeAll_14_114.2.1 21 28 ∧ zq_at zy_placeAll_14_114.2.1 22 29 ∧ zq_at zy_placeAll_14_114.2.1 23 182 ∧ zq_at zy_placeAll_14_114.2.1 24 2 ∧ zq_at zy_placeAll_14_114.2.1 25 110 ∧ zq_at zy_placeAll_14_114.2.1 26 153 ∧ zq_at zy_placeAll_14_114.2.1 27 0 ∧ zq_at zy_placeAll_14_114.2.1 28 9 ∧ zq_at zy_placeAll_14_114.2.1 35 42 ∧ zq_at zy_placeAll_14_114.2.1 36 180 ∧ zq_at zy_placeAll_14_114.2.1 37 0 ∧ zq_at zy_placeAll_14_114.2.1 38 97 ∧ zq_at zy_placeAll_14_114.2.1 39 28 ∧ zq_at zy_placeAll_14_114.2.1 40 4 := by decide +kernel
theorem zd_14_114_82 : zz_D zy_placeAll_14_114 82 (.getfield 85) 3 85 := ⟨zq_180 zg_14_114_82.1 zg_14_114_82.2.1 zg_14_114_82.2.2.1 rfl, rfl⟩
theorem zd_14_114_85 : zz_D zy_placeAll_14_114 85 (.iload_n 1) 1 86 := ⟨zq_27 zg_14_114_82.2.2.2.1, rfl⟩
theorem zd_14_114_86 : zz_D zy_placeAll_14_114 86 (.iastore) 1 87 := ⟨zq_79 zg_14_114_82.2.2.2.2.1, rfl⟩
theorem zd_14_114_87 : zz_D zy_placeAll_14_114 87 (.iload_n 1) 1 88 := ⟨zq_27 zg_14_114_82.2.2.2.2.2.1, rfl⟩
theorem zd_14_114_88 : zz_D zy_placeAll_14_114 88 (.ireturn) 1 89 := ⟨zq_172 zg_14_114_82.2.2.2.2.2.2.1, rfl⟩
theorem zd_14_114_18 : zz_D zy_placeAll_14_114 18 (.iconst 0) 1 19 := ⟨zq_3 zg_14_114_82.2.2.2.2.2.2.2.1, rfl⟩
theorem zd_14_114_19 : zz_D zy_placeAll_14_114 19 (.istore_n 3) 1 20 := ⟨zq_62 zg_14_114_82.2.2.2.2.2.2.2.2.1, rfl⟩
theorem zd_14_114_20 : zz_D zy_placeAll_14_114 20 (.aload_n 0) 1 21 := ⟨zq_42 zg_14_114_82.2.2.2.2.2.2.2.2.2.1, rfl⟩
theorem zd_14_114_21 : zz_D zy_placeAll_14_114 21 (.iload_n 2) 1 22 := ⟨zq_28 zg_14_114_82.2.2.2.2.2.2.2.2.2.2.1, rfl⟩
theorem zd_14_114_22 : zz_D zy_placeAll_14_114 22 (.iload_n 3) 1 23 := ⟨zq_29 zg_14_114_82.2.2.2.2.2.2.2.2.2.2.2.1, rfl⟩
theorem zd_14_114_23 : zz_D zy_placeAll_14_114 23 (.invokevirtual 622) 3 26 := ⟨zq_182 zg_14_114_82.2.2.2.2.2.2.2.2.2.2.2.2.1 zg_14_114_82.2.2.2.2.2.2.2.2.2.2.2.2.2.1 zg_14_114_82.2.2.2.2.2.2.2.2.2.2.2.2.2.2.1 rfl, rfl⟩
theorem zd_14_114_26 : zz_B zy_placeAll_14_114 26 (Instr.ifCond .eq) 35 29 := ⟨9, zq_153 zg_14_114_82.2.2.2.2.2.2.2.2.2.2.2.2.2.2.2.1 zg_14_114_82.2.2.2.2.2.2.2.2.2.2.2.2.2.2.2.2.1 zg_14_114_82.2.2.2.2.2.2.2.2.2.2.2.2.2.2.2.2.2.1 (by decide), rfl, rfl⟩
theorem zd_14_114_35 : zz_D zy_placeAll_14_114 35 (.aload_n 0) 1 36 := ⟨zq_42 zg_14_114_82.2.2.2.2.2.2.2.2.2.2.2.2.2.2.2.2.2.2.1, rfl⟩
theorem zd_14_114_36 : zz_D zy_placeAll_14_114 36 (.getfield 97) 3 39 := ⟨zq_180 zg_14_114_82.2.2.2.2.2.2.2.2.2.2.2.2.2.2.2.2.2.2.2.1 zg_14_114_82.2.2.2.2.2.2.2.2.2.2.2.2.2.2.2.2.2.2.2.2.1 zg_14_114_82.2.2.2.2.2.2.2.2.2.2.2.2.2.2.2.2.2.2.2.2.2.1 rfl, rfl⟩
theorem zd_14_114_39 : zz_D zy_placeAll_14_114 39 (.iload_n 2) 1 40 := ⟨zq_28 zg_14_114_82.2.2.2.2.2.2.2.2.2.2.2.2.2.2.2.2.2.2.2.2.2.2.1, rfl⟩
theorem zd_14_114_40 : zz_D zy_placeAll_14_114 40 (.iconst 1) 1 41 := ⟨zq_4 zg_14_114_82.2.2.2.2.2.2.2.2.2.2.2.2.2.2.2.2.2.2.2.2.2.2.2, rfl⟩
theorem zg_14_114_41 : zq_at zy_placeAll_14_114.2.1 41 96 ∧ zq_at zy_placeAll_14_114.2.1 42 29 ∧ zq_at zy_placeAll_14_114.2.1 43 79 ∧ zq_at zy_placeAll_14_114.2.1 44 29 ∧ zq_at zy_placeAll_14_114.2.1 45 42 ∧ zq_at zy_placeAll_14_114.2.1 46 28 ∧ zq_at zy_placeAll_14_114.2.1 47 4 ∧ zq_at zy_placeAll_14_114.2.1 48 96 ∧ zq_at zy_placeAll_14_114.2.1 49 182 ∧ zq_at zy_placeAll_14_114.2.1 50 0 ∧ zq_at zy_placeAll_14_114.2.1 51 200 ∧ zq_at zy_placeAll_14_114.2.1 52 96 ∧ zq_at zy_placeAll_14_114.2.1 53 27 ∧ zq_at zy_placeAll_14_114.2.1 54 164 ∧ zq_at zy_placeAll_14_114.2.1 55 0 ∧ zq_at zy_placeAll_14_114.2.1 56 15 ∧ zq_at zy_placeAll_14_114.2.1 69 27 ∧ zq_at zy_placeAll_14_114.2.1 70 60 ∧ zq_at zy_placeAll_14_114.2.1 71 132 ∧ zq_at zy_placeAll_14_114.2.1 72 2 ∧ zq_at zy_placeAll_14_114.2.1 73 1 ∧ zq_at zy_placeAll_14_114.2.1 74 167 ∧ zq_at zy_placeAll_14_114.2.1 75 255 ∧ zq_at zy_placeAll_14_114.2.1 76 190 := by decide +kernel
theorem zd_14_114_41 : zz_D zy_placeAll_14_114 41 (.iadd) 1 42 := ⟨zq_96 zg_14_114_41.1, rfl⟩
theorem zd_14_114_42 : zz_D zy_placeAll_14_114 42 (.iload_n 3) 1 43 := ⟨zq_29 zg_14_114_41.2.1, rfl⟩
theorem zd_14_114_43 : zz_D zy_placeAll_14_114 43 (.iastore) 1 44 := ⟨zq_79 zg_14_114_41.2.2.1, rfl⟩
theorem zd_14_114_44 : zz_D zy_placeAll_14_114 44 (.iload_n 3) 1 45 := ⟨zq_29 zg_14_114_41.2.2.2.1, rfl⟩
theorem zd_14_114_45 : zz_D zy_placeAll_14_114 45 (.aload_n 0) 1 46 := ⟨zq_42 zg_14_114_41.2.2.2.2.1, rfl⟩
theorem zd_14_114_46 : zz_D zy_placeAll_14_114 46 (.iload_n 2) 1 47 := ⟨zq_28 zg_14_114_41.2.2.2.2.2.1, rfl⟩
theorem zd_14_114_47 : zz_D zy_placeAll_14_114 47 (.iconst 1) 1 48 := ⟨zq_4 zg_14_114_41.2.2.2.2.2.2.1, rfl⟩
theorem zd_14_114_48 : zz_D zy_placeAll_14_114 48 (.iadd) 1 49 := ⟨zq_96 zg_14_114_41.2.2.2.2.2.2.2.1, rfl⟩
theorem zd_14_114_49 : zz_D zy_placeAll_14_114 49 (.invokevirtual 200) 3 52 := ⟨zq_182 zg_14_114_41.2.2.2.2.2.2.2.2.1 zg_14_114_41.2.2.2.2.2.2.2.2.2.1 zg_14_114_41.2.2.2.2.2.2.2.2.2.2.1 rfl, rfl⟩
theorem zd_14_114_52 : zz_D zy_placeAll_14_114 52 (.iadd) 1 53 := ⟨zq_96 zg_14_114_41.2.2.2.2.2.2.2.2.2.2.2.1, rfl⟩
theorem zd_14_114_53 : zz_D zy_placeAll_14_114 53 (.iload_n 1) 1 54 := ⟨zq_27 zg_14_114_41.2.2.2.2.2.2.2.2.2.2.2.2.1, rfl⟩
theorem zd_14_114_54 : zz_B zy_placeAll_14_114 54 (Instr.if_icmp .le) 69 57 := ⟨15, zq_164 zg_14_114_41.2.2.2.2.2.2.2.2.2.2.2.2.2.1 zg_14_114_41.2.2.2.2.2.2.2.2.2.2.2.2.2.2.1 zg_14_114_41.2.2.2.2.2.2.2.2.2.2.2.2.2.2.2.1 (by decide), rfl, rfl⟩
theorem zd_14_114_69 : zz_D zy_placeAll_14_114 69 (.iload_n 1) 1 70 := ⟨zq_27 zg_14_114_41.2.2.2.2.2.2.2.2.2.2.2.2.2.2.2.2.1, rfl⟩
theorem zd_14_114_70 : zz_D zy_placeAll_14_114 70 (.istore_n 1) 1 71 := ⟨zq_60 zg_14_114_41.2.2.2.2.2.2.2.2.2.2.2.2.2.2.2.2.2.1, rfl⟩
theorem zd_14_114_71 : zz_D zy_placeAll_14_114 71 (.iinc 2 1) 3 74 := ⟨zq_132 zg_14_114_41.2.2.2.2.2.2.2.2.2.2.2.2.2.2.2.2.2.2.1 zg_14_114_41.2.2.2.2.2.2.2.2.2.2.2.2.2.2.2.2.2.2.2.1 zg_14_114_41.2.2.2.2.2.2.2.2.2.2.2.2.2.2.2.2.2.2.2.2.1 (by decide), rfl⟩
theorem zd_14_114_74 : zz_B zy_placeAll_14_114 74 Instr.goto 8 77 := ⟨(-66), zq_167 zg_14_114_41.2.2.2.2.2.2.2.2.2.2.2.2.2.2.2.2.2.2.2.2.2.1 zg_14_114_41.2.2.2.2.2.2.2.2.2.2.2.2.2.2.2.2.2.2.2.2.2.2.1 zg_14_114_41.2.2.2.2.2.2.2.2.2.2.2.2.2.2.2.2.2.2.2.2.2.2.2 (by decide), rfl, rfl⟩
theorem zg_14_114_57 : zq_at zy_placeAll_14_114.2.1 57 29 ∧ zq_at zy_placeAll_14_114.2.1 58 42 ∧ zq_at zy_placeAll_14_114.2.1 59 28 ∧ zq_at zy_placeAll_14_114.2.1 60 4 ∧ zq_at zy_placeAll_14_114.2.1 61 96 ∧ zq_at zy_placeAll_14_114.2.1 62 182 ∧ zq_at zy_placeAll_14_114.2.1 63 0 ∧ zq_at zy_placeAll_14_114.2.1 64 200 ∧ zq_at zy_placeAll_14_114.2.1 65 96 ∧ zq_at zy_placeAll_14_114.2.1 66 167 ∧ zq_at zy_placeAll_14_114.2.1 67 0 ∧ zq_at zy_placeAll_14_114.2.1 68 4 ∧ zq_at zy_placeAll_14_114.2.1 29 132 ∧ zq_at zy_placeAll_14_114.2.1 30 3 ∧ zq_at zy_placeAll_14_114.2.1 31 1 ∧ zq_at zy_placeAll_14_114.2.1 32 167 ∧ zq_at zy_placeAll_14_114.2.1 33 255 ∧ zq_at zy_placeAll_14_114.2.1 34 244 := by decide +kernel
theorem zd_14_114_57 : zz_D zy_placeAll_14_114 57 (.iload_n 3) 1 58 := ⟨zq_29 zg_14_114_57.1, rfl⟩
theorem zd_14_114_58 : zz_D zy_placeAll_14_114 58 (.aload_n 0) 1 59 := ⟨zq_42 zg_14_114_57.2.1, rfl⟩
theorem zd_14_114_59 : zz_D zy_placeAll_14_114 59 (.iload_n 2) 1 60 := ⟨zq_28 zg_14_114_57.2.2.1, rfl⟩
theorem zd_14_114_60 : zz_D zy_placeAll_14_114 60 (.iconst 1) 1 61 := ⟨zq_4 zg_14_114_57.2.2.2.1, rfl⟩
theorem zd_14_114_61 : zz_D zy_placeAll_14_114 61 (.iadd) 1 62 := ⟨zq_96 zg_14_114_57.2.2.2.2.1, rfl⟩
theorem zd_14_114_62 : zz_D zy_placeAll_14_114 62 (.invokevirtual 200) 3 65 := ⟨zq_182 zg_14_114_57.2.2.2.2.2.1 zg_14_114_57.2.2.2.2.2.2.1 zg_14_114_57.2.2.2.2.2.2.2.1 rfl, rfl⟩
theorem zd_14_114_65 : zz_D zy_placeAll_14_114 65 (.iadd) 1 66 := ⟨zq_96 zg_14_114_57.2.2.2.2.2.2.2.2.1, rfl⟩
theorem zd_14_114_66 : zz_B zy_placeAll_14_114 66 Instr.goto 70 69 := ⟨4, zq_167 zg_14_114_57.2.2.2.2.2.2.2.2.2.1 zg_14_114_57.2.2.2.2.2.2.2.2.2.2.1 zg_14_114_57.2.2.2.2.2.2.2.2.2.2.2.1 (by decide), rfl, rfl⟩
theorem zd_14_114_29 : zz_D zy_placeAll_14_114 29 (.iinc 3 1) 3 32 := ⟨zq_132 zg_14_114_57.2.2.2.2.2.2.2.2.2.2.2.2.1 zg_14_114_57.2.2.2.2.2.2.2.2.2.2.2.2.2.1 zg_14_114_57.2.2.2.2.2.2.2.2.2.2.2.2.2.2.1 (by decide), rfl⟩
theorem zd_14_114_32 : zz_B zy_placeAll_14_114 32 Instr.goto 20 35 := ⟨(-12), zq_167 zg_14_114_57.2.2.2.2.2.2.2.2.2.2.2.2.2.2.2.1 zg_14_114_57.2.2.2.2.2.2.2.2.2.2.2.2.2.2.2.2.1 zg_14_114_57.2.2.2.2.2.2.2.2.2.2.2.2.2.2.2.2.2 (by decide), rfl, rfl⟩
-- TensorForgeModel placeAll ()I
abbrev zr_placeAll_14_114 : Room := { frames := 3, cells := 0, slots := 0, locals := 47 }
def zp_placeAll_14_114  (S0 : zz_S) : Int → zz_S → Prop := fun r S => zz_G S ∧ zz_fr [] [1105] (fun _ _ => False) S0 S ∧ (0 ≤ r ∧ r ≤ 3000000) ∧ (r ≤ 2048 → zz_Hr S) ∧ (zn_RA S0 S r)
theorem zb_placeAll_14_114_8 {g : mm_G} {l : Launch}  (S0 : zz_S) (n : Nat) (hn : zz_end ≤ n) (G_S0 : zz_G S0) (R_S0 : zz_Hr S0) (h1 : 1 ≤ S0 1079 36) (x1 : Int) (x2 : Int) (S : zz_S) (G_S : zz_G S) (F_S : zz_fr [] [1105] (fun _ _ => False) S0 S) (i8_0 : 0 ≤ x1 ∧ x1 ≤ 2800000) (i8_1 : 0 ≤ x2 ∧ x2 ≤ 10) (i8_2 : ∀ u : Nat, (u : Int) ≤ x2 → S 1105 u ≤ 250047 * (u : Int)) (i8_3 : ∀ u : Nat, (u : Int) ≤ x2 → S 1105 u + zz_sz S0 u ≤ x1) (i8_4 : x2 + 1 ≤ S0 1079 36) (i8_5 : zn_RP S0 S x1 (x2 + 1)) (R : Nat) (hR : (34359738368 + (20 - x2).toNat) * 1099511627776 + 1099511627775 = R) (k20 : ∀ (x1 : Int) (x2 : Int) (x3 : Int) (S : zz_S), zz_G S → zz_fr [] [1105] (fun _ _ => False) S0 S → (0 ≤ x1 ∧ x1 ≤ 2800000) → (0 ≤ x2 ∧ x2 ≤ 9) → (0 ≤ x3 ∧ x3 ≤ 2600000) → (0 ≤ x2 ∧ x2 ≤ 10) → (x2 + 1 ≤ S0 1079 36) → (∀ u : Nat, (u : Int) ≤ x2 → S 1105 u ≤ 250047 * (u : Int)) → (x3 ≤ 250047 * (x2 + 1)) → (∀ u : Nat, (u : Int) ≤ x2 → S 1105 u + zz_sz S0 u ≤ x1) → (x2 + 1 < S0 1079 36) → (zn_RP S0 S x1 (x2 + 1)) → (zn_RQ S0 S (x2 + 1) x3) → (34359738368 + (20 - x2).toNat) * 1099511627776 + (17179869184 + (250047 * (x2 + 1) - x3).toNat) < R → zz_E g l zy_placeAll_14_114 zr_placeAll_14_114 (zz_QI n (zp_placeAll_14_114  S0)) S n 20 [some (.ref 1079), some (zi x1), some (zi x2), some (zi x3)] [] 0 0) : zz_E g l zy_placeAll_14_114 zr_placeAll_14_114 (zz_QI n (zp_placeAll_14_114  S0)) S n 8 [some (.ref 1079), some (zi x1), some (zi x2)] [] 0 0 := by
  refine zz_iload_n (x := x2) rfl zd_14_114_8 ?_
  refine zz_aload_n (x := 1079) rfl zd_14_114_9 ?_
  have g9 := zz_G.r G_S0 1079 36 0 11 rfl rfl
  refine zz_geti (z := S0 1079 36) zd_14_114_10 zf_Md_85 zT_1079 rfl (zz_ltn hn rfl) (zz_rc F_S rfl rfl (fun h => h) rfl) ?_
  refine zz_iconst zd_14_114_13 ?_
  refine zz_isub zd_14_114_14 ?_
  refine zz_icmp_ge (by omega) (by omega) zd_14_114_15 (fun c10 => ?_) (fun c10 => ?_)
  · refine zz_aload_n (x := 1079) rfl zd_14_114_77 ?_
    refine zz_getr (kd := 0) (z := 1105) zd_14_114_78 zf_Md_97 zT_1079 rfl (zz_ltn hn rfl) (zz_G.eq G_S 1079 40 1105 rfl rfl) (by decide) 1105 rfl ?_
    refine zz_aload_n (x := 1079) rfl zd_14_114_81 ?_
    refine zz_geti (z := S0 1079 36) zd_14_114_82 zf_Md_85 zT_1079 rfl (zz_ltn hn rfl) (zz_rc F_S rfl rfl (fun h => h) rfl) ?_
    refine zz_iload_n (x := x1) rfl zd_14_114_85 ?_
    refine zz_iast zd_14_114_86 zT_1105 rfl (zz_ltn hn rfl) (by decide) (by omega) (fun S11 qS11 => ?_)
    have G_S11 := zz_G.put G_S qS11 (0) (if (S0 1079 36).toNat = 0 then 0 else 10000000) rfl (by omega)
    have F_S11 := zz_fr.putc F_S qS11 rfl
    refine zz_iload_n (x := x1) rfl zd_14_114_87 ?_
    have e12 : S11 1079 36 = S0 1079 36 := (zz_ro qS11 (fun h => absurd h.1 (by decide)) (zz_rc F_S rfl rfl (fun h => h) rfl))
    exact zz_iret zd_14_114_88 rfl (Nat.zero_le _) (Nat.zero_le _) ⟨_, _, rfl, G_S11, F_S11, by omega, fun hr => zz_Hr.froms R_S0 (by omega) (fun a i x y z => F_S11 a i (zz_nc4 rfl (by omega)) (zz_nc5 rfl (by omega)) (fun h => h)) (fun t ht => by rw [zz_ro (b := 1105) (j := t) qS11 (fun h9 => by omega) rfl]; have h9 := i8_3 t (by omega); omega), (zn_RAe (k := x2 + 1) i8_5 (by omega) (by have q9 := qS11; rw [show S0 1079 36 = x2 + 1 by omega] at q9; exact q9) (fun v h => zn_N.same h (F_S11 1079 36 rfl rfl (fun h => h)) (fun a i h1 h2 h3 => F_S11 a i (zz_nc4 rfl (by omega)) (zz_nc5 rfl (by omega)) (fun h => h))))⟩
  · refine zz_iconst zd_14_114_18 ?_
    refine zz_istore_n [some (.ref 1079), some (zi x1), some (zi x2), some (zi 0)] zd_14_114_19 (by decide) rfl ?_
    refine zz_less (ls1 := [some (.ref 1079), some (zi x1), some (zi x2), some (zi 0)]) ⟨rfl, ⟨rfl, ⟨rfl, ⟨rfl, trivial⟩⟩⟩⟩ ?_
    exact k20 x1 x2 0 S G_S F_S (by omega) (by omega) (by omega) (by omega) (by omega) i8_2 (by omega) i8_3 (by omega) i8_5 zn_RQ0 (by omega)
theorem zb_placeAll_14_114_20 {g : mm_G} {l : Launch}  (S0 : zz_S) (n : Nat) (hn : zz_end ≤ n) (G_S0 : zz_G S0) (R_S0 : zz_Hr S0) (h1 : 1 ≤ S0 1079 36) (x1 : Int) (x2 : Int) (x3 : Int) (S : zz_S) (G_S : zz_G S) (F_S : zz_fr [] [1105] (fun _ _ => False) S0 S) (i20_0 : 0 ≤ x1 ∧ x1 ≤ 2800000) (i20_1 : 0 ≤ x2 ∧ x2 ≤ 9) (i20_2 : 0 ≤ x3 ∧ x3 ≤ 2600000) (i20_3 : 0 ≤ x2 ∧ x2 ≤ 10) (i20_4 : x2 + 1 ≤ S0 1079 36) (i20_5 : ∀ u : Nat, (u : Int) ≤ x2 → S 1105 u ≤ 250047 * (u : Int)) (i20_6 : x3 ≤ 250047 * (x2 + 1)) (i20_7 : ∀ u : Nat, (u : Int) ≤ x2 → S 1105 u + zz_sz S0 u ≤ x1) (i20_8 : x2 + 1 < S0 1079 36) (i20_9 : zn_RP S0 S x1 (x2 + 1)) (i20_10 : zn_RQ S0 S (x2 + 1) x3) (R : Nat) (hR : (34359738368 + (20 - x2).toNat) * 1099511627776 + (17179869184 + (250047 * (x2 + 1) - x3).toNat) = R) (k8 : ∀ (x1 : Int) (x2 : Int) (S : zz_S), zz_G S → zz_fr [] [1105] (fun _ _ => False) S0 S → (0 ≤ x1 ∧ x1 ≤ 2800000) → (0 ≤ x2 ∧ x2 ≤ 10) → (∀ u : Nat, (u : Int) ≤ x2 → S 1105 u ≤ 250047 * (u : Int)) → (∀ u : Nat, (u : Int) ≤ x2 → S 1105 u + zz_sz S0 u ≤ x1) → (x2 + 1 ≤ S0 1079 36) → (zn_RP S0 S x1 (x2 + 1)) → (34359738368 + (20 - x2).toNat) * 1099511627776 + 1099511627775 < R → zz_E g l zy_placeAll_14_114 zr_placeAll_14_114 (zz_QI n (zp_placeAll_14_114  S0)) S n 8 [some (.ref 1079), some (zi x1), some (zi x2)] [] 0 0) (k20 : ∀ (x1 : Int) (x2 : Int) (x3 : Int) (S : zz_S), zz_G S → zz_fr [] [1105] (fun _ _ => False) S0 S → (0 ≤ x1 ∧ x1 ≤ 2800000) → (0 ≤ x2 ∧ x2 ≤ 9) → (0 ≤ x3 ∧ x3 ≤ 2600000) → (0 ≤ x2 ∧ x2 ≤ 10) → (x2 + 1 ≤ S0 1079 36) → (∀ u : Nat, (u : Int) ≤ x2 → S 1105 u ≤ 250047 * (u : Int)) → (x3 ≤ 250047 * (x2 + 1)) → (∀ u : Nat, (u : Int) ≤ x2 → S 1105 u + zz_sz S0 u ≤ x1) → (x2 + 1 < S0 1079 36) → (zn_RP S0 S x1 (x2 + 1)) → (zn_RQ S0 S (x2 + 1) x3) → (34359738368 + (20 - x2).toNat) * 1099511627776 + (17179869184 + (250047 * (x2 + 1) - x3).toNat) < R → zz_E g l zy_placeAll_14_114 zr_placeAll_14_114 (zz_QI n (zp_placeAll_14_114  S0)) S n 20 [some (.ref 1079), some (zi x1), some (zi x2), some (zi x3)] [] 0 0) : zz_E g l zy_placeAll_14_114 zr_placeAll_14_114 (zz_QI n (zp_placeAll_14_114  S0)) S n 20 [some (.ref 1079), some (zi x1), some (zi x2), some (zi x3)] [] 0 0 := by
  refine zz_aload_n (x := 1079) rfl zd_14_114_20 ?_
  refine zz_iload_n (x := x2) rfl zd_14_114_21 ?_
  refine zz_iload_n (x := x3) rfl zd_14_114_22 ?_
  refine zz_callVI [zi x2, zi x3] zd_14_114_23 zk_Md_622 zT_1079 (zz_ltn hn rfl) rfl rfl ⟨Nat.le_of_ble_eq_true rfl, Nat.le_of_ble_eq_true rfl⟩ ⟨rfl, rfl⟩ (Nat.zero_le _) (Nat.zero_le _) (zc_meets_14_112 x2 x3 S n hn G_S (by omega) (by omega) i20_5) (fun v14 S13 hP => ?_)
  obtain ⟨rfl, o15, o16, o17⟩ := hP
  rcases (by omega : v14 = 0 ∨ v14 = 1) with rfl | rfl
  · refine zz_if_eq (by omega) zd_14_114_26 (fun c18 => ?_) (fun c18 => ?_)
    · refine zz_aload_n (x := 1079) rfl zd_14_114_35 ?_
      refine zz_getr (kd := 0) (z := 1105) zd_14_114_36 zf_Md_97 zT_1079 rfl (zz_ltn hn rfl) (zz_G.eq G_S 1079 40 1105 rfl rfl) (by decide) 1105 rfl ?_
      refine zz_iload_n (x := x2) rfl zd_14_114_39 ?_
      refine zz_iconst zd_14_114_40 ?_
      refine zz_iadd zd_14_114_41 ?_
      refine zz_iload_n (x := x3) rfl zd_14_114_42 ?_
      refine zz_iast zd_14_114_43 zT_1105 rfl (zz_ltn hn rfl) (by decide) (by omega) (fun S19 qS19 => ?_)
      have G_S19 := zz_G.put G_S qS19 (0) (if (x2 + 1).toNat = 0 then 0 else 10000000) rfl (by omega)
      have F_S19 := zz_fr.putc F_S qS19 rfl
      refine zz_iload_n (x := x3) rfl zd_14_114_44 ?_
      refine zz_aload_n (x := 1079) rfl zd_14_114_45 ?_
      refine zz_iload_n (x := x2) rfl zd_14_114_46 ?_
      refine zz_iconst zd_14_114_47 ?_
      refine zz_iadd zd_14_114_48 ?_
      have g20 := zz_G.r G_S0 1102 ((x2 + 1).toNat) 0 63 rfl rfl
      have e21 : S19 1102 (x2 + 1).toNat = S0 1102 (x2 + 1).toNat := (zz_ro qS19 (fun h => absurd h.1 (by decide)) (zz_rc F_S (zz_nc1 rfl) rfl (fun h => h) rfl))
      have g22 := zz_G.r G_S0 1103 ((x2 + 1).toNat) 0 63 rfl rfl
      have e23 : S19 1103 (x2 + 1).toNat = S0 1103 (x2 + 1).toNat := (zz_ro qS19 (fun h => absurd h.1 (by decide)) (zz_rc F_S (zz_nc1 rfl) rfl (fun h => h) rfl))
      have g24 := zz_G.r G_S0 1104 ((x2 + 1).toNat) 0 63 rfl rfl
      have e25 : S19 1104 (x2 + 1).toNat = S0 1104 (x2 + 1).toNat := (zz_ro qS19 (fun h => absurd h.1 (by decide)) (zz_rc F_S (zz_nc1 rfl) rfl (fun h => h) rfl))
      refine zz_callVI [zi (x2 + 1)] zd_14_114_49 zk_Md_200 zT_1079 (zz_ltn hn rfl) rfl rfl ⟨Nat.le_of_ble_eq_true rfl, Nat.le_of_ble_eq_true rfl⟩ ⟨rfl, rfl⟩ (Nat.zero_le _) (Nat.zero_le _) (zc_sizeOf_14_90 (x2 + 1) S19 n hn G_S19 (by omega)) (fun v27 S26 hP => ?_)
      obtain ⟨rfl, o28, o29⟩ := hP
      rw [show S19 1102 (x2 + 1).toNat = S0 1102 (x2 + 1).toNat by omega, show S19 1103 (x2 + 1).toNat = S0 1103 (x2 + 1).toNat by omega, show S19 1104 (x2 + 1).toNat = S0 1104 (x2 + 1).toNat by omega] at o29
      refine zz_iadd zd_14_114_52 ?_
      refine zz_iload_n (x := x1) rfl zd_14_114_53 ?_
      refine zz_icmp_le (by omega) (by omega) zd_14_114_54 (fun c30 => ?_) (fun c30 => ?_)
      · refine zz_iload_n (x := x1) rfl zd_14_114_69 ?_
        refine zz_istore_n [some (.ref 1079), some (zi x1), some (zi x2), some (zi x3)] zd_14_114_70 (by decide) rfl ?_
        refine zz_iinc [some (.ref 1079), some (zi x1), some (zi (x2 + 1)), some (zi x3)] zd_14_114_71 rfl rfl ?_
        refine zz_goto zd_14_114_74 ?_
        refine zz_less (ls1 := [some (.ref 1079), some (zi x1), some (zi (x2 + 1))]) ⟨rfl, ⟨rfl, ⟨rfl, trivial⟩⟩⟩ ?_
        exact k8 x1 (x2 + 1) S19 G_S19 F_S19 (by omega) (by omega) (fun u hu => (Decidable.em (u = (x2 + 1).toNat)).elim (fun h => by subst h; rw [zz_rs qS19]; omega) (fun h => by rw [zz_ro qS19 (fun h9 => h h9.2) rfl]; exact i20_5 u (by omega))) (fun u hu => (Decidable.em (u = (x2 + 1).toNat)).elim (fun h => by subst h; rw [zz_rs qS19]; unfold zz_sz; omega) (fun h => by rw [zz_ro (b := 1105) (j := u) qS19 (fun h9 => h h9.2) rfl]; have h9 := i20_7 u (by omega); omega)) (by omega) (zn_RPs i20_9 i20_10 (fun v h => zn_N.same h (F_S 1079 36 rfl rfl (fun h => h)) (fun a i h1 h2 h3 => F_S a i (zz_nc4 rfl (by omega)) (zz_nc5 rfl (by omega)) (fun h => h))) (by omega) (by omega) o17 qS19 o29 (by omega)) (by omega)
      · refine zz_iload_n (x := x3) rfl zd_14_114_57 ?_
        refine zz_aload_n (x := 1079) rfl zd_14_114_58 ?_
        refine zz_iload_n (x := x2) rfl zd_14_114_59 ?_
        refine zz_iconst zd_14_114_60 ?_
        refine zz_iadd zd_14_114_61 ?_
        refine zz_callVI [zi (x2 + 1)] zd_14_114_62 zk_Md_200 zT_1079 (zz_ltn hn rfl) rfl rfl ⟨Nat.le_of_ble_eq_true rfl, Nat.le_of_ble_eq_true rfl⟩ ⟨rfl, rfl⟩ (Nat.zero_le _) (Nat.zero_le _) (zc_sizeOf_14_90 (x2 + 1) S19 n hn G_S19 (by omega)) (fun v32 S31 hP => ?_)
        obtain ⟨rfl, o33, o34⟩ := hP
        rw [show S19 1102 (x2 + 1).toNat = S0 1102 (x2 + 1).toNat by omega, show S19 1103 (x2 + 1).toNat = S0 1103 (x2 + 1).toNat by omega, show S19 1104 (x2 + 1).toNat = S0 1104 (x2 + 1).toNat by omega] at o34
        refine zz_iadd zd_14_114_65 ?_
        refine zz_goto zd_14_114_66 ?_
        refine zz_istore_n [some (.ref 1079), some (zi (x3 + v32)), some (zi x2), some (zi x3)] zd_14_114_70 (by decide) rfl ?_
        refine zz_iinc [some (.ref 1079), some (zi (x3 + v32)), some (zi (x2 + 1)), some (zi x3)] zd_14_114_71 rfl rfl ?_
        refine zz_goto zd_14_114_74 ?_
        refine zz_less (ls1 := [some (.ref 1079), some (zi (x3 + v32)), some (zi (x2 + 1))]) ⟨rfl, ⟨rfl, ⟨rfl, trivial⟩⟩⟩ ?_
        exact k8 (x3 + v32) (x2 + 1) S19 G_S19 F_S19 (by omega) (by omega) (fun u hu => (Decidable.em (u = (x2 + 1).toNat)).elim (fun h => by subst h; rw [zz_rs qS19]; omega) (fun h => by rw [zz_ro qS19 (fun h9 => h h9.2) rfl]; exact i20_5 u (by omega))) (fun u hu => (Decidable.em (u = (x2 + 1).toNat)).elim (fun h => by subst h; rw [zz_rs qS19]; unfold zz_sz; omega) (fun h => by rw [zz_ro (b := 1105) (j := u) qS19 (fun h9 => h h9.2) rfl]; have h9 := i20_7 u (by omega); omega)) (by omega) (zn_RPs i20_9 i20_10 (fun v h => zn_N.same h (F_S 1079 36 rfl rfl (fun h => h)) (fun a i h1 h2 h3 => F_S a i (zz_nc4 rfl (by omega)) (zz_nc5 rfl (by omega)) (fun h => h))) (by omega) (by omega) o17 qS19 o34 (by omega)) (by omega)
    · exfalso; omega
  · refine zz_if_eq (by omega) zd_14_114_26 (fun c35 => ?_) (fun c35 => ?_)
    · exfalso; omega
    · refine zz_iinc [some (.ref 1079), some (zi x1), some (zi x2), some (zi (x3 + 1))] zd_14_114_29 rfl rfl ?_
      refine zz_goto zd_14_114_32 ?_
      refine zz_less (ls1 := [some (.ref 1079), some (zi x1), some (zi x2), some (zi (x3 + 1))]) ⟨rfl, ⟨rfl, ⟨rfl, ⟨rfl, trivial⟩⟩⟩⟩ ?_
      exact k20 x1 x2 (x3 + 1) S G_S F_S (by omega) (by omega) (by omega) (by omega) (by omega) i20_5 (by omega) i20_7 (by omega) i20_9 (zn_RQs i20_10 (fun v h => zn_N.same h (F_S 1079 36 rfl rfl (fun h => h)) (fun a i h1 h2 h3 => F_S a i (zz_nc4 rfl (by omega)) (zz_nc5 rfl (by omega)) (fun h => h))) (by omega) o17) (by omega)
theorem zi_placeAll_14_114 {g : mm_G} {l : Launch}  (S0 : zz_S) (n : Nat) (hn : zz_end ≤ n) (G_S0 : zz_G S0) (R_S0 : zz_Hr S0) (h1 : 1 ≤ S0 1079 36) : ∀ N : Nat, (∀ (x1 : Int) (x2 : Int) (S : zz_S), zz_G S → zz_fr [] [1105] (fun _ _ => False) S0 S → (0 ≤ x1 ∧ x1 ≤ 2800000) → (0 ≤ x2 ∧ x2 ≤ 10) → (∀ u : Nat, (u : Int) ≤ x2 → S 1105 u ≤ 250047 * (u : Int)) → (∀ u : Nat, (u : Int) ≤ x2 → S 1105 u + zz_sz S0 u ≤ x1) → (x2 + 1 ≤ S0 1079 36) → (zn_RP S0 S x1 (x2 + 1)) → (34359738368 + (20 - x2).toNat) * 1099511627776 + 1099511627775 < N → zz_E g l zy_placeAll_14_114 zr_placeAll_14_114 (zz_QI n (zp_placeAll_14_114  S0)) S n 8 [some (.ref 1079), some (zi x1), some (zi x2)] [] 0 0) ∧ (∀ (x1 : Int) (x2 : Int) (x3 : Int) (S : zz_S), zz_G S → zz_fr [] [1105] (fun _ _ => False) S0 S → (0 ≤ x1 ∧ x1 ≤ 2800000) → (0 ≤ x2 ∧ x2 ≤ 9) → (0 ≤ x3 ∧ x3 ≤ 2600000) → (0 ≤ x2 ∧ x2 ≤ 10) → (x2 + 1 ≤ S0 1079 36) → (∀ u : Nat, (u : Int) ≤ x2 → S 1105 u ≤ 250047 * (u : Int)) → (x3 ≤ 250047 * (x2 + 1)) → (∀ u : Nat, (u : Int) ≤ x2 → S 1105 u + zz_sz S0 u ≤ x1) → (x2 + 1 < S0 1079 36) → (zn_RP S0 S x1 (x2 + 1)) → (zn_RQ S0 S (x2 + 1) x3) → (34359738368 + (20 - x2).toNat) * 1099511627776 + (17179869184 + (250047 * (x2 + 1) - x3).toNat) < N → zz_E g l zy_placeAll_14_114 zr_placeAll_14_114 (zz_QI n (zp_placeAll_14_114  S0)) S n 20 [some (.ref 1079), some (zi x1), some (zi x2), some (zi x3)] [] 0 0) := by
  intro N
  induction N with
  | zero => exact ⟨fun x1 x2 S _ _ _ _ _ _ _ _ h => absurd h (Nat.not_lt_zero _), fun x1 x2 x3 S _ _ _ _ _ _ _ _ _ _ _ _ _ h => absurd h (Nat.not_lt_zero _)⟩
  | succ N ih =>
    exact ⟨fun x1 x2 S a b j0 j1 j2 j3 j4 j5 hR => zb_placeAll_14_114_8  S0 n hn G_S0 R_S0 h1 x1 x2 S a b j0 j1 j2 j3 j4 j5 _ rfl (fun x1 x2 x3 S a b j0 j1 j2 j3 j4 j5 j6 j7 j8 j9 j10 h => ih.2 x1 x2 x3 S a b j0 j1 j2 j3 j4 j5 j6 j7 j8 j9 j10 (Nat.lt_of_lt_of_le h (Nat.le_of_lt_succ hR))),
      fun x1 x2 x3 S a b j0 j1 j2 j3 j4 j5 j6 j7 j8 j9 j10 hR => zb_placeAll_14_114_20  S0 n hn G_S0 R_S0 h1 x1 x2 x3 S a b j0 j1 j2 j3 j4 j5 j6 j7 j8 j9 j10 _ rfl (fun x1 x2 S a b j0 j1 j2 j3 j4 j5 h => ih.1 x1 x2 S a b j0 j1 j2 j3 j4 j5 (Nat.lt_of_lt_of_le h (Nat.le_of_lt_succ hR))) (fun x1 x2 x3 S a b j0 j1 j2 j3 j4 j5 j6 j7 j8 j9 j10 h => ih.2 x1 x2 x3 S a b j0 j1 j2 j3 j4 j5 j6 j7 j8 j9 j10 (Nat.lt_of_lt_of_le h (Nat.le_of_lt_succ hR)))⟩
theorem zc_placeAll_14_114 {g : mm_G} {l : Launch}  (S0 : zz_S) (n : Nat) (hn : zz_end ≤ n) (G_S0 : zz_G S0) (R_S0 : zz_Hr S0) (h1 : 1 ≤ S0 1079 36) : mm_Met g l zy_placeAll_14_114 zr_placeAll_14_114 [.ref 1079] (zz_M S0 n) n (zz_QI n (zp_placeAll_14_114  S0)) := by
  refine zz_enter (by decide) (Nat.le_of_ble_eq_true rfl) (zz_less (ls1 := [some (.ref 1079)]) ⟨rfl, trivial⟩ ?_)
  have F_S0 : zz_fr [] [1105] (fun _ _ => False) S0 S0 := zz_fr.refl
  have k8 : ∀ (x1 : Int) (x2 : Int) (S : zz_S), zz_G S → zz_fr [] [1105] (fun _ _ => False) S0 S → (0 ≤ x1 ∧ x1 ≤ 2800000) → (0 ≤ x2 ∧ x2 ≤ 10) → (∀ u : Nat, (u : Int) ≤ x2 → S 1105 u ≤ 250047 * (u : Int)) → (∀ u : Nat, (u : Int) ≤ x2 → S 1105 u + zz_sz S0 u ≤ x1) → (x2 + 1 ≤ S0 1079 36) → (zn_RP S0 S x1 (x2 + 1)) → zz_E g l zy_placeAll_14_114 zr_placeAll_14_114 (zz_QI n (zp_placeAll_14_114  S0)) S n 8 [some (.ref 1079), some (zi x1), some (zi x2)] [] 0 0 := fun x1 x2 S a b j0 j1 j2 j3 j4 j5 => (zi_placeAll_14_114 (g := g) (l := l)  S0 n hn G_S0 R_S0 h1 _).1 x1 x2 S a b j0 j1 j2 j3 j4 j5 (Nat.lt_succ_self _)
  refine zz_aload_n (x := 1079) rfl zd_14_114_0 ?_
  refine zz_iconst zd_14_114_1 ?_
  have g1 := zz_G.r G_S0 1102 0 0 63 rfl rfl
  have g2 := zz_G.r G_S0 1103 0 0 63 rfl rfl
  have g3 := zz_G.r G_S0 1104 0 0 63 rfl rfl
  refine zz_callVI [zi 0] zd_14_114_2 zk_Md_200 zT_1079 (zz_ltn hn rfl) rfl rfl ⟨Nat.le_of_ble_eq_true rfl, Nat.le_of_ble_eq_true rfl⟩ ⟨rfl, rfl⟩ (Nat.zero_le _) (Nat.zero_le _) (zc_sizeOf_14_90 0 S0 n hn G_S0 (by omega)) (fun v5 S4 hP => ?_)
  obtain ⟨rfl, o6, o7⟩ := hP
  refine zz_istore_n [some (.ref 1079), some (zi v5)] zd_14_114_5 (by decide) rfl ?_
  refine zz_iconst zd_14_114_6 ?_
  refine zz_istore_n [some (.ref 1079), some (zi v5), some (zi 0)] zd_14_114_7 (by decide) rfl ?_
  have g8 := zz_G.r G_S0 1079 36 0 11 rfl rfl
  refine zz_less (ls1 := [some (.ref 1079), some (zi v5), some (zi 0)]) ⟨rfl, ⟨rfl, ⟨rfl, trivial⟩⟩⟩ ?_
  exact k8 v5 0 S0 G_S0 F_S0 (by omega) (by omega) (fun u hu => by have h9 : u = 0 := (by omega); subst h9; have h8 := zz_G.r G_S0 1105 0 0 0 rfl rfl; omega) (fun u hu => by have h9 : u = 0 := (by omega); subst h9; have h8 := zz_G.r G_S0 1105 0 0 0 rfl rfl; have h7 : v5 = (S0 1102 0 * S0 1103 0) * S0 1104 0 := o7; unfold zz_sz; omega) (by omega) (zn_RP1 (by have h8 := zz_G.r G_S0 1105 0 0 0 rfl rfl; omega) o7)
theorem zk_Md_619 : mm_Vl "TensorForgeModel" 619 11 0 zy_placeAll_14_114 := ⟨zyw_placeAll_14_114, (R_Md, F_Md, 69), rfl, mm_tb_1 2277 (by decide +kernel) rfl, mm_tb_1 2279 (by decide +kernel) rfl, mm_tb_s 155 (by decide +kernel) rfl⟩
theorem zf_Md_142 : mm_Fl "TensorForgeModel" 142 11 68 (.array .int) true := ⟨R_Md, F_Md, 69, t_Md, rfl, i_Md, by decide, mm_tb_1 1679 (by decide +kernel) rfl, rfl, t_Md_ok, n_Md, rfl, by decide +kernel⟩
theorem zg_14_113_30 : zq_at zy_place_14_113.2.1 30 60 ∧ zq_at zy_place_14_113.2.1 31 27 ∧ zq_at zy_place_14_113.2.1 32 17 ∧ zq_at zy_place_14_113.2.1 33 8 ∧ zq_at zy_place_14_113.2.1 34 0 ∧ zq_at zy_place_14_113.2.1 35 164 ∧ zq_at zy_place_14_113.2.1 36 0 ∧ zq_at zy_place_14_113.2.1 37 7 ∧ zq_at zy_place_14_113.2.1 42 3 ∧ zq_at zy_place_14_113.2.1 43 61 ∧ zq_at zy_place_14_113.2.1 44 3 ∧ zq_at zy_place_14_113.2.1 45 62 ∧ zq_at zy_place_14_113.2.1 38 4 ∧ zq_at zy_place_14_113.2.1 39 167 ∧ zq_at zy_place_14_113.2.1 40 0 ∧ zq_at zy_place_14_113.2.1 41 4 ∧ zq_at zy_place_14_113.2.1 8 42 ∧ zq_at zy_place_14_113.2.1 9 180 ∧ zq_at zy_place_14_113.2.1 10 0 ∧ zq_at zy_place_14_113.2.1 11 142 ∧ zq_at zy_place_14_113.2.1 12 27 ∧ zq_at zy_place_14_113.2.1 13 42 := by decide +kernel
theorem zd_14_113_30 : zz_D zy_place_14_113 30 (.istore_n 1) 1 31 := ⟨zq_60 zg_14_113_30.1, rfl⟩
theorem zd_14_113_31 : zz_D zy_place_14_113 31 (.iload_n 1) 1 32 := ⟨zq_27 zg_14_113_30.2.1, rfl⟩
theorem zd_14_113_32 : zz_D zy_place_14_113 32 (.sipush 2048) 3 35 := ⟨zq_17 zg_14_113_30.2.2.1 zg_14_113_30.2.2.2.1 zg_14_113_30.2.2.2.2.1 (by decide), rfl⟩
theorem zd_14_113_35 : zz_B zy_place_14_113 35 (Instr.if_icmp .le) 42 38 := ⟨7, zq_164 zg_14_113_30.2.2.2.2.2.1 zg_14_113_30.2.2.2.2.2.2.1 zg_14_113_30.2.2.2.2.2.2.2.1 (by decide), rfl, rfl⟩
theorem zd_14_113_42 : zz_D zy_place_14_113 42 (.iconst 0) 1 43 := ⟨zq_3 zg_14_113_30.2.2.2.2.2.2.2.2.1, rfl⟩
theorem zd_14_113_43 : zz_D zy_place_14_113 43 (.istore_n 2) 1 44 := ⟨zq_61 zg_14_113_30.2.2.2.2.2.2.2.2.2.1, rfl⟩
theorem zd_14_113_44 : zz_D zy_place_14_113 44 (.iconst 0) 1 45 := ⟨zq_3 zg_14_113_30.2.2.2.2.2.2.2.2.2.2.1, rfl⟩
theorem zd_14_113_45 : zz_D zy_place_14_113 45 (.istore_n 3) 1 46 := ⟨zq_62 zg_14_113_30.2.2.2.2.2.2.2.2.2.2.2.1, rfl⟩
theorem zd_14_113_38 : zz_D zy_place_14_113 38 (.iconst 1) 1 39 := ⟨zq_4 zg_14_113_30.2.2.2.2.2.2.2.2.2.2.2.2.1, rfl⟩
theorem zd_14_113_39 : zz_B zy_place_14_113 39 Instr.goto 43 42 := ⟨4, zq_167 zg_14_113_30.2.2.2.2.2.2.2.2.2.2.2.2.2.1 zg_14_113_30.2.2.2.2.2.2.2.2.2.2.2.2.2.2.1 zg_14_113_30.2.2.2.2.2.2.2.2.2.2.2.2.2.2.2.1 (by decide), rfl, rfl⟩
theorem zd_14_113_8 : zz_D zy_place_14_113 8 (.aload_n 0) 1 9 := ⟨zq_42 zg_14_113_30.2.2.2.2.2.2.2.2.2.2.2.2.2.2.2.2.1, rfl⟩
theorem zd_14_113_9 : zz_D zy_place_14_113 9 (.getfield 142) 3 12 := ⟨zq_180 zg_14_113_30.2.2.2.2.2.2.2.2.2.2.2.2.2.2.2.2.2.1 zg_14_113_30.2.2.2.2.2.2.2.2.2.2.2.2.2.2.2.2.2.2.1 zg_14_113_30.2.2.2.2.2.2.2.2.2.2.2.2.2.2.2.2.2.2.2.1 rfl, rfl⟩
theorem zd_14_113_12 : zz_D zy_place_14_113 12 (.iload_n 1) 1 13 := ⟨zq_27 zg_14_113_30.2.2.2.2.2.2.2.2.2.2.2.2.2.2.2.2.2.2.2.2.1, rfl⟩
theorem zd_14_113_13 : zz_D zy_place_14_113 13 (.aload_n 0) 1 14 := ⟨zq_42 zg_14_113_30.2.2.2.2.2.2.2.2.2.2.2.2.2.2.2.2.2.2.2.2.2, rfl⟩
theorem zg_14_113_14 : zq_at zy_place_14_113.2.1 14 180 ∧ zq_at zy_place_14_113.2.1 15 0 ∧ zq_at zy_place_14_113.2.1 16 97 ∧ zq_at zy_place_14_113.2.1 17 27 ∧ zq_at zy_place_14_113.2.1 18 46 ∧ zq_at zy_place_14_113.2.1 19 79 ∧ zq_at zy_place_14_113.2.1 20 132 ∧ zq_at zy_place_14_113.2.1 21 1 ∧ zq_at zy_place_14_113.2.1 22 1 ∧ zq_at zy_place_14_113.2.1 23 167 ∧ zq_at zy_place_14_113.2.1 24 255 ∧ zq_at zy_place_14_113.2.1 25 235 ∧ zq_at zy_place_14_113.2.1 46 29 ∧ zq_at zy_place_14_113.2.1 47 16 ∧ zq_at zy_place_14_113.2.1 48 12 ∧ zq_at zy_place_14_113.2.1 49 162 ∧ zq_at zy_place_14_113.2.1 50 0 ∧ zq_at zy_place_14_113.2.1 51 25 ∧ zq_at zy_place_14_113.2.1 74 42 ∧ zq_at zy_place_14_113.2.1 75 28 ∧ zq_at zy_place_14_113.2.1 76 3 ∧ zq_at zy_place_14_113.2.1 77 3 := by decide +kernel
theorem zd_14_113_14 : zz_D zy_place_14_113 14 (.getfield 97) 3 17 := ⟨zq_180 zg_14_113_14.1 zg_14_113_14.2.1 zg_14_113_14.2.2.1 rfl, rfl⟩
theorem zd_14_113_17 : zz_D zy_place_14_113 17 (.iload_n 1) 1 18 := ⟨zq_27 zg_14_113_14.2.2.2.1, rfl⟩
theorem zd_14_113_18 : zz_D zy_place_14_113 18 (.iaload) 1 19 := ⟨zq_46 zg_14_113_14.2.2.2.2.1, rfl⟩
theorem zd_14_113_19 : zz_D zy_place_14_113 19 (.iastore) 1 20 := ⟨zq_79 zg_14_113_14.2.2.2.2.2.1, rfl⟩
theorem zd_14_113_20 : zz_D zy_place_14_113 20 (.iinc 1 1) 3 23 := ⟨zq_132 zg_14_113_14.2.2.2.2.2.2.1 zg_14_113_14.2.2.2.2.2.2.2.1 zg_14_113_14.2.2.2.2.2.2.2.2.1 (by decide), rfl⟩
theorem zd_14_113_23 : zz_B zy_place_14_113 23 Instr.goto 2 26 := ⟨(-21), zq_167 zg_14_113_14.2.2.2.2.2.2.2.2.2.1 zg_14_113_14.2.2.2.2.2.2.2.2.2.2.1 zg_14_113_14.2.2.2.2.2.2.2.2.2.2.2.1 (by decide), rfl, rfl⟩
theorem zd_14_113_46 : zz_D zy_place_14_113 46 (.iload_n 3) 1 47 := ⟨zq_29 zg_14_113_14.2.2.2.2.2.2.2.2.2.2.2.2.1, rfl⟩
theorem zd_14_113_47 : zz_D zy_place_14_113 47 (.bipush 12) 2 49 := ⟨zq_16 zg_14_113_14.2.2.2.2.2.2.2.2.2.2.2.2.2.1 zg_14_113_14.2.2.2.2.2.2.2.2.2.2.2.2.2.2.1 (by decide), rfl⟩
theorem zd_14_113_49 : zz_B zy_place_14_113 49 (Instr.if_icmp .ge) 74 52 := ⟨25, zq_162 zg_14_113_14.2.2.2.2.2.2.2.2.2.2.2.2.2.2.2.1 zg_14_113_14.2.2.2.2.2.2.2.2.2.2.2.2.2.2.2.2.1 zg_14_113_14.2.2.2.2.2.2.2.2.2.2.2.2.2.2.2.2.2.1 (by decide), rfl, rfl⟩
theorem zd_14_113_74 : zz_D zy_place_14_113 74 (.aload_n 0) 1 75 := ⟨zq_42 zg_14_113_14.2.2.2.2.2.2.2.2.2.2.2.2.2.2.2.2.2.2.1, rfl⟩
theorem zd_14_113_75 : zz_D zy_place_14_113 75 (.iload_n 2) 1 76 := ⟨zq_28 zg_14_113_14.2.2.2.2.2.2.2.2.2.2.2.2.2.2.2.2.2.2.2.1, rfl⟩
theorem zd_14_113_76 : zz_D zy_place_14_113 76 (.iconst 0) 1 77 := ⟨zq_3 zg_14_113_14.2.2.2.2.2.2.2.2.2.2.2.2.2.2.2.2.2.2.2.2.1, rfl⟩
theorem zd_14_113_77 : zz_D zy_place_14_113 77 (.iconst 0) 1 78 := ⟨zq_3 zg_14_113_14.2.2.2.2.2.2.2.2.2.2.2.2.2.2.2.2.2.2.2.2.2, rfl⟩
theorem zg_14_113_78 : zq_at zy_place_14_113.2.1 78 182 ∧ zq_at zy_place_14_113.2.1 79 0 ∧ zq_at zy_place_14_113.2.1 80 196 ∧ zq_at zy_place_14_113.2.1 81 87 ∧ zq_at zy_place_14_113.2.1 82 28 ∧ zq_at zy_place_14_113.2.1 83 153 ∧ zq_at zy_place_14_113.2.1 84 0 ∧ zq_at zy_place_14_113.2.1 85 7 ∧ zq_at zy_place_14_113.2.1 90 27 ∧ zq_at zy_place_14_113.2.1 91 172 ∧ zq_at zy_place_14_113.2.1 52 28 ∧ zq_at zy_place_14_113.2.1 53 153 ∧ zq_at zy_place_14_113.2.1 54 0 ∧ zq_at zy_place_14_113.2.1 55 21 ∧ zq_at zy_place_14_113.2.1 86 3 ∧ zq_at zy_place_14_113.2.1 87 167 ∧ zq_at zy_place_14_113.2.1 88 0 ∧ zq_at zy_place_14_113.2.1 89 4 ∧ zq_at zy_place_14_113.2.1 56 42 ∧ zq_at zy_place_14_113.2.1 57 180 ∧ zq_at zy_place_14_113.2.1 58 0 ∧ zq_at zy_place_14_113.2.1 59 97 ∧ zq_at zy_place_14_113.2.1 60 29 ∧ zq_at zy_place_14_113.2.1 61 42 := by decide +kernel
theorem zd_14_113_78 : zz_D zy_place_14_113 78 (.invokevirtual 196) 3 81 := ⟨zq_182 zg_14_113_78.1 zg_14_113_78.2.1 zg_14_113_78.2.2.1 rfl, rfl⟩
theorem zd_14_113_81 : zz_D zy_place_14_113 81 (.pop) 1 82 := ⟨zq_87 zg_14_113_78.2.2.2.1, rfl⟩
theorem zd_14_113_82 : zz_D zy_place_14_113 82 (.iload_n 2) 1 83 := ⟨zq_28 zg_14_113_78.2.2.2.2.1, rfl⟩
theorem zd_14_113_83 : zz_B zy_place_14_113 83 (Instr.ifCond .eq) 90 86 := ⟨7, zq_153 zg_14_113_78.2.2.2.2.2.1 zg_14_113_78.2.2.2.2.2.2.1 zg_14_113_78.2.2.2.2.2.2.2.1 (by decide), rfl, rfl⟩
theorem zd_14_113_90 : zz_D zy_place_14_113 90 (.iload_n 1) 1 91 := ⟨zq_27 zg_14_113_78.2.2.2.2.2.2.2.2.1, rfl⟩
theorem zd_14_113_91 : zz_D zy_place_14_113 91 (.ireturn) 1 92 := ⟨zq_172 zg_14_113_78.2.2.2.2.2.2.2.2.2.1, rfl⟩
theorem zd_14_113_52 : zz_D zy_place_14_113 52 (.iload_n 2) 1 53 := ⟨zq_28 zg_14_113_78.2.2.2.2.2.2.2.2.2.2.1, rfl⟩
theorem zd_14_113_53 : zz_B zy_place_14_113 53 (Instr.ifCond .eq) 74 56 := ⟨21, zq_153 zg_14_113_78.2.2.2.2.2.2.2.2.2.2.2.1 zg_14_113_78.2.2.2.2.2.2.2.2.2.2.2.2.1 zg_14_113_78.2.2.2.2.2.2.2.2.2.2.2.2.2.1 (by decide), rfl, rfl⟩
theorem zd_14_113_86 : zz_D zy_place_14_113 86 (.iconst 0) 1 87 := ⟨zq_3 zg_14_113_78.2.2.2.2.2.2.2.2.2.2.2.2.2.2.1, rfl⟩
theorem zd_14_113_87 : zz_B zy_place_14_113 87 Instr.goto 91 90 := ⟨4, zq_167 zg_14_113_78.2.2.2.2.2.2.2.2.2.2.2.2.2.2.2.1 zg_14_113_78.2.2.2.2.2.2.2.2.2.2.2.2.2.2.2.2.1 zg_14_113_78.2.2.2.2.2.2.2.2.2.2.2.2.2.2.2.2.2.1 (by decide), rfl, rfl⟩
theorem zd_14_113_56 : zz_D zy_place_14_113 56 (.aload_n 0) 1 57 := ⟨zq_42 zg_14_113_78.2.2.2.2.2.2.2.2.2.2.2.2.2.2.2.2.2.2.1, rfl⟩
theorem zd_14_113_57 : zz_D zy_place_14_113 57 (.getfield 97) 3 60 := ⟨zq_180 zg_14_113_78.2.2.2.2.2.2.2.2.2.2.2.2.2.2.2.2.2.2.2.1 zg_14_113_78.2.2.2.2.2.2.2.2.2.2.2.2.2.2.2.2.2.2.2.2.1 zg_14_113_78.2.2.2.2.2.2.2.2.2.2.2.2.2.2.2.2.2.2.2.2.2.1 rfl, rfl⟩
theorem zd_14_113_60 : zz_D zy_place_14_113 60 (.iload_n 3) 1 61 := ⟨zq_29 zg_14_113_78.2.2.2.2.2.2.2.2.2.2.2.2.2.2.2.2.2.2.2.2.2.2.1, rfl⟩
theorem zd_14_113_61 : zz_D zy_place_14_113 61 (.aload_n 0) 1 62 := ⟨zq_42 zg_14_113_78.2.2.2.2.2.2.2.2.2.2.2.2.2.2.2.2.2.2.2.2.2.2.2, rfl⟩
theorem zg_14_113_62 : zq_at zy_place_14_113.2.1 62 180 ∧ zq_at zy_place_14_113.2.1 63 0 ∧ zq_at zy_place_14_113.2.1 64 142 ∧ zq_at zy_place_14_113.2.1 65 29 ∧ zq_at zy_place_14_113.2.1 66 46 ∧ zq_at zy_place_14_113.2.1 67 79 ∧ zq_at zy_place_14_113.2.1 68 132 ∧ zq_at zy_place_14_113.2.1 69 3 ∧ zq_at zy_place_14_113.2.1 70 1 ∧ zq_at zy_place_14_113.2.1 71 167 ∧ zq_at zy_place_14_113.2.1 72 255 ∧ zq_at zy_place_14_113.2.1 73 231 := by decide +kernel
theorem zd_14_113_62 : zz_D zy_place_14_113 62 (.getfield 142) 3 65 := ⟨zq_180 zg_14_113_62.1 zg_14_113_62.2.1 zg_14_113_62.2.2.1 rfl, rfl⟩
theorem zd_14_113_65 : zz_D zy_place_14_113 65 (.iload_n 3) 1 66 := ⟨zq_29 zg_14_113_62.2.2.2.1, rfl⟩
theorem zd_14_113_66 : zz_D zy_place_14_113 66 (.iaload) 1 67 := ⟨zq_46 zg_14_113_62.2.2.2.2.1, rfl⟩
theorem zd_14_113_67 : zz_D zy_place_14_113 67 (.iastore) 1 68 := ⟨zq_79 zg_14_113_62.2.2.2.2.2.1, rfl⟩
theorem zd_14_113_68 : zz_D zy_place_14_113 68 (.iinc 3 1) 3 71 := ⟨zq_132 zg_14_113_62.2.2.2.2.2.2.1 zg_14_113_62.2.2.2.2.2.2.2.1 zg_14_113_62.2.2.2.2.2.2.2.2.1 (by decide), rfl⟩
theorem zd_14_113_71 : zz_B zy_place_14_113 71 Instr.goto 46 74 := ⟨(-25), zq_167 zg_14_113_62.2.2.2.2.2.2.2.2.2.1 zg_14_113_62.2.2.2.2.2.2.2.2.2.2.1 zg_14_113_62.2.2.2.2.2.2.2.2.2.2.2 (by decide), rfl, rfl⟩

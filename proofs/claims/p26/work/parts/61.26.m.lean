-- TensorForgeModel place ()I
abbrev zr_place_14_113 : Room := { frames := 4, cells := 0, slots := 0, locals := 62 }
def zp_place_14_113  (S0 : zz_S) : Int → zz_S → Prop := fun r S => zz_G S ∧ zz_fr [(1079, 0)] [1105, 1120] (fun _ _ => False) S0 S ∧ ((-2147483648) ≤ r ∧ r ≤ 2147483647) ∧ (zn_MP S0 S (S 1079 0) r) ∧ (zz_Hr S)
theorem zb_place_14_113_2 {g : mm_G} {l : Launch}  (S0 : zz_S) (n : Nat) (hn : zz_end ≤ n) (G_S0 : zz_G S0) (R_S0 : zz_Hr S0) (h1 : 1 ≤ S0 1079 36) (x1 : Int) (S : zz_S) (G_S : zz_G S) (F_S : zz_fr [(1079, 0)] [1105, 1120] (fun _ _ => False) S0 S) (i2_0 : 0 ≤ x1 ∧ x1 ≤ 12) (i2_1 : ∀ u : Nat, (u : Int) < x1 → S 1120 u = S0 1105 u) (i2_2 : ∀ u : Nat, S 1105 u = S0 1105 u) (i2_3 : zz_Hr S) (R : Nat) (hR : (34359738368 + (12 - x1).toNat) = R) (k2 : ∀ (x1 : Int) (S : zz_S), zz_G S → zz_fr [(1079, 0)] [1105, 1120] (fun _ _ => False) S0 S → (0 ≤ x1 ∧ x1 ≤ 12) → (∀ u : Nat, (u : Int) < x1 → S 1120 u = S0 1105 u) → (∀ u : Nat, S 1105 u = S0 1105 u) → (zz_Hr S) → (34359738368 + (12 - x1).toNat) < R → zz_E g l zy_place_14_113 zr_place_14_113 (zz_QI n (zp_place_14_113  S0)) S n 2 [some (.ref 1079), some (zi x1)] [] 0 0) (k46 : ∀ (x1 : Int) (x2 : Int) (x3 : Int) (S : zz_S), zz_G S → zz_fr [(1079, 0)] [1105, 1120] (fun _ _ => False) S0 S → (0 ≤ x1 ∧ x1 ≤ 3000000) → (0 ≤ x2 ∧ x2 ≤ 1) → (0 ≤ x3 ∧ x3 ≤ 12) → (x2 = 0 → x1 ≤ 2048) → (x2 = 0 → zz_Hr S) → (x2 = 1 → ∀ u : Nat, (u : Int) < x3 → S 1105 u = S0 1105 u) → (x2 = 1 → ∀ u : Nat, u < 12 → S 1120 u = S0 1105 u) → (x2 = 0 → zn_RA S0 S x1) → (x2 = 1 → zn_RB S0) → (17179869184 + (12 - x3).toNat) < R → zz_E g l zy_place_14_113 zr_place_14_113 (zz_QI n (zp_place_14_113  S0)) S n 46 [some (.ref 1079), some (zi x1), some (zi x2), some (zi x3)] [] 0 0) : zz_E g l zy_place_14_113 zr_place_14_113 (zz_QI n (zp_place_14_113  S0)) S n 2 [some (.ref 1079), some (zi x1)] [] 0 0 := by
  have R_S := i2_3
  refine zz_iload_n (x := x1) rfl zd_14_113_2 ?_
  refine zz_bipush (by decide) zd_14_113_3 ?_
  refine zz_icmp_ge (by omega) (by omega) zd_14_113_5 (fun c1 => ?_) (fun c1 => ?_)
  · refine zz_aload_n (x := 1079) rfl zd_14_113_26 ?_
    have g2 := zz_G.r G_S0 1079 36 0 11 rfl rfl
    have e3 : S 1079 36 = S0 1079 36 := (zz_rc F_S rfl rfl (fun h => h) rfl)
    refine zz_callVI [] zd_14_113_27 zk_Md_619 zT_1079 (zz_ltn hn rfl) rfl rfl ⟨Nat.le_of_ble_eq_true rfl, Nat.le_of_ble_eq_true rfl⟩ ⟨rfl, rfl⟩ (Nat.zero_le _) (Nat.zero_le _) (zc_placeAll_14_114  S n hn G_S R_S (by omega)) (fun v5 S4 hP => ?_)
    obtain ⟨G_S4, fS4, o6, o7, o8⟩ := hP
    have F_S4 := zz_fr.trans F_S fS4 rfl zz_nv
    refine zz_istore_n [some (.ref 1079), some (zi v5)] zd_14_113_30 (by decide) rfl ?_
    refine zz_iload_n (x := v5) rfl zd_14_113_31 ?_
    refine zz_sipush (by decide) zd_14_113_32 ?_
    refine zz_icmp_le (by omega) (by omega) zd_14_113_35 (fun c9 => ?_) (fun c9 => ?_)
    · refine zz_iconst zd_14_113_42 ?_
      refine zz_istore_n [some (.ref 1079), some (zi v5), some (zi 0)] zd_14_113_43 (by decide) rfl ?_
      refine zz_iconst zd_14_113_44 ?_
      refine zz_istore_n [some (.ref 1079), some (zi v5), some (zi 0), some (zi 0)] zd_14_113_45 (by decide) rfl ?_
      refine zz_less (ls1 := [some (.ref 1079), some (zi v5), some (zi 0), some (zi 0)]) ⟨rfl, ⟨rfl, ⟨rfl, ⟨rfl, trivial⟩⟩⟩⟩ ?_
      exact k46 v5 0 0 S4 G_S4 F_S4 (by omega) (by omega) (by omega) (by omega) (fun h => o7 (by omega)) (fun _ u h => absurd h (by omega)) (fun _ u hu => ((zz_rc fS4 (zz_nc1 rfl) rfl (fun h => h) rfl) : S4 1120 u = S 1120 u).trans (i2_1 u (by omega))) (fun _ => (zn_RAm o8 (fun v h => zn_N.same h (F_S 1079 36 rfl rfl (fun h => h)) (fun a i h1 h2 h3 => F_S a i (zz_nc4 rfl (by omega)) (zz_nc5 rfl (by omega)) (fun h => h))))) (fun h => absurd h (by decide)) (by omega)
    · refine zz_iconst zd_14_113_38 ?_
      refine zz_goto zd_14_113_39 ?_
      refine zz_istore_n [some (.ref 1079), some (zi v5), some (zi 1)] zd_14_113_43 (by decide) rfl ?_
      refine zz_iconst zd_14_113_44 ?_
      refine zz_istore_n [some (.ref 1079), some (zi v5), some (zi 1), some (zi 0)] zd_14_113_45 (by decide) rfl ?_
      refine zz_less (ls1 := [some (.ref 1079), some (zi v5), some (zi 1), some (zi 0)]) ⟨rfl, ⟨rfl, ⟨rfl, ⟨rfl, trivial⟩⟩⟩⟩ ?_
      exact k46 v5 1 0 S4 G_S4 F_S4 (by omega) (by omega) (by omega) (by omega) (fun h => o7 (by omega)) (fun _ u h => absurd h (by omega)) (fun _ u hu => ((zz_rc fS4 (zz_nc1 rfl) rfl (fun h => h) rfl) : S4 1120 u = S 1120 u).trans (i2_1 u (by omega))) (fun _ => (zn_RAm o8 (fun v h => zn_N.same h (F_S 1079 36 rfl rfl (fun h => h)) (fun a i h1 h2 h3 => F_S a i (zz_nc4 rfl (by omega)) (zz_nc5 rfl (by omega)) (fun h => h))))) (fun _ => zn_RBi (zn_RAm o8 (fun v h => zn_N.same h (F_S 1079 36 rfl rfl (fun h => h)) (fun a i h1 h2 h3 => F_S a i (zz_nc4 rfl (by omega)) (zz_nc5 rfl (by omega)) (fun h => h)))) (by omega)) (by omega)
  · refine zz_aload_n (x := 1079) rfl zd_14_113_8 ?_
    refine zz_getr (kd := 0) (z := 1120) zd_14_113_9 zf_Md_142 zT_1079 rfl (zz_ltn hn rfl) (zz_G.eq G_S 1079 68 1120 rfl rfl) (by decide) 1120 rfl ?_
    refine zz_iload_n (x := x1) rfl zd_14_113_12 ?_
    refine zz_aload_n (x := 1079) rfl zd_14_113_13 ?_
    refine zz_getr (kd := 0) (z := 1105) zd_14_113_14 zf_Md_97 zT_1079 rfl (zz_ltn hn rfl) (zz_G.eq G_S 1079 40 1105 rfl rfl) (by decide) 1105 rfl ?_
    refine zz_iload_n (x := x1) rfl zd_14_113_17 ?_
    have g10 := zz_G.r G_S 1105 x1.toNat (0) (if x1.toNat = 0 then 0 else 10000000) rfl rfl
    refine zz_iald (z := S 1105 x1.toNat) zd_14_113_18 zT_1105 rfl (zz_ltn hn rfl) (by decide) (by omega) rfl ?_
    refine zz_iast zd_14_113_19 zT_1120 rfl (zz_ltn hn rfl) (by decide) (by omega) (fun S11 qS11 => ?_)
    have G_S11 := zz_G.put G_S qS11 (0) (if x1.toNat = 0 then 0 else 10000000) rfl (by omega)
    have F_S11 := zz_fr.putc F_S qS11 rfl
    refine zz_iinc [some (.ref 1079), some (zi (x1 + 1))] zd_14_113_20 rfl rfl ?_
    refine zz_goto zd_14_113_23 ?_
    refine zz_less (ls1 := [some (.ref 1079), some (zi (x1 + 1))]) ⟨rfl, ⟨rfl, trivial⟩⟩ ?_
    exact k2 (x1 + 1) S11 G_S11 F_S11 (by omega) (fun u hu => (Decidable.em ((u : Int) = x1)).elim (fun h => by rw [show u = x1.toNat by omega, zz_rs qS11]; exact i2_2 _) (fun h => by rw [zz_ro (b := 1120) (j := u) qS11 (fun h9 => by omega) rfl]; exact i2_1 u (by omega))) (fun u => (zz_ro (b := 1105) (j := u) qS11 (fun h9 => absurd h9.1 (by decide)) rfl).trans (i2_2 u)) (zz_Hr.fr (zz_fr.put1 qS11) rfl rfl (fun b j h => by omega) i2_3) (by omega)
theorem zb_place_14_113_46 {g : mm_G} {l : Launch}  (S0 : zz_S) (n : Nat) (hn : zz_end ≤ n) (G_S0 : zz_G S0) (R_S0 : zz_Hr S0) (h1 : 1 ≤ S0 1079 36) (x1 : Int) (x2 : Int) (x3 : Int) (S : zz_S) (G_S : zz_G S) (F_S : zz_fr [(1079, 0)] [1105, 1120] (fun _ _ => False) S0 S) (i46_0 : 0 ≤ x1 ∧ x1 ≤ 3000000) (i46_1 : 0 ≤ x2 ∧ x2 ≤ 1) (i46_2 : 0 ≤ x3 ∧ x3 ≤ 12) (i46_3 : x2 = 0 → x1 ≤ 2048) (i46_4 : x2 = 0 → zz_Hr S) (i46_5 : x2 = 1 → ∀ u : Nat, (u : Int) < x3 → S 1105 u = S0 1105 u) (i46_6 : x2 = 1 → ∀ u : Nat, u < 12 → S 1120 u = S0 1105 u) (i46_7 : x2 = 0 → zn_RA S0 S x1) (i46_8 : x2 = 1 → zn_RB S0) (R : Nat) (hR : (17179869184 + (12 - x3).toNat) = R) (k46 : ∀ (x1 : Int) (x2 : Int) (x3 : Int) (S : zz_S), zz_G S → zz_fr [(1079, 0)] [1105, 1120] (fun _ _ => False) S0 S → (0 ≤ x1 ∧ x1 ≤ 3000000) → (0 ≤ x2 ∧ x2 ≤ 1) → (0 ≤ x3 ∧ x3 ≤ 12) → (x2 = 0 → x1 ≤ 2048) → (x2 = 0 → zz_Hr S) → (x2 = 1 → ∀ u : Nat, (u : Int) < x3 → S 1105 u = S0 1105 u) → (x2 = 1 → ∀ u : Nat, u < 12 → S 1120 u = S0 1105 u) → (x2 = 0 → zn_RA S0 S x1) → (x2 = 1 → zn_RB S0) → (17179869184 + (12 - x3).toNat) < R → zz_E g l zy_place_14_113 zr_place_14_113 (zz_QI n (zp_place_14_113  S0)) S n 46 [some (.ref 1079), some (zi x1), some (zi x2), some (zi x3)] [] 0 0) : zz_E g l zy_place_14_113 zr_place_14_113 (zz_QI n (zp_place_14_113  S0)) S n 46 [some (.ref 1079), some (zi x1), some (zi x2), some (zi x3)] [] 0 0 := by
  refine zz_iload_n (x := x3) rfl zd_14_113_46 ?_
  refine zz_bipush (by decide) zd_14_113_47 ?_
  refine zz_icmp_ge (by omega) (by omega) zd_14_113_49 (fun c12 => ?_) (fun c12 => ?_)
  · refine zz_aload_n (x := 1079) rfl zd_14_113_74 ?_
    refine zz_iload_n (x := x2) rfl zd_14_113_75 ?_
    refine zz_iconst zd_14_113_76 ?_
    refine zz_iconst zd_14_113_77 ?_
    have g13 := zz_G.r G_S 1079 0 0 3 rfl rfl
    refine zz_callVI [zi x2, zi 0, zi 0] zd_14_113_78 zk_Md_196 zT_1079 (zz_ltn hn rfl) rfl rfl ⟨Nat.le_of_ble_eq_true rfl, Nat.le_of_ble_eq_true rfl⟩ ⟨rfl, rfl⟩ (Nat.zero_le _) (Nat.zero_le _) (zc_refuse_14_3 x2 0 0 S n hn G_S (by omega) (by omega) (by omega)) (fun v15 S14 hP => ?_)
    obtain ⟨G_S14, fS14, o16, o17⟩ := hP
    have F_S14 := zz_fr.trans F_S fS14 rfl zz_nv
    rcases (by omega : v15 = 0 ∨ v15 = 1) with rfl | rfl
    · refine zz_pop rfl zd_14_113_81 ?_
      refine zz_iload_n (x := x2) rfl zd_14_113_82 ?_
      refine zz_if_eq (by omega) zd_14_113_83 (fun c18 => ?_) (fun c18 => ?_)
      · refine zz_iload_n (x := x1) rfl zd_14_113_90 ?_
        have g19 := zz_G.r G_S14 1079 0 0 3 rfl rfl
        have g20 := zz_G.r G_S0 1079 36 0 11 rfl rfl
        have e21 : S14 1079 36 = S0 1079 36 := (zz_rc fS14 rfl rfl (fun h => h) (zz_rc F_S rfl rfl (fun h => h) rfl))
        have g99 := zz_G.r G_S0 1079 36 0 11 rfl rfl
        exact zz_iret zd_14_113_91 rfl (Nat.zero_le _) (Nat.zero_le _) ⟨_, _, rfl, G_S14, F_S14, by omega, (by rw [show S14 1079 0 = 0 by omega]; exact zn_MPy (i46_7 (by omega)) (by omega) (fS14 1079 36 rfl rfl (fun h => h)) (fun a i h1 h2 => fS14 a i (zz_nc4 rfl (by omega)) (zz_nc3 rfl (by omega)) (fun h => h)) (fun a i h1 h2 h3 => F_S a i (zz_nc4 rfl (by omega)) (zz_nc5 rfl (by omega)) (fun h => h))), (zz_Hr.fr fS14 rfl rfl (fun b j h => h.elim) (i46_4 (by omega)))⟩
      · refine zz_iconst zd_14_113_86 ?_
        refine zz_goto zd_14_113_87 ?_
        have g22 := zz_G.r G_S14 1079 0 0 3 rfl rfl
        have g23 := zz_G.r G_S0 1079 36 0 11 rfl rfl
        have e24 : S14 1079 36 = S0 1079 36 := (zz_rc fS14 rfl rfl (fun h => h) (zz_rc F_S rfl rfl (fun h => h) rfl))
        have g99 := zz_G.r G_S0 1079 36 0 11 rfl rfl
        exact zz_iret zd_14_113_91 rfl (Nat.zero_le _) (Nat.zero_le _) ⟨_, _, rfl, G_S14, F_S14, by omega, (by rw [show S14 1079 0 = 1 by omega]; exact zn_MPn (i46_8 (by omega)) (F_S14 1079 36 rfl rfl (fun h => h)) (fun a i h1 h2 h3 => F_S14 a i (zz_nc4 rfl (by omega)) (zz_nc5 rfl (by omega)) (fun h => h)) (fun i hi => (zz_rc fS14 (zz_nc1 rfl) rfl (fun h => h) rfl : S14 1105 i = S 1105 i).trans (i46_5 (by omega) i (by omega)))), (R_S0.down (by omega) (fun a i x y z => (Decidable.em (a = 1105)).elim (fun h => by subst h; exact (zz_rc fS14 (zz_nc1 rfl) rfl (fun h => h) rfl : S14 1105 i = S 1105 i).trans (i46_5 (by omega) i (by omega))) (fun h => F_S14 a i (zz_nc4 rfl (by omega)) (zz_nc5 rfl (by omega)) (fun h => h))))⟩
    · refine zz_pop rfl zd_14_113_81 ?_
      refine zz_iload_n (x := x2) rfl zd_14_113_82 ?_
      refine zz_if_eq (by omega) zd_14_113_83 (fun c25 => ?_) (fun c25 => ?_)
      · refine zz_iload_n (x := x1) rfl zd_14_113_90 ?_
        have g26 := zz_G.r G_S14 1079 0 0 3 rfl rfl
        have g27 := zz_G.r G_S0 1079 36 0 11 rfl rfl
        have e28 : S14 1079 36 = S0 1079 36 := (zz_rc fS14 rfl rfl (fun h => h) (zz_rc F_S rfl rfl (fun h => h) rfl))
        have g99 := zz_G.r G_S0 1079 36 0 11 rfl rfl
        exact zz_iret zd_14_113_91 rfl (Nat.zero_le _) (Nat.zero_le _) ⟨_, _, rfl, G_S14, F_S14, by omega, (by rw [show S14 1079 0 = 0 by omega]; exact zn_MPy (i46_7 (by omega)) (by omega) (fS14 1079 36 rfl rfl (fun h => h)) (fun a i h1 h2 => fS14 a i (zz_nc4 rfl (by omega)) (zz_nc3 rfl (by omega)) (fun h => h)) (fun a i h1 h2 h3 => F_S a i (zz_nc4 rfl (by omega)) (zz_nc5 rfl (by omega)) (fun h => h))), (zz_Hr.fr fS14 rfl rfl (fun b j h => h.elim) (i46_4 (by omega)))⟩
      · refine zz_iconst zd_14_113_86 ?_
        refine zz_goto zd_14_113_87 ?_
        have g29 := zz_G.r G_S14 1079 0 0 3 rfl rfl
        have g30 := zz_G.r G_S0 1079 36 0 11 rfl rfl
        have e31 : S14 1079 36 = S0 1079 36 := (zz_rc fS14 rfl rfl (fun h => h) (zz_rc F_S rfl rfl (fun h => h) rfl))
        have g99 := zz_G.r G_S0 1079 36 0 11 rfl rfl
        exact zz_iret zd_14_113_91 rfl (Nat.zero_le _) (Nat.zero_le _) ⟨_, _, rfl, G_S14, F_S14, by omega, (by rw [show S14 1079 0 = 1 by omega]; exact zn_MPn (i46_8 (by omega)) (F_S14 1079 36 rfl rfl (fun h => h)) (fun a i h1 h2 h3 => F_S14 a i (zz_nc4 rfl (by omega)) (zz_nc5 rfl (by omega)) (fun h => h)) (fun i hi => (zz_rc fS14 (zz_nc1 rfl) rfl (fun h => h) rfl : S14 1105 i = S 1105 i).trans (i46_5 (by omega) i (by omega)))), (R_S0.down (by omega) (fun a i x y z => (Decidable.em (a = 1105)).elim (fun h => by subst h; exact (zz_rc fS14 (zz_nc1 rfl) rfl (fun h => h) rfl : S14 1105 i = S 1105 i).trans (i46_5 (by omega) i (by omega))) (fun h => F_S14 a i (zz_nc4 rfl (by omega)) (zz_nc5 rfl (by omega)) (fun h => h))))⟩
  · refine zz_iload_n (x := x2) rfl zd_14_113_52 ?_
    refine zz_if_eq (by omega) zd_14_113_53 (fun c32 => ?_) (fun c32 => ?_)
    · refine zz_aload_n (x := 1079) rfl zd_14_113_74 ?_
      refine zz_iload_n (x := x2) rfl zd_14_113_75 ?_
      refine zz_iconst zd_14_113_76 ?_
      refine zz_iconst zd_14_113_77 ?_
      have g33 := zz_G.r G_S 1079 0 0 3 rfl rfl
      refine zz_callVI [zi x2, zi 0, zi 0] zd_14_113_78 zk_Md_196 zT_1079 (zz_ltn hn rfl) rfl rfl ⟨Nat.le_of_ble_eq_true rfl, Nat.le_of_ble_eq_true rfl⟩ ⟨rfl, rfl⟩ (Nat.zero_le _) (Nat.zero_le _) (zc_refuse_14_3 x2 0 0 S n hn G_S (by omega) (by omega) (by omega)) (fun v35 S34 hP => ?_)
      obtain ⟨G_S34, fS34, o36, o37⟩ := hP
      have F_S34 := zz_fr.trans F_S fS34 rfl zz_nv
      rcases (by omega : v35 = 0 ∨ v35 = 1) with rfl | rfl
      · refine zz_pop rfl zd_14_113_81 ?_
        refine zz_iload_n (x := x2) rfl zd_14_113_82 ?_
        refine zz_if_eq (by omega) zd_14_113_83 (fun c38 => ?_) (fun c38 => ?_)
        · refine zz_iload_n (x := x1) rfl zd_14_113_90 ?_
          have g39 := zz_G.r G_S34 1079 0 0 3 rfl rfl
          have g40 := zz_G.r G_S0 1079 36 0 11 rfl rfl
          have e41 : S34 1079 36 = S0 1079 36 := (zz_rc fS34 rfl rfl (fun h => h) (zz_rc F_S rfl rfl (fun h => h) rfl))
          have g99 := zz_G.r G_S0 1079 36 0 11 rfl rfl
          exact zz_iret zd_14_113_91 rfl (Nat.zero_le _) (Nat.zero_le _) ⟨_, _, rfl, G_S34, F_S34, by omega, (by rw [show S34 1079 0 = 0 by omega]; exact zn_MPy (i46_7 (by omega)) (by omega) (fS34 1079 36 rfl rfl (fun h => h)) (fun a i h1 h2 => fS34 a i (zz_nc4 rfl (by omega)) (zz_nc3 rfl (by omega)) (fun h => h)) (fun a i h1 h2 h3 => F_S a i (zz_nc4 rfl (by omega)) (zz_nc5 rfl (by omega)) (fun h => h))), (zz_Hr.fr fS34 rfl rfl (fun b j h => h.elim) (i46_4 (by omega)))⟩
        · exfalso; omega
      · refine zz_pop rfl zd_14_113_81 ?_
        refine zz_iload_n (x := x2) rfl zd_14_113_82 ?_
        refine zz_if_eq (by omega) zd_14_113_83 (fun c42 => ?_) (fun c42 => ?_)
        · refine zz_iload_n (x := x1) rfl zd_14_113_90 ?_
          have g43 := zz_G.r G_S34 1079 0 0 3 rfl rfl
          have g44 := zz_G.r G_S0 1079 36 0 11 rfl rfl
          have e45 : S34 1079 36 = S0 1079 36 := (zz_rc fS34 rfl rfl (fun h => h) (zz_rc F_S rfl rfl (fun h => h) rfl))
          have g99 := zz_G.r G_S0 1079 36 0 11 rfl rfl
          exact zz_iret zd_14_113_91 rfl (Nat.zero_le _) (Nat.zero_le _) ⟨_, _, rfl, G_S34, F_S34, by omega, (by rw [show S34 1079 0 = 0 by omega]; exact zn_MPy (i46_7 (by omega)) (by omega) (fS34 1079 36 rfl rfl (fun h => h)) (fun a i h1 h2 => fS34 a i (zz_nc4 rfl (by omega)) (zz_nc3 rfl (by omega)) (fun h => h)) (fun a i h1 h2 h3 => F_S a i (zz_nc4 rfl (by omega)) (zz_nc5 rfl (by omega)) (fun h => h))), (zz_Hr.fr fS34 rfl rfl (fun b j h => h.elim) (i46_4 (by omega)))⟩
        · exfalso; omega
    · refine zz_aload_n (x := 1079) rfl zd_14_113_56 ?_
      refine zz_getr (kd := 0) (z := 1105) zd_14_113_57 zf_Md_97 zT_1079 rfl (zz_ltn hn rfl) (zz_G.eq G_S 1079 40 1105 rfl rfl) (by decide) 1105 rfl ?_
      refine zz_iload_n (x := x3) rfl zd_14_113_60 ?_
      refine zz_aload_n (x := 1079) rfl zd_14_113_61 ?_
      refine zz_getr (kd := 0) (z := 1120) zd_14_113_62 zf_Md_142 zT_1079 rfl (zz_ltn hn rfl) (zz_G.eq G_S 1079 68 1120 rfl rfl) (by decide) 1120 rfl ?_
      refine zz_iload_n (x := x3) rfl zd_14_113_65 ?_
      have g46 := zz_G.r G_S 1120 x3.toNat (0) (if x3.toNat = 0 then 0 else 10000000) rfl rfl
      refine zz_iald (z := S 1120 x3.toNat) zd_14_113_66 zT_1120 rfl (zz_ltn hn rfl) (by decide) (by omega) rfl ?_
      refine zz_iast zd_14_113_67 zT_1105 rfl (zz_ltn hn rfl) (by decide) (by omega) (fun S47 qS47 => ?_)
      have G_S47 := zz_G.put G_S qS47 (0) (if x3.toNat = 0 then 0 else 10000000) rfl (by omega)
      have F_S47 := zz_fr.putc F_S qS47 rfl
      refine zz_iinc [some (.ref 1079), some (zi x1), some (zi x2), some (zi (x3 + 1))] zd_14_113_68 rfl rfl ?_
      refine zz_goto zd_14_113_71 ?_
      refine zz_less (ls1 := [some (.ref 1079), some (zi x1), some (zi x2), some (zi (x3 + 1))]) ⟨rfl, ⟨rfl, ⟨rfl, ⟨rfl, trivial⟩⟩⟩⟩ ?_
      exact k46 x1 x2 (x3 + 1) S47 G_S47 F_S47 (by omega) (by omega) (by omega) (by omega) (fun h => absurd h (by omega)) (fun hx u hu => (Decidable.em ((u : Int) = x3)).elim (fun h => by rw [show u = x3.toNat by omega, zz_rs qS47]; exact i46_6 (by omega) _ (by omega)) (fun h => by rw [zz_ro (b := 1105) (j := u) qS47 (fun h9 => by omega) rfl]; exact i46_5 (by omega) u (by omega))) (fun hx u hu => (zz_ro (b := 1120) (j := u) qS47 (fun h9 => absurd h9.1 (by decide)) rfl).trans (i46_6 hx u hu)) (fun h => absurd h (by omega)) i46_8 (by omega)
theorem zi_place_14_113 {g : mm_G} {l : Launch}  (S0 : zz_S) (n : Nat) (hn : zz_end ≤ n) (G_S0 : zz_G S0) (R_S0 : zz_Hr S0) (h1 : 1 ≤ S0 1079 36) : ∀ N : Nat, (∀ (x1 : Int) (S : zz_S), zz_G S → zz_fr [(1079, 0)] [1105, 1120] (fun _ _ => False) S0 S → (0 ≤ x1 ∧ x1 ≤ 12) → (∀ u : Nat, (u : Int) < x1 → S 1120 u = S0 1105 u) → (∀ u : Nat, S 1105 u = S0 1105 u) → (zz_Hr S) → (34359738368 + (12 - x1).toNat) < N → zz_E g l zy_place_14_113 zr_place_14_113 (zz_QI n (zp_place_14_113  S0)) S n 2 [some (.ref 1079), some (zi x1)] [] 0 0) ∧ (∀ (x1 : Int) (x2 : Int) (x3 : Int) (S : zz_S), zz_G S → zz_fr [(1079, 0)] [1105, 1120] (fun _ _ => False) S0 S → (0 ≤ x1 ∧ x1 ≤ 3000000) → (0 ≤ x2 ∧ x2 ≤ 1) → (0 ≤ x3 ∧ x3 ≤ 12) → (x2 = 0 → x1 ≤ 2048) → (x2 = 0 → zz_Hr S) → (x2 = 1 → ∀ u : Nat, (u : Int) < x3 → S 1105 u = S0 1105 u) → (x2 = 1 → ∀ u : Nat, u < 12 → S 1120 u = S0 1105 u) → (x2 = 0 → zn_RA S0 S x1) → (x2 = 1 → zn_RB S0) → (17179869184 + (12 - x3).toNat) < N → zz_E g l zy_place_14_113 zr_place_14_113 (zz_QI n (zp_place_14_113  S0)) S n 46 [some (.ref 1079), some (zi x1), some (zi x2), some (zi x3)] [] 0 0) := by
  intro N
  induction N with
  | zero => exact ⟨fun x1 S _ _ _ _ _ _ h => absurd h (Nat.not_lt_zero _), fun x1 x2 x3 S _ _ _ _ _ _ _ _ _ _ _ h => absurd h (Nat.not_lt_zero _)⟩
  | succ N ih =>
    exact ⟨fun x1 S a b j0 j1 j2 j3 hR => zb_place_14_113_2  S0 n hn G_S0 R_S0 h1 x1 S a b j0 j1 j2 j3 _ rfl (fun x1 S a b j0 j1 j2 j3 h => ih.1 x1 S a b j0 j1 j2 j3 (Nat.lt_of_lt_of_le h (Nat.le_of_lt_succ hR))) (fun x1 x2 x3 S a b j0 j1 j2 j3 j4 j5 j6 j7 j8 h => ih.2 x1 x2 x3 S a b j0 j1 j2 j3 j4 j5 j6 j7 j8 (Nat.lt_of_lt_of_le h (Nat.le_of_lt_succ hR))),
      fun x1 x2 x3 S a b j0 j1 j2 j3 j4 j5 j6 j7 j8 hR => zb_place_14_113_46  S0 n hn G_S0 R_S0 h1 x1 x2 x3 S a b j0 j1 j2 j3 j4 j5 j6 j7 j8 _ rfl (fun x1 x2 x3 S a b j0 j1 j2 j3 j4 j5 j6 j7 j8 h => ih.2 x1 x2 x3 S a b j0 j1 j2 j3 j4 j5 j6 j7 j8 (Nat.lt_of_lt_of_le h (Nat.le_of_lt_succ hR)))⟩
theorem zc_place_14_113 {g : mm_G} {l : Launch}  (S0 : zz_S) (n : Nat) (hn : zz_end ≤ n) (G_S0 : zz_G S0) (R_S0 : zz_Hr S0) (h1 : 1 ≤ S0 1079 36) : mm_Met g l zy_place_14_113 zr_place_14_113 [.ref 1079] (zz_M S0 n) n (zz_QI n (zp_place_14_113  S0)) := by
  refine zz_enter (by decide) (Nat.le_of_ble_eq_true rfl) (zz_less (ls1 := [some (.ref 1079)]) ⟨rfl, trivial⟩ ?_)
  have F_S0 : zz_fr [(1079, 0)] [1105, 1120] (fun _ _ => False) S0 S0 := zz_fr.refl
  have k2 : ∀ (x1 : Int) (S : zz_S), zz_G S → zz_fr [(1079, 0)] [1105, 1120] (fun _ _ => False) S0 S → (0 ≤ x1 ∧ x1 ≤ 12) → (∀ u : Nat, (u : Int) < x1 → S 1120 u = S0 1105 u) → (∀ u : Nat, S 1105 u = S0 1105 u) → (zz_Hr S) → zz_E g l zy_place_14_113 zr_place_14_113 (zz_QI n (zp_place_14_113  S0)) S n 2 [some (.ref 1079), some (zi x1)] [] 0 0 := fun x1 S a b j0 j1 j2 j3 => (zi_place_14_113 (g := g) (l := l)  S0 n hn G_S0 R_S0 h1 _).1 x1 S a b j0 j1 j2 j3 (Nat.lt_succ_self _)
  refine zz_iconst zd_14_113_0 ?_
  refine zz_istore_n [some (.ref 1079), some (zi 0)] zd_14_113_1 (by decide) rfl ?_
  refine zz_less (ls1 := [some (.ref 1079), some (zi 0)]) ⟨rfl, ⟨rfl, trivial⟩⟩ ?_
  exact k2 0 S0 G_S0 F_S0 (by omega) (fun u h => absurd h (by omega)) (fun _ => rfl) R_S0
abbrev zy_isToldOfRun_14_115 : mm_Y := (⟨"TensorForgeModel", "isToldOfRun", "(II)Z"⟩, prog_14_method_115_code, 4, (some .boolean))
theorem zyw_isToldOfRun_14_115 : mm_Yw zy_isToldOfRun_14_115 2 := ⟨mm_tb_1 2300 (by decide +kernel) rfl, mm_tb_1 12 (by decide +kernel) rfl, ⟨by decide, by decide⟩, by decide +kernel⟩
theorem zg_14_115_0 : zq_at zy_isToldOfRun_14_115.2.1 0 42 ∧ zq_at zy_isToldOfRun_14_115.2.1 1 180 ∧ zq_at zy_isToldOfRun_14_115.2.1 2 1 ∧ zq_at zy_isToldOfRun_14_115.2.1 3 39 ∧ zq_at zy_isToldOfRun_14_115.2.1 4 158 ∧ zq_at zy_isToldOfRun_14_115.2.1 5 0 ∧ zq_at zy_isToldOfRun_14_115.2.1 6 15 ∧ zq_at zy_isToldOfRun_14_115.2.1 19 3 ∧ zq_at zy_isToldOfRun_14_115.2.1 20 62 ∧ zq_at zy_isToldOfRun_14_115.2.1 21 42 ∧ zq_at zy_isToldOfRun_14_115.2.1 22 29 ∧ zq_at zy_isToldOfRun_14_115.2.1 23 154 ∧ zq_at zy_isToldOfRun_14_115.2.1 24 0 ∧ zq_at zy_isToldOfRun_14_115.2.1 25 7 ∧ zq_at zy_isToldOfRun_14_115.2.1 26 4 ∧ zq_at zy_isToldOfRun_14_115.2.1 27 167 ∧ zq_at zy_isToldOfRun_14_115.2.1 28 0 ∧ zq_at zy_isToldOfRun_14_115.2.1 29 4 ∧ zq_at zy_isToldOfRun_14_115.2.1 31 29 ∧ zq_at zy_isToldOfRun_14_115.2.1 32 153 ∧ zq_at zy_isToldOfRun_14_115.2.1 33 0 ∧ zq_at zy_isToldOfRun_14_115.2.1 34 23 ∧ zq_at zy_isToldOfRun_14_115.2.1 55 3 ∧ zq_at zy_isToldOfRun_14_115.2.1 56 3 := by decide +kernel
theorem zd_14_115_0 : zz_D zy_isToldOfRun_14_115 0 (.aload_n 0) 1 1 := ⟨zq_42 zg_14_115_0.1, rfl⟩
theorem zd_14_115_1 : zz_D zy_isToldOfRun_14_115 1 (.getfield 295) 3 4 := ⟨zq_180 zg_14_115_0.2.1 zg_14_115_0.2.2.1 zg_14_115_0.2.2.2.1 rfl, rfl⟩
theorem zd_14_115_4 : zz_B zy_isToldOfRun_14_115 4 (Instr.ifCond .le) 19 7 := ⟨15, zq_158 zg_14_115_0.2.2.2.2.1 zg_14_115_0.2.2.2.2.2.1 zg_14_115_0.2.2.2.2.2.2.1 (by decide), rfl, rfl⟩
theorem zd_14_115_19 : zz_D zy_isToldOfRun_14_115 19 (.iconst 0) 1 20 := ⟨zq_3 zg_14_115_0.2.2.2.2.2.2.2.1, rfl⟩
theorem zd_14_115_20 : zz_D zy_isToldOfRun_14_115 20 (.istore_n 3) 1 21 := ⟨zq_62 zg_14_115_0.2.2.2.2.2.2.2.2.1, rfl⟩
theorem zd_14_115_21 : zz_D zy_isToldOfRun_14_115 21 (.aload_n 0) 1 22 := ⟨zq_42 zg_14_115_0.2.2.2.2.2.2.2.2.2.1, rfl⟩
theorem zd_14_115_22 : zz_D zy_isToldOfRun_14_115 22 (.iload_n 3) 1 23 := ⟨zq_29 zg_14_115_0.2.2.2.2.2.2.2.2.2.2.1, rfl⟩
theorem zd_14_115_23 : zz_B zy_isToldOfRun_14_115 23 (Instr.ifCond .ne) 30 26 := ⟨7, zq_154 zg_14_115_0.2.2.2.2.2.2.2.2.2.2.2.1 zg_14_115_0.2.2.2.2.2.2.2.2.2.2.2.2.1 zg_14_115_0.2.2.2.2.2.2.2.2.2.2.2.2.2.1 (by decide), rfl, rfl⟩
theorem zd_14_115_26 : zz_D zy_isToldOfRun_14_115 26 (.iconst 1) 1 27 := ⟨zq_4 zg_14_115_0.2.2.2.2.2.2.2.2.2.2.2.2.2.2.1, rfl⟩
theorem zd_14_115_27 : zz_B zy_isToldOfRun_14_115 27 Instr.goto 31 30 := ⟨4, zq_167 zg_14_115_0.2.2.2.2.2.2.2.2.2.2.2.2.2.2.2.1 zg_14_115_0.2.2.2.2.2.2.2.2.2.2.2.2.2.2.2.2.1 zg_14_115_0.2.2.2.2.2.2.2.2.2.2.2.2.2.2.2.2.2.1 (by decide), rfl, rfl⟩
theorem zd_14_115_31 : zz_D zy_isToldOfRun_14_115 31 (.iload_n 3) 1 32 := ⟨zq_29 zg_14_115_0.2.2.2.2.2.2.2.2.2.2.2.2.2.2.2.2.2.2.1, rfl⟩
theorem zd_14_115_32 : zz_B zy_isToldOfRun_14_115 32 (Instr.ifCond .eq) 55 35 := ⟨23, zq_153 zg_14_115_0.2.2.2.2.2.2.2.2.2.2.2.2.2.2.2.2.2.2.2.1 zg_14_115_0.2.2.2.2.2.2.2.2.2.2.2.2.2.2.2.2.2.2.2.2.1 zg_14_115_0.2.2.2.2.2.2.2.2.2.2.2.2.2.2.2.2.2.2.2.2.2.1 (by decide), rfl, rfl⟩
theorem zd_14_115_55 : zz_D zy_isToldOfRun_14_115 55 (.iconst 0) 1 56 := ⟨zq_3 zg_14_115_0.2.2.2.2.2.2.2.2.2.2.2.2.2.2.2.2.2.2.2.2.2.2.1, rfl⟩
theorem zd_14_115_56 : zz_D zy_isToldOfRun_14_115 56 (.iconst 0) 1 57 := ⟨zq_3 zg_14_115_0.2.2.2.2.2.2.2.2.2.2.2.2.2.2.2.2.2.2.2.2.2.2.2, rfl⟩
theorem zg_14_115_57 : zq_at zy_isToldOfRun_14_115.2.1 57 182 ∧ zq_at zy_isToldOfRun_14_115.2.1 58 0 ∧ zq_at zy_isToldOfRun_14_115.2.1 59 196 ∧ zq_at zy_isToldOfRun_14_115.2.1 60 154 ∧ zq_at zy_isToldOfRun_14_115.2.1 61 0 ∧ zq_at zy_isToldOfRun_14_115.2.1 62 7 ∧ zq_at zy_isToldOfRun_14_115.2.1 67 3 ∧ zq_at zy_isToldOfRun_14_115.2.1 68 172 ∧ zq_at zy_isToldOfRun_14_115.2.1 7 42 ∧ zq_at zy_isToldOfRun_14_115.2.1 8 180 ∧ zq_at zy_isToldOfRun_14_115.2.1 9 1 ∧ zq_at zy_isToldOfRun_14_115.2.1 10 39 ∧ zq_at zy_isToldOfRun_14_115.2.1 11 5 ∧ zq_at zy_isToldOfRun_14_115.2.1 12 159 ∧ zq_at zy_isToldOfRun_14_115.2.1 13 0 ∧ zq_at zy_isToldOfRun_14_115.2.1 14 7 ∧ zq_at zy_isToldOfRun_14_115.2.1 15 4 ∧ zq_at zy_isToldOfRun_14_115.2.1 16 167 ∧ zq_at zy_isToldOfRun_14_115.2.1 17 0 ∧ zq_at zy_isToldOfRun_14_115.2.1 18 4 ∧ zq_at zy_isToldOfRun_14_115.2.1 30 3 ∧ zq_at zy_isToldOfRun_14_115.2.1 35 27 ∧ zq_at zy_isToldOfRun_14_115.2.1 36 133 ∧ zq_at zy_isToldOfRun_14_115.2.1 37 9 := by decide +kernel
theorem zd_14_115_57 : zz_D zy_isToldOfRun_14_115 57 (.invokevirtual 196) 3 60 := ⟨zq_182 zg_14_115_57.1 zg_14_115_57.2.1 zg_14_115_57.2.2.1 rfl, rfl⟩
theorem zd_14_115_60 : zz_B zy_isToldOfRun_14_115 60 (Instr.ifCond .ne) 67 63 := ⟨7, zq_154 zg_14_115_57.2.2.2.1 zg_14_115_57.2.2.2.2.1 zg_14_115_57.2.2.2.2.2.1 (by decide), rfl, rfl⟩
theorem zd_14_115_67 : zz_D zy_isToldOfRun_14_115 67 (.iconst 0) 1 68 := ⟨zq_3 zg_14_115_57.2.2.2.2.2.2.1, rfl⟩
theorem zd_14_115_68 : zz_D zy_isToldOfRun_14_115 68 (.ireturn) 1 69 := ⟨zq_172 zg_14_115_57.2.2.2.2.2.2.2.1, rfl⟩
theorem zd_14_115_7 : zz_D zy_isToldOfRun_14_115 7 (.aload_n 0) 1 8 := ⟨zq_42 zg_14_115_57.2.2.2.2.2.2.2.2.1, rfl⟩
theorem zd_14_115_8 : zz_D zy_isToldOfRun_14_115 8 (.getfield 295) 3 11 := ⟨zq_180 zg_14_115_57.2.2.2.2.2.2.2.2.2.1 zg_14_115_57.2.2.2.2.2.2.2.2.2.2.1 zg_14_115_57.2.2.2.2.2.2.2.2.2.2.2.1 rfl, rfl⟩
theorem zd_14_115_11 : zz_D zy_isToldOfRun_14_115 11 (.iconst 2) 1 12 := ⟨zq_5 zg_14_115_57.2.2.2.2.2.2.2.2.2.2.2.2.1, rfl⟩
theorem zd_14_115_12 : zz_B zy_isToldOfRun_14_115 12 (Instr.if_icmp .eq) 19 15 := ⟨7, zq_159 zg_14_115_57.2.2.2.2.2.2.2.2.2.2.2.2.2.1 zg_14_115_57.2.2.2.2.2.2.2.2.2.2.2.2.2.2.1 zg_14_115_57.2.2.2.2.2.2.2.2.2.2.2.2.2.2.2.1 (by decide), rfl, rfl⟩
theorem zd_14_115_15 : zz_D zy_isToldOfRun_14_115 15 (.iconst 1) 1 16 := ⟨zq_4 zg_14_115_57.2.2.2.2.2.2.2.2.2.2.2.2.2.2.2.2.1, rfl⟩
theorem zd_14_115_16 : zz_B zy_isToldOfRun_14_115 16 Instr.goto 20 19 := ⟨4, zq_167 zg_14_115_57.2.2.2.2.2.2.2.2.2.2.2.2.2.2.2.2.2.1 zg_14_115_57.2.2.2.2.2.2.2.2.2.2.2.2.2.2.2.2.2.2.1 zg_14_115_57.2.2.2.2.2.2.2.2.2.2.2.2.2.2.2.2.2.2.2.1 (by decide), rfl, rfl⟩
theorem zd_14_115_30 : zz_D zy_isToldOfRun_14_115 30 (.iconst 0) 1 31 := ⟨zq_3 zg_14_115_57.2.2.2.2.2.2.2.2.2.2.2.2.2.2.2.2.2.2.2.2.1, rfl⟩
theorem zd_14_115_35 : zz_D zy_isToldOfRun_14_115 35 (.iload_n 1) 1 36 := ⟨zq_27 zg_14_115_57.2.2.2.2.2.2.2.2.2.2.2.2.2.2.2.2.2.2.2.2.2.1, rfl⟩
theorem zd_14_115_36 : zz_D zy_isToldOfRun_14_115 36 (.i2l) 1 37 := ⟨zq_133 zg_14_115_57.2.2.2.2.2.2.2.2.2.2.2.2.2.2.2.2.2.2.2.2.2.2.1, rfl⟩
theorem zd_14_115_37 : zz_D zy_isToldOfRun_14_115 37 (.lconst 0) 1 38 := ⟨zq_9 zg_14_115_57.2.2.2.2.2.2.2.2.2.2.2.2.2.2.2.2.2.2.2.2.2.2.2, rfl⟩
theorem zg_14_115_38 : zq_at zy_isToldOfRun_14_115.2.1 38 20 ∧ zq_at zy_isToldOfRun_14_115.2.1 39 0 ∧ zq_at zy_isToldOfRun_14_115.2.1 40 169 ∧ zq_at zy_isToldOfRun_14_115.2.1 41 184 ∧ zq_at zy_isToldOfRun_14_115.2.1 42 0 ∧ zq_at zy_isToldOfRun_14_115.2.1 43 192 ∧ zq_at zy_isToldOfRun_14_115.2.1 44 153 ∧ zq_at zy_isToldOfRun_14_115.2.1 45 0 ∧ zq_at zy_isToldOfRun_14_115.2.1 46 7 ∧ zq_at zy_isToldOfRun_14_115.2.1 51 4 ∧ zq_at zy_isToldOfRun_14_115.2.1 52 167 ∧ zq_at zy_isToldOfRun_14_115.2.1 53 0 ∧ zq_at zy_isToldOfRun_14_115.2.1 54 4 ∧ zq_at zy_isToldOfRun_14_115.2.1 47 28 ∧ zq_at zy_isToldOfRun_14_115.2.1 48 156 ∧ zq_at zy_isToldOfRun_14_115.2.1 49 0 ∧ zq_at zy_isToldOfRun_14_115.2.1 50 7 ∧ zq_at zy_isToldOfRun_14_115.2.1 63 4 ∧ zq_at zy_isToldOfRun_14_115.2.1 64 167 ∧ zq_at zy_isToldOfRun_14_115.2.1 65 0 ∧ zq_at zy_isToldOfRun_14_115.2.1 66 4 := by decide +kernel
theorem zd_14_115_38 : zz_D zy_isToldOfRun_14_115 38 (.ldc2_w 169) 3 41 := ⟨zq_20 zg_14_115_38.1 zg_14_115_38.2.1 zg_14_115_38.2.2.1 rfl, rfl⟩
theorem zd_14_115_41 : zz_D zy_isToldOfRun_14_115 41 (.invokestatic 192) 3 44 := ⟨zq_184 zg_14_115_38.2.2.2.1 zg_14_115_38.2.2.2.2.1 zg_14_115_38.2.2.2.2.2.1 rfl, rfl⟩
theorem zd_14_115_44 : zz_B zy_isToldOfRun_14_115 44 (Instr.ifCond .eq) 51 47 := ⟨7, zq_153 zg_14_115_38.2.2.2.2.2.2.1 zg_14_115_38.2.2.2.2.2.2.2.1 zg_14_115_38.2.2.2.2.2.2.2.2.1 (by decide), rfl, rfl⟩
theorem zd_14_115_51 : zz_D zy_isToldOfRun_14_115 51 (.iconst 1) 1 52 := ⟨zq_4 zg_14_115_38.2.2.2.2.2.2.2.2.2.1, rfl⟩
theorem zd_14_115_52 : zz_B zy_isToldOfRun_14_115 52 Instr.goto 56 55 := ⟨4, zq_167 zg_14_115_38.2.2.2.2.2.2.2.2.2.2.1 zg_14_115_38.2.2.2.2.2.2.2.2.2.2.2.1 zg_14_115_38.2.2.2.2.2.2.2.2.2.2.2.2.1 (by decide), rfl, rfl⟩
theorem zd_14_115_47 : zz_D zy_isToldOfRun_14_115 47 (.iload_n 2) 1 48 := ⟨zq_28 zg_14_115_38.2.2.2.2.2.2.2.2.2.2.2.2.2.1, rfl⟩
theorem zd_14_115_48 : zz_B zy_isToldOfRun_14_115 48 (Instr.ifCond .ge) 55 51 := ⟨7, zq_156 zg_14_115_38.2.2.2.2.2.2.2.2.2.2.2.2.2.2.1 zg_14_115_38.2.2.2.2.2.2.2.2.2.2.2.2.2.2.2.1 zg_14_115_38.2.2.2.2.2.2.2.2.2.2.2.2.2.2.2.2.1 (by decide), rfl, rfl⟩
theorem zd_14_115_63 : zz_D zy_isToldOfRun_14_115 63 (.iconst 1) 1 64 := ⟨zq_4 zg_14_115_38.2.2.2.2.2.2.2.2.2.2.2.2.2.2.2.2.2.1, rfl⟩
theorem zd_14_115_64 : zz_B zy_isToldOfRun_14_115 64 Instr.goto 68 67 := ⟨4, zq_167 zg_14_115_38.2.2.2.2.2.2.2.2.2.2.2.2.2.2.2.2.2.2.1 zg_14_115_38.2.2.2.2.2.2.2.2.2.2.2.2.2.2.2.2.2.2.2.1 zg_14_115_38.2.2.2.2.2.2.2.2.2.2.2.2.2.2.2.2.2.2.2.2 (by decide), rfl, rfl⟩
-- TensorForgeModel isToldOfRun (II)Z
abbrev zr_isToldOfRun_14_115 : Room := { frames := 1, cells := 0, slots := 0, locals := 19 }
def zp_isToldOfRun_14_115 (p0 : Int) (p1 : Int) (S0 : zz_S) : Int → zz_S → Prop := fun r S => zz_G S ∧ zz_fr [(1079, 0)] [] (fun _ _ => False) S0 S ∧ (0 ≤ r ∧ r ≤ 1)
theorem zc_isToldOfRun_14_115 {g : mm_G} {l : Launch} (p0 : Int) (p1 : Int) (S0 : zz_S) (n : Nat) (hn : zz_end ≤ n) (G_S0 : zz_G S0) (hp0 : (-2147483648) ≤ p0 ∧ p0 ≤ 2147483647) (hp1 : (-2147483648) ≤ p1 ∧ p1 ≤ 2147483647) : mm_Met g l zy_isToldOfRun_14_115 zr_isToldOfRun_14_115 [.ref 1079, zi p0, zi p1] (zz_M S0 n) n (zz_QI n (zp_isToldOfRun_14_115 p0 p1 S0)) := by
  refine zz_enter (by decide) (Nat.le_of_ble_eq_true rfl) (zz_less (ls1 := [some (.ref 1079), some (zi p0), some (zi p1)]) ⟨rfl, ⟨rfl, ⟨rfl, trivial⟩⟩⟩ ?_)
  have F_S0 : zz_fr [(1079, 0)] [] (fun _ _ => False) S0 S0 := zz_fr.refl
  refine zz_aload_n (x := 1079) rfl zd_14_115_0 ?_
  have g1 := zz_G.r G_S0 1079 14 0 4 rfl rfl
  refine zz_geti (z := S0 1079 14) zd_14_115_1 zf_Md_295 zT_1079 rfl (zz_ltn hn rfl) rfl ?_
  refine zz_if_le (by omega) zd_14_115_4 (fun c2 => ?_) (fun c2 => ?_)
  · refine zz_iconst zd_14_115_19 ?_
    refine zz_istore_n [some (.ref 1079), some (zi p0), some (zi p1), some (zi 0)] zd_14_115_20 (by decide) rfl ?_
    refine zz_aload_n (x := 1079) rfl zd_14_115_21 ?_
    refine zz_iload_n (x := 0) rfl zd_14_115_22 ?_
    refine zz_if_ne (by omega) zd_14_115_23 (fun c3 => ?_) (fun c3 => ?_)
    · exfalso; omega
    · refine zz_iconst zd_14_115_26 ?_
      refine zz_goto zd_14_115_27 ?_
      refine zz_iload_n (x := 0) rfl zd_14_115_31 ?_
      refine zz_if_eq (by omega) zd_14_115_32 (fun c4 => ?_) (fun c4 => ?_)
      · refine zz_iconst zd_14_115_55 ?_
        refine zz_iconst zd_14_115_56 ?_
        refine zz_callVI [zi 1, zi 0, zi 0] zd_14_115_57 zk_Md_196 zT_1079 (zz_ltn hn rfl) rfl rfl ⟨Nat.le_of_ble_eq_true rfl, Nat.le_of_ble_eq_true rfl⟩ ⟨rfl, rfl⟩ (Nat.zero_le _) (Nat.zero_le _) (zc_refuse_14_3 1 0 0 S0 n hn G_S0 (by omega) (by omega) (by omega)) (fun v6 S5 hP => ?_)
        obtain ⟨G_S5, fS5, o7, o8⟩ := hP
        have F_S5 := zz_fr.trans F_S0 fS5 rfl zz_nv
        rcases (by omega : v6 = 0 ∨ v6 = 1) with rfl | rfl
        · exfalso; omega
        · have e9 : S5 1079 0 = 1 := by omega
          clear o8
          refine zz_if_ne (by omega) zd_14_115_60 (fun c10 => ?_) (fun c10 => ?_)
          · refine zz_iconst zd_14_115_67 ?_
            exact zz_zret zd_14_115_68 rfl (by omega) (Nat.zero_le _) (Nat.zero_le _) ⟨_, _, rfl, G_S5, F_S5, by omega⟩
          · exfalso; omega
      · exfalso; omega
  · refine zz_aload_n (x := 1079) rfl zd_14_115_7 ?_
    refine zz_geti (z := S0 1079 14) zd_14_115_8 zf_Md_295 zT_1079 rfl (zz_ltn hn rfl) rfl ?_
    refine zz_iconst zd_14_115_11 ?_
    refine zz_icmp_eq (by omega) (by omega) zd_14_115_12 (fun c11 => ?_) (fun c11 => ?_)
    · refine zz_iconst zd_14_115_19 ?_
      refine zz_istore_n [some (.ref 1079), some (zi p0), some (zi p1), some (zi 0)] zd_14_115_20 (by decide) rfl ?_
      refine zz_aload_n (x := 1079) rfl zd_14_115_21 ?_
      refine zz_iload_n (x := 0) rfl zd_14_115_22 ?_
      refine zz_if_ne (by omega) zd_14_115_23 (fun c12 => ?_) (fun c12 => ?_)
      · exfalso; omega
      · refine zz_iconst zd_14_115_26 ?_
        refine zz_goto zd_14_115_27 ?_
        refine zz_iload_n (x := 0) rfl zd_14_115_31 ?_
        refine zz_if_eq (by omega) zd_14_115_32 (fun c13 => ?_) (fun c13 => ?_)
        · refine zz_iconst zd_14_115_55 ?_
          refine zz_iconst zd_14_115_56 ?_
          refine zz_callVI [zi 1, zi 0, zi 0] zd_14_115_57 zk_Md_196 zT_1079 (zz_ltn hn rfl) rfl rfl ⟨Nat.le_of_ble_eq_true rfl, Nat.le_of_ble_eq_true rfl⟩ ⟨rfl, rfl⟩ (Nat.zero_le _) (Nat.zero_le _) (zc_refuse_14_3 1 0 0 S0 n hn G_S0 (by omega) (by omega) (by omega)) (fun v15 S14 hP => ?_)
          obtain ⟨G_S14, fS14, o16, o17⟩ := hP
          have F_S14 := zz_fr.trans F_S0 fS14 rfl zz_nv
          rcases (by omega : v15 = 0 ∨ v15 = 1) with rfl | rfl
          · exfalso; omega
          · have e18 : S14 1079 0 = 1 := by omega
            clear o17
            refine zz_if_ne (by omega) zd_14_115_60 (fun c19 => ?_) (fun c19 => ?_)
            · refine zz_iconst zd_14_115_67 ?_
              exact zz_zret zd_14_115_68 rfl (by omega) (Nat.zero_le _) (Nat.zero_le _) ⟨_, _, rfl, G_S14, F_S14, by omega⟩
            · exfalso; omega
        · exfalso; omega
    · refine zz_iconst zd_14_115_15 ?_
      refine zz_goto zd_14_115_16 ?_
      refine zz_istore_n [some (.ref 1079), some (zi p0), some (zi p1), some (zi 1)] zd_14_115_20 (by decide) rfl ?_
      refine zz_aload_n (x := 1079) rfl zd_14_115_21 ?_
      refine zz_iload_n (x := 1) rfl zd_14_115_22 ?_
      refine zz_if_ne (by omega) zd_14_115_23 (fun c20 => ?_) (fun c20 => ?_)
      · refine zz_iconst zd_14_115_30 ?_
        refine zz_iload_n (x := 1) rfl zd_14_115_31 ?_
        refine zz_if_eq (by omega) zd_14_115_32 (fun c21 => ?_) (fun c21 => ?_)
        · exfalso; omega
        · refine zz_iload_n (x := p0) rfl zd_14_115_35 ?_
          refine zz_i2l (by omega) zd_14_115_36 ?_
          refine zz_lconst (z := 0) (by decide) zd_14_115_37 ?_
          refine zz_ldc2 (z := 2) zq_Md_169 (by decide) zd_14_115_38 ?_
          refine zz_callSI [zl p0, zl 0, zl 2] zd_14_115_41 zk_Md_192 rfl rfl ⟨Nat.le_of_ble_eq_true rfl, Nat.le_of_ble_eq_true rfl⟩ ⟨rfl, rfl⟩ (Nat.zero_le _) (Nat.zero_le _) (zc_in_14_4 p0 0 2 S0 n hn G_S0 (by omega) (by omega) (by omega)) (fun v23 S22 hP => ?_)
          obtain ⟨rfl, o24, o25⟩ := hP
          rcases (by omega : v23 = 0 ∨ v23 = 1) with rfl | rfl
          · have n26 : p0 < 0 ∨ 2 < p0 := by omega
            clear o25
            refine zz_if_eq (by omega) zd_14_115_44 (fun c27 => ?_) (fun c27 => ?_)
            · refine zz_iconst zd_14_115_51 ?_
              refine zz_goto zd_14_115_52 ?_
              refine zz_iconst zd_14_115_56 ?_
              refine zz_callVI [zi 0, zi 1, zi 0] zd_14_115_57 zk_Md_196 zT_1079 (zz_ltn hn rfl) rfl rfl ⟨Nat.le_of_ble_eq_true rfl, Nat.le_of_ble_eq_true rfl⟩ ⟨rfl, rfl⟩ (Nat.zero_le _) (Nat.zero_le _) (zc_refuse_14_3 0 1 0 S0 n hn G_S0 (by omega) (by omega) (by omega)) (fun v29 S28 hP => ?_)
              obtain ⟨G_S28, fS28, o30, o31⟩ := hP
              have F_S28 := zz_fr.trans F_S0 fS28 rfl zz_nv
              rcases (by omega : v29 = 0 ∨ v29 = 1) with rfl | rfl
              · exfalso; omega
              · have e32 : S28 1079 0 = 2 := by omega
                clear o31
                refine zz_if_ne (by omega) zd_14_115_60 (fun c33 => ?_) (fun c33 => ?_)
                · refine zz_iconst zd_14_115_67 ?_
                  exact zz_zret zd_14_115_68 rfl (by omega) (Nat.zero_le _) (Nat.zero_le _) ⟨_, _, rfl, G_S28, F_S28, by omega⟩
                · exfalso; omega
            · exfalso; omega
          · have n34 : 0 ≤ p0 ∧ p0 ≤ 2 := by omega
            clear o25
            refine zz_if_eq (by omega) zd_14_115_44 (fun c35 => ?_) (fun c35 => ?_)
            · exfalso; omega
            · refine zz_iload_n (x := p1) rfl zd_14_115_47 ?_
              refine zz_if_ge (by omega) zd_14_115_48 (fun c36 => ?_) (fun c36 => ?_)
              · refine zz_iconst zd_14_115_55 ?_
                refine zz_iconst zd_14_115_56 ?_
                refine zz_callVI [zi 0, zi 0, zi 0] zd_14_115_57 zk_Md_196 zT_1079 (zz_ltn hn rfl) rfl rfl ⟨Nat.le_of_ble_eq_true rfl, Nat.le_of_ble_eq_true rfl⟩ ⟨rfl, rfl⟩ (Nat.zero_le _) (Nat.zero_le _) (zc_refuse_14_3 0 0 0 S0 n hn G_S0 (by omega) (by omega) (by omega)) (fun v38 S37 hP => ?_)
                obtain ⟨G_S37, fS37, o39, o40⟩ := hP
                have F_S37 := zz_fr.trans F_S0 fS37 rfl zz_nv
                rcases (by omega : v38 = 0 ∨ v38 = 1) with rfl | rfl
                · have e41 : S37 1079 0 = 0 := by omega
                  clear o40
                  refine zz_if_ne (by omega) zd_14_115_60 (fun c42 => ?_) (fun c42 => ?_)
                  · exfalso; omega
                  · refine zz_iconst zd_14_115_63 ?_
                    refine zz_goto zd_14_115_64 ?_
                    exact zz_zret zd_14_115_68 rfl (by omega) (Nat.zero_le _) (Nat.zero_le _) ⟨_, _, rfl, G_S37, F_S37, by omega⟩
                · exfalso; omega
              · refine zz_iconst zd_14_115_51 ?_
                refine zz_goto zd_14_115_52 ?_
                refine zz_iconst zd_14_115_56 ?_
                refine zz_callVI [zi 0, zi 1, zi 0] zd_14_115_57 zk_Md_196 zT_1079 (zz_ltn hn rfl) rfl rfl ⟨Nat.le_of_ble_eq_true rfl, Nat.le_of_ble_eq_true rfl⟩ ⟨rfl, rfl⟩ (Nat.zero_le _) (Nat.zero_le _) (zc_refuse_14_3 0 1 0 S0 n hn G_S0 (by omega) (by omega) (by omega)) (fun v44 S43 hP => ?_)
                obtain ⟨G_S43, fS43, o45, o46⟩ := hP
                have F_S43 := zz_fr.trans F_S0 fS43 rfl zz_nv
                rcases (by omega : v44 = 0 ∨ v44 = 1) with rfl | rfl
                · exfalso; omega
                · have e47 : S43 1079 0 = 2 := by omega
                  clear o46
                  refine zz_if_ne (by omega) zd_14_115_60 (fun c48 => ?_) (fun c48 => ?_)
                  · refine zz_iconst zd_14_115_67 ?_
                    exact zz_zret zd_14_115_68 rfl (by omega) (Nat.zero_le _) (Nat.zero_le _) ⟨_, _, rfl, G_S43, F_S43, by omega⟩
                  · exfalso; omega
      · exfalso; omega
abbrev zy_underWay_14_116 : mm_Y := (⟨"TensorForgeModel", "underWay", "(II)I"⟩, prog_14_method_116_code, 5, (some .int))
theorem zyw_underWay_14_116 : mm_Yw zy_underWay_14_116 2 := ⟨mm_tb_1 2304 (by decide +kernel) rfl, mm_tb_1 12 (by decide +kernel) rfl, ⟨by decide, by decide⟩, by decide +kernel⟩
theorem zg_14_116_0 : zq_at zy_underWay_14_116.2.1 0 2 ∧ zq_at zy_underWay_14_116.2.1 1 62 ∧ zq_at zy_underWay_14_116.2.1 2 3 ∧ zq_at zy_underWay_14_116.2.1 3 54 ∧ zq_at zy_underWay_14_116.2.1 4 4 ∧ zq_at zy_underWay_14_116.2.1 5 21 ∧ zq_at zy_underWay_14_116.2.1 6 4 ∧ zq_at zy_underWay_14_116.2.1 7 42 ∧ zq_at zy_underWay_14_116.2.1 8 180 ∧ zq_at zy_underWay_14_116.2.1 9 1 ∧ zq_at zy_underWay_14_116.2.1 10 16 ∧ zq_at zy_underWay_14_116.2.1 11 162 ∧ zq_at zy_underWay_14_116.2.1 12 0 ∧ zq_at zy_underWay_14_116.2.1 13 59 ∧ zq_at zy_underWay_14_116.2.1 70 29 ∧ zq_at zy_underWay_14_116.2.1 71 172 ∧ zq_at zy_underWay_14_116.2.1 14 42 ∧ zq_at zy_underWay_14_116.2.1 15 180 ∧ zq_at zy_underWay_14_116.2.1 16 0 ∧ zq_at zy_underWay_14_116.2.1 17 54 ∧ zq_at zy_underWay_14_116.2.1 18 21 ∧ zq_at zy_underWay_14_116.2.1 19 4 ∧ zq_at zy_underWay_14_116.2.1 20 46 ∧ zq_at zy_underWay_14_116.2.1 21 27 := by decide +kernel
theorem zd_14_116_0 : zz_D zy_underWay_14_116 0 (.iconst (-1)) 1 1 := ⟨zq_2 zg_14_116_0.1, rfl⟩
theorem zd_14_116_1 : zz_D zy_underWay_14_116 1 (.istore_n 3) 1 2 := ⟨zq_62 zg_14_116_0.2.1, rfl⟩
theorem zd_14_116_2 : zz_D zy_underWay_14_116 2 (.iconst 0) 1 3 := ⟨zq_3 zg_14_116_0.2.2.1, rfl⟩
theorem zd_14_116_3 : zz_D zy_underWay_14_116 3 (.istore 4) 2 5 := ⟨zq_54 zg_14_116_0.2.2.2.1 zg_14_116_0.2.2.2.2.1, rfl⟩
theorem zd_14_116_5 : zz_D zy_underWay_14_116 5 (.iload 4) 2 7 := ⟨zq_21 zg_14_116_0.2.2.2.2.2.1 zg_14_116_0.2.2.2.2.2.2.1, rfl⟩
theorem zd_14_116_7 : zz_D zy_underWay_14_116 7 (.aload_n 0) 1 8 := ⟨zq_42 zg_14_116_0.2.2.2.2.2.2.2.1, rfl⟩
theorem zd_14_116_8 : zz_D zy_underWay_14_116 8 (.getfield 272) 3 11 := ⟨zq_180 zg_14_116_0.2.2.2.2.2.2.2.2.1 zg_14_116_0.2.2.2.2.2.2.2.2.2.1 zg_14_116_0.2.2.2.2.2.2.2.2.2.2.1 rfl, rfl⟩
theorem zd_14_116_11 : zz_B zy_underWay_14_116 11 (Instr.if_icmp .ge) 70 14 := ⟨59, zq_162 zg_14_116_0.2.2.2.2.2.2.2.2.2.2.2.1 zg_14_116_0.2.2.2.2.2.2.2.2.2.2.2.2.1 zg_14_116_0.2.2.2.2.2.2.2.2.2.2.2.2.2.1 (by decide), rfl, rfl⟩
theorem zd_14_116_70 : zz_D zy_underWay_14_116 70 (.iload_n 3) 1 71 := ⟨zq_29 zg_14_116_0.2.2.2.2.2.2.2.2.2.2.2.2.2.2.1, rfl⟩
theorem zd_14_116_71 : zz_D zy_underWay_14_116 71 (.ireturn) 1 72 := ⟨zq_172 zg_14_116_0.2.2.2.2.2.2.2.2.2.2.2.2.2.2.2.1, rfl⟩
theorem zd_14_116_14 : zz_D zy_underWay_14_116 14 (.aload_n 0) 1 15 := ⟨zq_42 zg_14_116_0.2.2.2.2.2.2.2.2.2.2.2.2.2.2.2.2.1, rfl⟩
theorem zd_14_116_15 : zz_D zy_underWay_14_116 15 (.getfield 54) 3 18 := ⟨zq_180 zg_14_116_0.2.2.2.2.2.2.2.2.2.2.2.2.2.2.2.2.2.1 zg_14_116_0.2.2.2.2.2.2.2.2.2.2.2.2.2.2.2.2.2.2.1 zg_14_116_0.2.2.2.2.2.2.2.2.2.2.2.2.2.2.2.2.2.2.2.1 rfl, rfl⟩
theorem zd_14_116_18 : zz_D zy_underWay_14_116 18 (.iload 4) 2 20 := ⟨zq_21 zg_14_116_0.2.2.2.2.2.2.2.2.2.2.2.2.2.2.2.2.2.2.2.2.1 zg_14_116_0.2.2.2.2.2.2.2.2.2.2.2.2.2.2.2.2.2.2.2.2.2.1, rfl⟩
theorem zd_14_116_20 : zz_D zy_underWay_14_116 20 (.iaload) 1 21 := ⟨zq_46 zg_14_116_0.2.2.2.2.2.2.2.2.2.2.2.2.2.2.2.2.2.2.2.2.2.2.1, rfl⟩
theorem zd_14_116_21 : zz_D zy_underWay_14_116 21 (.iload_n 1) 1 22 := ⟨zq_27 zg_14_116_0.2.2.2.2.2.2.2.2.2.2.2.2.2.2.2.2.2.2.2.2.2.2.2, rfl⟩
theorem zg_14_116_22 : zq_at zy_underWay_14_116.2.1 22 160 ∧ zq_at zy_underWay_14_116.2.1 23 0 ∧ zq_at zy_underWay_14_116.2.1 24 40 ∧ zq_at zy_underWay_14_116.2.1 62 29 ∧ zq_at zy_underWay_14_116.2.1 63 62 ∧ zq_at zy_underWay_14_116.2.1 64 132 ∧ zq_at zy_underWay_14_116.2.1 65 4 ∧ zq_at zy_underWay_14_116.2.1 66 1 ∧ zq_at zy_underWay_14_116.2.1 67 167 ∧ zq_at zy_underWay_14_116.2.1 68 255 ∧ zq_at zy_underWay_14_116.2.1 69 194 ∧ zq_at zy_underWay_14_116.2.1 25 42 ∧ zq_at zy_underWay_14_116.2.1 26 180 ∧ zq_at zy_underWay_14_116.2.1 27 0 ∧ zq_at zy_underWay_14_116.2.1 28 57 ∧ zq_at zy_underWay_14_116.2.1 29 21 ∧ zq_at zy_underWay_14_116.2.1 30 4 ∧ zq_at zy_underWay_14_116.2.1 31 46 ∧ zq_at zy_underWay_14_116.2.1 32 155 ∧ zq_at zy_underWay_14_116.2.1 33 0 ∧ zq_at zy_underWay_14_116.2.1 34 30 ∧ zq_at zy_underWay_14_116.2.1 35 42 := by decide +kernel
theorem zd_14_116_22 : zz_B zy_underWay_14_116 22 (Instr.if_icmp .ne) 62 25 := ⟨40, zq_160 zg_14_116_22.1 zg_14_116_22.2.1 zg_14_116_22.2.2.1 (by decide), rfl, rfl⟩
theorem zd_14_116_62 : zz_D zy_underWay_14_116 62 (.iload_n 3) 1 63 := ⟨zq_29 zg_14_116_22.2.2.2.1, rfl⟩
theorem zd_14_116_63 : zz_D zy_underWay_14_116 63 (.istore_n 3) 1 64 := ⟨zq_62 zg_14_116_22.2.2.2.2.1, rfl⟩
theorem zd_14_116_64 : zz_D zy_underWay_14_116 64 (.iinc 4 1) 3 67 := ⟨zq_132 zg_14_116_22.2.2.2.2.2.1 zg_14_116_22.2.2.2.2.2.2.1 zg_14_116_22.2.2.2.2.2.2.2.1 (by decide), rfl⟩
theorem zd_14_116_67 : zz_B zy_underWay_14_116 67 Instr.goto 5 70 := ⟨(-62), zq_167 zg_14_116_22.2.2.2.2.2.2.2.2.1 zg_14_116_22.2.2.2.2.2.2.2.2.2.1 zg_14_116_22.2.2.2.2.2.2.2.2.2.2.1 (by decide), rfl, rfl⟩
theorem zd_14_116_25 : zz_D zy_underWay_14_116 25 (.aload_n 0) 1 26 := ⟨zq_42 zg_14_116_22.2.2.2.2.2.2.2.2.2.2.2.1, rfl⟩
theorem zd_14_116_26 : zz_D zy_underWay_14_116 26 (.getfield 57) 3 29 := ⟨zq_180 zg_14_116_22.2.2.2.2.2.2.2.2.2.2.2.2.1 zg_14_116_22.2.2.2.2.2.2.2.2.2.2.2.2.2.1 zg_14_116_22.2.2.2.2.2.2.2.2.2.2.2.2.2.2.1 rfl, rfl⟩
theorem zd_14_116_29 : zz_D zy_underWay_14_116 29 (.iload 4) 2 31 := ⟨zq_21 zg_14_116_22.2.2.2.2.2.2.2.2.2.2.2.2.2.2.2.1 zg_14_116_22.2.2.2.2.2.2.2.2.2.2.2.2.2.2.2.2.1, rfl⟩
theorem zd_14_116_31 : zz_D zy_underWay_14_116 31 (.iaload) 1 32 := ⟨zq_46 zg_14_116_22.2.2.2.2.2.2.2.2.2.2.2.2.2.2.2.2.2.1, rfl⟩
theorem zd_14_116_32 : zz_B zy_underWay_14_116 32 (Instr.ifCond .lt) 62 35 := ⟨30, zq_155 zg_14_116_22.2.2.2.2.2.2.2.2.2.2.2.2.2.2.2.2.2.2.1 zg_14_116_22.2.2.2.2.2.2.2.2.2.2.2.2.2.2.2.2.2.2.2.1 zg_14_116_22.2.2.2.2.2.2.2.2.2.2.2.2.2.2.2.2.2.2.2.2.1 (by decide), rfl, rfl⟩
theorem zd_14_116_35 : zz_D zy_underWay_14_116 35 (.aload_n 0) 1 36 := ⟨zq_42 zg_14_116_22.2.2.2.2.2.2.2.2.2.2.2.2.2.2.2.2.2.2.2.2.2, rfl⟩
theorem zg_14_116_36 : zq_at zy_underWay_14_116.2.1 36 180 ∧ zq_at zy_underWay_14_116.2.1 37 0 ∧ zq_at zy_underWay_14_116.2.1 38 57 ∧ zq_at zy_underWay_14_116.2.1 39 21 ∧ zq_at zy_underWay_14_116.2.1 40 4 ∧ zq_at zy_underWay_14_116.2.1 41 46 ∧ zq_at zy_underWay_14_116.2.1 42 28 ∧ zq_at zy_underWay_14_116.2.1 43 163 ∧ zq_at zy_underWay_14_116.2.1 44 0 ∧ zq_at zy_underWay_14_116.2.1 45 19 ∧ zq_at zy_underWay_14_116.2.1 46 28 ∧ zq_at zy_underWay_14_116.2.1 47 42 ∧ zq_at zy_underWay_14_116.2.1 48 180 ∧ zq_at zy_underWay_14_116.2.1 49 0 ∧ zq_at zy_underWay_14_116.2.1 50 60 ∧ zq_at zy_underWay_14_116.2.1 51 21 ∧ zq_at zy_underWay_14_116.2.1 52 4 ∧ zq_at zy_underWay_14_116.2.1 53 46 ∧ zq_at zy_underWay_14_116.2.1 54 162 ∧ zq_at zy_underWay_14_116.2.1 55 0 ∧ zq_at zy_underWay_14_116.2.1 56 8 ∧ zq_at zy_underWay_14_116.2.1 57 21 ∧ zq_at zy_underWay_14_116.2.1 58 4 := by decide +kernel
theorem zd_14_116_36 : zz_D zy_underWay_14_116 36 (.getfield 57) 3 39 := ⟨zq_180 zg_14_116_36.1 zg_14_116_36.2.1 zg_14_116_36.2.2.1 rfl, rfl⟩
theorem zd_14_116_39 : zz_D zy_underWay_14_116 39 (.iload 4) 2 41 := ⟨zq_21 zg_14_116_36.2.2.2.1 zg_14_116_36.2.2.2.2.1, rfl⟩
theorem zd_14_116_41 : zz_D zy_underWay_14_116 41 (.iaload) 1 42 := ⟨zq_46 zg_14_116_36.2.2.2.2.2.1, rfl⟩
theorem zd_14_116_42 : zz_D zy_underWay_14_116 42 (.iload_n 2) 1 43 := ⟨zq_28 zg_14_116_36.2.2.2.2.2.2.1, rfl⟩
theorem zd_14_116_43 : zz_B zy_underWay_14_116 43 (Instr.if_icmp .gt) 62 46 := ⟨19, zq_163 zg_14_116_36.2.2.2.2.2.2.2.1 zg_14_116_36.2.2.2.2.2.2.2.2.1 zg_14_116_36.2.2.2.2.2.2.2.2.2.1 (by decide), rfl, rfl⟩
theorem zd_14_116_46 : zz_D zy_underWay_14_116 46 (.iload_n 2) 1 47 := ⟨zq_28 zg_14_116_36.2.2.2.2.2.2.2.2.2.2.1, rfl⟩
theorem zd_14_116_47 : zz_D zy_underWay_14_116 47 (.aload_n 0) 1 48 := ⟨zq_42 zg_14_116_36.2.2.2.2.2.2.2.2.2.2.2.1, rfl⟩
theorem zd_14_116_48 : zz_D zy_underWay_14_116 48 (.getfield 60) 3 51 := ⟨zq_180 zg_14_116_36.2.2.2.2.2.2.2.2.2.2.2.2.1 zg_14_116_36.2.2.2.2.2.2.2.2.2.2.2.2.2.1 zg_14_116_36.2.2.2.2.2.2.2.2.2.2.2.2.2.2.1 rfl, rfl⟩
theorem zd_14_116_51 : zz_D zy_underWay_14_116 51 (.iload 4) 2 53 := ⟨zq_21 zg_14_116_36.2.2.2.2.2.2.2.2.2.2.2.2.2.2.2.1 zg_14_116_36.2.2.2.2.2.2.2.2.2.2.2.2.2.2.2.2.1, rfl⟩
theorem zd_14_116_53 : zz_D zy_underWay_14_116 53 (.iaload) 1 54 := ⟨zq_46 zg_14_116_36.2.2.2.2.2.2.2.2.2.2.2.2.2.2.2.2.2.1, rfl⟩
theorem zd_14_116_54 : zz_B zy_underWay_14_116 54 (Instr.if_icmp .ge) 62 57 := ⟨8, zq_162 zg_14_116_36.2.2.2.2.2.2.2.2.2.2.2.2.2.2.2.2.2.2.1 zg_14_116_36.2.2.2.2.2.2.2.2.2.2.2.2.2.2.2.2.2.2.2.1 zg_14_116_36.2.2.2.2.2.2.2.2.2.2.2.2.2.2.2.2.2.2.2.2.1 (by decide), rfl, rfl⟩
theorem zd_14_116_57 : zz_D zy_underWay_14_116 57 (.iload 4) 2 59 := ⟨zq_21 zg_14_116_36.2.2.2.2.2.2.2.2.2.2.2.2.2.2.2.2.2.2.2.2.2.1 zg_14_116_36.2.2.2.2.2.2.2.2.2.2.2.2.2.2.2.2.2.2.2.2.2.2, rfl⟩
theorem zg_14_116_59 : zq_at zy_underWay_14_116.2.1 59 167 ∧ zq_at zy_underWay_14_116.2.1 60 0 ∧ zq_at zy_underWay_14_116.2.1 61 4 := by decide +kernel
theorem zd_14_116_59 : zz_B zy_underWay_14_116 59 Instr.goto 63 62 := ⟨4, zq_167 zg_14_116_59.1 zg_14_116_59.2.1 zg_14_116_59.2.2 (by decide), rfl, rfl⟩

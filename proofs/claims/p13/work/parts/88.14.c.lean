-- TensorForge$Layer takes (I)Z
abbrev zr_takes_4_8 : Room := { frames := 0, cells := 0, slots := 0, locals := 0 }
def zp_takes_4_8 (t : Int) (p0 : Int) (S0 : zz_S) : Int → zz_S → Prop := fun r S => S0 = S ∧ (0 ≤ r ∧ r ≤ 1)
theorem zc_takes_4_8 {g : mm_G} {l : Launch} (t : Int) (p0 : Int) (S0 : zz_S) (n : Nat) (hn : zz_end ≤ n) (G_S0 : zz_G S0) (ht : 0 ≤ t ∧ t ≤ 23) (hp0 : (-2147483648) ≤ p0 ∧ p0 ≤ 2147483647) : mm_Met g l zy_takes_4_8 zr_takes_4_8 [.ref (zz_rf 6 t), zi p0] (zz_M S0 n) n (zz_QI n (zp_takes_4_8 t p0 S0)) := by
  refine zz_enter (by decide) (Nat.le_of_ble_eq_true rfl) (zz_less (ls1 := [some (.ref (zz_rf 6 t)), some (zi p0)]) ⟨rfl, ⟨rfl, trivial⟩⟩ ?_)
  have b_t := zz_rf6 (z := t) (by omega)
  refine zz_aload_n (x := zz_rf 6 t) rfl zd_4_8_0 ?_
  have g1 := zz_G.r G_S0 (zz_rf 6 t) 0 (-2147483648) 2147483647 (zR_k6_0 (by omega)) (zB_k6 (by omega))
  refine zz_geti (z := S0 (zz_rf 6 t) 0) zd_4_8_1 zf_Layer_13 (zT_k6 (by omega)) rfl (zN_k6 hn (by omega)) rfl ?_
  refine zz_if_eq (by omega) zd_4_8_4 (fun c2 => ?_) (fun c2 => ?_)
  · refine zz_iconst zd_4_8_27 ?_
    exact zz_zret zd_4_8_28 rfl (by omega) (Nat.zero_le _) (Nat.zero_le _) ⟨_, _, rfl, rfl, by omega⟩
  · refine zz_aload_n (x := zz_rf 6 t) rfl zd_4_8_7 ?_
    have g3 := zz_G.r G_S0 (zz_rf 6 t) 1 (-2147483648) 2147483647 (zR_k6_1 (by omega)) (zB_k6 (by omega))
    refine zz_geti (z := S0 (zz_rf 6 t) 1) zd_4_8_8 zf_Layer_17 (zT_k6 (by omega)) rfl (zN_k6 hn (by omega)) rfl ?_
    refine zz_iload_n (x := p0) rfl zd_4_8_11 ?_
    refine zz_icmp_eq (by omega) (by omega) zd_4_8_12 (fun c4 => ?_) (fun c4 => ?_)
    · refine zz_iconst zd_4_8_23 ?_
      refine zz_goto zd_4_8_24 ?_
      exact zz_zret zd_4_8_28 rfl (by omega) (Nat.zero_le _) (Nat.zero_le _) ⟨_, _, rfl, rfl, by omega⟩
    · refine zz_aload_n (x := zz_rf 6 t) rfl zd_4_8_15 ?_
      have g5 := zz_G.r G_S0 (zz_rf 6 t) 2 (-2147483648) 2147483647 (zR_k6_2 (by omega)) (zB_k6 (by omega))
      refine zz_geti (z := S0 (zz_rf 6 t) 2) zd_4_8_16 zf_Layer_20 (zT_k6 (by omega)) rfl (zN_k6 hn (by omega)) rfl ?_
      refine zz_iload_n (x := p0) rfl zd_4_8_19 ?_
      refine zz_icmp_ne (by omega) (by omega) zd_4_8_20 (fun c6 => ?_) (fun c6 => ?_)
      · refine zz_iconst zd_4_8_27 ?_
        exact zz_zret zd_4_8_28 rfl (by omega) (Nat.zero_le _) (Nat.zero_le _) ⟨_, _, rfl, rfl, by omega⟩
      · refine zz_iconst zd_4_8_23 ?_
        refine zz_goto zd_4_8_24 ?_
        exact zz_zret zd_4_8_28 rfl (by omega) (Nat.zero_le _) (Nat.zero_le _) ⟨_, _, rfl, rfl, by omega⟩
theorem zk_Network_87 : mm_Vl "TensorForge$Network" 87 2 1 zy_takes_4_8 := ⟨zyw_takes_4_8, (R_Layer, F_Layer, 15), rfl, mm_tb_1 1524 (by decide +kernel) rfl, mm_tb_1 1525 (by decide +kernel) rfl, mm_tb_1 1526 (by decide +kernel) rfl⟩
theorem zg_7_13_25 : (decode zy_isNeeded_7_13.2.1 25 = .ok ((Instr.ifCond .eq) 13, 3)) ∧ (decode zy_isNeeded_7_13.2.1 38 = .ok ((.iinc 4 1), 3)) ∧ (decode zy_isNeeded_7_13.2.1 41 = .ok (Instr.goto (-36), 3)) ∧ (decode zy_isNeeded_7_13.2.1 28 = .ok ((.iconst 1), 1)) ∧ (decode zy_isNeeded_7_13.2.1 29 = .ok ((.istore_n 3), 1)) ∧ (decode zy_isNeeded_7_13.2.1 30 = .ok ((.iload 4), 2)) ∧ (decode zy_isNeeded_7_13.2.1 32 = .ok ((.iload_n 2), 1)) ∧ (decode zy_isNeeded_7_13.2.1 33 = .ok ((Instr.if_icmp .lt) 5, 3)) ∧ (decode zy_isNeeded_7_13.2.1 36 = .ok ((.iconst 1), 1)) ∧ (decode zy_isNeeded_7_13.2.1 37 = .ok ((.ireturn), 1)) := by decide +kernel
theorem zd_7_13_25 : zz_B zy_isNeeded_7_13 25 (Instr.ifCond .eq) 38 28 := ⟨13, zg_7_13_25.1, rfl, rfl⟩
theorem zd_7_13_38 : zz_D zy_isNeeded_7_13 38 (.iinc 4 1) 3 41 := ⟨zg_7_13_25.2.1, rfl⟩
theorem zd_7_13_41 : zz_B zy_isNeeded_7_13 41 Instr.goto 5 44 := ⟨(-36), zg_7_13_25.2.2.1, rfl, rfl⟩
theorem zd_7_13_28 : zz_D zy_isNeeded_7_13 28 (.iconst 1) 1 29 := ⟨zg_7_13_25.2.2.2.1, rfl⟩
theorem zd_7_13_29 : zz_D zy_isNeeded_7_13 29 (.istore_n 3) 1 30 := ⟨zg_7_13_25.2.2.2.2.1, rfl⟩
theorem zd_7_13_30 : zz_D zy_isNeeded_7_13 30 (.iload 4) 2 32 := ⟨zg_7_13_25.2.2.2.2.2.1, rfl⟩
theorem zd_7_13_32 : zz_D zy_isNeeded_7_13 32 (.iload_n 2) 1 33 := ⟨zg_7_13_25.2.2.2.2.2.2.1, rfl⟩
theorem zd_7_13_33 : zz_B zy_isNeeded_7_13 33 (Instr.if_icmp .lt) 38 36 := ⟨5, zg_7_13_25.2.2.2.2.2.2.2.1, rfl, rfl⟩
theorem zd_7_13_36 : zz_D zy_isNeeded_7_13 36 (.iconst 1) 1 37 := ⟨zg_7_13_25.2.2.2.2.2.2.2.2.1, rfl⟩
theorem zd_7_13_37 : zz_D zy_isNeeded_7_13 37 (.ireturn) 1 38 := ⟨zg_7_13_25.2.2.2.2.2.2.2.2.2, rfl⟩
theorem zd_7_13_52 : zz_D zy_isNeeded_7_13 52 (.iconst 0) 1 53 := ⟨by decide +kernel, rfl⟩
-- TensorForge$Network isNeeded (II)Z
abbrev zr_isNeeded_7_13 : Room := { frames := 1, cells := 0, slots := 0, locals := 13 }
def zp_isNeeded_7_13 (t : Int) (p0 : Int) (p1 : Int) (S0 : zz_S) : Int → zz_S → Prop := fun r S => S0 = S ∧ (0 ≤ r ∧ r ≤ 1)
theorem zb_isNeeded_7_13_5 {g : mm_G} {l : Launch} (t : Int) (p0 : Int) (p1 : Int) (S0 : zz_S) (n : Nat) (hn : zz_end ≤ n) (G_S0 : zz_G S0) (ht : 0 ≤ t ∧ t ≤ 1) (hp0 : (-2147483648) ≤ p0 ∧ p0 ≤ 2147483647) (hp1 : (-2147483648) ≤ p1 ∧ p1 ≤ 2147483647) (x3 : Int) (x4 : Int) (S : zz_S) (G_S : zz_G S) (F_S : zz_fr [] [] (fun _ _ => False) S0 S) (i5_0 : 0 ≤ x3 ∧ x3 ≤ 1) (i5_1 : 1 ≤ x4 ∧ x4 ≤ 11) (R : Nat) (hR : (S (zz_rf 3 t) 1 - x4).toNat = R) (k5 : ∀ (x3 : Int) (x4 : Int) (S : zz_S), zz_G S → zz_fr [] [] (fun _ _ => False) S0 S → (0 ≤ x3 ∧ x3 ≤ 1) → (1 ≤ x4 ∧ x4 ≤ 11) → (S (zz_rf 3 t) 1 - x4).toNat < R → zz_E g l zy_isNeeded_7_13 zr_isNeeded_7_13 (zz_QI n (zp_isNeeded_7_13 t p0 p1 S0)) S n 5 [some (.ref (zz_rf 3 t)), some (zi p0), some (zi p1), some (zi x3), some (zi x4)] [] 0 0) : zz_E g l zy_isNeeded_7_13 zr_isNeeded_7_13 (zz_QI n (zp_isNeeded_7_13 t p0 p1 S0)) S n 5 [some (.ref (zz_rf 3 t)), some (zi p0), some (zi p1), some (zi x3), some (zi x4)] [] 0 0 := by
  have b_t := zz_rf3 (z := t) (by omega)
  refine zz_iload (x := x4) rfl zd_7_13_5 ?_
  refine zz_aload_n (x := zz_rf 3 t) rfl zd_7_13_7 ?_
  have g1 := zz_G.r G_S0 (zz_rf 3 t) 1 1 11 (zR_k3_1 (by omega)) (zB_k3 (by omega))
  refine zz_geti (z := S0 (zz_rf 3 t) 1) zd_7_13_8 zf_Network_16 (zT_k3 (by omega)) rfl (zN_k3 hn (by omega)) (zz_rc F_S (zP_k3 (by omega) rfl) (zQ_k3 (by omega) rfl) (fun h => h) rfl) ?_
  refine zz_icmp_ge (by omega) (by omega) zd_7_13_11 (fun c2 => ?_) (fun c2 => ?_)
  · refine zz_iload_n (x := x3) rfl zd_7_13_44 ?_
    refine zz_if_ne (by omega) zd_7_13_45 (fun c3 => ?_) (fun c3 => ?_)
    · refine zz_iconst zd_7_13_52 ?_
      exact zz_zret zd_7_13_53 rfl (by omega) (Nat.zero_le _) (Nat.zero_le _) ⟨_, _, rfl, zz_fr.eq F_S, by omega⟩
    · refine zz_iconst zd_7_13_48 ?_
      refine zz_goto zd_7_13_49 ?_
      exact zz_zret zd_7_13_53 rfl (by omega) (Nat.zero_le _) (Nat.zero_le _) ⟨_, _, rfl, zz_fr.eq F_S, by omega⟩
  · refine zz_aload_n (x := zz_rf 3 t) rfl zd_7_13_14 ?_
    refine zz_getr (kd := 0) (z := ((zz_rf 3 t + 1 : Nat) : Int)) zd_7_13_15 zf_Network_11 (zT_k3 (by omega)) rfl (zN_k3 hn (by omega)) (zE_k3a G_S (by omega)) (Int.natCast_nonneg _) (zz_rf 3 t + 1) (Int.toNat_natCast _) ?_
    refine zz_iload (x := x4) rfl zd_7_13_18 ?_
    refine zz_aald (kd := 4) (z := 12 * t + x4) zd_7_13_20 (zT_k3a (by omega)) rfl (zN_k3a hn (by omega)) (by decide) (by omega) (zE_lay G_S (by omega) (by omega)) (by omega) (zz_rf 6 (12 * t + x4)) rfl ?_
    refine zz_iload_n (x := p0) rfl zd_7_13_21 ?_
    refine zz_callVI [zi p0] zd_7_13_22 zk_Network_87 (zT_k6 (by omega)) (zN_k6 hn (by omega)) rfl rfl ⟨Nat.le_of_ble_eq_true rfl, Nat.le_of_ble_eq_true rfl⟩ ⟨rfl, rfl⟩ (Nat.zero_le _) (Nat.zero_le _) (zc_takes_4_8 (12 * t + x4) p0 S n hn G_S (by omega) (by omega)) (fun v5 S4 hP => ?_)
    obtain ⟨rfl, o6⟩ := hP
    rcases (by omega : v5 = 0 ∨ v5 = 1) with rfl | rfl
    · refine zz_if_eq (by omega) zd_7_13_25 (fun c7 => ?_) (fun c7 => ?_)
      · refine zz_iinc [some (.ref (zz_rf 3 t)), some (zi p0), some (zi p1), some (zi x3), some (zi (x4 + 1))] zd_7_13_38 rfl rfl ?_
        refine zz_goto zd_7_13_41 ?_
        have e8 : S (zz_rf 3 t) 1 = S0 (zz_rf 3 t) 1 := (zz_rc F_S (zP_k3 (by omega) rfl) (zQ_k3 (by omega) rfl) (fun h => h) rfl)
        refine zz_less (ls1 := [some (.ref (zz_rf 3 t)), some (zi p0), some (zi p1), some (zi x3), some (zi (x4 + 1))]) ⟨rfl, ⟨rfl, ⟨rfl, ⟨rfl, ⟨rfl, trivial⟩⟩⟩⟩⟩ ?_
        exact k5 x3 (x4 + 1) S G_S F_S (by omega) (by omega) (by omega)
      · exfalso; omega
    · refine zz_if_eq (by omega) zd_7_13_25 (fun c9 => ?_) (fun c9 => ?_)
      · exfalso; omega
      · refine zz_iconst zd_7_13_28 ?_
        refine zz_istore_n [some (.ref (zz_rf 3 t)), some (zi p0), some (zi p1), some (zi 1), some (zi x4)] zd_7_13_29 (by decide) rfl ?_
        refine zz_iload (x := x4) rfl zd_7_13_30 ?_
        refine zz_iload_n (x := p1) rfl zd_7_13_32 ?_
        refine zz_icmp_lt (by omega) (by omega) zd_7_13_33 (fun c10 => ?_) (fun c10 => ?_)
        · refine zz_iinc [some (.ref (zz_rf 3 t)), some (zi p0), some (zi p1), some (zi 1), some (zi (x4 + 1))] zd_7_13_38 rfl rfl ?_
          refine zz_goto zd_7_13_41 ?_
          have e11 : S (zz_rf 3 t) 1 = S0 (zz_rf 3 t) 1 := (zz_rc F_S (zP_k3 (by omega) rfl) (zQ_k3 (by omega) rfl) (fun h => h) rfl)
          refine zz_less (ls1 := [some (.ref (zz_rf 3 t)), some (zi p0), some (zi p1), some (zi 1), some (zi (x4 + 1))]) ⟨rfl, ⟨rfl, ⟨rfl, ⟨rfl, ⟨rfl, trivial⟩⟩⟩⟩⟩ ?_
          exact k5 1 (x4 + 1) S G_S F_S (by omega) (by omega) (by omega)
        · refine zz_iconst zd_7_13_36 ?_
          exact zz_zret zd_7_13_37 rfl (by omega) (Nat.zero_le _) (Nat.zero_le _) ⟨_, _, rfl, zz_fr.eq F_S, by omega⟩
theorem zi_isNeeded_7_13 {g : mm_G} {l : Launch} (t : Int) (p0 : Int) (p1 : Int) (S0 : zz_S) (n : Nat) (hn : zz_end ≤ n) (G_S0 : zz_G S0) (ht : 0 ≤ t ∧ t ≤ 1) (hp0 : (-2147483648) ≤ p0 ∧ p0 ≤ 2147483647) (hp1 : (-2147483648) ≤ p1 ∧ p1 ≤ 2147483647) : ∀ N : Nat, (∀ (x3 : Int) (x4 : Int) (S : zz_S), zz_G S → zz_fr [] [] (fun _ _ => False) S0 S → (0 ≤ x3 ∧ x3 ≤ 1) → (1 ≤ x4 ∧ x4 ≤ 11) → (S (zz_rf 3 t) 1 - x4).toNat < N → zz_E g l zy_isNeeded_7_13 zr_isNeeded_7_13 (zz_QI n (zp_isNeeded_7_13 t p0 p1 S0)) S n 5 [some (.ref (zz_rf 3 t)), some (zi p0), some (zi p1), some (zi x3), some (zi x4)] [] 0 0) := by
  intro N
  induction N with
  | zero => exact fun x3 x4 S _ _ _ _ h => absurd h (Nat.not_lt_zero _)
  | succ N ih =>
    exact fun x3 x4 S a b j0 j1 hR => zb_isNeeded_7_13_5 t p0 p1 S0 n hn G_S0 ht hp0 hp1 x3 x4 S a b j0 j1 _ rfl (fun x3 x4 S a b j0 j1 h => ih x3 x4 S a b j0 j1 (Nat.lt_of_lt_of_le h (Nat.le_of_lt_succ hR)))
theorem zc_isNeeded_7_13 {g : mm_G} {l : Launch} (t : Int) (p0 : Int) (p1 : Int) (S0 : zz_S) (n : Nat) (hn : zz_end ≤ n) (G_S0 : zz_G S0) (ht : 0 ≤ t ∧ t ≤ 1) (hp0 : (-2147483648) ≤ p0 ∧ p0 ≤ 2147483647) (hp1 : (-2147483648) ≤ p1 ∧ p1 ≤ 2147483647) : mm_Met g l zy_isNeeded_7_13 zr_isNeeded_7_13 [.ref (zz_rf 3 t), zi p0, zi p1] (zz_M S0 n) n (zz_QI n (zp_isNeeded_7_13 t p0 p1 S0)) := by
  refine zz_enter (by decide) (Nat.le_of_ble_eq_true rfl) (zz_less (ls1 := [some (.ref (zz_rf 3 t)), some (zi p0), some (zi p1)]) ⟨rfl, ⟨rfl, ⟨rfl, trivial⟩⟩⟩ ?_)
  have F_S0 : zz_fr [] [] (fun _ _ => False) S0 S0 := zz_fr.refl
  have k5 : ∀ (x3 : Int) (x4 : Int) (S : zz_S), zz_G S → zz_fr [] [] (fun _ _ => False) S0 S → (0 ≤ x3 ∧ x3 ≤ 1) → (1 ≤ x4 ∧ x4 ≤ 11) → zz_E g l zy_isNeeded_7_13 zr_isNeeded_7_13 (zz_QI n (zp_isNeeded_7_13 t p0 p1 S0)) S n 5 [some (.ref (zz_rf 3 t)), some (zi p0), some (zi p1), some (zi x3), some (zi x4)] [] 0 0 := fun x3 x4 S a b j0 j1 => (zi_isNeeded_7_13 (g := g) (l := l) t p0 p1 S0 n hn G_S0 ht hp0 hp1 _) x3 x4 S a b j0 j1 (Nat.lt_succ_self _)
  have b_t := zz_rf3 (z := t) (by omega)
  refine zz_iconst zd_7_13_0 ?_
  refine zz_istore_n [some (.ref (zz_rf 3 t)), some (zi p0), some (zi p1), some (zi 0)] zd_7_13_1 (by decide) rfl ?_
  refine zz_iconst zd_7_13_2 ?_
  refine zz_istore [some (.ref (zz_rf 3 t)), some (zi p0), some (zi p1), some (zi 0), some (zi 1)] zd_7_13_3 (by decide) rfl ?_
  refine zz_less (ls1 := [some (.ref (zz_rf 3 t)), some (zi p0), some (zi p1), some (zi 0), some (zi 1)]) ⟨rfl, ⟨rfl, ⟨rfl, ⟨rfl, ⟨rfl, trivial⟩⟩⟩⟩⟩ ?_
  exact k5 0 1 S0 G_S0 F_S0 (by omega) (by omega)
theorem zk_Network_83 : mm_Vl "TensorForge$Network" 83 1 2 zy_isNeeded_7_13 := ⟨zyw_isNeeded_7_13, (R_Network, F_Network, 2), rfl, mm_tb_1 1520 (by decide +kernel) rfl, mm_tb_1 1522 (by decide +kernel) rfl, mm_tb_s 78 (by decide +kernel) rfl⟩
theorem zg_7_12_82 : (decode zy_leastSpot_7_12.2.1 82 = .ok ((Instr.ifCond .eq) 6, 3)) ∧ (decode zy_leastSpot_7_12.2.1 85 = .ok ((.iload 6), 2)) ∧ (decode zy_leastSpot_7_12.2.1 87 = .ok ((.istore_n 2), 1)) ∧ (decode zy_leastSpot_7_12.2.1 94 = .ok ((.iinc 4 1), 3)) ∧ (decode zy_leastSpot_7_12.2.1 97 = .ok (Instr.goto (-82), 3)) := by decide +kernel
theorem zd_7_12_82 : zz_B zy_leastSpot_7_12 82 (Instr.ifCond .eq) 88 85 := ⟨6, zg_7_12_82.1, rfl, rfl⟩
theorem zd_7_12_85 : zz_D zy_leastSpot_7_12 85 (.iload 6) 2 87 := ⟨zg_7_12_82.2.1, rfl⟩
theorem zd_7_12_87 : zz_D zy_leastSpot_7_12 87 (.istore_n 2) 1 88 := ⟨zg_7_12_82.2.2.1, rfl⟩
theorem zd_7_12_94 : zz_D zy_leastSpot_7_12 94 (.iinc 4 1) 3 97 := ⟨zg_7_12_82.2.2.2.1, rfl⟩
theorem zd_7_12_97 : zz_B zy_leastSpot_7_12 97 Instr.goto 15 100 := ⟨(-82), zg_7_12_82.2.2.2.2, rfl, rfl⟩
-- TensorForge$Network leastSpot (I)I
abbrev zr_leastSpot_7_12 : Room := { frames := 2, cells := 0, slots := 0, locals := 29 }
def zp_leastSpot_7_12 (t : Int) (p0 : Int) (S0 : zz_S) : Int → zz_S → Prop := fun r S => S0 = S ∧ ((-2147483648) ≤ r ∧ r ≤ 2147483647)
theorem zb_leastSpot_7_12_15 {g : mm_G} {l : Launch} (t : Int) (p0 : Int) (S0 : zz_S) (n : Nat) (hn : zz_end ≤ n) (G_S0 : zz_G S0) (ht : 0 ≤ t ∧ t ≤ 1) (hp0 : 0 ≤ p0 ∧ p0 ≤ 11) (x2 : Int) (x3 : Int) (x4 : Int) (S : zz_S) (G_S : zz_G S) (F_S : zz_fr [] [] (fun _ _ => False) S0 S) (i15_0 : 0 ≤ x2 ∧ x2 ≤ 2147483647) (i15_1 : (-2147483648) ≤ x3 ∧ x3 ≤ 2147483647) (i15_2 : 0 ≤ x4 ∧ x4 ≤ 13) (R : Nat) (hR : (34359738368 + (p0 - x4).toNat) * 1099511627776 + 1099511627775 = R) (k24 : ∀ (x2 : Int) (x3 : Int) (x4 : Int) (x5 : Int) (S : zz_S), zz_G S → zz_fr [] [] (fun _ _ => False) S0 S → (0 ≤ x2 ∧ x2 ≤ 2147483647) → ((-2147483648) ≤ x3 ∧ x3 ≤ 2147483647) → (0 ≤ x4 ∧ x4 ≤ 12) → (0 ≤ x5 ∧ x5 ≤ 11) → (0 ≤ x4 ∧ x4 ≤ 13) → (x4 < p0) → (1 ≤ p0 ∧ p0 ≤ 11) → (34359738368 + (p0 - x4).toNat) * 1099511627776 + (17179869184 + (p0 - x5).toNat) < R → zz_E g l zy_leastSpot_7_12 zr_leastSpot_7_12 (zz_QI n (zp_leastSpot_7_12 t p0 S0)) S n 24 [some (.ref (zz_rf 3 t)), some (zi p0), some (zi x2), some (zi x3), some (zi x4), some (zi x5)] [] 0 0) : zz_E g l zy_leastSpot_7_12 zr_leastSpot_7_12 (zz_QI n (zp_leastSpot_7_12 t p0 S0)) S n 15 [some (.ref (zz_rf 3 t)), some (zi p0), some (zi x2), some (zi x3), some (zi x4)] [] 0 0 := by
  have b_t := zz_rf3 (z := t) (by omega)
  refine zz_iload (x := x4) rfl zd_7_12_15 ?_
  refine zz_iload_n (x := p0) rfl zd_7_12_17 ?_
  refine zz_icmp_ge (by omega) (by omega) zd_7_12_18 (fun c4 => ?_) (fun c4 => ?_)
  · refine zz_iload_n (x := x2) rfl zd_7_12_100 ?_
    exact zz_iret zd_7_12_101 rfl (Nat.zero_le _) (Nat.zero_le _) ⟨_, _, rfl, zz_fr.eq F_S, by omega⟩
  · refine zz_iconst zd_7_12_21 ?_
    refine zz_istore [some (.ref (zz_rf 3 t)), some (zi p0), some (zi x2), some (zi x3), some (zi x4), some (zi 0)] zd_7_12_22 (by decide) rfl ?_
    refine zz_less (ls1 := [some (.ref (zz_rf 3 t)), some (zi p0), some (zi x2), some (zi x3), some (zi x4), some (zi 0)]) ⟨rfl, ⟨rfl, ⟨rfl, ⟨rfl, ⟨rfl, ⟨rfl, trivial⟩⟩⟩⟩⟩⟩ ?_
    exact k24 x2 x3 x4 0 S G_S F_S (by omega) (by omega) (by omega) (by omega) (by omega) (by omega) (by omega) (by omega)
theorem zb_leastSpot_7_12_24 {g : mm_G} {l : Launch} (t : Int) (p0 : Int) (S0 : zz_S) (n : Nat) (hn : zz_end ≤ n) (G_S0 : zz_G S0) (ht : 0 ≤ t ∧ t ≤ 1) (hp0 : 0 ≤ p0 ∧ p0 ≤ 11) (x2 : Int) (x3 : Int) (x4 : Int) (x5 : Int) (S : zz_S) (G_S : zz_G S) (F_S : zz_fr [] [] (fun _ _ => False) S0 S) (i24_0 : 0 ≤ x2 ∧ x2 ≤ 2147483647) (i24_1 : (-2147483648) ≤ x3 ∧ x3 ≤ 2147483647) (i24_2 : 0 ≤ x4 ∧ x4 ≤ 12) (i24_3 : 0 ≤ x5 ∧ x5 ≤ 11) (i24_4 : 0 ≤ x4 ∧ x4 ≤ 13) (i24_5 : x4 < p0) (i24_6 : 1 ≤ p0 ∧ p0 ≤ 11) (R : Nat) (hR : (34359738368 + (p0 - x4).toNat) * 1099511627776 + (17179869184 + (p0 - x5).toNat) = R) (k15 : ∀ (x2 : Int) (x3 : Int) (x4 : Int) (S : zz_S), zz_G S → zz_fr [] [] (fun _ _ => False) S0 S → (0 ≤ x2 ∧ x2 ≤ 2147483647) → ((-2147483648) ≤ x3 ∧ x3 ≤ 2147483647) → (0 ≤ x4 ∧ x4 ≤ 13) → (34359738368 + (p0 - x4).toNat) * 1099511627776 + 1099511627775 < R → zz_E g l zy_leastSpot_7_12 zr_leastSpot_7_12 (zz_QI n (zp_leastSpot_7_12 t p0 S0)) S n 15 [some (.ref (zz_rf 3 t)), some (zi p0), some (zi x2), some (zi x3), some (zi x4)] [] 0 0) (k24 : ∀ (x2 : Int) (x3 : Int) (x4 : Int) (x5 : Int) (S : zz_S), zz_G S → zz_fr [] [] (fun _ _ => False) S0 S → (0 ≤ x2 ∧ x2 ≤ 2147483647) → ((-2147483648) ≤ x3 ∧ x3 ≤ 2147483647) → (0 ≤ x4 ∧ x4 ≤ 12) → (0 ≤ x5 ∧ x5 ≤ 11) → (0 ≤ x4 ∧ x4 ≤ 13) → (x4 < p0) → (1 ≤ p0 ∧ p0 ≤ 11) → (34359738368 + (p0 - x4).toNat) * 1099511627776 + (17179869184 + (p0 - x5).toNat) < R → zz_E g l zy_leastSpot_7_12 zr_leastSpot_7_12 (zz_QI n (zp_leastSpot_7_12 t p0 S0)) S n 24 [some (.ref (zz_rf 3 t)), some (zi p0), some (zi x2), some (zi x3), some (zi x4), some (zi x5)] [] 0 0) : zz_E g l zy_leastSpot_7_12 zr_leastSpot_7_12 (zz_QI n (zp_leastSpot_7_12 t p0 S0)) S n 24 [some (.ref (zz_rf 3 t)), some (zi p0), some (zi x2), some (zi x3), some (zi x4), some (zi x5)] [] 0 0 := by
  have b_t := zz_rf3 (z := t) (by omega)
  refine zz_iload (x := x5) rfl zd_7_12_24 ?_
  refine zz_iload_n (x := p0) rfl zd_7_12_26 ?_
  refine zz_icmp_ge (by omega) (by omega) zd_7_12_27 (fun c5 => ?_) (fun c5 => ?_)
  · refine zz_iinc [some (.ref (zz_rf 3 t)), some (zi p0), some (zi x2), some (zi x3), some (zi (x4 + 1)), some (zi x5)] zd_7_12_94 rfl rfl ?_
    refine zz_goto zd_7_12_97 ?_
    refine zz_less (ls1 := [some (.ref (zz_rf 3 t)), some (zi p0), some (zi x2), some (zi x3), some (zi (x4 + 1))]) ⟨rfl, ⟨rfl, ⟨rfl, ⟨rfl, ⟨rfl, trivial⟩⟩⟩⟩⟩ ?_
    exact k15 x2 x3 (x4 + 1) S G_S F_S (by omega) (by omega) (by omega) (by omega)
  · refine zz_aload_n (x := zz_rf 3 t) rfl zd_7_12_30 ?_
    refine zz_getr (kd := 0) (z := ((zz_rf 3 t + 1 : Nat) : Int)) zd_7_12_31 zf_Network_11 (zT_k3 (by omega)) rfl (zN_k3 hn (by omega)) (zE_k3a G_S (by omega)) (Int.natCast_nonneg _) (zz_rf 3 t + 1) (Int.toNat_natCast _) ?_
    refine zz_iload (x := x5) rfl zd_7_12_34 ?_
    refine zz_aald (kd := 4) (z := 12 * t + x5) zd_7_12_36 (zT_k3a (by omega)) rfl (zN_k3a hn (by omega)) (by decide) (by omega) (zE_lay G_S (by omega) (by omega)) (by omega) (zz_rf 6 (12 * t + x5)) rfl ?_
    have g6 := zz_G.r G_S0 (zz_rf 6 (12 * t + x5)) 14 (-2147483648) 2147483647 (zR_k6_14 (by omega)) (zB_k6 (by omega))
    refine zz_geti (z := S0 (zz_rf 6 (12 * t + x5)) 14) zd_7_12_37 zf_Network_76 (zT_k6 (by omega)) rfl (zN_k6 hn (by omega)) (zz_rc F_S (zP_k6 (by omega) rfl) (zQ_k6 (by omega) rfl) (fun h => h) rfl) ?_
    refine zz_aload_n (x := zz_rf 3 t) rfl zd_7_12_40 ?_
    refine zz_getr (kd := 0) (z := ((zz_rf 3 t + 1 : Nat) : Int)) zd_7_12_41 zf_Network_11 (zT_k3 (by omega)) rfl (zN_k3 hn (by omega)) (zE_k3a G_S (by omega)) (Int.natCast_nonneg _) (zz_rf 3 t + 1) (Int.toNat_natCast _) ?_
    refine zz_iload (x := x5) rfl zd_7_12_44 ?_
    refine zz_aald (kd := 4) (z := 12 * t + x5) zd_7_12_46 (zT_k3a (by omega)) rfl (zN_k3a hn (by omega)) (by decide) (by omega) (zE_lay G_S (by omega) (by omega)) (by omega) (zz_rf 6 (12 * t + x5)) rfl ?_
    refine zz_callVI [] zd_7_12_47 zk_Network_60 (zT_k6 (by omega)) (zN_k6 hn (by omega)) rfl rfl ⟨Nat.le_of_ble_eq_true rfl, Nat.le_of_ble_eq_true rfl⟩ ⟨rfl, rfl⟩ (Nat.zero_le _) (Nat.zero_le _) (zc_size_4_7 (12 * t + x5) S n hn G_S (by omega)) (fun v8 S7 hP => ?_)
    obtain ⟨rfl, o9⟩ := hP
    refine zz_iadd zd_7_12_50 ?_
    refine zz_nrm (fun v10 hv10 ev10 => ?_)
    refine zz_istore [some (.ref (zz_rf 3 t)), some (zi p0), some (zi x2), some (zi x3), some (zi x4), some (zi x5), some (zi v10)] zd_7_12_51 (by decide) rfl ?_
    refine zz_iload_n (x := x2) rfl zd_7_12_53 ?_
    refine zz_iload (x := v10) rfl zd_7_12_54 ?_
    refine zz_icmp_ge (by omega) (by omega) zd_7_12_56 (fun c11 => ?_) (fun c11 => ?_)
    · refine zz_iinc [some (.ref (zz_rf 3 t)), some (zi p0), some (zi x2), some (zi x3), some (zi x4), some (zi (x5 + 1)), some (zi v10)] zd_7_12_88 rfl rfl ?_
      refine zz_goto zd_7_12_91 ?_
      refine zz_less (ls1 := [some (.ref (zz_rf 3 t)), some (zi p0), some (zi x2), some (zi x3), some (zi x4), some (zi (x5 + 1))]) ⟨rfl, ⟨rfl, ⟨rfl, ⟨rfl, ⟨rfl, ⟨rfl, trivial⟩⟩⟩⟩⟩⟩ ?_
      exact k24 x2 x3 x4 (x5 + 1) S G_S F_S (by omega) (by omega) (by omega) (by omega) (by omega) (by omega) (by omega) (by omega)
    · refine zz_aload_n (x := zz_rf 3 t) rfl zd_7_12_59 ?_
      refine zz_getr (kd := 0) (z := ((zz_rf 3 t + 1 : Nat) : Int)) zd_7_12_60 zf_Network_11 (zT_k3 (by omega)) rfl (zN_k3 hn (by omega)) (zE_k3a G_S (by omega)) (Int.natCast_nonneg _) (zz_rf 3 t + 1) (Int.toNat_natCast _) ?_
      refine zz_iload (x := x5) rfl zd_7_12_63 ?_
      refine zz_aald (kd := 4) (z := 12 * t + x5) zd_7_12_65 (zT_k3a (by omega)) rfl (zN_k3a hn (by omega)) (by decide) (by omega) (zE_lay G_S (by omega) (by omega)) (by omega) (zz_rf 6 (12 * t + x5)) rfl ?_
      refine zz_geti (z := S0 (zz_rf 6 (12 * t + x5)) 14) zd_7_12_66 zf_Network_76 (zT_k6 (by omega)) rfl (zN_k6 hn (by omega)) (zz_rc F_S (zP_k6 (by omega) rfl) (zQ_k6 (by omega) rfl) (fun h => h) rfl) ?_
      refine zz_iload_n (x := x2) rfl zd_7_12_69 ?_
      refine zz_iload_n (x := x3) rfl zd_7_12_70 ?_
      refine zz_iadd zd_7_12_71 ?_
      refine zz_nrm (fun v12 hv12 ev12 => ?_)
      refine zz_icmp_ge (by omega) (by omega) zd_7_12_72 (fun c13 => ?_) (fun c13 => ?_)
      · refine zz_iinc [some (.ref (zz_rf 3 t)), some (zi p0), some (zi x2), some (zi x3), some (zi x4), some (zi (x5 + 1)), some (zi v10)] zd_7_12_88 rfl rfl ?_
        refine zz_goto zd_7_12_91 ?_
        refine zz_less (ls1 := [some (.ref (zz_rf 3 t)), some (zi p0), some (zi x2), some (zi x3), some (zi x4), some (zi (x5 + 1))]) ⟨rfl, ⟨rfl, ⟨rfl, ⟨rfl, ⟨rfl, ⟨rfl, trivial⟩⟩⟩⟩⟩⟩ ?_
        exact k24 x2 x3 x4 (x5 + 1) S G_S F_S (by omega) (by omega) (by omega) (by omega) (by omega) (by omega) (by omega) (by omega)
      · refine zz_aload_n (x := zz_rf 3 t) rfl zd_7_12_75 ?_
        refine zz_iload (x := x5) rfl zd_7_12_76 ?_
        refine zz_iload_n (x := p0) rfl zd_7_12_78 ?_
        refine zz_callVI [zi x5, zi p0] zd_7_12_79 zk_Network_83 (zT_k3 (by omega)) (zN_k3 hn (by omega)) rfl rfl ⟨Nat.le_of_ble_eq_true rfl, Nat.le_of_ble_eq_true rfl⟩ ⟨rfl, rfl⟩ (Nat.zero_le _) (Nat.zero_le _) (zc_isNeeded_7_13 t x5 p0 S n hn G_S (by omega) (by omega) (by omega)) (fun v15 S14 hP => ?_)
        obtain ⟨rfl, o16⟩ := hP
        rcases (by omega : v15 = 0 ∨ v15 = 1) with rfl | rfl
        · refine zz_if_eq (by omega) zd_7_12_82 (fun c17 => ?_) (fun c17 => ?_)
          · refine zz_iinc [some (.ref (zz_rf 3 t)), some (zi p0), some (zi x2), some (zi x3), some (zi x4), some (zi (x5 + 1)), some (zi v10)] zd_7_12_88 rfl rfl ?_
            refine zz_goto zd_7_12_91 ?_
            refine zz_less (ls1 := [some (.ref (zz_rf 3 t)), some (zi p0), some (zi x2), some (zi x3), some (zi x4), some (zi (x5 + 1))]) ⟨rfl, ⟨rfl, ⟨rfl, ⟨rfl, ⟨rfl, ⟨rfl, trivial⟩⟩⟩⟩⟩⟩ ?_
            exact k24 x2 x3 x4 (x5 + 1) S G_S F_S (by omega) (by omega) (by omega) (by omega) (by omega) (by omega) (by omega) (by omega)
          · exfalso; omega
        · refine zz_if_eq (by omega) zd_7_12_82 (fun c18 => ?_) (fun c18 => ?_)
          · exfalso; omega
          · refine zz_iload (x := v10) rfl zd_7_12_85 ?_
            refine zz_istore_n [some (.ref (zz_rf 3 t)), some (zi p0), some (zi v10), some (zi x3), some (zi x4), some (zi x5), some (zi v10)] zd_7_12_87 (by decide) rfl ?_
            refine zz_iinc [some (.ref (zz_rf 3 t)), some (zi p0), some (zi v10), some (zi x3), some (zi x4), some (zi (x5 + 1)), some (zi v10)] zd_7_12_88 rfl rfl ?_
            refine zz_goto zd_7_12_91 ?_
            refine zz_less (ls1 := [some (.ref (zz_rf 3 t)), some (zi p0), some (zi v10), some (zi x3), some (zi x4), some (zi (x5 + 1))]) ⟨rfl, ⟨rfl, ⟨rfl, ⟨rfl, ⟨rfl, ⟨rfl, trivial⟩⟩⟩⟩⟩⟩ ?_
            exact k24 v10 x3 x4 (x5 + 1) S G_S F_S (by omega) (by omega) (by omega) (by omega) (by omega) (by omega) (by omega) (by omega)
theorem zi_leastSpot_7_12 {g : mm_G} {l : Launch} (t : Int) (p0 : Int) (S0 : zz_S) (n : Nat) (hn : zz_end ≤ n) (G_S0 : zz_G S0) (ht : 0 ≤ t ∧ t ≤ 1) (hp0 : 0 ≤ p0 ∧ p0 ≤ 11) : ∀ N : Nat, (∀ (x2 : Int) (x3 : Int) (x4 : Int) (S : zz_S), zz_G S → zz_fr [] [] (fun _ _ => False) S0 S → (0 ≤ x2 ∧ x2 ≤ 2147483647) → ((-2147483648) ≤ x3 ∧ x3 ≤ 2147483647) → (0 ≤ x4 ∧ x4 ≤ 13) → (34359738368 + (p0 - x4).toNat) * 1099511627776 + 1099511627775 < N → zz_E g l zy_leastSpot_7_12 zr_leastSpot_7_12 (zz_QI n (zp_leastSpot_7_12 t p0 S0)) S n 15 [some (.ref (zz_rf 3 t)), some (zi p0), some (zi x2), some (zi x3), some (zi x4)] [] 0 0) ∧ (∀ (x2 : Int) (x3 : Int) (x4 : Int) (x5 : Int) (S : zz_S), zz_G S → zz_fr [] [] (fun _ _ => False) S0 S → (0 ≤ x2 ∧ x2 ≤ 2147483647) → ((-2147483648) ≤ x3 ∧ x3 ≤ 2147483647) → (0 ≤ x4 ∧ x4 ≤ 12) → (0 ≤ x5 ∧ x5 ≤ 11) → (0 ≤ x4 ∧ x4 ≤ 13) → (x4 < p0) → (1 ≤ p0 ∧ p0 ≤ 11) → (34359738368 + (p0 - x4).toNat) * 1099511627776 + (17179869184 + (p0 - x5).toNat) < N → zz_E g l zy_leastSpot_7_12 zr_leastSpot_7_12 (zz_QI n (zp_leastSpot_7_12 t p0 S0)) S n 24 [some (.ref (zz_rf 3 t)), some (zi p0), some (zi x2), some (zi x3), some (zi x4), some (zi x5)] [] 0 0) := by
  intro N
  induction N with
  | zero => exact ⟨fun x2 x3 x4 S _ _ _ _ _ h => absurd h (Nat.not_lt_zero _), fun x2 x3 x4 x5 S _ _ _ _ _ _ _ _ _ h => absurd h (Nat.not_lt_zero _)⟩
  | succ N ih =>
    exact ⟨fun x2 x3 x4 S a b j0 j1 j2 hR => zb_leastSpot_7_12_15 t p0 S0 n hn G_S0 ht hp0 x2 x3 x4 S a b j0 j1 j2 _ rfl (fun x2 x3 x4 x5 S a b j0 j1 j2 j3 j4 j5 j6 h => ih.2 x2 x3 x4 x5 S a b j0 j1 j2 j3 j4 j5 j6 (Nat.lt_of_lt_of_le h (Nat.le_of_lt_succ hR))),
      fun x2 x3 x4 x5 S a b j0 j1 j2 j3 j4 j5 j6 hR => zb_leastSpot_7_12_24 t p0 S0 n hn G_S0 ht hp0 x2 x3 x4 x5 S a b j0 j1 j2 j3 j4 j5 j6 _ rfl (fun x2 x3 x4 S a b j0 j1 j2 h => ih.1 x2 x3 x4 S a b j0 j1 j2 (Nat.lt_of_lt_of_le h (Nat.le_of_lt_succ hR))) (fun x2 x3 x4 x5 S a b j0 j1 j2 j3 j4 j5 j6 h => ih.2 x2 x3 x4 x5 S a b j0 j1 j2 j3 j4 j5 j6 (Nat.lt_of_lt_of_le h (Nat.le_of_lt_succ hR)))⟩
theorem zc_leastSpot_7_12 {g : mm_G} {l : Launch} (t : Int) (p0 : Int) (S0 : zz_S) (n : Nat) (hn : zz_end ≤ n) (G_S0 : zz_G S0) (ht : 0 ≤ t ∧ t ≤ 1) (hp0 : 0 ≤ p0 ∧ p0 ≤ 11) : mm_Met g l zy_leastSpot_7_12 zr_leastSpot_7_12 [.ref (zz_rf 3 t), zi p0] (zz_M S0 n) n (zz_QI n (zp_leastSpot_7_12 t p0 S0)) := by
  refine zz_enter (by decide) (Nat.le_of_ble_eq_true rfl) (zz_less (ls1 := [some (.ref (zz_rf 3 t)), some (zi p0)]) ⟨rfl, ⟨rfl, trivial⟩⟩ ?_)
  have F_S0 : zz_fr [] [] (fun _ _ => False) S0 S0 := zz_fr.refl
  have k15 : ∀ (x2 : Int) (x3 : Int) (x4 : Int) (S : zz_S), zz_G S → zz_fr [] [] (fun _ _ => False) S0 S → (0 ≤ x2 ∧ x2 ≤ 2147483647) → ((-2147483648) ≤ x3 ∧ x3 ≤ 2147483647) → (0 ≤ x4 ∧ x4 ≤ 13) → zz_E g l zy_leastSpot_7_12 zr_leastSpot_7_12 (zz_QI n (zp_leastSpot_7_12 t p0 S0)) S n 15 [some (.ref (zz_rf 3 t)), some (zi p0), some (zi x2), some (zi x3), some (zi x4)] [] 0 0 := fun x2 x3 x4 S a b j0 j1 j2 => (zi_leastSpot_7_12 (g := g) (l := l) t p0 S0 n hn G_S0 ht hp0 _).1 x2 x3 x4 S a b j0 j1 j2 (Nat.lt_succ_self _)
  have b_t := zz_rf3 (z := t) (by omega)
  refine zz_iconst zd_7_12_0 ?_
  refine zz_istore_n [some (.ref (zz_rf 3 t)), some (zi p0), some (zi 0)] zd_7_12_1 (by decide) rfl ?_
  refine zz_aload_n (x := zz_rf 3 t) rfl zd_7_12_2 ?_
  refine zz_getr (kd := 0) (z := ((zz_rf 3 t + 1 : Nat) : Int)) zd_7_12_3 zf_Network_11 (zT_k3 (by omega)) rfl (zN_k3 hn (by omega)) (zE_k3a G_S0 (by omega)) (Int.natCast_nonneg _) (zz_rf 3 t + 1) (Int.toNat_natCast _) ?_
  refine zz_iload_n (x := p0) rfl zd_7_12_6 ?_
  refine zz_aald (kd := 4) (z := 12 * t + p0) zd_7_12_7 (zT_k3a (by omega)) rfl (zN_k3a hn (by omega)) (by decide) (by omega) (zE_lay G_S0 (by omega) (by omega)) (by omega) (zz_rf 6 (12 * t + p0)) rfl ?_
  refine zz_callVI [] zd_7_12_8 zk_Network_60 (zT_k6 (by omega)) (zN_k6 hn (by omega)) rfl rfl ⟨Nat.le_of_ble_eq_true rfl, Nat.le_of_ble_eq_true rfl⟩ ⟨rfl, rfl⟩ (Nat.zero_le _) (Nat.zero_le _) (zc_size_4_7 (12 * t + p0) S0 n hn G_S0 (by omega)) (fun v2 S1 hP => ?_)
  obtain ⟨rfl, o3⟩ := hP
  refine zz_istore_n [some (.ref (zz_rf 3 t)), some (zi p0), some (zi 0), some (zi v2)] zd_7_12_11 (by decide) rfl ?_
  refine zz_iconst zd_7_12_12 ?_
  refine zz_istore [some (.ref (zz_rf 3 t)), some (zi p0), some (zi 0), some (zi v2), some (zi 0)] zd_7_12_13 (by decide) rfl ?_
  refine zz_less (ls1 := [some (.ref (zz_rf 3 t)), some (zi p0), some (zi 0), some (zi v2), some (zi 0)]) ⟨rfl, ⟨rfl, ⟨rfl, ⟨rfl, ⟨rfl, trivial⟩⟩⟩⟩⟩ ?_
  exact k15 0 v2 0 S0 G_S0 F_S0 (by omega) (by omega) (by omega)
theorem zk_Network_79 : mm_Vl "TensorForge$Network" 79 1 1 zy_leastSpot_7_12 := ⟨zyw_leastSpot_7_12, (R_Network, F_Network, 2), rfl, mm_tb_1 1516 (by decide +kernel) rfl, mm_tb_1 1518 (by decide +kernel) rfl, mm_tb_s 77 (by decide +kernel) rfl⟩
theorem zg_7_10_31 : (decode zy_findSpots_7_10.2.1 31 = .ok ((.putfield 76), 3)) ∧ (decode zy_findSpots_7_10.2.1 34 = .ok ((.aload_n 0), 1)) ∧ (decode zy_findSpots_7_10.2.1 35 = .ok ((.getfield 11), 3)) ∧ (decode zy_findSpots_7_10.2.1 38 = .ok ((.iload_n 1), 1)) ∧ (decode zy_findSpots_7_10.2.1 39 = .ok ((.aaload), 1)) ∧ (decode zy_findSpots_7_10.2.1 40 = .ok ((.getfield 76), 3)) ∧ (decode zy_findSpots_7_10.2.1 43 = .ok ((.aload_n 0), 1)) ∧ (decode zy_findSpots_7_10.2.1 44 = .ok ((.getfield 11), 3)) ∧ (decode zy_findSpots_7_10.2.1 47 = .ok ((.iload_n 1), 1)) ∧ (decode zy_findSpots_7_10.2.1 48 = .ok ((.aaload), 1)) := by decide +kernel
theorem zd_7_10_31 : zz_D zy_findSpots_7_10 31 (.putfield 76) 3 34 := ⟨zg_7_10_31.1, rfl⟩
theorem zd_7_10_34 : zz_D zy_findSpots_7_10 34 (.aload_n 0) 1 35 := ⟨zg_7_10_31.2.1, rfl⟩
theorem zd_7_10_35 : zz_D zy_findSpots_7_10 35 (.getfield 11) 3 38 := ⟨zg_7_10_31.2.2.1, rfl⟩
theorem zd_7_10_38 : zz_D zy_findSpots_7_10 38 (.iload_n 1) 1 39 := ⟨zg_7_10_31.2.2.2.1, rfl⟩
theorem zd_7_10_39 : zz_D zy_findSpots_7_10 39 (.aaload) 1 40 := ⟨zg_7_10_31.2.2.2.2.1, rfl⟩
theorem zd_7_10_40 : zz_D zy_findSpots_7_10 40 (.getfield 76) 3 43 := ⟨zg_7_10_31.2.2.2.2.2.1, rfl⟩
theorem zd_7_10_43 : zz_D zy_findSpots_7_10 43 (.aload_n 0) 1 44 := ⟨zg_7_10_31.2.2.2.2.2.2.1, rfl⟩
theorem zd_7_10_44 : zz_D zy_findSpots_7_10 44 (.getfield 11) 3 47 := ⟨zg_7_10_31.2.2.2.2.2.2.2.1, rfl⟩
theorem zd_7_10_47 : zz_D zy_findSpots_7_10 47 (.iload_n 1) 1 48 := ⟨zg_7_10_31.2.2.2.2.2.2.2.2.1, rfl⟩
theorem zd_7_10_48 : zz_D zy_findSpots_7_10 48 (.aaload) 1 49 := ⟨zg_7_10_31.2.2.2.2.2.2.2.2.2, rfl⟩
theorem zg_7_10_49 : (decode zy_findSpots_7_10.2.1 49 = .ok ((.invokevirtual 60), 3)) ∧ (decode zy_findSpots_7_10.2.1 52 = .ok ((.iadd), 1)) ∧ (decode zy_findSpots_7_10.2.1 53 = .ok ((.sipush 2048), 3)) ∧ (decode zy_findSpots_7_10.2.1 56 = .ok ((Instr.if_icmp .le) 5, 3)) ∧ (decode zy_findSpots_7_10.2.1 61 = .ok ((.iinc 1 1), 3)) ∧ (decode zy_findSpots_7_10.2.1 64 = .ok (Instr.goto (-52), 3)) ∧ (decode zy_findSpots_7_10.2.1 59 = .ok ((.iconst 0), 1)) ∧ (decode zy_findSpots_7_10.2.1 60 = .ok ((.ireturn), 1)) := by decide +kernel
theorem zd_7_10_49 : zz_D zy_findSpots_7_10 49 (.invokevirtual 60) 3 52 := ⟨zg_7_10_49.1, rfl⟩
theorem zd_7_10_52 : zz_D zy_findSpots_7_10 52 (.iadd) 1 53 := ⟨zg_7_10_49.2.1, rfl⟩
theorem zd_7_10_53 : zz_D zy_findSpots_7_10 53 (.sipush 2048) 3 56 := ⟨zg_7_10_49.2.2.1, rfl⟩
theorem zd_7_10_56 : zz_B zy_findSpots_7_10 56 (Instr.if_icmp .le) 61 59 := ⟨5, zg_7_10_49.2.2.2.1, rfl, rfl⟩
theorem zd_7_10_61 : zz_D zy_findSpots_7_10 61 (.iinc 1 1) 3 64 := ⟨zg_7_10_49.2.2.2.2.1, rfl⟩
theorem zd_7_10_64 : zz_B zy_findSpots_7_10 64 Instr.goto 12 67 := ⟨(-52), zg_7_10_49.2.2.2.2.2.1, rfl, rfl⟩
theorem zd_7_10_59 : zz_D zy_findSpots_7_10 59 (.iconst 0) 1 60 := ⟨zg_7_10_49.2.2.2.2.2.2.1, rfl⟩
theorem zd_7_10_60 : zz_D zy_findSpots_7_10 60 (.ireturn) 1 61 := ⟨zg_7_10_49.2.2.2.2.2.2.2, rfl⟩
-- TensorForge$Network findSpots ()Z
abbrev zr_findSpots_7_10 : Room := { frames := 3, cells := 0, slots := 0, locals := 48 }
def zp_findSpots_7_10 (t : Int) (S0 : zz_S) : Int → zz_S → Prop := fun r S => zz_G S ∧ zz_fr [(1003, 14), (1004, 14), (1005, 14), (1006, 14), (1007, 14), (1008, 14), (1009, 14), (1010, 14), (1011, 14), (1012, 14), (1013, 14), (1014, 14), (1017, 14), (1018, 14), (1019, 14), (1020, 14), (1021, 14), (1022, 14), (1023, 14), (1024, 14), (1025, 14), (1026, 14), (1027, 14), (1028, 14)] [] (fun a i => (a = zz_rf 6 (12 * t + 0) ∧ i = 14)) S0 S ∧ (0 ≤ r ∧ r ≤ 1)
theorem zb_findSpots_7_10_12 {g : mm_G} {l : Launch} (t : Int) (S0 : zz_S) (n : Nat) (hn : zz_end ≤ n) (G_S0 : zz_G S0) (ht : 0 ≤ t ∧ t ≤ 1) (x1 : Int) (S : zz_S) (G_S : zz_G S) (F_S : zz_fr [(1003, 14), (1004, 14), (1005, 14), (1006, 14), (1007, 14), (1008, 14), (1009, 14), (1010, 14), (1011, 14), (1012, 14), (1013, 14), (1014, 14), (1017, 14), (1018, 14), (1019, 14), (1020, 14), (1021, 14), (1022, 14), (1023, 14), (1024, 14), (1025, 14), (1026, 14), (1027, 14), (1028, 14)] [] (fun a i => (a = zz_rf 6 (12 * t + 0) ∧ i = 14)) S0 S) (i12_0 : 1 ≤ x1 ∧ x1 ≤ 11) (R : Nat) (hR : (S0 (zz_rf 3 t) 1 - x1).toNat = R) (k12 : ∀ (x1 : Int) (S : zz_S), zz_G S → zz_fr [(1003, 14), (1004, 14), (1005, 14), (1006, 14), (1007, 14), (1008, 14), (1009, 14), (1010, 14), (1011, 14), (1012, 14), (1013, 14), (1014, 14), (1017, 14), (1018, 14), (1019, 14), (1020, 14), (1021, 14), (1022, 14), (1023, 14), (1024, 14), (1025, 14), (1026, 14), (1027, 14), (1028, 14)] [] (fun a i => (a = zz_rf 6 (12 * t + 0) ∧ i = 14)) S0 S → (1 ≤ x1 ∧ x1 ≤ 11) → (S0 (zz_rf 3 t) 1 - x1).toNat < R → zz_E g l zy_findSpots_7_10 zr_findSpots_7_10 (zz_QI n (zp_findSpots_7_10 t S0)) S n 12 [some (.ref (zz_rf 3 t)), some (zi x1)] [] 0 0) : zz_E g l zy_findSpots_7_10 zr_findSpots_7_10 (zz_QI n (zp_findSpots_7_10 t S0)) S n 12 [some (.ref (zz_rf 3 t)), some (zi x1)] [] 0 0 := by
  have b_t := zz_rf3 (z := t) (by omega)
  refine zz_iload_n (x := x1) rfl zd_7_10_12 ?_
  refine zz_aload_n (x := zz_rf 3 t) rfl zd_7_10_13 ?_
  have g2 := zz_G.r G_S0 (zz_rf 3 t) 1 1 11 (zR_k3_1 (by omega)) (zB_k3 (by omega))
  refine zz_geti (z := S0 (zz_rf 3 t) 1) zd_7_10_14 zf_Network_16 (zT_k3 (by omega)) rfl (zN_k3 hn (by omega)) (zz_rc F_S (zP_k3 (by omega) rfl) (zQ_k3 (by omega) rfl) (by have hz_ := zz_rf3 (z := t) (by omega); omega) rfl) ?_
  refine zz_icmp_ge (by omega) (by omega) zd_7_10_17 (fun c3 => ?_) (fun c3 => ?_)
  · refine zz_iconst zd_7_10_67 ?_
    exact zz_zret zd_7_10_68 rfl (by omega) (Nat.zero_le _) (Nat.zero_le _) ⟨_, _, rfl, G_S, F_S, by omega⟩
  · refine zz_aload_n (x := zz_rf 3 t) rfl zd_7_10_20 ?_
    refine zz_getr (kd := 0) (z := ((zz_rf 3 t + 1 : Nat) : Int)) zd_7_10_21 zf_Network_11 (zT_k3 (by omega)) rfl (zN_k3 hn (by omega)) (zE_k3a G_S (by omega)) (Int.natCast_nonneg _) (zz_rf 3 t + 1) (Int.toNat_natCast _) ?_
    refine zz_iload_n (x := x1) rfl zd_7_10_24 ?_
    refine zz_aald (kd := 4) (z := 12 * t + x1) zd_7_10_25 (zT_k3a (by omega)) rfl (zN_k3a hn (by omega)) (by decide) (by omega) (zE_lay G_S (by omega) (by omega)) (by omega) (zz_rf 6 (12 * t + x1)) rfl ?_
    refine zz_aload_n (x := zz_rf 3 t) rfl zd_7_10_26 ?_
    refine zz_iload_n (x := x1) rfl zd_7_10_27 ?_
    refine zz_callVI [zi x1] zd_7_10_28 zk_Network_79 (zT_k3 (by omega)) (zN_k3 hn (by omega)) rfl rfl ⟨Nat.le_of_ble_eq_true rfl, Nat.le_of_ble_eq_true rfl⟩ ⟨rfl, rfl⟩ (Nat.zero_le _) (Nat.zero_le _) (zc_leastSpot_7_12 t x1 S n hn G_S (by omega) (by omega)) (fun v5 S4 hP => ?_)
    obtain ⟨rfl, o6⟩ := hP
    refine zz_puti zd_7_10_31 zf_Network_76 (zT_k6 (by omega)) rfl (zN_k6 hn (by omega)) (fun S7 qS7 => ?_)
    have G_S7 := zz_G.put G_S qS7 (-2147483648) 2147483647 (zR_k6_14 (by omega)) (by omega)
    have F_S7 := zz_fr.puts F_S qS7 (zMs_k6 (by omega) rfl)
    refine zz_aload_n (x := zz_rf 3 t) rfl zd_7_10_34 ?_
    refine zz_getr (kd := 0) (z := ((zz_rf 3 t + 1 : Nat) : Int)) zd_7_10_35 zf_Network_11 (zT_k3 (by omega)) rfl (zN_k3 hn (by omega)) (zE_k3a G_S7 (by omega)) (Int.natCast_nonneg _) (zz_rf 3 t + 1) (Int.toNat_natCast _) ?_
    refine zz_iload_n (x := x1) rfl zd_7_10_38 ?_
    refine zz_aald (kd := 4) (z := 12 * t + x1) zd_7_10_39 (zT_k3a (by omega)) rfl (zN_k3a hn (by omega)) (by decide) (by omega) (zE_lay G_S7 (by omega) (by omega)) (by omega) (zz_rf 6 (12 * t + x1)) rfl ?_
    refine zz_geti (z := v5) zd_7_10_40 zf_Network_76 (zT_k6 (by omega)) rfl (zN_k6 hn (by omega)) (zz_rs qS7) ?_
    refine zz_aload_n (x := zz_rf 3 t) rfl zd_7_10_43 ?_
    refine zz_getr (kd := 0) (z := ((zz_rf 3 t + 1 : Nat) : Int)) zd_7_10_44 zf_Network_11 (zT_k3 (by omega)) rfl (zN_k3 hn (by omega)) (zE_k3a G_S7 (by omega)) (Int.natCast_nonneg _) (zz_rf 3 t + 1) (Int.toNat_natCast _) ?_
    refine zz_iload_n (x := x1) rfl zd_7_10_47 ?_
    refine zz_aald (kd := 4) (z := 12 * t + x1) zd_7_10_48 (zT_k3a (by omega)) rfl (zN_k3a hn (by omega)) (by decide) (by omega) (zE_lay G_S7 (by omega) (by omega)) (by omega) (zz_rf 6 (12 * t + x1)) rfl ?_
    refine zz_callVI [] zd_7_10_49 zk_Network_60 (zT_k6 (by omega)) (zN_k6 hn (by omega)) rfl rfl ⟨Nat.le_of_ble_eq_true rfl, Nat.le_of_ble_eq_true rfl⟩ ⟨rfl, rfl⟩ (Nat.zero_le _) (Nat.zero_le _) (zc_size_4_7 (12 * t + x1) S7 n hn G_S7 (by omega)) (fun v9 S8 hP => ?_)
    obtain ⟨rfl, o10⟩ := hP
    refine zz_iadd zd_7_10_52 ?_
    refine zz_nrm (fun v11 hv11 ev11 => ?_)
    refine zz_sipush (by decide) zd_7_10_53 ?_
    refine zz_icmp_le (by omega) (by omega) zd_7_10_56 (fun c12 => ?_) (fun c12 => ?_)
    · refine zz_iinc [some (.ref (zz_rf 3 t)), some (zi (x1 + 1))] zd_7_10_61 rfl rfl ?_
      refine zz_goto zd_7_10_64 ?_
      refine zz_less (ls1 := [some (.ref (zz_rf 3 t)), some (zi (x1 + 1))]) ⟨rfl, ⟨rfl, trivial⟩⟩ ?_
      exact k12 (x1 + 1) S7 G_S7 F_S7 (by omega) (by omega)
    · refine zz_iconst zd_7_10_59 ?_
      exact zz_zret zd_7_10_60 rfl (by omega) (Nat.zero_le _) (Nat.zero_le _) ⟨_, _, rfl, G_S7, F_S7, by omega⟩
theorem zi_findSpots_7_10 {g : mm_G} {l : Launch} (t : Int) (S0 : zz_S) (n : Nat) (hn : zz_end ≤ n) (G_S0 : zz_G S0) (ht : 0 ≤ t ∧ t ≤ 1) : ∀ N : Nat, (∀ (x1 : Int) (S : zz_S), zz_G S → zz_fr [(1003, 14), (1004, 14), (1005, 14), (1006, 14), (1007, 14), (1008, 14), (1009, 14), (1010, 14), (1011, 14), (1012, 14), (1013, 14), (1014, 14), (1017, 14), (1018, 14), (1019, 14), (1020, 14), (1021, 14), (1022, 14), (1023, 14), (1024, 14), (1025, 14), (1026, 14), (1027, 14), (1028, 14)] [] (fun a i => (a = zz_rf 6 (12 * t + 0) ∧ i = 14)) S0 S → (1 ≤ x1 ∧ x1 ≤ 11) → (S0 (zz_rf 3 t) 1 - x1).toNat < N → zz_E g l zy_findSpots_7_10 zr_findSpots_7_10 (zz_QI n (zp_findSpots_7_10 t S0)) S n 12 [some (.ref (zz_rf 3 t)), some (zi x1)] [] 0 0) := by
  intro N
  induction N with
  | zero => exact fun x1 S _ _ _ h => absurd h (Nat.not_lt_zero _)
  | succ N ih =>
    exact fun x1 S a b j0 hR => zb_findSpots_7_10_12 t S0 n hn G_S0 ht x1 S a b j0 _ rfl (fun x1 S a b j0 h => ih x1 S a b j0 (Nat.lt_of_lt_of_le h (Nat.le_of_lt_succ hR)))
theorem zc_findSpots_7_10 {g : mm_G} {l : Launch} (t : Int) (S0 : zz_S) (n : Nat) (hn : zz_end ≤ n) (G_S0 : zz_G S0) (ht : 0 ≤ t ∧ t ≤ 1) : mm_Met g l zy_findSpots_7_10 zr_findSpots_7_10 [.ref (zz_rf 3 t)] (zz_M S0 n) n (zz_QI n (zp_findSpots_7_10 t S0)) := by
  refine zz_enter (by decide) (Nat.le_of_ble_eq_true rfl) (zz_less (ls1 := [some (.ref (zz_rf 3 t))]) ⟨rfl, trivial⟩ ?_)
  have F_S0 : zz_fr [(1003, 14), (1004, 14), (1005, 14), (1006, 14), (1007, 14), (1008, 14), (1009, 14), (1010, 14), (1011, 14), (1012, 14), (1013, 14), (1014, 14), (1017, 14), (1018, 14), (1019, 14), (1020, 14), (1021, 14), (1022, 14), (1023, 14), (1024, 14), (1025, 14), (1026, 14), (1027, 14), (1028, 14)] [] (fun a i => (a = zz_rf 6 (12 * t + 0) ∧ i = 14)) S0 S0 := zz_fr.refl
  have k12 : ∀ (x1 : Int) (S : zz_S), zz_G S → zz_fr [(1003, 14), (1004, 14), (1005, 14), (1006, 14), (1007, 14), (1008, 14), (1009, 14), (1010, 14), (1011, 14), (1012, 14), (1013, 14), (1014, 14), (1017, 14), (1018, 14), (1019, 14), (1020, 14), (1021, 14), (1022, 14), (1023, 14), (1024, 14), (1025, 14), (1026, 14), (1027, 14), (1028, 14)] [] (fun a i => (a = zz_rf 6 (12 * t + 0) ∧ i = 14)) S0 S → (1 ≤ x1 ∧ x1 ≤ 11) → zz_E g l zy_findSpots_7_10 zr_findSpots_7_10 (zz_QI n (zp_findSpots_7_10 t S0)) S n 12 [some (.ref (zz_rf 3 t)), some (zi x1)] [] 0 0 := fun x1 S a b j0 => (zi_findSpots_7_10 (g := g) (l := l) t S0 n hn G_S0 ht _) x1 S a b j0 (Nat.lt_succ_self _)
  have b_t := zz_rf3 (z := t) (by omega)
  refine zz_aload_n (x := zz_rf 3 t) rfl zd_7_10_0 ?_
  refine zz_getr (kd := 0) (z := ((zz_rf 3 t + 1 : Nat) : Int)) zd_7_10_1 zf_Network_11 (zT_k3 (by omega)) rfl (zN_k3 hn (by omega)) (zE_k3a G_S0 (by omega)) (Int.natCast_nonneg _) (zz_rf 3 t + 1) (Int.toNat_natCast _) ?_
  refine zz_iconst zd_7_10_4 ?_
  refine zz_aald (kd := 4) (z := 12 * t + 0) zd_7_10_5 (zT_k3a (by omega)) rfl (zN_k3a hn (by omega)) (by decide) (by omega) (zE_lay G_S0 (by omega) (by omega)) (by omega) (zz_rf 6 (12 * t + 0)) rfl ?_
  refine zz_iconst zd_7_10_6 ?_
  refine zz_puti zd_7_10_7 zf_Network_76 (zT_k6 (by omega)) rfl (zN_k6 hn (by omega)) (fun S1 qS1 => ?_)
  have G_S1 := zz_G.put G_S0 qS1 (-2147483648) 2147483647 (zR_k6_14 (by omega)) (by omega)
  have F_S1 := zz_fr.putv F_S0 qS1 (⟨rfl, rfl⟩)
  refine zz_iconst zd_7_10_10 ?_
  refine zz_istore_n [some (.ref (zz_rf 3 t)), some (zi 1)] zd_7_10_11 (by decide) rfl ?_
  refine zz_less (ls1 := [some (.ref (zz_rf 3 t)), some (zi 1)]) ⟨rfl, ⟨rfl, trivial⟩⟩ ?_
  exact k12 1 S1 G_S1 F_S1 (by omega)
theorem zk_TF_305 : mm_Vl "TensorForge" 305 1 0 zy_findSpots_7_10 := ⟨zyw_findSpots_7_10, (R_Network, F_Network, 2), rfl, mm_tb_1 1512 (by decide +kernel) rfl, mm_tb_1 1513 (by decide +kernel) rfl, mm_tb_1 1514 (by decide +kernel) rfl⟩
theorem zt_1_27_10 : zz_ThrW zy_place_1_27 10 126 309 130 := ⟨by decide +kernel, by decide +kernel, by decide +kernel, by decide +kernel, by decide +kernel⟩
theorem zxl_TF_126_309_130 : mm_Xl "TensorForge" 126 309 130 2 := ⟨mm_tb_1 1176 (by decide +kernel) rfl, mm_tb_1 1177 (by decide +kernel) rfl, mm_tb_1 19 (by decide +kernel) rfl, ⟨57, by decide +kernel⟩, zxa_TF_130⟩
abbrev zy_takeSpots_7_11 : mm_Y := (⟨"TensorForge$Network", "takeSpots", "()V"⟩, prog_7_method_11_code, 2, none)
theorem zyw_takeSpots_7_11 : mm_Yw zy_takeSpots_7_11 0 := ⟨mm_tb_1 1532 (by decide +kernel) rfl, mm_tb_1 2 (by decide +kernel) rfl, ⟨by decide, by decide⟩, by decide +kernel⟩
theorem zg_1_27_7 : (decode zy_place_1_27.2.1 7 = .ok ((Instr.ifCond .ne) 14, 3)) ∧ (decode zy_place_1_27.2.1 21 = .ok ((.aload_n 0), 1)) ∧ (decode zy_place_1_27.2.1 22 = .ok ((.getfield 10), 3)) ∧ (decode zy_place_1_27.2.1 25 = .ok ((.invokevirtual 311), 3)) := by decide +kernel
theorem zd_1_27_7 : zz_B zy_place_1_27 7 (Instr.ifCond .ne) 21 10 := ⟨14, zg_1_27_7.1, rfl, rfl⟩
theorem zd_1_27_21 : zz_D zy_place_1_27 21 (.aload_n 0) 1 22 := ⟨zg_1_27_7.2.1, rfl⟩
theorem zd_1_27_22 : zz_D zy_place_1_27 22 (.getfield 10) 3 25 := ⟨zg_1_27_7.2.2.1, rfl⟩
theorem zd_1_27_25 : zz_D zy_place_1_27 25 (.invokevirtual 311) 3 28 := ⟨zg_1_27_7.2.2.2, rfl⟩
theorem zg_7_11_0 : (decode zy_takeSpots_7_11.2.1 0 = .ok ((.iconst 0), 1)) ∧ (decode zy_takeSpots_7_11.2.1 1 = .ok ((.istore_n 1), 1)) ∧ (decode zy_takeSpots_7_11.2.1 2 = .ok ((.iload_n 1), 1)) ∧ (decode zy_takeSpots_7_11.2.1 3 = .ok ((.aload_n 0), 1)) ∧ (decode zy_takeSpots_7_11.2.1 4 = .ok ((.getfield 16), 3)) ∧ (decode zy_takeSpots_7_11.2.1 7 = .ok ((Instr.if_icmp .ge) 27, 3)) ∧ (decode zy_takeSpots_7_11.2.1 10 = .ok ((.aload_n 0), 1)) ∧ (decode zy_takeSpots_7_11.2.1 11 = .ok ((.getfield 11), 3)) ∧ (decode zy_takeSpots_7_11.2.1 14 = .ok ((.iload_n 1), 1)) ∧ (decode zy_takeSpots_7_11.2.1 15 = .ok ((.aaload), 1)) := by decide +kernel
theorem zd_7_11_0 : zz_D zy_takeSpots_7_11 0 (.iconst 0) 1 1 := ⟨zg_7_11_0.1, rfl⟩
theorem zd_7_11_1 : zz_D zy_takeSpots_7_11 1 (.istore_n 1) 1 2 := ⟨zg_7_11_0.2.1, rfl⟩
theorem zd_7_11_2 : zz_D zy_takeSpots_7_11 2 (.iload_n 1) 1 3 := ⟨zg_7_11_0.2.2.1, rfl⟩
theorem zd_7_11_3 : zz_D zy_takeSpots_7_11 3 (.aload_n 0) 1 4 := ⟨zg_7_11_0.2.2.2.1, rfl⟩
theorem zd_7_11_4 : zz_D zy_takeSpots_7_11 4 (.getfield 16) 3 7 := ⟨zg_7_11_0.2.2.2.2.1, rfl⟩
theorem zd_7_11_7 : zz_B zy_takeSpots_7_11 7 (Instr.if_icmp .ge) 34 10 := ⟨27, zg_7_11_0.2.2.2.2.2.1, rfl, rfl⟩
theorem zd_7_11_10 : zz_D zy_takeSpots_7_11 10 (.aload_n 0) 1 11 := ⟨zg_7_11_0.2.2.2.2.2.2.1, rfl⟩
theorem zd_7_11_11 : zz_D zy_takeSpots_7_11 11 (.getfield 11) 3 14 := ⟨zg_7_11_0.2.2.2.2.2.2.2.1, rfl⟩
theorem zd_7_11_14 : zz_D zy_takeSpots_7_11 14 (.iload_n 1) 1 15 := ⟨zg_7_11_0.2.2.2.2.2.2.2.2.1, rfl⟩
theorem zd_7_11_15 : zz_D zy_takeSpots_7_11 15 (.aaload) 1 16 := ⟨zg_7_11_0.2.2.2.2.2.2.2.2.2, rfl⟩
theorem zg_7_11_16 : (decode zy_takeSpots_7_11.2.1 16 = .ok ((.aload_n 0), 1)) ∧ (decode zy_takeSpots_7_11.2.1 17 = .ok ((.getfield 11), 3)) ∧ (decode zy_takeSpots_7_11.2.1 20 = .ok ((.iload_n 1), 1)) ∧ (decode zy_takeSpots_7_11.2.1 21 = .ok ((.aaload), 1)) ∧ (decode zy_takeSpots_7_11.2.1 22 = .ok ((.getfield 76), 3)) ∧ (decode zy_takeSpots_7_11.2.1 25 = .ok ((.putfield 63), 3)) ∧ (decode zy_takeSpots_7_11.2.1 28 = .ok ((.iinc 1 1), 3)) ∧ (decode zy_takeSpots_7_11.2.1 31 = .ok (Instr.goto (-29), 3)) ∧ (decode zy_takeSpots_7_11.2.1 34 = .ok ((.return_), 1)) := by decide +kernel
theorem zd_7_11_16 : zz_D zy_takeSpots_7_11 16 (.aload_n 0) 1 17 := ⟨zg_7_11_16.1, rfl⟩
theorem zd_7_11_17 : zz_D zy_takeSpots_7_11 17 (.getfield 11) 3 20 := ⟨zg_7_11_16.2.1, rfl⟩
theorem zd_7_11_20 : zz_D zy_takeSpots_7_11 20 (.iload_n 1) 1 21 := ⟨zg_7_11_16.2.2.1, rfl⟩
theorem zd_7_11_21 : zz_D zy_takeSpots_7_11 21 (.aaload) 1 22 := ⟨zg_7_11_16.2.2.2.1, rfl⟩
theorem zd_7_11_22 : zz_D zy_takeSpots_7_11 22 (.getfield 76) 3 25 := ⟨zg_7_11_16.2.2.2.2.1, rfl⟩
theorem zd_7_11_25 : zz_D zy_takeSpots_7_11 25 (.putfield 63) 3 28 := ⟨zg_7_11_16.2.2.2.2.2.1, rfl⟩
theorem zd_7_11_28 : zz_D zy_takeSpots_7_11 28 (.iinc 1 1) 3 31 := ⟨zg_7_11_16.2.2.2.2.2.2.1, rfl⟩
theorem zd_7_11_31 : zz_B zy_takeSpots_7_11 31 Instr.goto 2 34 := ⟨(-29), zg_7_11_16.2.2.2.2.2.2.2.1, rfl, rfl⟩
theorem zd_7_11_34 : zz_D zy_takeSpots_7_11 34 (.return_) 1 35 := ⟨zg_7_11_16.2.2.2.2.2.2.2.2, rfl⟩
-- TensorForge$Network takeSpots ()V
abbrev zr_takeSpots_7_11 : Room := { frames := 0, cells := 0, slots := 0, locals := 0 }
def zp_takeSpots_7_11 (t : Int) (S0 : zz_S) : zz_S → Prop := fun S => zz_G S ∧ zz_fr [(1003, 13), (1004, 13), (1005, 13), (1006, 13), (1007, 13), (1008, 13), (1009, 13), (1010, 13), (1011, 13), (1012, 13), (1013, 13), (1014, 13), (1017, 13), (1018, 13), (1019, 13), (1020, 13), (1021, 13), (1022, 13), (1023, 13), (1024, 13), (1025, 13), (1026, 13), (1027, 13), (1028, 13)] [] (fun _ _ => False) S0 S
theorem zb_takeSpots_7_11_2 {g : mm_G} {l : Launch} (t : Int) (S0 : zz_S) (n : Nat) (hn : zz_end ≤ n) (G_S0 : zz_G S0) (ht : 0 ≤ t ∧ t ≤ 1) (x1 : Int) (S : zz_S) (G_S : zz_G S) (F_S : zz_fr [(1003, 13), (1004, 13), (1005, 13), (1006, 13), (1007, 13), (1008, 13), (1009, 13), (1010, 13), (1011, 13), (1012, 13), (1013, 13), (1014, 13), (1017, 13), (1018, 13), (1019, 13), (1020, 13), (1021, 13), (1022, 13), (1023, 13), (1024, 13), (1025, 13), (1026, 13), (1027, 13), (1028, 13)] [] (fun _ _ => False) S0 S) (i2_0 : 0 ≤ x1 ∧ x1 ≤ 11) (R : Nat) (hR : (S0 (zz_rf 3 t) 1 - x1).toNat = R) (k2 : ∀ (x1 : Int) (S : zz_S), zz_G S → zz_fr [(1003, 13), (1004, 13), (1005, 13), (1006, 13), (1007, 13), (1008, 13), (1009, 13), (1010, 13), (1011, 13), (1012, 13), (1013, 13), (1014, 13), (1017, 13), (1018, 13), (1019, 13), (1020, 13), (1021, 13), (1022, 13), (1023, 13), (1024, 13), (1025, 13), (1026, 13), (1027, 13), (1028, 13)] [] (fun _ _ => False) S0 S → (0 ≤ x1 ∧ x1 ≤ 11) → (S0 (zz_rf 3 t) 1 - x1).toNat < R → zz_E g l zy_takeSpots_7_11 zr_takeSpots_7_11 (zz_QV n (zp_takeSpots_7_11 t S0)) S n 2 [some (.ref (zz_rf 3 t)), some (zi x1)] [] 0 0) : zz_E g l zy_takeSpots_7_11 zr_takeSpots_7_11 (zz_QV n (zp_takeSpots_7_11 t S0)) S n 2 [some (.ref (zz_rf 3 t)), some (zi x1)] [] 0 0 := by
  have b_t := zz_rf3 (z := t) (by omega)
  refine zz_iload_n (x := x1) rfl zd_7_11_2 ?_
  refine zz_aload_n (x := zz_rf 3 t) rfl zd_7_11_3 ?_
  have g1 := zz_G.r G_S0 (zz_rf 3 t) 1 1 11 (zR_k3_1 (by omega)) (zB_k3 (by omega))
  refine zz_geti (z := S0 (zz_rf 3 t) 1) zd_7_11_4 zf_Network_16 (zT_k3 (by omega)) rfl (zN_k3 hn (by omega)) (zz_rc F_S (zP_k3 (by omega) rfl) (zQ_k3 (by omega) rfl) (fun h => h) rfl) ?_
  refine zz_icmp_ge (by omega) (by omega) zd_7_11_7 (fun c2 => ?_) (fun c2 => ?_)
  · exact zz_vret zd_7_11_34 rfl (Nat.zero_le _) (Nat.zero_le _) ⟨_, rfl, G_S, F_S⟩
  · refine zz_aload_n (x := zz_rf 3 t) rfl zd_7_11_10 ?_
    refine zz_getr (kd := 0) (z := ((zz_rf 3 t + 1 : Nat) : Int)) zd_7_11_11 zf_Network_11 (zT_k3 (by omega)) rfl (zN_k3 hn (by omega)) (zE_k3a G_S (by omega)) (Int.natCast_nonneg _) (zz_rf 3 t + 1) (Int.toNat_natCast _) ?_
    refine zz_iload_n (x := x1) rfl zd_7_11_14 ?_
    refine zz_aald (kd := 4) (z := 12 * t + x1) zd_7_11_15 (zT_k3a (by omega)) rfl (zN_k3a hn (by omega)) (by decide) (by omega) (zE_lay G_S (by omega) (by omega)) (by omega) (zz_rf 6 (12 * t + x1)) rfl ?_
    refine zz_aload_n (x := zz_rf 3 t) rfl zd_7_11_16 ?_
    refine zz_getr (kd := 0) (z := ((zz_rf 3 t + 1 : Nat) : Int)) zd_7_11_17 zf_Network_11 (zT_k3 (by omega)) rfl (zN_k3 hn (by omega)) (zE_k3a G_S (by omega)) (Int.natCast_nonneg _) (zz_rf 3 t + 1) (Int.toNat_natCast _) ?_
    refine zz_iload_n (x := x1) rfl zd_7_11_20 ?_
    refine zz_aald (kd := 4) (z := 12 * t + x1) zd_7_11_21 (zT_k3a (by omega)) rfl (zN_k3a hn (by omega)) (by decide) (by omega) (zE_lay G_S (by omega) (by omega)) (by omega) (zz_rf 6 (12 * t + x1)) rfl ?_
    have g3 := zz_G.r G_S (zz_rf 6 (12 * t + x1)) 14 (-2147483648) 2147483647 (zR_k6_14 (by omega)) (zB_k6 (by omega))
    refine zz_geti (z := S (zz_rf 6 (12 * t + x1)) 14) zd_7_11_22 zf_Network_76 (zT_k6 (by omega)) rfl (zN_k6 hn (by omega)) rfl ?_
    refine zz_puti zd_7_11_25 zf_Network_63 (zT_k6 (by omega)) rfl (zN_k6 hn (by omega)) (fun S4 qS4 => ?_)
    have G_S4 := zz_G.put G_S qS4 (-2147483648) 2147483647 (zR_k6_13 (by omega)) (by omega)
    have F_S4 := zz_fr.puts F_S qS4 (zMs_k6 (by omega) rfl)
    refine zz_iinc [some (.ref (zz_rf 3 t)), some (zi (x1 + 1))] zd_7_11_28 rfl rfl ?_
    refine zz_goto zd_7_11_31 ?_
    refine zz_less (ls1 := [some (.ref (zz_rf 3 t)), some (zi (x1 + 1))]) ⟨rfl, ⟨rfl, trivial⟩⟩ ?_
    exact k2 (x1 + 1) S4 G_S4 F_S4 (by omega) (by omega)
theorem zi_takeSpots_7_11 {g : mm_G} {l : Launch} (t : Int) (S0 : zz_S) (n : Nat) (hn : zz_end ≤ n) (G_S0 : zz_G S0) (ht : 0 ≤ t ∧ t ≤ 1) : ∀ N : Nat, (∀ (x1 : Int) (S : zz_S), zz_G S → zz_fr [(1003, 13), (1004, 13), (1005, 13), (1006, 13), (1007, 13), (1008, 13), (1009, 13), (1010, 13), (1011, 13), (1012, 13), (1013, 13), (1014, 13), (1017, 13), (1018, 13), (1019, 13), (1020, 13), (1021, 13), (1022, 13), (1023, 13), (1024, 13), (1025, 13), (1026, 13), (1027, 13), (1028, 13)] [] (fun _ _ => False) S0 S → (0 ≤ x1 ∧ x1 ≤ 11) → (S0 (zz_rf 3 t) 1 - x1).toNat < N → zz_E g l zy_takeSpots_7_11 zr_takeSpots_7_11 (zz_QV n (zp_takeSpots_7_11 t S0)) S n 2 [some (.ref (zz_rf 3 t)), some (zi x1)] [] 0 0) := by
  intro N
  induction N with
  | zero => exact fun x1 S _ _ _ h => absurd h (Nat.not_lt_zero _)
  | succ N ih =>
    exact fun x1 S a b j0 hR => zb_takeSpots_7_11_2 t S0 n hn G_S0 ht x1 S a b j0 _ rfl (fun x1 S a b j0 h => ih x1 S a b j0 (Nat.lt_of_lt_of_le h (Nat.le_of_lt_succ hR)))
theorem zc_takeSpots_7_11 {g : mm_G} {l : Launch} (t : Int) (S0 : zz_S) (n : Nat) (hn : zz_end ≤ n) (G_S0 : zz_G S0) (ht : 0 ≤ t ∧ t ≤ 1) : mm_Met g l zy_takeSpots_7_11 zr_takeSpots_7_11 [.ref (zz_rf 3 t)] (zz_M S0 n) n (zz_QV n (zp_takeSpots_7_11 t S0)) := by
  refine zz_enter (by decide) (Nat.le_of_ble_eq_true rfl) (zz_less (ls1 := [some (.ref (zz_rf 3 t))]) ⟨rfl, trivial⟩ ?_)
  have F_S0 : zz_fr [(1003, 13), (1004, 13), (1005, 13), (1006, 13), (1007, 13), (1008, 13), (1009, 13), (1010, 13), (1011, 13), (1012, 13), (1013, 13), (1014, 13), (1017, 13), (1018, 13), (1019, 13), (1020, 13), (1021, 13), (1022, 13), (1023, 13), (1024, 13), (1025, 13), (1026, 13), (1027, 13), (1028, 13)] [] (fun _ _ => False) S0 S0 := zz_fr.refl
  have k2 : ∀ (x1 : Int) (S : zz_S), zz_G S → zz_fr [(1003, 13), (1004, 13), (1005, 13), (1006, 13), (1007, 13), (1008, 13), (1009, 13), (1010, 13), (1011, 13), (1012, 13), (1013, 13), (1014, 13), (1017, 13), (1018, 13), (1019, 13), (1020, 13), (1021, 13), (1022, 13), (1023, 13), (1024, 13), (1025, 13), (1026, 13), (1027, 13), (1028, 13)] [] (fun _ _ => False) S0 S → (0 ≤ x1 ∧ x1 ≤ 11) → zz_E g l zy_takeSpots_7_11 zr_takeSpots_7_11 (zz_QV n (zp_takeSpots_7_11 t S0)) S n 2 [some (.ref (zz_rf 3 t)), some (zi x1)] [] 0 0 := fun x1 S a b j0 => (zi_takeSpots_7_11 (g := g) (l := l) t S0 n hn G_S0 ht _) x1 S a b j0 (Nat.lt_succ_self _)
  have b_t := zz_rf3 (z := t) (by omega)
  refine zz_iconst zd_7_11_0 ?_
  refine zz_istore_n [some (.ref (zz_rf 3 t)), some (zi 0)] zd_7_11_1 (by decide) rfl ?_
  refine zz_less (ls1 := [some (.ref (zz_rf 3 t)), some (zi 0)]) ⟨rfl, ⟨rfl, trivial⟩⟩ ?_
  exact k2 0 S0 G_S0 F_S0 (by omega)
theorem zk_TF_311 : mm_Vl "TensorForge" 311 1 0 zy_takeSpots_7_11 := ⟨zyw_takeSpots_7_11, (R_Network, F_Network, 2), rfl, mm_tb_1 1529 (by decide +kernel) rfl, mm_tb_1 1530 (by decide +kernel) rfl, mm_tb_1 1531 (by decide +kernel) rfl⟩
theorem zk_TF_314 : mm_Vl "TensorForge" 314 1 0 zy_endOfAll_7_8 := ⟨zyw_endOfAll_7_8, (R_Network, F_Network, 2), rfl, mm_tb_1 1533 (by decide +kernel) rfl, mm_tb_1 1010 (by decide +kernel) rfl, mm_tb_1 1011 (by decide +kernel) rfl⟩
theorem zg_1_27_28 : (decode zy_place_1_27.2.1 28 = .ok ((.aload_n 0), 1)) ∧ (decode zy_place_1_27.2.1 29 = .ok ((.getfield 10), 3)) ∧ (decode zy_place_1_27.2.1 32 = .ok ((.invokevirtual 314), 3)) ∧ (decode zy_place_1_27.2.1 35 = .ok ((.ireturn), 1)) := by decide +kernel
theorem zd_1_27_28 : zz_D zy_place_1_27 28 (.aload_n 0) 1 29 := ⟨zg_1_27_28.1, rfl⟩
theorem zd_1_27_29 : zz_D zy_place_1_27 29 (.getfield 10) 3 32 := ⟨zg_1_27_28.2.1, rfl⟩
theorem zd_1_27_32 : zz_D zy_place_1_27 32 (.invokevirtual 314) 3 35 := ⟨zg_1_27_28.2.2.1, rfl⟩
theorem zd_1_27_35 : zz_D zy_place_1_27 35 (.ireturn) 1 36 := ⟨zg_1_27_28.2.2.2, rfl⟩
-- TensorForge place ()I
abbrev zr_place_1_27 : Room := { frames := 6, cells := 1, slots := 6, locals := 82 }
def zp_place_1_27  (S0 : zz_S) : Int → zz_S → Prop := fun r S => zz_G S ∧ zz_fr [(1003, 13), (1003, 14), (1004, 13), (1004, 14), (1005, 13), (1005, 14), (1006, 13), (1006, 14), (1007, 13), (1007, 14), (1008, 13), (1008, 14), (1009, 13), (1009, 14), (1010, 13), (1010, 14), (1011, 13), (1011, 14), (1012, 13), (1012, 14), (1013, 13), (1013, 14), (1014, 13), (1014, 14), (1017, 13), (1017, 14), (1018, 13), (1018, 14), (1019, 13), (1019, 14), (1020, 13), (1020, 14), (1021, 13), (1021, 14), (1022, 13), (1022, 14), (1023, 13), (1023, 14), (1024, 13), (1024, 14), (1025, 13), (1025, 14), (1026, 13), (1026, 14), (1027, 13), (1027, 14), (1028, 13), (1028, 14)] [] (fun a i => (a = zz_rf 6 (12 * (S0 1000 7) + 0) ∧ i = 14)) S0 S ∧ ((-2147483648) ≤ r ∧ r ≤ 2147483647)
def zx_place_1_27  (S0 : zz_S) : Nat → zz_S → Prop := fun i S => zz_G S ∧ zz_fr [(1003, 13), (1003, 14), (1004, 13), (1004, 14), (1005, 13), (1005, 14), (1006, 13), (1006, 14), (1007, 13), (1007, 14), (1008, 13), (1008, 14), (1009, 13), (1009, 14), (1010, 13), (1010, 14), (1011, 13), (1011, 14), (1012, 13), (1012, 14), (1013, 13), (1013, 14), (1014, 13), (1014, 14), (1017, 13), (1017, 14), (1018, 13), (1018, 14), (1019, 13), (1019, 14), (1020, 13), (1020, 14), (1021, 13), (1021, 14), (1022, 13), (1022, 14), (1023, 13), (1023, 14), (1024, 13), (1024, 14), (1025, 13), (1025, 14), (1026, 13), (1026, 14), (1027, 13), (1027, 14), (1028, 13), (1028, 14)] [] (fun a i => (a = zz_rf 6 (12 * (S0 1000 7) + 0) ∧ i = 14)) S0 S ∧ (i < 4) ∧ (i = 2)
theorem zc_place_1_27 {g : mm_G} {l : Launch}  (S0 : zz_S) (n : Nat) (hn : zz_end ≤ n) (hfl : l.flags = flags0) (G_S0 : zz_G S0)  : mm_Met g l zy_place_1_27 zr_place_1_27 [.ref 1000] (zz_M S0 n) n (zz_XI n (zp_place_1_27  S0) (zx_place_1_27  S0)) := by
  refine zz_enter (by decide) (Nat.le_of_ble_eq_true rfl) (zz_less (ls1 := [some (.ref 1000)]) ⟨rfl, trivial⟩ ?_)
  have F_S0 : zz_fr [(1003, 13), (1003, 14), (1004, 13), (1004, 14), (1005, 13), (1005, 14), (1006, 13), (1006, 14), (1007, 13), (1007, 14), (1008, 13), (1008, 14), (1009, 13), (1009, 14), (1010, 13), (1010, 14), (1011, 13), (1011, 14), (1012, 13), (1012, 14), (1013, 13), (1013, 14), (1014, 13), (1014, 14), (1017, 13), (1017, 14), (1018, 13), (1018, 14), (1019, 13), (1019, 14), (1020, 13), (1020, 14), (1021, 13), (1021, 14), (1022, 13), (1022, 14), (1023, 13), (1023, 14), (1024, 13), (1024, 14), (1025, 13), (1025, 14), (1026, 13), (1026, 14), (1027, 13), (1027, 14), (1028, 13), (1028, 14)] [] (fun a i => (a = zz_rf 6 (12 * (S0 1000 7) + 0) ∧ i = 14)) S0 S0 := zz_fr.refl
  refine zz_aload_n (x := 1000) rfl zd_1_27_0 ?_
  have g1 := zz_G.r G_S0 1000 7 0 1 rfl rfl
  refine zz_getr (kd := 1) (z := S0 1000 7) zd_1_27_1 zf_TF_10 zT_1000 rfl (zz_ltn hn rfl) rfl (by omega) (zz_rf 3 (S0 1000 7)) rfl ?_
  refine zz_callVI [] zd_1_27_4 zk_TF_305 (zT_k3 (by omega)) (zN_k3 hn (by omega)) rfl rfl ⟨Nat.le_of_ble_eq_true rfl, Nat.le_of_ble_eq_true rfl⟩ ⟨rfl, rfl⟩ (Nat.zero_le _) (Nat.zero_le _) (zc_findSpots_7_10 (S0 1000 7) S0 n hn G_S0 (by omega)) (fun v3 S2 hP => ?_)
  obtain ⟨G_S2, fS2, o4⟩ := hP
  have g5 := zz_G.r G_S0 1000 7 0 1 rfl rfl
  have F_S2 := zz_fr.trans F_S0 fS2 rfl (fun a i h => Or.inr (Or.inr (h)))
  have b6 := zz_rf6 (z := (12 * (S0 1000 7) + 0)) (by omega)
  rcases (by omega : v3 = 0 ∨ v3 = 1) with rfl | rfl
  · refine zz_if_ne (by omega) zd_1_27_7 (fun c7 => ?_) (fun c7 => ?_)
    · exfalso; omega
    · exact zz_throwW (i := 2) hfl hn zt_1_27_10 zyw_place_1_27 zxl_TF_126_309_130 (Nat.le_of_ble_eq_true rfl) (Nat.le_of_ble_eq_true rfl) ⟨Nat.le_of_ble_eq_true rfl, Nat.le_of_ble_eq_true rfl⟩ (Or.inr ⟨_, _, rfl, G_S2, F_S2, by omega, by omega⟩)
  · refine zz_if_ne (by omega) zd_1_27_7 (fun c8 => ?_) (fun c8 => ?_)
    · refine zz_aload_n (x := 1000) rfl zd_1_27_21 ?_
      refine zz_getr (kd := 1) (z := S0 1000 7) zd_1_27_22 zf_TF_10 zT_1000 rfl (zz_ltn hn rfl) (zz_rc fS2 rfl rfl (by omega) rfl) (by omega) (zz_rf 3 (S0 1000 7)) rfl ?_
      refine zz_callVV [] zd_1_27_25 zk_TF_311 (zT_k3 (by omega)) (zN_k3 hn (by omega)) rfl rfl ⟨Nat.le_of_ble_eq_true rfl, Nat.le_of_ble_eq_true rfl⟩ ⟨rfl, rfl⟩ (Nat.zero_le _) (Nat.zero_le _) (zc_takeSpots_7_11 (S0 1000 7) S2 n hn G_S2 (by omega)) (fun S9 hP => ?_)
      obtain ⟨G_S9, fS9⟩ := hP
      have F_S9 := zz_fr.trans F_S2 fS9 rfl zz_nv
      refine zz_aload_n (x := 1000) rfl zd_1_27_28 ?_
      refine zz_getr (kd := 1) (z := S0 1000 7) zd_1_27_29 zf_TF_10 zT_1000 rfl (zz_ltn hn rfl) (zz_rc fS9 rfl rfl (fun h => h) (zz_rc fS2 rfl rfl (by omega) rfl)) (by omega) (zz_rf 3 (S0 1000 7)) rfl ?_
      refine zz_callVI [] zd_1_27_32 zk_TF_314 (zT_k3 (by omega)) (zN_k3 hn (by omega)) rfl rfl ⟨Nat.le_of_ble_eq_true rfl, Nat.le_of_ble_eq_true rfl⟩ ⟨rfl, rfl⟩ (Nat.zero_le _) (Nat.zero_le _) (zc_endOfAll_7_8 (S0 1000 7) S9 n hn G_S9 (by omega)) (fun v12 S11 hP => ?_)
      obtain ⟨rfl, o13⟩ := hP
      exact zz_iret zd_1_27_35 rfl (Nat.le_of_ble_eq_true rfl) (Nat.le_of_ble_eq_true rfl) (Or.inl ⟨_, _, rfl, G_S9, F_S9, by omega⟩)
    · exfalso; omega
abbrev zy_under_1_28 : mm_Y := (⟨"TensorForge", "under", "(II)I"⟩, prog_1_method_28_code, 3, (some .int))
theorem zyw_under_1_28 : mm_Yw zy_under_1_28 2 := ⟨mm_tb_1 1540 (by decide +kernel) rfl, mm_tb_1 1 (by decide +kernel) rfl, ⟨by decide, by decide⟩, by decide +kernel⟩
abbrev zy_needUnitAndCycle_1_33 : mm_Y := (⟨"TensorForge", "needUnitAndCycle", "(II)V"⟩, prog_1_method_33_code, 3, none)
theorem zyw_needUnitAndCycle_1_33 : mm_Yw zy_needUnitAndCycle_1_33 2 := ⟨mm_tb_1 1544 (by decide +kernel) rfl, mm_tb_1 1 (by decide +kernel) rfl, ⟨by decide, by decide⟩, by decide +kernel⟩
theorem zt_1_33_13 : zz_ThrW zy_needUnitAndCycle_1_33 13 87 338 91 := ⟨by decide +kernel, by decide +kernel, by decide +kernel, by decide +kernel, by decide +kernel⟩
theorem zxl_TF_87_338_91 : mm_Xl "TensorForge" 87 338 91 0 := ⟨mm_tb_1 1048 (by decide +kernel) rfl, mm_tb_1 1049 (by decide +kernel) rfl, mm_tb_1 16 (by decide +kernel) rfl, ⟨58, by decide +kernel⟩, zxa_TF_91⟩
theorem zg_1_28_0 : (decode zy_under_1_28.2.1 0 = .ok ((.aload_n 0), 1)) ∧ (decode zy_under_1_28.2.1 1 = .ok ((.invokevirtual 191), 3)) ∧ (decode zy_under_1_28.2.1 4 = .ok ((.aload_n 0), 1)) ∧ (decode zy_under_1_28.2.1 5 = .ok ((.iload_n 1), 1)) ∧ (decode zy_under_1_28.2.1 6 = .ok ((.iload_n 2), 1)) ∧ (decode zy_under_1_28.2.1 7 = .ok ((.invokevirtual 317), 3)) := by decide +kernel
theorem zd_1_28_0 : zz_D zy_under_1_28 0 (.aload_n 0) 1 1 := ⟨zg_1_28_0.1, rfl⟩
theorem zd_1_28_1 : zz_D zy_under_1_28 1 (.invokevirtual 191) 3 4 := ⟨zg_1_28_0.2.1, rfl⟩
theorem zd_1_28_4 : zz_D zy_under_1_28 4 (.aload_n 0) 1 5 := ⟨zg_1_28_0.2.2.1, rfl⟩
theorem zd_1_28_5 : zz_D zy_under_1_28 5 (.iload_n 1) 1 6 := ⟨zg_1_28_0.2.2.2.1, rfl⟩
theorem zd_1_28_6 : zz_D zy_under_1_28 6 (.iload_n 2) 1 7 := ⟨zg_1_28_0.2.2.2.2.1, rfl⟩
theorem zd_1_28_7 : zz_D zy_under_1_28 7 (.invokevirtual 317) 3 10 := ⟨zg_1_28_0.2.2.2.2.2, rfl⟩
theorem zg_1_33_0 : (decode zy_needUnitAndCycle_1_33.2.1 0 = .ok ((.iload_n 1), 1)) ∧ (decode zy_needUnitAndCycle_1_33.2.1 1 = .ok ((Instr.ifCond .lt) 12, 3)) ∧ (decode zy_needUnitAndCycle_1_33.2.1 4 = .ok ((.iload_n 1), 1)) ∧ (decode zy_needUnitAndCycle_1_33.2.1 5 = .ok ((.iconst 3), 1)) ∧ (decode zy_needUnitAndCycle_1_33.2.1 6 = .ok ((Instr.if_icmp .ge) 7, 3)) ∧ (decode zy_needUnitAndCycle_1_33.2.1 9 = .ok ((.iload_n 2), 1)) ∧ (decode zy_needUnitAndCycle_1_33.2.1 10 = .ok ((Instr.ifCond .ge) 14, 3)) ∧ (decode zy_needUnitAndCycle_1_33.2.1 24 = .ok ((.return_), 1)) := by decide +kernel
theorem zd_1_33_0 : zz_D zy_needUnitAndCycle_1_33 0 (.iload_n 1) 1 1 := ⟨zg_1_33_0.1, rfl⟩
theorem zd_1_33_1 : zz_B zy_needUnitAndCycle_1_33 1 (Instr.ifCond .lt) 13 4 := ⟨12, zg_1_33_0.2.1, rfl, rfl⟩
theorem zd_1_33_4 : zz_D zy_needUnitAndCycle_1_33 4 (.iload_n 1) 1 5 := ⟨zg_1_33_0.2.2.1, rfl⟩
theorem zd_1_33_5 : zz_D zy_needUnitAndCycle_1_33 5 (.iconst 3) 1 6 := ⟨zg_1_33_0.2.2.2.1, rfl⟩
theorem zd_1_33_6 : zz_B zy_needUnitAndCycle_1_33 6 (Instr.if_icmp .ge) 13 9 := ⟨7, zg_1_33_0.2.2.2.2.1, rfl, rfl⟩
theorem zd_1_33_9 : zz_D zy_needUnitAndCycle_1_33 9 (.iload_n 2) 1 10 := ⟨zg_1_33_0.2.2.2.2.2.1, rfl⟩
theorem zd_1_33_10 : zz_B zy_needUnitAndCycle_1_33 10 (Instr.ifCond .ge) 24 13 := ⟨14, zg_1_33_0.2.2.2.2.2.2.1, rfl, rfl⟩
theorem zd_1_33_24 : zz_D zy_needUnitAndCycle_1_33 24 (.return_) 1 25 := ⟨zg_1_33_0.2.2.2.2.2.2.2, rfl⟩
-- TensorForge needUnitAndCycle (II)V
abbrev zr_needUnitAndCycle_1_33 : Room := { frames := 6, cells := 1, slots := 6, locals := 82 }
def zp_needUnitAndCycle_1_33 (p0 : Int) (p1 : Int) (S0 : zz_S) : zz_S → Prop := fun S => S0 = S
def zx_needUnitAndCycle_1_33 (p0 : Int) (p1 : Int) (S0 : zz_S) : Nat → zz_S → Prop := fun i S => S0 = S ∧ (i < 4) ∧ (i = 0)
theorem zc_needUnitAndCycle_1_33 {g : mm_G} {l : Launch} (p0 : Int) (p1 : Int) (S0 : zz_S) (n : Nat) (hn : zz_end ≤ n) (hfl : l.flags = flags0) (G_S0 : zz_G S0) (hp0 : (-2147483648) ≤ p0 ∧ p0 ≤ 2147483647) (hp1 : (-2147483648) ≤ p1 ∧ p1 ≤ 2147483647) : mm_Met g l zy_needUnitAndCycle_1_33 zr_needUnitAndCycle_1_33 [.ref 1000, zi p0, zi p1] (zz_M S0 n) n (zz_XV n (zp_needUnitAndCycle_1_33 p0 p1 S0) (zx_needUnitAndCycle_1_33 p0 p1 S0)) := by
  refine zz_enter (by decide) (Nat.le_of_ble_eq_true rfl) (zz_less (ls1 := [some (.ref 1000), some (zi p0), some (zi p1)]) ⟨rfl, ⟨rfl, ⟨rfl, trivial⟩⟩⟩ ?_)
  refine zz_iload_n (x := p0) rfl zd_1_33_0 ?_
  refine zz_if_lt (by omega) zd_1_33_1 (fun c1 => ?_) (fun c1 => ?_)
  · exact zz_throwW (i := 0) hfl hn zt_1_33_13 zyw_needUnitAndCycle_1_33 zxl_TF_87_338_91 (Nat.le_of_ble_eq_true rfl) (Nat.le_of_ble_eq_true rfl) ⟨Nat.le_of_ble_eq_true rfl, Nat.le_of_ble_eq_true rfl⟩ (Or.inr ⟨_, _, rfl, rfl, by omega, by omega⟩)
  · refine zz_iload_n (x := p0) rfl zd_1_33_4 ?_
    refine zz_iconst zd_1_33_5 ?_
    refine zz_icmp_ge (by omega) (by omega) zd_1_33_6 (fun c2 => ?_) (fun c2 => ?_)
    · exact zz_throwW (i := 0) hfl hn zt_1_33_13 zyw_needUnitAndCycle_1_33 zxl_TF_87_338_91 (Nat.le_of_ble_eq_true rfl) (Nat.le_of_ble_eq_true rfl) ⟨Nat.le_of_ble_eq_true rfl, Nat.le_of_ble_eq_true rfl⟩ (Or.inr ⟨_, _, rfl, rfl, by omega, by omega⟩)
    · refine zz_iload_n (x := p1) rfl zd_1_33_9 ?_
      refine zz_if_ge (by omega) zd_1_33_10 (fun c3 => ?_) (fun c3 => ?_)
      · exact zz_vret zd_1_33_24 rfl (Nat.le_of_ble_eq_true rfl) (Nat.le_of_ble_eq_true rfl) (Or.inl ⟨_, rfl, rfl⟩)
      · exact zz_throwW (i := 0) hfl hn zt_1_33_13 zyw_needUnitAndCycle_1_33 zxl_TF_87_338_91 (Nat.le_of_ble_eq_true rfl) (Nat.le_of_ble_eq_true rfl) ⟨Nat.le_of_ble_eq_true rfl, Nat.le_of_ble_eq_true rfl⟩ (Or.inr ⟨_, _, rfl, rfl, by omega, by omega⟩)
theorem zk_TF_317 : mm_Vl "TensorForge" 317 0 2 zy_needUnitAndCycle_1_33 := ⟨zyw_needUnitAndCycle_1_33, (R_TF, F_TF, 12), rfl, mm_tb_1 1541 (by decide +kernel) rfl, mm_tb_1 1543 (by decide +kernel) rfl, mm_tb_s 79 (by decide +kernel) rfl⟩
abbrev zy_underWayAt_10_24 : mm_Y := (⟨"TensorForge$Run", "underWayAt", "(II)I"⟩, prog_10_method_24_code, 4, (some .int))
theorem zyw_underWayAt_10_24 : mm_Yw zy_underWayAt_10_24 2 := ⟨mm_tb_1 1549 (by decide +kernel) rfl, mm_tb_1 6 (by decide +kernel) rfl, ⟨by decide, by decide⟩, by decide +kernel⟩
abbrev zy_hadBegun_10_22 : mm_Y := (⟨"TensorForge$Run", "hadBegun", "(II)Z"⟩, prog_10_method_22_code, 3, (some .boolean))
theorem zyw_hadBegun_10_22 : mm_Yw zy_hadBegun_10_22 2 := ⟨mm_tb_1 1553 (by decide +kernel) rfl, mm_tb_1 6 (by decide +kernel) rfl, ⟨by decide, by decide⟩, by decide +kernel⟩
theorem zg_1_28_10 : (decode zy_under_1_28.2.1 10 = .ok ((.aload_n 0), 1)) ∧ (decode zy_under_1_28.2.1 11 = .ok ((.getfield 42), 3)) ∧ (decode zy_under_1_28.2.1 14 = .ok ((.iload_n 1), 1)) ∧ (decode zy_under_1_28.2.1 15 = .ok ((.iload_n 2), 1)) ∧ (decode zy_under_1_28.2.1 16 = .ok ((.invokevirtual 320), 3)) := by decide +kernel
theorem zd_1_28_10 : zz_D zy_under_1_28 10 (.aload_n 0) 1 11 := ⟨zg_1_28_10.1, rfl⟩
theorem zd_1_28_11 : zz_D zy_under_1_28 11 (.getfield 42) 3 14 := ⟨zg_1_28_10.2.1, rfl⟩
theorem zd_1_28_14 : zz_D zy_under_1_28 14 (.iload_n 1) 1 15 := ⟨zg_1_28_10.2.2.1, rfl⟩
theorem zd_1_28_15 : zz_D zy_under_1_28 15 (.iload_n 2) 1 16 := ⟨zg_1_28_10.2.2.2.1, rfl⟩
theorem zd_1_28_16 : zz_D zy_under_1_28 16 (.invokevirtual 320) 3 19 := ⟨zg_1_28_10.2.2.2.2, rfl⟩
theorem zg_10_24_0 : (decode zy_underWayAt_10_24.2.1 0 = .ok ((.iconst 0), 1)) ∧ (decode zy_underWayAt_10_24.2.1 1 = .ok ((.istore_n 3), 1)) ∧ (decode zy_underWayAt_10_24.2.1 2 = .ok ((.iload_n 3), 1)) ∧ (decode zy_underWayAt_10_24.2.1 3 = .ok ((.aload_n 0), 1)) ∧ (decode zy_underWayAt_10_24.2.1 4 = .ok ((.getfield 46), 3)) ∧ (decode zy_underWayAt_10_24.2.1 7 = .ok ((Instr.if_icmp .ge) 42, 3)) ∧ (decode zy_underWayAt_10_24.2.1 49 = .ok ((.iconst (-1)), 1)) ∧ (decode zy_underWayAt_10_24.2.1 50 = .ok ((.ireturn), 1)) ∧ (decode zy_underWayAt_10_24.2.1 10 = .ok ((.aload_n 0), 1)) ∧ (decode zy_underWayAt_10_24.2.1 11 = .ok ((.getfield 19), 3)) := by decide +kernel
theorem zd_10_24_0 : zz_D zy_underWayAt_10_24 0 (.iconst 0) 1 1 := ⟨zg_10_24_0.1, rfl⟩
theorem zd_10_24_1 : zz_D zy_underWayAt_10_24 1 (.istore_n 3) 1 2 := ⟨zg_10_24_0.2.1, rfl⟩
theorem zd_10_24_2 : zz_D zy_underWayAt_10_24 2 (.iload_n 3) 1 3 := ⟨zg_10_24_0.2.2.1, rfl⟩
theorem zd_10_24_3 : zz_D zy_underWayAt_10_24 3 (.aload_n 0) 1 4 := ⟨zg_10_24_0.2.2.2.1, rfl⟩
theorem zd_10_24_4 : zz_D zy_underWayAt_10_24 4 (.getfield 46) 3 7 := ⟨zg_10_24_0.2.2.2.2.1, rfl⟩
theorem zd_10_24_7 : zz_B zy_underWayAt_10_24 7 (Instr.if_icmp .ge) 49 10 := ⟨42, zg_10_24_0.2.2.2.2.2.1, rfl, rfl⟩
theorem zd_10_24_49 : zz_D zy_underWayAt_10_24 49 (.iconst (-1)) 1 50 := ⟨zg_10_24_0.2.2.2.2.2.2.1, rfl⟩
theorem zd_10_24_50 : zz_D zy_underWayAt_10_24 50 (.ireturn) 1 51 := ⟨zg_10_24_0.2.2.2.2.2.2.2.1, rfl⟩
theorem zd_10_24_10 : zz_D zy_underWayAt_10_24 10 (.aload_n 0) 1 11 := ⟨zg_10_24_0.2.2.2.2.2.2.2.2.1, rfl⟩
theorem zd_10_24_11 : zz_D zy_underWayAt_10_24 11 (.getfield 19) 3 14 := ⟨zg_10_24_0.2.2.2.2.2.2.2.2.2, rfl⟩
theorem zg_10_24_14 : (decode zy_underWayAt_10_24.2.1 14 = .ok ((.iload_n 3), 1)) ∧ (decode zy_underWayAt_10_24.2.1 15 = .ok ((.laload), 1)) ∧ (decode zy_underWayAt_10_24.2.1 16 = .ok ((.invokestatic 107), 3)) ∧ (decode zy_underWayAt_10_24.2.1 19 = .ok ((.iload_n 1), 1)) ∧ (decode zy_underWayAt_10_24.2.1 20 = .ok ((Instr.if_icmp .ne) 23, 3)) ∧ (decode zy_underWayAt_10_24.2.1 43 = .ok ((.iinc 3 1), 3)) ∧ (decode zy_underWayAt_10_24.2.1 46 = .ok (Instr.goto (-44), 3)) ∧ (decode zy_underWayAt_10_24.2.1 23 = .ok ((.aload_n 0), 1)) ∧ (decode zy_underWayAt_10_24.2.1 24 = .ok ((.iload_n 3), 1)) ∧ (decode zy_underWayAt_10_24.2.1 25 = .ok ((.iload_n 2), 1)) := by decide +kernel
theorem zd_10_24_14 : zz_D zy_underWayAt_10_24 14 (.iload_n 3) 1 15 := ⟨zg_10_24_14.1, rfl⟩
theorem zd_10_24_15 : zz_D zy_underWayAt_10_24 15 (.laload) 1 16 := ⟨zg_10_24_14.2.1, rfl⟩
theorem zd_10_24_16 : zz_D zy_underWayAt_10_24 16 (.invokestatic 107) 3 19 := ⟨zg_10_24_14.2.2.1, rfl⟩
theorem zd_10_24_19 : zz_D zy_underWayAt_10_24 19 (.iload_n 1) 1 20 := ⟨zg_10_24_14.2.2.2.1, rfl⟩
theorem zd_10_24_20 : zz_B zy_underWayAt_10_24 20 (Instr.if_icmp .ne) 43 23 := ⟨23, zg_10_24_14.2.2.2.2.1, rfl, rfl⟩
theorem zd_10_24_43 : zz_D zy_underWayAt_10_24 43 (.iinc 3 1) 3 46 := ⟨zg_10_24_14.2.2.2.2.2.1, rfl⟩
theorem zd_10_24_46 : zz_B zy_underWayAt_10_24 46 Instr.goto 2 49 := ⟨(-44), zg_10_24_14.2.2.2.2.2.2.1, rfl, rfl⟩
theorem zd_10_24_23 : zz_D zy_underWayAt_10_24 23 (.aload_n 0) 1 24 := ⟨zg_10_24_14.2.2.2.2.2.2.2.1, rfl⟩
theorem zd_10_24_24 : zz_D zy_underWayAt_10_24 24 (.iload_n 3) 1 25 := ⟨zg_10_24_14.2.2.2.2.2.2.2.2.1, rfl⟩
theorem zd_10_24_25 : zz_D zy_underWayAt_10_24 25 (.iload_n 2) 1 26 := ⟨zg_10_24_14.2.2.2.2.2.2.2.2.2, rfl⟩
theorem zd_10_24_26 : zz_D zy_underWayAt_10_24 26 (.invokevirtual 176) 3 29 := ⟨by decide +kernel, rfl⟩
theorem zg_10_22_0 : (decode zy_hadBegun_10_22.2.1 0 = .ok ((.aload_n 0), 1)) ∧ (decode zy_hadBegun_10_22.2.1 1 = .ok ((.getfield 23), 3)) ∧ (decode zy_hadBegun_10_22.2.1 4 = .ok ((.iload_n 1), 1)) ∧ (decode zy_hadBegun_10_22.2.1 5 = .ok ((.iaload), 1)) ∧ (decode zy_hadBegun_10_22.2.1 6 = .ok ((.iconst (-1)), 1)) ∧ (decode zy_hadBegun_10_22.2.1 7 = .ok ((Instr.if_icmp .eq) 17, 3)) ∧ (decode zy_hadBegun_10_22.2.1 24 = .ok ((.iconst 0), 1)) ∧ (decode zy_hadBegun_10_22.2.1 25 = .ok ((.ireturn), 1)) ∧ (decode zy_hadBegun_10_22.2.1 10 = .ok ((.aload_n 0), 1)) ∧ (decode zy_hadBegun_10_22.2.1 11 = .ok ((.getfield 23), 3)) := by decide +kernel
theorem zd_10_22_0 : zz_D zy_hadBegun_10_22 0 (.aload_n 0) 1 1 := ⟨zg_10_22_0.1, rfl⟩
theorem zd_10_22_1 : zz_D zy_hadBegun_10_22 1 (.getfield 23) 3 4 := ⟨zg_10_22_0.2.1, rfl⟩
theorem zd_10_22_4 : zz_D zy_hadBegun_10_22 4 (.iload_n 1) 1 5 := ⟨zg_10_22_0.2.2.1, rfl⟩
theorem zd_10_22_5 : zz_D zy_hadBegun_10_22 5 (.iaload) 1 6 := ⟨zg_10_22_0.2.2.2.1, rfl⟩
theorem zd_10_22_6 : zz_D zy_hadBegun_10_22 6 (.iconst (-1)) 1 7 := ⟨zg_10_22_0.2.2.2.2.1, rfl⟩
theorem zd_10_22_7 : zz_B zy_hadBegun_10_22 7 (Instr.if_icmp .eq) 24 10 := ⟨17, zg_10_22_0.2.2.2.2.2.1, rfl, rfl⟩
theorem zd_10_22_24 : zz_D zy_hadBegun_10_22 24 (.iconst 0) 1 25 := ⟨zg_10_22_0.2.2.2.2.2.2.1, rfl⟩
theorem zd_10_22_25 : zz_D zy_hadBegun_10_22 25 (.ireturn) 1 26 := ⟨zg_10_22_0.2.2.2.2.2.2.2.1, rfl⟩
theorem zd_10_22_10 : zz_D zy_hadBegun_10_22 10 (.aload_n 0) 1 11 := ⟨zg_10_22_0.2.2.2.2.2.2.2.2.1, rfl⟩
theorem zd_10_22_11 : zz_D zy_hadBegun_10_22 11 (.getfield 23) 3 14 := ⟨zg_10_22_0.2.2.2.2.2.2.2.2.2, rfl⟩
theorem zg_10_22_14 : (decode zy_hadBegun_10_22.2.1 14 = .ok ((.iload_n 1), 1)) ∧ (decode zy_hadBegun_10_22.2.1 15 = .ok ((.iaload), 1)) ∧ (decode zy_hadBegun_10_22.2.1 16 = .ok ((.iload_n 2), 1)) ∧ (decode zy_hadBegun_10_22.2.1 17 = .ok ((Instr.if_icmp .gt) 7, 3)) ∧ (decode zy_hadBegun_10_22.2.1 20 = .ok ((.iconst 1), 1)) ∧ (decode zy_hadBegun_10_22.2.1 21 = .ok (Instr.goto 4, 3)) := by decide +kernel
theorem zd_10_22_14 : zz_D zy_hadBegun_10_22 14 (.iload_n 1) 1 15 := ⟨zg_10_22_14.1, rfl⟩
theorem zd_10_22_15 : zz_D zy_hadBegun_10_22 15 (.iaload) 1 16 := ⟨zg_10_22_14.2.1, rfl⟩
theorem zd_10_22_16 : zz_D zy_hadBegun_10_22 16 (.iload_n 2) 1 17 := ⟨zg_10_22_14.2.2.1, rfl⟩
theorem zd_10_22_17 : zz_B zy_hadBegun_10_22 17 (Instr.if_icmp .gt) 24 20 := ⟨7, zg_10_22_14.2.2.2.1, rfl, rfl⟩
theorem zd_10_22_20 : zz_D zy_hadBegun_10_22 20 (.iconst 1) 1 21 := ⟨zg_10_22_14.2.2.2.2.1, rfl⟩
theorem zd_10_22_21 : zz_B zy_hadBegun_10_22 21 Instr.goto 25 24 := ⟨4, zg_10_22_14.2.2.2.2.2, rfl, rfl⟩
-- TensorForge$Run hadBegun (II)Z
abbrev zr_hadBegun_10_22 : Room := { frames := 0, cells := 0, slots := 0, locals := 0 }
def zp_hadBegun_10_22 (p0 : Int) (p1 : Int) (S0 : zz_S) : Int → zz_S → Prop := fun r S => S0 = S ∧ (0 ≤ r ∧ r ≤ 1)
theorem zc_hadBegun_10_22 {g : mm_G} {l : Launch} (p0 : Int) (p1 : Int) (S0 : zz_S) (n : Nat) (hn : zz_end ≤ n) (G_S0 : zz_G S0) (hp0 : 0 ≤ p0 ∧ p0 ≤ 599) (hp1 : (-2147483648) ≤ p1 ∧ p1 ≤ 2147483647) : mm_Met g l zy_hadBegun_10_22 zr_hadBegun_10_22 [.ref 1042, zi p0, zi p1] (zz_M S0 n) n (zz_QI n (zp_hadBegun_10_22 p0 p1 S0)) := by
  refine zz_enter (by decide) (Nat.le_of_ble_eq_true rfl) (zz_less (ls1 := [some (.ref 1042), some (zi p0), some (zi p1)]) ⟨rfl, ⟨rfl, ⟨rfl, trivial⟩⟩⟩ ?_)
  refine zz_aload_n (x := 1042) rfl zd_10_22_0 ?_
  refine zz_getr (kd := 0) (z := 1045) zd_10_22_1 zf_Run_23 zT_1042 rfl (zz_ltn hn rfl) (zz_G.eq G_S0 1042 3 1045 rfl rfl) (by decide) 1045 rfl ?_
  refine zz_iload_n (x := p0) rfl zd_10_22_4 ?_
  have g1 := zz_G.r G_S0 1045 p0.toNat (-2147483648) 2147483647 rfl rfl
  refine zz_iald (z := S0 1045 p0.toNat) zd_10_22_5 zT_1045 rfl (zz_ltn hn rfl) (by decide) (by omega) rfl ?_
  refine zz_iconst zd_10_22_6 ?_
  refine zz_icmp_eq (by omega) (by omega) zd_10_22_7 (fun c2 => ?_) (fun c2 => ?_)
  · refine zz_iconst zd_10_22_24 ?_
    exact zz_zret zd_10_22_25 rfl (by omega) (Nat.zero_le _) (Nat.zero_le _) ⟨_, _, rfl, rfl, by omega⟩
  · refine zz_aload_n (x := 1042) rfl zd_10_22_10 ?_
    refine zz_getr (kd := 0) (z := 1045) zd_10_22_11 zf_Run_23 zT_1042 rfl (zz_ltn hn rfl) (zz_G.eq G_S0 1042 3 1045 rfl rfl) (by decide) 1045 rfl ?_
    refine zz_iload_n (x := p0) rfl zd_10_22_14 ?_
    refine zz_iald (z := S0 1045 p0.toNat) zd_10_22_15 zT_1045 rfl (zz_ltn hn rfl) (by decide) (by omega) rfl ?_
    refine zz_iload_n (x := p1) rfl zd_10_22_16 ?_
    refine zz_icmp_gt (by omega) (by omega) zd_10_22_17 (fun c3 => ?_) (fun c3 => ?_)
    · refine zz_iconst zd_10_22_24 ?_
      exact zz_zret zd_10_22_25 rfl (by omega) (Nat.zero_le _) (Nat.zero_le _) ⟨_, _, rfl, rfl, by omega⟩
    · refine zz_iconst zd_10_22_20 ?_
      refine zz_goto zd_10_22_21 ?_
      exact zz_zret zd_10_22_25 rfl (by omega) (Nat.zero_le _) (Nat.zero_le _) ⟨_, _, rfl, rfl, by omega⟩
theorem zk_Run_176 : mm_Vl "TensorForge$Run" 176 5 2 zy_hadBegun_10_22 := ⟨zyw_hadBegun_10_22, (R_Run, F_Run, 10), rfl, mm_tb_1 1550 (by decide +kernel) rfl, mm_tb_1 1552 (by decide +kernel) rfl, mm_tb_s 80 (by decide +kernel) rfl⟩
abbrev zy_hadEnded_10_23 : mm_Y := (⟨"TensorForge$Run", "hadEnded", "(II)Z"⟩, prog_10_method_23_code, 3, (some .boolean))
theorem zyw_hadEnded_10_23 : mm_Yw zy_hadEnded_10_23 2 := ⟨mm_tb_1 1557 (by decide +kernel) rfl, mm_tb_1 6 (by decide +kernel) rfl, ⟨by decide, by decide⟩, by decide +kernel⟩
theorem zg_10_24_29 : (decode zy_underWayAt_10_24.2.1 29 = .ok ((Instr.ifCond .eq) 14, 3)) ∧ (decode zy_underWayAt_10_24.2.1 32 = .ok ((.aload_n 0), 1)) ∧ (decode zy_underWayAt_10_24.2.1 33 = .ok ((.iload_n 3), 1)) ∧ (decode zy_underWayAt_10_24.2.1 34 = .ok ((.iload_n 2), 1)) ∧ (decode zy_underWayAt_10_24.2.1 35 = .ok ((.invokevirtual 180), 3)) := by decide +kernel
theorem zd_10_24_29 : zz_B zy_underWayAt_10_24 29 (Instr.ifCond .eq) 43 32 := ⟨14, zg_10_24_29.1, rfl, rfl⟩
theorem zd_10_24_32 : zz_D zy_underWayAt_10_24 32 (.aload_n 0) 1 33 := ⟨zg_10_24_29.2.1, rfl⟩
theorem zd_10_24_33 : zz_D zy_underWayAt_10_24 33 (.iload_n 3) 1 34 := ⟨zg_10_24_29.2.2.1, rfl⟩
theorem zd_10_24_34 : zz_D zy_underWayAt_10_24 34 (.iload_n 2) 1 35 := ⟨zg_10_24_29.2.2.2.1, rfl⟩
theorem zd_10_24_35 : zz_D zy_underWayAt_10_24 35 (.invokevirtual 180) 3 38 := ⟨zg_10_24_29.2.2.2.2, rfl⟩
theorem zg_10_23_0 : (decode zy_hadEnded_10_23.2.1 0 = .ok ((.aload_n 0), 1)) ∧ (decode zy_hadEnded_10_23.2.1 1 = .ok ((.getfield 26), 3)) ∧ (decode zy_hadEnded_10_23.2.1 4 = .ok ((.iload_n 1), 1)) ∧ (decode zy_hadEnded_10_23.2.1 5 = .ok ((.iaload), 1)) ∧ (decode zy_hadEnded_10_23.2.1 6 = .ok ((.iconst (-1)), 1)) ∧ (decode zy_hadEnded_10_23.2.1 7 = .ok ((Instr.if_icmp .eq) 17, 3)) ∧ (decode zy_hadEnded_10_23.2.1 24 = .ok ((.iconst 0), 1)) ∧ (decode zy_hadEnded_10_23.2.1 25 = .ok ((.ireturn), 1)) ∧ (decode zy_hadEnded_10_23.2.1 10 = .ok ((.aload_n 0), 1)) ∧ (decode zy_hadEnded_10_23.2.1 11 = .ok ((.getfield 26), 3)) := by decide +kernel
theorem zd_10_23_0 : zz_D zy_hadEnded_10_23 0 (.aload_n 0) 1 1 := ⟨zg_10_23_0.1, rfl⟩
theorem zd_10_23_1 : zz_D zy_hadEnded_10_23 1 (.getfield 26) 3 4 := ⟨zg_10_23_0.2.1, rfl⟩
theorem zd_10_23_4 : zz_D zy_hadEnded_10_23 4 (.iload_n 1) 1 5 := ⟨zg_10_23_0.2.2.1, rfl⟩
theorem zd_10_23_5 : zz_D zy_hadEnded_10_23 5 (.iaload) 1 6 := ⟨zg_10_23_0.2.2.2.1, rfl⟩
theorem zd_10_23_6 : zz_D zy_hadEnded_10_23 6 (.iconst (-1)) 1 7 := ⟨zg_10_23_0.2.2.2.2.1, rfl⟩
theorem zd_10_23_7 : zz_B zy_hadEnded_10_23 7 (Instr.if_icmp .eq) 24 10 := ⟨17, zg_10_23_0.2.2.2.2.2.1, rfl, rfl⟩
theorem zd_10_23_24 : zz_D zy_hadEnded_10_23 24 (.iconst 0) 1 25 := ⟨zg_10_23_0.2.2.2.2.2.2.1, rfl⟩
theorem zd_10_23_25 : zz_D zy_hadEnded_10_23 25 (.ireturn) 1 26 := ⟨zg_10_23_0.2.2.2.2.2.2.2.1, rfl⟩
theorem zd_10_23_10 : zz_D zy_hadEnded_10_23 10 (.aload_n 0) 1 11 := ⟨zg_10_23_0.2.2.2.2.2.2.2.2.1, rfl⟩
theorem zd_10_23_11 : zz_D zy_hadEnded_10_23 11 (.getfield 26) 3 14 := ⟨zg_10_23_0.2.2.2.2.2.2.2.2.2, rfl⟩
theorem zg_10_23_14 : (decode zy_hadEnded_10_23.2.1 14 = .ok ((.iload_n 1), 1)) ∧ (decode zy_hadEnded_10_23.2.1 15 = .ok ((.iaload), 1)) ∧ (decode zy_hadEnded_10_23.2.1 16 = .ok ((.iload_n 2), 1)) ∧ (decode zy_hadEnded_10_23.2.1 17 = .ok ((Instr.if_icmp .gt) 7, 3)) ∧ (decode zy_hadEnded_10_23.2.1 20 = .ok ((.iconst 1), 1)) ∧ (decode zy_hadEnded_10_23.2.1 21 = .ok (Instr.goto 4, 3)) := by decide +kernel
theorem zd_10_23_14 : zz_D zy_hadEnded_10_23 14 (.iload_n 1) 1 15 := ⟨zg_10_23_14.1, rfl⟩
theorem zd_10_23_15 : zz_D zy_hadEnded_10_23 15 (.iaload) 1 16 := ⟨zg_10_23_14.2.1, rfl⟩
theorem zd_10_23_16 : zz_D zy_hadEnded_10_23 16 (.iload_n 2) 1 17 := ⟨zg_10_23_14.2.2.1, rfl⟩
theorem zd_10_23_17 : zz_B zy_hadEnded_10_23 17 (Instr.if_icmp .gt) 24 20 := ⟨7, zg_10_23_14.2.2.2.1, rfl, rfl⟩
theorem zd_10_23_20 : zz_D zy_hadEnded_10_23 20 (.iconst 1) 1 21 := ⟨zg_10_23_14.2.2.2.2.1, rfl⟩
theorem zd_10_23_21 : zz_B zy_hadEnded_10_23 21 Instr.goto 25 24 := ⟨4, zg_10_23_14.2.2.2.2.2, rfl, rfl⟩
-- TensorForge$Run hadEnded (II)Z
abbrev zr_hadEnded_10_23 : Room := { frames := 0, cells := 0, slots := 0, locals := 0 }
def zp_hadEnded_10_23 (p0 : Int) (p1 : Int) (S0 : zz_S) : Int → zz_S → Prop := fun r S => S0 = S ∧ (0 ≤ r ∧ r ≤ 1)
theorem zc_hadEnded_10_23 {g : mm_G} {l : Launch} (p0 : Int) (p1 : Int) (S0 : zz_S) (n : Nat) (hn : zz_end ≤ n) (G_S0 : zz_G S0) (hp0 : 0 ≤ p0 ∧ p0 ≤ 599) (hp1 : (-2147483648) ≤ p1 ∧ p1 ≤ 2147483647) : mm_Met g l zy_hadEnded_10_23 zr_hadEnded_10_23 [.ref 1042, zi p0, zi p1] (zz_M S0 n) n (zz_QI n (zp_hadEnded_10_23 p0 p1 S0)) := by
  refine zz_enter (by decide) (Nat.le_of_ble_eq_true rfl) (zz_less (ls1 := [some (.ref 1042), some (zi p0), some (zi p1)]) ⟨rfl, ⟨rfl, ⟨rfl, trivial⟩⟩⟩ ?_)
  refine zz_aload_n (x := 1042) rfl zd_10_23_0 ?_
  refine zz_getr (kd := 0) (z := 1046) zd_10_23_1 zf_Run_26 zT_1042 rfl (zz_ltn hn rfl) (zz_G.eq G_S0 1042 4 1046 rfl rfl) (by decide) 1046 rfl ?_
  refine zz_iload_n (x := p0) rfl zd_10_23_4 ?_
  have g1 := zz_G.r G_S0 1046 p0.toNat (-2147483648) 2147483647 rfl rfl
  refine zz_iald (z := S0 1046 p0.toNat) zd_10_23_5 zT_1046 rfl (zz_ltn hn rfl) (by decide) (by omega) rfl ?_
  refine zz_iconst zd_10_23_6 ?_
  refine zz_icmp_eq (by omega) (by omega) zd_10_23_7 (fun c2 => ?_) (fun c2 => ?_)
  · refine zz_iconst zd_10_23_24 ?_
    exact zz_zret zd_10_23_25 rfl (by omega) (Nat.zero_le _) (Nat.zero_le _) ⟨_, _, rfl, rfl, by omega⟩
  · refine zz_aload_n (x := 1042) rfl zd_10_23_10 ?_
    refine zz_getr (kd := 0) (z := 1046) zd_10_23_11 zf_Run_26 zT_1042 rfl (zz_ltn hn rfl) (zz_G.eq G_S0 1042 4 1046 rfl rfl) (by decide) 1046 rfl ?_
    refine zz_iload_n (x := p0) rfl zd_10_23_14 ?_
    refine zz_iald (z := S0 1046 p0.toNat) zd_10_23_15 zT_1046 rfl (zz_ltn hn rfl) (by decide) (by omega) rfl ?_
    refine zz_iload_n (x := p1) rfl zd_10_23_16 ?_
    refine zz_icmp_gt (by omega) (by omega) zd_10_23_17 (fun c3 => ?_) (fun c3 => ?_)
    · refine zz_iconst zd_10_23_24 ?_
      exact zz_zret zd_10_23_25 rfl (by omega) (Nat.zero_le _) (Nat.zero_le _) ⟨_, _, rfl, rfl, by omega⟩
    · refine zz_iconst zd_10_23_20 ?_
      refine zz_goto zd_10_23_21 ?_
      exact zz_zret zd_10_23_25 rfl (by omega) (Nat.zero_le _) (Nat.zero_le _) ⟨_, _, rfl, rfl, by omega⟩
theorem zk_Run_180 : mm_Vl "TensorForge$Run" 180 5 2 zy_hadEnded_10_23 := ⟨zyw_hadEnded_10_23, (R_Run, F_Run, 10), rfl, mm_tb_1 1554 (by decide +kernel) rfl, mm_tb_1 1556 (by decide +kernel) rfl, mm_tb_s 81 (by decide +kernel) rfl⟩
theorem zg_10_24_38 : (decode zy_underWayAt_10_24.2.1 38 = .ok ((Instr.ifCond .ne) 5, 3)) ∧ (decode zy_underWayAt_10_24.2.1 41 = .ok ((.iload_n 3), 1)) ∧ (decode zy_underWayAt_10_24.2.1 42 = .ok ((.ireturn), 1)) := by decide +kernel
theorem zd_10_24_38 : zz_B zy_underWayAt_10_24 38 (Instr.ifCond .ne) 43 41 := ⟨5, zg_10_24_38.1, rfl, rfl⟩
theorem zd_10_24_41 : zz_D zy_underWayAt_10_24 41 (.iload_n 3) 1 42 := ⟨zg_10_24_38.2.1, rfl⟩
theorem zd_10_24_42 : zz_D zy_underWayAt_10_24 42 (.ireturn) 1 43 := ⟨zg_10_24_38.2.2, rfl⟩
-- TensorForge$Run underWayAt (II)I
abbrev zr_underWayAt_10_24 : Room := { frames := 2, cells := 0, slots := 0, locals := 28 }
def zp_underWayAt_10_24 (p0 : Int) (p1 : Int) (S0 : zz_S) : Int → zz_S → Prop := fun r S => S0 = S ∧ ((-1) ≤ r ∧ r ≤ 599)
theorem zb_underWayAt_10_24_2 {g : mm_G} {l : Launch} (p0 : Int) (p1 : Int) (S0 : zz_S) (n : Nat) (hn : zz_end ≤ n) (G_S0 : zz_G S0) (hp0 : (-2147483648) ≤ p0 ∧ p0 ≤ 2147483647) (hp1 : (-2147483648) ≤ p1 ∧ p1 ≤ 2147483647) (x3 : Int) (S : zz_S) (G_S : zz_G S) (F_S : zz_fr [] [] (fun _ _ => False) S0 S) (i2_0 : 0 ≤ x3 ∧ x3 ≤ 600) (R : Nat) (hR : (S0 1042 9 - x3).toNat = R) (k2 : ∀ (x3 : Int) (S : zz_S), zz_G S → zz_fr [] [] (fun _ _ => False) S0 S → (0 ≤ x3 ∧ x3 ≤ 600) → (S0 1042 9 - x3).toNat < R → zz_E g l zy_underWayAt_10_24 zr_underWayAt_10_24 (zz_QI n (zp_underWayAt_10_24 p0 p1 S0)) S n 2 [some (.ref 1042), some (zi p0), some (zi p1), some (zi x3)] [] 0 0) : zz_E g l zy_underWayAt_10_24 zr_underWayAt_10_24 (zz_QI n (zp_underWayAt_10_24 p0 p1 S0)) S n 2 [some (.ref 1042), some (zi p0), some (zi p1), some (zi x3)] [] 0 0 := by
  refine zz_iload_n (x := x3) rfl zd_10_24_2 ?_
  refine zz_aload_n (x := 1042) rfl zd_10_24_3 ?_
  have g2 := zz_G.r G_S0 1042 9 0 600 rfl rfl
  refine zz_geti (z := S0 1042 9) zd_10_24_4 zf_Run_46 zT_1042 rfl (zz_ltn hn rfl) (zz_rc F_S rfl rfl (fun h => h) rfl) ?_
  refine zz_icmp_ge (by omega) (by omega) zd_10_24_7 (fun c3 => ?_) (fun c3 => ?_)
  · refine zz_iconst zd_10_24_49 ?_
    exact zz_iret zd_10_24_50 rfl (Nat.zero_le _) (Nat.zero_le _) ⟨_, _, rfl, zz_fr.eq F_S, by omega⟩
  · refine zz_aload_n (x := 1042) rfl zd_10_24_10 ?_
    refine zz_getr (kd := 0) (z := 1044) zd_10_24_11 zf_Run_19 zT_1042 rfl (zz_ltn hn rfl) (zz_G.eq G_S 1042 2 1044 rfl rfl) (by decide) 1044 rfl ?_
    refine zz_iload_n (x := x3) rfl zd_10_24_14 ?_
    have g4 := zz_G.r G_S0 1044 x3.toNat (-9223372036854775808) 9223372036854775807 rfl rfl
    refine zz_lald (z := S0 1044 x3.toNat) zd_10_24_15 zT_1044 rfl (zz_ltn hn rfl) (by decide) (by omega) (zz_rc F_S (zz_nc1 rfl) rfl (fun h => h) rfl) ?_
    refine zz_callSI [zl (S0 1044 x3.toNat)] zd_10_24_16 zk_Run_107 rfl rfl ⟨Nat.le_of_ble_eq_true rfl, Nat.le_of_ble_eq_true rfl⟩ ⟨rfl, rfl⟩ (Nat.zero_le _) (Nat.zero_le _) (zc_unitOf_12_10 (S0 1044 x3.toNat) S n hn G_S (by omega)) (fun v6 S5 hP => ?_)
    obtain ⟨rfl, o7, o8⟩ := hP
    refine zz_iload_n (x := p0) rfl zd_10_24_19 ?_
    refine zz_icmp_ne (by omega) (by omega) zd_10_24_20 (fun c9 => ?_) (fun c9 => ?_)
    · refine zz_iinc [some (.ref 1042), some (zi p0), some (zi p1), some (zi (x3 + 1))] zd_10_24_43 rfl rfl ?_
      refine zz_goto zd_10_24_46 ?_
      refine zz_less (ls1 := [some (.ref 1042), some (zi p0), some (zi p1), some (zi (x3 + 1))]) ⟨rfl, ⟨rfl, ⟨rfl, ⟨rfl, trivial⟩⟩⟩⟩ ?_
      exact k2 (x3 + 1) S G_S F_S (by omega) (by omega)
    · refine zz_aload_n (x := 1042) rfl zd_10_24_23 ?_
      refine zz_iload_n (x := x3) rfl zd_10_24_24 ?_
      refine zz_iload_n (x := p1) rfl zd_10_24_25 ?_
      refine zz_callVI [zi x3, zi p1] zd_10_24_26 zk_Run_176 zT_1042 (zz_ltn hn rfl) rfl rfl ⟨Nat.le_of_ble_eq_true rfl, Nat.le_of_ble_eq_true rfl⟩ ⟨rfl, rfl⟩ (Nat.zero_le _) (Nat.zero_le _) (zc_hadBegun_10_22 x3 p1 S n hn G_S (by omega) (by omega)) (fun v11 S10 hP => ?_)
      obtain ⟨rfl, o12⟩ := hP
      rcases (by omega : v11 = 0 ∨ v11 = 1) with rfl | rfl
      · refine zz_if_eq (by omega) zd_10_24_29 (fun c13 => ?_) (fun c13 => ?_)
        · refine zz_iinc [some (.ref 1042), some (zi p0), some (zi p1), some (zi (x3 + 1))] zd_10_24_43 rfl rfl ?_
          refine zz_goto zd_10_24_46 ?_
          refine zz_less (ls1 := [some (.ref 1042), some (zi p0), some (zi p1), some (zi (x3 + 1))]) ⟨rfl, ⟨rfl, ⟨rfl, ⟨rfl, trivial⟩⟩⟩⟩ ?_
          exact k2 (x3 + 1) S G_S F_S (by omega) (by omega)
        · exfalso; omega
      · refine zz_if_eq (by omega) zd_10_24_29 (fun c14 => ?_) (fun c14 => ?_)
        · exfalso; omega
        · refine zz_aload_n (x := 1042) rfl zd_10_24_32 ?_
          refine zz_iload_n (x := x3) rfl zd_10_24_33 ?_
          refine zz_iload_n (x := p1) rfl zd_10_24_34 ?_
          refine zz_callVI [zi x3, zi p1] zd_10_24_35 zk_Run_180 zT_1042 (zz_ltn hn rfl) rfl rfl ⟨Nat.le_of_ble_eq_true rfl, Nat.le_of_ble_eq_true rfl⟩ ⟨rfl, rfl⟩ (Nat.zero_le _) (Nat.zero_le _) (zc_hadEnded_10_23 x3 p1 S n hn G_S (by omega) (by omega)) (fun v16 S15 hP => ?_)
          obtain ⟨rfl, o17⟩ := hP
          rcases (by omega : v16 = 0 ∨ v16 = 1) with rfl | rfl
          · refine zz_if_ne (by omega) zd_10_24_38 (fun c18 => ?_) (fun c18 => ?_)
            · exfalso; omega
            · refine zz_iload_n (x := x3) rfl zd_10_24_41 ?_
              exact zz_iret zd_10_24_42 rfl (Nat.zero_le _) (Nat.zero_le _) ⟨_, _, rfl, zz_fr.eq F_S, by omega⟩
          · refine zz_if_ne (by omega) zd_10_24_38 (fun c19 => ?_) (fun c19 => ?_)
            · refine zz_iinc [some (.ref 1042), some (zi p0), some (zi p1), some (zi (x3 + 1))] zd_10_24_43 rfl rfl ?_
              refine zz_goto zd_10_24_46 ?_
              refine zz_less (ls1 := [some (.ref 1042), some (zi p0), some (zi p1), some (zi (x3 + 1))]) ⟨rfl, ⟨rfl, ⟨rfl, ⟨rfl, trivial⟩⟩⟩⟩ ?_
              exact k2 (x3 + 1) S G_S F_S (by omega) (by omega)
            · exfalso; omega
theorem zi_underWayAt_10_24 {g : mm_G} {l : Launch} (p0 : Int) (p1 : Int) (S0 : zz_S) (n : Nat) (hn : zz_end ≤ n) (G_S0 : zz_G S0) (hp0 : (-2147483648) ≤ p0 ∧ p0 ≤ 2147483647) (hp1 : (-2147483648) ≤ p1 ∧ p1 ≤ 2147483647) : ∀ N : Nat, (∀ (x3 : Int) (S : zz_S), zz_G S → zz_fr [] [] (fun _ _ => False) S0 S → (0 ≤ x3 ∧ x3 ≤ 600) → (S0 1042 9 - x3).toNat < N → zz_E g l zy_underWayAt_10_24 zr_underWayAt_10_24 (zz_QI n (zp_underWayAt_10_24 p0 p1 S0)) S n 2 [some (.ref 1042), some (zi p0), some (zi p1), some (zi x3)] [] 0 0) := by
  intro N
  induction N with
  | zero => exact fun x3 S _ _ _ h => absurd h (Nat.not_lt_zero _)
  | succ N ih =>
    exact fun x3 S a b j0 hR => zb_underWayAt_10_24_2 p0 p1 S0 n hn G_S0 hp0 hp1 x3 S a b j0 _ rfl (fun x3 S a b j0 h => ih x3 S a b j0 (Nat.lt_of_lt_of_le h (Nat.le_of_lt_succ hR)))
theorem zc_underWayAt_10_24 {g : mm_G} {l : Launch} (p0 : Int) (p1 : Int) (S0 : zz_S) (n : Nat) (hn : zz_end ≤ n) (G_S0 : zz_G S0) (hp0 : (-2147483648) ≤ p0 ∧ p0 ≤ 2147483647) (hp1 : (-2147483648) ≤ p1 ∧ p1 ≤ 2147483647) : mm_Met g l zy_underWayAt_10_24 zr_underWayAt_10_24 [.ref 1042, zi p0, zi p1] (zz_M S0 n) n (zz_QI n (zp_underWayAt_10_24 p0 p1 S0)) := by
  refine zz_enter (by decide) (Nat.le_of_ble_eq_true rfl) (zz_less (ls1 := [some (.ref 1042), some (zi p0), some (zi p1)]) ⟨rfl, ⟨rfl, ⟨rfl, trivial⟩⟩⟩ ?_)
  have F_S0 : zz_fr [] [] (fun _ _ => False) S0 S0 := zz_fr.refl
  have k2 : ∀ (x3 : Int) (S : zz_S), zz_G S → zz_fr [] [] (fun _ _ => False) S0 S → (0 ≤ x3 ∧ x3 ≤ 600) → zz_E g l zy_underWayAt_10_24 zr_underWayAt_10_24 (zz_QI n (zp_underWayAt_10_24 p0 p1 S0)) S n 2 [some (.ref 1042), some (zi p0), some (zi p1), some (zi x3)] [] 0 0 := fun x3 S a b j0 => (zi_underWayAt_10_24 (g := g) (l := l) p0 p1 S0 n hn G_S0 hp0 hp1 _) x3 S a b j0 (Nat.lt_succ_self _)
  refine zz_iconst zd_10_24_0 ?_
  refine zz_istore_n [some (.ref 1042), some (zi p0), some (zi p1), some (zi 0)] zd_10_24_1 (by decide) rfl ?_
  have g1 := zz_G.r G_S0 1042 9 0 600 rfl rfl
  refine zz_less (ls1 := [some (.ref 1042), some (zi p0), some (zi p1), some (zi 0)]) ⟨rfl, ⟨rfl, ⟨rfl, ⟨rfl, trivial⟩⟩⟩⟩ ?_
  exact k2 0 S0 G_S0 F_S0 (by omega)
theorem zk_TF_320 : mm_Vl "TensorForge" 320 5 2 zy_underWayAt_10_24 := ⟨zyw_underWayAt_10_24, (R_Run, F_Run, 10), rfl, mm_tb_1 1546 (by decide +kernel) rfl, mm_tb_1 1547 (by decide +kernel) rfl, mm_tb_1 1548 (by decide +kernel) rfl⟩
theorem zd_1_28_19 : zz_D zy_under_1_28 19 (.ireturn) 1 20 := ⟨by decide +kernel, rfl⟩
-- TensorForge under (II)I
abbrev zr_under_1_28 : Room := { frames := 7, cells := 2, slots := 12, locals := 96 }
def zp_under_1_28 (p0 : Int) (p1 : Int) (S0 : zz_S) : Int → zz_S → Prop := fun r S => S0 = S ∧ ((-2147483648) ≤ r ∧ r ≤ 2147483647)
def zx_under_1_28 (p0 : Int) (p1 : Int) (S0 : zz_S) : Nat → zz_S → Prop := fun i S => S0 = S ∧ (i < 4) ∧ (i = 0 ∨ i = 3)
theorem zc_under_1_28 {g : mm_G} {l : Launch} (p0 : Int) (p1 : Int) (S0 : zz_S) (n : Nat) (hn : zz_end ≤ n) (hfl : l.flags = flags0) (G_S0 : zz_G S0) (hp0 : (-2147483648) ≤ p0 ∧ p0 ≤ 2147483647) (hp1 : (-2147483648) ≤ p1 ∧ p1 ≤ 2147483647) : mm_Met g l zy_under_1_28 zr_under_1_28 [.ref 1000, zi p0, zi p1] (zz_M S0 n) n (zz_XI n (zp_under_1_28 p0 p1 S0) (zx_under_1_28 p0 p1 S0)) := by
  refine zz_enter (by decide) (Nat.le_of_ble_eq_true rfl) (zz_less (ls1 := [some (.ref 1000), some (zi p0), some (zi p1)]) ⟨rfl, ⟨rfl, ⟨rfl, trivial⟩⟩⟩ ?_)
  refine zz_aload_n (x := 1000) rfl zd_1_28_0 ?_
  refine zz_callVXV [] zd_1_28_1 zk_TF_191 zT_1000 (zz_ltn hn rfl) rfl rfl ⟨Nat.le_of_ble_eq_true rfl, Nat.le_of_ble_eq_true rfl⟩ (Nat.le_of_ble_eq_true rfl) (Nat.le_of_ble_eq_true rfl) (zc_needRun_1_32  S0 n hn hfl G_S0 ) zyw_under_1_28 (fun i SX hX => by obtain ⟨rfl, x0, x1⟩ := hX; exact Or.inr ⟨_, _, rfl, rfl, by omega, by omega⟩) (fun S3 hP => ?_)
  obtain ⟨rfl⟩ := hP
  refine zz_aload_n (x := 1000) rfl zd_1_28_4 ?_
  refine zz_iload_n (x := p0) rfl zd_1_28_5 ?_
  refine zz_iload_n (x := p1) rfl zd_1_28_6 ?_
  refine zz_callVXV [zi p0, zi p1] zd_1_28_7 zk_TF_317 zT_1000 (zz_ltn hn rfl) rfl rfl ⟨Nat.le_of_ble_eq_true rfl, Nat.le_of_ble_eq_true rfl⟩ (Nat.le_of_ble_eq_true rfl) (Nat.le_of_ble_eq_true rfl) (zc_needUnitAndCycle_1_33 p0 p1 S0 n hn hfl G_S0 (by omega) (by omega)) zyw_under_1_28 (fun i SX hX => by obtain ⟨rfl, x0, x1⟩ := hX; exact Or.inr ⟨_, _, rfl, rfl, by omega, by omega⟩) (fun S7 hP => ?_)
  obtain ⟨rfl⟩ := hP
  refine zz_aload_n (x := 1000) rfl zd_1_28_10 ?_
  refine zz_getr (kd := 0) (z := 1042) zd_1_28_11 zf_TF_42 zT_1000 rfl (zz_ltn hn rfl) (zz_G.eq G_S0 1000 1 1042 rfl rfl) (by decide) 1042 rfl ?_
  refine zz_iload_n (x := p0) rfl zd_1_28_14 ?_
  refine zz_iload_n (x := p1) rfl zd_1_28_15 ?_
  refine zz_callVI [zi p0, zi p1] zd_1_28_16 zk_TF_320 zT_1042 (zz_ltn hn rfl) rfl rfl ⟨Nat.le_of_ble_eq_true rfl, Nat.le_of_ble_eq_true rfl⟩ ⟨rfl, rfl⟩ (Nat.le_of_ble_eq_true rfl) (Nat.le_of_ble_eq_true rfl) (zc_underWayAt_10_24 p0 p1 S0 n hn G_S0 (by omega) (by omega)) (fun v10 S9 hP => ?_)
  obtain ⟨rfl, o11⟩ := hP
  exact zz_iret zd_1_28_19 rfl (Nat.le_of_ble_eq_true rfl) (Nat.le_of_ble_eq_true rfl) (Or.inl ⟨_, _, rfl, rfl, by omega⟩)
abbrev zy_waits_1_29 : mm_Y := (⟨"TensorForge", "waits", "(II)I"⟩, prog_1_method_29_code, 3, (some .int))
theorem zyw_waits_1_29 : mm_Yw zy_waits_1_29 2 := ⟨mm_tb_1 1564 (by decide +kernel) rfl, mm_tb_1 1 (by decide +kernel) rfl, ⟨by decide, by decide⟩, by decide +kernel⟩
abbrev zy_missingAt_10_25 : mm_Y := (⟨"TensorForge$Run", "missingAt", "(II)I"⟩, prog_10_method_25_code, 5, (some .int))
theorem zyw_missingAt_10_25 : mm_Yw zy_missingAt_10_25 2 := ⟨mm_tb_1 1568 (by decide +kernel) rfl, mm_tb_1 6 (by decide +kernel) rfl, ⟨by decide, by decide⟩, by decide +kernel⟩
abbrev zy_firstNotBegun_10_26 : mm_Y := (⟨"TensorForge$Run", "firstNotBegun", "(II)I"⟩, prog_10_method_26_code, 4, (some .int))
theorem zyw_firstNotBegun_10_26 : mm_Yw zy_firstNotBegun_10_26 2 := ⟨mm_tb_1 1572 (by decide +kernel) rfl, mm_tb_1 6 (by decide +kernel) rfl, ⟨by decide, by decide⟩, by decide +kernel⟩
theorem zg_1_29_0 : (decode zy_waits_1_29.2.1 0 = .ok ((.aload_n 0), 1)) ∧ (decode zy_waits_1_29.2.1 1 = .ok ((.invokevirtual 191), 3)) ∧ (decode zy_waits_1_29.2.1 4 = .ok ((.aload_n 0), 1)) ∧ (decode zy_waits_1_29.2.1 5 = .ok ((.iload_n 1), 1)) ∧ (decode zy_waits_1_29.2.1 6 = .ok ((.iload_n 2), 1)) ∧ (decode zy_waits_1_29.2.1 7 = .ok ((.invokevirtual 317), 3)) ∧ (decode zy_waits_1_29.2.1 10 = .ok ((.aload_n 0), 1)) ∧ (decode zy_waits_1_29.2.1 11 = .ok ((.getfield 42), 3)) ∧ (decode zy_waits_1_29.2.1 14 = .ok ((.iload_n 1), 1)) ∧ (decode zy_waits_1_29.2.1 15 = .ok ((.iload_n 2), 1)) := by decide +kernel
theorem zd_1_29_0 : zz_D zy_waits_1_29 0 (.aload_n 0) 1 1 := ⟨zg_1_29_0.1, rfl⟩
theorem zd_1_29_1 : zz_D zy_waits_1_29 1 (.invokevirtual 191) 3 4 := ⟨zg_1_29_0.2.1, rfl⟩
theorem zd_1_29_4 : zz_D zy_waits_1_29 4 (.aload_n 0) 1 5 := ⟨zg_1_29_0.2.2.1, rfl⟩
theorem zd_1_29_5 : zz_D zy_waits_1_29 5 (.iload_n 1) 1 6 := ⟨zg_1_29_0.2.2.2.1, rfl⟩
theorem zd_1_29_6 : zz_D zy_waits_1_29 6 (.iload_n 2) 1 7 := ⟨zg_1_29_0.2.2.2.2.1, rfl⟩
theorem zd_1_29_7 : zz_D zy_waits_1_29 7 (.invokevirtual 317) 3 10 := ⟨zg_1_29_0.2.2.2.2.2.1, rfl⟩
theorem zd_1_29_10 : zz_D zy_waits_1_29 10 (.aload_n 0) 1 11 := ⟨zg_1_29_0.2.2.2.2.2.2.1, rfl⟩
theorem zd_1_29_11 : zz_D zy_waits_1_29 11 (.getfield 42) 3 14 := ⟨zg_1_29_0.2.2.2.2.2.2.2.1, rfl⟩
theorem zd_1_29_14 : zz_D zy_waits_1_29 14 (.iload_n 1) 1 15 := ⟨zg_1_29_0.2.2.2.2.2.2.2.2.1, rfl⟩
theorem zd_1_29_15 : zz_D zy_waits_1_29 15 (.iload_n 2) 1 16 := ⟨zg_1_29_0.2.2.2.2.2.2.2.2.2, rfl⟩
theorem zd_1_29_16 : zz_D zy_waits_1_29 16 (.invokevirtual 323) 3 19 := ⟨by decide +kernel, rfl⟩
theorem zg_10_25_0 : (decode zy_missingAt_10_25.2.1 0 = .ok ((.aload_n 0), 1)) ∧ (decode zy_missingAt_10_25.2.1 1 = .ok ((.iload_n 1), 1)) ∧ (decode zy_missingAt_10_25.2.1 2 = .ok ((.iload_n 2), 1)) ∧ (decode zy_missingAt_10_25.2.1 3 = .ok ((.invokevirtual 183), 3)) := by decide +kernel
theorem zd_10_25_0 : zz_D zy_missingAt_10_25 0 (.aload_n 0) 1 1 := ⟨zg_10_25_0.1, rfl⟩
theorem zd_10_25_1 : zz_D zy_missingAt_10_25 1 (.iload_n 1) 1 2 := ⟨zg_10_25_0.2.1, rfl⟩
theorem zd_10_25_2 : zz_D zy_missingAt_10_25 2 (.iload_n 2) 1 3 := ⟨zg_10_25_0.2.2.1, rfl⟩
theorem zd_10_25_3 : zz_D zy_missingAt_10_25 3 (.invokevirtual 183) 3 6 := ⟨zg_10_25_0.2.2.2, rfl⟩
theorem zg_10_26_0 : (decode zy_firstNotBegun_10_26.2.1 0 = .ok ((.iconst 0), 1)) ∧ (decode zy_firstNotBegun_10_26.2.1 1 = .ok ((.istore_n 3), 1)) ∧ (decode zy_firstNotBegun_10_26.2.1 2 = .ok ((.iload_n 3), 1)) ∧ (decode zy_firstNotBegun_10_26.2.1 3 = .ok ((.aload_n 0), 1)) ∧ (decode zy_firstNotBegun_10_26.2.1 4 = .ok ((.getfield 46), 3)) ∧ (decode zy_firstNotBegun_10_26.2.1 7 = .ok ((Instr.if_icmp .ge) 33, 3)) ∧ (decode zy_firstNotBegun_10_26.2.1 40 = .ok ((.iconst (-1)), 1)) ∧ (decode zy_firstNotBegun_10_26.2.1 41 = .ok ((.ireturn), 1)) ∧ (decode zy_firstNotBegun_10_26.2.1 10 = .ok ((.aload_n 0), 1)) ∧ (decode zy_firstNotBegun_10_26.2.1 11 = .ok ((.getfield 19), 3)) := by decide +kernel
theorem zd_10_26_0 : zz_D zy_firstNotBegun_10_26 0 (.iconst 0) 1 1 := ⟨zg_10_26_0.1, rfl⟩
theorem zd_10_26_1 : zz_D zy_firstNotBegun_10_26 1 (.istore_n 3) 1 2 := ⟨zg_10_26_0.2.1, rfl⟩
theorem zd_10_26_2 : zz_D zy_firstNotBegun_10_26 2 (.iload_n 3) 1 3 := ⟨zg_10_26_0.2.2.1, rfl⟩
theorem zd_10_26_3 : zz_D zy_firstNotBegun_10_26 3 (.aload_n 0) 1 4 := ⟨zg_10_26_0.2.2.2.1, rfl⟩
theorem zd_10_26_4 : zz_D zy_firstNotBegun_10_26 4 (.getfield 46) 3 7 := ⟨zg_10_26_0.2.2.2.2.1, rfl⟩
theorem zd_10_26_7 : zz_B zy_firstNotBegun_10_26 7 (Instr.if_icmp .ge) 40 10 := ⟨33, zg_10_26_0.2.2.2.2.2.1, rfl, rfl⟩
theorem zd_10_26_40 : zz_D zy_firstNotBegun_10_26 40 (.iconst (-1)) 1 41 := ⟨zg_10_26_0.2.2.2.2.2.2.1, rfl⟩
theorem zd_10_26_41 : zz_D zy_firstNotBegun_10_26 41 (.ireturn) 1 42 := ⟨zg_10_26_0.2.2.2.2.2.2.2.1, rfl⟩
theorem zd_10_26_10 : zz_D zy_firstNotBegun_10_26 10 (.aload_n 0) 1 11 := ⟨zg_10_26_0.2.2.2.2.2.2.2.2.1, rfl⟩
theorem zd_10_26_11 : zz_D zy_firstNotBegun_10_26 11 (.getfield 19) 3 14 := ⟨zg_10_26_0.2.2.2.2.2.2.2.2.2, rfl⟩
theorem zg_10_26_14 : (decode zy_firstNotBegun_10_26.2.1 14 = .ok ((.iload_n 3), 1)) ∧ (decode zy_firstNotBegun_10_26.2.1 15 = .ok ((.laload), 1)) ∧ (decode zy_firstNotBegun_10_26.2.1 16 = .ok ((.invokestatic 107), 3)) ∧ (decode zy_firstNotBegun_10_26.2.1 19 = .ok ((.iload_n 1), 1)) ∧ (decode zy_firstNotBegun_10_26.2.1 20 = .ok ((Instr.if_icmp .ne) 14, 3)) ∧ (decode zy_firstNotBegun_10_26.2.1 34 = .ok ((.iinc 3 1), 3)) ∧ (decode zy_firstNotBegun_10_26.2.1 37 = .ok (Instr.goto (-35), 3)) ∧ (decode zy_firstNotBegun_10_26.2.1 23 = .ok ((.aload_n 0), 1)) ∧ (decode zy_firstNotBegun_10_26.2.1 24 = .ok ((.iload_n 3), 1)) ∧ (decode zy_firstNotBegun_10_26.2.1 25 = .ok ((.iload_n 2), 1)) := by decide +kernel
theorem zd_10_26_14 : zz_D zy_firstNotBegun_10_26 14 (.iload_n 3) 1 15 := ⟨zg_10_26_14.1, rfl⟩
theorem zd_10_26_15 : zz_D zy_firstNotBegun_10_26 15 (.laload) 1 16 := ⟨zg_10_26_14.2.1, rfl⟩
theorem zd_10_26_16 : zz_D zy_firstNotBegun_10_26 16 (.invokestatic 107) 3 19 := ⟨zg_10_26_14.2.2.1, rfl⟩
theorem zd_10_26_19 : zz_D zy_firstNotBegun_10_26 19 (.iload_n 1) 1 20 := ⟨zg_10_26_14.2.2.2.1, rfl⟩
theorem zd_10_26_20 : zz_B zy_firstNotBegun_10_26 20 (Instr.if_icmp .ne) 34 23 := ⟨14, zg_10_26_14.2.2.2.2.1, rfl, rfl⟩
theorem zd_10_26_34 : zz_D zy_firstNotBegun_10_26 34 (.iinc 3 1) 3 37 := ⟨zg_10_26_14.2.2.2.2.2.1, rfl⟩
theorem zd_10_26_37 : zz_B zy_firstNotBegun_10_26 37 Instr.goto 2 40 := ⟨(-35), zg_10_26_14.2.2.2.2.2.2.1, rfl, rfl⟩
theorem zd_10_26_23 : zz_D zy_firstNotBegun_10_26 23 (.aload_n 0) 1 24 := ⟨zg_10_26_14.2.2.2.2.2.2.2.1, rfl⟩
theorem zd_10_26_24 : zz_D zy_firstNotBegun_10_26 24 (.iload_n 3) 1 25 := ⟨zg_10_26_14.2.2.2.2.2.2.2.2.1, rfl⟩
theorem zd_10_26_25 : zz_D zy_firstNotBegun_10_26 25 (.iload_n 2) 1 26 := ⟨zg_10_26_14.2.2.2.2.2.2.2.2.2, rfl⟩
theorem zg_10_26_26 : (decode zy_firstNotBegun_10_26.2.1 26 = .ok ((.invokevirtual 176), 3)) ∧ (decode zy_firstNotBegun_10_26.2.1 29 = .ok ((Instr.ifCond .ne) 5, 3)) ∧ (decode zy_firstNotBegun_10_26.2.1 32 = .ok ((.iload_n 3), 1)) ∧ (decode zy_firstNotBegun_10_26.2.1 33 = .ok ((.ireturn), 1)) := by decide +kernel
theorem zd_10_26_26 : zz_D zy_firstNotBegun_10_26 26 (.invokevirtual 176) 3 29 := ⟨zg_10_26_26.1, rfl⟩
theorem zd_10_26_29 : zz_B zy_firstNotBegun_10_26 29 (Instr.ifCond .ne) 34 32 := ⟨5, zg_10_26_26.2.1, rfl, rfl⟩
theorem zd_10_26_32 : zz_D zy_firstNotBegun_10_26 32 (.iload_n 3) 1 33 := ⟨zg_10_26_26.2.2.1, rfl⟩
theorem zd_10_26_33 : zz_D zy_firstNotBegun_10_26 33 (.ireturn) 1 34 := ⟨zg_10_26_26.2.2.2, rfl⟩

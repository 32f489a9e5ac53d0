-- TensorForge$Layer greatest ([BLTensorForge$Layer;III)I
abbrev zr_greatest_4_22 : Room := { frames := 1, cells := 0, slots := 0, locals := 17 }
def zp_greatest_4_22 (t : Int) (p1 : Int) (p2 : Int) (p3 : Int) (p4 : Int) (S0 : zz_S) : Int → zz_S → Prop := fun r S => S0 = S ∧ ((-2147483648) ≤ r ∧ r ≤ 2147483647)
theorem zb_greatest_4_22_7 {g : mm_G} {l : Launch} (t : Int) (p1 : Int) (p2 : Int) (p3 : Int) (p4 : Int) (S0 : zz_S) (n : Nat) (hn : zz_end ≤ n) (G_S0 : zz_G S0) (ht : 0 ≤ t ∧ t ≤ 23) (hp1 : 0 ≤ p1 ∧ p1 ≤ 23) (hp2 : (-2147483648) ≤ p2 ∧ p2 ≤ 2147483647) (hp3 : (-2147483648) ≤ p3 ∧ p3 ≤ 2147483647) (hp4 : (-2147483648) ≤ p4 ∧ p4 ≤ 2147483647) (x6 : Int) (x7 : Int) (S : zz_S) (G_S : zz_G S) (F_S : zz_fr [] [] (fun _ _ => False) S0 S) (i7_0 : (-128) ≤ x6 ∧ x6 ≤ 2147483647) (i7_1 : 0 ≤ x7 ∧ x7 ≤ 2147483647) (R : Nat) (hR : (34359738368 + (S0 (zz_rf 6 t) 3 - x7).toNat) * 1099511627776 + 1099511627775 = R) (k19 : ∀ (x6 : Int) (x7 : Int) (x8 : Int) (S : zz_S), zz_G S → zz_fr [] [] (fun _ _ => False) S0 S → ((-128) ≤ x6 ∧ x6 ≤ 2147483647) → (0 ≤ x7 ∧ x7 ≤ 2147483647) → (0 ≤ x8 ∧ x8 ≤ 2147483647) → (x7 < S0 (zz_rf 6 t) 3) → (34359738368 + (S0 (zz_rf 6 t) 3 - x7).toNat) * 1099511627776 + (17179869184 + (S0 (zz_rf 6 t) 4 - x8).toNat) < R → zz_E g l zy_greatest_4_22 zr_greatest_4_22 (zz_QI n (zp_greatest_4_22 t p1 p2 p3 p4 S0)) S n 19 [some (.ref (zz_rf 6 t)), some (.ref 1032), some (.ref (zz_rf 6 p1)), some (zi p2), some (zi p3), some (zi p4), some (zi x6), some (zi x7), some (zi x8)] [] 0 0) : zz_E g l zy_greatest_4_22 zr_greatest_4_22 (zz_QI n (zp_greatest_4_22 t p1 p2 p3 p4 S0)) S n 7 [some (.ref (zz_rf 6 t)), some (.ref 1032), some (.ref (zz_rf 6 p1)), some (zi p2), some (zi p3), some (zi p4), some (zi x6), some (zi x7)] [] 0 0 := by
  have b_p1 := zz_rf6 (z := p1) (by omega)
  have b_t := zz_rf6 (z := t) (by omega)
  have r3_ := zz_G.r G_S0 (zz_rf 6 t) 3 (-2147483648) 2147483647 (zR_k6_3 (by omega)) (zB_k6 (by omega))
  have r4_ := zz_G.r G_S0 (zz_rf 6 t) 4 (-2147483648) 2147483647 (zR_k6_4 (by omega)) (zB_k6 (by omega))
  refine zz_iload (x := x7) rfl zd_4_22_7 ?_
  refine zz_aload_n (x := zz_rf 6 t) rfl zd_4_22_9 ?_
  have g1 := zz_G.r G_S0 (zz_rf 6 t) 3 (-2147483648) 2147483647 (zR_k6_3 (by omega)) (zB_k6 (by omega))
  refine zz_geti (z := S0 (zz_rf 6 t) 3) zd_4_22_10 zf_Layer_23 (zT_k6 (by omega)) rfl (zN_k6 hn (by omega)) (zz_rc F_S (zP_k6 (by omega) rfl) (zQ_k6 (by omega) rfl) (fun h => h) rfl) ?_
  refine zz_icmp_ge (by omega) (by omega) zd_4_22_13 (fun c2 => ?_) (fun c2 => ?_)
  · refine zz_iload (x := x6) rfl zd_4_22_76 ?_
    exact zz_iret zd_4_22_78 rfl (Nat.zero_le _) (Nat.zero_le _) ⟨_, _, rfl, zz_fr.eq F_S, by omega⟩
  · refine zz_iconst zd_4_22_16 ?_
    refine zz_istore [some (.ref (zz_rf 6 t)), some (.ref 1032), some (.ref (zz_rf 6 p1)), some (zi p2), some (zi p3), some (zi p4), some (zi x6), some (zi x7), some (zi 0)] zd_4_22_17 (by decide) rfl ?_
    refine zz_less (ls1 := [some (.ref (zz_rf 6 t)), some (.ref 1032), some (.ref (zz_rf 6 p1)), some (zi p2), some (zi p3), some (zi p4), some (zi x6), some (zi x7), some (zi 0)]) ⟨rfl, ⟨rfl, ⟨rfl, ⟨rfl, ⟨rfl, ⟨rfl, ⟨rfl, ⟨rfl, ⟨rfl, trivial⟩⟩⟩⟩⟩⟩⟩⟩⟩ ?_
    exact k19 x6 x7 0 S G_S F_S (by omega) (by omega) (by omega) (by omega) (by omega)
theorem zb_greatest_4_22_19 {g : mm_G} {l : Launch} (t : Int) (p1 : Int) (p2 : Int) (p3 : Int) (p4 : Int) (S0 : zz_S) (n : Nat) (hn : zz_end ≤ n) (G_S0 : zz_G S0) (ht : 0 ≤ t ∧ t ≤ 23) (hp1 : 0 ≤ p1 ∧ p1 ≤ 23) (hp2 : (-2147483648) ≤ p2 ∧ p2 ≤ 2147483647) (hp3 : (-2147483648) ≤ p3 ∧ p3 ≤ 2147483647) (hp4 : (-2147483648) ≤ p4 ∧ p4 ≤ 2147483647) (x6 : Int) (x7 : Int) (x8 : Int) (S : zz_S) (G_S : zz_G S) (F_S : zz_fr [] [] (fun _ _ => False) S0 S) (i19_0 : (-128) ≤ x6 ∧ x6 ≤ 2147483647) (i19_1 : 0 ≤ x7 ∧ x7 ≤ 2147483647) (i19_2 : 0 ≤ x8 ∧ x8 ≤ 2147483647) (i19_3 : x7 < S0 (zz_rf 6 t) 3) (R : Nat) (hR : (34359738368 + (S0 (zz_rf 6 t) 3 - x7).toNat) * 1099511627776 + (17179869184 + (S0 (zz_rf 6 t) 4 - x8).toNat) = R) (k7 : ∀ (x6 : Int) (x7 : Int) (S : zz_S), zz_G S → zz_fr [] [] (fun _ _ => False) S0 S → ((-128) ≤ x6 ∧ x6 ≤ 2147483647) → (0 ≤ x7 ∧ x7 ≤ 2147483647) → (34359738368 + (S0 (zz_rf 6 t) 3 - x7).toNat) * 1099511627776 + 1099511627775 < R → zz_E g l zy_greatest_4_22 zr_greatest_4_22 (zz_QI n (zp_greatest_4_22 t p1 p2 p3 p4 S0)) S n 7 [some (.ref (zz_rf 6 t)), some (.ref 1032), some (.ref (zz_rf 6 p1)), some (zi p2), some (zi p3), some (zi p4), some (zi x6), some (zi x7)] [] 0 0) (k19 : ∀ (x6 : Int) (x7 : Int) (x8 : Int) (S : zz_S), zz_G S → zz_fr [] [] (fun _ _ => False) S0 S → ((-128) ≤ x6 ∧ x6 ≤ 2147483647) → (0 ≤ x7 ∧ x7 ≤ 2147483647) → (0 ≤ x8 ∧ x8 ≤ 2147483647) → (x7 < S0 (zz_rf 6 t) 3) → (34359738368 + (S0 (zz_rf 6 t) 3 - x7).toNat) * 1099511627776 + (17179869184 + (S0 (zz_rf 6 t) 4 - x8).toNat) < R → zz_E g l zy_greatest_4_22 zr_greatest_4_22 (zz_QI n (zp_greatest_4_22 t p1 p2 p3 p4 S0)) S n 19 [some (.ref (zz_rf 6 t)), some (.ref 1032), some (.ref (zz_rf 6 p1)), some (zi p2), some (zi p3), some (zi p4), some (zi x6), some (zi x7), some (zi x8)] [] 0 0) : zz_E g l zy_greatest_4_22 zr_greatest_4_22 (zz_QI n (zp_greatest_4_22 t p1 p2 p3 p4 S0)) S n 19 [some (.ref (zz_rf 6 t)), some (.ref 1032), some (.ref (zz_rf 6 p1)), some (zi p2), some (zi p3), some (zi p4), some (zi x6), some (zi x7), some (zi x8)] [] 0 0 := by
  have b_p1 := zz_rf6 (z := p1) (by omega)
  have b_t := zz_rf6 (z := t) (by omega)
  have r3_ := zz_G.r G_S0 (zz_rf 6 t) 3 (-2147483648) 2147483647 (zR_k6_3 (by omega)) (zB_k6 (by omega))
  have r4_ := zz_G.r G_S0 (zz_rf 6 t) 4 (-2147483648) 2147483647 (zR_k6_4 (by omega)) (zB_k6 (by omega))
  refine zz_iload (x := x8) rfl zd_4_22_19 ?_
  refine zz_aload_n (x := zz_rf 6 t) rfl zd_4_22_21 ?_
  have g3 := zz_G.r G_S0 (zz_rf 6 t) 4 (-2147483648) 2147483647 (zR_k6_4 (by omega)) (zB_k6 (by omega))
  refine zz_geti (z := S0 (zz_rf 6 t) 4) zd_4_22_22 zf_Layer_26 (zT_k6 (by omega)) rfl (zN_k6 hn (by omega)) (zz_rc F_S (zP_k6 (by omega) rfl) (zQ_k6 (by omega) rfl) (fun h => h) rfl) ?_
  refine zz_icmp_ge (by omega) (by omega) zd_4_22_25 (fun c4 => ?_) (fun c4 => ?_)
  · refine zz_iincN (fun v5 => [some (.ref (zz_rf 6 t)), some (.ref 1032), some (.ref (zz_rf 6 p1)), some (zi p2), some (zi p3), some (zi p4), some (zi x6), some (zi v5), some (zi x8)]) zd_4_22_70 rfl (fun _ => rfl) (fun v5 hv5 ev5 => ?_)
    refine zz_goto zd_4_22_73 ?_
    refine zz_less (ls1 := [some (.ref (zz_rf 6 t)), some (.ref 1032), some (.ref (zz_rf 6 p1)), some (zi p2), some (zi p3), some (zi p4), some (zi x6), some (zi v5)]) ⟨rfl, ⟨rfl, ⟨rfl, ⟨rfl, ⟨rfl, ⟨rfl, ⟨rfl, ⟨rfl, trivial⟩⟩⟩⟩⟩⟩⟩⟩ ?_
    exact k7 x6 v5 S G_S F_S (by omega) (by omega) (by omega)
  · refine zz_iload (x := x6) rfl zd_4_22_28 ?_
    refine zz_aload_n (x := 1032) rfl zd_4_22_30 ?_
    refine zz_aload_n (x := zz_rf 6 p1) rfl zd_4_22_31 ?_
    refine zz_aload_n (x := zz_rf 6 t) rfl zd_4_22_32 ?_
    have g6 := zz_G.r G_S0 (zz_rf 6 t) 5 (-2147483648) 2147483647 (zR_k6_5 (by omega)) (zB_k6 (by omega))
    refine zz_geti (z := S0 (zz_rf 6 t) 5) zd_4_22_33 zf_Layer_29 (zT_k6 (by omega)) rfl (zN_k6 hn (by omega)) (zz_rc F_S (zP_k6 (by omega) rfl) (zQ_k6 (by omega) rfl) (fun h => h) rfl) ?_
    refine zz_iload_n (x := p2) rfl zd_4_22_36 ?_
    refine zz_imul zd_4_22_37 ?_
    refine zz_nrm (fun v7 hv7 ev7 => ?_)
    clear ev7
    refine zz_iload (x := x7) rfl zd_4_22_38 ?_
    refine zz_iadd zd_4_22_40 ?_
    refine zz_nrm (fun v8 hv8 ev8 => ?_)
    clear ev8
    refine zz_aload_n (x := zz_rf 6 t) rfl zd_4_22_41 ?_
    refine zz_geti (z := S0 (zz_rf 6 t) 5) zd_4_22_42 zf_Layer_29 (zT_k6 (by omega)) rfl (zN_k6 hn (by omega)) (zz_rc F_S (zP_k6 (by omega) rfl) (zQ_k6 (by omega) rfl) (fun h => h) rfl) ?_
    refine zz_iload (x := p3) rfl zd_4_22_45 ?_
    refine zz_imul zd_4_22_47 ?_
    refine zz_nrm (fun v9 hv9 ev9 => ?_)
    clear ev9
    refine zz_iload (x := x8) rfl zd_4_22_48 ?_
    refine zz_iadd zd_4_22_50 ?_
    refine zz_nrm (fun v10 hv10 ev10 => ?_)
    clear ev10
    refine zz_iload (x := p4) rfl zd_4_22_51 ?_
    refine zz_callVI [zi v8, zi v10, zi p4] zd_4_22_53 zk_Layer_75 (zT_k6 (by omega)) (zN_k6 hn (by omega)) rfl rfl ⟨Nat.le_of_ble_eq_true rfl, Nat.le_of_ble_eq_true rfl⟩ ⟨rfl, rfl⟩ (Nat.zero_le _) (Nat.zero_le _) (zc_cellAt_4_15 p1 v8 v10 p4 S n hn G_S (by omega) (by omega) (by omega) (by omega)) (fun v12 S11 hP => ?_)
    obtain ⟨rfl, o13⟩ := hP
    refine zz_callSI [.ref 1032, zi v12] zd_4_22_56 zk_Layer_98 rfl rfl ⟨Nat.le_of_ble_eq_true rfl, Nat.le_of_ble_eq_true rfl⟩ ⟨rfl, rfl⟩ (Nat.zero_le _) (Nat.zero_le _) (zc_byteAt_4_17 v12 S n hn G_S (by omega)) (fun v15 S14 hP => ?_)
    obtain ⟨rfl, o16⟩ := hP
    refine zz_mmax (by omega) (by omega) zd_4_22_59 zm_Layer_121 ⟨Nat.le_of_ble_eq_true rfl, Nat.le_of_ble_eq_true rfl⟩ (Nat.zero_le _) (Nat.zero_le _) (fun v17 hv17 => ?_)
    refine zz_istore [some (.ref (zz_rf 6 t)), some (.ref 1032), some (.ref (zz_rf 6 p1)), some (zi p2), some (zi p3), some (zi p4), some (zi v17), some (zi x7), some (zi x8)] zd_4_22_62 (by decide) rfl ?_
    refine zz_iinc [some (.ref (zz_rf 6 t)), some (.ref 1032), some (.ref (zz_rf 6 p1)), some (zi p2), some (zi p3), some (zi p4), some (zi v17), some (zi x7), some (zi (x8 + 1))] zd_4_22_64 rfl rfl ?_
    refine zz_goto zd_4_22_67 ?_
    refine zz_less (ls1 := [some (.ref (zz_rf 6 t)), some (.ref 1032), some (.ref (zz_rf 6 p1)), some (zi p2), some (zi p3), some (zi p4), some (zi v17), some (zi x7), some (zi (x8 + 1))]) ⟨rfl, ⟨rfl, ⟨rfl, ⟨rfl, ⟨rfl, ⟨rfl, ⟨rfl, ⟨rfl, ⟨rfl, trivial⟩⟩⟩⟩⟩⟩⟩⟩⟩ ?_
    exact k19 v17 x7 (x8 + 1) S G_S F_S (by omega) (by omega) (by omega) (by omega) (by omega)
theorem zi_greatest_4_22 {g : mm_G} {l : Launch} (t : Int) (p1 : Int) (p2 : Int) (p3 : Int) (p4 : Int) (S0 : zz_S) (n : Nat) (hn : zz_end ≤ n) (G_S0 : zz_G S0) (ht : 0 ≤ t ∧ t ≤ 23) (hp1 : 0 ≤ p1 ∧ p1 ≤ 23) (hp2 : (-2147483648) ≤ p2 ∧ p2 ≤ 2147483647) (hp3 : (-2147483648) ≤ p3 ∧ p3 ≤ 2147483647) (hp4 : (-2147483648) ≤ p4 ∧ p4 ≤ 2147483647) : ∀ N : Nat, (∀ (x6 : Int) (x7 : Int) (S : zz_S), zz_G S → zz_fr [] [] (fun _ _ => False) S0 S → ((-128) ≤ x6 ∧ x6 ≤ 2147483647) → (0 ≤ x7 ∧ x7 ≤ 2147483647) → (34359738368 + (S0 (zz_rf 6 t) 3 - x7).toNat) * 1099511627776 + 1099511627775 < N → zz_E g l zy_greatest_4_22 zr_greatest_4_22 (zz_QI n (zp_greatest_4_22 t p1 p2 p3 p4 S0)) S n 7 [some (.ref (zz_rf 6 t)), some (.ref 1032), some (.ref (zz_rf 6 p1)), some (zi p2), some (zi p3), some (zi p4), some (zi x6), some (zi x7)] [] 0 0) ∧ (∀ (x6 : Int) (x7 : Int) (x8 : Int) (S : zz_S), zz_G S → zz_fr [] [] (fun _ _ => False) S0 S → ((-128) ≤ x6 ∧ x6 ≤ 2147483647) → (0 ≤ x7 ∧ x7 ≤ 2147483647) → (0 ≤ x8 ∧ x8 ≤ 2147483647) → (x7 < S0 (zz_rf 6 t) 3) → (34359738368 + (S0 (zz_rf 6 t) 3 - x7).toNat) * 1099511627776 + (17179869184 + (S0 (zz_rf 6 t) 4 - x8).toNat) < N → zz_E g l zy_greatest_4_22 zr_greatest_4_22 (zz_QI n (zp_greatest_4_22 t p1 p2 p3 p4 S0)) S n 19 [some (.ref (zz_rf 6 t)), some (.ref 1032), some (.ref (zz_rf 6 p1)), some (zi p2), some (zi p3), some (zi p4), some (zi x6), some (zi x7), some (zi x8)] [] 0 0) := by
  intro N
  induction N with
  | zero => exact ⟨fun x6 x7 S _ _ _ _ h => absurd h (Nat.not_lt_zero _), fun x6 x7 x8 S _ _ _ _ _ _ h => absurd h (Nat.not_lt_zero _)⟩
  | succ N ih =>
    exact ⟨fun x6 x7 S a b j0 j1 hR => zb_greatest_4_22_7 t p1 p2 p3 p4 S0 n hn G_S0 ht hp1 hp2 hp3 hp4 x6 x7 S a b j0 j1 _ rfl (fun x6 x7 x8 S a b j0 j1 j2 j3 h => ih.2 x6 x7 x8 S a b j0 j1 j2 j3 (Nat.lt_of_lt_of_le h (Nat.le_of_lt_succ hR))),
      fun x6 x7 x8 S a b j0 j1 j2 j3 hR => zb_greatest_4_22_19 t p1 p2 p3 p4 S0 n hn G_S0 ht hp1 hp2 hp3 hp4 x6 x7 x8 S a b j0 j1 j2 j3 _ rfl (fun x6 x7 S a b j0 j1 h => ih.1 x6 x7 S a b j0 j1 (Nat.lt_of_lt_of_le h (Nat.le_of_lt_succ hR))) (fun x6 x7 x8 S a b j0 j1 j2 j3 h => ih.2 x6 x7 x8 S a b j0 j1 j2 j3 (Nat.lt_of_lt_of_le h (Nat.le_of_lt_succ hR)))⟩
theorem zc_greatest_4_22 {g : mm_G} {l : Launch} (t : Int) (p1 : Int) (p2 : Int) (p3 : Int) (p4 : Int) (S0 : zz_S) (n : Nat) (hn : zz_end ≤ n) (G_S0 : zz_G S0) (ht : 0 ≤ t ∧ t ≤ 23) (hp1 : 0 ≤ p1 ∧ p1 ≤ 23) (hp2 : (-2147483648) ≤ p2 ∧ p2 ≤ 2147483647) (hp3 : (-2147483648) ≤ p3 ∧ p3 ≤ 2147483647) (hp4 : (-2147483648) ≤ p4 ∧ p4 ≤ 2147483647) : mm_Met g l zy_greatest_4_22 zr_greatest_4_22 [.ref (zz_rf 6 t), .ref 1032, .ref (zz_rf 6 p1), zi p2, zi p3, zi p4] (zz_M S0 n) n (zz_QI n (zp_greatest_4_22 t p1 p2 p3 p4 S0)) := by
  refine zz_enter (by decide) (Nat.le_of_ble_eq_true rfl) (zz_less (ls1 := [some (.ref (zz_rf 6 t)), some (.ref 1032), some (.ref (zz_rf 6 p1)), some (zi p2), some (zi p3), some (zi p4)]) ⟨rfl, ⟨rfl, ⟨rfl, ⟨rfl, ⟨rfl, ⟨rfl, trivial⟩⟩⟩⟩⟩⟩ ?_)
  have F_S0 : zz_fr [] [] (fun _ _ => False) S0 S0 := zz_fr.refl
  have k7 : ∀ (x6 : Int) (x7 : Int) (S : zz_S), zz_G S → zz_fr [] [] (fun _ _ => False) S0 S → ((-128) ≤ x6 ∧ x6 ≤ 2147483647) → (0 ≤ x7 ∧ x7 ≤ 2147483647) → zz_E g l zy_greatest_4_22 zr_greatest_4_22 (zz_QI n (zp_greatest_4_22 t p1 p2 p3 p4 S0)) S n 7 [some (.ref (zz_rf 6 t)), some (.ref 1032), some (.ref (zz_rf 6 p1)), some (zi p2), some (zi p3), some (zi p4), some (zi x6), some (zi x7)] [] 0 0 := fun x6 x7 S a b j0 j1 => (zi_greatest_4_22 (g := g) (l := l) t p1 p2 p3 p4 S0 n hn G_S0 ht hp1 hp2 hp3 hp4 _).1 x6 x7 S a b j0 j1 (Nat.lt_succ_self _)
  have b_p1 := zz_rf6 (z := p1) (by omega)
  have b_t := zz_rf6 (z := t) (by omega)
  refine zz_bipush (by decide) zd_4_22_0 ?_
  refine zz_istore [some (.ref (zz_rf 6 t)), some (.ref 1032), some (.ref (zz_rf 6 p1)), some (zi p2), some (zi p3), some (zi p4), some (zi (-128))] zd_4_22_2 (by decide) rfl ?_
  refine zz_iconst zd_4_22_4 ?_
  refine zz_istore [some (.ref (zz_rf 6 t)), some (.ref 1032), some (.ref (zz_rf 6 p1)), some (zi p2), some (zi p3), some (zi p4), some (zi (-128)), some (zi 0)] zd_4_22_5 (by decide) rfl ?_
  refine zz_less (ls1 := [some (.ref (zz_rf 6 t)), some (.ref 1032), some (.ref (zz_rf 6 p1)), some (zi p2), some (zi p3), some (zi p4), some (zi (-128)), some (zi 0)]) ⟨rfl, ⟨rfl, ⟨rfl, ⟨rfl, ⟨rfl, ⟨rfl, ⟨rfl, ⟨rfl, trivial⟩⟩⟩⟩⟩⟩⟩⟩ ?_
  exact k7 (-128) 0 S0 G_S0 F_S0 (by omega) (by omega)
theorem zk_Layer_95 : mm_Vl "TensorForge$Layer" 95 2 5 zy_greatest_4_22 := ⟨zyw_greatest_4_22, (R_Layer, F_Layer, 15), rfl, mm_tb_1 898 (by decide +kernel) rfl, mm_tb_1 900 (by decide +kernel) rfl, mm_tb_s 40 (by decide +kernel) rfl⟩
abbrev zy_convolved_4_20 : mm_Y := (⟨"TensorForge$Layer", "convolved", "([BLTensorForge$Layer;III)I"⟩, prog_4_method_20_code, 12, (some .int))
theorem zyw_convolved_4_20 : mm_Yw zy_convolved_4_20 5 := ⟨mm_tb_1 877 (by decide +kernel) rfl, mm_tb_1 3 (by decide +kernel) rfl, ⟨by decide, by decide⟩, by decide +kernel⟩
theorem zk_Layer_102 : mm_Vl "TensorForge$Layer" 102 2 1 zy_biasAt_4_13 := ⟨zyw_biasAt_4_13, (R_Layer, F_Layer, 15), rfl, mm_tb_1 878 (by decide +kernel) rfl, mm_tb_1 879 (by decide +kernel) rfl, mm_tb_1 880 (by decide +kernel) rfl⟩
theorem zk_Layer_106 : mm_Sl "TensorForge$Layer" 106 2 zy_intAt_6_4 := ⟨zyw_intAt_6_4, mm_tb_1 882 (by decide +kernel) rfl, mm_tb_1 811 (by decide +kernel) rfl⟩
abbrev zy_hasPlace_4_16 : mm_Y := (⟨"TensorForge$Layer", "hasPlace", "(II)Z"⟩, prog_4_method_16_code, 3, (some .boolean))
theorem zyw_hasPlace_4_16 : mm_Yw zy_hasPlace_4_16 2 := ⟨mm_tb_1 886 (by decide +kernel) rfl, mm_tb_1 3 (by decide +kernel) rfl, ⟨by decide, by decide⟩, by decide +kernel⟩
theorem zg_4_19_41 : zq_at zy_sumOf_4_19.2.1 41 172 ∧ zq_at zy_sumOf_4_19.2.1 8 42 ∧ zq_at zy_sumOf_4_19.2.1 9 43 ∧ zq_at zy_sumOf_4_19.2.1 10 44 ∧ zq_at zy_sumOf_4_19.2.1 11 21 ∧ zq_at zy_sumOf_4_19.2.1 12 4 ∧ zq_at zy_sumOf_4_19.2.1 13 21 ∧ zq_at zy_sumOf_4_19.2.1 14 5 ∧ zq_at zy_sumOf_4_19.2.1 15 21 ∧ zq_at zy_sumOf_4_19.2.1 16 6 ∧ zq_at zy_sumOf_4_19.2.1 17 182 ∧ zq_at zy_sumOf_4_19.2.1 18 0 ∧ zq_at zy_sumOf_4_19.2.1 19 91 := by decide +kernel
theorem zd_4_19_41 : zz_D zy_sumOf_4_19 41 (.ireturn) 1 42 := ⟨zq_172 zg_4_19_41.1, rfl⟩
theorem zd_4_19_8 : zz_D zy_sumOf_4_19 8 (.aload_n 0) 1 9 := ⟨zq_42 zg_4_19_41.2.1, rfl⟩
theorem zd_4_19_9 : zz_D zy_sumOf_4_19 9 (.aload_n 1) 1 10 := ⟨zq_43 zg_4_19_41.2.2.1, rfl⟩
theorem zd_4_19_10 : zz_D zy_sumOf_4_19 10 (.aload_n 2) 1 11 := ⟨zq_44 zg_4_19_41.2.2.2.1, rfl⟩
theorem zd_4_19_11 : zz_D zy_sumOf_4_19 11 (.iload 4) 2 13 := ⟨zq_21 zg_4_19_41.2.2.2.2.1 zg_4_19_41.2.2.2.2.2.1, rfl⟩
theorem zd_4_19_13 : zz_D zy_sumOf_4_19 13 (.iload 5) 2 15 := ⟨zq_21 zg_4_19_41.2.2.2.2.2.2.1 zg_4_19_41.2.2.2.2.2.2.2.1, rfl⟩
theorem zd_4_19_15 : zz_D zy_sumOf_4_19 15 (.iload 6) 2 17 := ⟨zq_21 zg_4_19_41.2.2.2.2.2.2.2.2.1 zg_4_19_41.2.2.2.2.2.2.2.2.2.1, rfl⟩
theorem zd_4_19_17 : zz_D zy_sumOf_4_19 17 (.invokevirtual 91) 3 20 := ⟨zq_182 zg_4_19_41.2.2.2.2.2.2.2.2.2.2.1 zg_4_19_41.2.2.2.2.2.2.2.2.2.2.2.1 zg_4_19_41.2.2.2.2.2.2.2.2.2.2.2.2 rfl, rfl⟩
theorem zg_4_20_0 : zq_at zy_convolved_4_20.2.1 0 43 ∧ zq_at zy_convolved_4_20.2.1 1 42 ∧ zq_at zy_convolved_4_20.2.1 2 21 ∧ zq_at zy_convolved_4_20.2.1 3 5 ∧ zq_at zy_convolved_4_20.2.1 4 182 ∧ zq_at zy_convolved_4_20.2.1 5 0 ∧ zq_at zy_convolved_4_20.2.1 6 102 ∧ zq_at zy_convolved_4_20.2.1 7 184 ∧ zq_at zy_convolved_4_20.2.1 8 0 ∧ zq_at zy_convolved_4_20.2.1 9 106 ∧ zq_at zy_convolved_4_20.2.1 10 54 ∧ zq_at zy_convolved_4_20.2.1 11 6 ∧ zq_at zy_convolved_4_20.2.1 12 3 ∧ zq_at zy_convolved_4_20.2.1 13 54 ∧ zq_at zy_convolved_4_20.2.1 14 7 ∧ zq_at zy_convolved_4_20.2.1 15 21 ∧ zq_at zy_convolved_4_20.2.1 16 7 ∧ zq_at zy_convolved_4_20.2.1 17 42 ∧ zq_at zy_convolved_4_20.2.1 18 180 ∧ zq_at zy_convolved_4_20.2.1 19 0 ∧ zq_at zy_convolved_4_20.2.1 20 23 ∧ zq_at zy_convolved_4_20.2.1 21 162 ∧ zq_at zy_convolved_4_20.2.1 22 0 ∧ zq_at zy_convolved_4_20.2.1 23 107 := by decide +kernel
theorem zd_4_20_0 : zz_D zy_convolved_4_20 0 (.aload_n 1) 1 1 := ⟨zq_43 zg_4_20_0.1, rfl⟩
theorem zd_4_20_1 : zz_D zy_convolved_4_20 1 (.aload_n 0) 1 2 := ⟨zq_42 zg_4_20_0.2.1, rfl⟩
theorem zd_4_20_2 : zz_D zy_convolved_4_20 2 (.iload 5) 2 4 := ⟨zq_21 zg_4_20_0.2.2.1 zg_4_20_0.2.2.2.1, rfl⟩
theorem zd_4_20_4 : zz_D zy_convolved_4_20 4 (.invokevirtual 102) 3 7 := ⟨zq_182 zg_4_20_0.2.2.2.2.1 zg_4_20_0.2.2.2.2.2.1 zg_4_20_0.2.2.2.2.2.2.1 rfl, rfl⟩
theorem zd_4_20_7 : zz_D zy_convolved_4_20 7 (.invokestatic 106) 3 10 := ⟨zq_184 zg_4_20_0.2.2.2.2.2.2.2.1 zg_4_20_0.2.2.2.2.2.2.2.2.1 zg_4_20_0.2.2.2.2.2.2.2.2.2.1 rfl, rfl⟩
theorem zd_4_20_10 : zz_D zy_convolved_4_20 10 (.istore 6) 2 12 := ⟨zq_54 zg_4_20_0.2.2.2.2.2.2.2.2.2.2.1 zg_4_20_0.2.2.2.2.2.2.2.2.2.2.2.1, rfl⟩
theorem zd_4_20_12 : zz_D zy_convolved_4_20 12 (.iconst 0) 1 13 := ⟨zq_3 zg_4_20_0.2.2.2.2.2.2.2.2.2.2.2.2.1, rfl⟩
theorem zd_4_20_13 : zz_D zy_convolved_4_20 13 (.istore 7) 2 15 := ⟨zq_54 zg_4_20_0.2.2.2.2.2.2.2.2.2.2.2.2.2.1 zg_4_20_0.2.2.2.2.2.2.2.2.2.2.2.2.2.2.1, rfl⟩
theorem zd_4_20_15 : zz_D zy_convolved_4_20 15 (.iload 7) 2 17 := ⟨zq_21 zg_4_20_0.2.2.2.2.2.2.2.2.2.2.2.2.2.2.2.1 zg_4_20_0.2.2.2.2.2.2.2.2.2.2.2.2.2.2.2.2.1, rfl⟩
theorem zd_4_20_17 : zz_D zy_convolved_4_20 17 (.aload_n 0) 1 18 := ⟨zq_42 zg_4_20_0.2.2.2.2.2.2.2.2.2.2.2.2.2.2.2.2.2.1, rfl⟩
theorem zd_4_20_18 : zz_D zy_convolved_4_20 18 (.getfield 23) 3 21 := ⟨zq_180 zg_4_20_0.2.2.2.2.2.2.2.2.2.2.2.2.2.2.2.2.2.2.1 zg_4_20_0.2.2.2.2.2.2.2.2.2.2.2.2.2.2.2.2.2.2.2.1 zg_4_20_0.2.2.2.2.2.2.2.2.2.2.2.2.2.2.2.2.2.2.2.2.1 rfl, rfl⟩
theorem zd_4_20_21 : zz_B zy_convolved_4_20 21 (Instr.if_icmp .ge) 128 24 := ⟨107, zq_162 zg_4_20_0.2.2.2.2.2.2.2.2.2.2.2.2.2.2.2.2.2.2.2.2.2.1 zg_4_20_0.2.2.2.2.2.2.2.2.2.2.2.2.2.2.2.2.2.2.2.2.2.2.1 zg_4_20_0.2.2.2.2.2.2.2.2.2.2.2.2.2.2.2.2.2.2.2.2.2.2.2 (by decide), rfl, rfl⟩
theorem zg_4_20_128 : zq_at zy_convolved_4_20.2.1 128 21 ∧ zq_at zy_convolved_4_20.2.1 129 6 ∧ zq_at zy_convolved_4_20.2.1 130 172 ∧ zq_at zy_convolved_4_20.2.1 24 3 ∧ zq_at zy_convolved_4_20.2.1 25 54 ∧ zq_at zy_convolved_4_20.2.1 26 8 ∧ zq_at zy_convolved_4_20.2.1 27 21 ∧ zq_at zy_convolved_4_20.2.1 28 8 ∧ zq_at zy_convolved_4_20.2.1 29 42 ∧ zq_at zy_convolved_4_20.2.1 30 180 ∧ zq_at zy_convolved_4_20.2.1 31 0 ∧ zq_at zy_convolved_4_20.2.1 32 26 ∧ zq_at zy_convolved_4_20.2.1 33 162 ∧ zq_at zy_convolved_4_20.2.1 34 0 ∧ zq_at zy_convolved_4_20.2.1 35 89 ∧ zq_at zy_convolved_4_20.2.1 122 132 ∧ zq_at zy_convolved_4_20.2.1 123 7 ∧ zq_at zy_convolved_4_20.2.1 124 1 ∧ zq_at zy_convolved_4_20.2.1 125 167 ∧ zq_at zy_convolved_4_20.2.1 126 255 ∧ zq_at zy_convolved_4_20.2.1 127 146 ∧ zq_at zy_convolved_4_20.2.1 36 42 := by decide +kernel
theorem zd_4_20_128 : zz_D zy_convolved_4_20 128 (.iload 6) 2 130 := ⟨zq_21 zg_4_20_128.1 zg_4_20_128.2.1, rfl⟩
theorem zd_4_20_130 : zz_D zy_convolved_4_20 130 (.ireturn) 1 131 := ⟨zq_172 zg_4_20_128.2.2.1, rfl⟩
theorem zd_4_20_24 : zz_D zy_convolved_4_20 24 (.iconst 0) 1 25 := ⟨zq_3 zg_4_20_128.2.2.2.1, rfl⟩
theorem zd_4_20_25 : zz_D zy_convolved_4_20 25 (.istore 8) 2 27 := ⟨zq_54 zg_4_20_128.2.2.2.2.1 zg_4_20_128.2.2.2.2.2.1, rfl⟩
theorem zd_4_20_27 : zz_D zy_convolved_4_20 27 (.iload 8) 2 29 := ⟨zq_21 zg_4_20_128.2.2.2.2.2.2.1 zg_4_20_128.2.2.2.2.2.2.2.1, rfl⟩
theorem zd_4_20_29 : zz_D zy_convolved_4_20 29 (.aload_n 0) 1 30 := ⟨zq_42 zg_4_20_128.2.2.2.2.2.2.2.2.1, rfl⟩
theorem zd_4_20_30 : zz_D zy_convolved_4_20 30 (.getfield 26) 3 33 := ⟨zq_180 zg_4_20_128.2.2.2.2.2.2.2.2.2.1 zg_4_20_128.2.2.2.2.2.2.2.2.2.2.1 zg_4_20_128.2.2.2.2.2.2.2.2.2.2.2.1 rfl, rfl⟩
theorem zd_4_20_33 : zz_B zy_convolved_4_20 33 (Instr.if_icmp .ge) 122 36 := ⟨89, zq_162 zg_4_20_128.2.2.2.2.2.2.2.2.2.2.2.2.1 zg_4_20_128.2.2.2.2.2.2.2.2.2.2.2.2.2.1 zg_4_20_128.2.2.2.2.2.2.2.2.2.2.2.2.2.2.1 (by decide), rfl, rfl⟩
theorem zd_4_20_122 : zz_D zy_convolved_4_20 122 (.iinc 7 1) 3 125 := ⟨zq_132 zg_4_20_128.2.2.2.2.2.2.2.2.2.2.2.2.2.2.2.1 zg_4_20_128.2.2.2.2.2.2.2.2.2.2.2.2.2.2.2.2.1 zg_4_20_128.2.2.2.2.2.2.2.2.2.2.2.2.2.2.2.2.2.1 (by decide), rfl⟩
theorem zd_4_20_125 : zz_B zy_convolved_4_20 125 Instr.goto 15 128 := ⟨(-110), zq_167 zg_4_20_128.2.2.2.2.2.2.2.2.2.2.2.2.2.2.2.2.2.2.1 zg_4_20_128.2.2.2.2.2.2.2.2.2.2.2.2.2.2.2.2.2.2.2.1 zg_4_20_128.2.2.2.2.2.2.2.2.2.2.2.2.2.2.2.2.2.2.2.2.1 (by decide), rfl, rfl⟩
theorem zd_4_20_36 : zz_D zy_convolved_4_20 36 (.aload_n 0) 1 37 := ⟨zq_42 zg_4_20_128.2.2.2.2.2.2.2.2.2.2.2.2.2.2.2.2.2.2.2.2.2, rfl⟩
theorem zg_4_20_37 : zq_at zy_convolved_4_20.2.1 37 180 ∧ zq_at zy_convolved_4_20.2.1 38 0 ∧ zq_at zy_convolved_4_20.2.1 39 29 ∧ zq_at zy_convolved_4_20.2.1 40 29 ∧ zq_at zy_convolved_4_20.2.1 41 104 ∧ zq_at zy_convolved_4_20.2.1 42 21 ∧ zq_at zy_convolved_4_20.2.1 43 7 ∧ zq_at zy_convolved_4_20.2.1 44 96 ∧ zq_at zy_convolved_4_20.2.1 45 42 ∧ zq_at zy_convolved_4_20.2.1 46 180 ∧ zq_at zy_convolved_4_20.2.1 47 0 ∧ zq_at zy_convolved_4_20.2.1 48 32 ∧ zq_at zy_convolved_4_20.2.1 49 100 ∧ zq_at zy_convolved_4_20.2.1 50 54 ∧ zq_at zy_convolved_4_20.2.1 51 9 ∧ zq_at zy_convolved_4_20.2.1 52 42 ∧ zq_at zy_convolved_4_20.2.1 53 180 ∧ zq_at zy_convolved_4_20.2.1 54 0 ∧ zq_at zy_convolved_4_20.2.1 55 29 ∧ zq_at zy_convolved_4_20.2.1 56 21 ∧ zq_at zy_convolved_4_20.2.1 57 4 ∧ zq_at zy_convolved_4_20.2.1 58 104 ∧ zq_at zy_convolved_4_20.2.1 59 21 ∧ zq_at zy_convolved_4_20.2.1 60 8 := by decide +kernel
theorem zd_4_20_37 : zz_D zy_convolved_4_20 37 (.getfield 29) 3 40 := ⟨zq_180 zg_4_20_37.1 zg_4_20_37.2.1 zg_4_20_37.2.2.1 rfl, rfl⟩
theorem zd_4_20_40 : zz_D zy_convolved_4_20 40 (.iload_n 3) 1 41 := ⟨zq_29 zg_4_20_37.2.2.2.1, rfl⟩
theorem zd_4_20_41 : zz_D zy_convolved_4_20 41 (.imul) 1 42 := ⟨zq_104 zg_4_20_37.2.2.2.2.1, rfl⟩
theorem zd_4_20_42 : zz_D zy_convolved_4_20 42 (.iload 7) 2 44 := ⟨zq_21 zg_4_20_37.2.2.2.2.2.1 zg_4_20_37.2.2.2.2.2.2.1, rfl⟩
theorem zd_4_20_44 : zz_D zy_convolved_4_20 44 (.iadd) 1 45 := ⟨zq_96 zg_4_20_37.2.2.2.2.2.2.2.1, rfl⟩
theorem zd_4_20_45 : zz_D zy_convolved_4_20 45 (.aload_n 0) 1 46 := ⟨zq_42 zg_4_20_37.2.2.2.2.2.2.2.2.1, rfl⟩
theorem zd_4_20_46 : zz_D zy_convolved_4_20 46 (.getfield 32) 3 49 := ⟨zq_180 zg_4_20_37.2.2.2.2.2.2.2.2.2.1 zg_4_20_37.2.2.2.2.2.2.2.2.2.2.1 zg_4_20_37.2.2.2.2.2.2.2.2.2.2.2.1 rfl, rfl⟩
theorem zd_4_20_49 : zz_D zy_convolved_4_20 49 (.isub) 1 50 := ⟨zq_100 zg_4_20_37.2.2.2.2.2.2.2.2.2.2.2.2.1, rfl⟩
theorem zd_4_20_50 : zz_D zy_convolved_4_20 50 (.istore 9) 2 52 := ⟨zq_54 zg_4_20_37.2.2.2.2.2.2.2.2.2.2.2.2.2.1 zg_4_20_37.2.2.2.2.2.2.2.2.2.2.2.2.2.2.1, rfl⟩
theorem zd_4_20_52 : zz_D zy_convolved_4_20 52 (.aload_n 0) 1 53 := ⟨zq_42 zg_4_20_37.2.2.2.2.2.2.2.2.2.2.2.2.2.2.2.1, rfl⟩
theorem zd_4_20_53 : zz_D zy_convolved_4_20 53 (.getfield 29) 3 56 := ⟨zq_180 zg_4_20_37.2.2.2.2.2.2.2.2.2.2.2.2.2.2.2.2.1 zg_4_20_37.2.2.2.2.2.2.2.2.2.2.2.2.2.2.2.2.2.1 zg_4_20_37.2.2.2.2.2.2.2.2.2.2.2.2.2.2.2.2.2.2.1 rfl, rfl⟩
theorem zd_4_20_56 : zz_D zy_convolved_4_20 56 (.iload 4) 2 58 := ⟨zq_21 zg_4_20_37.2.2.2.2.2.2.2.2.2.2.2.2.2.2.2.2.2.2.2.1 zg_4_20_37.2.2.2.2.2.2.2.2.2.2.2.2.2.2.2.2.2.2.2.2.1, rfl⟩
theorem zd_4_20_58 : zz_D zy_convolved_4_20 58 (.imul) 1 59 := ⟨zq_104 zg_4_20_37.2.2.2.2.2.2.2.2.2.2.2.2.2.2.2.2.2.2.2.2.2.1, rfl⟩
theorem zd_4_20_59 : zz_D zy_convolved_4_20 59 (.iload 8) 2 61 := ⟨zq_21 zg_4_20_37.2.2.2.2.2.2.2.2.2.2.2.2.2.2.2.2.2.2.2.2.2.2.1 zg_4_20_37.2.2.2.2.2.2.2.2.2.2.2.2.2.2.2.2.2.2.2.2.2.2.2, rfl⟩
theorem zg_4_20_61 : zq_at zy_convolved_4_20.2.1 61 96 ∧ zq_at zy_convolved_4_20.2.1 62 42 ∧ zq_at zy_convolved_4_20.2.1 63 180 ∧ zq_at zy_convolved_4_20.2.1 64 0 ∧ zq_at zy_convolved_4_20.2.1 65 32 ∧ zq_at zy_convolved_4_20.2.1 66 100 ∧ zq_at zy_convolved_4_20.2.1 67 54 ∧ zq_at zy_convolved_4_20.2.1 68 10 ∧ zq_at zy_convolved_4_20.2.1 69 44 ∧ zq_at zy_convolved_4_20.2.1 70 21 ∧ zq_at zy_convolved_4_20.2.1 71 9 ∧ zq_at zy_convolved_4_20.2.1 72 21 ∧ zq_at zy_convolved_4_20.2.1 73 10 ∧ zq_at zy_convolved_4_20.2.1 74 182 ∧ zq_at zy_convolved_4_20.2.1 75 0 ∧ zq_at zy_convolved_4_20.2.1 76 109 := by decide +kernel
theorem zd_4_20_61 : zz_D zy_convolved_4_20 61 (.iadd) 1 62 := ⟨zq_96 zg_4_20_61.1, rfl⟩
theorem zd_4_20_62 : zz_D zy_convolved_4_20 62 (.aload_n 0) 1 63 := ⟨zq_42 zg_4_20_61.2.1, rfl⟩
theorem zd_4_20_63 : zz_D zy_convolved_4_20 63 (.getfield 32) 3 66 := ⟨zq_180 zg_4_20_61.2.2.1 zg_4_20_61.2.2.2.1 zg_4_20_61.2.2.2.2.1 rfl, rfl⟩
theorem zd_4_20_66 : zz_D zy_convolved_4_20 66 (.isub) 1 67 := ⟨zq_100 zg_4_20_61.2.2.2.2.2.1, rfl⟩
theorem zd_4_20_67 : zz_D zy_convolved_4_20 67 (.istore 10) 2 69 := ⟨zq_54 zg_4_20_61.2.2.2.2.2.2.1 zg_4_20_61.2.2.2.2.2.2.2.1, rfl⟩
theorem zd_4_20_69 : zz_D zy_convolved_4_20 69 (.aload_n 2) 1 70 := ⟨zq_44 zg_4_20_61.2.2.2.2.2.2.2.2.1, rfl⟩
theorem zd_4_20_70 : zz_D zy_convolved_4_20 70 (.iload 9) 2 72 := ⟨zq_21 zg_4_20_61.2.2.2.2.2.2.2.2.2.1 zg_4_20_61.2.2.2.2.2.2.2.2.2.2.1, rfl⟩
theorem zd_4_20_72 : zz_D zy_convolved_4_20 72 (.iload 10) 2 74 := ⟨zq_21 zg_4_20_61.2.2.2.2.2.2.2.2.2.2.2.1 zg_4_20_61.2.2.2.2.2.2.2.2.2.2.2.2.1, rfl⟩
theorem zd_4_20_74 : zz_D zy_convolved_4_20 74 (.invokevirtual 109) 3 77 := ⟨zq_182 zg_4_20_61.2.2.2.2.2.2.2.2.2.2.2.2.2.1 zg_4_20_61.2.2.2.2.2.2.2.2.2.2.2.2.2.2.1 zg_4_20_61.2.2.2.2.2.2.2.2.2.2.2.2.2.2.2 rfl, rfl⟩
theorem zg_4_16_0 : zq_at zy_hasPlace_4_16.2.1 0 27 ∧ zq_at zy_hasPlace_4_16.2.1 1 155 ∧ zq_at zy_hasPlace_4_16.2.1 2 0 ∧ zq_at zy_hasPlace_4_16.2.1 3 27 ∧ zq_at zy_hasPlace_4_16.2.1 28 3 ∧ zq_at zy_hasPlace_4_16.2.1 29 172 ∧ zq_at zy_hasPlace_4_16.2.1 4 27 ∧ zq_at zy_hasPlace_4_16.2.1 5 42 ∧ zq_at zy_hasPlace_4_16.2.1 6 180 ∧ zq_at zy_hasPlace_4_16.2.1 7 0 ∧ zq_at zy_hasPlace_4_16.2.1 8 54 ∧ zq_at zy_hasPlace_4_16.2.1 9 162 ∧ zq_at zy_hasPlace_4_16.2.1 10 0 ∧ zq_at zy_hasPlace_4_16.2.1 11 19 ∧ zq_at zy_hasPlace_4_16.2.1 12 28 ∧ zq_at zy_hasPlace_4_16.2.1 13 155 ∧ zq_at zy_hasPlace_4_16.2.1 14 0 ∧ zq_at zy_hasPlace_4_16.2.1 15 15 ∧ zq_at zy_hasPlace_4_16.2.1 16 28 ∧ zq_at zy_hasPlace_4_16.2.1 17 42 ∧ zq_at zy_hasPlace_4_16.2.1 18 180 ∧ zq_at zy_hasPlace_4_16.2.1 19 0 ∧ zq_at zy_hasPlace_4_16.2.1 20 57 := by decide +kernel
theorem zd_4_16_0 : zz_D zy_hasPlace_4_16 0 (.iload_n 1) 1 1 := ⟨zq_27 zg_4_16_0.1, rfl⟩
theorem zd_4_16_1 : zz_B zy_hasPlace_4_16 1 (Instr.ifCond .lt) 28 4 := ⟨27, zq_155 zg_4_16_0.2.1 zg_4_16_0.2.2.1 zg_4_16_0.2.2.2.1 (by decide), rfl, rfl⟩
theorem zd_4_16_28 : zz_D zy_hasPlace_4_16 28 (.iconst 0) 1 29 := ⟨zq_3 zg_4_16_0.2.2.2.2.1, rfl⟩
theorem zd_4_16_29 : zz_D zy_hasPlace_4_16 29 (.ireturn) 1 30 := ⟨zq_172 zg_4_16_0.2.2.2.2.2.1, rfl⟩
theorem zd_4_16_4 : zz_D zy_hasPlace_4_16 4 (.iload_n 1) 1 5 := ⟨zq_27 zg_4_16_0.2.2.2.2.2.2.1, rfl⟩
theorem zd_4_16_5 : zz_D zy_hasPlace_4_16 5 (.aload_n 0) 1 6 := ⟨zq_42 zg_4_16_0.2.2.2.2.2.2.2.1, rfl⟩
theorem zd_4_16_6 : zz_D zy_hasPlace_4_16 6 (.getfield 54) 3 9 := ⟨zq_180 zg_4_16_0.2.2.2.2.2.2.2.2.1 zg_4_16_0.2.2.2.2.2.2.2.2.2.1 zg_4_16_0.2.2.2.2.2.2.2.2.2.2.1 rfl, rfl⟩
theorem zd_4_16_9 : zz_B zy_hasPlace_4_16 9 (Instr.if_icmp .ge) 28 12 := ⟨19, zq_162 zg_4_16_0.2.2.2.2.2.2.2.2.2.2.2.1 zg_4_16_0.2.2.2.2.2.2.2.2.2.2.2.2.1 zg_4_16_0.2.2.2.2.2.2.2.2.2.2.2.2.2.1 (by decide), rfl, rfl⟩
theorem zd_4_16_12 : zz_D zy_hasPlace_4_16 12 (.iload_n 2) 1 13 := ⟨zq_28 zg_4_16_0.2.2.2.2.2.2.2.2.2.2.2.2.2.2.1, rfl⟩
theorem zd_4_16_13 : zz_B zy_hasPlace_4_16 13 (Instr.ifCond .lt) 28 16 := ⟨15, zq_155 zg_4_16_0.2.2.2.2.2.2.2.2.2.2.2.2.2.2.2.1 zg_4_16_0.2.2.2.2.2.2.2.2.2.2.2.2.2.2.2.2.1 zg_4_16_0.2.2.2.2.2.2.2.2.2.2.2.2.2.2.2.2.2.1 (by decide), rfl, rfl⟩
theorem zd_4_16_16 : zz_D zy_hasPlace_4_16 16 (.iload_n 2) 1 17 := ⟨zq_28 zg_4_16_0.2.2.2.2.2.2.2.2.2.2.2.2.2.2.2.2.2.2.1, rfl⟩
theorem zd_4_16_17 : zz_D zy_hasPlace_4_16 17 (.aload_n 0) 1 18 := ⟨zq_42 zg_4_16_0.2.2.2.2.2.2.2.2.2.2.2.2.2.2.2.2.2.2.2.1, rfl⟩
theorem zd_4_16_18 : zz_D zy_hasPlace_4_16 18 (.getfield 57) 3 21 := ⟨zq_180 zg_4_16_0.2.2.2.2.2.2.2.2.2.2.2.2.2.2.2.2.2.2.2.2.1 zg_4_16_0.2.2.2.2.2.2.2.2.2.2.2.2.2.2.2.2.2.2.2.2.2.1 zg_4_16_0.2.2.2.2.2.2.2.2.2.2.2.2.2.2.2.2.2.2.2.2.2.2 rfl, rfl⟩
theorem zg_4_16_21 : zq_at zy_hasPlace_4_16.2.1 21 162 ∧ zq_at zy_hasPlace_4_16.2.1 22 0 ∧ zq_at zy_hasPlace_4_16.2.1 23 7 ∧ zq_at zy_hasPlace_4_16.2.1 24 4 ∧ zq_at zy_hasPlace_4_16.2.1 25 167 ∧ zq_at zy_hasPlace_4_16.2.1 26 0 ∧ zq_at zy_hasPlace_4_16.2.1 27 4 := by decide +kernel
theorem zd_4_16_21 : zz_B zy_hasPlace_4_16 21 (Instr.if_icmp .ge) 28 24 := ⟨7, zq_162 zg_4_16_21.1 zg_4_16_21.2.1 zg_4_16_21.2.2.1 (by decide), rfl, rfl⟩
theorem zd_4_16_24 : zz_D zy_hasPlace_4_16 24 (.iconst 1) 1 25 := ⟨zq_4 zg_4_16_21.2.2.2.1, rfl⟩
theorem zd_4_16_25 : zz_B zy_hasPlace_4_16 25 Instr.goto 29 28 := ⟨4, zq_167 zg_4_16_21.2.2.2.2.1 zg_4_16_21.2.2.2.2.2.1 zg_4_16_21.2.2.2.2.2.2 (by decide), rfl, rfl⟩
-- TensorForge$Layer hasPlace (II)Z
abbrev zr_hasPlace_4_16 : Room := { frames := 0, cells := 0, slots := 0, locals := 0 }
def zp_hasPlace_4_16 (t : Int) (p0 : Int) (p1 : Int) (S0 : zz_S) : Int → zz_S → Prop := fun r S => S0 = S ∧ (0 ≤ r ∧ r ≤ 1)
theorem zc_hasPlace_4_16 {g : mm_G} {l : Launch} (t : Int) (p0 : Int) (p1 : Int) (S0 : zz_S) (n : Nat) (hn : zz_end ≤ n) (G_S0 : zz_G S0) (ht : 0 ≤ t ∧ t ≤ 23) (hp0 : (-2147483648) ≤ p0 ∧ p0 ≤ 2147483647) (hp1 : (-2147483648) ≤ p1 ∧ p1 ≤ 2147483647) : mm_Met g l zy_hasPlace_4_16 zr_hasPlace_4_16 [.ref (zz_rf 6 t), zi p0, zi p1] (zz_M S0 n) n (zz_QI n (zp_hasPlace_4_16 t p0 p1 S0)) := by
  refine zz_enter (by decide) (Nat.le_of_ble_eq_true rfl) (zz_less (ls1 := [some (.ref (zz_rf 6 t)), some (zi p0), some (zi p1)]) ⟨rfl, ⟨rfl, ⟨rfl, trivial⟩⟩⟩ ?_)
  have b_t := zz_rf6 (z := t) (by omega)
  refine zz_iload_n (x := p0) rfl zd_4_16_0 ?_
  refine zz_if_lt (by omega) zd_4_16_1 (fun c1 => ?_) (fun c1 => ?_)
  · refine zz_iconst zd_4_16_28 ?_
    exact zz_zret zd_4_16_29 rfl (by omega) (Nat.zero_le _) (Nat.zero_le _) ⟨_, _, rfl, rfl, by omega⟩
  · refine zz_iload_n (x := p0) rfl zd_4_16_4 ?_
    refine zz_aload_n (x := zz_rf 6 t) rfl zd_4_16_5 ?_
    have g2 := zz_G.r G_S0 (zz_rf 6 t) 10 (-2147483648) 2147483647 (zR_k6_10 (by omega)) (zB_k6 (by omega))
    refine zz_geti (z := S0 (zz_rf 6 t) 10) zd_4_16_6 zf_Layer_54 (zT_k6 (by omega)) rfl (zN_k6 hn (by omega)) rfl ?_
    refine zz_icmp_ge (by omega) (by omega) zd_4_16_9 (fun c3 => ?_) (fun c3 => ?_)
    · refine zz_iconst zd_4_16_28 ?_
      exact zz_zret zd_4_16_29 rfl (by omega) (Nat.zero_le _) (Nat.zero_le _) ⟨_, _, rfl, rfl, by omega⟩
    · refine zz_iload_n (x := p1) rfl zd_4_16_12 ?_
      refine zz_if_lt (by omega) zd_4_16_13 (fun c4 => ?_) (fun c4 => ?_)
      · refine zz_iconst zd_4_16_28 ?_
        exact zz_zret zd_4_16_29 rfl (by omega) (Nat.zero_le _) (Nat.zero_le _) ⟨_, _, rfl, rfl, by omega⟩
      · refine zz_iload_n (x := p1) rfl zd_4_16_16 ?_
        refine zz_aload_n (x := zz_rf 6 t) rfl zd_4_16_17 ?_
        have g5 := zz_G.r G_S0 (zz_rf 6 t) 11 (-2147483648) 2147483647 (zR_k6_11 (by omega)) (zB_k6 (by omega))
        refine zz_geti (z := S0 (zz_rf 6 t) 11) zd_4_16_18 zf_Layer_57 (zT_k6 (by omega)) rfl (zN_k6 hn (by omega)) rfl ?_
        refine zz_icmp_ge (by omega) (by omega) zd_4_16_21 (fun c6 => ?_) (fun c6 => ?_)
        · refine zz_iconst zd_4_16_28 ?_
          exact zz_zret zd_4_16_29 rfl (by omega) (Nat.zero_le _) (Nat.zero_le _) ⟨_, _, rfl, rfl, by omega⟩
        · refine zz_iconst zd_4_16_24 ?_
          refine zz_goto zd_4_16_25 ?_
          exact zz_zret zd_4_16_29 rfl (by omega) (Nat.zero_le _) (Nat.zero_le _) ⟨_, _, rfl, rfl, by omega⟩
theorem zk_Layer_109 : mm_Vl "TensorForge$Layer" 109 2 2 zy_hasPlace_4_16 := ⟨zyw_hasPlace_4_16, (R_Layer, F_Layer, 15), rfl, mm_tb_1 883 (by decide +kernel) rfl, mm_tb_1 884 (by decide +kernel) rfl, mm_tb_1 885 (by decide +kernel) rfl⟩
theorem zk_Layer_113 : mm_Vl "TensorForge$Layer" 113 2 5 zy_weightAt_4_14 := ⟨zyw_weightAt_4_14, (R_Layer, F_Layer, 15), rfl, mm_tb_1 887 (by decide +kernel) rfl, mm_tb_1 888 (by decide +kernel) rfl, mm_tb_1 889 (by decide +kernel) rfl⟩
abbrev zy_product_4_21 : mm_Y := (⟨"TensorForge$Layer", "product", "([BLTensorForge$Layer;II)I"⟩, prog_4_method_21_code, 7, (some .int))
theorem zyw_product_4_21 : mm_Yw zy_product_4_21 4 := ⟨mm_tb_1 894 (by decide +kernel) rfl, mm_tb_1 3 (by decide +kernel) rfl, ⟨by decide, by decide⟩, by decide +kernel⟩
theorem zg_4_20_77 : zq_at zy_convolved_4_20.2.1 77 153 ∧ zq_at zy_convolved_4_20.2.1 78 0 ∧ zq_at zy_convolved_4_20.2.1 79 39 ∧ zq_at zy_convolved_4_20.2.1 116 132 ∧ zq_at zy_convolved_4_20.2.1 117 8 ∧ zq_at zy_convolved_4_20.2.1 118 1 ∧ zq_at zy_convolved_4_20.2.1 119 167 ∧ zq_at zy_convolved_4_20.2.1 120 255 ∧ zq_at zy_convolved_4_20.2.1 121 164 ∧ zq_at zy_convolved_4_20.2.1 80 44 ∧ zq_at zy_convolved_4_20.2.1 81 21 ∧ zq_at zy_convolved_4_20.2.1 82 9 ∧ zq_at zy_convolved_4_20.2.1 83 21 ∧ zq_at zy_convolved_4_20.2.1 84 10 ∧ zq_at zy_convolved_4_20.2.1 85 3 ∧ zq_at zy_convolved_4_20.2.1 86 182 ∧ zq_at zy_convolved_4_20.2.1 87 0 ∧ zq_at zy_convolved_4_20.2.1 88 75 ∧ zq_at zy_convolved_4_20.2.1 89 54 ∧ zq_at zy_convolved_4_20.2.1 90 11 ∧ zq_at zy_convolved_4_20.2.1 91 21 ∧ zq_at zy_convolved_4_20.2.1 92 6 ∧ zq_at zy_convolved_4_20.2.1 93 42 ∧ zq_at zy_convolved_4_20.2.1 94 43 := by decide +kernel
theorem zd_4_20_77 : zz_B zy_convolved_4_20 77 (Instr.ifCond .eq) 116 80 := ⟨39, zq_153 zg_4_20_77.1 zg_4_20_77.2.1 zg_4_20_77.2.2.1 (by decide), rfl, rfl⟩
theorem zd_4_20_116 : zz_D zy_convolved_4_20 116 (.iinc 8 1) 3 119 := ⟨zq_132 zg_4_20_77.2.2.2.1 zg_4_20_77.2.2.2.2.1 zg_4_20_77.2.2.2.2.2.1 (by decide), rfl⟩
theorem zd_4_20_119 : zz_B zy_convolved_4_20 119 Instr.goto 27 122 := ⟨(-92), zq_167 zg_4_20_77.2.2.2.2.2.2.1 zg_4_20_77.2.2.2.2.2.2.2.1 zg_4_20_77.2.2.2.2.2.2.2.2.1 (by decide), rfl, rfl⟩
theorem zd_4_20_80 : zz_D zy_convolved_4_20 80 (.aload_n 2) 1 81 := ⟨zq_44 zg_4_20_77.2.2.2.2.2.2.2.2.2.1, rfl⟩
theorem zd_4_20_81 : zz_D zy_convolved_4_20 81 (.iload 9) 2 83 := ⟨zq_21 zg_4_20_77.2.2.2.2.2.2.2.2.2.2.1 zg_4_20_77.2.2.2.2.2.2.2.2.2.2.2.1, rfl⟩
theorem zd_4_20_83 : zz_D zy_convolved_4_20 83 (.iload 10) 2 85 := ⟨zq_21 zg_4_20_77.2.2.2.2.2.2.2.2.2.2.2.2.1 zg_4_20_77.2.2.2.2.2.2.2.2.2.2.2.2.2.1, rfl⟩
theorem zd_4_20_85 : zz_D zy_convolved_4_20 85 (.iconst 0) 1 86 := ⟨zq_3 zg_4_20_77.2.2.2.2.2.2.2.2.2.2.2.2.2.2.1, rfl⟩
theorem zd_4_20_86 : zz_D zy_convolved_4_20 86 (.invokevirtual 75) 3 89 := ⟨zq_182 zg_4_20_77.2.2.2.2.2.2.2.2.2.2.2.2.2.2.2.1 zg_4_20_77.2.2.2.2.2.2.2.2.2.2.2.2.2.2.2.2.1 zg_4_20_77.2.2.2.2.2.2.2.2.2.2.2.2.2.2.2.2.2.1 rfl, rfl⟩
theorem zd_4_20_89 : zz_D zy_convolved_4_20 89 (.istore 11) 2 91 := ⟨zq_54 zg_4_20_77.2.2.2.2.2.2.2.2.2.2.2.2.2.2.2.2.2.2.1 zg_4_20_77.2.2.2.2.2.2.2.2.2.2.2.2.2.2.2.2.2.2.2.1, rfl⟩
theorem zd_4_20_91 : zz_D zy_convolved_4_20 91 (.iload 6) 2 93 := ⟨zq_21 zg_4_20_77.2.2.2.2.2.2.2.2.2.2.2.2.2.2.2.2.2.2.2.2.1 zg_4_20_77.2.2.2.2.2.2.2.2.2.2.2.2.2.2.2.2.2.2.2.2.2.1, rfl⟩
theorem zd_4_20_93 : zz_D zy_convolved_4_20 93 (.aload_n 0) 1 94 := ⟨zq_42 zg_4_20_77.2.2.2.2.2.2.2.2.2.2.2.2.2.2.2.2.2.2.2.2.2.2.1, rfl⟩
theorem zd_4_20_94 : zz_D zy_convolved_4_20 94 (.aload_n 1) 1 95 := ⟨zq_43 zg_4_20_77.2.2.2.2.2.2.2.2.2.2.2.2.2.2.2.2.2.2.2.2.2.2.2, rfl⟩
theorem zg_4_20_95 : zq_at zy_convolved_4_20.2.1 95 44 ∧ zq_at zy_convolved_4_20.2.1 96 21 ∧ zq_at zy_convolved_4_20.2.1 97 11 ∧ zq_at zy_convolved_4_20.2.1 98 42 ∧ zq_at zy_convolved_4_20.2.1 99 44 ∧ zq_at zy_convolved_4_20.2.1 100 21 ∧ zq_at zy_convolved_4_20.2.1 101 7 ∧ zq_at zy_convolved_4_20.2.1 102 21 ∧ zq_at zy_convolved_4_20.2.1 103 8 ∧ zq_at zy_convolved_4_20.2.1 104 3 ∧ zq_at zy_convolved_4_20.2.1 105 21 ∧ zq_at zy_convolved_4_20.2.1 106 5 ∧ zq_at zy_convolved_4_20.2.1 107 182 ∧ zq_at zy_convolved_4_20.2.1 108 0 ∧ zq_at zy_convolved_4_20.2.1 109 113 ∧ zq_at zy_convolved_4_20.2.1 110 182 ∧ zq_at zy_convolved_4_20.2.1 111 0 ∧ zq_at zy_convolved_4_20.2.1 112 117 := by decide +kernel
theorem zd_4_20_95 : zz_D zy_convolved_4_20 95 (.aload_n 2) 1 96 := ⟨zq_44 zg_4_20_95.1, rfl⟩
theorem zd_4_20_96 : zz_D zy_convolved_4_20 96 (.iload 11) 2 98 := ⟨zq_21 zg_4_20_95.2.1 zg_4_20_95.2.2.1, rfl⟩
theorem zd_4_20_98 : zz_D zy_convolved_4_20 98 (.aload_n 0) 1 99 := ⟨zq_42 zg_4_20_95.2.2.2.1, rfl⟩
theorem zd_4_20_99 : zz_D zy_convolved_4_20 99 (.aload_n 2) 1 100 := ⟨zq_44 zg_4_20_95.2.2.2.2.1, rfl⟩
theorem zd_4_20_100 : zz_D zy_convolved_4_20 100 (.iload 7) 2 102 := ⟨zq_21 zg_4_20_95.2.2.2.2.2.1 zg_4_20_95.2.2.2.2.2.2.1, rfl⟩
theorem zd_4_20_102 : zz_D zy_convolved_4_20 102 (.iload 8) 2 104 := ⟨zq_21 zg_4_20_95.2.2.2.2.2.2.2.1 zg_4_20_95.2.2.2.2.2.2.2.2.1, rfl⟩
theorem zd_4_20_104 : zz_D zy_convolved_4_20 104 (.iconst 0) 1 105 := ⟨zq_3 zg_4_20_95.2.2.2.2.2.2.2.2.2.1, rfl⟩
theorem zd_4_20_105 : zz_D zy_convolved_4_20 105 (.iload 5) 2 107 := ⟨zq_21 zg_4_20_95.2.2.2.2.2.2.2.2.2.2.1 zg_4_20_95.2.2.2.2.2.2.2.2.2.2.2.1, rfl⟩
theorem zd_4_20_107 : zz_D zy_convolved_4_20 107 (.invokevirtual 113) 3 110 := ⟨zq_182 zg_4_20_95.2.2.2.2.2.2.2.2.2.2.2.2.1 zg_4_20_95.2.2.2.2.2.2.2.2.2.2.2.2.2.1 zg_4_20_95.2.2.2.2.2.2.2.2.2.2.2.2.2.2.1 rfl, rfl⟩
theorem zd_4_20_110 : zz_D zy_convolved_4_20 110 (.invokevirtual 117) 3 113 := ⟨zq_182 zg_4_20_95.2.2.2.2.2.2.2.2.2.2.2.2.2.2.2.1 zg_4_20_95.2.2.2.2.2.2.2.2.2.2.2.2.2.2.2.2.1 zg_4_20_95.2.2.2.2.2.2.2.2.2.2.2.2.2.2.2.2.2 rfl, rfl⟩
theorem zg_4_21_0 : zq_at zy_product_4_21.2.1 0 3 ∧ zq_at zy_product_4_21.2.1 1 54 ∧ zq_at zy_product_4_21.2.1 2 5 ∧ zq_at zy_product_4_21.2.1 3 3 ∧ zq_at zy_product_4_21.2.1 4 54 ∧ zq_at zy_product_4_21.2.1 5 6 ∧ zq_at zy_product_4_21.2.1 6 21 ∧ zq_at zy_product_4_21.2.1 7 6 ∧ zq_at zy_product_4_21.2.1 8 44 ∧ zq_at zy_product_4_21.2.1 9 180 ∧ zq_at zy_product_4_21.2.1 10 0 ∧ zq_at zy_product_4_21.2.1 11 60 ∧ zq_at zy_product_4_21.2.1 12 162 ∧ zq_at zy_product_4_21.2.1 13 0 ∧ zq_at zy_product_4_21.2.1 14 37 ∧ zq_at zy_product_4_21.2.1 49 21 ∧ zq_at zy_product_4_21.2.1 50 5 ∧ zq_at zy_product_4_21.2.1 51 172 ∧ zq_at zy_product_4_21.2.1 15 21 ∧ zq_at zy_product_4_21.2.1 16 5 ∧ zq_at zy_product_4_21.2.1 17 43 ∧ zq_at zy_product_4_21.2.1 18 29 ∧ zq_at zy_product_4_21.2.1 19 21 ∧ zq_at zy_product_4_21.2.1 20 6 := by decide +kernel
theorem zd_4_21_0 : zz_D zy_product_4_21 0 (.iconst 0) 1 1 := ⟨zq_3 zg_4_21_0.1, rfl⟩
theorem zd_4_21_1 : zz_D zy_product_4_21 1 (.istore 5) 2 3 := ⟨zq_54 zg_4_21_0.2.1 zg_4_21_0.2.2.1, rfl⟩
theorem zd_4_21_3 : zz_D zy_product_4_21 3 (.iconst 0) 1 4 := ⟨zq_3 zg_4_21_0.2.2.2.1, rfl⟩
theorem zd_4_21_4 : zz_D zy_product_4_21 4 (.istore 6) 2 6 := ⟨zq_54 zg_4_21_0.2.2.2.2.1 zg_4_21_0.2.2.2.2.2.1, rfl⟩
theorem zd_4_21_6 : zz_D zy_product_4_21 6 (.iload 6) 2 8 := ⟨zq_21 zg_4_21_0.2.2.2.2.2.2.1 zg_4_21_0.2.2.2.2.2.2.2.1, rfl⟩
theorem zd_4_21_8 : zz_D zy_product_4_21 8 (.aload_n 2) 1 9 := ⟨zq_44 zg_4_21_0.2.2.2.2.2.2.2.2.1, rfl⟩
theorem zd_4_21_9 : zz_D zy_product_4_21 9 (.getfield 60) 3 12 := ⟨zq_180 zg_4_21_0.2.2.2.2.2.2.2.2.2.1 zg_4_21_0.2.2.2.2.2.2.2.2.2.2.1 zg_4_21_0.2.2.2.2.2.2.2.2.2.2.2.1 rfl, rfl⟩
theorem zd_4_21_12 : zz_B zy_product_4_21 12 (Instr.if_icmp .ge) 49 15 := ⟨37, zq_162 zg_4_21_0.2.2.2.2.2.2.2.2.2.2.2.2.1 zg_4_21_0.2.2.2.2.2.2.2.2.2.2.2.2.2.1 zg_4_21_0.2.2.2.2.2.2.2.2.2.2.2.2.2.2.1 (by decide), rfl, rfl⟩
theorem zd_4_21_49 : zz_D zy_product_4_21 49 (.iload 5) 2 51 := ⟨zq_21 zg_4_21_0.2.2.2.2.2.2.2.2.2.2.2.2.2.2.2.1 zg_4_21_0.2.2.2.2.2.2.2.2.2.2.2.2.2.2.2.2.1, rfl⟩
theorem zd_4_21_51 : zz_D zy_product_4_21 51 (.ireturn) 1 52 := ⟨zq_172 zg_4_21_0.2.2.2.2.2.2.2.2.2.2.2.2.2.2.2.2.2.1, rfl⟩
theorem zd_4_21_15 : zz_D zy_product_4_21 15 (.iload 5) 2 17 := ⟨zq_21 zg_4_21_0.2.2.2.2.2.2.2.2.2.2.2.2.2.2.2.2.2.2.1 zg_4_21_0.2.2.2.2.2.2.2.2.2.2.2.2.2.2.2.2.2.2.2.1, rfl⟩
theorem zd_4_21_17 : zz_D zy_product_4_21 17 (.aload_n 1) 1 18 := ⟨zq_43 zg_4_21_0.2.2.2.2.2.2.2.2.2.2.2.2.2.2.2.2.2.2.2.2.1, rfl⟩
theorem zd_4_21_18 : zz_D zy_product_4_21 18 (.iload_n 3) 1 19 := ⟨zq_29 zg_4_21_0.2.2.2.2.2.2.2.2.2.2.2.2.2.2.2.2.2.2.2.2.2.1, rfl⟩
theorem zd_4_21_19 : zz_D zy_product_4_21 19 (.iload 6) 2 21 := ⟨zq_21 zg_4_21_0.2.2.2.2.2.2.2.2.2.2.2.2.2.2.2.2.2.2.2.2.2.2.1 zg_4_21_0.2.2.2.2.2.2.2.2.2.2.2.2.2.2.2.2.2.2.2.2.2.2.2, rfl⟩
theorem zg_4_21_21 : zq_at zy_product_4_21.2.1 21 96 ∧ zq_at zy_product_4_21.2.1 22 184 ∧ zq_at zy_product_4_21.2.1 23 0 ∧ zq_at zy_product_4_21.2.1 24 98 ∧ zq_at zy_product_4_21.2.1 25 43 ∧ zq_at zy_product_4_21.2.1 26 21 ∧ zq_at zy_product_4_21.2.1 27 4 ∧ zq_at zy_product_4_21.2.1 28 21 ∧ zq_at zy_product_4_21.2.1 29 6 ∧ zq_at zy_product_4_21.2.1 30 42 ∧ zq_at zy_product_4_21.2.1 31 180 ∧ zq_at zy_product_4_21.2.1 32 0 ∧ zq_at zy_product_4_21.2.1 33 60 ∧ zq_at zy_product_4_21.2.1 34 104 ∧ zq_at zy_product_4_21.2.1 35 96 ∧ zq_at zy_product_4_21.2.1 36 184 ∧ zq_at zy_product_4_21.2.1 37 0 ∧ zq_at zy_product_4_21.2.1 38 98 ∧ zq_at zy_product_4_21.2.1 39 104 ∧ zq_at zy_product_4_21.2.1 40 96 ∧ zq_at zy_product_4_21.2.1 41 54 ∧ zq_at zy_product_4_21.2.1 42 5 := by decide +kernel
theorem zd_4_21_21 : zz_D zy_product_4_21 21 (.iadd) 1 22 := ⟨zq_96 zg_4_21_21.1, rfl⟩
theorem zd_4_21_22 : zz_D zy_product_4_21 22 (.invokestatic 98) 3 25 := ⟨zq_184 zg_4_21_21.2.1 zg_4_21_21.2.2.1 zg_4_21_21.2.2.2.1 rfl, rfl⟩
theorem zd_4_21_25 : zz_D zy_product_4_21 25 (.aload_n 1) 1 26 := ⟨zq_43 zg_4_21_21.2.2.2.2.1, rfl⟩
theorem zd_4_21_26 : zz_D zy_product_4_21 26 (.iload 4) 2 28 := ⟨zq_21 zg_4_21_21.2.2.2.2.2.1 zg_4_21_21.2.2.2.2.2.2.1, rfl⟩
theorem zd_4_21_28 : zz_D zy_product_4_21 28 (.iload 6) 2 30 := ⟨zq_21 zg_4_21_21.2.2.2.2.2.2.2.1 zg_4_21_21.2.2.2.2.2.2.2.2.1, rfl⟩
theorem zd_4_21_30 : zz_D zy_product_4_21 30 (.aload_n 0) 1 31 := ⟨zq_42 zg_4_21_21.2.2.2.2.2.2.2.2.2.1, rfl⟩
theorem zd_4_21_31 : zz_D zy_product_4_21 31 (.getfield 60) 3 34 := ⟨zq_180 zg_4_21_21.2.2.2.2.2.2.2.2.2.2.1 zg_4_21_21.2.2.2.2.2.2.2.2.2.2.2.1 zg_4_21_21.2.2.2.2.2.2.2.2.2.2.2.2.1 rfl, rfl⟩
theorem zd_4_21_34 : zz_D zy_product_4_21 34 (.imul) 1 35 := ⟨zq_104 zg_4_21_21.2.2.2.2.2.2.2.2.2.2.2.2.2.1, rfl⟩
theorem zd_4_21_35 : zz_D zy_product_4_21 35 (.iadd) 1 36 := ⟨zq_96 zg_4_21_21.2.2.2.2.2.2.2.2.2.2.2.2.2.2.1, rfl⟩
theorem zd_4_21_36 : zz_D zy_product_4_21 36 (.invokestatic 98) 3 39 := ⟨zq_184 zg_4_21_21.2.2.2.2.2.2.2.2.2.2.2.2.2.2.2.1 zg_4_21_21.2.2.2.2.2.2.2.2.2.2.2.2.2.2.2.2.1 zg_4_21_21.2.2.2.2.2.2.2.2.2.2.2.2.2.2.2.2.2.1 rfl, rfl⟩
theorem zd_4_21_39 : zz_D zy_product_4_21 39 (.imul) 1 40 := ⟨zq_104 zg_4_21_21.2.2.2.2.2.2.2.2.2.2.2.2.2.2.2.2.2.2.1, rfl⟩
theorem zd_4_21_40 : zz_D zy_product_4_21 40 (.iadd) 1 41 := ⟨zq_96 zg_4_21_21.2.2.2.2.2.2.2.2.2.2.2.2.2.2.2.2.2.2.2.1, rfl⟩
theorem zd_4_21_41 : zz_D zy_product_4_21 41 (.istore 5) 2 43 := ⟨zq_54 zg_4_21_21.2.2.2.2.2.2.2.2.2.2.2.2.2.2.2.2.2.2.2.2.1 zg_4_21_21.2.2.2.2.2.2.2.2.2.2.2.2.2.2.2.2.2.2.2.2.2, rfl⟩
theorem zg_4_21_43 : zq_at zy_product_4_21.2.1 43 132 ∧ zq_at zy_product_4_21.2.1 44 6 ∧ zq_at zy_product_4_21.2.1 45 1 ∧ zq_at zy_product_4_21.2.1 46 167 ∧ zq_at zy_product_4_21.2.1 47 255 ∧ zq_at zy_product_4_21.2.1 48 216 := by decide +kernel
theorem zd_4_21_43 : zz_D zy_product_4_21 43 (.iinc 6 1) 3 46 := ⟨zq_132 zg_4_21_43.1 zg_4_21_43.2.1 zg_4_21_43.2.2.1 (by decide), rfl⟩
theorem zd_4_21_46 : zz_B zy_product_4_21 46 Instr.goto 6 49 := ⟨(-40), zq_167 zg_4_21_43.2.2.2.1 zg_4_21_43.2.2.2.2.1 zg_4_21_43.2.2.2.2.2 (by decide), rfl, rfl⟩
-- TensorForge$Layer product ([BLTensorForge$Layer;II)I
abbrev zr_product_4_21 : Room := { frames := 1, cells := 0, slots := 0, locals := 15 }
def zp_product_4_21 (t : Int) (p1 : Int) (p2 : Int) (p3 : Int) (S0 : zz_S) : Int → zz_S → Prop := fun r S => S0 = S ∧ ((-2147483648) ≤ r ∧ r ≤ 2147483647)
theorem zb_product_4_21_6 {g : mm_G} {l : Launch} (t : Int) (p1 : Int) (p2 : Int) (p3 : Int) (S0 : zz_S) (n : Nat) (hn : zz_end ≤ n) (G_S0 : zz_G S0) (ht : 0 ≤ t ∧ t ≤ 23) (hp1 : 0 ≤ p1 ∧ p1 ≤ 23) (hp2 : (-2147483648) ≤ p2 ∧ p2 ≤ 2147483647) (hp3 : (-2147483648) ≤ p3 ∧ p3 ≤ 2147483647) (x5 : Int) (x6 : Int) (S : zz_S) (G_S : zz_G S) (F_S : zz_fr [] [] (fun _ _ => False) S0 S) (i6_0 : (-2147483648) ≤ x5 ∧ x5 ≤ 2147483647) (i6_1 : 0 ≤ x6 ∧ x6 ≤ 2147483647) (R : Nat) (hR : (2147483647 - x6).toNat = R) (k6 : ∀ (x5 : Int) (x6 : Int) (S : zz_S), zz_G S → zz_fr [] [] (fun _ _ => False) S0 S → ((-2147483648) ≤ x5 ∧ x5 ≤ 2147483647) → (0 ≤ x6 ∧ x6 ≤ 2147483647) → (2147483647 - x6).toNat < R → zz_E g l zy_product_4_21 zr_product_4_21 (zz_QI n (zp_product_4_21 t p1 p2 p3 S0)) S n 6 [some (.ref (zz_rf 6 t)), some (.ref 1032), some (.ref (zz_rf 6 p1)), some (zi p2), some (zi p3), some (zi x5), some (zi x6)] [] 0 0) : zz_E g l zy_product_4_21 zr_product_4_21 (zz_QI n (zp_product_4_21 t p1 p2 p3 S0)) S n 6 [some (.ref (zz_rf 6 t)), some (.ref 1032), some (.ref (zz_rf 6 p1)), some (zi p2), some (zi p3), some (zi x5), some (zi x6)] [] 0 0 := by
  have b_p1 := zz_rf6 (z := p1) (by omega)
  have b_t := zz_rf6 (z := t) (by omega)
  refine zz_iload (x := x6) rfl zd_4_21_6 ?_
  refine zz_aload_n (x := zz_rf 6 p1) rfl zd_4_21_8 ?_
  have g1 := zz_G.r G_S0 (zz_rf 6 p1) 12 (-2147483648) 2147483647 (zR_k6_12 (by omega)) (zB_k6 (by omega))
  refine zz_geti (z := S0 (zz_rf 6 p1) 12) zd_4_21_9 zf_Layer_60 (zT_k6 (by omega)) rfl (zN_k6 hn (by omega)) (zz_rc F_S (zP_k6 (by omega) rfl) (zQ_k6 (by omega) rfl) (fun h => h) rfl) ?_
  refine zz_icmp_ge (by omega) (by omega) zd_4_21_12 (fun c2 => ?_) (fun c2 => ?_)
  · refine zz_iload (x := x5) rfl zd_4_21_49 ?_
    exact zz_iret zd_4_21_51 rfl (Nat.zero_le _) (Nat.zero_le _) ⟨_, _, rfl, zz_fr.eq F_S, by omega⟩
  · refine zz_iload (x := x5) rfl zd_4_21_15 ?_
    refine zz_aload_n (x := 1032) rfl zd_4_21_17 ?_
    refine zz_iload_n (x := p2) rfl zd_4_21_18 ?_
    refine zz_iload (x := x6) rfl zd_4_21_19 ?_
    refine zz_iadd zd_4_21_21 ?_
    refine zz_nrm (fun v3 hv3 ev3 => ?_)
    refine zz_callSI [.ref 1032, zi v3] zd_4_21_22 zk_Layer_98 rfl rfl ⟨Nat.le_of_ble_eq_true rfl, Nat.le_of_ble_eq_true rfl⟩ ⟨rfl, rfl⟩ (Nat.zero_le _) (Nat.zero_le _) (zc_byteAt_4_17 v3 S n hn G_S (by omega)) (fun v5 S4 hP => ?_)
    obtain ⟨rfl, o6⟩ := hP
    refine zz_aload_n (x := 1032) rfl zd_4_21_25 ?_
    refine zz_iload (x := p3) rfl zd_4_21_26 ?_
    refine zz_iload (x := x6) rfl zd_4_21_28 ?_
    refine zz_aload_n (x := zz_rf 6 t) rfl zd_4_21_30 ?_
    have g7 := zz_G.r G_S0 (zz_rf 6 t) 12 (-2147483648) 2147483647 (zR_k6_12 (by omega)) (zB_k6 (by omega))
    refine zz_geti (z := S0 (zz_rf 6 t) 12) zd_4_21_31 zf_Layer_60 (zT_k6 (by omega)) rfl (zN_k6 hn (by omega)) (zz_rc F_S (zP_k6 (by omega) rfl) (zQ_k6 (by omega) rfl) (fun h => h) rfl) ?_
    refine zz_imul zd_4_21_34 ?_
    refine zz_nrm (fun v8 hv8 ev8 => ?_)
    refine zz_iadd zd_4_21_35 ?_
    refine zz_nrm (fun v9 hv9 ev9 => ?_)
    refine zz_callSI [.ref 1032, zi v9] zd_4_21_36 zk_Layer_98 rfl rfl ⟨Nat.le_of_ble_eq_true rfl, Nat.le_of_ble_eq_true rfl⟩ ⟨rfl, rfl⟩ (Nat.zero_le _) (Nat.zero_le _) (zc_byteAt_4_17 v9 S n hn G_S (by omega)) (fun v11 S10 hP => ?_)
    obtain ⟨rfl, o12⟩ := hP
    refine zz_imul zd_4_21_39 ?_
    refine zz_nrm (fun v13 hv13 ev13 => ?_)
    refine zz_iadd zd_4_21_40 ?_
    refine zz_nrm (fun v14 hv14 ev14 => ?_)
    refine zz_istore [some (.ref (zz_rf 6 t)), some (.ref 1032), some (.ref (zz_rf 6 p1)), some (zi p2), some (zi p3), some (zi v14), some (zi x6)] zd_4_21_41 (by decide) rfl ?_
    refine zz_iinc [some (.ref (zz_rf 6 t)), some (.ref 1032), some (.ref (zz_rf 6 p1)), some (zi p2), some (zi p3), some (zi v14), some (zi (x6 + 1))] zd_4_21_43 rfl rfl ?_
    refine zz_goto zd_4_21_46 ?_
    refine zz_less (ls1 := [some (.ref (zz_rf 6 t)), some (.ref 1032), some (.ref (zz_rf 6 p1)), some (zi p2), some (zi p3), some (zi v14), some (zi (x6 + 1))]) ⟨rfl, ⟨rfl, ⟨rfl, ⟨rfl, ⟨rfl, ⟨rfl, ⟨rfl, trivial⟩⟩⟩⟩⟩⟩⟩ ?_
    exact k6 v14 (x6 + 1) S G_S F_S (by omega) (by omega) (by omega)
theorem zi_product_4_21 {g : mm_G} {l : Launch} (t : Int) (p1 : Int) (p2 : Int) (p3 : Int) (S0 : zz_S) (n : Nat) (hn : zz_end ≤ n) (G_S0 : zz_G S0) (ht : 0 ≤ t ∧ t ≤ 23) (hp1 : 0 ≤ p1 ∧ p1 ≤ 23) (hp2 : (-2147483648) ≤ p2 ∧ p2 ≤ 2147483647) (hp3 : (-2147483648) ≤ p3 ∧ p3 ≤ 2147483647) : ∀ N : Nat, (∀ (x5 : Int) (x6 : Int) (S : zz_S), zz_G S → zz_fr [] [] (fun _ _ => False) S0 S → ((-2147483648) ≤ x5 ∧ x5 ≤ 2147483647) → (0 ≤ x6 ∧ x6 ≤ 2147483647) → (2147483647 - x6).toNat < N → zz_E g l zy_product_4_21 zr_product_4_21 (zz_QI n (zp_product_4_21 t p1 p2 p3 S0)) S n 6 [some (.ref (zz_rf 6 t)), some (.ref 1032), some (.ref (zz_rf 6 p1)), some (zi p2), some (zi p3), some (zi x5), some (zi x6)] [] 0 0) := by
  intro N
  induction N with
  | zero => exact fun x5 x6 S _ _ _ _ h => absurd h (Nat.not_lt_zero _)
  | succ N ih =>
    exact fun x5 x6 S a b j0 j1 hR => zb_product_4_21_6 t p1 p2 p3 S0 n hn G_S0 ht hp1 hp2 hp3 x5 x6 S a b j0 j1 _ rfl (fun x5 x6 S a b j0 j1 h => ih x5 x6 S a b j0 j1 (Nat.lt_of_lt_of_le h (Nat.le_of_lt_succ hR)))
theorem zc_product_4_21 {g : mm_G} {l : Launch} (t : Int) (p1 : Int) (p2 : Int) (p3 : Int) (S0 : zz_S) (n : Nat) (hn : zz_end ≤ n) (G_S0 : zz_G S0) (ht : 0 ≤ t ∧ t ≤ 23) (hp1 : 0 ≤ p1 ∧ p1 ≤ 23) (hp2 : (-2147483648) ≤ p2 ∧ p2 ≤ 2147483647) (hp3 : (-2147483648) ≤ p3 ∧ p3 ≤ 2147483647) : mm_Met g l zy_product_4_21 zr_product_4_21 [.ref (zz_rf 6 t), .ref 1032, .ref (zz_rf 6 p1), zi p2, zi p3] (zz_M S0 n) n (zz_QI n (zp_product_4_21 t p1 p2 p3 S0)) := by
  refine zz_enter (by decide) (Nat.le_of_ble_eq_true rfl) (zz_less (ls1 := [some (.ref (zz_rf 6 t)), some (.ref 1032), some (.ref (zz_rf 6 p1)), some (zi p2), some (zi p3)]) ⟨rfl, ⟨rfl, ⟨rfl, ⟨rfl, ⟨rfl, trivial⟩⟩⟩⟩⟩ ?_)
  have F_S0 : zz_fr [] [] (fun _ _ => False) S0 S0 := zz_fr.refl
  have k6 : ∀ (x5 : Int) (x6 : Int) (S : zz_S), zz_G S → zz_fr [] [] (fun _ _ => False) S0 S → ((-2147483648) ≤ x5 ∧ x5 ≤ 2147483647) → (0 ≤ x6 ∧ x6 ≤ 2147483647) → zz_E g l zy_product_4_21 zr_product_4_21 (zz_QI n (zp_product_4_21 t p1 p2 p3 S0)) S n 6 [some (.ref (zz_rf 6 t)), some (.ref 1032), some (.ref (zz_rf 6 p1)), some (zi p2), some (zi p3), some (zi x5), some (zi x6)] [] 0 0 := fun x5 x6 S a b j0 j1 => (zi_product_4_21 (g := g) (l := l) t p1 p2 p3 S0 n hn G_S0 ht hp1 hp2 hp3 _) x5 x6 S a b j0 j1 (Nat.lt_succ_self _)
  have b_p1 := zz_rf6 (z := p1) (by omega)
  have b_t := zz_rf6 (z := t) (by omega)
  refine zz_iconst zd_4_21_0 ?_
  refine zz_istore [some (.ref (zz_rf 6 t)), some (.ref 1032), some (.ref (zz_rf 6 p1)), some (zi p2), some (zi p3), some (zi 0)] zd_4_21_1 (by decide) rfl ?_
  refine zz_iconst zd_4_21_3 ?_
  refine zz_istore [some (.ref (zz_rf 6 t)), some (.ref 1032), some (.ref (zz_rf 6 p1)), some (zi p2), some (zi p3), some (zi 0), some (zi 0)] zd_4_21_4 (by decide) rfl ?_
  refine zz_less (ls1 := [some (.ref (zz_rf 6 t)), some (.ref 1032), some (.ref (zz_rf 6 p1)), some (zi p2), some (zi p3), some (zi 0), some (zi 0)]) ⟨rfl, ⟨rfl, ⟨rfl, ⟨rfl, ⟨rfl, ⟨rfl, ⟨rfl, trivial⟩⟩⟩⟩⟩⟩⟩ ?_
  exact k6 0 0 S0 G_S0 F_S0 (by omega) (by omega)
theorem zk_Layer_117 : mm_Vl "TensorForge$Layer" 117 2 4 zy_product_4_21 := ⟨zyw_product_4_21, (R_Layer, F_Layer, 15), rfl, mm_tb_1 891 (by decide +kernel) rfl, mm_tb_1 893 (by decide +kernel) rfl, mm_tb_s 39 (by decide +kernel) rfl⟩
theorem zg_4_20_113 : zq_at zy_convolved_4_20.2.1 113 96 ∧ zq_at zy_convolved_4_20.2.1 114 54 ∧ zq_at zy_convolved_4_20.2.1 115 6 := by decide +kernel
theorem zd_4_20_113 : zz_D zy_convolved_4_20 113 (.iadd) 1 114 := ⟨zq_96 zg_4_20_113.1, rfl⟩
theorem zd_4_20_114 : zz_D zy_convolved_4_20 114 (.istore 6) 2 116 := ⟨zq_54 zg_4_20_113.2.1 zg_4_20_113.2.2, rfl⟩
-- TensorForge$Layer convolved ([BLTensorForge$Layer;III)I
abbrev zr_convolved_4_20 : Room := { frames := 2, cells := 0, slots := 0, locals := 34 }
def zp_convolved_4_20 (t : Int) (p1 : Int) (p2 : Int) (p3 : Int) (p4 : Int) (S0 : zz_S) : Int → zz_S → Prop := fun r S => S0 = S ∧ ((-2147483648) ≤ r ∧ r ≤ 2147483647)
theorem zb_convolved_4_20_15 {g : mm_G} {l : Launch} (t : Int) (p1 : Int) (p2 : Int) (p3 : Int) (p4 : Int) (S0 : zz_S) (n : Nat) (hn : zz_end ≤ n) (G_S0 : zz_G S0) (ht : 0 ≤ t ∧ t ≤ 23) (hp1 : 0 ≤ p1 ∧ p1 ≤ 23) (hp2 : (-2147483648) ≤ p2 ∧ p2 ≤ 2147483647) (hp3 : (-2147483648) ≤ p3 ∧ p3 ≤ 2147483647) (hp4 : (-2147483648) ≤ p4 ∧ p4 ≤ 2147483647) (x6 : Int) (x7 : Int) (S : zz_S) (G_S : zz_G S) (F_S : zz_fr [] [] (fun _ _ => False) S0 S) (i15_0 : (-2147483648) ≤ x6 ∧ x6 ≤ 2147483647) (i15_1 : 0 ≤ x7 ∧ x7 ≤ 2147483647) (R : Nat) (hR : (34359738368 + (S0 (zz_rf 6 t) 3 - x7).toNat) * 1099511627776 + 1099511627775 = R) (k27 : ∀ (x6 : Int) (x7 : Int) (x8 : Int) (S : zz_S), zz_G S → zz_fr [] [] (fun _ _ => False) S0 S → ((-2147483648) ≤ x6 ∧ x6 ≤ 2147483647) → (0 ≤ x7 ∧ x7 ≤ 2147483647) → (0 ≤ x8 ∧ x8 ≤ 2147483647) → (x7 < S0 (zz_rf 6 t) 3) → (34359738368 + (S0 (zz_rf 6 t) 3 - x7).toNat) * 1099511627776 + (17179869184 + (S0 (zz_rf 6 t) 4 - x8).toNat) < R → zz_E g l zy_convolved_4_20 zr_convolved_4_20 (zz_QI n (zp_convolved_4_20 t p1 p2 p3 p4 S0)) S n 27 [some (.ref (zz_rf 6 t)), some (.ref 1032), some (.ref (zz_rf 6 p1)), some (zi p2), some (zi p3), some (zi p4), some (zi x6), some (zi x7), some (zi x8)] [] 0 0) : zz_E g l zy_convolved_4_20 zr_convolved_4_20 (zz_QI n (zp_convolved_4_20 t p1 p2 p3 p4 S0)) S n 15 [some (.ref (zz_rf 6 t)), some (.ref 1032), some (.ref (zz_rf 6 p1)), some (zi p2), some (zi p3), some (zi p4), some (zi x6), some (zi x7)] [] 0 0 := by
  have b_p1 := zz_rf6 (z := p1) (by omega)
  have b_t := zz_rf6 (z := t) (by omega)
  have r3_ := zz_G.r G_S0 (zz_rf 6 t) 3 (-2147483648) 2147483647 (zR_k6_3 (by omega)) (zB_k6 (by omega))
  have r4_ := zz_G.r G_S0 (zz_rf 6 t) 4 (-2147483648) 2147483647 (zR_k6_4 (by omega)) (zB_k6 (by omega))
  refine zz_iload (x := x7) rfl zd_4_20_15 ?_
  refine zz_aload_n (x := zz_rf 6 t) rfl zd_4_20_17 ?_
  have g7 := zz_G.r G_S0 (zz_rf 6 t) 3 (-2147483648) 2147483647 (zR_k6_3 (by omega)) (zB_k6 (by omega))
  refine zz_geti (z := S0 (zz_rf 6 t) 3) zd_4_20_18 zf_Layer_23 (zT_k6 (by omega)) rfl (zN_k6 hn (by omega)) (zz_rc F_S (zP_k6 (by omega) rfl) (zQ_k6 (by omega) rfl) (fun h => h) rfl) ?_
  refine zz_icmp_ge (by omega) (by omega) zd_4_20_21 (fun c8 => ?_) (fun c8 => ?_)
  · refine zz_iload (x := x6) rfl zd_4_20_128 ?_
    exact zz_iret zd_4_20_130 rfl (Nat.zero_le _) (Nat.zero_le _) ⟨_, _, rfl, zz_fr.eq F_S, by omega⟩
  · refine zz_iconst zd_4_20_24 ?_
    refine zz_istore [some (.ref (zz_rf 6 t)), some (.ref 1032), some (.ref (zz_rf 6 p1)), some (zi p2), some (zi p3), some (zi p4), some (zi x6), some (zi x7), some (zi 0)] zd_4_20_25 (by decide) rfl ?_
    refine zz_less (ls1 := [some (.ref (zz_rf 6 t)), some (.ref 1032), some (.ref (zz_rf 6 p1)), some (zi p2), some (zi p3), some (zi p4), some (zi x6), some (zi x7), some (zi 0)]) ⟨rfl, ⟨rfl, ⟨rfl, ⟨rfl, ⟨rfl, ⟨rfl, ⟨rfl, ⟨rfl, ⟨rfl, trivial⟩⟩⟩⟩⟩⟩⟩⟩⟩ ?_
    exact k27 x6 x7 0 S G_S F_S (by omega) (by omega) (by omega) (by omega) (by omega)
theorem zb_convolved_4_20_27 {g : mm_G} {l : Launch} (t : Int) (p1 : Int) (p2 : Int) (p3 : Int) (p4 : Int) (S0 : zz_S) (n : Nat) (hn : zz_end ≤ n) (G_S0 : zz_G S0) (ht : 0 ≤ t ∧ t ≤ 23) (hp1 : 0 ≤ p1 ∧ p1 ≤ 23) (hp2 : (-2147483648) ≤ p2 ∧ p2 ≤ 2147483647) (hp3 : (-2147483648) ≤ p3 ∧ p3 ≤ 2147483647) (hp4 : (-2147483648) ≤ p4 ∧ p4 ≤ 2147483647) (x6 : Int) (x7 : Int) (x8 : Int) (S : zz_S) (G_S : zz_G S) (F_S : zz_fr [] [] (fun _ _ => False) S0 S) (i27_0 : (-2147483648) ≤ x6 ∧ x6 ≤ 2147483647) (i27_1 : 0 ≤ x7 ∧ x7 ≤ 2147483647) (i27_2 : 0 ≤ x8 ∧ x8 ≤ 2147483647) (i27_3 : x7 < S0 (zz_rf 6 t) 3) (R : Nat) (hR : (34359738368 + (S0 (zz_rf 6 t) 3 - x7).toNat) * 1099511627776 + (17179869184 + (S0 (zz_rf 6 t) 4 - x8).toNat) = R) (k15 : ∀ (x6 : Int) (x7 : Int) (S : zz_S), zz_G S → zz_fr [] [] (fun _ _ => False) S0 S → ((-2147483648) ≤ x6 ∧ x6 ≤ 2147483647) → (0 ≤ x7 ∧ x7 ≤ 2147483647) → (34359738368 + (S0 (zz_rf 6 t) 3 - x7).toNat) * 1099511627776 + 1099511627775 < R → zz_E g l zy_convolved_4_20 zr_convolved_4_20 (zz_QI n (zp_convolved_4_20 t p1 p2 p3 p4 S0)) S n 15 [some (.ref (zz_rf 6 t)), some (.ref 1032), some (.ref (zz_rf 6 p1)), some (zi p2), some (zi p3), some (zi p4), some (zi x6), some (zi x7)] [] 0 0) (k27 : ∀ (x6 : Int) (x7 : Int) (x8 : Int) (S : zz_S), zz_G S → zz_fr [] [] (fun _ _ => False) S0 S → ((-2147483648) ≤ x6 ∧ x6 ≤ 2147483647) → (0 ≤ x7 ∧ x7 ≤ 2147483647) → (0 ≤ x8 ∧ x8 ≤ 2147483647) → (x7 < S0 (zz_rf 6 t) 3) → (34359738368 + (S0 (zz_rf 6 t) 3 - x7).toNat) * 1099511627776 + (17179869184 + (S0 (zz_rf 6 t) 4 - x8).toNat) < R → zz_E g l zy_convolved_4_20 zr_convolved_4_20 (zz_QI n (zp_convolved_4_20 t p1 p2 p3 p4 S0)) S n 27 [some (.ref (zz_rf 6 t)), some (.ref 1032), some (.ref (zz_rf 6 p1)), some (zi p2), some (zi p3), some (zi p4), some (zi x6), some (zi x7), some (zi x8)] [] 0 0) : zz_E g l zy_convolved_4_20 zr_convolved_4_20 (zz_QI n (zp_convolved_4_20 t p1 p2 p3 p4 S0)) S n 27 [some (.ref (zz_rf 6 t)), some (.ref 1032), some (.ref (zz_rf 6 p1)), some (zi p2), some (zi p3), some (zi p4), some (zi x6), some (zi x7), some (zi x8)] [] 0 0 := by
  have b_p1 := zz_rf6 (z := p1) (by omega)
  have b_t := zz_rf6 (z := t) (by omega)
  have r3_ := zz_G.r G_S0 (zz_rf 6 t) 3 (-2147483648) 2147483647 (zR_k6_3 (by omega)) (zB_k6 (by omega))
  have r4_ := zz_G.r G_S0 (zz_rf 6 t) 4 (-2147483648) 2147483647 (zR_k6_4 (by omega)) (zB_k6 (by omega))
  refine zz_iload (x := x8) rfl zd_4_20_27 ?_
  refine zz_aload_n (x := zz_rf 6 t) rfl zd_4_20_29 ?_
  have g9 := zz_G.r G_S0 (zz_rf 6 t) 4 (-2147483648) 2147483647 (zR_k6_4 (by omega)) (zB_k6 (by omega))
  refine zz_geti (z := S0 (zz_rf 6 t) 4) zd_4_20_30 zf_Layer_26 (zT_k6 (by omega)) rfl (zN_k6 hn (by omega)) (zz_rc F_S (zP_k6 (by omega) rfl) (zQ_k6 (by omega) rfl) (fun h => h) rfl) ?_
  refine zz_icmp_ge (by omega) (by omega) zd_4_20_33 (fun c10 => ?_) (fun c10 => ?_)
  · refine zz_iincN (fun v11 => [some (.ref (zz_rf 6 t)), some (.ref 1032), some (.ref (zz_rf 6 p1)), some (zi p2), some (zi p3), some (zi p4), some (zi x6), some (zi v11), some (zi x8)]) zd_4_20_122 rfl (fun _ => rfl) (fun v11 hv11 ev11 => ?_)
    refine zz_goto zd_4_20_125 ?_
    refine zz_less (ls1 := [some (.ref (zz_rf 6 t)), some (.ref 1032), some (.ref (zz_rf 6 p1)), some (zi p2), some (zi p3), some (zi p4), some (zi x6), some (zi v11)]) ⟨rfl, ⟨rfl, ⟨rfl, ⟨rfl, ⟨rfl, ⟨rfl, ⟨rfl, ⟨rfl, trivial⟩⟩⟩⟩⟩⟩⟩⟩ ?_
    exact k15 x6 v11 S G_S F_S (by omega) (by omega) (by omega)
  · refine zz_aload_n (x := zz_rf 6 t) rfl zd_4_20_36 ?_
    have g12 := zz_G.r G_S0 (zz_rf 6 t) 5 (-2147483648) 2147483647 (zR_k6_5 (by omega)) (zB_k6 (by omega))
    refine zz_geti (z := S0 (zz_rf 6 t) 5) zd_4_20_37 zf_Layer_29 (zT_k6 (by omega)) rfl (zN_k6 hn (by omega)) (zz_rc F_S (zP_k6 (by omega) rfl) (zQ_k6 (by omega) rfl) (fun h => h) rfl) ?_
    refine zz_iload_n (x := p2) rfl zd_4_20_40 ?_
    refine zz_imul zd_4_20_41 ?_
    refine zz_nrm (fun v13 hv13 ev13 => ?_)
    clear ev13
    refine zz_iload (x := x7) rfl zd_4_20_42 ?_
    refine zz_iadd zd_4_20_44 ?_
    refine zz_nrm (fun v14 hv14 ev14 => ?_)
    clear ev14
    refine zz_aload_n (x := zz_rf 6 t) rfl zd_4_20_45 ?_
    have g15 := zz_G.r G_S0 (zz_rf 6 t) 6 (-2147483648) 2147483647 (zR_k6_6 (by omega)) (zB_k6 (by omega))
    refine zz_geti (z := S0 (zz_rf 6 t) 6) zd_4_20_46 zf_Layer_32 (zT_k6 (by omega)) rfl (zN_k6 hn (by omega)) (zz_rc F_S (zP_k6 (by omega) rfl) (zQ_k6 (by omega) rfl) (fun h => h) rfl) ?_
    refine zz_isub zd_4_20_49 ?_
    refine zz_nrm (fun v16 hv16 ev16 => ?_)
    clear ev16
    refine zz_istore [some (.ref (zz_rf 6 t)), some (.ref 1032), some (.ref (zz_rf 6 p1)), some (zi p2), some (zi p3), some (zi p4), some (zi x6), some (zi x7), some (zi x8), some (zi v16)] zd_4_20_50 (by decide) rfl ?_
    refine zz_aload_n (x := zz_rf 6 t) rfl zd_4_20_52 ?_
    refine zz_geti (z := S0 (zz_rf 6 t) 5) zd_4_20_53 zf_Layer_29 (zT_k6 (by omega)) rfl (zN_k6 hn (by omega)) (zz_rc F_S (zP_k6 (by omega) rfl) (zQ_k6 (by omega) rfl) (fun h => h) rfl) ?_
    refine zz_iload (x := p3) rfl zd_4_20_56 ?_
    refine zz_imul zd_4_20_58 ?_
    refine zz_nrm (fun v17 hv17 ev17 => ?_)
    clear ev17
    refine zz_iload (x := x8) rfl zd_4_20_59 ?_
    refine zz_iadd zd_4_20_61 ?_
    refine zz_nrm (fun v18 hv18 ev18 => ?_)
    clear ev18
    refine zz_aload_n (x := zz_rf 6 t) rfl zd_4_20_62 ?_
    refine zz_geti (z := S0 (zz_rf 6 t) 6) zd_4_20_63 zf_Layer_32 (zT_k6 (by omega)) rfl (zN_k6 hn (by omega)) (zz_rc F_S (zP_k6 (by omega) rfl) (zQ_k6 (by omega) rfl) (fun h => h) rfl) ?_
    refine zz_isub zd_4_20_66 ?_
    refine zz_nrm (fun v19 hv19 ev19 => ?_)
    clear ev19
    refine zz_istore [some (.ref (zz_rf 6 t)), some (.ref 1032), some (.ref (zz_rf 6 p1)), some (zi p2), some (zi p3), some (zi p4), some (zi x6), some (zi x7), some (zi x8), some (zi v16), some (zi v19)] zd_4_20_67 (by decide) rfl ?_
    refine zz_aload_n (x := zz_rf 6 p1) rfl zd_4_20_69 ?_
    refine zz_iload (x := v16) rfl zd_4_20_70 ?_
    refine zz_iload (x := v19) rfl zd_4_20_72 ?_
    refine zz_callVI [zi v16, zi v19] zd_4_20_74 zk_Layer_109 (zT_k6 (by omega)) (zN_k6 hn (by omega)) rfl rfl ⟨Nat.le_of_ble_eq_true rfl, Nat.le_of_ble_eq_true rfl⟩ ⟨rfl, rfl⟩ (Nat.zero_le _) (Nat.zero_le _) (zc_hasPlace_4_16 p1 v16 v19 S n hn G_S (by omega) (by omega) (by omega)) (fun v21 S20 hP => ?_)
    obtain ⟨rfl, o22⟩ := hP
    rcases (by omega : v21 = 0 ∨ v21 = 1) with rfl | rfl
    · refine zz_if_eq (by omega) zd_4_20_77 (fun c23 => ?_) (fun c23 => ?_)
      · refine zz_iinc [some (.ref (zz_rf 6 t)), some (.ref 1032), some (.ref (zz_rf 6 p1)), some (zi p2), some (zi p3), some (zi p4), some (zi x6), some (zi x7), some (zi (x8 + 1)), some (zi v16), some (zi v19)] zd_4_20_116 rfl rfl ?_
        refine zz_goto zd_4_20_119 ?_
        refine zz_less (ls1 := [some (.ref (zz_rf 6 t)), some (.ref 1032), some (.ref (zz_rf 6 p1)), some (zi p2), some (zi p3), some (zi p4), some (zi x6), some (zi x7), some (zi (x8 + 1))]) ⟨rfl, ⟨rfl, ⟨rfl, ⟨rfl, ⟨rfl, ⟨rfl, ⟨rfl, ⟨rfl, ⟨rfl, trivial⟩⟩⟩⟩⟩⟩⟩⟩⟩ ?_
        exact k27 x6 x7 (x8 + 1) S G_S F_S (by omega) (by omega) (by omega) (by omega) (by omega)
      · exfalso; omega
    · refine zz_if_eq (by omega) zd_4_20_77 (fun c24 => ?_) (fun c24 => ?_)
      · exfalso; omega
      · refine zz_aload_n (x := zz_rf 6 p1) rfl zd_4_20_80 ?_
        refine zz_iload (x := v16) rfl zd_4_20_81 ?_
        refine zz_iload (x := v19) rfl zd_4_20_83 ?_
        refine zz_iconst zd_4_20_85 ?_
        refine zz_callVI [zi v16, zi v19, zi 0] zd_4_20_86 zk_Layer_75 (zT_k6 (by omega)) (zN_k6 hn (by omega)) rfl rfl ⟨Nat.le_of_ble_eq_true rfl, Nat.le_of_ble_eq_true rfl⟩ ⟨rfl, rfl⟩ (Nat.zero_le _) (Nat.zero_le _) (zc_cellAt_4_15 p1 v16 v19 0 S n hn G_S (by omega) (by omega) (by omega) (by omega)) (fun v26 S25 hP => ?_)
        obtain ⟨rfl, o27⟩ := hP
        refine zz_istore [some (.ref (zz_rf 6 t)), some (.ref 1032), some (.ref (zz_rf 6 p1)), some (zi p2), some (zi p3), some (zi p4), some (zi x6), some (zi x7), some (zi x8), some (zi v16), some (zi v19), some (zi v26)] zd_4_20_89 (by decide) rfl ?_
        refine zz_iload (x := x6) rfl zd_4_20_91 ?_
        refine zz_aload_n (x := zz_rf 6 t) rfl zd_4_20_93 ?_
        refine zz_aload_n (x := 1032) rfl zd_4_20_94 ?_
        refine zz_aload_n (x := zz_rf 6 p1) rfl zd_4_20_95 ?_
        refine zz_iload (x := v26) rfl zd_4_20_96 ?_
        refine zz_aload_n (x := zz_rf 6 t) rfl zd_4_20_98 ?_
        refine zz_aload_n (x := zz_rf 6 p1) rfl zd_4_20_99 ?_
        refine zz_iload (x := x7) rfl zd_4_20_100 ?_
        refine zz_iload (x := x8) rfl zd_4_20_102 ?_
        refine zz_iconst zd_4_20_104 ?_
        refine zz_iload (x := p4) rfl zd_4_20_105 ?_
        refine zz_callVI [.ref (zz_rf 6 p1), zi x7, zi x8, zi 0, zi p4] zd_4_20_107 zk_Layer_113 (zT_k6 (by omega)) (zN_k6 hn (by omega)) rfl rfl ⟨Nat.le_of_ble_eq_true rfl, Nat.le_of_ble_eq_true rfl⟩ ⟨rfl, rfl⟩ (Nat.zero_le _) (Nat.zero_le _) (zc_weightAt_4_14 t p1 x7 x8 0 p4 S n hn G_S (by omega) (by omega) (by omega) (by omega) (by omega) (by omega)) (fun v29 S28 hP => ?_)
        obtain ⟨rfl, o30⟩ := hP
        refine zz_callVI [.ref 1032, .ref (zz_rf 6 p1), zi v26, zi v29] zd_4_20_110 zk_Layer_117 (zT_k6 (by omega)) (zN_k6 hn (by omega)) rfl rfl ⟨Nat.le_of_ble_eq_true rfl, Nat.le_of_ble_eq_true rfl⟩ ⟨rfl, rfl⟩ (Nat.zero_le _) (Nat.zero_le _) (zc_product_4_21 t p1 v26 v29 S n hn G_S (by omega) (by omega) (by omega) (by omega)) (fun v32 S31 hP => ?_)
        obtain ⟨rfl, o33⟩ := hP
        refine zz_iadd zd_4_20_113 ?_
        refine zz_nrm (fun v34 hv34 ev34 => ?_)
        clear ev34
        refine zz_istore [some (.ref (zz_rf 6 t)), some (.ref 1032), some (.ref (zz_rf 6 p1)), some (zi p2), some (zi p3), some (zi p4), some (zi v34), some (zi x7), some (zi x8), some (zi v16), some (zi v19), some (zi v26)] zd_4_20_114 (by decide) rfl ?_
        refine zz_iinc [some (.ref (zz_rf 6 t)), some (.ref 1032), some (.ref (zz_rf 6 p1)), some (zi p2), some (zi p3), some (zi p4), some (zi v34), some (zi x7), some (zi (x8 + 1)), some (zi v16), some (zi v19), some (zi v26)] zd_4_20_116 rfl rfl ?_
        refine zz_goto zd_4_20_119 ?_
        refine zz_less (ls1 := [some (.ref (zz_rf 6 t)), some (.ref 1032), some (.ref (zz_rf 6 p1)), some (zi p2), some (zi p3), some (zi p4), some (zi v34), some (zi x7), some (zi (x8 + 1))]) ⟨rfl, ⟨rfl, ⟨rfl, ⟨rfl, ⟨rfl, ⟨rfl, ⟨rfl, ⟨rfl, ⟨rfl, trivial⟩⟩⟩⟩⟩⟩⟩⟩⟩ ?_
        exact k27 v34 x7 (x8 + 1) S G_S F_S (by omega) (by omega) (by omega) (by omega) (by omega)
theorem zi_convolved_4_20 {g : mm_G} {l : Launch} (t : Int) (p1 : Int) (p2 : Int) (p3 : Int) (p4 : Int) (S0 : zz_S) (n : Nat) (hn : zz_end ≤ n) (G_S0 : zz_G S0) (ht : 0 ≤ t ∧ t ≤ 23) (hp1 : 0 ≤ p1 ∧ p1 ≤ 23) (hp2 : (-2147483648) ≤ p2 ∧ p2 ≤ 2147483647) (hp3 : (-2147483648) ≤ p3 ∧ p3 ≤ 2147483647) (hp4 : (-2147483648) ≤ p4 ∧ p4 ≤ 2147483647) : ∀ N : Nat, (∀ (x6 : Int) (x7 : Int) (S : zz_S), zz_G S → zz_fr [] [] (fun _ _ => False) S0 S → ((-2147483648) ≤ x6 ∧ x6 ≤ 2147483647) → (0 ≤ x7 ∧ x7 ≤ 2147483647) → (34359738368 + (S0 (zz_rf 6 t) 3 - x7).toNat) * 1099511627776 + 1099511627775 < N → zz_E g l zy_convolved_4_20 zr_convolved_4_20 (zz_QI n (zp_convolved_4_20 t p1 p2 p3 p4 S0)) S n 15 [some (.ref (zz_rf 6 t)), some (.ref 1032), some (.ref (zz_rf 6 p1)), some (zi p2), some (zi p3), some (zi p4), some (zi x6), some (zi x7)] [] 0 0) ∧ (∀ (x6 : Int) (x7 : Int) (x8 : Int) (S : zz_S), zz_G S → zz_fr [] [] (fun _ _ => False) S0 S → ((-2147483648) ≤ x6 ∧ x6 ≤ 2147483647) → (0 ≤ x7 ∧ x7 ≤ 2147483647) → (0 ≤ x8 ∧ x8 ≤ 2147483647) → (x7 < S0 (zz_rf 6 t) 3) → (34359738368 + (S0 (zz_rf 6 t) 3 - x7).toNat) * 1099511627776 + (17179869184 + (S0 (zz_rf 6 t) 4 - x8).toNat) < N → zz_E g l zy_convolved_4_20 zr_convolved_4_20 (zz_QI n (zp_convolved_4_20 t p1 p2 p3 p4 S0)) S n 27 [some (.ref (zz_rf 6 t)), some (.ref 1032), some (.ref (zz_rf 6 p1)), some (zi p2), some (zi p3), some (zi p4), some (zi x6), some (zi x7), some (zi x8)] [] 0 0) := by
  intro N
  induction N with
  | zero => exact ⟨fun x6 x7 S _ _ _ _ h => absurd h (Nat.not_lt_zero _), fun x6 x7 x8 S _ _ _ _ _ _ h => absurd h (Nat.not_lt_zero _)⟩
  | succ N ih =>
    exact ⟨fun x6 x7 S a b j0 j1 hR => zb_convolved_4_20_15 t p1 p2 p3 p4 S0 n hn G_S0 ht hp1 hp2 hp3 hp4 x6 x7 S a b j0 j1 _ rfl (fun x6 x7 x8 S a b j0 j1 j2 j3 h => ih.2 x6 x7 x8 S a b j0 j1 j2 j3 (Nat.lt_of_lt_of_le h (Nat.le_of_lt_succ hR))),
      fun x6 x7 x8 S a b j0 j1 j2 j3 hR => zb_convolved_4_20_27 t p1 p2 p3 p4 S0 n hn G_S0 ht hp1 hp2 hp3 hp4 x6 x7 x8 S a b j0 j1 j2 j3 _ rfl (fun x6 x7 S a b j0 j1 h => ih.1 x6 x7 S a b j0 j1 (Nat.lt_of_lt_of_le h (Nat.le_of_lt_succ hR))) (fun x6 x7 x8 S a b j0 j1 j2 j3 h => ih.2 x6 x7 x8 S a b j0 j1 j2 j3 (Nat.lt_of_lt_of_le h (Nat.le_of_lt_succ hR)))⟩
theorem zc_convolved_4_20 {g : mm_G} {l : Launch} (t : Int) (p1 : Int) (p2 : Int) (p3 : Int) (p4 : Int) (S0 : zz_S) (n : Nat) (hn : zz_end ≤ n) (G_S0 : zz_G S0) (ht : 0 ≤ t ∧ t ≤ 23) (hp1 : 0 ≤ p1 ∧ p1 ≤ 23) (hp2 : (-2147483648) ≤ p2 ∧ p2 ≤ 2147483647) (hp3 : (-2147483648) ≤ p3 ∧ p3 ≤ 2147483647) (hp4 : (-2147483648) ≤ p4 ∧ p4 ≤ 2147483647) : mm_Met g l zy_convolved_4_20 zr_convolved_4_20 [.ref (zz_rf 6 t), .ref 1032, .ref (zz_rf 6 p1), zi p2, zi p3, zi p4] (zz_M S0 n) n (zz_QI n (zp_convolved_4_20 t p1 p2 p3 p4 S0)) := by
  refine zz_enter (by decide) (Nat.le_of_ble_eq_true rfl) (zz_less (ls1 := [some (.ref (zz_rf 6 t)), some (.ref 1032), some (.ref (zz_rf 6 p1)), some (zi p2), some (zi p3), some (zi p4)]) ⟨rfl, ⟨rfl, ⟨rfl, ⟨rfl, ⟨rfl, ⟨rfl, trivial⟩⟩⟩⟩⟩⟩ ?_)
  have F_S0 : zz_fr [] [] (fun _ _ => False) S0 S0 := zz_fr.refl
  have k15 : ∀ (x6 : Int) (x7 : Int) (S : zz_S), zz_G S → zz_fr [] [] (fun _ _ => False) S0 S → ((-2147483648) ≤ x6 ∧ x6 ≤ 2147483647) → (0 ≤ x7 ∧ x7 ≤ 2147483647) → zz_E g l zy_convolved_4_20 zr_convolved_4_20 (zz_QI n (zp_convolved_4_20 t p1 p2 p3 p4 S0)) S n 15 [some (.ref (zz_rf 6 t)), some (.ref 1032), some (.ref (zz_rf 6 p1)), some (zi p2), some (zi p3), some (zi p4), some (zi x6), some (zi x7)] [] 0 0 := fun x6 x7 S a b j0 j1 => (zi_convolved_4_20 (g := g) (l := l) t p1 p2 p3 p4 S0 n hn G_S0 ht hp1 hp2 hp3 hp4 _).1 x6 x7 S a b j0 j1 (Nat.lt_succ_self _)
  have b_p1 := zz_rf6 (z := p1) (by omega)
  have b_t := zz_rf6 (z := t) (by omega)
  refine zz_aload_n (x := 1032) rfl zd_4_20_0 ?_
  refine zz_aload_n (x := zz_rf 6 t) rfl zd_4_20_1 ?_
  refine zz_iload (x := p4) rfl zd_4_20_2 ?_
  refine zz_callVI [zi p4] zd_4_20_4 zk_Layer_102 (zT_k6 (by omega)) (zN_k6 hn (by omega)) rfl rfl ⟨Nat.le_of_ble_eq_true rfl, Nat.le_of_ble_eq_true rfl⟩ ⟨rfl, rfl⟩ (Nat.zero_le _) (Nat.zero_le _) (zc_biasAt_4_13 t p4 S0 n hn G_S0 (by omega) (by omega)) (fun v2 S1 hP => ?_)
  obtain ⟨rfl, o3⟩ := hP
  refine zz_callSI [.ref 1032, zi v2] zd_4_20_7 zk_Layer_106 rfl rfl ⟨Nat.le_of_ble_eq_true rfl, Nat.le_of_ble_eq_true rfl⟩ ⟨rfl, rfl⟩ (Nat.zero_le _) (Nat.zero_le _) (zc_intAt_6_4 v2 S0 n hn G_S0 (by omega)) (fun v5 S4 hP => ?_)
  obtain ⟨rfl, o6⟩ := hP
  refine zz_istore [some (.ref (zz_rf 6 t)), some (.ref 1032), some (.ref (zz_rf 6 p1)), some (zi p2), some (zi p3), some (zi p4), some (zi v5)] zd_4_20_10 (by decide) rfl ?_
  refine zz_iconst zd_4_20_12 ?_
  refine zz_istore [some (.ref (zz_rf 6 t)), some (.ref 1032), some (.ref (zz_rf 6 p1)), some (zi p2), some (zi p3), some (zi p4), some (zi v5), some (zi 0)] zd_4_20_13 (by decide) rfl ?_
  refine zz_less (ls1 := [some (.ref (zz_rf 6 t)), some (.ref 1032), some (.ref (zz_rf 6 p1)), some (zi p2), some (zi p3), some (zi p4), some (zi v5), some (zi 0)]) ⟨rfl, ⟨rfl, ⟨rfl, ⟨rfl, ⟨rfl, ⟨rfl, ⟨rfl, ⟨rfl, trivial⟩⟩⟩⟩⟩⟩⟩⟩ ?_
  exact k15 v5 0 S0 G_S0 F_S0 (by omega) (by omega)
theorem zk_Layer_91 : mm_Vl "TensorForge$Layer" 91 2 5 zy_convolved_4_20 := ⟨zyw_convolved_4_20, (R_Layer, F_Layer, 15), rfl, mm_tb_1 874 (by decide +kernel) rfl, mm_tb_1 876 (by decide +kernel) rfl, mm_tb_s 38 (by decide +kernel) rfl⟩
theorem zg_4_19_20 : zq_at zy_sumOf_4_19.2.1 20 172 := by decide +kernel
theorem zd_4_19_20 : zz_D zy_sumOf_4_19 20 (.ireturn) 1 21 := ⟨zq_172 zg_4_19_20, rfl⟩
-- TensorForge$Layer sumOf ([BLTensorForge$Layer;LTensorForge$Layer;III)I
abbrev zr_sumOf_4_19 : Room := { frames := 3, cells := 0, slots := 0, locals := 57 }
def zp_sumOf_4_19 (t : Int) (p1 : Int) (p2 : Int) (p3 : Int) (p4 : Int) (p5 : Int) (S0 : zz_S) : Int → zz_S → Prop := fun r S => S0 = S ∧ ((-2147483648) ≤ r ∧ r ≤ 2147483647)
theorem zc_sumOf_4_19 {g : mm_G} {l : Launch} (t : Int) (p1 : Int) (p2 : Int) (p3 : Int) (p4 : Int) (p5 : Int) (S0 : zz_S) (n : Nat) (hn : zz_end ≤ n) (G_S0 : zz_G S0) (ht : 0 ≤ t ∧ t ≤ 23) (hp1 : 0 ≤ p1 ∧ p1 ≤ 23) (hp2 : 0 ≤ p2 ∧ p2 ≤ 23) (hp3 : (-2147483648) ≤ p3 ∧ p3 ≤ 2147483647) (hp4 : (-2147483648) ≤ p4 ∧ p4 ≤ 2147483647) (hp5 : (-2147483648) ≤ p5 ∧ p5 ≤ 2147483647) : mm_Met g l zy_sumOf_4_19 zr_sumOf_4_19 [.ref (zz_rf 6 t), .ref 1032, .ref (zz_rf 6 p1), .ref (zz_rf 6 p2), zi p3, zi p4, zi p5] (zz_M S0 n) n (zz_QI n (zp_sumOf_4_19 t p1 p2 p3 p4 p5 S0)) := by
  refine zz_enter (by decide) (Nat.le_of_ble_eq_true rfl) (zz_less (ls1 := [some (.ref (zz_rf 6 t)), some (.ref 1032), some (.ref (zz_rf 6 p1)), some (.ref (zz_rf 6 p2)), some (zi p3), some (zi p4), some (zi p5)]) ⟨rfl, ⟨rfl, ⟨rfl, ⟨rfl, ⟨rfl, ⟨rfl, ⟨rfl, trivial⟩⟩⟩⟩⟩⟩⟩ ?_)
  have b_p1 := zz_rf6 (z := p1) (by omega)
  have b_p2 := zz_rf6 (z := p2) (by omega)
  have b_t := zz_rf6 (z := t) (by omega)
  refine zz_aload_n (x := zz_rf 6 t) rfl zd_4_19_0 ?_
  have g1 := zz_G.r G_S0 (zz_rf 6 t) 0 (-2147483648) 2147483647 (zR_k6_0 (by omega)) (zB_k6 (by omega))
  refine zz_geti (z := S0 (zz_rf 6 t) 0) zd_4_19_1 zf_Layer_13 (zT_k6 (by omega)) rfl (zN_k6 hn (by omega)) rfl ?_
  refine zz_iconst zd_4_19_4 ?_
  refine zz_icmp_ne (by omega) (by omega) zd_4_19_5 (fun c2 => ?_) (fun c2 => ?_)
  · refine zz_aload_n (x := zz_rf 6 t) rfl zd_4_19_21 ?_
    refine zz_geti (z := S0 (zz_rf 6 t) 0) zd_4_19_22 zf_Layer_13 (zT_k6 (by omega)) rfl (zN_k6 hn (by omega)) rfl ?_
    refine zz_iconst zd_4_19_25 ?_
    refine zz_icmp_ne (by omega) (by omega) zd_4_19_26 (fun c3 => ?_) (fun c3 => ?_)
    · refine zz_aload_n (x := 1032) rfl zd_4_19_42 ?_
      refine zz_aload_n (x := zz_rf 6 p1) rfl zd_4_19_43 ?_
      refine zz_iload (x := p3) rfl zd_4_19_44 ?_
      refine zz_iload (x := p4) rfl zd_4_19_46 ?_
      refine zz_iload (x := p5) rfl zd_4_19_48 ?_
      refine zz_callVI [zi p3, zi p4, zi p5] zd_4_19_50 zk_Layer_75 (zT_k6 (by omega)) (zN_k6 hn (by omega)) rfl rfl ⟨Nat.le_of_ble_eq_true rfl, Nat.le_of_ble_eq_true rfl⟩ ⟨rfl, rfl⟩ (Nat.zero_le _) (Nat.zero_le _) (zc_cellAt_4_15 p1 p3 p4 p5 S0 n hn G_S0 (by omega) (by omega) (by omega) (by omega)) (fun v5 S4 hP => ?_)
      obtain ⟨rfl, o6⟩ := hP
      refine zz_callSI [.ref 1032, zi v5] zd_4_19_53 zk_Layer_98 rfl rfl ⟨Nat.le_of_ble_eq_true rfl, Nat.le_of_ble_eq_true rfl⟩ ⟨rfl, rfl⟩ (Nat.zero_le _) (Nat.zero_le _) (zc_byteAt_4_17 v5 S0 n hn G_S0 (by omega)) (fun v8 S7 hP => ?_)
      obtain ⟨rfl, o9⟩ := hP
      refine zz_aload_n (x := 1032) rfl zd_4_19_56 ?_
      refine zz_aload_n (x := zz_rf 6 p2) rfl zd_4_19_57 ?_
      refine zz_iload (x := p3) rfl zd_4_19_58 ?_
      refine zz_iload (x := p4) rfl zd_4_19_60 ?_
      refine zz_iload (x := p5) rfl zd_4_19_62 ?_
      refine zz_callVI [zi p3, zi p4, zi p5] zd_4_19_64 zk_Layer_75 (zT_k6 (by omega)) (zN_k6 hn (by omega)) rfl rfl ⟨Nat.le_of_ble_eq_true rfl, Nat.le_of_ble_eq_true rfl⟩ ⟨rfl, rfl⟩ (Nat.zero_le _) (Nat.zero_le _) (zc_cellAt_4_15 p2 p3 p4 p5 S0 n hn G_S0 (by omega) (by omega) (by omega) (by omega)) (fun v11 S10 hP => ?_)
      obtain ⟨rfl, o12⟩ := hP
      refine zz_callSI [.ref 1032, zi v11] zd_4_19_67 zk_Layer_98 rfl rfl ⟨Nat.le_of_ble_eq_true rfl, Nat.le_of_ble_eq_true rfl⟩ ⟨rfl, rfl⟩ (Nat.zero_le _) (Nat.zero_le _) (zc_byteAt_4_17 v11 S0 n hn G_S0 (by omega)) (fun v14 S13 hP => ?_)
      obtain ⟨rfl, o15⟩ := hP
      refine zz_iadd zd_4_19_70 ?_
      refine zz_nrm (fun v16 hv16 ev16 => ?_)
      exact zz_iret zd_4_19_71 rfl (Nat.zero_le _) (Nat.zero_le _) ⟨_, _, rfl, rfl, by omega⟩
    · refine zz_aload_n (x := zz_rf 6 t) rfl zd_4_19_29 ?_
      refine zz_aload_n (x := 1032) rfl zd_4_19_30 ?_
      refine zz_aload_n (x := zz_rf 6 p1) rfl zd_4_19_31 ?_
      refine zz_iload (x := p3) rfl zd_4_19_32 ?_
      refine zz_iload (x := p4) rfl zd_4_19_34 ?_
      refine zz_iload (x := p5) rfl zd_4_19_36 ?_
      refine zz_callVI [.ref 1032, .ref (zz_rf 6 p1), zi p3, zi p4, zi p5] zd_4_19_38 zk_Layer_95 (zT_k6 (by omega)) (zN_k6 hn (by omega)) rfl rfl ⟨Nat.le_of_ble_eq_true rfl, Nat.le_of_ble_eq_true rfl⟩ ⟨rfl, rfl⟩ (Nat.zero_le _) (Nat.zero_le _) (zc_greatest_4_22 t p1 p3 p4 p5 S0 n hn G_S0 (by omega) (by omega) (by omega) (by omega) (by omega)) (fun v18 S17 hP => ?_)
      obtain ⟨rfl, o19⟩ := hP
      exact zz_iret zd_4_19_41 rfl (Nat.zero_le _) (Nat.zero_le _) ⟨_, _, rfl, rfl, by omega⟩
  · refine zz_aload_n (x := zz_rf 6 t) rfl zd_4_19_8 ?_
    refine zz_aload_n (x := 1032) rfl zd_4_19_9 ?_
    refine zz_aload_n (x := zz_rf 6 p1) rfl zd_4_19_10 ?_
    refine zz_iload (x := p3) rfl zd_4_19_11 ?_
    refine zz_iload (x := p4) rfl zd_4_19_13 ?_
    refine zz_iload (x := p5) rfl zd_4_19_15 ?_
    refine zz_callVI [.ref 1032, .ref (zz_rf 6 p1), zi p3, zi p4, zi p5] zd_4_19_17 zk_Layer_91 (zT_k6 (by omega)) (zN_k6 hn (by omega)) rfl rfl ⟨Nat.le_of_ble_eq_true rfl, Nat.le_of_ble_eq_true rfl⟩ ⟨rfl, rfl⟩ (Nat.zero_le _) (Nat.zero_le _) (zc_convolved_4_20 t p1 p3 p4 p5 S0 n hn G_S0 (by omega) (by omega) (by omega) (by omega) (by omega)) (fun v21 S20 hP => ?_)
    obtain ⟨rfl, o22⟩ := hP
    exact zz_iret zd_4_19_20 rfl (Nat.zero_le _) (Nat.zero_le _) ⟨_, _, rfl, rfl, by omega⟩
theorem zk_Layer_79 : mm_Vl "TensorForge$Layer" 79 2 6 zy_sumOf_4_19 := ⟨zyw_sumOf_4_19, (R_Layer, F_Layer, 15), rfl, mm_tb_1 870 (by decide +kernel) rfl, mm_tb_1 872 (by decide +kernel) rfl, mm_tb_s 37 (by decide +kernel) rfl⟩
theorem zk_Layer_83 : mm_Vl "TensorForge$Layer" 83 2 0 zy_narrowing_4_6 := ⟨zyw_narrowing_4_6, (R_Layer, F_Layer, 15), rfl, mm_tb_1 903 (by decide +kernel) rfl, mm_tb_1 904 (by decide +kernel) rfl, mm_tb_1 905 (by decide +kernel) rfl⟩
theorem zk_Layer_87 : mm_Sl "TensorForge$Layer" 87 2 zy_narrowed_6_19 := ⟨zyw_narrowed_6_19, mm_tb_1 907 (by decide +kernel) rfl, mm_tb_1 827 (by decide +kernel) rfl⟩
theorem zg_4_18_76 : zq_at zy_fillCells_4_18.2.1 76 42 ∧ zq_at zy_fillCells_4_18.2.1 77 182 ∧ zq_at zy_fillCells_4_18.2.1 78 0 ∧ zq_at zy_fillCells_4_18.2.1 79 83 ∧ zq_at zy_fillCells_4_18.2.1 80 184 ∧ zq_at zy_fillCells_4_18.2.1 81 0 ∧ zq_at zy_fillCells_4_18.2.1 82 87 ∧ zq_at zy_fillCells_4_18.2.1 83 84 := by decide +kernel
theorem zd_4_18_76 : zz_D zy_fillCells_4_18 76 (.aload_n 0) 1 77 := ⟨zq_42 zg_4_18_76.1, rfl⟩
theorem zd_4_18_77 : zz_D zy_fillCells_4_18 77 (.invokevirtual 83) 3 80 := ⟨zq_182 zg_4_18_76.2.1 zg_4_18_76.2.2.1 zg_4_18_76.2.2.2.1 rfl, rfl⟩
theorem zd_4_18_80 : zz_D zy_fillCells_4_18 80 (.invokestatic 87) 3 83 := ⟨zq_184 zg_4_18_76.2.2.2.2.1 zg_4_18_76.2.2.2.2.2.1 zg_4_18_76.2.2.2.2.2.2.1 rfl, rfl⟩
theorem zd_4_18_83 : zz_D zy_fillCells_4_18 83 (.bastore) 1 84 := ⟨zq_84 zg_4_18_76.2.2.2.2.2.2.2, rfl⟩
-- TensorForge$Layer fillCells ([BLTensorForge$Layer;LTensorForge$Layer;)V
abbrev zr_fillCells_4_18 : Room := { frames := 4, cells := 0, slots := 0, locals := 77 }
def zp_fillCells_4_18 (t : Int) (p1 : Int) (p2 : Int) (S0 : zz_S) : zz_S → Prop := fun S => zz_G S ∧ zz_fr [] [1032] (fun _ _ => False) S0 S
theorem zb_fillCells_4_18_3 {g : mm_G} {l : Launch} (t : Int) (p1 : Int) (p2 : Int) (S0 : zz_S) (n : Nat) (hn : zz_end ≤ n) (G_S0 : zz_G S0) (ht : 0 ≤ t ∧ t ≤ 23) (hp1 : 0 ≤ p1 ∧ p1 ≤ 23) (hp2 : 0 ≤ p2 ∧ p2 ≤ 23) (x4 : Int) (S : zz_S) (G_S : zz_G S) (F_S : zz_fr [] [1032] (fun _ _ => False) S0 S) (i3_0 : 0 ≤ x4 ∧ x4 ≤ 2147483647) (R : Nat) (hR : (51539607552 + (S0 (zz_rf 6 t) 10 - x4).toNat) * 1208925819614629174706176 + 1208925819614629174706175 = R) (k15 : ∀ (x4 : Int) (x5 : Int) (S : zz_S), zz_G S → zz_fr [] [1032] (fun _ _ => False) S0 S → (0 ≤ x4 ∧ x4 ≤ 2147483647) → (0 ≤ x5 ∧ x5 ≤ 2147483647) → (x4 < S0 (zz_rf 6 t) 10) → (51539607552 + (S0 (zz_rf 6 t) 10 - x4).toNat) * 1208925819614629174706176 + (34359738368 + (S0 (zz_rf 6 t) 11 - x5).toNat) * 1099511627776 + 1099511627775 < R → zz_E g l zy_fillCells_4_18 zr_fillCells_4_18 (zz_QV n (zp_fillCells_4_18 t p1 p2 S0)) S n 15 [some (.ref (zz_rf 6 t)), some (.ref 1032), some (.ref (zz_rf 6 p1)), some (.ref (zz_rf 6 p2)), some (zi x4), some (zi x5)] [] 0 0) : zz_E g l zy_fillCells_4_18 zr_fillCells_4_18 (zz_QV n (zp_fillCells_4_18 t p1 p2 S0)) S n 3 [some (.ref (zz_rf 6 t)), some (.ref 1032), some (.ref (zz_rf 6 p1)), some (.ref (zz_rf 6 p2)), some (zi x4)] [] 0 0 := by
  have b_p1 := zz_rf6 (z := p1) (by omega)
  have b_p2 := zz_rf6 (z := p2) (by omega)
  have b_t := zz_rf6 (z := t) (by omega)
  have r10_ := zz_G.r G_S0 (zz_rf 6 t) 10 (-2147483648) 2147483647 (zR_k6_10 (by omega)) (zB_k6 (by omega))
  have r11_ := zz_G.r G_S0 (zz_rf 6 t) 11 (-2147483648) 2147483647 (zR_k6_11 (by omega)) (zB_k6 (by omega))
  have r12_ := zz_G.r G_S0 (zz_rf 6 t) 12 (-2147483648) 2147483647 (zR_k6_12 (by omega)) (zB_k6 (by omega))
  refine zz_iload (x := x4) rfl zd_4_18_3 ?_
  refine zz_aload_n (x := zz_rf 6 t) rfl zd_4_18_5 ?_
  have g1 := zz_G.r G_S0 (zz_rf 6 t) 10 (-2147483648) 2147483647 (zR_k6_10 (by omega)) (zB_k6 (by omega))
  refine zz_geti (z := S0 (zz_rf 6 t) 10) zd_4_18_6 zf_Layer_54 (zT_k6 (by omega)) rfl (zN_k6 hn (by omega)) (zz_rc F_S (zP_k6 (by omega) rfl) (zQ_k6 (by omega) rfl) (fun h => h) rfl) ?_
  refine zz_icmp_ge (by omega) (by omega) zd_4_18_9 (fun c2 => ?_) (fun c2 => ?_)
  · exact zz_vret zd_4_18_102 rfl (Nat.zero_le _) (Nat.zero_le _) ⟨_, rfl, G_S, F_S⟩
  · refine zz_iconst zd_4_18_12 ?_
    refine zz_istore [some (.ref (zz_rf 6 t)), some (.ref 1032), some (.ref (zz_rf 6 p1)), some (.ref (zz_rf 6 p2)), some (zi x4), some (zi 0)] zd_4_18_13 (by decide) rfl ?_
    refine zz_less (ls1 := [some (.ref (zz_rf 6 t)), some (.ref 1032), some (.ref (zz_rf 6 p1)), some (.ref (zz_rf 6 p2)), some (zi x4), some (zi 0)]) ⟨rfl, ⟨rfl, ⟨rfl, ⟨rfl, ⟨rfl, ⟨rfl, trivial⟩⟩⟩⟩⟩⟩ ?_
    exact k15 x4 0 S G_S F_S (by omega) (by omega) (by omega) (by omega)
theorem zb_fillCells_4_18_15 {g : mm_G} {l : Launch} (t : Int) (p1 : Int) (p2 : Int) (S0 : zz_S) (n : Nat) (hn : zz_end ≤ n) (G_S0 : zz_G S0) (ht : 0 ≤ t ∧ t ≤ 23) (hp1 : 0 ≤ p1 ∧ p1 ≤ 23) (hp2 : 0 ≤ p2 ∧ p2 ≤ 23) (x4 : Int) (x5 : Int) (S : zz_S) (G_S : zz_G S) (F_S : zz_fr [] [1032] (fun _ _ => False) S0 S) (i15_0 : 0 ≤ x4 ∧ x4 ≤ 2147483647) (i15_1 : 0 ≤ x5 ∧ x5 ≤ 2147483647) (i15_2 : x4 < S0 (zz_rf 6 t) 10) (R : Nat) (hR : (51539607552 + (S0 (zz_rf 6 t) 10 - x4).toNat) * 1208925819614629174706176 + (34359738368 + (S0 (zz_rf 6 t) 11 - x5).toNat) * 1099511627776 + 1099511627775 = R) (k3 : ∀ (x4 : Int) (S : zz_S), zz_G S → zz_fr [] [1032] (fun _ _ => False) S0 S → (0 ≤ x4 ∧ x4 ≤ 2147483647) → (51539607552 + (S0 (zz_rf 6 t) 10 - x4).toNat) * 1208925819614629174706176 + 1208925819614629174706175 < R → zz_E g l zy_fillCells_4_18 zr_fillCells_4_18 (zz_QV n (zp_fillCells_4_18 t p1 p2 S0)) S n 3 [some (.ref (zz_rf 6 t)), some (.ref 1032), some (.ref (zz_rf 6 p1)), some (.ref (zz_rf 6 p2)), some (zi x4)] [] 0 0) (k27 : ∀ (x4 : Int) (x5 : Int) (x6 : Int) (S : zz_S), zz_G S → zz_fr [] [1032] (fun _ _ => False) S0 S → (0 ≤ x4 ∧ x4 ≤ 2147483647) → (0 ≤ x5 ∧ x5 ≤ 2147483647) → (0 ≤ x6 ∧ x6 ≤ 2147483647) → (x4 < S0 (zz_rf 6 t) 10) → (x4 < S0 (zz_rf 6 t) 10) → (x5 < S0 (zz_rf 6 t) 11) → (51539607552 + (S0 (zz_rf 6 t) 10 - x4).toNat) * 1208925819614629174706176 + (34359738368 + (S0 (zz_rf 6 t) 11 - x5).toNat) * 1099511627776 + (17179869184 + (S0 (zz_rf 6 t) 12 - x6).toNat) < R → zz_E g l zy_fillCells_4_18 zr_fillCells_4_18 (zz_QV n (zp_fillCells_4_18 t p1 p2 S0)) S n 27 [some (.ref (zz_rf 6 t)), some (.ref 1032), some (.ref (zz_rf 6 p1)), some (.ref (zz_rf 6 p2)), some (zi x4), some (zi x5), some (zi x6)] [] 0 0) : zz_E g l zy_fillCells_4_18 zr_fillCells_4_18 (zz_QV n (zp_fillCells_4_18 t p1 p2 S0)) S n 15 [some (.ref (zz_rf 6 t)), some (.ref 1032), some (.ref (zz_rf 6 p1)), some (.ref (zz_rf 6 p2)), some (zi x4), some (zi x5)] [] 0 0 := by
  have b_p1 := zz_rf6 (z := p1) (by omega)
  have b_p2 := zz_rf6 (z := p2) (by omega)
  have b_t := zz_rf6 (z := t) (by omega)
  have r10_ := zz_G.r G_S0 (zz_rf 6 t) 10 (-2147483648) 2147483647 (zR_k6_10 (by omega)) (zB_k6 (by omega))
  have r11_ := zz_G.r G_S0 (zz_rf 6 t) 11 (-2147483648) 2147483647 (zR_k6_11 (by omega)) (zB_k6 (by omega))
  have r12_ := zz_G.r G_S0 (zz_rf 6 t) 12 (-2147483648) 2147483647 (zR_k6_12 (by omega)) (zB_k6 (by omega))
  refine zz_iload (x := x5) rfl zd_4_18_15 ?_
  refine zz_aload_n (x := zz_rf 6 t) rfl zd_4_18_17 ?_
  have g3 := zz_G.r G_S0 (zz_rf 6 t) 11 (-2147483648) 2147483647 (zR_k6_11 (by omega)) (zB_k6 (by omega))
  refine zz_geti (z := S0 (zz_rf 6 t) 11) zd_4_18_18 zf_Layer_57 (zT_k6 (by omega)) rfl (zN_k6 hn (by omega)) (zz_rc F_S (zP_k6 (by omega) rfl) (zQ_k6 (by omega) rfl) (fun h => h) rfl) ?_
  refine zz_icmp_ge (by omega) (by omega) zd_4_18_21 (fun c4 => ?_) (fun c4 => ?_)
  · refine zz_iincN (fun v5 => [some (.ref (zz_rf 6 t)), some (.ref 1032), some (.ref (zz_rf 6 p1)), some (.ref (zz_rf 6 p2)), some (zi v5), some (zi x5)]) zd_4_18_96 rfl (fun _ => rfl) (fun v5 hv5 ev5 => ?_)
    refine zz_goto zd_4_18_99 ?_
    refine zz_less (ls1 := [some (.ref (zz_rf 6 t)), some (.ref 1032), some (.ref (zz_rf 6 p1)), some (.ref (zz_rf 6 p2)), some (zi v5)]) ⟨rfl, ⟨rfl, ⟨rfl, ⟨rfl, ⟨rfl, trivial⟩⟩⟩⟩⟩ ?_
    exact k3 v5 S G_S F_S (by omega) (by omega)
  · refine zz_iconst zd_4_18_24 ?_
    refine zz_istore [some (.ref (zz_rf 6 t)), some (.ref 1032), some (.ref (zz_rf 6 p1)), some (.ref (zz_rf 6 p2)), some (zi x4), some (zi x5), some (zi 0)] zd_4_18_25 (by decide) rfl ?_
    refine zz_less (ls1 := [some (.ref (zz_rf 6 t)), some (.ref 1032), some (.ref (zz_rf 6 p1)), some (.ref (zz_rf 6 p2)), some (zi x4), some (zi x5), some (zi 0)]) ⟨rfl, ⟨rfl, ⟨rfl, ⟨rfl, ⟨rfl, ⟨rfl, ⟨rfl, trivial⟩⟩⟩⟩⟩⟩⟩ ?_
    exact k27 x4 x5 0 S G_S F_S (by omega) (by omega) (by omega) (by omega) (by omega) (by omega) (by omega)
theorem zb_fillCells_4_18_27 {g : mm_G} {l : Launch} (t : Int) (p1 : Int) (p2 : Int) (S0 : zz_S) (n : Nat) (hn : zz_end ≤ n) (G_S0 : zz_G S0) (ht : 0 ≤ t ∧ t ≤ 23) (hp1 : 0 ≤ p1 ∧ p1 ≤ 23) (hp2 : 0 ≤ p2 ∧ p2 ≤ 23) (x4 : Int) (x5 : Int) (x6 : Int) (S : zz_S) (G_S : zz_G S) (F_S : zz_fr [] [1032] (fun _ _ => False) S0 S) (i27_0 : 0 ≤ x4 ∧ x4 ≤ 2147483647) (i27_1 : 0 ≤ x5 ∧ x5 ≤ 2147483647) (i27_2 : 0 ≤ x6 ∧ x6 ≤ 2147483647) (i27_3 : x4 < S0 (zz_rf 6 t) 10) (i27_4 : x4 < S0 (zz_rf 6 t) 10) (i27_5 : x5 < S0 (zz_rf 6 t) 11) (R : Nat) (hR : (51539607552 + (S0 (zz_rf 6 t) 10 - x4).toNat) * 1208925819614629174706176 + (34359738368 + (S0 (zz_rf 6 t) 11 - x5).toNat) * 1099511627776 + (17179869184 + (S0 (zz_rf 6 t) 12 - x6).toNat) = R) (k15 : ∀ (x4 : Int) (x5 : Int) (S : zz_S), zz_G S → zz_fr [] [1032] (fun _ _ => False) S0 S → (0 ≤ x4 ∧ x4 ≤ 2147483647) → (0 ≤ x5 ∧ x5 ≤ 2147483647) → (x4 < S0 (zz_rf 6 t) 10) → (51539607552 + (S0 (zz_rf 6 t) 10 - x4).toNat) * 1208925819614629174706176 + (34359738368 + (S0 (zz_rf 6 t) 11 - x5).toNat) * 1099511627776 + 1099511627775 < R → zz_E g l zy_fillCells_4_18 zr_fillCells_4_18 (zz_QV n (zp_fillCells_4_18 t p1 p2 S0)) S n 15 [some (.ref (zz_rf 6 t)), some (.ref 1032), some (.ref (zz_rf 6 p1)), some (.ref (zz_rf 6 p2)), some (zi x4), some (zi x5)] [] 0 0) (k27 : ∀ (x4 : Int) (x5 : Int) (x6 : Int) (S : zz_S), zz_G S → zz_fr [] [1032] (fun _ _ => False) S0 S → (0 ≤ x4 ∧ x4 ≤ 2147483647) → (0 ≤ x5 ∧ x5 ≤ 2147483647) → (0 ≤ x6 ∧ x6 ≤ 2147483647) → (x4 < S0 (zz_rf 6 t) 10) → (x4 < S0 (zz_rf 6 t) 10) → (x5 < S0 (zz_rf 6 t) 11) → (51539607552 + (S0 (zz_rf 6 t) 10 - x4).toNat) * 1208925819614629174706176 + (34359738368 + (S0 (zz_rf 6 t) 11 - x5).toNat) * 1099511627776 + (17179869184 + (S0 (zz_rf 6 t) 12 - x6).toNat) < R → zz_E g l zy_fillCells_4_18 zr_fillCells_4_18 (zz_QV n (zp_fillCells_4_18 t p1 p2 S0)) S n 27 [some (.ref (zz_rf 6 t)), some (.ref 1032), some (.ref (zz_rf 6 p1)), some (.ref (zz_rf 6 p2)), some (zi x4), some (zi x5), some (zi x6)] [] 0 0) : zz_E g l zy_fillCells_4_18 zr_fillCells_4_18 (zz_QV n (zp_fillCells_4_18 t p1 p2 S0)) S n 27 [some (.ref (zz_rf 6 t)), some (.ref 1032), some (.ref (zz_rf 6 p1)), some (.ref (zz_rf 6 p2)), some (zi x4), some (zi x5), some (zi x6)] [] 0 0 := by
  have b_p1 := zz_rf6 (z := p1) (by omega)
  have b_p2 := zz_rf6 (z := p2) (by omega)
  have b_t := zz_rf6 (z := t) (by omega)
  have r10_ := zz_G.r G_S0 (zz_rf 6 t) 10 (-2147483648) 2147483647 (zR_k6_10 (by omega)) (zB_k6 (by omega))
  have r11_ := zz_G.r G_S0 (zz_rf 6 t) 11 (-2147483648) 2147483647 (zR_k6_11 (by omega)) (zB_k6 (by omega))
  have r12_ := zz_G.r G_S0 (zz_rf 6 t) 12 (-2147483648) 2147483647 (zR_k6_12 (by omega)) (zB_k6 (by omega))
  refine zz_iload (x := x6) rfl zd_4_18_27 ?_
  refine zz_aload_n (x := zz_rf 6 t) rfl zd_4_18_29 ?_
  have g6 := zz_G.r G_S0 (zz_rf 6 t) 12 (-2147483648) 2147483647 (zR_k6_12 (by omega)) (zB_k6 (by omega))
  refine zz_geti (z := S0 (zz_rf 6 t) 12) zd_4_18_30 zf_Layer_60 (zT_k6 (by omega)) rfl (zN_k6 hn (by omega)) (zz_rc F_S (zP_k6 (by omega) rfl) (zQ_k6 (by omega) rfl) (fun h => h) rfl) ?_
  refine zz_icmp_ge (by omega) (by omega) zd_4_18_33 (fun c7 => ?_) (fun c7 => ?_)
  · refine zz_iincN (fun v8 => [some (.ref (zz_rf 6 t)), some (.ref 1032), some (.ref (zz_rf 6 p1)), some (.ref (zz_rf 6 p2)), some (zi x4), some (zi v8), some (zi x6)]) zd_4_18_90 rfl (fun _ => rfl) (fun v8 hv8 ev8 => ?_)
    refine zz_goto zd_4_18_93 ?_
    refine zz_less (ls1 := [some (.ref (zz_rf 6 t)), some (.ref 1032), some (.ref (zz_rf 6 p1)), some (.ref (zz_rf 6 p2)), some (zi x4), some (zi v8)]) ⟨rfl, ⟨rfl, ⟨rfl, ⟨rfl, ⟨rfl, ⟨rfl, trivial⟩⟩⟩⟩⟩⟩ ?_
    exact k15 x4 v8 S G_S F_S (by omega) (by omega) (by omega) (by omega)
  · refine zz_aload_n (x := zz_rf 6 t) rfl zd_4_18_36 ?_
    refine zz_iload (x := x4) rfl zd_4_18_37 ?_
    refine zz_iload (x := x5) rfl zd_4_18_39 ?_
    refine zz_iload (x := x6) rfl zd_4_18_41 ?_
    refine zz_callVI [zi x4, zi x5, zi x6] zd_4_18_43 zk_Layer_75 (zT_k6 (by omega)) (zN_k6 hn (by omega)) rfl rfl ⟨Nat.le_of_ble_eq_true rfl, Nat.le_of_ble_eq_true rfl⟩ ⟨rfl, rfl⟩ (Nat.zero_le _) (Nat.zero_le _) (zc_cellAt_4_15 t x4 x5 x6 S n hn G_S (by omega) (by omega) (by omega) (by omega)) (fun v10 S9 hP => ?_)
    obtain ⟨rfl, o11⟩ := hP
    refine zz_istore [some (.ref (zz_rf 6 t)), some (.ref 1032), some (.ref (zz_rf 6 p1)), some (.ref (zz_rf 6 p2)), some (zi x4), some (zi x5), some (zi x6), some (zi v10)] zd_4_18_46 (by decide) rfl ?_
    refine zz_iload (x := v10) rfl zd_4_18_48 ?_
    refine zz_if_lt (by omega) zd_4_18_50 (fun c12 => ?_) (fun c12 => ?_)
    · refine zz_iinc [some (.ref (zz_rf 6 t)), some (.ref 1032), some (.ref (zz_rf 6 p1)), some (.ref (zz_rf 6 p2)), some (zi x4), some (zi x5), some (zi (x6 + 1)), some (zi v10)] zd_4_18_84 rfl rfl ?_
      refine zz_goto zd_4_18_87 ?_
      refine zz_less (ls1 := [some (.ref (zz_rf 6 t)), some (.ref 1032), some (.ref (zz_rf 6 p1)), some (.ref (zz_rf 6 p2)), some (zi x4), some (zi x5), some (zi (x6 + 1))]) ⟨rfl, ⟨rfl, ⟨rfl, ⟨rfl, ⟨rfl, ⟨rfl, ⟨rfl, trivial⟩⟩⟩⟩⟩⟩⟩ ?_
      exact k27 x4 x5 (x6 + 1) S G_S F_S (by omega) (by omega) (by omega) (by omega) (by omega) (by omega) (by omega)
    · refine zz_iload (x := v10) rfl zd_4_18_53 ?_
      refine zz_aload_n (x := 1032) rfl zd_4_18_55 ?_
      refine zz_alen zd_4_18_56 zT_1032 rfl (zz_ltn hn rfl) ?_
      refine zz_icmp_ge (by omega) (by omega) zd_4_18_57 (fun c13 => ?_) (fun c13 => ?_)
      · refine zz_iinc [some (.ref (zz_rf 6 t)), some (.ref 1032), some (.ref (zz_rf 6 p1)), some (.ref (zz_rf 6 p2)), some (zi x4), some (zi x5), some (zi (x6 + 1)), some (zi v10)] zd_4_18_84 rfl rfl ?_
        refine zz_goto zd_4_18_87 ?_
        refine zz_less (ls1 := [some (.ref (zz_rf 6 t)), some (.ref 1032), some (.ref (zz_rf 6 p1)), some (.ref (zz_rf 6 p2)), some (zi x4), some (zi x5), some (zi (x6 + 1))]) ⟨rfl, ⟨rfl, ⟨rfl, ⟨rfl, ⟨rfl, ⟨rfl, ⟨rfl, trivial⟩⟩⟩⟩⟩⟩⟩ ?_
        exact k27 x4 x5 (x6 + 1) S G_S F_S (by omega) (by omega) (by omega) (by omega) (by omega) (by omega) (by omega)
      · refine zz_aload_n (x := 1032) rfl zd_4_18_60 ?_
        refine zz_iload (x := v10) rfl zd_4_18_61 ?_
        refine zz_aload_n (x := zz_rf 6 t) rfl zd_4_18_63 ?_
        refine zz_aload_n (x := 1032) rfl zd_4_18_64 ?_
        refine zz_aload_n (x := zz_rf 6 p1) rfl zd_4_18_65 ?_
        refine zz_aload_n (x := zz_rf 6 p2) rfl zd_4_18_66 ?_
        refine zz_iload (x := x4) rfl zd_4_18_67 ?_
        refine zz_iload (x := x5) rfl zd_4_18_69 ?_
        refine zz_iload (x := x6) rfl zd_4_18_71 ?_
        refine zz_callVI [.ref 1032, .ref (zz_rf 6 p1), .ref (zz_rf 6 p2), zi x4, zi x5, zi x6] zd_4_18_73 zk_Layer_79 (zT_k6 (by omega)) (zN_k6 hn (by omega)) rfl rfl ⟨Nat.le_of_ble_eq_true rfl, Nat.le_of_ble_eq_true rfl⟩ ⟨rfl, rfl⟩ (Nat.zero_le _) (Nat.zero_le _) (zc_sumOf_4_19 t p1 p2 x4 x5 x6 S n hn G_S (by omega) (by omega) (by omega) (by omega) (by omega) (by omega)) (fun v15 S14 hP => ?_)
        obtain ⟨rfl, o16⟩ := hP
        refine zz_aload_n (x := zz_rf 6 t) rfl zd_4_18_76 ?_
        refine zz_callVI [] zd_4_18_77 zk_Layer_83 (zT_k6 (by omega)) (zN_k6 hn (by omega)) rfl rfl ⟨Nat.le_of_ble_eq_true rfl, Nat.le_of_ble_eq_true rfl⟩ ⟨rfl, rfl⟩ (Nat.zero_le _) (Nat.zero_le _) (zc_narrowing_4_6 t S n hn G_S (by omega)) (fun v18 S17 hP => ?_)
        obtain ⟨rfl, o19⟩ := hP
        refine zz_callSI [zi v15, zi v18] zd_4_18_80 zk_Layer_87 rfl rfl ⟨Nat.le_of_ble_eq_true rfl, Nat.le_of_ble_eq_true rfl⟩ ⟨rfl, rfl⟩ (Nat.zero_le _) (Nat.zero_le _) (zc_narrowed_6_19 v15 v18 S n hn G_S (by omega) (by omega)) (fun v21 S20 hP => ?_)
        obtain ⟨rfl, o22⟩ := hP
        refine zz_bast zd_4_18_83 zT_1032 rfl (zz_ltn hn rfl) (by decide) (by omega) (by omega) (fun S23 qS23 => ?_)
        have G_S23 := zz_G.put G_S qS23 (-128) 127 rfl (by omega)
        have F_S23 := zz_fr.putc F_S qS23 rfl
        refine zz_iinc [some (.ref (zz_rf 6 t)), some (.ref 1032), some (.ref (zz_rf 6 p1)), some (.ref (zz_rf 6 p2)), some (zi x4), some (zi x5), some (zi (x6 + 1)), some (zi v10)] zd_4_18_84 rfl rfl ?_
        refine zz_goto zd_4_18_87 ?_
        refine zz_less (ls1 := [some (.ref (zz_rf 6 t)), some (.ref 1032), some (.ref (zz_rf 6 p1)), some (.ref (zz_rf 6 p2)), some (zi x4), some (zi x5), some (zi (x6 + 1))]) ⟨rfl, ⟨rfl, ⟨rfl, ⟨rfl, ⟨rfl, ⟨rfl, ⟨rfl, trivial⟩⟩⟩⟩⟩⟩⟩ ?_
        exact k27 x4 x5 (x6 + 1) S23 G_S23 F_S23 (by omega) (by omega) (by omega) (by omega) (by omega) (by omega) (by omega)
theorem zi_fillCells_4_18 {g : mm_G} {l : Launch} (t : Int) (p1 : Int) (p2 : Int) (S0 : zz_S) (n : Nat) (hn : zz_end ≤ n) (G_S0 : zz_G S0) (ht : 0 ≤ t ∧ t ≤ 23) (hp1 : 0 ≤ p1 ∧ p1 ≤ 23) (hp2 : 0 ≤ p2 ∧ p2 ≤ 23) : ∀ N : Nat, (∀ (x4 : Int) (S : zz_S), zz_G S → zz_fr [] [1032] (fun _ _ => False) S0 S → (0 ≤ x4 ∧ x4 ≤ 2147483647) → (51539607552 + (S0 (zz_rf 6 t) 10 - x4).toNat) * 1208925819614629174706176 + 1208925819614629174706175 < N → zz_E g l zy_fillCells_4_18 zr_fillCells_4_18 (zz_QV n (zp_fillCells_4_18 t p1 p2 S0)) S n 3 [some (.ref (zz_rf 6 t)), some (.ref 1032), some (.ref (zz_rf 6 p1)), some (.ref (zz_rf 6 p2)), some (zi x4)] [] 0 0) ∧ (∀ (x4 : Int) (x5 : Int) (S : zz_S), zz_G S → zz_fr [] [1032] (fun _ _ => False) S0 S → (0 ≤ x4 ∧ x4 ≤ 2147483647) → (0 ≤ x5 ∧ x5 ≤ 2147483647) → (x4 < S0 (zz_rf 6 t) 10) → (51539607552 + (S0 (zz_rf 6 t) 10 - x4).toNat) * 1208925819614629174706176 + (34359738368 + (S0 (zz_rf 6 t) 11 - x5).toNat) * 1099511627776 + 1099511627775 < N → zz_E g l zy_fillCells_4_18 zr_fillCells_4_18 (zz_QV n (zp_fillCells_4_18 t p1 p2 S0)) S n 15 [some (.ref (zz_rf 6 t)), some (.ref 1032), some (.ref (zz_rf 6 p1)), some (.ref (zz_rf 6 p2)), some (zi x4), some (zi x5)] [] 0 0) ∧ (∀ (x4 : Int) (x5 : Int) (x6 : Int) (S : zz_S), zz_G S → zz_fr [] [1032] (fun _ _ => False) S0 S → (0 ≤ x4 ∧ x4 ≤ 2147483647) → (0 ≤ x5 ∧ x5 ≤ 2147483647) → (0 ≤ x6 ∧ x6 ≤ 2147483647) → (x4 < S0 (zz_rf 6 t) 10) → (x4 < S0 (zz_rf 6 t) 10) → (x5 < S0 (zz_rf 6 t) 11) → (51539607552 + (S0 (zz_rf 6 t) 10 - x4).toNat) * 1208925819614629174706176 + (34359738368 + (S0 (zz_rf 6 t) 11 - x5).toNat) * 1099511627776 + (17179869184 + (S0 (zz_rf 6 t) 12 - x6).toNat) < N → zz_E g l zy_fillCells_4_18 zr_fillCells_4_18 (zz_QV n (zp_fillCells_4_18 t p1 p2 S0)) S n 27 [some (.ref (zz_rf 6 t)), some (.ref 1032), some (.ref (zz_rf 6 p1)), some (.ref (zz_rf 6 p2)), some (zi x4), some (zi x5), some (zi x6)] [] 0 0) := by
  intro N
  induction N with
  | zero => exact ⟨fun x4 S _ _ _ h => absurd h (Nat.not_lt_zero _), fun x4 x5 S _ _ _ _ _ h => absurd h (Nat.not_lt_zero _), fun x4 x5 x6 S _ _ _ _ _ _ _ _ h => absurd h (Nat.not_lt_zero _)⟩
  | succ N ih =>
    exact ⟨fun x4 S a b j0 hR => zb_fillCells_4_18_3 t p1 p2 S0 n hn G_S0 ht hp1 hp2 x4 S a b j0 _ rfl (fun x4 x5 S a b j0 j1 j2 h => ih.2.1 x4 x5 S a b j0 j1 j2 (Nat.lt_of_lt_of_le h (Nat.le_of_lt_succ hR))),
      fun x4 x5 S a b j0 j1 j2 hR => zb_fillCells_4_18_15 t p1 p2 S0 n hn G_S0 ht hp1 hp2 x4 x5 S a b j0 j1 j2 _ rfl (fun x4 S a b j0 h => ih.1 x4 S a b j0 (Nat.lt_of_lt_of_le h (Nat.le_of_lt_succ hR))) (fun x4 x5 x6 S a b j0 j1 j2 j3 j4 j5 h => ih.2.2 x4 x5 x6 S a b j0 j1 j2 j3 j4 j5 (Nat.lt_of_lt_of_le h (Nat.le_of_lt_succ hR))),
      fun x4 x5 x6 S a b j0 j1 j2 j3 j4 j5 hR => zb_fillCells_4_18_27 t p1 p2 S0 n hn G_S0 ht hp1 hp2 x4 x5 x6 S a b j0 j1 j2 j3 j4 j5 _ rfl (fun x4 x5 S a b j0 j1 j2 h => ih.2.1 x4 x5 S a b j0 j1 j2 (Nat.lt_of_lt_of_le h (Nat.le_of_lt_succ hR))) (fun x4 x5 x6 S a b j0 j1 j2 j3 j4 j5 h => ih.2.2 x4 x5 x6 S a b j0 j1 j2 j3 j4 j5 (Nat.lt_of_lt_of_le h (Nat.le_of_lt_succ hR)))⟩
theorem zc_fillCells_4_18 {g : mm_G} {l : Launch} (t : Int) (p1 : Int) (p2 : Int) (S0 : zz_S) (n : Nat) (hn : zz_end ≤ n) (G_S0 : zz_G S0) (ht : 0 ≤ t ∧ t ≤ 23) (hp1 : 0 ≤ p1 ∧ p1 ≤ 23) (hp2 : 0 ≤ p2 ∧ p2 ≤ 23) : mm_Met g l zy_fillCells_4_18 zr_fillCells_4_18 [.ref (zz_rf 6 t), .ref 1032, .ref (zz_rf 6 p1), .ref (zz_rf 6 p2)] (zz_M S0 n) n (zz_QV n (zp_fillCells_4_18 t p1 p2 S0)) := by
  refine zz_enter (by decide) (Nat.le_of_ble_eq_true rfl) (zz_less (ls1 := [some (.ref (zz_rf 6 t)), some (.ref 1032), some (.ref (zz_rf 6 p1)), some (.ref (zz_rf 6 p2))]) ⟨rfl, ⟨rfl, ⟨rfl, ⟨rfl, trivial⟩⟩⟩⟩ ?_)
  have F_S0 : zz_fr [] [1032] (fun _ _ => False) S0 S0 := zz_fr.refl
  have k3 : ∀ (x4 : Int) (S : zz_S), zz_G S → zz_fr [] [1032] (fun _ _ => False) S0 S → (0 ≤ x4 ∧ x4 ≤ 2147483647) → zz_E g l zy_fillCells_4_18 zr_fillCells_4_18 (zz_QV n (zp_fillCells_4_18 t p1 p2 S0)) S n 3 [some (.ref (zz_rf 6 t)), some (.ref 1032), some (.ref (zz_rf 6 p1)), some (.ref (zz_rf 6 p2)), some (zi x4)] [] 0 0 := fun x4 S a b j0 => (zi_fillCells_4_18 (g := g) (l := l) t p1 p2 S0 n hn G_S0 ht hp1 hp2 _).1 x4 S a b j0 (Nat.lt_succ_self _)
  have b_p1 := zz_rf6 (z := p1) (by omega)
  have b_p2 := zz_rf6 (z := p2) (by omega)
  have b_t := zz_rf6 (z := t) (by omega)
  refine zz_iconst zd_4_18_0 ?_
  refine zz_istore [some (.ref (zz_rf 6 t)), some (.ref 1032), some (.ref (zz_rf 6 p1)), some (.ref (zz_rf 6 p2)), some (zi 0)] zd_4_18_1 (by decide) rfl ?_
  refine zz_less (ls1 := [some (.ref (zz_rf 6 t)), some (.ref 1032), some (.ref (zz_rf 6 p1)), some (.ref (zz_rf 6 p2)), some (zi 0)]) ⟨rfl, ⟨rfl, ⟨rfl, ⟨rfl, ⟨rfl, trivial⟩⟩⟩⟩⟩ ?_
  exact k3 0 S0 G_S0 F_S0 (by omega)
theorem zk_Network_72 : mm_Vl "TensorForge$Network" 72 2 3 zy_fillCells_4_18 := ⟨zyw_fillCells_4_18, (R_Layer, F_Layer, 15), rfl, mm_tb_1 862 (by decide +kernel) rfl, mm_tb_1 863 (by decide +kernel) rfl, mm_tb_1 864 (by decide +kernel) rfl⟩
-- TensorForge$Network settle ([B)V
abbrev zr_settle_7_9 : Room := { frames := 5, cells := 0, slots := 0, locals := 96 }
def zp_settle_7_9 (t : Int) (S0 : zz_S) : zz_S → Prop := fun S => zz_G S ∧ zz_fr [] [1032] (fun _ _ => False) S0 S
theorem zb_settle_7_9_2 {g : mm_G} {l : Launch} (t : Int) (S0 : zz_S) (n : Nat) (hn : zz_end ≤ n) (G_S0 : zz_G S0) (ht : 0 ≤ t ∧ t ≤ 1) (x2 : Int) (S : zz_S) (G_S : zz_G S) (F_S : zz_fr [] [1032] (fun _ _ => False) S0 S) (i2_0 : 1 ≤ x2 ∧ x2 ≤ 11) (R : Nat) (hR : (S (zz_rf 3 t) 1 - x2).toNat = R) (k2 : ∀ (x2 : Int) (S : zz_S), zz_G S → zz_fr [] [1032] (fun _ _ => False) S0 S → (1 ≤ x2 ∧ x2 ≤ 11) → (S (zz_rf 3 t) 1 - x2).toNat < R → zz_E g l zy_settle_7_9 zr_settle_7_9 (zz_QV n (zp_settle_7_9 t S0)) S n 2 [some (.ref (zz_rf 3 t)), some (.ref 1032), some (zi x2)] [] 0 0) : zz_E g l zy_settle_7_9 zr_settle_7_9 (zz_QV n (zp_settle_7_9 t S0)) S n 2 [some (.ref (zz_rf 3 t)), some (.ref 1032), some (zi x2)] [] 0 0 := by
  have b_t := zz_rf3 (z := t) (by omega)
  refine zz_iload_n (x := x2) rfl zd_7_9_2 ?_
  refine zz_aload_n (x := zz_rf 3 t) rfl zd_7_9_3 ?_
  have g1 := zz_G.r G_S0 (zz_rf 3 t) 1 1 11 (zR_k3_1 (by omega)) (zB_k3 (by omega))
  refine zz_geti (z := S0 (zz_rf 3 t) 1) zd_7_9_4 zf_Network_16 (zT_k3 (by omega)) rfl (zN_k3 hn (by omega)) (zz_rc F_S (zP_k3 (by omega) rfl) (zQ_k3 (by omega) rfl) (fun h => h) rfl) ?_
  refine zz_icmp_ge (by omega) (by omega) zd_7_9_7 (fun c2 => ?_) (fun c2 => ?_)
  · exact zz_vret zd_7_9_68 rfl (Nat.zero_le _) (Nat.zero_le _) ⟨_, rfl, G_S, F_S⟩
  · refine zz_aload_n (x := zz_rf 3 t) rfl zd_7_9_10 ?_
    refine zz_getr (kd := 0) (z := ((zz_rf 3 t + 1 : Nat) : Int)) zd_7_9_11 zf_Network_11 (zT_k3 (by omega)) rfl (zN_k3 hn (by omega)) (zE_k3a G_S (by omega)) (Int.natCast_nonneg _) (zz_rf 3 t + 1) (Int.toNat_natCast _) ?_
    refine zz_iload_n (x := x2) rfl zd_7_9_14 ?_
    refine zz_aald (kd := 4) (z := 12 * t + x2) zd_7_9_15 (zT_k3a (by omega)) rfl (zN_k3a hn (by omega)) (by decide) (by omega) (zE_lay G_S (by omega) (by omega)) (by omega) (zz_rf 6 (12 * t + x2)) rfl ?_
    refine zz_astore_n [some (.ref (zz_rf 3 t)), some (.ref 1032), some (zi x2), some (.ref (zz_rf 6 (12 * t + x2)))] zd_7_9_16 (by decide) rfl ?_
    refine zz_aload_n (x := zz_rf 3 t) rfl zd_7_9_17 ?_
    refine zz_aload_n (x := zz_rf 6 (12 * t + x2)) rfl zd_7_9_18 ?_
    have g3 := zz_G.r G_S0 (zz_rf 6 (12 * t + x2)) 1 (-2147483648) 2147483647 (zR_k6_1 (by omega)) (zB_k6 (by omega))
    refine zz_geti (z := S0 (zz_rf 6 (12 * t + x2)) 1) zd_7_9_19 zf_Network_38 (zT_k6 (by omega)) rfl (zN_k6 hn (by omega)) (zz_rc F_S (zP_k6 (by omega) rfl) (zQ_k6 (by omega) rfl) (fun h => h) rfl) ?_
    have e4 : S (zz_rf 3 t) 1 = S0 (zz_rf 3 t) 1 := (zz_rc F_S (zP_k3 (by omega) rfl) (zQ_k3 (by omega) rfl) (fun h => h) rfl)
    refine zz_callVI [zi (S0 (zz_rf 6 (12 * t + x2)) 1)] zd_7_9_22 zk_Network_41 (zT_k3 (by omega)) (zN_k3 hn (by omega)) rfl rfl ⟨Nat.le_of_ble_eq_true rfl, Nat.le_of_ble_eq_true rfl⟩ ⟨rfl, rfl⟩ (Nat.zero_le _) (Nat.zero_le _) (zc_has_7_5 t (S0 (zz_rf 6 (12 * t + x2)) 1) S n hn G_S (by omega) (by omega)) (fun v6 S5 hP => ?_)
    obtain ⟨rfl, o7, o8⟩ := hP
    rcases (by omega : v6 = 0 ∨ v6 = 1) with rfl | rfl
    · refine zz_if_eq (by omega) zd_7_9_25 (fun c9 => ?_) (fun c9 => ?_)
      · refine zz_iinc [some (.ref (zz_rf 3 t)), some (.ref 1032), some (zi (x2 + 1)), some (.ref (zz_rf 6 (12 * t + x2)))] zd_7_9_62 rfl rfl ?_
        refine zz_goto zd_7_9_65 ?_
        refine zz_less (ls1 := [some (.ref (zz_rf 3 t)), some (.ref 1032), some (zi (x2 + 1))]) ⟨rfl, ⟨rfl, ⟨rfl, trivial⟩⟩⟩ ?_
        exact k2 (x2 + 1) S G_S F_S (by omega) (by omega)
      · exfalso; omega
    · refine zz_if_eq (by omega) zd_7_9_25 (fun c10 => ?_) (fun c10 => ?_)
      · exfalso; omega
      · refine zz_aload_n (x := zz_rf 3 t) rfl zd_7_9_28 ?_
        refine zz_aload_n (x := zz_rf 6 (12 * t + x2)) rfl zd_7_9_29 ?_
        have g11 := zz_G.r G_S0 (zz_rf 6 (12 * t + x2)) 2 (-2147483648) 2147483647 (zR_k6_2 (by omega)) (zB_k6 (by omega))
        refine zz_geti (z := S0 (zz_rf 6 (12 * t + x2)) 2) zd_7_9_30 zf_Network_45 (zT_k6 (by omega)) rfl (zN_k6 hn (by omega)) (zz_rc F_S (zP_k6 (by omega) rfl) (zQ_k6 (by omega) rfl) (fun h => h) rfl) ?_
        refine zz_callVI [zi (S0 (zz_rf 6 (12 * t + x2)) 2)] zd_7_9_33 zk_Network_41 (zT_k3 (by omega)) (zN_k3 hn (by omega)) rfl rfl ⟨Nat.le_of_ble_eq_true rfl, Nat.le_of_ble_eq_true rfl⟩ ⟨rfl, rfl⟩ (Nat.zero_le _) (Nat.zero_le _) (zc_has_7_5 t (S0 (zz_rf 6 (12 * t + x2)) 2) S n hn G_S (by omega) (by omega)) (fun v13 S12 hP => ?_)
        obtain ⟨rfl, o14, o15⟩ := hP
        rcases (by omega : v13 = 0 ∨ v13 = 1) with rfl | rfl
        · refine zz_if_eq (by omega) zd_7_9_36 (fun c16 => ?_) (fun c16 => ?_)
          · refine zz_iinc [some (.ref (zz_rf 3 t)), some (.ref 1032), some (zi (x2 + 1)), some (.ref (zz_rf 6 (12 * t + x2)))] zd_7_9_62 rfl rfl ?_
            refine zz_goto zd_7_9_65 ?_
            refine zz_less (ls1 := [some (.ref (zz_rf 3 t)), some (.ref 1032), some (zi (x2 + 1))]) ⟨rfl, ⟨rfl, ⟨rfl, trivial⟩⟩⟩ ?_
            exact k2 (x2 + 1) S G_S F_S (by omega) (by omega)
          · exfalso; omega
        · refine zz_if_eq (by omega) zd_7_9_36 (fun c17 => ?_) (fun c17 => ?_)
          · exfalso; omega
          · refine zz_aload_n (x := zz_rf 6 (12 * t + x2)) rfl zd_7_9_39 ?_
            refine zz_aload_n (x := 1032) rfl zd_7_9_40 ?_
            refine zz_aload_n (x := zz_rf 3 t) rfl zd_7_9_41 ?_
            refine zz_getr (kd := 0) (z := ((zz_rf 3 t + 1 : Nat) : Int)) zd_7_9_42 zf_Network_11 (zT_k3 (by omega)) rfl (zN_k3 hn (by omega)) (zE_k3a G_S (by omega)) (Int.natCast_nonneg _) (zz_rf 3 t + 1) (Int.toNat_natCast _) ?_
            refine zz_aload_n (x := zz_rf 6 (12 * t + x2)) rfl zd_7_9_45 ?_
            refine zz_geti (z := S0 (zz_rf 6 (12 * t + x2)) 1) zd_7_9_46 zf_Network_38 (zT_k6 (by omega)) rfl (zN_k6 hn (by omega)) (zz_rc F_S (zP_k6 (by omega) rfl) (zQ_k6 (by omega) rfl) (fun h => h) rfl) ?_
            refine zz_aald (kd := 4) (z := 12 * t + (S0 (zz_rf 6 (12 * t + x2)) 1)) zd_7_9_49 (zT_k3a (by omega)) rfl (zN_k3a hn (by omega)) (by decide) (by omega) (zE_lay G_S (by omega) (by omega)) (by omega) (zz_rf 6 (12 * t + (S0 (zz_rf 6 (12 * t + x2)) 1))) rfl ?_
            refine zz_aload_n (x := zz_rf 3 t) rfl zd_7_9_50 ?_
            refine zz_getr (kd := 0) (z := ((zz_rf 3 t + 1 : Nat) : Int)) zd_7_9_51 zf_Network_11 (zT_k3 (by omega)) rfl (zN_k3 hn (by omega)) (zE_k3a G_S (by omega)) (Int.natCast_nonneg _) (zz_rf 3 t + 1) (Int.toNat_natCast _) ?_
            refine zz_aload_n (x := zz_rf 6 (12 * t + x2)) rfl zd_7_9_54 ?_
            refine zz_geti (z := S0 (zz_rf 6 (12 * t + x2)) 2) zd_7_9_55 zf_Network_45 (zT_k6 (by omega)) rfl (zN_k6 hn (by omega)) (zz_rc F_S (zP_k6 (by omega) rfl) (zQ_k6 (by omega) rfl) (fun h => h) rfl) ?_
            refine zz_aald (kd := 4) (z := 12 * t + (S0 (zz_rf 6 (12 * t + x2)) 2)) zd_7_9_58 (zT_k3a (by omega)) rfl (zN_k3a hn (by omega)) (by decide) (by omega) (zE_lay G_S (by omega) (by omega)) (by omega) (zz_rf 6 (12 * t + (S0 (zz_rf 6 (12 * t + x2)) 2))) rfl ?_
            refine zz_callVV [.ref 1032, .ref (zz_rf 6 (12 * t + (S0 (zz_rf 6 (12 * t + x2)) 1))), .ref (zz_rf 6 (12 * t + (S0 (zz_rf 6 (12 * t + x2)) 2)))] zd_7_9_59 zk_Network_72 (zT_k6 (by omega)) (zN_k6 hn (by omega)) rfl rfl ⟨Nat.le_of_ble_eq_true rfl, Nat.le_of_ble_eq_true rfl⟩ ⟨rfl, rfl⟩ (Nat.zero_le _) (Nat.zero_le _) (zc_fillCells_4_18 (12 * t + x2) (12 * t + (S0 (zz_rf 6 (12 * t + x2)) 1)) (12 * t + (S0 (zz_rf 6 (12 * t + x2)) 2)) S n hn G_S (by omega) (by omega) (by omega)) (fun S18 hP => ?_)
            obtain ⟨G_S18, fS18⟩ := hP
            have F_S18 := zz_fr.trans F_S fS18 rfl zz_nv
            refine zz_iinc [some (.ref (zz_rf 3 t)), some (.ref 1032), some (zi (x2 + 1)), some (.ref (zz_rf 6 (12 * t + x2)))] zd_7_9_62 rfl rfl ?_
            refine zz_goto zd_7_9_65 ?_
            have e20 : S18 (zz_rf 3 t) 1 = S0 (zz_rf 3 t) 1 := (zz_rc fS18 (zP_k3 (by omega) rfl) (zQ_k3 (by omega) rfl) (fun h => h) (zz_rc F_S (zP_k3 (by omega) rfl) (zQ_k3 (by omega) rfl) (fun h => h) rfl))
            refine zz_less (ls1 := [some (.ref (zz_rf 3 t)), some (.ref 1032), some (zi (x2 + 1))]) ⟨rfl, ⟨rfl, ⟨rfl, trivial⟩⟩⟩ ?_
            exact k2 (x2 + 1) S18 G_S18 F_S18 (by omega) (by omega)
theorem zi_settle_7_9 {g : mm_G} {l : Launch} (t : Int) (S0 : zz_S) (n : Nat) (hn : zz_end ≤ n) (G_S0 : zz_G S0) (ht : 0 ≤ t ∧ t ≤ 1) : ∀ N : Nat, (∀ (x2 : Int) (S : zz_S), zz_G S → zz_fr [] [1032] (fun _ _ => False) S0 S → (1 ≤ x2 ∧ x2 ≤ 11) → (S (zz_rf 3 t) 1 - x2).toNat < N → zz_E g l zy_settle_7_9 zr_settle_7_9 (zz_QV n (zp_settle_7_9 t S0)) S n 2 [some (.ref (zz_rf 3 t)), some (.ref 1032), some (zi x2)] [] 0 0) := by
  intro N
  induction N with
  | zero => exact fun x2 S _ _ _ h => absurd h (Nat.not_lt_zero _)
  | succ N ih =>
    exact fun x2 S a b j0 hR => zb_settle_7_9_2 t S0 n hn G_S0 ht x2 S a b j0 _ rfl (fun x2 S a b j0 h => ih x2 S a b j0 (Nat.lt_of_lt_of_le h (Nat.le_of_lt_succ hR)))
theorem zc_settle_7_9 {g : mm_G} {l : Launch} (t : Int) (S0 : zz_S) (n : Nat) (hn : zz_end ≤ n) (G_S0 : zz_G S0) (ht : 0 ≤ t ∧ t ≤ 1) : mm_Met g l zy_settle_7_9 zr_settle_7_9 [.ref (zz_rf 3 t), .ref 1032] (zz_M S0 n) n (zz_QV n (zp_settle_7_9 t S0)) := by
  refine zz_enter (by decide) (Nat.le_of_ble_eq_true rfl) (zz_less (ls1 := [some (.ref (zz_rf 3 t)), some (.ref 1032)]) ⟨rfl, ⟨rfl, trivial⟩⟩ ?_)
  have F_S0 : zz_fr [] [1032] (fun _ _ => False) S0 S0 := zz_fr.refl
  have k2 : ∀ (x2 : Int) (S : zz_S), zz_G S → zz_fr [] [1032] (fun _ _ => False) S0 S → (1 ≤ x2 ∧ x2 ≤ 11) → zz_E g l zy_settle_7_9 zr_settle_7_9 (zz_QV n (zp_settle_7_9 t S0)) S n 2 [some (.ref (zz_rf 3 t)), some (.ref 1032), some (zi x2)] [] 0 0 := fun x2 S a b j0 => (zi_settle_7_9 (g := g) (l := l) t S0 n hn G_S0 ht _) x2 S a b j0 (Nat.lt_succ_self _)
  have b_t := zz_rf3 (z := t) (by omega)
  refine zz_iconst zd_7_9_0 ?_
  refine zz_istore_n [some (.ref (zz_rf 3 t)), some (.ref 1032), some (zi 1)] zd_7_9_1 (by decide) rfl ?_
  refine zz_less (ls1 := [some (.ref (zz_rf 3 t)), some (.ref 1032), some (zi 1)]) ⟨rfl, ⟨rfl, ⟨rfl, trivial⟩⟩⟩ ?_
  exact k2 1 S0 G_S0 F_S0 (by omega)
theorem zk_TF_292 : mm_Vl "TensorForge" 292 1 1 zy_settle_7_9 := ⟨zyw_settle_7_9, (R_Network, F_Network, 2), rfl, mm_tb_1 854 (by decide +kernel) rfl, mm_tb_1 855 (by decide +kernel) rfl, mm_tb_1 856 (by decide +kernel) rfl⟩
theorem zg_1_24_14 : zq_at zy_reckon_1_24.2.1 14 177 := by decide +kernel
theorem zd_1_24_14 : zz_D zy_reckon_1_24 14 (.return_) 1 15 := ⟨zq_177 zg_1_24_14, rfl⟩

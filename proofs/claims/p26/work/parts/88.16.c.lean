-- TensorForge$Network takeSpots ()V
abbrev zr_takeSpots_7_11 : Room := { frames := 0, cells := 0, slots := 0, locals := 0 }
def zp_takeSpots_7_11 (t : Int) (S0 : zz_S) : zz_S → Prop := fun S => zz_G S ∧ zz_fr [(1003, 13), (1004, 13), (1005, 13), (1006, 13), (1007, 13), (1008, 13), (1009, 13), (1010, 13), (1011, 13), (1012, 13), (1013, 13), (1014, 13), (1017, 13), (1018, 13), (1019, 13), (1020, 13), (1021, 13), (1022, 13), (1023, 13), (1024, 13), (1025, 13), (1026, 13), (1027, 13), (1028, 13)] [] (fun _ _ => False) S0 S ∧ (∀ k : Int, 0 ≤ k → k < S0 (zz_rf 3 t) 1 → S (zz_rf 6 (12 * t + k)) 13 = S0 (zz_rf 6 (12 * t + k)) 14)
theorem zb_takeSpots_7_11_2 {g : mm_G} {l : Launch} (t : Int) (S0 : zz_S) (n : Nat) (hn : zz_end ≤ n) (G_S0 : zz_G S0) (ht : 0 ≤ t ∧ t ≤ 1) (x1 : Int) (S : zz_S) (G_S : zz_G S) (F_S : zz_fr [(1003, 13), (1004, 13), (1005, 13), (1006, 13), (1007, 13), (1008, 13), (1009, 13), (1010, 13), (1011, 13), (1012, 13), (1013, 13), (1014, 13), (1017, 13), (1018, 13), (1019, 13), (1020, 13), (1021, 13), (1022, 13), (1023, 13), (1024, 13), (1025, 13), (1026, 13), (1027, 13), (1028, 13)] [] (fun _ _ => False) S0 S) (i2_0 : 0 ≤ x1 ∧ x1 ≤ 11) (i2_1 : ∀ k : Int, 0 ≤ k → k < x1 → S (zz_rf 6 (12 * t + k)) 13 = S0 (zz_rf 6 (12 * t + k)) 14) (R : Nat) (hR : (S0 (zz_rf 3 t) 1 - x1).toNat = R) (k2 : ∀ (x1 : Int) (S : zz_S), zz_G S → zz_fr [(1003, 13), (1004, 13), (1005, 13), (1006, 13), (1007, 13), (1008, 13), (1009, 13), (1010, 13), (1011, 13), (1012, 13), (1013, 13), (1014, 13), (1017, 13), (1018, 13), (1019, 13), (1020, 13), (1021, 13), (1022, 13), (1023, 13), (1024, 13), (1025, 13), (1026, 13), (1027, 13), (1028, 13)] [] (fun _ _ => False) S0 S → (0 ≤ x1 ∧ x1 ≤ 11) → (∀ k : Int, 0 ≤ k → k < x1 → S (zz_rf 6 (12 * t + k)) 13 = S0 (zz_rf 6 (12 * t + k)) 14) → (S0 (zz_rf 3 t) 1 - x1).toNat < R → zz_E g l zy_takeSpots_7_11 zr_takeSpots_7_11 (zz_QV n (zp_takeSpots_7_11 t S0)) S n 2 [some (.ref (zz_rf 3 t)), some (zi x1)] [] 0 0) : zz_E g l zy_takeSpots_7_11 zr_takeSpots_7_11 (zz_QV n (zp_takeSpots_7_11 t S0)) S n 2 [some (.ref (zz_rf 3 t)), some (zi x1)] [] 0 0 := by
  have b_t := zz_rf3 (z := t) (by omega)
  refine zz_iload_n (x := x1) rfl zd_7_11_2 ?_
  refine zz_aload_n (x := zz_rf 3 t) rfl zd_7_11_3 ?_
  have g1 := zz_G.r G_S0 (zz_rf 3 t) 1 1 11 (zR_k3_1 (by omega)) (zB_k3 (by omega))
  refine zz_geti (z := S0 (zz_rf 3 t) 1) zd_7_11_4 zf_Network_16 (zT_k3 (by omega)) rfl (zN_k3 hn (by omega)) (zz_rc F_S (zP_k3 (by omega) rfl) (zQ_k3 (by omega) rfl) (fun h => h) rfl) ?_
  refine zz_icmp_ge (by omega) (by omega) zd_7_11_7 (fun c2 => ?_) (fun c2 => ?_)
  · exact zz_vret zd_7_11_34 rfl (Nat.zero_le _) (Nat.zero_le _) ⟨_, rfl, G_S, F_S, (fun k h1 h2 => i2_1 k h1 (by omega))⟩
  · refine zz_aload_n (x := zz_rf 3 t) rfl zd_7_11_10 ?_
    refine zz_getr (kd := 0) (z := ((zz_rf 3 t + 1 : Nat) : Int)) zd_7_11_11 zf_Network_11 (zT_k3 (by omega)) rfl (zN_k3 hn (by omega)) (zE_k3a G_S (by omega)) (Int.natCast_nonneg _) (zz_rf 3 t + 1) (Int.toNat_natCast _) ?_
    refine zz_iload_n (x := x1) rfl zd_7_11_14 ?_
    refine zz_aald (kd := 4) (z := 12 * t + x1) zd_7_11_15 (zT_k3a (by omega)) rfl (zN_k3a hn (by omega)) (by decide) (by omega) (zE_lay G_S (by omega) (by omega)) (by omega) (zz_rf 6 (12 * t + x1)) rfl ?_
    refine zz_aload_n (x := zz_rf 3 t) rfl zd_7_11_16 ?_
    refine zz_getr (kd := 0) (z := ((zz_rf 3 t + 1 : Nat) : Int)) zd_7_11_17 zf_Network_11 (zT_k3 (by omega)) rfl (zN_k3 hn (by omega)) (zE_k3a G_S (by omega)) (Int.natCast_nonneg _) (zz_rf 3 t + 1) (Int.toNat_natCast _) ?_
    refine zz_iload_n (x := x1) rfl zd_7_11_20 ?_
    refine zz_aald (kd := 4) (z := 12 * t + x1) zd_7_11_21 (zT_k3a (by omega)) rfl (zN_k3a hn (by omega)) (by decide) (by omega) (zE_lay G_S (by omega) (by omega)) (by omega) (zz_rf 6 (12 * t + x1)) rfl ?_
    have g3 := zz_G.r G_S (zz_rf 6 (12 * t + x1)) 14 (-2147483648) 2147483647 (zR_k6_14 (by omega)) (zB_k6 (by omega))
    refine zz_geti (z := S (zz_rf 6 (12 * t + x1)) 14) zd_7_11_22 zf_Network_76 (zT_k6 (by omega)) rfl (zN_k6 hn (by omega)) rfl ?_
    refine zz_puti zd_7_11_25 zf_Network_63 (zT_k6 (by omega)) rfl (zN_k6 hn (by omega)) (fun S4 qS4 => ?_)
    have G_S4 := zz_G.put G_S qS4 (-2147483648) 2147483647 (zR_k6_13 (by omega)) (by omega)
    have F_S4 := zz_fr.puts F_S qS4 (zMs_k6 (by omega) rfl)
    refine zz_iinc [some (.ref (zz_rf 3 t)), some (zi (x1 + 1))] zd_7_11_28 rfl rfl ?_
    refine zz_goto zd_7_11_31 ?_
    refine zz_less (ls1 := [some (.ref (zz_rf 3 t)), some (zi (x1 + 1))]) ⟨rfl, ⟨rfl, trivial⟩⟩ ?_
    exact k2 (x1 + 1) S4 G_S4 F_S4 (by omega) (fun k h1 h2 => by have a_ := zz_rf6 (z := 12 * t + x1) (by omega); have b_ := zz_rf6 (z := 12 * t + k) (by omega); rcases (by omega : k = x1 ∨ k < x1) with q | q; rw [q]; exact (zz_rs qS4).trans (by first | rfl | exact F_S _ _ (zn_nsl (c := 13) rfl (by decide)) rfl (fun h => h)); exact zz_ro qS4 (fun h => by omega) (i2_1 k h1 q)) (by omega)
theorem zi_takeSpots_7_11 {g : mm_G} {l : Launch} (t : Int) (S0 : zz_S) (n : Nat) (hn : zz_end ≤ n) (G_S0 : zz_G S0) (ht : 0 ≤ t ∧ t ≤ 1) : ∀ N : Nat, (∀ (x1 : Int) (S : zz_S), zz_G S → zz_fr [(1003, 13), (1004, 13), (1005, 13), (1006, 13), (1007, 13), (1008, 13), (1009, 13), (1010, 13), (1011, 13), (1012, 13), (1013, 13), (1014, 13), (1017, 13), (1018, 13), (1019, 13), (1020, 13), (1021, 13), (1022, 13), (1023, 13), (1024, 13), (1025, 13), (1026, 13), (1027, 13), (1028, 13)] [] (fun _ _ => False) S0 S → (0 ≤ x1 ∧ x1 ≤ 11) → (∀ k : Int, 0 ≤ k → k < x1 → S (zz_rf 6 (12 * t + k)) 13 = S0 (zz_rf 6 (12 * t + k)) 14) → (S0 (zz_rf 3 t) 1 - x1).toNat < N → zz_E g l zy_takeSpots_7_11 zr_takeSpots_7_11 (zz_QV n (zp_takeSpots_7_11 t S0)) S n 2 [some (.ref (zz_rf 3 t)), some (zi x1)] [] 0 0) := by
  intro N
  induction N with
  | zero => exact fun x1 S _ _ _ _ h => absurd h (Nat.not_lt_zero _)
  | succ N ih =>
    exact fun x1 S a b j0 j1 hR => zb_takeSpots_7_11_2 t S0 n hn G_S0 ht x1 S a b j0 j1 _ rfl (fun x1 S a b j0 j1 h => ih x1 S a b j0 j1 (Nat.lt_of_lt_of_le h (Nat.le_of_lt_succ hR)))
theorem zc_takeSpots_7_11 {g : mm_G} {l : Launch} (t : Int) (S0 : zz_S) (n : Nat) (hn : zz_end ≤ n) (G_S0 : zz_G S0) (ht : 0 ≤ t ∧ t ≤ 1) : mm_Met g l zy_takeSpots_7_11 zr_takeSpots_7_11 [.ref (zz_rf 3 t)] (zz_M S0 n) n (zz_QV n (zp_takeSpots_7_11 t S0)) := by
  refine zz_enter (by decide) (Nat.le_of_ble_eq_true rfl) (zz_less (ls1 := [some (.ref (zz_rf 3 t))]) ⟨rfl, trivial⟩ ?_)
  have F_S0 : zz_fr [(1003, 13), (1004, 13), (1005, 13), (1006, 13), (1007, 13), (1008, 13), (1009, 13), (1010, 13), (1011, 13), (1012, 13), (1013, 13), (1014, 13), (1017, 13), (1018, 13), (1019, 13), (1020, 13), (1021, 13), (1022, 13), (1023, 13), (1024, 13), (1025, 13), (1026, 13), (1027, 13), (1028, 13)] [] (fun _ _ => False) S0 S0 := zz_fr.refl
  have k2 : ∀ (x1 : Int) (S : zz_S), zz_G S → zz_fr [(1003, 13), (1004, 13), (1005, 13), (1006, 13), (1007, 13), (1008, 13), (1009, 13), (1010, 13), (1011, 13), (1012, 13), (1013, 13), (1014, 13), (1017, 13), (1018, 13), (1019, 13), (1020, 13), (1021, 13), (1022, 13), (1023, 13), (1024, 13), (1025, 13), (1026, 13), (1027, 13), (1028, 13)] [] (fun _ _ => False) S0 S → (0 ≤ x1 ∧ x1 ≤ 11) → (∀ k : Int, 0 ≤ k → k < x1 → S (zz_rf 6 (12 * t + k)) 13 = S0 (zz_rf 6 (12 * t + k)) 14) → zz_E g l zy_takeSpots_7_11 zr_takeSpots_7_11 (zz_QV n (zp_takeSpots_7_11 t S0)) S n 2 [some (.ref (zz_rf 3 t)), some (zi x1)] [] 0 0 := fun x1 S a b j0 j1 => (zi_takeSpots_7_11 (g := g) (l := l) t S0 n hn G_S0 ht _) x1 S a b j0 j1 (Nat.lt_succ_self _)
  have b_t := zz_rf3 (z := t) (by omega)
  refine zz_iconst zd_7_11_0 ?_
  refine zz_istore_n [some (.ref (zz_rf 3 t)), some (zi 0)] zd_7_11_1 (by decide) rfl ?_
  refine zz_less (ls1 := [some (.ref (zz_rf 3 t)), some (zi 0)]) ⟨rfl, ⟨rfl, trivial⟩⟩ ?_
  exact k2 0 S0 G_S0 F_S0 (by omega) (fun k h1 h2 => by omega)
theorem zk_TF_311 : mm_Vl "TensorForge" 311 1 0 zy_takeSpots_7_11 := ⟨zyw_takeSpots_7_11, (R_Network, F_Network, 2), rfl, mm_tb_1 1529 (by decide +kernel) rfl, mm_tb_1 1530 (by decide +kernel) rfl, mm_tb_1 1531 (by decide +kernel) rfl⟩
theorem zk_TF_314 : mm_Vl "TensorForge" 314 1 0 zy_endOfAll_7_8 := ⟨zyw_endOfAll_7_8, (R_Network, F_Network, 2), rfl, mm_tb_1 1533 (by decide +kernel) rfl, mm_tb_1 1010 (by decide +kernel) rfl, mm_tb_1 1011 (by decide +kernel) rfl⟩
theorem zg_1_27_28 : zq_at zy_place_1_27.2.1 28 42 ∧ zq_at zy_place_1_27.2.1 29 180 ∧ zq_at zy_place_1_27.2.1 30 0 ∧ zq_at zy_place_1_27.2.1 31 10 ∧ zq_at zy_place_1_27.2.1 32 182 ∧ zq_at zy_place_1_27.2.1 33 1 ∧ zq_at zy_place_1_27.2.1 34 58 ∧ zq_at zy_place_1_27.2.1 35 172 := by decide +kernel
theorem zd_1_27_28 : zz_D zy_place_1_27 28 (.aload_n 0) 1 29 := ⟨zq_42 zg_1_27_28.1, rfl⟩
theorem zd_1_27_29 : zz_D zy_place_1_27 29 (.getfield 10) 3 32 := ⟨zq_180 zg_1_27_28.2.1 zg_1_27_28.2.2.1 zg_1_27_28.2.2.2.1 rfl, rfl⟩
theorem zd_1_27_32 : zz_D zy_place_1_27 32 (.invokevirtual 314) 3 35 := ⟨zq_182 zg_1_27_28.2.2.2.2.1 zg_1_27_28.2.2.2.2.2.1 zg_1_27_28.2.2.2.2.2.2.1 rfl, rfl⟩
theorem zd_1_27_35 : zz_D zy_place_1_27 35 (.ireturn) 1 36 := ⟨zq_172 zg_1_27_28.2.2.2.2.2.2.2, rfl⟩
-- TensorForge place ()I
abbrev zr_place_1_27 : Room := { frames := 6, cells := 1, slots := 6, locals := 82 }
def zp_place_1_27  (S0 : zz_S) : Int → zz_S → Prop := fun r S => zz_G S ∧ zz_fr [(1003, 13), (1003, 14), (1004, 13), (1004, 14), (1005, 13), (1005, 14), (1006, 13), (1006, 14), (1007, 13), (1007, 14), (1008, 13), (1008, 14), (1009, 13), (1009, 14), (1010, 13), (1010, 14), (1011, 13), (1011, 14), (1012, 13), (1012, 14), (1013, 13), (1013, 14), (1014, 13), (1014, 14), (1017, 13), (1017, 14), (1018, 13), (1018, 14), (1019, 13), (1019, 14), (1020, 13), (1020, 14), (1021, 13), (1021, 14), (1022, 13), (1022, 14), (1023, 13), (1023, 14), (1024, 13), (1024, 14), (1025, 13), (1025, 14), (1026, 13), (1026, 14), (1027, 13), (1027, 14), (1028, 13), (1028, 14)] [] (fun a i => (a = zz_rf 6 (12 * (S0 1000 7) + 0) ∧ i = 14)) S0 S ∧ ((-2147483648) ≤ r ∧ r ≤ 2147483647) ∧ (zn_PP S0 S (S0 1000 7) r)
def zx_place_1_27  (S0 : zz_S) : Nat → zz_S → Prop := fun i S => zz_G S ∧ zz_fr [(1003, 13), (1003, 14), (1004, 13), (1004, 14), (1005, 13), (1005, 14), (1006, 13), (1006, 14), (1007, 13), (1007, 14), (1008, 13), (1008, 14), (1009, 13), (1009, 14), (1010, 13), (1010, 14), (1011, 13), (1011, 14), (1012, 13), (1012, 14), (1013, 13), (1013, 14), (1014, 13), (1014, 14), (1017, 13), (1017, 14), (1018, 13), (1018, 14), (1019, 13), (1019, 14), (1020, 13), (1020, 14), (1021, 13), (1021, 14), (1022, 13), (1022, 14), (1023, 13), (1023, 14), (1024, 13), (1024, 14), (1025, 13), (1025, 14), (1026, 13), (1026, 14), (1027, 13), (1027, 14), (1028, 13), (1028, 14)] [] (fun a i => (a = zz_rf 6 (12 * (S0 1000 7) + 0) ∧ i = 14)) S0 S ∧ (i < 4) ∧ (i = 2) ∧ (zn_PX S0 S (S0 1000 7))
theorem zc_place_1_27 {g : mm_G} {l : Launch}  (S0 : zz_S) (n : Nat) (hn : zz_end ≤ n) (hfl : l.flags = flags0) (G_S0 : zz_G S0)  : mm_Met g l zy_place_1_27 zr_place_1_27 [.ref 1000] (zz_M S0 n) n (zz_XI n (zp_place_1_27  S0) (zx_place_1_27  S0)) := by
  refine zz_enter (by decide) (Nat.le_of_ble_eq_true rfl) (zz_less (ls1 := [some (.ref 1000)]) ⟨rfl, trivial⟩ ?_)
  have F_S0 : zz_fr [(1003, 13), (1003, 14), (1004, 13), (1004, 14), (1005, 13), (1005, 14), (1006, 13), (1006, 14), (1007, 13), (1007, 14), (1008, 13), (1008, 14), (1009, 13), (1009, 14), (1010, 13), (1010, 14), (1011, 13), (1011, 14), (1012, 13), (1012, 14), (1013, 13), (1013, 14), (1014, 13), (1014, 14), (1017, 13), (1017, 14), (1018, 13), (1018, 14), (1019, 13), (1019, 14), (1020, 13), (1020, 14), (1021, 13), (1021, 14), (1022, 13), (1022, 14), (1023, 13), (1023, 14), (1024, 13), (1024, 14), (1025, 13), (1025, 14), (1026, 13), (1026, 14), (1027, 13), (1027, 14), (1028, 13), (1028, 14)] [] (fun a i => (a = zz_rf 6 (12 * (S0 1000 7) + 0) ∧ i = 14)) S0 S0 := zz_fr.refl
  refine zz_aload_n (x := 1000) rfl zd_1_27_0 ?_
  have g1 := zz_G.r G_S0 1000 7 0 1 rfl rfl
  refine zz_getr (kd := 1) (z := S0 1000 7) zd_1_27_1 zf_TF_10 zT_1000 rfl (zz_ltn hn rfl) rfl (by omega) (zz_rf 3 (S0 1000 7)) rfl ?_
  refine zz_callVI [] zd_1_27_4 zk_TF_305 (zT_k3 (by omega)) (zN_k3 hn (by omega)) rfl rfl ⟨Nat.le_of_ble_eq_true rfl, Nat.le_of_ble_eq_true rfl⟩ ⟨rfl, rfl⟩ (Nat.zero_le _) (Nat.zero_le _) (zc_findSpots_7_10 (S0 1000 7) S0 n hn G_S0 (by omega)) (fun v3 S2 hP => ?_)
  obtain ⟨G_S2, fS2, o4, o5⟩ := hP
  have g6 := zz_G.r G_S0 1000 7 0 1 rfl rfl
  have F_S2 := zz_fr.trans F_S0 fS2 rfl (fun a i h => Or.inr (Or.inr (h)))
  have b7 := zz_rf6 (z := (12 * (S0 1000 7) + 0)) (by omega)
  rcases (by omega : v3 = 0 ∨ v3 = 1) with rfl | rfl
  · refine zz_if_ne (by omega) zd_1_27_7 (fun c8 => ?_) (fun c8 => ?_)
    · exfalso; omega
    · exact zz_throwW (i := 2) hfl hn zt_1_27_10 zyw_place_1_27 zxl_TF_126_309_130 (Nat.le_of_ble_eq_true rfl) (Nat.le_of_ble_eq_true rfl) ⟨Nat.le_of_ble_eq_true rfl, Nat.le_of_ble_eq_true rfl⟩ (Or.inr ⟨_, _, rfl, G_S2, F_S2, by omega, by omega, (zn_PXe o5)⟩)
  · refine zz_if_ne (by omega) zd_1_27_7 (fun c9 => ?_) (fun c9 => ?_)
    · refine zz_aload_n (x := 1000) rfl zd_1_27_21 ?_
      refine zz_getr (kd := 1) (z := S0 1000 7) zd_1_27_22 zf_TF_10 zT_1000 rfl (zz_ltn hn rfl) (zz_rc fS2 rfl rfl (by first | decide | omega) rfl) (by omega) (zz_rf 3 (S0 1000 7)) rfl ?_
      have e10 : S2 (zz_rf 3 (S0 1000 7)) 1 = S0 (zz_rf 3 (S0 1000 7)) 1 := (zz_rc fS2 (zP_k3 (by omega) rfl) (zQ_k3 (by omega) rfl) (by have hz_ := zz_rf3 (z := S0 1000 7) (by omega); omega) rfl)
      refine zz_callVV [] zd_1_27_25 zk_TF_311 (zT_k3 (by omega)) (zN_k3 hn (by omega)) rfl rfl ⟨Nat.le_of_ble_eq_true rfl, Nat.le_of_ble_eq_true rfl⟩ ⟨rfl, rfl⟩ (Nat.zero_le _) (Nat.zero_le _) (zc_takeSpots_7_11 (S0 1000 7) S2 n hn G_S2 (by omega)) (fun S11 hP => ?_)
      obtain ⟨G_S11, fS11, o13⟩ := hP
      have F_S11 := zz_fr.trans F_S2 fS11 rfl zz_nv
      refine zz_aload_n (x := 1000) rfl zd_1_27_28 ?_
      refine zz_getr (kd := 1) (z := S0 1000 7) zd_1_27_29 zf_TF_10 zT_1000 rfl (zz_ltn hn rfl) (zz_rc fS11 rfl rfl (fun h => h) (zz_rc fS2 rfl rfl (by first | decide | omega) rfl)) (by omega) (zz_rf 3 (S0 1000 7)) rfl ?_
      refine zz_callVI [] zd_1_27_32 zk_TF_314 (zT_k3 (by omega)) (zN_k3 hn (by omega)) rfl rfl ⟨Nat.le_of_ble_eq_true rfl, Nat.le_of_ble_eq_true rfl⟩ ⟨rfl, rfl⟩ (Nat.zero_le _) (Nat.zero_le _) (zc_endOfAll_7_8 (S0 1000 7) S11 n hn G_S11 (by omega)) (fun v15 S14 hP => ?_)
      obtain ⟨rfl, o16, o17⟩ := hP
      exact zz_iret zd_1_27_35 rfl (Nat.le_of_ble_eq_true rfl) (Nat.le_of_ble_eq_true rfl) (Or.inl ⟨_, _, rfl, G_S11, F_S11, by omega, (zn_PPe o5 fS11 rfl o13 o17)⟩)
    · exfalso; omega
abbrev zy_under_1_28 : mm_Y := (⟨"TensorForge", "under", "(II)I"⟩, prog_1_method_28_code, 3, (some .int))
theorem zyw_under_1_28 : mm_Yw zy_under_1_28 2 := ⟨mm_tb_1 1540 (by decide +kernel) rfl, mm_tb_1 1 (by decide +kernel) rfl, ⟨by decide, by decide⟩, by decide +kernel⟩
abbrev zy_needUnitAndCycle_1_33 : mm_Y := (⟨"TensorForge", "needUnitAndCycle", "(II)V"⟩, prog_1_method_33_code, 3, none)
theorem zyw_needUnitAndCycle_1_33 : mm_Yw zy_needUnitAndCycle_1_33 2 := ⟨mm_tb_1 1544 (by decide +kernel) rfl, mm_tb_1 1 (by decide +kernel) rfl, ⟨by decide, by decide⟩, by decide +kernel⟩
theorem zt_1_33_13 : zz_ThrW zy_needUnitAndCycle_1_33 13 87 338 91 := ⟨by decide +kernel, by decide +kernel, by decide +kernel, by decide +kernel, by decide +kernel⟩
theorem zxl_TF_87_338_91 : mm_Xl "TensorForge" 87 338 91 0 := ⟨mm_tb_1 1048 (by decide +kernel) rfl, mm_tb_1 1049 (by decide +kernel) rfl, mm_tb_1 16 (by decide +kernel) rfl, ⟨58, by decide +kernel⟩, zxa_TF_91⟩
theorem zg_1_28_0 : zq_at zy_under_1_28.2.1 0 42 ∧ zq_at zy_under_1_28.2.1 1 182 ∧ zq_at zy_under_1_28.2.1 2 0 ∧ zq_at zy_under_1_28.2.1 3 191 ∧ zq_at zy_under_1_28.2.1 4 42 ∧ zq_at zy_under_1_28.2.1 5 27 ∧ zq_at zy_under_1_28.2.1 6 28 ∧ zq_at zy_under_1_28.2.1 7 182 ∧ zq_at zy_under_1_28.2.1 8 1 ∧ zq_at zy_under_1_28.2.1 9 61 := by decide +kernel
theorem zd_1_28_0 : zz_D zy_under_1_28 0 (.aload_n 0) 1 1 := ⟨zq_42 zg_1_28_0.1, rfl⟩
theorem zd_1_28_1 : zz_D zy_under_1_28 1 (.invokevirtual 191) 3 4 := ⟨zq_182 zg_1_28_0.2.1 zg_1_28_0.2.2.1 zg_1_28_0.2.2.2.1 rfl, rfl⟩
theorem zd_1_28_4 : zz_D zy_under_1_28 4 (.aload_n 0) 1 5 := ⟨zq_42 zg_1_28_0.2.2.2.2.1, rfl⟩
theorem zd_1_28_5 : zz_D zy_under_1_28 5 (.iload_n 1) 1 6 := ⟨zq_27 zg_1_28_0.2.2.2.2.2.1, rfl⟩
theorem zd_1_28_6 : zz_D zy_under_1_28 6 (.iload_n 2) 1 7 := ⟨zq_28 zg_1_28_0.2.2.2.2.2.2.1, rfl⟩
theorem zd_1_28_7 : zz_D zy_under_1_28 7 (.invokevirtual 317) 3 10 := ⟨zq_182 zg_1_28_0.2.2.2.2.2.2.2.1 zg_1_28_0.2.2.2.2.2.2.2.2.1 zg_1_28_0.2.2.2.2.2.2.2.2.2 rfl, rfl⟩
theorem zg_1_33_0 : zq_at zy_needUnitAndCycle_1_33.2.1 0 27 ∧ zq_at zy_needUnitAndCycle_1_33.2.1 1 155 ∧ zq_at zy_needUnitAndCycle_1_33.2.1 2 0 ∧ zq_at zy_needUnitAndCycle_1_33.2.1 3 12 ∧ zq_at zy_needUnitAndCycle_1_33.2.1 4 27 ∧ zq_at zy_needUnitAndCycle_1_33.2.1 5 6 ∧ zq_at zy_needUnitAndCycle_1_33.2.1 6 162 ∧ zq_at zy_needUnitAndCycle_1_33.2.1 7 0 ∧ zq_at zy_needUnitAndCycle_1_33.2.1 8 7 ∧ zq_at zy_needUnitAndCycle_1_33.2.1 9 28 ∧ zq_at zy_needUnitAndCycle_1_33.2.1 10 156 ∧ zq_at zy_needUnitAndCycle_1_33.2.1 11 0 ∧ zq_at zy_needUnitAndCycle_1_33.2.1 12 14 ∧ zq_at zy_needUnitAndCycle_1_33.2.1 24 177 := by decide +kernel
theorem zd_1_33_0 : zz_D zy_needUnitAndCycle_1_33 0 (.iload_n 1) 1 1 := ⟨zq_27 zg_1_33_0.1, rfl⟩
theorem zd_1_33_1 : zz_B zy_needUnitAndCycle_1_33 1 (Instr.ifCond .lt) 13 4 := ⟨12, zq_155 zg_1_33_0.2.1 zg_1_33_0.2.2.1 zg_1_33_0.2.2.2.1 (by decide), rfl, rfl⟩
theorem zd_1_33_4 : zz_D zy_needUnitAndCycle_1_33 4 (.iload_n 1) 1 5 := ⟨zq_27 zg_1_33_0.2.2.2.2.1, rfl⟩
theorem zd_1_33_5 : zz_D zy_needUnitAndCycle_1_33 5 (.iconst 3) 1 6 := ⟨zq_6 zg_1_33_0.2.2.2.2.2.1, rfl⟩
theorem zd_1_33_6 : zz_B zy_needUnitAndCycle_1_33 6 (Instr.if_icmp .ge) 13 9 := ⟨7, zq_162 zg_1_33_0.2.2.2.2.2.2.1 zg_1_33_0.2.2.2.2.2.2.2.1 zg_1_33_0.2.2.2.2.2.2.2.2.1 (by decide), rfl, rfl⟩
theorem zd_1_33_9 : zz_D zy_needUnitAndCycle_1_33 9 (.iload_n 2) 1 10 := ⟨zq_28 zg_1_33_0.2.2.2.2.2.2.2.2.2.1, rfl⟩
theorem zd_1_33_10 : zz_B zy_needUnitAndCycle_1_33 10 (Instr.ifCond .ge) 24 13 := ⟨14, zq_156 zg_1_33_0.2.2.2.2.2.2.2.2.2.2.1 zg_1_33_0.2.2.2.2.2.2.2.2.2.2.2.1 zg_1_33_0.2.2.2.2.2.2.2.2.2.2.2.2.1 (by decide), rfl, rfl⟩
theorem zd_1_33_24 : zz_D zy_needUnitAndCycle_1_33 24 (.return_) 1 25 := ⟨zq_177 zg_1_33_0.2.2.2.2.2.2.2.2.2.2.2.2.2, rfl⟩
-- TensorForge needUnitAndCycle (II)V
abbrev zr_needUnitAndCycle_1_33 : Room := { frames := 6, cells := 1, slots := 6, locals := 82 }
def zp_needUnitAndCycle_1_33 (p0 : Int) (p1 : Int) (S0 : zz_S) : zz_S → Prop := fun S => S0 = S
def zx_needUnitAndCycle_1_33 (p0 : Int) (p1 : Int) (S0 : zz_S) : Nat → zz_S → Prop := fun i S => S0 = S ∧ (i < 4) ∧ (i = 0)
theorem zc_needUnitAndCycle_1_33 {g : mm_G} {l : Launch} (p0 : Int) (p1 : Int) (S0 : zz_S) (n : Nat) (hn : zz_end ≤ n) (hfl : l.flags = flags0) (G_S0 : zz_G S0) (hp0 : (-2147483648) ≤ p0 ∧ p0 ≤ 2147483647) (hp1 : (-2147483648) ≤ p1 ∧ p1 ≤ 2147483647) : mm_Met g l zy_needUnitAndCycle_1_33 zr_needUnitAndCycle_1_33 [.ref 1000, zi p0, zi p1] (zz_M S0 n) n (zz_XV n (zp_needUnitAndCycle_1_33 p0 p1 S0) (zx_needUnitAndCycle_1_33 p0 p1 S0)) := by
  refine zz_enter (by decide) (Nat.le_of_ble_eq_true rfl) (zz_less (ls1 := [some (.ref 1000), some (zi p0), some (zi p1)]) ⟨rfl, ⟨rfl, ⟨rfl, trivial⟩⟩⟩ ?_)
  refine zz_iload_n (x := p0) rfl zd_1_33_0 ?_
  refine zz_if_lt (by omega) zd_1_33_1 (fun c1 => ?_) (fun c1 => ?_)
  · exact zz_throwW (i := 0) hfl hn zt_1_33_13 zyw_needUnitAndCycle_1_33 zxl_TF_87_338_91 (Nat.le_of_ble_eq_true rfl) (Nat.le_of_ble_eq_true rfl) ⟨Nat.le_of_ble_eq_true rfl, Nat.le_of_ble_eq_true rfl⟩ (Or.inr ⟨_, _, rfl, rfl, by omega, by omega⟩)
  · refine zz_iload_n (x := p0) rfl zd_1_33_4 ?_
    refine zz_iconst zd_1_33_5 ?_
    refine zz_icmp_ge (by omega) (by omega) zd_1_33_6 (fun c2 => ?_) (fun c2 => ?_)
    · exact zz_throwW (i := 0) hfl hn zt_1_33_13 zyw_needUnitAndCycle_1_33 zxl_TF_87_338_91 (Nat.le_of_ble_eq_true rfl) (Nat.le_of_ble_eq_true rfl) ⟨Nat.le_of_ble_eq_true rfl, Nat.le_of_ble_eq_true rfl⟩ (Or.inr ⟨_, _, rfl, rfl, by omega, by omega⟩)
    · refine zz_iload_n (x := p1) rfl zd_1_33_9 ?_
      refine zz_if_ge (by omega) zd_1_33_10 (fun c3 => ?_) (fun c3 => ?_)
      · exact zz_vret zd_1_33_24 rfl (Nat.le_of_ble_eq_true rfl) (Nat.le_of_ble_eq_true rfl) (Or.inl ⟨_, rfl, rfl⟩)
      · exact zz_throwW (i := 0) hfl hn zt_1_33_13 zyw_needUnitAndCycle_1_33 zxl_TF_87_338_91 (Nat.le_of_ble_eq_true rfl) (Nat.le_of_ble_eq_true rfl) ⟨Nat.le_of_ble_eq_true rfl, Nat.le_of_ble_eq_true rfl⟩ (Or.inr ⟨_, _, rfl, rfl, by omega, by omega⟩)
theorem zk_TF_317 : mm_Vl "TensorForge" 317 0 2 zy_needUnitAndCycle_1_33 := ⟨zyw_needUnitAndCycle_1_33, (R_TF, F_TF, 12), rfl, mm_tb_1 1541 (by decide +kernel) rfl, mm_tb_1 1543 (by decide +kernel) rfl, mm_tb_s 79 (by decide +kernel) rfl⟩
abbrev zy_underWayAt_10_24 : mm_Y := (⟨"TensorForge$Run", "underWayAt", "(II)I"⟩, prog_10_method_24_code, 4, (some .int))
theorem zyw_underWayAt_10_24 : mm_Yw zy_underWayAt_10_24 2 := ⟨mm_tb_1 1549 (by decide +kernel) rfl, mm_tb_1 6 (by decide +kernel) rfl, ⟨by decide, by decide⟩, by decide +kernel⟩
abbrev zy_hadBegun_10_22 : mm_Y := (⟨"TensorForge$Run", "hadBegun", "(II)Z"⟩, prog_10_method_22_code, 3, (some .boolean))
theorem zyw_hadBegun_10_22 : mm_Yw zy_hadBegun_10_22 2 := ⟨mm_tb_1 1553 (by decide +kernel) rfl, mm_tb_1 6 (by decide +kernel) rfl, ⟨by decide, by decide⟩, by decide +kernel⟩
theorem zg_1_28_10 : zq_at zy_under_1_28.2.1 10 42 ∧ zq_at zy_under_1_28.2.1 11 180 ∧ zq_at zy_under_1_28.2.1 12 0 ∧ zq_at zy_under_1_28.2.1 13 42 ∧ zq_at zy_under_1_28.2.1 14 27 ∧ zq_at zy_under_1_28.2.1 15 28 ∧ zq_at zy_under_1_28.2.1 16 182 ∧ zq_at zy_under_1_28.2.1 17 1 ∧ zq_at zy_under_1_28.2.1 18 64 := by decide +kernel
theorem zd_1_28_10 : zz_D zy_under_1_28 10 (.aload_n 0) 1 11 := ⟨zq_42 zg_1_28_10.1, rfl⟩
theorem zd_1_28_11 : zz_D zy_under_1_28 11 (.getfield 42) 3 14 := ⟨zq_180 zg_1_28_10.2.1 zg_1_28_10.2.2.1 zg_1_28_10.2.2.2.1 rfl, rfl⟩
theorem zd_1_28_14 : zz_D zy_under_1_28 14 (.iload_n 1) 1 15 := ⟨zq_27 zg_1_28_10.2.2.2.2.1, rfl⟩
theorem zd_1_28_15 : zz_D zy_under_1_28 15 (.iload_n 2) 1 16 := ⟨zq_28 zg_1_28_10.2.2.2.2.2.1, rfl⟩
theorem zd_1_28_16 : zz_D zy_under_1_28 16 (.invokevirtual 320) 3 19 := ⟨zq_182 zg_1_28_10.2.2.2.2.2.2.1 zg_1_28_10.2.2.2.2.2.2.2.1 zg_1_28_10.2.2.2.2.2.2.2.2 rfl, rfl⟩
theorem zg_10_24_0 : zq_at zy_underWayAt_10_24.2.1 0 3 ∧ zq_at zy_underWayAt_10_24.2.1 1 62 ∧ zq_at zy_underWayAt_10_24.2.1 2 29 ∧ zq_at zy_underWayAt_10_24.2.1 3 42 ∧ zq_at zy_underWayAt_10_24.2.1 4 180 ∧ zq_at zy_underWayAt_10_24.2.1 5 0 ∧ zq_at zy_underWayAt_10_24.2.1 6 46 ∧ zq_at zy_underWayAt_10_24.2.1 7 162 ∧ zq_at zy_underWayAt_10_24.2.1 8 0 ∧ zq_at zy_underWayAt_10_24.2.1 9 42 ∧ zq_at zy_underWayAt_10_24.2.1 49 2 ∧ zq_at zy_underWayAt_10_24.2.1 50 172 ∧ zq_at zy_underWayAt_10_24.2.1 10 42 ∧ zq_at zy_underWayAt_10_24.2.1 11 180 ∧ zq_at zy_underWayAt_10_24.2.1 12 0 ∧ zq_at zy_underWayAt_10_24.2.1 13 19 ∧ zq_at zy_underWayAt_10_24.2.1 14 29 ∧ zq_at zy_underWayAt_10_24.2.1 15 47 ∧ zq_at zy_underWayAt_10_24.2.1 16 184 ∧ zq_at zy_underWayAt_10_24.2.1 17 0 ∧ zq_at zy_underWayAt_10_24.2.1 18 107 ∧ zq_at zy_underWayAt_10_24.2.1 19 27 := by decide +kernel
theorem zd_10_24_0 : zz_D zy_underWayAt_10_24 0 (.iconst 0) 1 1 := ⟨zq_3 zg_10_24_0.1, rfl⟩
theorem zd_10_24_1 : zz_D zy_underWayAt_10_24 1 (.istore_n 3) 1 2 := ⟨zq_62 zg_10_24_0.2.1, rfl⟩
theorem zd_10_24_2 : zz_D zy_underWayAt_10_24 2 (.iload_n 3) 1 3 := ⟨zq_29 zg_10_24_0.2.2.1, rfl⟩
theorem zd_10_24_3 : zz_D zy_underWayAt_10_24 3 (.aload_n 0) 1 4 := ⟨zq_42 zg_10_24_0.2.2.2.1, rfl⟩
theorem zd_10_24_4 : zz_D zy_underWayAt_10_24 4 (.getfield 46) 3 7 := ⟨zq_180 zg_10_24_0.2.2.2.2.1 zg_10_24_0.2.2.2.2.2.1 zg_10_24_0.2.2.2.2.2.2.1 rfl, rfl⟩
theorem zd_10_24_7 : zz_B zy_underWayAt_10_24 7 (Instr.if_icmp .ge) 49 10 := ⟨42, zq_162 zg_10_24_0.2.2.2.2.2.2.2.1 zg_10_24_0.2.2.2.2.2.2.2.2.1 zg_10_24_0.2.2.2.2.2.2.2.2.2.1 (by decide), rfl, rfl⟩
theorem zd_10_24_49 : zz_D zy_underWayAt_10_24 49 (.iconst (-1)) 1 50 := ⟨zq_2 zg_10_24_0.2.2.2.2.2.2.2.2.2.2.1, rfl⟩
theorem zd_10_24_50 : zz_D zy_underWayAt_10_24 50 (.ireturn) 1 51 := ⟨zq_172 zg_10_24_0.2.2.2.2.2.2.2.2.2.2.2.1, rfl⟩
theorem zd_10_24_10 : zz_D zy_underWayAt_10_24 10 (.aload_n 0) 1 11 := ⟨zq_42 zg_10_24_0.2.2.2.2.2.2.2.2.2.2.2.2.1, rfl⟩
theorem zd_10_24_11 : zz_D zy_underWayAt_10_24 11 (.getfield 19) 3 14 := ⟨zq_180 zg_10_24_0.2.2.2.2.2.2.2.2.2.2.2.2.2.1 zg_10_24_0.2.2.2.2.2.2.2.2.2.2.2.2.2.2.1 zg_10_24_0.2.2.2.2.2.2.2.2.2.2.2.2.2.2.2.1 rfl, rfl⟩
theorem zd_10_24_14 : zz_D zy_underWayAt_10_24 14 (.iload_n 3) 1 15 := ⟨zq_29 zg_10_24_0.2.2.2.2.2.2.2.2.2.2.2.2.2.2.2.2.1, rfl⟩
theorem zd_10_24_15 : zz_D zy_underWayAt_10_24 15 (.laload) 1 16 := ⟨zq_47 zg_10_24_0.2.2.2.2.2.2.2.2.2.2.2.2.2.2.2.2.2.1, rfl⟩
theorem zd_10_24_16 : zz_D zy_underWayAt_10_24 16 (.invokestatic 107) 3 19 := ⟨zq_184 zg_10_24_0.2.2.2.2.2.2.2.2.2.2.2.2.2.2.2.2.2.2.1 zg_10_24_0.2.2.2.2.2.2.2.2.2.2.2.2.2.2.2.2.2.2.2.1 zg_10_24_0.2.2.2.2.2.2.2.2.2.2.2.2.2.2.2.2.2.2.2.2.1 rfl, rfl⟩
theorem zd_10_24_19 : zz_D zy_underWayAt_10_24 19 (.iload_n 1) 1 20 := ⟨zq_27 zg_10_24_0.2.2.2.2.2.2.2.2.2.2.2.2.2.2.2.2.2.2.2.2.2, rfl⟩
theorem zg_10_24_20 : zq_at zy_underWayAt_10_24.2.1 20 160 ∧ zq_at zy_underWayAt_10_24.2.1 21 0 ∧ zq_at zy_underWayAt_10_24.2.1 22 23 ∧ zq_at zy_underWayAt_10_24.2.1 43 132 ∧ zq_at zy_underWayAt_10_24.2.1 44 3 ∧ zq_at zy_underWayAt_10_24.2.1 45 1 ∧ zq_at zy_underWayAt_10_24.2.1 46 167 ∧ zq_at zy_underWayAt_10_24.2.1 47 255 ∧ zq_at zy_underWayAt_10_24.2.1 48 212 ∧ zq_at zy_underWayAt_10_24.2.1 23 42 ∧ zq_at zy_underWayAt_10_24.2.1 24 29 ∧ zq_at zy_underWayAt_10_24.2.1 25 28 ∧ zq_at zy_underWayAt_10_24.2.1 26 182 ∧ zq_at zy_underWayAt_10_24.2.1 27 0 ∧ zq_at zy_underWayAt_10_24.2.1 28 176 := by decide +kernel
theorem zd_10_24_20 : zz_B zy_underWayAt_10_24 20 (Instr.if_icmp .ne) 43 23 := ⟨23, zq_160 zg_10_24_20.1 zg_10_24_20.2.1 zg_10_24_20.2.2.1 (by decide), rfl, rfl⟩
theorem zd_10_24_43 : zz_D zy_underWayAt_10_24 43 (.iinc 3 1) 3 46 := ⟨zq_132 zg_10_24_20.2.2.2.1 zg_10_24_20.2.2.2.2.1 zg_10_24_20.2.2.2.2.2.1 (by decide), rfl⟩
theorem zd_10_24_46 : zz_B zy_underWayAt_10_24 46 Instr.goto 2 49 := ⟨(-44), zq_167 zg_10_24_20.2.2.2.2.2.2.1 zg_10_24_20.2.2.2.2.2.2.2.1 zg_10_24_20.2.2.2.2.2.2.2.2.1 (by decide), rfl, rfl⟩
theorem zd_10_24_23 : zz_D zy_underWayAt_10_24 23 (.aload_n 0) 1 24 := ⟨zq_42 zg_10_24_20.2.2.2.2.2.2.2.2.2.1, rfl⟩
theorem zd_10_24_24 : zz_D zy_underWayAt_10_24 24 (.iload_n 3) 1 25 := ⟨zq_29 zg_10_24_20.2.2.2.2.2.2.2.2.2.2.1, rfl⟩
theorem zd_10_24_25 : zz_D zy_underWayAt_10_24 25 (.iload_n 2) 1 26 := ⟨zq_28 zg_10_24_20.2.2.2.2.2.2.2.2.2.2.2.1, rfl⟩
theorem zd_10_24_26 : zz_D zy_underWayAt_10_24 26 (.invokevirtual 176) 3 29 := ⟨zq_182 zg_10_24_20.2.2.2.2.2.2.2.2.2.2.2.2.1 zg_10_24_20.2.2.2.2.2.2.2.2.2.2.2.2.2.1 zg_10_24_20.2.2.2.2.2.2.2.2.2.2.2.2.2.2 rfl, rfl⟩
theorem zg_10_22_0 : zq_at zy_hadBegun_10_22.2.1 0 42 ∧ zq_at zy_hadBegun_10_22.2.1 1 180 ∧ zq_at zy_hadBegun_10_22.2.1 2 0 ∧ zq_at zy_hadBegun_10_22.2.1 3 23 ∧ zq_at zy_hadBegun_10_22.2.1 4 27 ∧ zq_at zy_hadBegun_10_22.2.1 5 46 ∧ zq_at zy_hadBegun_10_22.2.1 6 2 ∧ zq_at zy_hadBegun_10_22.2.1 7 159 ∧ zq_at zy_hadBegun_10_22.2.1 8 0 ∧ zq_at zy_hadBegun_10_22.2.1 9 17 ∧ zq_at zy_hadBegun_10_22.2.1 24 3 ∧ zq_at zy_hadBegun_10_22.2.1 25 172 ∧ zq_at zy_hadBegun_10_22.2.1 10 42 ∧ zq_at zy_hadBegun_10_22.2.1 11 180 ∧ zq_at zy_hadBegun_10_22.2.1 12 0 ∧ zq_at zy_hadBegun_10_22.2.1 13 23 ∧ zq_at zy_hadBegun_10_22.2.1 14 27 ∧ zq_at zy_hadBegun_10_22.2.1 15 46 ∧ zq_at zy_hadBegun_10_22.2.1 16 28 ∧ zq_at zy_hadBegun_10_22.2.1 17 163 ∧ zq_at zy_hadBegun_10_22.2.1 18 0 ∧ zq_at zy_hadBegun_10_22.2.1 19 7 ∧ zq_at zy_hadBegun_10_22.2.1 20 4 := by decide +kernel
theorem zd_10_22_0 : zz_D zy_hadBegun_10_22 0 (.aload_n 0) 1 1 := ⟨zq_42 zg_10_22_0.1, rfl⟩
theorem zd_10_22_1 : zz_D zy_hadBegun_10_22 1 (.getfield 23) 3 4 := ⟨zq_180 zg_10_22_0.2.1 zg_10_22_0.2.2.1 zg_10_22_0.2.2.2.1 rfl, rfl⟩
theorem zd_10_22_4 : zz_D zy_hadBegun_10_22 4 (.iload_n 1) 1 5 := ⟨zq_27 zg_10_22_0.2.2.2.2.1, rfl⟩
theorem zd_10_22_5 : zz_D zy_hadBegun_10_22 5 (.iaload) 1 6 := ⟨zq_46 zg_10_22_0.2.2.2.2.2.1, rfl⟩
theorem zd_10_22_6 : zz_D zy_hadBegun_10_22 6 (.iconst (-1)) 1 7 := ⟨zq_2 zg_10_22_0.2.2.2.2.2.2.1, rfl⟩
theorem zd_10_22_7 : zz_B zy_hadBegun_10_22 7 (Instr.if_icmp .eq) 24 10 := ⟨17, zq_159 zg_10_22_0.2.2.2.2.2.2.2.1 zg_10_22_0.2.2.2.2.2.2.2.2.1 zg_10_22_0.2.2.2.2.2.2.2.2.2.1 (by decide), rfl, rfl⟩
theorem zd_10_22_24 : zz_D zy_hadBegun_10_22 24 (.iconst 0) 1 25 := ⟨zq_3 zg_10_22_0.2.2.2.2.2.2.2.2.2.2.1, rfl⟩
theorem zd_10_22_25 : zz_D zy_hadBegun_10_22 25 (.ireturn) 1 26 := ⟨zq_172 zg_10_22_0.2.2.2.2.2.2.2.2.2.2.2.1, rfl⟩
theorem zd_10_22_10 : zz_D zy_hadBegun_10_22 10 (.aload_n 0) 1 11 := ⟨zq_42 zg_10_22_0.2.2.2.2.2.2.2.2.2.2.2.2.1, rfl⟩
theorem zd_10_22_11 : zz_D zy_hadBegun_10_22 11 (.getfield 23) 3 14 := ⟨zq_180 zg_10_22_0.2.2.2.2.2.2.2.2.2.2.2.2.2.1 zg_10_22_0.2.2.2.2.2.2.2.2.2.2.2.2.2.2.1 zg_10_22_0.2.2.2.2.2.2.2.2.2.2.2.2.2.2.2.1 rfl, rfl⟩
theorem zd_10_22_14 : zz_D zy_hadBegun_10_22 14 (.iload_n 1) 1 15 := ⟨zq_27 zg_10_22_0.2.2.2.2.2.2.2.2.2.2.2.2.2.2.2.2.1, rfl⟩
theorem zd_10_22_15 : zz_D zy_hadBegun_10_22 15 (.iaload) 1 16 := ⟨zq_46 zg_10_22_0.2.2.2.2.2.2.2.2.2.2.2.2.2.2.2.2.2.1, rfl⟩
theorem zd_10_22_16 : zz_D zy_hadBegun_10_22 16 (.iload_n 2) 1 17 := ⟨zq_28 zg_10_22_0.2.2.2.2.2.2.2.2.2.2.2.2.2.2.2.2.2.2.1, rfl⟩
theorem zd_10_22_17 : zz_B zy_hadBegun_10_22 17 (Instr.if_icmp .gt) 24 20 := ⟨7, zq_163 zg_10_22_0.2.2.2.2.2.2.2.2.2.2.2.2.2.2.2.2.2.2.2.1 zg_10_22_0.2.2.2.2.2.2.2.2.2.2.2.2.2.2.2.2.2.2.2.2.1 zg_10_22_0.2.2.2.2.2.2.2.2.2.2.2.2.2.2.2.2.2.2.2.2.2.1 (by decide), rfl, rfl⟩
theorem zd_10_22_20 : zz_D zy_hadBegun_10_22 20 (.iconst 1) 1 21 := ⟨zq_4 zg_10_22_0.2.2.2.2.2.2.2.2.2.2.2.2.2.2.2.2.2.2.2.2.2.2, rfl⟩
theorem zg_10_22_21 : zq_at zy_hadBegun_10_22.2.1 21 167 ∧ zq_at zy_hadBegun_10_22.2.1 22 0 ∧ zq_at zy_hadBegun_10_22.2.1 23 4 := by decide +kernel
theorem zd_10_22_21 : zz_B zy_hadBegun_10_22 21 Instr.goto 25 24 := ⟨4, zq_167 zg_10_22_21.1 zg_10_22_21.2.1 zg_10_22_21.2.2 (by decide), rfl, rfl⟩
-- TensorForge$Run hadBegun (II)Z
abbrev zr_hadBegun_10_22 : Room := { frames := 0, cells := 0, slots := 0, locals := 0 }
def zp_hadBegun_10_22 (p0 : Int) (p1 : Int) (S0 : zz_S) : Int → zz_S → Prop := fun r S => S0 = S ∧ (0 ≤ r ∧ r ≤ 1)
theorem zc_hadBegun_10_22 {g : mm_G} {l : Launch} (p0 : Int) (p1 : Int) (S0 : zz_S) (n : Nat) (hn : zz_end ≤ n) (G_S0 : zz_G S0) (hp0 : 0 ≤ p0 ∧ p0 ≤ 599) (hp1 : (-2147483648) ≤ p1 ∧ p1 ≤ 2147483647) : mm_Met g l zy_hadBegun_10_22 zr_hadBegun_10_22 [.ref 1042, zi p0, zi p1] (zz_M S0 n) n (zz_QI n (zp_hadBegun_10_22 p0 p1 S0)) := by
  refine zz_enter (by decide) (Nat.le_of_ble_eq_true rfl) (zz_less (ls1 := [some (.ref 1042), some (zi p0), some (zi p1)]) ⟨rfl, ⟨rfl, ⟨rfl, trivial⟩⟩⟩ ?_)
  refine zz_aload_n (x := 1042) rfl zd_10_22_0 ?_
  refine zz_getr (kd := 0) (z := 1045) zd_10_22_1 zf_Run_23 zT_1042 rfl (zz_ltn hn rfl) (zz_G.eq G_S0 1042 3 1045 rfl rfl) (by decide) 1045 rfl ?_
  refine zz_iload_n (x := p0) rfl zd_10_22_4 ?_
  have g1 := zz_G.r G_S0 1045 p0.toNat (-2147483648) 2147483647 rfl rfl
  refine zz_iald (z := S0 1045 p0.toNat) zd_10_22_5 zT_1045 rfl (zz_ltn hn rfl) (by decide) (by omega) rfl ?_
  refine zz_iconst zd_10_22_6 ?_
  refine zz_icmp_eq (by omega) (by omega) zd_10_22_7 (fun c2 => ?_) (fun c2 => ?_)
  · refine zz_iconst zd_10_22_24 ?_
    exact zz_zret zd_10_22_25 rfl (by omega) (Nat.zero_le _) (Nat.zero_le _) ⟨_, _, rfl, rfl, by omega⟩
  · refine zz_aload_n (x := 1042) rfl zd_10_22_10 ?_
    refine zz_getr (kd := 0) (z := 1045) zd_10_22_11 zf_Run_23 zT_1042 rfl (zz_ltn hn rfl) (zz_G.eq G_S0 1042 3 1045 rfl rfl) (by decide) 1045 rfl ?_
    refine zz_iload_n (x := p0) rfl zd_10_22_14 ?_
    refine zz_iald (z := S0 1045 p0.toNat) zd_10_22_15 zT_1045 rfl (zz_ltn hn rfl) (by decide) (by omega) rfl ?_
    refine zz_iload_n (x := p1) rfl zd_10_22_16 ?_
    refine zz_icmp_gt (by omega) (by omega) zd_10_22_17 (fun c3 => ?_) (fun c3 => ?_)
    · refine zz_iconst zd_10_22_24 ?_
      exact zz_zret zd_10_22_25 rfl (by omega) (Nat.zero_le _) (Nat.zero_le _) ⟨_, _, rfl, rfl, by omega⟩
    · refine zz_iconst zd_10_22_20 ?_
      refine zz_goto zd_10_22_21 ?_
      exact zz_zret zd_10_22_25 rfl (by omega) (Nat.zero_le _) (Nat.zero_le _) ⟨_, _, rfl, rfl, by omega⟩
theorem zk_Run_176 : mm_Vl "TensorForge$Run" 176 5 2 zy_hadBegun_10_22 := ⟨zyw_hadBegun_10_22, (R_Run, F_Run, 10), rfl, mm_tb_1 1550 (by decide +kernel) rfl, mm_tb_1 1552 (by decide +kernel) rfl, mm_tb_s 80 (by decide +kernel) rfl⟩
abbrev zy_hadEnded_10_23 : mm_Y := (⟨"TensorForge$Run", "hadEnded", "(II)Z"⟩, prog_10_method_23_code, 3, (some .boolean))
theorem zyw_hadEnded_10_23 : mm_Yw zy_hadEnded_10_23 2 := ⟨mm_tb_1 1557 (by decide +kernel) rfl, mm_tb_1 6 (by decide +kernel) rfl, ⟨by decide, by decide⟩, by decide +kernel⟩
theorem zg_10_24_29 : zq_at zy_underWayAt_10_24.2.1 29 153 ∧ zq_at zy_underWayAt_10_24.2.1 30 0 ∧ zq_at zy_underWayAt_10_24.2.1 31 14 ∧ zq_at zy_underWayAt_10_24.2.1 32 42 ∧ zq_at zy_underWayAt_10_24.2.1 33 29 ∧ zq_at zy_underWayAt_10_24.2.1 34 28 ∧ zq_at zy_underWayAt_10_24.2.1 35 182 ∧ zq_at zy_underWayAt_10_24.2.1 36 0 ∧ zq_at zy_underWayAt_10_24.2.1 37 180 := by decide +kernel
theorem zd_10_24_29 : zz_B zy_underWayAt_10_24 29 (Instr.ifCond .eq) 43 32 := ⟨14, zq_153 zg_10_24_29.1 zg_10_24_29.2.1 zg_10_24_29.2.2.1 (by decide), rfl, rfl⟩
theorem zd_10_24_32 : zz_D zy_underWayAt_10_24 32 (.aload_n 0) 1 33 := ⟨zq_42 zg_10_24_29.2.2.2.1, rfl⟩
theorem zd_10_24_33 : zz_D zy_underWayAt_10_24 33 (.iload_n 3) 1 34 := ⟨zq_29 zg_10_24_29.2.2.2.2.1, rfl⟩
theorem zd_10_24_34 : zz_D zy_underWayAt_10_24 34 (.iload_n 2) 1 35 := ⟨zq_28 zg_10_24_29.2.2.2.2.2.1, rfl⟩
theorem zd_10_24_35 : zz_D zy_underWayAt_10_24 35 (.invokevirtual 180) 3 38 := ⟨zq_182 zg_10_24_29.2.2.2.2.2.2.1 zg_10_24_29.2.2.2.2.2.2.2.1 zg_10_24_29.2.2.2.2.2.2.2.2 rfl, rfl⟩
theorem zg_10_23_0 : zq_at zy_hadEnded_10_23.2.1 0 42 ∧ zq_at zy_hadEnded_10_23.2.1 1 180 ∧ zq_at zy_hadEnded_10_23.2.1 2 0 ∧ zq_at zy_hadEnded_10_23.2.1 3 26 ∧ zq_at zy_hadEnded_10_23.2.1 4 27 ∧ zq_at zy_hadEnded_10_23.2.1 5 46 ∧ zq_at zy_hadEnded_10_23.2.1 6 2 ∧ zq_at zy_hadEnded_10_23.2.1 7 159 ∧ zq_at zy_hadEnded_10_23.2.1 8 0 ∧ zq_at zy_hadEnded_10_23.2.1 9 17 ∧ zq_at zy_hadEnded_10_23.2.1 24 3 ∧ zq_at zy_hadEnded_10_23.2.1 25 172 ∧ zq_at zy_hadEnded_10_23.2.1 10 42 ∧ zq_at zy_hadEnded_10_23.2.1 11 180 ∧ zq_at zy_hadEnded_10_23.2.1 12 0 ∧ zq_at zy_hadEnded_10_23.2.1 13 26 ∧ zq_at zy_hadEnded_10_23.2.1 14 27 ∧ zq_at zy_hadEnded_10_23.2.1 15 46 ∧ zq_at zy_hadEnded_10_23.2.1 16 28 ∧ zq_at zy_hadEnded_10_23.2.1 17 163 ∧ zq_at zy_hadEnded_10_23.2.1 18 0 ∧ zq_at zy_hadEnded_10_23.2.1 19 7 ∧ zq_at zy_hadEnded_10_23.2.1 20 4 := by decide +kernel
theorem zd_10_23_0 : zz_D zy_hadEnded_10_23 0 (.aload_n 0) 1 1 := ⟨zq_42 zg_10_23_0.1, rfl⟩
theorem zd_10_23_1 : zz_D zy_hadEnded_10_23 1 (.getfield 26) 3 4 := ⟨zq_180 zg_10_23_0.2.1 zg_10_23_0.2.2.1 zg_10_23_0.2.2.2.1 rfl, rfl⟩
theorem zd_10_23_4 : zz_D zy_hadEnded_10_23 4 (.iload_n 1) 1 5 := ⟨zq_27 zg_10_23_0.2.2.2.2.1, rfl⟩
theorem zd_10_23_5 : zz_D zy_hadEnded_10_23 5 (.iaload) 1 6 := ⟨zq_46 zg_10_23_0.2.2.2.2.2.1, rfl⟩
theorem zd_10_23_6 : zz_D zy_hadEnded_10_23 6 (.iconst (-1)) 1 7 := ⟨zq_2 zg_10_23_0.2.2.2.2.2.2.1, rfl⟩
theorem zd_10_23_7 : zz_B zy_hadEnded_10_23 7 (Instr.if_icmp .eq) 24 10 := ⟨17, zq_159 zg_10_23_0.2.2.2.2.2.2.2.1 zg_10_23_0.2.2.2.2.2.2.2.2.1 zg_10_23_0.2.2.2.2.2.2.2.2.2.1 (by decide), rfl, rfl⟩
theorem zd_10_23_24 : zz_D zy_hadEnded_10_23 24 (.iconst 0) 1 25 := ⟨zq_3 zg_10_23_0.2.2.2.2.2.2.2.2.2.2.1, rfl⟩
theorem zd_10_23_25 : zz_D zy_hadEnded_10_23 25 (.ireturn) 1 26 := ⟨zq_172 zg_10_23_0.2.2.2.2.2.2.2.2.2.2.2.1, rfl⟩
theorem zd_10_23_10 : zz_D zy_hadEnded_10_23 10 (.aload_n 0) 1 11 := ⟨zq_42 zg_10_23_0.2.2.2.2.2.2.2.2.2.2.2.2.1, rfl⟩
theorem zd_10_23_11 : zz_D zy_hadEnded_10_23 11 (.getfield 26) 3 14 := ⟨zq_180 zg_10_23_0.2.2.2.2.2.2.2.2.2.2.2.2.2.1 zg_10_23_0.2.2.2.2.2.2.2.2.2.2.2.2.2.2.1 zg_10_23_0.2.2.2.2.2.2.2.2.2.2.2.2.2.2.2.1 rfl, rfl⟩
theorem zd_10_23_14 : zz_D zy_hadEnded_10_23 14 (.iload_n 1) 1 15 := ⟨zq_27 zg_10_23_0.2.2.2.2.2.2.2.2.2.2.2.2.2.2.2.2.1, rfl⟩
theorem zd_10_23_15 : zz_D zy_hadEnded_10_23 15 (.iaload) 1 16 := ⟨zq_46 zg_10_23_0.2.2.2.2.2.2.2.2.2.2.2.2.2.2.2.2.2.1, rfl⟩
theorem zd_10_23_16 : zz_D zy_hadEnded_10_23 16 (.iload_n 2) 1 17 := ⟨zq_28 zg_10_23_0.2.2.2.2.2.2.2.2.2.2.2.2.2.2.2.2.2.2.1, rfl⟩
theorem zd_10_23_17 : zz_B zy_hadEnded_10_23 17 (Instr.if_icmp .gt) 24 20 := ⟨7, zq_163 zg_10_23_0.2.2.2.2.2.2.2.2.2.2.2.2.2.2.2.2.2.2.2.1 zg_10_23_0.2.2.2.2.2.2.2.2.2.2.2.2.2.2.2.2.2.2.2.2.1 zg_10_23_0.2.2.2.2.2.2.2.2.2.2.2.2.2.2.2.2.2.2.2.2.2.1 (by decide), rfl, rfl⟩
theorem zd_10_23_20 : zz_D zy_hadEnded_10_23 20 (.iconst 1) 1 21 := ⟨zq_4 zg_10_23_0.2.2.2.2.2.2.2.2.2.2.2.2.2.2.2.2.2.2.2.2.2.2, rfl⟩
theorem zg_10_23_21 : zq_at zy_hadEnded_10_23.2.1 21 167 ∧ zq_at zy_hadEnded_10_23.2.1 22 0 ∧ zq_at zy_hadEnded_10_23.2.1 23 4 := by decide +kernel
theorem zd_10_23_21 : zz_B zy_hadEnded_10_23 21 Instr.goto 25 24 := ⟨4, zq_167 zg_10_23_21.1 zg_10_23_21.2.1 zg_10_23_21.2.2 (by decide), rfl, rfl⟩
-- TensorForge$Run hadEnded (II)Z
abbrev zr_hadEnded_10_23 : Room := { frames := 0, cells := 0, slots := 0, locals := 0 }
def zp_hadEnded_10_23 (p0 : Int) (p1 : Int) (S0 : zz_S) : Int → zz_S → Prop := fun r S => S0 = S ∧ (0 ≤ r ∧ r ≤ 1)
theorem zc_hadEnded_10_23 {g : mm_G} {l : Launch} (p0 : Int) (p1 : Int) (S0 : zz_S) (n : Nat) (hn : zz_end ≤ n) (G_S0 : zz_G S0) (hp0 : 0 ≤ p0 ∧ p0 ≤ 599) (hp1 : (-2147483648) ≤ p1 ∧ p1 ≤ 2147483647) : mm_Met g l zy_hadEnded_10_23 zr_hadEnded_10_23 [.ref 1042, zi p0, zi p1] (zz_M S0 n) n (zz_QI n (zp_hadEnded_10_23 p0 p1 S0)) := by
  refine zz_enter (by decide) (Nat.le_of_ble_eq_true rfl) (zz_less (ls1 := [some (.ref 1042), some (zi p0), some (zi p1)]) ⟨rfl, ⟨rfl, ⟨rfl, trivial⟩⟩⟩ ?_)
  refine zz_aload_n (x := 1042) rfl zd_10_23_0 ?_
  refine zz_getr (kd := 0) (z := 1046) zd_10_23_1 zf_Run_26 zT_1042 rfl (zz_ltn hn rfl) (zz_G.eq G_S0 1042 4 1046 rfl rfl) (by decide) 1046 rfl ?_
  refine zz_iload_n (x := p0) rfl zd_10_23_4 ?_
  have g1 := zz_G.r G_S0 1046 p0.toNat (-2147483648) 2147483647 rfl rfl
  refine zz_iald (z := S0 1046 p0.toNat) zd_10_23_5 zT_1046 rfl (zz_ltn hn rfl) (by decide) (by omega) rfl ?_
  refine zz_iconst zd_10_23_6 ?_
  refine zz_icmp_eq (by omega) (by omega) zd_10_23_7 (fun c2 => ?_) (fun c2 => ?_)
  · refine zz_iconst zd_10_23_24 ?_
    exact zz_zret zd_10_23_25 rfl (by omega) (Nat.zero_le _) (Nat.zero_le _) ⟨_, _, rfl, rfl, by omega⟩
  · refine zz_aload_n (x := 1042) rfl zd_10_23_10 ?_
    refine zz_getr (kd := 0) (z := 1046) zd_10_23_11 zf_Run_26 zT_1042 rfl (zz_ltn hn rfl) (zz_G.eq G_S0 1042 4 1046 rfl rfl) (by decide) 1046 rfl ?_
    refine zz_iload_n (x := p0) rfl zd_10_23_14 ?_
    refine zz_iald (z := S0 1046 p0.toNat) zd_10_23_15 zT_1046 rfl (zz_ltn hn rfl) (by decide) (by omega) rfl ?_
    refine zz_iload_n (x := p1) rfl zd_10_23_16 ?_
    refine zz_icmp_gt (by omega) (by omega) zd_10_23_17 (fun c3 => ?_) (fun c3 => ?_)
    · refine zz_iconst zd_10_23_24 ?_
      exact zz_zret zd_10_23_25 rfl (by omega) (Nat.zero_le _) (Nat.zero_le _) ⟨_, _, rfl, rfl, by omega⟩
    · refine zz_iconst zd_10_23_20 ?_
      refine zz_goto zd_10_23_21 ?_
      exact zz_zret zd_10_23_25 rfl (by omega) (Nat.zero_le _) (Nat.zero_le _) ⟨_, _, rfl, rfl, by omega⟩
theorem zk_Run_180 : mm_Vl "TensorForge$Run" 180 5 2 zy_hadEnded_10_23 := ⟨zyw_hadEnded_10_23, (R_Run, F_Run, 10), rfl, mm_tb_1 1554 (by decide +kernel) rfl, mm_tb_1 1556 (by decide +kernel) rfl, mm_tb_s 81 (by decide +kernel) rfl⟩
theorem zg_10_24_38 : zq_at zy_underWayAt_10_24.2.1 38 154 ∧ zq_at zy_underWayAt_10_24.2.1 39 0 ∧ zq_at zy_underWayAt_10_24.2.1 40 5 ∧ zq_at zy_underWayAt_10_24.2.1 41 29 ∧ zq_at zy_underWayAt_10_24.2.1 42 172 := by decide +kernel
theorem zd_10_24_38 : zz_B zy_underWayAt_10_24 38 (Instr.ifCond .ne) 43 41 := ⟨5, zq_154 zg_10_24_38.1 zg_10_24_38.2.1 zg_10_24_38.2.2.1 (by decide), rfl, rfl⟩
theorem zd_10_24_41 : zz_D zy_underWayAt_10_24 41 (.iload_n 3) 1 42 := ⟨zq_29 zg_10_24_38.2.2.2.1, rfl⟩
theorem zd_10_24_42 : zz_D zy_underWayAt_10_24 42 (.ireturn) 1 43 := ⟨zq_172 zg_10_24_38.2.2.2.2, rfl⟩
-- TensorForge$Run underWayAt (II)I
abbrev zr_underWayAt_10_24 : Room := { frames := 2, cells := 0, slots := 0, locals := 28 }
def zp_underWayAt_10_24 (p0 : Int) (p1 : Int) (S0 : zz_S) : Int → zz_S → Prop := fun r S => S0 = S ∧ ((-1) ≤ r ∧ r ≤ 599)
theorem zb_underWayAt_10_24_2 {g : mm_G} {l : Launch} (p0 : Int) (p1 : Int) (S0 : zz_S) (n : Nat) (hn : zz_end ≤ n) (G_S0 : zz_G S0) (hp0 : (-2147483648) ≤ p0 ∧ p0 ≤ 2147483647) (hp1 : (-2147483648) ≤ p1 ∧ p1 ≤ 2147483647) (x3 : Int) (S : zz_S) (G_S : zz_G S) (F_S : zz_fr [] [] (fun _ _ => False) S0 S) (i2_0 : 0 ≤ x3 ∧ x3 ≤ 600) (R : Nat) (hR : (S0 1042 9 - x3).toNat = R) (k2 : ∀ (x3 : Int) (S : zz_S), zz_G S → zz_fr [] [] (fun _ _ => False) S0 S → (0 ≤ x3 ∧ x3 ≤ 600) → (S0 1042 9 - x3).toNat < R → zz_E g l zy_underWayAt_10_24 zr_underWayAt_10_24 (zz_QI n (zp_underWayAt_10_24 p0 p1 S0)) S n 2 [some (.ref 1042), some (zi p0), some (zi p1), some (zi x3)] [] 0 0) : zz_E g l zy_underWayAt_10_24 zr_underWayAt_10_24 (zz_QI n (zp_underWayAt_10_24 p0 p1 S0)) S n 2 [some (.ref 1042), some (zi p0), some (zi p1), some (zi x3)] [] 0 0 := by
  refine zz_iload_n (x := x3) rfl zd_10_24_2 ?_
  refine zz_aload_n (x := 1042) rfl zd_10_24_3 ?_
  have g2 := zz_G.r G_S0 1042 9 0 600 rfl rfl
  refine zz_geti (z := S0 1042 9) zd_10_24_4 zf_Run_46 zT_1042 rfl (zz_ltn hn rfl) (zz_rc F_S rfl rfl (fun h => h) rfl) ?_
  refine zz_icmp_ge (by omega) (by omega) zd_10_24_7 (fun c3 => ?_) (fun c3 => ?_)
  · refine zz_iconst zd_10_24_49 ?_
    exact zz_iret zd_10_24_50 rfl (Nat.zero_le _) (Nat.zero_le _) ⟨_, _, rfl, zz_fr.eq F_S, by omega⟩
  · refine zz_aload_n (x := 1042) rfl zd_10_24_10 ?_
    refine zz_getr (kd := 0) (z := 1044) zd_10_24_11 zf_Run_19 zT_1042 rfl (zz_ltn hn rfl) (zz_G.eq G_S 1042 2 1044 rfl rfl) (by decide) 1044 rfl ?_
    refine zz_iload_n (x := x3) rfl zd_10_24_14 ?_
    have g4 := zz_G.r G_S0 1044 x3.toNat (-9223372036854775808) 9223372036854775807 rfl rfl
    refine zz_lald (z := S0 1044 x3.toNat) zd_10_24_15 zT_1044 rfl (zz_ltn hn rfl) (by decide) (by omega) (zz_rc F_S (zz_nc1 rfl) rfl (fun h => h) rfl) ?_
    refine zz_callSI [zl (S0 1044 x3.toNat)] zd_10_24_16 zk_Run_107 rfl rfl ⟨Nat.le_of_ble_eq_true rfl, Nat.le_of_ble_eq_true rfl⟩ ⟨rfl, rfl⟩ (Nat.zero_le _) (Nat.zero_le _) (zc_unitOf_12_10 (S0 1044 x3.toNat) S n hn G_S (by omega)) (fun v6 S5 hP => ?_)
    obtain ⟨rfl, o7, o8⟩ := hP
    refine zz_iload_n (x := p0) rfl zd_10_24_19 ?_
    refine zz_icmp_ne (by omega) (by omega) zd_10_24_20 (fun c9 => ?_) (fun c9 => ?_)
    · refine zz_iinc [some (.ref 1042), some (zi p0), some (zi p1), some (zi (x3 + 1))] zd_10_24_43 rfl rfl ?_
      refine zz_goto zd_10_24_46 ?_
      refine zz_less (ls1 := [some (.ref 1042), some (zi p0), some (zi p1), some (zi (x3 + 1))]) ⟨rfl, ⟨rfl, ⟨rfl, ⟨rfl, trivial⟩⟩⟩⟩ ?_
      exact k2 (x3 + 1) S G_S F_S (by omega) (by omega)
    · refine zz_aload_n (x := 1042) rfl zd_10_24_23 ?_
      refine zz_iload_n (x := x3) rfl zd_10_24_24 ?_
      refine zz_iload_n (x := p1) rfl zd_10_24_25 ?_
      refine zz_callVI [zi x3, zi p1] zd_10_24_26 zk_Run_176 zT_1042 (zz_ltn hn rfl) rfl rfl ⟨Nat.le_of_ble_eq_true rfl, Nat.le_of_ble_eq_true rfl⟩ ⟨rfl, rfl⟩ (Nat.zero_le _) (Nat.zero_le _) (zc_hadBegun_10_22 x3 p1 S n hn G_S (by omega) (by omega)) (fun v11 S10 hP => ?_)
      obtain ⟨rfl, o12⟩ := hP
      rcases (by omega : v11 = 0 ∨ v11 = 1) with rfl | rfl
      · refine zz_if_eq (by omega) zd_10_24_29 (fun c13 => ?_) (fun c13 => ?_)
        · refine zz_iinc [some (.ref 1042), some (zi p0), some (zi p1), some (zi (x3 + 1))] zd_10_24_43 rfl rfl ?_
          refine zz_goto zd_10_24_46 ?_
          refine zz_less (ls1 := [some (.ref 1042), some (zi p0), some (zi p1), some (zi (x3 + 1))]) ⟨rfl, ⟨rfl, ⟨rfl, ⟨rfl, trivial⟩⟩⟩⟩ ?_
          exact k2 (x3 + 1) S G_S F_S (by omega) (by omega)
        · exfalso; omega
      · refine zz_if_eq (by omega) zd_10_24_29 (fun c14 => ?_) (fun c14 => ?_)
        · exfalso; omega
        · refine zz_aload_n (x := 1042) rfl zd_10_24_32 ?_
          refine zz_iload_n (x := x3) rfl zd_10_24_33 ?_
          refine zz_iload_n (x := p1) rfl zd_10_24_34 ?_
          refine zz_callVI [zi x3, zi p1] zd_10_24_35 zk_Run_180 zT_1042 (zz_ltn hn rfl) rfl rfl ⟨Nat.le_of_ble_eq_true rfl, Nat.le_of_ble_eq_true rfl⟩ ⟨rfl, rfl⟩ (Nat.zero_le _) (Nat.zero_le _) (zc_hadEnded_10_23 x3 p1 S n hn G_S (by omega) (by omega)) (fun v16 S15 hP => ?_)
          obtain ⟨rfl, o17⟩ := hP
          rcases (by omega : v16 = 0 ∨ v16 = 1) with rfl | rfl
          · refine zz_if_ne (by omega) zd_10_24_38 (fun c18 => ?_) (fun c18 => ?_)
            · exfalso; omega
            · refine zz_iload_n (x := x3) rfl zd_10_24_41 ?_
              exact zz_iret zd_10_24_42 rfl (Nat.zero_le _) (Nat.zero_le _) ⟨_, _, rfl, zz_fr.eq F_S, by omega⟩
          · refine zz_if_ne (by omega) zd_10_24_38 (fun c19 => ?_) (fun c19 => ?_)
            · refine zz_iinc [some (.ref 1042), some (zi p0), some (zi p1), some (zi (x3 + 1))] zd_10_24_43 rfl rfl ?_
              refine zz_goto zd_10_24_46 ?_
              refine zz_less (ls1 := [some (.ref 1042), some (zi p0), some (zi p1), some (zi (x3 + 1))]) ⟨rfl, ⟨rfl, ⟨rfl, ⟨rfl, trivial⟩⟩⟩⟩ ?_
              exact k2 (x3 + 1) S G_S F_S (by omega) (by omega)
            · exfalso; omega
theorem zi_underWayAt_10_24 {g : mm_G} {l : Launch} (p0 : Int) (p1 : Int) (S0 : zz_S) (n : Nat) (hn : zz_end ≤ n) (G_S0 : zz_G S0) (hp0 : (-2147483648) ≤ p0 ∧ p0 ≤ 2147483647) (hp1 : (-2147483648) ≤ p1 ∧ p1 ≤ 2147483647) : ∀ N : Nat, (∀ (x3 : Int) (S : zz_S), zz_G S → zz_fr [] [] (fun _ _ => False) S0 S → (0 ≤ x3 ∧ x3 ≤ 600) → (S0 1042 9 - x3).toNat < N → zz_E g l zy_underWayAt_10_24 zr_underWayAt_10_24 (zz_QI n (zp_underWayAt_10_24 p0 p1 S0)) S n 2 [some (.ref 1042), some (zi p0), some (zi p1), some (zi x3)] [] 0 0) := by
  intro N
  induction N with
  | zero => exact fun x3 S _ _ _ h => absurd h (Nat.not_lt_zero _)
  | succ N ih =>
    exact fun x3 S a b j0 hR => zb_underWayAt_10_24_2 p0 p1 S0 n hn G_S0 hp0 hp1 x3 S a b j0 _ rfl (fun x3 S a b j0 h => ih x3 S a b j0 (Nat.lt_of_lt_of_le h (Nat.le_of_lt_succ hR)))
theorem zc_underWayAt_10_24 {g : mm_G} {l : Launch} (p0 : Int) (p1 : Int) (S0 : zz_S) (n : Nat) (hn : zz_end ≤ n) (G_S0 : zz_G S0) (hp0 : (-2147483648) ≤ p0 ∧ p0 ≤ 2147483647) (hp1 : (-2147483648) ≤ p1 ∧ p1 ≤ 2147483647) : mm_Met g l zy_underWayAt_10_24 zr_underWayAt_10_24 [.ref 1042, zi p0, zi p1] (zz_M S0 n) n (zz_QI n (zp_underWayAt_10_24 p0 p1 S0)) := by
  refine zz_enter (by decide) (Nat.le_of_ble_eq_true rfl) (zz_less (ls1 := [some (.ref 1042), some (zi p0), some (zi p1)]) ⟨rfl, ⟨rfl, ⟨rfl, trivial⟩⟩⟩ ?_)
  have F_S0 : zz_fr [] [] (fun _ _ => False) S0 S0 := zz_fr.refl
  have k2 : ∀ (x3 : Int) (S : zz_S), zz_G S → zz_fr [] [] (fun _ _ => False) S0 S → (0 ≤ x3 ∧ x3 ≤ 600) → zz_E g l zy_underWayAt_10_24 zr_underWayAt_10_24 (zz_QI n (zp_underWayAt_10_24 p0 p1 S0)) S n 2 [some (.ref 1042), some (zi p0), some (zi p1), some (zi x3)] [] 0 0 := fun x3 S a b j0 => (zi_underWayAt_10_24 (g := g) (l := l) p0 p1 S0 n hn G_S0 hp0 hp1 _) x3 S a b j0 (Nat.lt_succ_self _)
  refine zz_iconst zd_10_24_0 ?_
  refine zz_istore_n [some (.ref 1042), some (zi p0), some (zi p1), some (zi 0)] zd_10_24_1 (by decide) rfl ?_
  have g1 := zz_G.r G_S0 1042 9 0 600 rfl rfl
  refine zz_less (ls1 := [some (.ref 1042), some (zi p0), some (zi p1), some (zi 0)]) ⟨rfl, ⟨rfl, ⟨rfl, ⟨rfl, trivial⟩⟩⟩⟩ ?_
  exact k2 0 S0 G_S0 F_S0 (by omega)
theorem zk_TF_320 : mm_Vl "TensorForge" 320 5 2 zy_underWayAt_10_24 := ⟨zyw_underWayAt_10_24, (R_Run, F_Run, 10), rfl, mm_tb_1 1546 (by decide +kernel) rfl, mm_tb_1 1547 (by decide +kernel) rfl, mm_tb_1 1548 (by decide +kernel) rfl⟩
theorem zg_1_28_19 : zq_at zy_under_1_28.2.1 19 172 := by decide +kernel
theorem zd_1_28_19 : zz_D zy_under_1_28 19 (.ireturn) 1 20 := ⟨zq_172 zg_1_28_19, rfl⟩
-- TensorForge under (II)I
abbrev zr_under_1_28 : Room := { frames := 7, cells := 2, slots := 12, locals := 96 }
def zp_under_1_28 (p0 : Int) (p1 : Int) (S0 : zz_S) : Int → zz_S → Prop := fun r S => S0 = S ∧ ((-2147483648) ≤ r ∧ r ≤ 2147483647)
def zx_under_1_28 (p0 : Int) (p1 : Int) (S0 : zz_S) : Nat → zz_S → Prop := fun i S => S0 = S ∧ (i < 4) ∧ (i = 0 ∨ i = 3)
theorem zc_under_1_28 {g : mm_G} {l : Launch} (p0 : Int) (p1 : Int) (S0 : zz_S) (n : Nat) (hn : zz_end ≤ n) (hfl : l.flags = flags0) (G_S0 : zz_G S0) (hp0 : (-2147483648) ≤ p0 ∧ p0 ≤ 2147483647) (hp1 : (-2147483648) ≤ p1 ∧ p1 ≤ 2147483647) : mm_Met g l zy_under_1_28 zr_under_1_28 [.ref 1000, zi p0, zi p1] (zz_M S0 n) n (zz_XI n (zp_under_1_28 p0 p1 S0) (zx_under_1_28 p0 p1 S0)) := by
  refine zz_enter (by decide) (Nat.le_of_ble_eq_true rfl) (zz_less (ls1 := [some (.ref 1000), some (zi p0), some (zi p1)]) ⟨rfl, ⟨rfl, ⟨rfl, trivial⟩⟩⟩ ?_)
  refine zz_aload_n (x := 1000) rfl zd_1_28_0 ?_
  refine zz_callVXV [] zd_1_28_1 zk_TF_191 zT_1000 (zz_ltn hn rfl) rfl rfl ⟨Nat.le_of_ble_eq_true rfl, Nat.le_of_ble_eq_true rfl⟩ (Nat.le_of_ble_eq_true rfl) (Nat.le_of_ble_eq_true rfl) (zc_needRun_1_32  S0 n hn hfl G_S0 ) zyw_under_1_28 (fun i SX hX => by obtain ⟨rfl, x0, x1⟩ := hX; exact Or.inr ⟨_, _, rfl, rfl, by omega, by omega⟩) (fun S3 hP => ?_)
  obtain ⟨rfl⟩ := hP
  refine zz_aload_n (x := 1000) rfl zd_1_28_4 ?_
  refine zz_iload_n (x := p0) rfl zd_1_28_5 ?_
  refine zz_iload_n (x := p1) rfl zd_1_28_6 ?_
  refine zz_callVXV [zi p0, zi p1] zd_1_28_7 zk_TF_317 zT_1000 (zz_ltn hn rfl) rfl rfl ⟨Nat.le_of_ble_eq_true rfl, Nat.le_of_ble_eq_true rfl⟩ (Nat.le_of_ble_eq_true rfl) (Nat.le_of_ble_eq_true rfl) (zc_needUnitAndCycle_1_33 p0 p1 S0 n hn hfl G_S0 (by omega) (by omega)) zyw_under_1_28 (fun i SX hX => by obtain ⟨rfl, x0, x1⟩ := hX; exact Or.inr ⟨_, _, rfl, rfl, by omega, by omega⟩) (fun S7 hP => ?_)
  obtain ⟨rfl⟩ := hP
  refine zz_aload_n (x := 1000) rfl zd_1_28_10 ?_
  refine zz_getr (kd := 0) (z := 1042) zd_1_28_11 zf_TF_42 zT_1000 rfl (zz_ltn hn rfl) (zz_G.eq G_S0 1000 1 1042 rfl rfl) (by decide) 1042 rfl ?_
  refine zz_iload_n (x := p0) rfl zd_1_28_14 ?_
  refine zz_iload_n (x := p1) rfl zd_1_28_15 ?_
  refine zz_callVI [zi p0, zi p1] zd_1_28_16 zk_TF_320 zT_1042 (zz_ltn hn rfl) rfl rfl ⟨Nat.le_of_ble_eq_true rfl, Nat.le_of_ble_eq_true rfl⟩ ⟨rfl, rfl⟩ (Nat.le_of_ble_eq_true rfl) (Nat.le_of_ble_eq_true rfl) (zc_underWayAt_10_24 p0 p1 S0 n hn G_S0 (by omega) (by omega)) (fun v10 S9 hP => ?_)
  obtain ⟨rfl, o11⟩ := hP
  exact zz_iret zd_1_28_19 rfl (Nat.le_of_ble_eq_true rfl) (Nat.le_of_ble_eq_true rfl) (Or.inl ⟨_, _, rfl, rfl, by omega⟩)
abbrev zy_waits_1_29 : mm_Y := (⟨"TensorForge", "waits", "(II)I"⟩, prog_1_method_29_code, 3, (some .int))
theorem zyw_waits_1_29 : mm_Yw zy_waits_1_29 2 := ⟨mm_tb_1 1564 (by decide +kernel) rfl, mm_tb_1 1 (by decide +kernel) rfl, ⟨by decide, by decide⟩, by decide +kernel⟩
abbrev zy_missingAt_10_25 : mm_Y := (⟨"TensorForge$Run", "missingAt", "(II)I"⟩, prog_10_method_25_code, 5, (some .int))
theorem zyw_missingAt_10_25 : mm_Yw zy_missingAt_10_25 2 := ⟨mm_tb_1 1568 (by decide +kernel) rfl, mm_tb_1 6 (by decide +kernel) rfl, ⟨by decide, by decide⟩, by decide +kernel⟩
abbrev zy_firstNotBegun_10_26 : mm_Y := (⟨"TensorForge$Run", "firstNotBegun", "(II)I"⟩, prog_10_method_26_code, 4, (some .int))
theorem zyw_firstNotBegun_10_26 : mm_Yw zy_firstNotBegun_10_26 2 := ⟨mm_tb_1 1572 (by decide +kernel) rfl, mm_tb_1 6 (by decide +kernel) rfl, ⟨by decide, by decide⟩, by decide +kernel⟩
theorem zg_1_29_0 : zq_at zy_waits_1_29.2.1 0 42 ∧ zq_at zy_waits_1_29.2.1 1 182 ∧ zq_at zy_waits_1_29.2.1 2 0 ∧ zq_at zy_waits_1_29.2.1 3 191 ∧ zq_at zy_waits_1_29.2.1 4 42 ∧ zq_at zy_waits_1_29.2.1 5 27 ∧ zq_at zy_waits_1_29.2.1 6 28 ∧ zq_at zy_waits_1_29.2.1 7 182 ∧ zq_at zy_waits_1_29.2.1 8 1 ∧ zq_at zy_waits_1_29.2.1 9 61 ∧ zq_at zy_waits_1_29.2.1 10 42 ∧ zq_at zy_waits_1_29.2.1 11 180 ∧ zq_at zy_waits_1_29.2.1 12 0 ∧ zq_at zy_waits_1_29.2.1 13 42 ∧ zq_at zy_waits_1_29.2.1 14 27 ∧ zq_at zy_waits_1_29.2.1 15 28 ∧ zq_at zy_waits_1_29.2.1 16 182 ∧ zq_at zy_waits_1_29.2.1 17 1 ∧ zq_at zy_waits_1_29.2.1 18 67 := by decide +kernel
theorem zd_1_29_0 : zz_D zy_waits_1_29 0 (.aload_n 0) 1 1 := ⟨zq_42 zg_1_29_0.1, rfl⟩
theorem zd_1_29_1 : zz_D zy_waits_1_29 1 (.invokevirtual 191) 3 4 := ⟨zq_182 zg_1_29_0.2.1 zg_1_29_0.2.2.1 zg_1_29_0.2.2.2.1 rfl, rfl⟩
theorem zd_1_29_4 : zz_D zy_waits_1_29 4 (.aload_n 0) 1 5 := ⟨zq_42 zg_1_29_0.2.2.2.2.1, rfl⟩
theorem zd_1_29_5 : zz_D zy_waits_1_29 5 (.iload_n 1) 1 6 := ⟨zq_27 zg_1_29_0.2.2.2.2.2.1, rfl⟩
theorem zd_1_29_6 : zz_D zy_waits_1_29 6 (.iload_n 2) 1 7 := ⟨zq_28 zg_1_29_0.2.2.2.2.2.2.1, rfl⟩
theorem zd_1_29_7 : zz_D zy_waits_1_29 7 (.invokevirtual 317) 3 10 := ⟨zq_182 zg_1_29_0.2.2.2.2.2.2.2.1 zg_1_29_0.2.2.2.2.2.2.2.2.1 zg_1_29_0.2.2.2.2.2.2.2.2.2.1 rfl, rfl⟩
theorem zd_1_29_10 : zz_D zy_waits_1_29 10 (.aload_n 0) 1 11 := ⟨zq_42 zg_1_29_0.2.2.2.2.2.2.2.2.2.2.1, rfl⟩
theorem zd_1_29_11 : zz_D zy_waits_1_29 11 (.getfield 42) 3 14 := ⟨zq_180 zg_1_29_0.2.2.2.2.2.2.2.2.2.2.2.1 zg_1_29_0.2.2.2.2.2.2.2.2.2.2.2.2.1 zg_1_29_0.2.2.2.2.2.2.2.2.2.2.2.2.2.1 rfl, rfl⟩
theorem zd_1_29_14 : zz_D zy_waits_1_29 14 (.iload_n 1) 1 15 := ⟨zq_27 zg_1_29_0.2.2.2.2.2.2.2.2.2.2.2.2.2.2.1, rfl⟩
theorem zd_1_29_15 : zz_D zy_waits_1_29 15 (.iload_n 2) 1 16 := ⟨zq_28 zg_1_29_0.2.2.2.2.2.2.2.2.2.2.2.2.2.2.2.1, rfl⟩
theorem zd_1_29_16 : zz_D zy_waits_1_29 16 (.invokevirtual 323) 3 19 := ⟨zq_182 zg_1_29_0.2.2.2.2.2.2.2.2.2.2.2.2.2.2.2.2.1 zg_1_29_0.2.2.2.2.2.2.2.2.2.2.2.2.2.2.2.2.2.1 zg_1_29_0.2.2.2.2.2.2.2.2.2.2.2.2.2.2.2.2.2.2 rfl, rfl⟩
theorem zg_10_25_0 : zq_at zy_missingAt_10_25.2.1 0 42 ∧ zq_at zy_missingAt_10_25.2.1 1 27 ∧ zq_at zy_missingAt_10_25.2.1 2 28 ∧ zq_at zy_missingAt_10_25.2.1 3 182 ∧ zq_at zy_missingAt_10_25.2.1 4 0 ∧ zq_at zy_missingAt_10_25.2.1 5 183 := by decide +kernel
theorem zd_10_25_0 : zz_D zy_missingAt_10_25 0 (.aload_n 0) 1 1 := ⟨zq_42 zg_10_25_0.1, rfl⟩
theorem zd_10_25_1 : zz_D zy_missingAt_10_25 1 (.iload_n 1) 1 2 := ⟨zq_27 zg_10_25_0.2.1, rfl⟩
theorem zd_10_25_2 : zz_D zy_missingAt_10_25 2 (.iload_n 2) 1 3 := ⟨zq_28 zg_10_25_0.2.2.1, rfl⟩
theorem zd_10_25_3 : zz_D zy_missingAt_10_25 3 (.invokevirtual 183) 3 6 := ⟨zq_182 zg_10_25_0.2.2.2.1 zg_10_25_0.2.2.2.2.1 zg_10_25_0.2.2.2.2.2 rfl, rfl⟩
theorem zg_10_26_0 : zq_at zy_firstNotBegun_10_26.2.1 0 3 ∧ zq_at zy_firstNotBegun_10_26.2.1 1 62 ∧ zq_at zy_firstNotBegun_10_26.2.1 2 29 ∧ zq_at zy_firstNotBegun_10_26.2.1 3 42 ∧ zq_at zy_firstNotBegun_10_26.2.1 4 180 ∧ zq_at zy_firstNotBegun_10_26.2.1 5 0 ∧ zq_at zy_firstNotBegun_10_26.2.1 6 46 ∧ zq_at zy_firstNotBegun_10_26.2.1 7 162 ∧ zq_at zy_firstNotBegun_10_26.2.1 8 0 ∧ zq_at zy_firstNotBegun_10_26.2.1 9 33 ∧ zq_at zy_firstNotBegun_10_26.2.1 40 2 ∧ zq_at zy_firstNotBegun_10_26.2.1 41 172 ∧ zq_at zy_firstNotBegun_10_26.2.1 10 42 ∧ zq_at zy_firstNotBegun_10_26.2.1 11 180 ∧ zq_at zy_firstNotBegun_10_26.2.1 12 0 ∧ zq_at zy_firstNotBegun_10_26.2.1 13 19 ∧ zq_at zy_firstNotBegun_10_26.2.1 14 29 ∧ zq_at zy_firstNotBegun_10_26.2.1 15 47 ∧ zq_at zy_firstNotBegun_10_26.2.1 16 184 ∧ zq_at zy_firstNotBegun_10_26.2.1 17 0 ∧ zq_at zy_firstNotBegun_10_26.2.1 18 107 ∧ zq_at zy_firstNotBegun_10_26.2.1 19 27 := by decide +kernel
theorem zd_10_26_0 : zz_D zy_firstNotBegun_10_26 0 (.iconst 0) 1 1 := ⟨zq_3 zg_10_26_0.1, rfl⟩
theorem zd_10_26_1 : zz_D zy_firstNotBegun_10_26 1 (.istore_n 3) 1 2 := ⟨zq_62 zg_10_26_0.2.1, rfl⟩
theorem zd_10_26_2 : zz_D zy_firstNotBegun_10_26 2 (.iload_n 3) 1 3 := ⟨zq_29 zg_10_26_0.2.2.1, rfl⟩
theorem zd_10_26_3 : zz_D zy_firstNotBegun_10_26 3 (.aload_n 0) 1 4 := ⟨zq_42 zg_10_26_0.2.2.2.1, rfl⟩
theorem zd_10_26_4 : zz_D zy_firstNotBegun_10_26 4 (.getfield 46) 3 7 := ⟨zq_180 zg_10_26_0.2.2.2.2.1 zg_10_26_0.2.2.2.2.2.1 zg_10_26_0.2.2.2.2.2.2.1 rfl, rfl⟩
theorem zd_10_26_7 : zz_B zy_firstNotBegun_10_26 7 (Instr.if_icmp .ge) 40 10 := ⟨33, zq_162 zg_10_26_0.2.2.2.2.2.2.2.1 zg_10_26_0.2.2.2.2.2.2.2.2.1 zg_10_26_0.2.2.2.2.2.2.2.2.2.1 (by decide), rfl, rfl⟩
theorem zd_10_26_40 : zz_D zy_firstNotBegun_10_26 40 (.iconst (-1)) 1 41 := ⟨zq_2 zg_10_26_0.2.2.2.2.2.2.2.2.2.2.1, rfl⟩
theorem zd_10_26_41 : zz_D zy_firstNotBegun_10_26 41 (.ireturn) 1 42 := ⟨zq_172 zg_10_26_0.2.2.2.2.2.2.2.2.2.2.2.1, rfl⟩
theorem zd_10_26_10 : zz_D zy_firstNotBegun_10_26 10 (.aload_n 0) 1 11 := ⟨zq_42 zg_10_26_0.2.2.2.2.2.2.2.2.2.2.2.2.1, rfl⟩
theorem zd_10_26_11 : zz_D zy_firstNotBegun_10_26 11 (.getfield 19) 3 14 := ⟨zq_180 zg_10_26_0.2.2.2.2.2.2.2.2.2.2.2.2.2.1 zg_10_26_0.2.2.2.2.2.2.2.2.2.2.2.2.2.2.1 zg_10_26_0.2.2.2.2.2.2.2.2.2.2.2.2.2.2.2.1 rfl, rfl⟩
theorem zd_10_26_14 : zz_D zy_firstNotBegun_10_26 14 (.iload_n 3) 1 15 := ⟨zq_29 zg_10_26_0.2.2.2.2.2.2.2.2.2.2.2.2.2.2.2.2.1, rfl⟩
theorem zd_10_26_15 : zz_D zy_firstNotBegun_10_26 15 (.laload) 1 16 := ⟨zq_47 zg_10_26_0.2.2.2.2.2.2.2.2.2.2.2.2.2.2.2.2.2.1, rfl⟩
theorem zd_10_26_16 : zz_D zy_firstNotBegun_10_26 16 (.invokestatic 107) 3 19 := ⟨zq_184 zg_10_26_0.2.2.2.2.2.2.2.2.2.2.2.2.2.2.2.2.2.2.1 zg_10_26_0.2.2.2.2.2.2.2.2.2.2.2.2.2.2.2.2.2.2.2.1 zg_10_26_0.2.2.2.2.2.2.2.2.2.2.2.2.2.2.2.2.2.2.2.2.1 rfl, rfl⟩
theorem zd_10_26_19 : zz_D zy_firstNotBegun_10_26 19 (.iload_n 1) 1 20 := ⟨zq_27 zg_10_26_0.2.2.2.2.2.2.2.2.2.2.2.2.2.2.2.2.2.2.2.2.2, rfl⟩
theorem zg_10_26_20 : zq_at zy_firstNotBegun_10_26.2.1 20 160 ∧ zq_at zy_firstNotBegun_10_26.2.1 21 0 ∧ zq_at zy_firstNotBegun_10_26.2.1 22 14 ∧ zq_at zy_firstNotBegun_10_26.2.1 34 132 ∧ zq_at zy_firstNotBegun_10_26.2.1 35 3 ∧ zq_at zy_firstNotBegun_10_26.2.1 36 1 ∧ zq_at zy_firstNotBegun_10_26.2.1 37 167 ∧ zq_at zy_firstNotBegun_10_26.2.1 38 255 ∧ zq_at zy_firstNotBegun_10_26.2.1 39 221 ∧ zq_at zy_firstNotBegun_10_26.2.1 23 42 ∧ zq_at zy_firstNotBegun_10_26.2.1 24 29 ∧ zq_at zy_firstNotBegun_10_26.2.1 25 28 ∧ zq_at zy_firstNotBegun_10_26.2.1 26 182 ∧ zq_at zy_firstNotBegun_10_26.2.1 27 0 ∧ zq_at zy_firstNotBegun_10_26.2.1 28 176 ∧ zq_at zy_firstNotBegun_10_26.2.1 29 154 ∧ zq_at zy_firstNotBegun_10_26.2.1 30 0 ∧ zq_at zy_firstNotBegun_10_26.2.1 31 5 ∧ zq_at zy_firstNotBegun_10_26.2.1 32 29 ∧ zq_at zy_firstNotBegun_10_26.2.1 33 172 := by decide +kernel
theorem zd_10_26_20 : zz_B zy_firstNotBegun_10_26 20 (Instr.if_icmp .ne) 34 23 := ⟨14, zq_160 zg_10_26_20.1 zg_10_26_20.2.1 zg_10_26_20.2.2.1 (by decide), rfl, rfl⟩
theorem zd_10_26_34 : zz_D zy_firstNotBegun_10_26 34 (.iinc 3 1) 3 37 := ⟨zq_132 zg_10_26_20.2.2.2.1 zg_10_26_20.2.2.2.2.1 zg_10_26_20.2.2.2.2.2.1 (by decide), rfl⟩
theorem zd_10_26_37 : zz_B zy_firstNotBegun_10_26 37 Instr.goto 2 40 := ⟨(-35), zq_167 zg_10_26_20.2.2.2.2.2.2.1 zg_10_26_20.2.2.2.2.2.2.2.1 zg_10_26_20.2.2.2.2.2.2.2.2.1 (by decide), rfl, rfl⟩
theorem zd_10_26_23 : zz_D zy_firstNotBegun_10_26 23 (.aload_n 0) 1 24 := ⟨zq_42 zg_10_26_20.2.2.2.2.2.2.2.2.2.1, rfl⟩
theorem zd_10_26_24 : zz_D zy_firstNotBegun_10_26 24 (.iload_n 3) 1 25 := ⟨zq_29 zg_10_26_20.2.2.2.2.2.2.2.2.2.2.1, rfl⟩
theorem zd_10_26_25 : zz_D zy_firstNotBegun_10_26 25 (.iload_n 2) 1 26 := ⟨zq_28 zg_10_26_20.2.2.2.2.2.2.2.2.2.2.2.1, rfl⟩
theorem zd_10_26_26 : zz_D zy_firstNotBegun_10_26 26 (.invokevirtual 176) 3 29 := ⟨zq_182 zg_10_26_20.2.2.2.2.2.2.2.2.2.2.2.2.1 zg_10_26_20.2.2.2.2.2.2.2.2.2.2.2.2.2.1 zg_10_26_20.2.2.2.2.2.2.2.2.2.2.2.2.2.2.1 rfl, rfl⟩
theorem zd_10_26_29 : zz_B zy_firstNotBegun_10_26 29 (Instr.ifCond .ne) 34 32 := ⟨5, zq_154 zg_10_26_20.2.2.2.2.2.2.2.2.2.2.2.2.2.2.2.1 zg_10_26_20.2.2.2.2.2.2.2.2.2.2.2.2.2.2.2.2.1 zg_10_26_20.2.2.2.2.2.2.2.2.2.2.2.2.2.2.2.2.2.1 (by decide), rfl, rfl⟩
theorem zd_10_26_32 : zz_D zy_firstNotBegun_10_26 32 (.iload_n 3) 1 33 := ⟨zq_29 zg_10_26_20.2.2.2.2.2.2.2.2.2.2.2.2.2.2.2.2.2.2.1, rfl⟩
theorem zd_10_26_33 : zz_D zy_firstNotBegun_10_26 33 (.ireturn) 1 34 := ⟨zq_172 zg_10_26_20.2.2.2.2.2.2.2.2.2.2.2.2.2.2.2.2.2.2.2, rfl⟩
-- TensorForge$Run firstNotBegun (II)I
abbrev zr_firstNotBegun_10_26 : Room := { frames := 2, cells := 0, slots := 0, locals := 28 }
def zp_firstNotBegun_10_26 (p0 : Int) (p1 : Int) (S0 : zz_S) : Int → zz_S → Prop := fun r S => S0 = S ∧ ((-1) ≤ r ∧ r ≤ 599)
theorem zb_firstNotBegun_10_26_2 {g : mm_G} {l : Launch} (p0 : Int) (p1 : Int) (S0 : zz_S) (n : Nat) (hn : zz_end ≤ n) (G_S0 : zz_G S0) (hp0 : (-2147483648) ≤ p0 ∧ p0 ≤ 2147483647) (hp1 : (-2147483648) ≤ p1 ∧ p1 ≤ 2147483647) (x3 : Int) (S : zz_S) (G_S : zz_G S) (F_S : zz_fr [] [] (fun _ _ => False) S0 S) (i2_0 : 0 ≤ x3 ∧ x3 ≤ 600) (R : Nat) (hR : (S0 1042 9 - x3).toNat = R) (k2 : ∀ (x3 : Int) (S : zz_S), zz_G S → zz_fr [] [] (fun _ _ => False) S0 S → (0 ≤ x3 ∧ x3 ≤ 600) → (S0 1042 9 - x3).toNat < R → zz_E g l zy_firstNotBegun_10_26 zr_firstNotBegun_10_26 (zz_QI n (zp_firstNotBegun_10_26 p0 p1 S0)) S n 2 [some (.ref 1042), some (zi p0), some (zi p1), some (zi x3)] [] 0 0) : zz_E g l zy_firstNotBegun_10_26 zr_firstNotBegun_10_26 (zz_QI n (zp_firstNotBegun_10_26 p0 p1 S0)) S n 2 [some (.ref 1042), some (zi p0), some (zi p1), some (zi x3)] [] 0 0 := by
  refine zz_iload_n (x := x3) rfl zd_10_26_2 ?_
  refine zz_aload_n (x := 1042) rfl zd_10_26_3 ?_
  have g2 := zz_G.r G_S0 1042 9 0 600 rfl rfl
  refine zz_geti (z := S0 1042 9) zd_10_26_4 zf_Run_46 zT_1042 rfl (zz_ltn hn rfl) (zz_rc F_S rfl rfl (fun h => h) rfl) ?_
  refine zz_icmp_ge (by omega) (by omega) zd_10_26_7 (fun c3 => ?_) (fun c3 => ?_)
  · refine zz_iconst zd_10_26_40 ?_
    exact zz_iret zd_10_26_41 rfl (Nat.zero_le _) (Nat.zero_le _) ⟨_, _, rfl, zz_fr.eq F_S, by omega⟩
  · refine zz_aload_n (x := 1042) rfl zd_10_26_10 ?_
    refine zz_getr (kd := 0) (z := 1044) zd_10_26_11 zf_Run_19 zT_1042 rfl (zz_ltn hn rfl) (zz_G.eq G_S 1042 2 1044 rfl rfl) (by decide) 1044 rfl ?_
    refine zz_iload_n (x := x3) rfl zd_10_26_14 ?_
    have g4 := zz_G.r G_S0 1044 x3.toNat (-9223372036854775808) 9223372036854775807 rfl rfl
    refine zz_lald (z := S0 1044 x3.toNat) zd_10_26_15 zT_1044 rfl (zz_ltn hn rfl) (by decide) (by omega) (zz_rc F_S (zz_nc1 rfl) rfl (fun h => h) rfl) ?_
    refine zz_callSI [zl (S0 1044 x3.toNat)] zd_10_26_16 zk_Run_107 rfl rfl ⟨Nat.le_of_ble_eq_true rfl, Nat.le_of_ble_eq_true rfl⟩ ⟨rfl, rfl⟩ (Nat.zero_le _) (Nat.zero_le _) (zc_unitOf_12_10 (S0 1044 x3.toNat) S n hn G_S (by omega)) (fun v6 S5 hP => ?_)
    obtain ⟨rfl, o7, o8⟩ := hP
    refine zz_iload_n (x := p0) rfl zd_10_26_19 ?_
    refine zz_icmp_ne (by omega) (by omega) zd_10_26_20 (fun c9 => ?_) (fun c9 => ?_)
    · refine zz_iinc [some (.ref 1042), some (zi p0), some (zi p1), some (zi (x3 + 1))] zd_10_26_34 rfl rfl ?_
      refine zz_goto zd_10_26_37 ?_
      refine zz_less (ls1 := [some (.ref 1042), some (zi p0), some (zi p1), some (zi (x3 + 1))]) ⟨rfl, ⟨rfl, ⟨rfl, ⟨rfl, trivial⟩⟩⟩⟩ ?_
      exact k2 (x3 + 1) S G_S F_S (by omega) (by omega)
    · refine zz_aload_n (x := 1042) rfl zd_10_26_23 ?_
      refine zz_iload_n (x := x3) rfl zd_10_26_24 ?_
      refine zz_iload_n (x := p1) rfl zd_10_26_25 ?_
      refine zz_callVI [zi x3, zi p1] zd_10_26_26 zk_Run_176 zT_1042 (zz_ltn hn rfl) rfl rfl ⟨Nat.le_of_ble_eq_true rfl, Nat.le_of_ble_eq_true rfl⟩ ⟨rfl, rfl⟩ (Nat.zero_le _) (Nat.zero_le _) (zc_hadBegun_10_22 x3 p1 S n hn G_S (by omega) (by omega)) (fun v11 S10 hP => ?_)
      obtain ⟨rfl, o12⟩ := hP
      rcases (by omega : v11 = 0 ∨ v11 = 1) with rfl | rfl
      · refine zz_if_ne (by omega) zd_10_26_29 (fun c13 => ?_) (fun c13 => ?_)
        · exfalso; omega
        · refine zz_iload_n (x := x3) rfl zd_10_26_32 ?_
          exact zz_iret zd_10_26_33 rfl (Nat.zero_le _) (Nat.zero_le _) ⟨_, _, rfl, zz_fr.eq F_S, by omega⟩
      · refine zz_if_ne (by omega) zd_10_26_29 (fun c14 => ?_) (fun c14 => ?_)
        · refine zz_iinc [some (.ref 1042), some (zi p0), some (zi p1), some (zi (x3 + 1))] zd_10_26_34 rfl rfl ?_
          refine zz_goto zd_10_26_37 ?_
          refine zz_less (ls1 := [some (.ref 1042), some (zi p0), some (zi p1), some (zi (x3 + 1))]) ⟨rfl, ⟨rfl, ⟨rfl, ⟨rfl, trivial⟩⟩⟩⟩ ?_
          exact k2 (x3 + 1) S G_S F_S (by omega) (by omega)
        · exfalso; omega
theorem zi_firstNotBegun_10_26 {g : mm_G} {l : Launch} (p0 : Int) (p1 : Int) (S0 : zz_S) (n : Nat) (hn : zz_end ≤ n) (G_S0 : zz_G S0) (hp0 : (-2147483648) ≤ p0 ∧ p0 ≤ 2147483647) (hp1 : (-2147483648) ≤ p1 ∧ p1 ≤ 2147483647) : ∀ N : Nat, (∀ (x3 : Int) (S : zz_S), zz_G S → zz_fr [] [] (fun _ _ => False) S0 S → (0 ≤ x3 ∧ x3 ≤ 600) → (S0 1042 9 - x3).toNat < N → zz_E g l zy_firstNotBegun_10_26 zr_firstNotBegun_10_26 (zz_QI n (zp_firstNotBegun_10_26 p0 p1 S0)) S n 2 [some (.ref 1042), some (zi p0), some (zi p1), some (zi x3)] [] 0 0) := by
  intro N
  induction N with
  | zero => exact fun x3 S _ _ _ h => absurd h (Nat.not_lt_zero _)
  | succ N ih =>
    exact fun x3 S a b j0 hR => zb_firstNotBegun_10_26_2 p0 p1 S0 n hn G_S0 hp0 hp1 x3 S a b j0 _ rfl (fun x3 S a b j0 h => ih x3 S a b j0 (Nat.lt_of_lt_of_le h (Nat.le_of_lt_succ hR)))
theorem zc_firstNotBegun_10_26 {g : mm_G} {l : Launch} (p0 : Int) (p1 : Int) (S0 : zz_S) (n : Nat) (hn : zz_end ≤ n) (G_S0 : zz_G S0) (hp0 : (-2147483648) ≤ p0 ∧ p0 ≤ 2147483647) (hp1 : (-2147483648) ≤ p1 ∧ p1 ≤ 2147483647) : mm_Met g l zy_firstNotBegun_10_26 zr_firstNotBegun_10_26 [.ref 1042, zi p0, zi p1] (zz_M S0 n) n (zz_QI n (zp_firstNotBegun_10_26 p0 p1 S0)) := by
  refine zz_enter (by decide) (Nat.le_of_ble_eq_true rfl) (zz_less (ls1 := [some (.ref 1042), some (zi p0), some (zi p1)]) ⟨rfl, ⟨rfl, ⟨rfl, trivial⟩⟩⟩ ?_)
  have F_S0 : zz_fr [] [] (fun _ _ => False) S0 S0 := zz_fr.refl
  have k2 : ∀ (x3 : Int) (S : zz_S), zz_G S → zz_fr [] [] (fun _ _ => False) S0 S → (0 ≤ x3 ∧ x3 ≤ 600) → zz_E g l zy_firstNotBegun_10_26 zr_firstNotBegun_10_26 (zz_QI n (zp_firstNotBegun_10_26 p0 p1 S0)) S n 2 [some (.ref 1042), some (zi p0), some (zi p1), some (zi x3)] [] 0 0 := fun x3 S a b j0 => (zi_firstNotBegun_10_26 (g := g) (l := l) p0 p1 S0 n hn G_S0 hp0 hp1 _) x3 S a b j0 (Nat.lt_succ_self _)
  refine zz_iconst zd_10_26_0 ?_
  refine zz_istore_n [some (.ref 1042), some (zi p0), some (zi p1), some (zi 0)] zd_10_26_1 (by decide) rfl ?_
  have g1 := zz_G.r G_S0 1042 9 0 600 rfl rfl
  refine zz_less (ls1 := [some (.ref 1042), some (zi p0), some (zi p1), some (zi 0)]) ⟨rfl, ⟨rfl, ⟨rfl, ⟨rfl, trivial⟩⟩⟩⟩ ?_
  exact k2 0 S0 G_S0 F_S0 (by omega)
theorem zk_Run_183 : mm_Vl "TensorForge$Run" 183 5 2 zy_firstNotBegun_10_26 := ⟨zyw_firstNotBegun_10_26, (R_Run, F_Run, 10), rfl, mm_tb_1 1569 (by decide +kernel) rfl, mm_tb_1 1571 (by decide +kernel) rfl, mm_tb_s 82 (by decide +kernel) rfl⟩
theorem zk_Run_186 : mm_Vl "TensorForge$Run" 186 5 2 zy_underWayAt_10_24 := ⟨zyw_underWayAt_10_24, (R_Run, F_Run, 10), rfl, mm_tb_1 1573 (by decide +kernel) rfl, mm_tb_1 1547 (by decide +kernel) rfl, mm_tb_1 1548 (by decide +kernel) rfl⟩
abbrev zy_pushesUpTo_10_27 : mm_Y := (⟨"TensorForge$Run", "pushesUpTo", "(III)I"⟩, prog_10_method_27_code, 6, (some .int))
theorem zyw_pushesUpTo_10_27 : mm_Yw zy_pushesUpTo_10_27 3 := ⟨mm_tb_1 1577 (by decide +kernel) rfl, mm_tb_1 6 (by decide +kernel) rfl, ⟨by decide, by decide⟩, by decide +kernel⟩
theorem zg_10_25_6 : zq_at zy_missingAt_10_25.2.1 6 62 ∧ zq_at zy_missingAt_10_25.2.1 7 29 ∧ zq_at zy_missingAt_10_25.2.1 8 2 ∧ zq_at zy_missingAt_10_25.2.1 9 159 ∧ zq_at zy_missingAt_10_25.2.1 10 0 ∧ zq_at zy_missingAt_10_25.2.1 11 13 ∧ zq_at zy_missingAt_10_25.2.1 22 3 ∧ zq_at zy_missingAt_10_25.2.1 23 172 ∧ zq_at zy_missingAt_10_25.2.1 12 42 ∧ zq_at zy_missingAt_10_25.2.1 13 27 ∧ zq_at zy_missingAt_10_25.2.1 14 28 ∧ zq_at zy_missingAt_10_25.2.1 15 182 ∧ zq_at zy_missingAt_10_25.2.1 16 0 ∧ zq_at zy_missingAt_10_25.2.1 17 186 ∧ zq_at zy_missingAt_10_25.2.1 18 2 ∧ zq_at zy_missingAt_10_25.2.1 19 159 ∧ zq_at zy_missingAt_10_25.2.1 20 0 ∧ zq_at zy_missingAt_10_25.2.1 21 5 ∧ zq_at zy_missingAt_10_25.2.1 24 3 ∧ zq_at zy_missingAt_10_25.2.1 25 54 ∧ zq_at zy_missingAt_10_25.2.1 26 4 ∧ zq_at zy_missingAt_10_25.2.1 27 42 := by decide +kernel
theorem zd_10_25_6 : zz_D zy_missingAt_10_25 6 (.istore_n 3) 1 7 := ⟨zq_62 zg_10_25_6.1, rfl⟩
theorem zd_10_25_7 : zz_D zy_missingAt_10_25 7 (.iload_n 3) 1 8 := ⟨zq_29 zg_10_25_6.2.1, rfl⟩
theorem zd_10_25_8 : zz_D zy_missingAt_10_25 8 (.iconst (-1)) 1 9 := ⟨zq_2 zg_10_25_6.2.2.1, rfl⟩
theorem zd_10_25_9 : zz_B zy_missingAt_10_25 9 (Instr.if_icmp .eq) 22 12 := ⟨13, zq_159 zg_10_25_6.2.2.2.1 zg_10_25_6.2.2.2.2.1 zg_10_25_6.2.2.2.2.2.1 (by decide), rfl, rfl⟩
theorem zd_10_25_22 : zz_D zy_missingAt_10_25 22 (.iconst 0) 1 23 := ⟨zq_3 zg_10_25_6.2.2.2.2.2.2.1, rfl⟩
theorem zd_10_25_23 : zz_D zy_missingAt_10_25 23 (.ireturn) 1 24 := ⟨zq_172 zg_10_25_6.2.2.2.2.2.2.2.1, rfl⟩
theorem zd_10_25_12 : zz_D zy_missingAt_10_25 12 (.aload_n 0) 1 13 := ⟨zq_42 zg_10_25_6.2.2.2.2.2.2.2.2.1, rfl⟩
theorem zd_10_25_13 : zz_D zy_missingAt_10_25 13 (.iload_n 1) 1 14 := ⟨zq_27 zg_10_25_6.2.2.2.2.2.2.2.2.2.1, rfl⟩
theorem zd_10_25_14 : zz_D zy_missingAt_10_25 14 (.iload_n 2) 1 15 := ⟨zq_28 zg_10_25_6.2.2.2.2.2.2.2.2.2.2.1, rfl⟩
theorem zd_10_25_15 : zz_D zy_missingAt_10_25 15 (.invokevirtual 186) 3 18 := ⟨zq_182 zg_10_25_6.2.2.2.2.2.2.2.2.2.2.2.1 zg_10_25_6.2.2.2.2.2.2.2.2.2.2.2.2.1 zg_10_25_6.2.2.2.2.2.2.2.2.2.2.2.2.2.1 rfl, rfl⟩
theorem zd_10_25_18 : zz_D zy_missingAt_10_25 18 (.iconst (-1)) 1 19 := ⟨zq_2 zg_10_25_6.2.2.2.2.2.2.2.2.2.2.2.2.2.2.1, rfl⟩
theorem zd_10_25_19 : zz_B zy_missingAt_10_25 19 (Instr.if_icmp .eq) 24 22 := ⟨5, zq_159 zg_10_25_6.2.2.2.2.2.2.2.2.2.2.2.2.2.2.2.1 zg_10_25_6.2.2.2.2.2.2.2.2.2.2.2.2.2.2.2.2.1 zg_10_25_6.2.2.2.2.2.2.2.2.2.2.2.2.2.2.2.2.2.1 (by decide), rfl, rfl⟩
theorem zd_10_25_24 : zz_D zy_missingAt_10_25 24 (.iconst 0) 1 25 := ⟨zq_3 zg_10_25_6.2.2.2.2.2.2.2.2.2.2.2.2.2.2.2.2.2.2.1, rfl⟩
theorem zd_10_25_25 : zz_D zy_missingAt_10_25 25 (.istore 4) 2 27 := ⟨zq_54 zg_10_25_6.2.2.2.2.2.2.2.2.2.2.2.2.2.2.2.2.2.2.2.1 zg_10_25_6.2.2.2.2.2.2.2.2.2.2.2.2.2.2.2.2.2.2.2.2.1, rfl⟩
theorem zd_10_25_27 : zz_D zy_missingAt_10_25 27 (.aload_n 0) 1 28 := ⟨zq_42 zg_10_25_6.2.2.2.2.2.2.2.2.2.2.2.2.2.2.2.2.2.2.2.2.2, rfl⟩
theorem zg_10_25_28 : zq_at zy_missingAt_10_25.2.1 28 180 ∧ zq_at zy_missingAt_10_25.2.1 29 0 ∧ zq_at zy_missingAt_10_25.2.1 30 19 ∧ zq_at zy_missingAt_10_25.2.1 31 29 ∧ zq_at zy_missingAt_10_25.2.1 32 47 ∧ zq_at zy_missingAt_10_25.2.1 33 4 ∧ zq_at zy_missingAt_10_25.2.1 34 184 ∧ zq_at zy_missingAt_10_25.2.1 35 0 ∧ zq_at zy_missingAt_10_25.2.1 36 150 ∧ zq_at zy_missingAt_10_25.2.1 37 153 ∧ zq_at zy_missingAt_10_25.2.1 38 0 ∧ zq_at zy_missingAt_10_25.2.1 39 25 ∧ zq_at zy_missingAt_10_25.2.1 62 42 ∧ zq_at zy_missingAt_10_25.2.1 63 180 ∧ zq_at zy_missingAt_10_25.2.1 64 0 ∧ zq_at zy_missingAt_10_25.2.1 65 19 ∧ zq_at zy_missingAt_10_25.2.1 66 29 ∧ zq_at zy_missingAt_10_25.2.1 67 47 ∧ zq_at zy_missingAt_10_25.2.1 68 5 ∧ zq_at zy_missingAt_10_25.2.1 69 184 ∧ zq_at zy_missingAt_10_25.2.1 70 0 ∧ zq_at zy_missingAt_10_25.2.1 71 150 := by decide +kernel
theorem zd_10_25_28 : zz_D zy_missingAt_10_25 28 (.getfield 19) 3 31 := ⟨zq_180 zg_10_25_28.1 zg_10_25_28.2.1 zg_10_25_28.2.2.1 rfl, rfl⟩
theorem zd_10_25_31 : zz_D zy_missingAt_10_25 31 (.iload_n 3) 1 32 := ⟨zq_29 zg_10_25_28.2.2.2.1, rfl⟩
theorem zd_10_25_32 : zz_D zy_missingAt_10_25 32 (.laload) 1 33 := ⟨zq_47 zg_10_25_28.2.2.2.2.1, rfl⟩
theorem zd_10_25_33 : zz_D zy_missingAt_10_25 33 (.iconst 1) 1 34 := ⟨zq_4 zg_10_25_28.2.2.2.2.2.1, rfl⟩
theorem zd_10_25_34 : zz_D zy_missingAt_10_25 34 (.invokestatic 150) 3 37 := ⟨zq_184 zg_10_25_28.2.2.2.2.2.2.1 zg_10_25_28.2.2.2.2.2.2.2.1 zg_10_25_28.2.2.2.2.2.2.2.2.1 rfl, rfl⟩
theorem zd_10_25_37 : zz_B zy_missingAt_10_25 37 (Instr.ifCond .eq) 62 40 := ⟨25, zq_153 zg_10_25_28.2.2.2.2.2.2.2.2.2.1 zg_10_25_28.2.2.2.2.2.2.2.2.2.2.1 zg_10_25_28.2.2.2.2.2.2.2.2.2.2.2.1 (by decide), rfl, rfl⟩
theorem zd_10_25_62 : zz_D zy_missingAt_10_25 62 (.aload_n 0) 1 63 := ⟨zq_42 zg_10_25_28.2.2.2.2.2.2.2.2.2.2.2.2.1, rfl⟩
theorem zd_10_25_63 : zz_D zy_missingAt_10_25 63 (.getfield 19) 3 66 := ⟨zq_180 zg_10_25_28.2.2.2.2.2.2.2.2.2.2.2.2.2.1 zg_10_25_28.2.2.2.2.2.2.2.2.2.2.2.2.2.2.1 zg_10_25_28.2.2.2.2.2.2.2.2.2.2.2.2.2.2.2.1 rfl, rfl⟩
theorem zd_10_25_66 : zz_D zy_missingAt_10_25 66 (.iload_n 3) 1 67 := ⟨zq_29 zg_10_25_28.2.2.2.2.2.2.2.2.2.2.2.2.2.2.2.2.1, rfl⟩
theorem zd_10_25_67 : zz_D zy_missingAt_10_25 67 (.laload) 1 68 := ⟨zq_47 zg_10_25_28.2.2.2.2.2.2.2.2.2.2.2.2.2.2.2.2.2.1, rfl⟩
theorem zd_10_25_68 : zz_D zy_missingAt_10_25 68 (.iconst 2) 1 69 := ⟨zq_5 zg_10_25_28.2.2.2.2.2.2.2.2.2.2.2.2.2.2.2.2.2.2.1, rfl⟩
theorem zd_10_25_69 : zz_D zy_missingAt_10_25 69 (.invokestatic 150) 3 72 := ⟨zq_184 zg_10_25_28.2.2.2.2.2.2.2.2.2.2.2.2.2.2.2.2.2.2.2.1 zg_10_25_28.2.2.2.2.2.2.2.2.2.2.2.2.2.2.2.2.2.2.2.2.1 zg_10_25_28.2.2.2.2.2.2.2.2.2.2.2.2.2.2.2.2.2.2.2.2.2 rfl, rfl⟩
theorem zg_10_25_72 : zq_at zy_missingAt_10_25.2.1 72 153 ∧ zq_at zy_missingAt_10_25.2.1 73 0 ∧ zq_at zy_missingAt_10_25.2.1 74 25 ∧ zq_at zy_missingAt_10_25.2.1 97 21 ∧ zq_at zy_missingAt_10_25.2.1 98 4 ∧ zq_at zy_missingAt_10_25.2.1 99 172 ∧ zq_at zy_missingAt_10_25.2.1 75 42 ∧ zq_at zy_missingAt_10_25.2.1 76 27 ∧ zq_at zy_missingAt_10_25.2.1 77 4 ∧ zq_at zy_missingAt_10_25.2.1 78 96 ∧ zq_at zy_missingAt_10_25.2.1 79 6 ∧ zq_at zy_missingAt_10_25.2.1 80 28 ∧ zq_at zy_missingAt_10_25.2.1 81 182 ∧ zq_at zy_missingAt_10_25.2.1 82 0 ∧ zq_at zy_missingAt_10_25.2.1 83 189 := by decide +kernel
theorem zd_10_25_72 : zz_B zy_missingAt_10_25 72 (Instr.ifCond .eq) 97 75 := ⟨25, zq_153 zg_10_25_72.1 zg_10_25_72.2.1 zg_10_25_72.2.2.1 (by decide), rfl, rfl⟩
theorem zd_10_25_97 : zz_D zy_missingAt_10_25 97 (.iload 4) 2 99 := ⟨zq_21 zg_10_25_72.2.2.2.1 zg_10_25_72.2.2.2.2.1, rfl⟩
theorem zd_10_25_99 : zz_D zy_missingAt_10_25 99 (.ireturn) 1 100 := ⟨zq_172 zg_10_25_72.2.2.2.2.2.1, rfl⟩
theorem zd_10_25_75 : zz_D zy_missingAt_10_25 75 (.aload_n 0) 1 76 := ⟨zq_42 zg_10_25_72.2.2.2.2.2.2.1, rfl⟩
theorem zd_10_25_76 : zz_D zy_missingAt_10_25 76 (.iload_n 1) 1 77 := ⟨zq_27 zg_10_25_72.2.2.2.2.2.2.2.1, rfl⟩
theorem zd_10_25_77 : zz_D zy_missingAt_10_25 77 (.iconst 1) 1 78 := ⟨zq_4 zg_10_25_72.2.2.2.2.2.2.2.2.1, rfl⟩
theorem zd_10_25_78 : zz_D zy_missingAt_10_25 78 (.iadd) 1 79 := ⟨zq_96 zg_10_25_72.2.2.2.2.2.2.2.2.2.1, rfl⟩
theorem zd_10_25_79 : zz_D zy_missingAt_10_25 79 (.iconst 3) 1 80 := ⟨zq_6 zg_10_25_72.2.2.2.2.2.2.2.2.2.2.1, rfl⟩
theorem zd_10_25_80 : zz_D zy_missingAt_10_25 80 (.iload_n 2) 1 81 := ⟨zq_28 zg_10_25_72.2.2.2.2.2.2.2.2.2.2.2.1, rfl⟩
theorem zd_10_25_81 : zz_D zy_missingAt_10_25 81 (.invokevirtual 189) 3 84 := ⟨zq_182 zg_10_25_72.2.2.2.2.2.2.2.2.2.2.2.2.1 zg_10_25_72.2.2.2.2.2.2.2.2.2.2.2.2.2.1 zg_10_25_72.2.2.2.2.2.2.2.2.2.2.2.2.2.2 rfl, rfl⟩
theorem zg_10_27_0 : zq_at zy_pushesUpTo_10_27.2.1 0 3 ∧ zq_at zy_pushesUpTo_10_27.2.1 1 54 ∧ zq_at zy_pushesUpTo_10_27.2.1 2 4 ∧ zq_at zy_pushesUpTo_10_27.2.1 3 3 ∧ zq_at zy_pushesUpTo_10_27.2.1 4 54 ∧ zq_at zy_pushesUpTo_10_27.2.1 5 5 ∧ zq_at zy_pushesUpTo_10_27.2.1 6 21 ∧ zq_at zy_pushesUpTo_10_27.2.1 7 5 ∧ zq_at zy_pushesUpTo_10_27.2.1 8 42 ∧ zq_at zy_pushesUpTo_10_27.2.1 9 180 ∧ zq_at zy_pushesUpTo_10_27.2.1 10 0 ∧ zq_at zy_pushesUpTo_10_27.2.1 11 46 ∧ zq_at zy_pushesUpTo_10_27.2.1 12 162 ∧ zq_at zy_pushesUpTo_10_27.2.1 13 0 ∧ zq_at zy_pushesUpTo_10_27.2.1 14 49 ∧ zq_at zy_pushesUpTo_10_27.2.1 61 21 ∧ zq_at zy_pushesUpTo_10_27.2.1 62 4 ∧ zq_at zy_pushesUpTo_10_27.2.1 63 172 ∧ zq_at zy_pushesUpTo_10_27.2.1 15 42 ∧ zq_at zy_pushesUpTo_10_27.2.1 16 180 ∧ zq_at zy_pushesUpTo_10_27.2.1 17 0 ∧ zq_at zy_pushesUpTo_10_27.2.1 18 19 ∧ zq_at zy_pushesUpTo_10_27.2.1 19 21 ∧ zq_at zy_pushesUpTo_10_27.2.1 20 5 := by decide +kernel
theorem zd_10_27_0 : zz_D zy_pushesUpTo_10_27 0 (.iconst 0) 1 1 := ⟨zq_3 zg_10_27_0.1, rfl⟩
theorem zd_10_27_1 : zz_D zy_pushesUpTo_10_27 1 (.istore 4) 2 3 := ⟨zq_54 zg_10_27_0.2.1 zg_10_27_0.2.2.1, rfl⟩
theorem zd_10_27_3 : zz_D zy_pushesUpTo_10_27 3 (.iconst 0) 1 4 := ⟨zq_3 zg_10_27_0.2.2.2.1, rfl⟩
theorem zd_10_27_4 : zz_D zy_pushesUpTo_10_27 4 (.istore 5) 2 6 := ⟨zq_54 zg_10_27_0.2.2.2.2.1 zg_10_27_0.2.2.2.2.2.1, rfl⟩
theorem zd_10_27_6 : zz_D zy_pushesUpTo_10_27 6 (.iload 5) 2 8 := ⟨zq_21 zg_10_27_0.2.2.2.2.2.2.1 zg_10_27_0.2.2.2.2.2.2.2.1, rfl⟩
theorem zd_10_27_8 : zz_D zy_pushesUpTo_10_27 8 (.aload_n 0) 1 9 := ⟨zq_42 zg_10_27_0.2.2.2.2.2.2.2.2.1, rfl⟩
theorem zd_10_27_9 : zz_D zy_pushesUpTo_10_27 9 (.getfield 46) 3 12 := ⟨zq_180 zg_10_27_0.2.2.2.2.2.2.2.2.2.1 zg_10_27_0.2.2.2.2.2.2.2.2.2.2.1 zg_10_27_0.2.2.2.2.2.2.2.2.2.2.2.1 rfl, rfl⟩
theorem zd_10_27_12 : zz_B zy_pushesUpTo_10_27 12 (Instr.if_icmp .ge) 61 15 := ⟨49, zq_162 zg_10_27_0.2.2.2.2.2.2.2.2.2.2.2.2.1 zg_10_27_0.2.2.2.2.2.2.2.2.2.2.2.2.2.1 zg_10_27_0.2.2.2.2.2.2.2.2.2.2.2.2.2.2.1 (by decide), rfl, rfl⟩
theorem zd_10_27_61 : zz_D zy_pushesUpTo_10_27 61 (.iload 4) 2 63 := ⟨zq_21 zg_10_27_0.2.2.2.2.2.2.2.2.2.2.2.2.2.2.2.1 zg_10_27_0.2.2.2.2.2.2.2.2.2.2.2.2.2.2.2.2.1, rfl⟩
theorem zd_10_27_63 : zz_D zy_pushesUpTo_10_27 63 (.ireturn) 1 64 := ⟨zq_172 zg_10_27_0.2.2.2.2.2.2.2.2.2.2.2.2.2.2.2.2.2.1, rfl⟩
theorem zd_10_27_15 : zz_D zy_pushesUpTo_10_27 15 (.aload_n 0) 1 16 := ⟨zq_42 zg_10_27_0.2.2.2.2.2.2.2.2.2.2.2.2.2.2.2.2.2.2.1, rfl⟩
theorem zd_10_27_16 : zz_D zy_pushesUpTo_10_27 16 (.getfield 19) 3 19 := ⟨zq_180 zg_10_27_0.2.2.2.2.2.2.2.2.2.2.2.2.2.2.2.2.2.2.2.1 zg_10_27_0.2.2.2.2.2.2.2.2.2.2.2.2.2.2.2.2.2.2.2.2.1 zg_10_27_0.2.2.2.2.2.2.2.2.2.2.2.2.2.2.2.2.2.2.2.2.2.1 rfl, rfl⟩
theorem zd_10_27_19 : zz_D zy_pushesUpTo_10_27 19 (.iload 5) 2 21 := ⟨zq_21 zg_10_27_0.2.2.2.2.2.2.2.2.2.2.2.2.2.2.2.2.2.2.2.2.2.2.1 zg_10_27_0.2.2.2.2.2.2.2.2.2.2.2.2.2.2.2.2.2.2.2.2.2.2.2, rfl⟩
theorem zg_10_27_21 : zq_at zy_pushesUpTo_10_27.2.1 21 47 ∧ zq_at zy_pushesUpTo_10_27.2.1 22 184 ∧ zq_at zy_pushesUpTo_10_27.2.1 23 0 ∧ zq_at zy_pushesUpTo_10_27.2.1 24 107 ∧ zq_at zy_pushesUpTo_10_27.2.1 25 27 ∧ zq_at zy_pushesUpTo_10_27.2.1 26 160 ∧ zq_at zy_pushesUpTo_10_27.2.1 27 0 ∧ zq_at zy_pushesUpTo_10_27.2.1 28 29 ∧ zq_at zy_pushesUpTo_10_27.2.1 55 132 ∧ zq_at zy_pushesUpTo_10_27.2.1 56 5 ∧ zq_at zy_pushesUpTo_10_27.2.1 57 1 ∧ zq_at zy_pushesUpTo_10_27.2.1 58 167 ∧ zq_at zy_pushesUpTo_10_27.2.1 59 255 ∧ zq_at zy_pushesUpTo_10_27.2.1 60 204 ∧ zq_at zy_pushesUpTo_10_27.2.1 29 42 ∧ zq_at zy_pushesUpTo_10_27.2.1 30 21 ∧ zq_at zy_pushesUpTo_10_27.2.1 31 5 ∧ zq_at zy_pushesUpTo_10_27.2.1 32 29 ∧ zq_at zy_pushesUpTo_10_27.2.1 33 182 ∧ zq_at zy_pushesUpTo_10_27.2.1 34 0 ∧ zq_at zy_pushesUpTo_10_27.2.1 35 180 ∧ zq_at zy_pushesUpTo_10_27.2.1 36 153 ∧ zq_at zy_pushesUpTo_10_27.2.1 37 0 ∧ zq_at zy_pushesUpTo_10_27.2.1 38 19 := by decide +kernel
theorem zd_10_27_21 : zz_D zy_pushesUpTo_10_27 21 (.laload) 1 22 := ⟨zq_47 zg_10_27_21.1, rfl⟩
theorem zd_10_27_22 : zz_D zy_pushesUpTo_10_27 22 (.invokestatic 107) 3 25 := ⟨zq_184 zg_10_27_21.2.1 zg_10_27_21.2.2.1 zg_10_27_21.2.2.2.1 rfl, rfl⟩
theorem zd_10_27_25 : zz_D zy_pushesUpTo_10_27 25 (.iload_n 1) 1 26 := ⟨zq_27 zg_10_27_21.2.2.2.2.1, rfl⟩
theorem zd_10_27_26 : zz_B zy_pushesUpTo_10_27 26 (Instr.if_icmp .ne) 55 29 := ⟨29, zq_160 zg_10_27_21.2.2.2.2.2.1 zg_10_27_21.2.2.2.2.2.2.1 zg_10_27_21.2.2.2.2.2.2.2.1 (by decide), rfl, rfl⟩
theorem zd_10_27_55 : zz_D zy_pushesUpTo_10_27 55 (.iinc 5 1) 3 58 := ⟨zq_132 zg_10_27_21.2.2.2.2.2.2.2.2.1 zg_10_27_21.2.2.2.2.2.2.2.2.2.1 zg_10_27_21.2.2.2.2.2.2.2.2.2.2.1 (by decide), rfl⟩
theorem zd_10_27_58 : zz_B zy_pushesUpTo_10_27 58 Instr.goto 6 61 := ⟨(-52), zq_167 zg_10_27_21.2.2.2.2.2.2.2.2.2.2.2.1 zg_10_27_21.2.2.2.2.2.2.2.2.2.2.2.2.1 zg_10_27_21.2.2.2.2.2.2.2.2.2.2.2.2.2.1 (by decide), rfl, rfl⟩
theorem zd_10_27_29 : zz_D zy_pushesUpTo_10_27 29 (.aload_n 0) 1 30 := ⟨zq_42 zg_10_27_21.2.2.2.2.2.2.2.2.2.2.2.2.2.2.1, rfl⟩
theorem zd_10_27_30 : zz_D zy_pushesUpTo_10_27 30 (.iload 5) 2 32 := ⟨zq_21 zg_10_27_21.2.2.2.2.2.2.2.2.2.2.2.2.2.2.2.1 zg_10_27_21.2.2.2.2.2.2.2.2.2.2.2.2.2.2.2.2.1, rfl⟩
theorem zd_10_27_32 : zz_D zy_pushesUpTo_10_27 32 (.iload_n 3) 1 33 := ⟨zq_29 zg_10_27_21.2.2.2.2.2.2.2.2.2.2.2.2.2.2.2.2.2.1, rfl⟩
theorem zd_10_27_33 : zz_D zy_pushesUpTo_10_27 33 (.invokevirtual 180) 3 36 := ⟨zq_182 zg_10_27_21.2.2.2.2.2.2.2.2.2.2.2.2.2.2.2.2.2.2.1 zg_10_27_21.2.2.2.2.2.2.2.2.2.2.2.2.2.2.2.2.2.2.2.1 zg_10_27_21.2.2.2.2.2.2.2.2.2.2.2.2.2.2.2.2.2.2.2.2.1 rfl, rfl⟩
theorem zd_10_27_36 : zz_B zy_pushesUpTo_10_27 36 (Instr.ifCond .eq) 55 39 := ⟨19, zq_153 zg_10_27_21.2.2.2.2.2.2.2.2.2.2.2.2.2.2.2.2.2.2.2.2.2.1 zg_10_27_21.2.2.2.2.2.2.2.2.2.2.2.2.2.2.2.2.2.2.2.2.2.2.1 zg_10_27_21.2.2.2.2.2.2.2.2.2.2.2.2.2.2.2.2.2.2.2.2.2.2.2 (by decide), rfl, rfl⟩
theorem zg_10_27_39 : zq_at zy_pushesUpTo_10_27.2.1 39 21 ∧ zq_at zy_pushesUpTo_10_27.2.1 40 4 ∧ zq_at zy_pushesUpTo_10_27.2.1 41 42 ∧ zq_at zy_pushesUpTo_10_27.2.1 42 180 ∧ zq_at zy_pushesUpTo_10_27.2.1 43 0 ∧ zq_at zy_pushesUpTo_10_27.2.1 44 19 ∧ zq_at zy_pushesUpTo_10_27.2.1 45 21 ∧ zq_at zy_pushesUpTo_10_27.2.1 46 5 ∧ zq_at zy_pushesUpTo_10_27.2.1 47 47 ∧ zq_at zy_pushesUpTo_10_27.2.1 48 28 ∧ zq_at zy_pushesUpTo_10_27.2.1 49 184 ∧ zq_at zy_pushesUpTo_10_27.2.1 50 0 ∧ zq_at zy_pushesUpTo_10_27.2.1 51 163 ∧ zq_at zy_pushesUpTo_10_27.2.1 52 96 ∧ zq_at zy_pushesUpTo_10_27.2.1 53 54 ∧ zq_at zy_pushesUpTo_10_27.2.1 54 4 := by decide +kernel
theorem zd_10_27_39 : zz_D zy_pushesUpTo_10_27 39 (.iload 4) 2 41 := ⟨zq_21 zg_10_27_39.1 zg_10_27_39.2.1, rfl⟩
theorem zd_10_27_41 : zz_D zy_pushesUpTo_10_27 41 (.aload_n 0) 1 42 := ⟨zq_42 zg_10_27_39.2.2.1, rfl⟩
theorem zd_10_27_42 : zz_D zy_pushesUpTo_10_27 42 (.getfield 19) 3 45 := ⟨zq_180 zg_10_27_39.2.2.2.1 zg_10_27_39.2.2.2.2.1 zg_10_27_39.2.2.2.2.2.1 rfl, rfl⟩
theorem zd_10_27_45 : zz_D zy_pushesUpTo_10_27 45 (.iload 5) 2 47 := ⟨zq_21 zg_10_27_39.2.2.2.2.2.2.1 zg_10_27_39.2.2.2.2.2.2.2.1, rfl⟩
theorem zd_10_27_47 : zz_D zy_pushesUpTo_10_27 47 (.laload) 1 48 := ⟨zq_47 zg_10_27_39.2.2.2.2.2.2.2.2.1, rfl⟩
theorem zd_10_27_48 : zz_D zy_pushesUpTo_10_27 48 (.iload_n 2) 1 49 := ⟨zq_28 zg_10_27_39.2.2.2.2.2.2.2.2.2.1, rfl⟩
theorem zd_10_27_49 : zz_D zy_pushesUpTo_10_27 49 (.invokestatic 163) 3 52 := ⟨zq_184 zg_10_27_39.2.2.2.2.2.2.2.2.2.2.1 zg_10_27_39.2.2.2.2.2.2.2.2.2.2.2.1 zg_10_27_39.2.2.2.2.2.2.2.2.2.2.2.2.1 rfl, rfl⟩
theorem zd_10_27_52 : zz_D zy_pushesUpTo_10_27 52 (.iadd) 1 53 := ⟨zq_96 zg_10_27_39.2.2.2.2.2.2.2.2.2.2.2.2.2.1, rfl⟩
theorem zd_10_27_53 : zz_D zy_pushesUpTo_10_27 53 (.istore 4) 2 55 := ⟨zq_54 zg_10_27_39.2.2.2.2.2.2.2.2.2.2.2.2.2.2.1 zg_10_27_39.2.2.2.2.2.2.2.2.2.2.2.2.2.2.2, rfl⟩
-- TensorForge$Run pushesUpTo (III)I
abbrev zr_pushesUpTo_10_27 : Room := { frames := 2, cells := 0, slots := 0, locals := 28 }
def zp_pushesUpTo_10_27 (p0 : Int) (p1 : Int) (p2 : Int) (S0 : zz_S) : Int → zz_S → Prop := fun r S => S0 = S ∧ ((-2147483648) ≤ r ∧ r ≤ 2147483647)
theorem zb_pushesUpTo_10_27_6 {g : mm_G} {l : Launch} (p0 : Int) (p1 : Int) (p2 : Int) (S0 : zz_S) (n : Nat) (hn : zz_end ≤ n) (G_S0 : zz_G S0) (hp0 : (-2147483648) ≤ p0 ∧ p0 ≤ 2147483647) (hp1 : (-2147483648) ≤ p1 ∧ p1 ≤ 2147483647) (hp2 : (-2147483648) ≤ p2 ∧ p2 ≤ 2147483647) (x4 : Int) (x5 : Int) (S : zz_S) (G_S : zz_G S) (F_S : zz_fr [] [] (fun _ _ => False) S0 S) (i6_0 : (-2147483648) ≤ x4 ∧ x4 ≤ 2147483647) (i6_1 : 0 ≤ x5 ∧ x5 ≤ 600) (R : Nat) (hR : (S0 1042 9 - x5).toNat = R) (k6 : ∀ (x4 : Int) (x5 : Int) (S : zz_S), zz_G S → zz_fr [] [] (fun _ _ => False) S0 S → ((-2147483648) ≤ x4 ∧ x4 ≤ 2147483647) → (0 ≤ x5 ∧ x5 ≤ 600) → (S0 1042 9 - x5).toNat < R → zz_E g l zy_pushesUpTo_10_27 zr_pushesUpTo_10_27 (zz_QI n (zp_pushesUpTo_10_27 p0 p1 p2 S0)) S n 6 [some (.ref 1042), some (zi p0), some (zi p1), some (zi p2), some (zi x4), some (zi x5)] [] 0 0) : zz_E g l zy_pushesUpTo_10_27 zr_pushesUpTo_10_27 (zz_QI n (zp_pushesUpTo_10_27 p0 p1 p2 S0)) S n 6 [some (.ref 1042), some (zi p0), some (zi p1), some (zi p2), some (zi x4), some (zi x5)] [] 0 0 := by
  refine zz_iload (x := x5) rfl zd_10_27_6 ?_
  refine zz_aload_n (x := 1042) rfl zd_10_27_8 ?_
  have g2 := zz_G.r G_S0 1042 9 0 600 rfl rfl
  refine zz_geti (z := S0 1042 9) zd_10_27_9 zf_Run_46 zT_1042 rfl (zz_ltn hn rfl) (zz_rc F_S rfl rfl (fun h => h) rfl) ?_
  refine zz_icmp_ge (by omega) (by omega) zd_10_27_12 (fun c3 => ?_) (fun c3 => ?_)
  · refine zz_iload (x := x4) rfl zd_10_27_61 ?_
    exact zz_iret zd_10_27_63 rfl (Nat.zero_le _) (Nat.zero_le _) ⟨_, _, rfl, zz_fr.eq F_S, by omega⟩
  · refine zz_aload_n (x := 1042) rfl zd_10_27_15 ?_
    refine zz_getr (kd := 0) (z := 1044) zd_10_27_16 zf_Run_19 zT_1042 rfl (zz_ltn hn rfl) (zz_G.eq G_S 1042 2 1044 rfl rfl) (by decide) 1044 rfl ?_
    refine zz_iload (x := x5) rfl zd_10_27_19 ?_
    have g4 := zz_G.r G_S0 1044 x5.toNat (-9223372036854775808) 9223372036854775807 rfl rfl
    refine zz_lald (z := S0 1044 x5.toNat) zd_10_27_21 zT_1044 rfl (zz_ltn hn rfl) (by decide) (by omega) (zz_rc F_S (zz_nc1 rfl) rfl (fun h => h) rfl) ?_
    refine zz_callSI [zl (S0 1044 x5.toNat)] zd_10_27_22 zk_Run_107 rfl rfl ⟨Nat.le_of_ble_eq_true rfl, Nat.le_of_ble_eq_true rfl⟩ ⟨rfl, rfl⟩ (Nat.zero_le _) (Nat.zero_le _) (zc_unitOf_12_10 (S0 1044 x5.toNat) S n hn G_S (by omega)) (fun v6 S5 hP => ?_)
    obtain ⟨rfl, o7, o8⟩ := hP
    refine zz_iload_n (x := p0) rfl zd_10_27_25 ?_
    refine zz_icmp_ne (by omega) (by omega) zd_10_27_26 (fun c9 => ?_) (fun c9 => ?_)
    · refine zz_iinc [some (.ref 1042), some (zi p0), some (zi p1), some (zi p2), some (zi x4), some (zi (x5 + 1))] zd_10_27_55 rfl rfl ?_
      refine zz_goto zd_10_27_58 ?_
      refine zz_less (ls1 := [some (.ref 1042), some (zi p0), some (zi p1), some (zi p2), some (zi x4), some (zi (x5 + 1))]) ⟨rfl, ⟨rfl, ⟨rfl, ⟨rfl, ⟨rfl, ⟨rfl, trivial⟩⟩⟩⟩⟩⟩ ?_
      exact k6 x4 (x5 + 1) S G_S F_S (by omega) (by omega) (by omega)
    · refine zz_aload_n (x := 1042) rfl zd_10_27_29 ?_
      refine zz_iload (x := x5) rfl zd_10_27_30 ?_
      refine zz_iload_n (x := p2) rfl zd_10_27_32 ?_
      refine zz_callVI [zi x5, zi p2] zd_10_27_33 zk_Run_180 zT_1042 (zz_ltn hn rfl) rfl rfl ⟨Nat.le_of_ble_eq_true rfl, Nat.le_of_ble_eq_true rfl⟩ ⟨rfl, rfl⟩ (Nat.zero_le _) (Nat.zero_le _) (zc_hadEnded_10_23 x5 p2 S n hn G_S (by omega) (by omega)) (fun v11 S10 hP => ?_)
      obtain ⟨rfl, o12⟩ := hP
      rcases (by omega : v11 = 0 ∨ v11 = 1) with rfl | rfl
      · refine zz_if_eq (by omega) zd_10_27_36 (fun c13 => ?_) (fun c13 => ?_)
        · refine zz_iinc [some (.ref 1042), some (zi p0), some (zi p1), some (zi p2), some (zi x4), some (zi (x5 + 1))] zd_10_27_55 rfl rfl ?_
          refine zz_goto zd_10_27_58 ?_
          refine zz_less (ls1 := [some (.ref 1042), some (zi p0), some (zi p1), some (zi p2), some (zi x4), some (zi (x5 + 1))]) ⟨rfl, ⟨rfl, ⟨rfl, ⟨rfl, ⟨rfl, ⟨rfl, trivial⟩⟩⟩⟩⟩⟩ ?_
          exact k6 x4 (x5 + 1) S G_S F_S (by omega) (by omega) (by omega)
        · exfalso; omega
      · refine zz_if_eq (by omega) zd_10_27_36 (fun c14 => ?_) (fun c14 => ?_)
        · exfalso; omega
        · refine zz_iload (x := x4) rfl zd_10_27_39 ?_
          refine zz_aload_n (x := 1042) rfl zd_10_27_41 ?_
          refine zz_getr (kd := 0) (z := 1044) zd_10_27_42 zf_Run_19 zT_1042 rfl (zz_ltn hn rfl) (zz_G.eq G_S 1042 2 1044 rfl rfl) (by decide) 1044 rfl ?_
          refine zz_iload (x := x5) rfl zd_10_27_45 ?_
          refine zz_lald (z := S0 1044 x5.toNat) zd_10_27_47 zT_1044 rfl (zz_ltn hn rfl) (by decide) (by omega) (zz_rc F_S (zz_nc1 rfl) rfl (fun h => h) rfl) ?_
          refine zz_iload_n (x := p1) rfl zd_10_27_48 ?_
          refine zz_callSI [zl (S0 1044 x5.toNat), zi p1] zd_10_27_49 zk_Run_163 rfl rfl ⟨Nat.le_of_ble_eq_true rfl, Nat.le_of_ble_eq_true rfl⟩ ⟨rfl, rfl⟩ (Nat.zero_le _) (Nat.zero_le _) (zc_get_12_2 (S0 1044 x5.toNat) p1 S n hn G_S (by omega) (by omega)) (fun v16 S15 hP => ?_)
          obtain ⟨rfl, o17⟩ := hP
          refine zz_iadd zd_10_27_52 ?_
          refine zz_nrm (fun v18 hv18 ev18 => ?_)
          refine zz_istore [some (.ref 1042), some (zi p0), some (zi p1), some (zi p2), some (zi v18), some (zi x5)] zd_10_27_53 (by decide) rfl ?_
          refine zz_iinc [some (.ref 1042), some (zi p0), some (zi p1), some (zi p2), some (zi v18), some (zi (x5 + 1))] zd_10_27_55 rfl rfl ?_
          refine zz_goto zd_10_27_58 ?_
          refine zz_less (ls1 := [some (.ref 1042), some (zi p0), some (zi p1), some (zi p2), some (zi v18), some (zi (x5 + 1))]) ⟨rfl, ⟨rfl, ⟨rfl, ⟨rfl, ⟨rfl, ⟨rfl, trivial⟩⟩⟩⟩⟩⟩ ?_
          exact k6 v18 (x5 + 1) S G_S F_S (by omega) (by omega) (by omega)
theorem zi_pushesUpTo_10_27 {g : mm_G} {l : Launch} (p0 : Int) (p1 : Int) (p2 : Int) (S0 : zz_S) (n : Nat) (hn : zz_end ≤ n) (G_S0 : zz_G S0) (hp0 : (-2147483648) ≤ p0 ∧ p0 ≤ 2147483647) (hp1 : (-2147483648) ≤ p1 ∧ p1 ≤ 2147483647) (hp2 : (-2147483648) ≤ p2 ∧ p2 ≤ 2147483647) : ∀ N : Nat, (∀ (x4 : Int) (x5 : Int) (S : zz_S), zz_G S → zz_fr [] [] (fun _ _ => False) S0 S → ((-2147483648) ≤ x4 ∧ x4 ≤ 2147483647) → (0 ≤ x5 ∧ x5 ≤ 600) → (S0 1042 9 - x5).toNat < N → zz_E g l zy_pushesUpTo_10_27 zr_pushesUpTo_10_27 (zz_QI n (zp_pushesUpTo_10_27 p0 p1 p2 S0)) S n 6 [some (.ref 1042), some (zi p0), some (zi p1), some (zi p2), some (zi x4), some (zi x5)] [] 0 0) := by
  intro N
  induction N with
  | zero => exact fun x4 x5 S _ _ _ _ h => absurd h (Nat.not_lt_zero _)
  | succ N ih =>
    exact fun x4 x5 S a b j0 j1 hR => zb_pushesUpTo_10_27_6 p0 p1 p2 S0 n hn G_S0 hp0 hp1 hp2 x4 x5 S a b j0 j1 _ rfl (fun x4 x5 S a b j0 j1 h => ih x4 x5 S a b j0 j1 (Nat.lt_of_lt_of_le h (Nat.le_of_lt_succ hR)))
theorem zc_pushesUpTo_10_27 {g : mm_G} {l : Launch} (p0 : Int) (p1 : Int) (p2 : Int) (S0 : zz_S) (n : Nat) (hn : zz_end ≤ n) (G_S0 : zz_G S0) (hp0 : (-2147483648) ≤ p0 ∧ p0 ≤ 2147483647) (hp1 : (-2147483648) ≤ p1 ∧ p1 ≤ 2147483647) (hp2 : (-2147483648) ≤ p2 ∧ p2 ≤ 2147483647) : mm_Met g l zy_pushesUpTo_10_27 zr_pushesUpTo_10_27 [.ref 1042, zi p0, zi p1, zi p2] (zz_M S0 n) n (zz_QI n (zp_pushesUpTo_10_27 p0 p1 p2 S0)) := by
  refine zz_enter (by decide) (Nat.le_of_ble_eq_true rfl) (zz_less (ls1 := [some (.ref 1042), some (zi p0), some (zi p1), some (zi p2)]) ⟨rfl, ⟨rfl, ⟨rfl, ⟨rfl, trivial⟩⟩⟩⟩ ?_)
  have F_S0 : zz_fr [] [] (fun _ _ => False) S0 S0 := zz_fr.refl
  have k6 : ∀ (x4 : Int) (x5 : Int) (S : zz_S), zz_G S → zz_fr [] [] (fun _ _ => False) S0 S → ((-2147483648) ≤ x4 ∧ x4 ≤ 2147483647) → (0 ≤ x5 ∧ x5 ≤ 600) → zz_E g l zy_pushesUpTo_10_27 zr_pushesUpTo_10_27 (zz_QI n (zp_pushesUpTo_10_27 p0 p1 p2 S0)) S n 6 [some (.ref 1042), some (zi p0), some (zi p1), some (zi p2), some (zi x4), some (zi x5)] [] 0 0 := fun x4 x5 S a b j0 j1 => (zi_pushesUpTo_10_27 (g := g) (l := l) p0 p1 p2 S0 n hn G_S0 hp0 hp1 hp2 _) x4 x5 S a b j0 j1 (Nat.lt_succ_self _)
  refine zz_iconst zd_10_27_0 ?_
  refine zz_istore [some (.ref 1042), some (zi p0), some (zi p1), some (zi p2), some (zi 0)] zd_10_27_1 (by decide) rfl ?_
  refine zz_iconst zd_10_27_3 ?_
  refine zz_istore [some (.ref 1042), some (zi p0), some (zi p1), some (zi p2), some (zi 0), some (zi 0)] zd_10_27_4 (by decide) rfl ?_
  have g1 := zz_G.r G_S0 1042 9 0 600 rfl rfl
  refine zz_less (ls1 := [some (.ref 1042), some (zi p0), some (zi p1), some (zi p2), some (zi 0), some (zi 0)]) ⟨rfl, ⟨rfl, ⟨rfl, ⟨rfl, ⟨rfl, ⟨rfl, trivial⟩⟩⟩⟩⟩⟩ ?_
  exact k6 0 0 S0 G_S0 F_S0 (by omega) (by omega)
theorem zk_Run_189 : mm_Vl "TensorForge$Run" 189 5 3 zy_pushesUpTo_10_27 := ⟨zyw_pushesUpTo_10_27, (R_Run, F_Run, 10), rfl, mm_tb_1 1574 (by decide +kernel) rfl, mm_tb_1 1576 (by decide +kernel) rfl, mm_tb_s 83 (by decide +kernel) rfl⟩
abbrev zy_popsUpTo_10_28 : mm_Y := (⟨"TensorForge$Run", "popsUpTo", "(III)I"⟩, prog_10_method_28_code, 6, (some .int))
theorem zyw_popsUpTo_10_28 : mm_Yw zy_popsUpTo_10_28 3 := ⟨mm_tb_1 1581 (by decide +kernel) rfl, mm_tb_1 6 (by decide +kernel) rfl, ⟨by decide, by decide⟩, by decide +kernel⟩
theorem zg_10_25_84 : zq_at zy_missingAt_10_25.2.1 84 42 ∧ zq_at zy_missingAt_10_25.2.1 85 27 ∧ zq_at zy_missingAt_10_25.2.1 86 5 ∧ zq_at zy_missingAt_10_25.2.1 87 28 ∧ zq_at zy_missingAt_10_25.2.1 88 182 ∧ zq_at zy_missingAt_10_25.2.1 89 0 ∧ zq_at zy_missingAt_10_25.2.1 90 193 := by decide +kernel
theorem zd_10_25_84 : zz_D zy_missingAt_10_25 84 (.aload_n 0) 1 85 := ⟨zq_42 zg_10_25_84.1, rfl⟩
theorem zd_10_25_85 : zz_D zy_missingAt_10_25 85 (.iload_n 1) 1 86 := ⟨zq_27 zg_10_25_84.2.1, rfl⟩
theorem zd_10_25_86 : zz_D zy_missingAt_10_25 86 (.iconst 2) 1 87 := ⟨zq_5 zg_10_25_84.2.2.1, rfl⟩
theorem zd_10_25_87 : zz_D zy_missingAt_10_25 87 (.iload_n 2) 1 88 := ⟨zq_28 zg_10_25_84.2.2.2.1, rfl⟩
theorem zd_10_25_88 : zz_D zy_missingAt_10_25 88 (.invokevirtual 193) 3 91 := ⟨zq_182 zg_10_25_84.2.2.2.2.1 zg_10_25_84.2.2.2.2.2.1 zg_10_25_84.2.2.2.2.2.2 rfl, rfl⟩
theorem zg_10_28_0 : zq_at zy_popsUpTo_10_28.2.1 0 3 ∧ zq_at zy_popsUpTo_10_28.2.1 1 54 ∧ zq_at zy_popsUpTo_10_28.2.1 2 4 ∧ zq_at zy_popsUpTo_10_28.2.1 3 3 ∧ zq_at zy_popsUpTo_10_28.2.1 4 54 ∧ zq_at zy_popsUpTo_10_28.2.1 5 5 ∧ zq_at zy_popsUpTo_10_28.2.1 6 21 ∧ zq_at zy_popsUpTo_10_28.2.1 7 5 ∧ zq_at zy_popsUpTo_10_28.2.1 8 42 ∧ zq_at zy_popsUpTo_10_28.2.1 9 180 ∧ zq_at zy_popsUpTo_10_28.2.1 10 0 ∧ zq_at zy_popsUpTo_10_28.2.1 11 46 ∧ zq_at zy_popsUpTo_10_28.2.1 12 162 ∧ zq_at zy_popsUpTo_10_28.2.1 13 0 ∧ zq_at zy_popsUpTo_10_28.2.1 14 49 ∧ zq_at zy_popsUpTo_10_28.2.1 61 21 ∧ zq_at zy_popsUpTo_10_28.2.1 62 4 ∧ zq_at zy_popsUpTo_10_28.2.1 63 172 ∧ zq_at zy_popsUpTo_10_28.2.1 15 42 ∧ zq_at zy_popsUpTo_10_28.2.1 16 180 ∧ zq_at zy_popsUpTo_10_28.2.1 17 0 ∧ zq_at zy_popsUpTo_10_28.2.1 18 19 ∧ zq_at zy_popsUpTo_10_28.2.1 19 21 ∧ zq_at zy_popsUpTo_10_28.2.1 20 5 := by decide +kernel
theorem zd_10_28_0 : zz_D zy_popsUpTo_10_28 0 (.iconst 0) 1 1 := ⟨zq_3 zg_10_28_0.1, rfl⟩
theorem zd_10_28_1 : zz_D zy_popsUpTo_10_28 1 (.istore 4) 2 3 := ⟨zq_54 zg_10_28_0.2.1 zg_10_28_0.2.2.1, rfl⟩
theorem zd_10_28_3 : zz_D zy_popsUpTo_10_28 3 (.iconst 0) 1 4 := ⟨zq_3 zg_10_28_0.2.2.2.1, rfl⟩
theorem zd_10_28_4 : zz_D zy_popsUpTo_10_28 4 (.istore 5) 2 6 := ⟨zq_54 zg_10_28_0.2.2.2.2.1 zg_10_28_0.2.2.2.2.2.1, rfl⟩
theorem zd_10_28_6 : zz_D zy_popsUpTo_10_28 6 (.iload 5) 2 8 := ⟨zq_21 zg_10_28_0.2.2.2.2.2.2.1 zg_10_28_0.2.2.2.2.2.2.2.1, rfl⟩
theorem zd_10_28_8 : zz_D zy_popsUpTo_10_28 8 (.aload_n 0) 1 9 := ⟨zq_42 zg_10_28_0.2.2.2.2.2.2.2.2.1, rfl⟩
theorem zd_10_28_9 : zz_D zy_popsUpTo_10_28 9 (.getfield 46) 3 12 := ⟨zq_180 zg_10_28_0.2.2.2.2.2.2.2.2.2.1 zg_10_28_0.2.2.2.2.2.2.2.2.2.2.1 zg_10_28_0.2.2.2.2.2.2.2.2.2.2.2.1 rfl, rfl⟩
theorem zd_10_28_12 : zz_B zy_popsUpTo_10_28 12 (Instr.if_icmp .ge) 61 15 := ⟨49, zq_162 zg_10_28_0.2.2.2.2.2.2.2.2.2.2.2.2.1 zg_10_28_0.2.2.2.2.2.2.2.2.2.2.2.2.2.1 zg_10_28_0.2.2.2.2.2.2.2.2.2.2.2.2.2.2.1 (by decide), rfl, rfl⟩
theorem zd_10_28_61 : zz_D zy_popsUpTo_10_28 61 (.iload 4) 2 63 := ⟨zq_21 zg_10_28_0.2.2.2.2.2.2.2.2.2.2.2.2.2.2.2.1 zg_10_28_0.2.2.2.2.2.2.2.2.2.2.2.2.2.2.2.2.1, rfl⟩
theorem zd_10_28_63 : zz_D zy_popsUpTo_10_28 63 (.ireturn) 1 64 := ⟨zq_172 zg_10_28_0.2.2.2.2.2.2.2.2.2.2.2.2.2.2.2.2.2.1, rfl⟩
theorem zd_10_28_15 : zz_D zy_popsUpTo_10_28 15 (.aload_n 0) 1 16 := ⟨zq_42 zg_10_28_0.2.2.2.2.2.2.2.2.2.2.2.2.2.2.2.2.2.2.1, rfl⟩
theorem zd_10_28_16 : zz_D zy_popsUpTo_10_28 16 (.getfield 19) 3 19 := ⟨zq_180 zg_10_28_0.2.2.2.2.2.2.2.2.2.2.2.2.2.2.2.2.2.2.2.1 zg_10_28_0.2.2.2.2.2.2.2.2.2.2.2.2.2.2.2.2.2.2.2.2.1 zg_10_28_0.2.2.2.2.2.2.2.2.2.2.2.2.2.2.2.2.2.2.2.2.2.1 rfl, rfl⟩
theorem zd_10_28_19 : zz_D zy_popsUpTo_10_28 19 (.iload 5) 2 21 := ⟨zq_21 zg_10_28_0.2.2.2.2.2.2.2.2.2.2.2.2.2.2.2.2.2.2.2.2.2.2.1 zg_10_28_0.2.2.2.2.2.2.2.2.2.2.2.2.2.2.2.2.2.2.2.2.2.2.2, rfl⟩
theorem zg_10_28_21 : zq_at zy_popsUpTo_10_28.2.1 21 47 ∧ zq_at zy_popsUpTo_10_28.2.1 22 184 ∧ zq_at zy_popsUpTo_10_28.2.1 23 0 ∧ zq_at zy_popsUpTo_10_28.2.1 24 107 ∧ zq_at zy_popsUpTo_10_28.2.1 25 27 ∧ zq_at zy_popsUpTo_10_28.2.1 26 160 ∧ zq_at zy_popsUpTo_10_28.2.1 27 0 ∧ zq_at zy_popsUpTo_10_28.2.1 28 29 ∧ zq_at zy_popsUpTo_10_28.2.1 55 132 ∧ zq_at zy_popsUpTo_10_28.2.1 56 5 ∧ zq_at zy_popsUpTo_10_28.2.1 57 1 ∧ zq_at zy_popsUpTo_10_28.2.1 58 167 ∧ zq_at zy_popsUpTo_10_28.2.1 59 255 ∧ zq_at zy_popsUpTo_10_28.2.1 60 204 ∧ zq_at zy_popsUpTo_10_28.2.1 29 42 ∧ zq_at zy_popsUpTo_10_28.2.1 30 21 ∧ zq_at zy_popsUpTo_10_28.2.1 31 5 ∧ zq_at zy_popsUpTo_10_28.2.1 32 29 ∧ zq_at zy_popsUpTo_10_28.2.1 33 182 ∧ zq_at zy_popsUpTo_10_28.2.1 34 0 ∧ zq_at zy_popsUpTo_10_28.2.1 35 176 ∧ zq_at zy_popsUpTo_10_28.2.1 36 153 ∧ zq_at zy_popsUpTo_10_28.2.1 37 0 ∧ zq_at zy_popsUpTo_10_28.2.1 38 19 := by decide +kernel
theorem zd_10_28_21 : zz_D zy_popsUpTo_10_28 21 (.laload) 1 22 := ⟨zq_47 zg_10_28_21.1, rfl⟩
theorem zd_10_28_22 : zz_D zy_popsUpTo_10_28 22 (.invokestatic 107) 3 25 := ⟨zq_184 zg_10_28_21.2.1 zg_10_28_21.2.2.1 zg_10_28_21.2.2.2.1 rfl, rfl⟩
theorem zd_10_28_25 : zz_D zy_popsUpTo_10_28 25 (.iload_n 1) 1 26 := ⟨zq_27 zg_10_28_21.2.2.2.2.1, rfl⟩
theorem zd_10_28_26 : zz_B zy_popsUpTo_10_28 26 (Instr.if_icmp .ne) 55 29 := ⟨29, zq_160 zg_10_28_21.2.2.2.2.2.1 zg_10_28_21.2.2.2.2.2.2.1 zg_10_28_21.2.2.2.2.2.2.2.1 (by decide), rfl, rfl⟩
theorem zd_10_28_55 : zz_D zy_popsUpTo_10_28 55 (.iinc 5 1) 3 58 := ⟨zq_132 zg_10_28_21.2.2.2.2.2.2.2.2.1 zg_10_28_21.2.2.2.2.2.2.2.2.2.1 zg_10_28_21.2.2.2.2.2.2.2.2.2.2.1 (by decide), rfl⟩
theorem zd_10_28_58 : zz_B zy_popsUpTo_10_28 58 Instr.goto 6 61 := ⟨(-52), zq_167 zg_10_28_21.2.2.2.2.2.2.2.2.2.2.2.1 zg_10_28_21.2.2.2.2.2.2.2.2.2.2.2.2.1 zg_10_28_21.2.2.2.2.2.2.2.2.2.2.2.2.2.1 (by decide), rfl, rfl⟩
theorem zd_10_28_29 : zz_D zy_popsUpTo_10_28 29 (.aload_n 0) 1 30 := ⟨zq_42 zg_10_28_21.2.2.2.2.2.2.2.2.2.2.2.2.2.2.1, rfl⟩
theorem zd_10_28_30 : zz_D zy_popsUpTo_10_28 30 (.iload 5) 2 32 := ⟨zq_21 zg_10_28_21.2.2.2.2.2.2.2.2.2.2.2.2.2.2.2.1 zg_10_28_21.2.2.2.2.2.2.2.2.2.2.2.2.2.2.2.2.1, rfl⟩
theorem zd_10_28_32 : zz_D zy_popsUpTo_10_28 32 (.iload_n 3) 1 33 := ⟨zq_29 zg_10_28_21.2.2.2.2.2.2.2.2.2.2.2.2.2.2.2.2.2.1, rfl⟩
theorem zd_10_28_33 : zz_D zy_popsUpTo_10_28 33 (.invokevirtual 176) 3 36 := ⟨zq_182 zg_10_28_21.2.2.2.2.2.2.2.2.2.2.2.2.2.2.2.2.2.2.1 zg_10_28_21.2.2.2.2.2.2.2.2.2.2.2.2.2.2.2.2.2.2.2.1 zg_10_28_21.2.2.2.2.2.2.2.2.2.2.2.2.2.2.2.2.2.2.2.2.1 rfl, rfl⟩
theorem zd_10_28_36 : zz_B zy_popsUpTo_10_28 36 (Instr.ifCond .eq) 55 39 := ⟨19, zq_153 zg_10_28_21.2.2.2.2.2.2.2.2.2.2.2.2.2.2.2.2.2.2.2.2.2.1 zg_10_28_21.2.2.2.2.2.2.2.2.2.2.2.2.2.2.2.2.2.2.2.2.2.2.1 zg_10_28_21.2.2.2.2.2.2.2.2.2.2.2.2.2.2.2.2.2.2.2.2.2.2.2 (by decide), rfl, rfl⟩
theorem zg_10_28_39 : zq_at zy_popsUpTo_10_28.2.1 39 21 ∧ zq_at zy_popsUpTo_10_28.2.1 40 4 ∧ zq_at zy_popsUpTo_10_28.2.1 41 42 ∧ zq_at zy_popsUpTo_10_28.2.1 42 180 ∧ zq_at zy_popsUpTo_10_28.2.1 43 0 ∧ zq_at zy_popsUpTo_10_28.2.1 44 19 ∧ zq_at zy_popsUpTo_10_28.2.1 45 21 ∧ zq_at zy_popsUpTo_10_28.2.1 46 5 ∧ zq_at zy_popsUpTo_10_28.2.1 47 47 ∧ zq_at zy_popsUpTo_10_28.2.1 48 28 ∧ zq_at zy_popsUpTo_10_28.2.1 49 184 ∧ zq_at zy_popsUpTo_10_28.2.1 50 0 ∧ zq_at zy_popsUpTo_10_28.2.1 51 163 ∧ zq_at zy_popsUpTo_10_28.2.1 52 96 ∧ zq_at zy_popsUpTo_10_28.2.1 53 54 ∧ zq_at zy_popsUpTo_10_28.2.1 54 4 := by decide +kernel
theorem zd_10_28_39 : zz_D zy_popsUpTo_10_28 39 (.iload 4) 2 41 := ⟨zq_21 zg_10_28_39.1 zg_10_28_39.2.1, rfl⟩
theorem zd_10_28_41 : zz_D zy_popsUpTo_10_28 41 (.aload_n 0) 1 42 := ⟨zq_42 zg_10_28_39.2.2.1, rfl⟩
theorem zd_10_28_42 : zz_D zy_popsUpTo_10_28 42 (.getfield 19) 3 45 := ⟨zq_180 zg_10_28_39.2.2.2.1 zg_10_28_39.2.2.2.2.1 zg_10_28_39.2.2.2.2.2.1 rfl, rfl⟩
theorem zd_10_28_45 : zz_D zy_popsUpTo_10_28 45 (.iload 5) 2 47 := ⟨zq_21 zg_10_28_39.2.2.2.2.2.2.1 zg_10_28_39.2.2.2.2.2.2.2.1, rfl⟩
theorem zd_10_28_47 : zz_D zy_popsUpTo_10_28 47 (.laload) 1 48 := ⟨zq_47 zg_10_28_39.2.2.2.2.2.2.2.2.1, rfl⟩
theorem zd_10_28_48 : zz_D zy_popsUpTo_10_28 48 (.iload_n 2) 1 49 := ⟨zq_28 zg_10_28_39.2.2.2.2.2.2.2.2.2.1, rfl⟩
theorem zd_10_28_49 : zz_D zy_popsUpTo_10_28 49 (.invokestatic 163) 3 52 := ⟨zq_184 zg_10_28_39.2.2.2.2.2.2.2.2.2.2.1 zg_10_28_39.2.2.2.2.2.2.2.2.2.2.2.1 zg_10_28_39.2.2.2.2.2.2.2.2.2.2.2.2.1 rfl, rfl⟩
theorem zd_10_28_52 : zz_D zy_popsUpTo_10_28 52 (.iadd) 1 53 := ⟨zq_96 zg_10_28_39.2.2.2.2.2.2.2.2.2.2.2.2.2.1, rfl⟩
theorem zd_10_28_53 : zz_D zy_popsUpTo_10_28 53 (.istore 4) 2 55 := ⟨zq_54 zg_10_28_39.2.2.2.2.2.2.2.2.2.2.2.2.2.2.1 zg_10_28_39.2.2.2.2.2.2.2.2.2.2.2.2.2.2.2, rfl⟩
-- TensorForge$Run popsUpTo (III)I
abbrev zr_popsUpTo_10_28 : Room := { frames := 2, cells := 0, slots := 0, locals := 28 }
def zp_popsUpTo_10_28 (p0 : Int) (p1 : Int) (p2 : Int) (S0 : zz_S) : Int → zz_S → Prop := fun r S => S0 = S ∧ ((-2147483648) ≤ r ∧ r ≤ 2147483647)
theorem zb_popsUpTo_10_28_6 {g : mm_G} {l : Launch} (p0 : Int) (p1 : Int) (p2 : Int) (S0 : zz_S) (n : Nat) (hn : zz_end ≤ n) (G_S0 : zz_G S0) (hp0 : (-2147483648) ≤ p0 ∧ p0 ≤ 2147483647) (hp1 : (-2147483648) ≤ p1 ∧ p1 ≤ 2147483647) (hp2 : (-2147483648) ≤ p2 ∧ p2 ≤ 2147483647) (x4 : Int) (x5 : Int) (S : zz_S) (G_S : zz_G S) (F_S : zz_fr [] [] (fun _ _ => False) S0 S) (i6_0 : (-2147483648) ≤ x4 ∧ x4 ≤ 2147483647) (i6_1 : 0 ≤ x5 ∧ x5 ≤ 600) (R : Nat) (hR : (S0 1042 9 - x5).toNat = R) (k6 : ∀ (x4 : Int) (x5 : Int) (S : zz_S), zz_G S → zz_fr [] [] (fun _ _ => False) S0 S → ((-2147483648) ≤ x4 ∧ x4 ≤ 2147483647) → (0 ≤ x5 ∧ x5 ≤ 600) → (S0 1042 9 - x5).toNat < R → zz_E g l zy_popsUpTo_10_28 zr_popsUpTo_10_28 (zz_QI n (zp_popsUpTo_10_28 p0 p1 p2 S0)) S n 6 [some (.ref 1042), some (zi p0), some (zi p1), some (zi p2), some (zi x4), some (zi x5)] [] 0 0) : zz_E g l zy_popsUpTo_10_28 zr_popsUpTo_10_28 (zz_QI n (zp_popsUpTo_10_28 p0 p1 p2 S0)) S n 6 [some (.ref 1042), some (zi p0), some (zi p1), some (zi p2), some (zi x4), some (zi x5)] [] 0 0 := by
  refine zz_iload (x := x5) rfl zd_10_28_6 ?_
  refine zz_aload_n (x := 1042) rfl zd_10_28_8 ?_
  have g2 := zz_G.r G_S0 1042 9 0 600 rfl rfl
  refine zz_geti (z := S0 1042 9) zd_10_28_9 zf_Run_46 zT_1042 rfl (zz_ltn hn rfl) (zz_rc F_S rfl rfl (fun h => h) rfl) ?_
  refine zz_icmp_ge (by omega) (by omega) zd_10_28_12 (fun c3 => ?_) (fun c3 => ?_)
  · refine zz_iload (x := x4) rfl zd_10_28_61 ?_
    exact zz_iret zd_10_28_63 rfl (Nat.zero_le _) (Nat.zero_le _) ⟨_, _, rfl, zz_fr.eq F_S, by omega⟩
  · refine zz_aload_n (x := 1042) rfl zd_10_28_15 ?_
    refine zz_getr (kd := 0) (z := 1044) zd_10_28_16 zf_Run_19 zT_1042 rfl (zz_ltn hn rfl) (zz_G.eq G_S 1042 2 1044 rfl rfl) (by decide) 1044 rfl ?_
    refine zz_iload (x := x5) rfl zd_10_28_19 ?_
    have g4 := zz_G.r G_S0 1044 x5.toNat (-9223372036854775808) 9223372036854775807 rfl rfl
    refine zz_lald (z := S0 1044 x5.toNat) zd_10_28_21 zT_1044 rfl (zz_ltn hn rfl) (by decide) (by omega) (zz_rc F_S (zz_nc1 rfl) rfl (fun h => h) rfl) ?_
    refine zz_callSI [zl (S0 1044 x5.toNat)] zd_10_28_22 zk_Run_107 rfl rfl ⟨Nat.le_of_ble_eq_true rfl, Nat.le_of_ble_eq_true rfl⟩ ⟨rfl, rfl⟩ (Nat.zero_le _) (Nat.zero_le _) (zc_unitOf_12_10 (S0 1044 x5.toNat) S n hn G_S (by omega)) (fun v6 S5 hP => ?_)
    obtain ⟨rfl, o7, o8⟩ := hP
    refine zz_iload_n (x := p0) rfl zd_10_28_25 ?_
    refine zz_icmp_ne (by omega) (by omega) zd_10_28_26 (fun c9 => ?_) (fun c9 => ?_)
    · refine zz_iinc [some (.ref 1042), some (zi p0), some (zi p1), some (zi p2), some (zi x4), some (zi (x5 + 1))] zd_10_28_55 rfl rfl ?_
      refine zz_goto zd_10_28_58 ?_
      refine zz_less (ls1 := [some (.ref 1042), some (zi p0), some (zi p1), some (zi p2), some (zi x4), some (zi (x5 + 1))]) ⟨rfl, ⟨rfl, ⟨rfl, ⟨rfl, ⟨rfl, ⟨rfl, trivial⟩⟩⟩⟩⟩⟩ ?_
      exact k6 x4 (x5 + 1) S G_S F_S (by omega) (by omega) (by omega)
    · refine zz_aload_n (x := 1042) rfl zd_10_28_29 ?_
      refine zz_iload (x := x5) rfl zd_10_28_30 ?_
      refine zz_iload_n (x := p2) rfl zd_10_28_32 ?_
      refine zz_callVI [zi x5, zi p2] zd_10_28_33 zk_Run_176 zT_1042 (zz_ltn hn rfl) rfl rfl ⟨Nat.le_of_ble_eq_true rfl, Nat.le_of_ble_eq_true rfl⟩ ⟨rfl, rfl⟩ (Nat.zero_le _) (Nat.zero_le _) (zc_hadBegun_10_22 x5 p2 S n hn G_S (by omega) (by omega)) (fun v11 S10 hP => ?_)
      obtain ⟨rfl, o12⟩ := hP
      rcases (by omega : v11 = 0 ∨ v11 = 1) with rfl | rfl
      · refine zz_if_eq (by omega) zd_10_28_36 (fun c13 => ?_) (fun c13 => ?_)
        · refine zz_iinc [some (.ref 1042), some (zi p0), some (zi p1), some (zi p2), some (zi x4), some (zi (x5 + 1))] zd_10_28_55 rfl rfl ?_
          refine zz_goto zd_10_28_58 ?_
          refine zz_less (ls1 := [some (.ref 1042), some (zi p0), some (zi p1), some (zi p2), some (zi x4), some (zi (x5 + 1))]) ⟨rfl, ⟨rfl, ⟨rfl, ⟨rfl, ⟨rfl, ⟨rfl, trivial⟩⟩⟩⟩⟩⟩ ?_
          exact k6 x4 (x5 + 1) S G_S F_S (by omega) (by omega) (by omega)
        · exfalso; omega
      · refine zz_if_eq (by omega) zd_10_28_36 (fun c14 => ?_) (fun c14 => ?_)
        · exfalso; omega
        · refine zz_iload (x := x4) rfl zd_10_28_39 ?_
          refine zz_aload_n (x := 1042) rfl zd_10_28_41 ?_
          refine zz_getr (kd := 0) (z := 1044) zd_10_28_42 zf_Run_19 zT_1042 rfl (zz_ltn hn rfl) (zz_G.eq G_S 1042 2 1044 rfl rfl) (by decide) 1044 rfl ?_
          refine zz_iload (x := x5) rfl zd_10_28_45 ?_
          refine zz_lald (z := S0 1044 x5.toNat) zd_10_28_47 zT_1044 rfl (zz_ltn hn rfl) (by decide) (by omega) (zz_rc F_S (zz_nc1 rfl) rfl (fun h => h) rfl) ?_
          refine zz_iload_n (x := p1) rfl zd_10_28_48 ?_
          refine zz_callSI [zl (S0 1044 x5.toNat), zi p1] zd_10_28_49 zk_Run_163 rfl rfl ⟨Nat.le_of_ble_eq_true rfl, Nat.le_of_ble_eq_true rfl⟩ ⟨rfl, rfl⟩ (Nat.zero_le _) (Nat.zero_le _) (zc_get_12_2 (S0 1044 x5.toNat) p1 S n hn G_S (by omega) (by omega)) (fun v16 S15 hP => ?_)
          obtain ⟨rfl, o17⟩ := hP
          refine zz_iadd zd_10_28_52 ?_
          refine zz_nrm (fun v18 hv18 ev18 => ?_)
          refine zz_istore [some (.ref 1042), some (zi p0), some (zi p1), some (zi p2), some (zi v18), some (zi x5)] zd_10_28_53 (by decide) rfl ?_
          refine zz_iinc [some (.ref 1042), some (zi p0), some (zi p1), some (zi p2), some (zi v18), some (zi (x5 + 1))] zd_10_28_55 rfl rfl ?_
          refine zz_goto zd_10_28_58 ?_
          refine zz_less (ls1 := [some (.ref 1042), some (zi p0), some (zi p1), some (zi p2), some (zi v18), some (zi (x5 + 1))]) ⟨rfl, ⟨rfl, ⟨rfl, ⟨rfl, ⟨rfl, ⟨rfl, trivial⟩⟩⟩⟩⟩⟩ ?_
          exact k6 v18 (x5 + 1) S G_S F_S (by omega) (by omega) (by omega)
theorem zi_popsUpTo_10_28 {g : mm_G} {l : Launch} (p0 : Int) (p1 : Int) (p2 : Int) (S0 : zz_S) (n : Nat) (hn : zz_end ≤ n) (G_S0 : zz_G S0) (hp0 : (-2147483648) ≤ p0 ∧ p0 ≤ 2147483647) (hp1 : (-2147483648) ≤ p1 ∧ p1 ≤ 2147483647) (hp2 : (-2147483648) ≤ p2 ∧ p2 ≤ 2147483647) : ∀ N : Nat, (∀ (x4 : Int) (x5 : Int) (S : zz_S), zz_G S → zz_fr [] [] (fun _ _ => False) S0 S → ((-2147483648) ≤ x4 ∧ x4 ≤ 2147483647) → (0 ≤ x5 ∧ x5 ≤ 600) → (S0 1042 9 - x5).toNat < N → zz_E g l zy_popsUpTo_10_28 zr_popsUpTo_10_28 (zz_QI n (zp_popsUpTo_10_28 p0 p1 p2 S0)) S n 6 [some (.ref 1042), some (zi p0), some (zi p1), some (zi p2), some (zi x4), some (zi x5)] [] 0 0) := by
  intro N
  induction N with
  | zero => exact fun x4 x5 S _ _ _ _ h => absurd h (Nat.not_lt_zero _)
  | succ N ih =>
    exact fun x4 x5 S a b j0 j1 hR => zb_popsUpTo_10_28_6 p0 p1 p2 S0 n hn G_S0 hp0 hp1 hp2 x4 x5 S a b j0 j1 _ rfl (fun x4 x5 S a b j0 j1 h => ih x4 x5 S a b j0 j1 (Nat.lt_of_lt_of_le h (Nat.le_of_lt_succ hR)))
theorem zc_popsUpTo_10_28 {g : mm_G} {l : Launch} (p0 : Int) (p1 : Int) (p2 : Int) (S0 : zz_S) (n : Nat) (hn : zz_end ≤ n) (G_S0 : zz_G S0) (hp0 : (-2147483648) ≤ p0 ∧ p0 ≤ 2147483647) (hp1 : (-2147483648) ≤ p1 ∧ p1 ≤ 2147483647) (hp2 : (-2147483648) ≤ p2 ∧ p2 ≤ 2147483647) : mm_Met g l zy_popsUpTo_10_28 zr_popsUpTo_10_28 [.ref 1042, zi p0, zi p1, zi p2] (zz_M S0 n) n (zz_QI n (zp_popsUpTo_10_28 p0 p1 p2 S0)) := by
  refine zz_enter (by decide) (Nat.le_of_ble_eq_true rfl) (zz_less (ls1 := [some (.ref 1042), some (zi p0), some (zi p1), some (zi p2)]) ⟨rfl, ⟨rfl, ⟨rfl, ⟨rfl, trivial⟩⟩⟩⟩ ?_)
  have F_S0 : zz_fr [] [] (fun _ _ => False) S0 S0 := zz_fr.refl
  have k6 : ∀ (x4 : Int) (x5 : Int) (S : zz_S), zz_G S → zz_fr [] [] (fun _ _ => False) S0 S → ((-2147483648) ≤ x4 ∧ x4 ≤ 2147483647) → (0 ≤ x5 ∧ x5 ≤ 600) → zz_E g l zy_popsUpTo_10_28 zr_popsUpTo_10_28 (zz_QI n (zp_popsUpTo_10_28 p0 p1 p2 S0)) S n 6 [some (.ref 1042), some (zi p0), some (zi p1), some (zi p2), some (zi x4), some (zi x5)] [] 0 0 := fun x4 x5 S a b j0 j1 => (zi_popsUpTo_10_28 (g := g) (l := l) p0 p1 p2 S0 n hn G_S0 hp0 hp1 hp2 _) x4 x5 S a b j0 j1 (Nat.lt_succ_self _)
  refine zz_iconst zd_10_28_0 ?_
  refine zz_istore [some (.ref 1042), some (zi p0), some (zi p1), some (zi p2), some (zi 0)] zd_10_28_1 (by decide) rfl ?_
  refine zz_iconst zd_10_28_3 ?_
  refine zz_istore [some (.ref 1042), some (zi p0), some (zi p1), some (zi p2), some (zi 0), some (zi 0)] zd_10_28_4 (by decide) rfl ?_
  have g1 := zz_G.r G_S0 1042 9 0 600 rfl rfl
  refine zz_less (ls1 := [some (.ref 1042), some (zi p0), some (zi p1), some (zi p2), some (zi 0), some (zi 0)]) ⟨rfl, ⟨rfl, ⟨rfl, ⟨rfl, ⟨rfl, ⟨rfl, trivial⟩⟩⟩⟩⟩⟩ ?_
  exact k6 0 0 S0 G_S0 F_S0 (by omega) (by omega)
theorem zk_Run_193 : mm_Vl "TensorForge$Run" 193 5 3 zy_popsUpTo_10_28 := ⟨zyw_popsUpTo_10_28, (R_Run, F_Run, 10), rfl, mm_tb_1 1578 (by decide +kernel) rfl, mm_tb_1 1580 (by decide +kernel) rfl, mm_tb_s 84 (by decide +kernel) rfl⟩
theorem zg_10_25_91 : zq_at zy_missingAt_10_25.2.1 91 163 ∧ zq_at zy_missingAt_10_25.2.1 92 0 ∧ zq_at zy_missingAt_10_25.2.1 93 6 ∧ zq_at zy_missingAt_10_25.2.1 94 132 ∧ zq_at zy_missingAt_10_25.2.1 95 4 ∧ zq_at zy_missingAt_10_25.2.1 96 2 ∧ zq_at zy_missingAt_10_25.2.1 40 42 ∧ zq_at zy_missingAt_10_25.2.1 41 27 ∧ zq_at zy_missingAt_10_25.2.1 42 4 ∧ zq_at zy_missingAt_10_25.2.1 43 100 ∧ zq_at zy_missingAt_10_25.2.1 44 7 ∧ zq_at zy_missingAt_10_25.2.1 45 28 ∧ zq_at zy_missingAt_10_25.2.1 46 182 ∧ zq_at zy_missingAt_10_25.2.1 47 0 ∧ zq_at zy_missingAt_10_25.2.1 48 189 ∧ zq_at zy_missingAt_10_25.2.1 49 42 ∧ zq_at zy_missingAt_10_25.2.1 50 27 ∧ zq_at zy_missingAt_10_25.2.1 51 4 ∧ zq_at zy_missingAt_10_25.2.1 52 28 ∧ zq_at zy_missingAt_10_25.2.1 53 182 ∧ zq_at zy_missingAt_10_25.2.1 54 0 ∧ zq_at zy_missingAt_10_25.2.1 55 193 := by decide +kernel
theorem zd_10_25_91 : zz_B zy_missingAt_10_25 91 (Instr.if_icmp .gt) 97 94 := ⟨6, zq_163 zg_10_25_91.1 zg_10_25_91.2.1 zg_10_25_91.2.2.1 (by decide), rfl, rfl⟩
theorem zd_10_25_94 : zz_D zy_missingAt_10_25 94 (.iinc 4 2) 3 97 := ⟨zq_132 zg_10_25_91.2.2.2.1 zg_10_25_91.2.2.2.2.1 zg_10_25_91.2.2.2.2.2.1 (by decide), rfl⟩
theorem zd_10_25_40 : zz_D zy_missingAt_10_25 40 (.aload_n 0) 1 41 := ⟨zq_42 zg_10_25_91.2.2.2.2.2.2.1, rfl⟩
theorem zd_10_25_41 : zz_D zy_missingAt_10_25 41 (.iload_n 1) 1 42 := ⟨zq_27 zg_10_25_91.2.2.2.2.2.2.2.1, rfl⟩
theorem zd_10_25_42 : zz_D zy_missingAt_10_25 42 (.iconst 1) 1 43 := ⟨zq_4 zg_10_25_91.2.2.2.2.2.2.2.2.1, rfl⟩
theorem zd_10_25_43 : zz_D zy_missingAt_10_25 43 (.isub) 1 44 := ⟨zq_100 zg_10_25_91.2.2.2.2.2.2.2.2.2.1, rfl⟩
theorem zd_10_25_44 : zz_D zy_missingAt_10_25 44 (.iconst 4) 1 45 := ⟨zq_7 zg_10_25_91.2.2.2.2.2.2.2.2.2.2.1, rfl⟩
theorem zd_10_25_45 : zz_D zy_missingAt_10_25 45 (.iload_n 2) 1 46 := ⟨zq_28 zg_10_25_91.2.2.2.2.2.2.2.2.2.2.2.1, rfl⟩
theorem zd_10_25_46 : zz_D zy_missingAt_10_25 46 (.invokevirtual 189) 3 49 := ⟨zq_182 zg_10_25_91.2.2.2.2.2.2.2.2.2.2.2.2.1 zg_10_25_91.2.2.2.2.2.2.2.2.2.2.2.2.2.1 zg_10_25_91.2.2.2.2.2.2.2.2.2.2.2.2.2.2.1 rfl, rfl⟩
theorem zd_10_25_49 : zz_D zy_missingAt_10_25 49 (.aload_n 0) 1 50 := ⟨zq_42 zg_10_25_91.2.2.2.2.2.2.2.2.2.2.2.2.2.2.2.1, rfl⟩
theorem zd_10_25_50 : zz_D zy_missingAt_10_25 50 (.iload_n 1) 1 51 := ⟨zq_27 zg_10_25_91.2.2.2.2.2.2.2.2.2.2.2.2.2.2.2.2.1, rfl⟩
theorem zd_10_25_51 : zz_D zy_missingAt_10_25 51 (.iconst 1) 1 52 := ⟨zq_4 zg_10_25_91.2.2.2.2.2.2.2.2.2.2.2.2.2.2.2.2.2.1, rfl⟩
theorem zd_10_25_52 : zz_D zy_missingAt_10_25 52 (.iload_n 2) 1 53 := ⟨zq_28 zg_10_25_91.2.2.2.2.2.2.2.2.2.2.2.2.2.2.2.2.2.2.1, rfl⟩
theorem zd_10_25_53 : zz_D zy_missingAt_10_25 53 (.invokevirtual 193) 3 56 := ⟨zq_182 zg_10_25_91.2.2.2.2.2.2.2.2.2.2.2.2.2.2.2.2.2.2.2.1 zg_10_25_91.2.2.2.2.2.2.2.2.2.2.2.2.2.2.2.2.2.2.2.2.1 zg_10_25_91.2.2.2.2.2.2.2.2.2.2.2.2.2.2.2.2.2.2.2.2.2 rfl, rfl⟩
theorem zg_10_25_56 : zq_at zy_missingAt_10_25.2.1 56 163 ∧ zq_at zy_missingAt_10_25.2.1 57 0 ∧ zq_at zy_missingAt_10_25.2.1 58 6 ∧ zq_at zy_missingAt_10_25.2.1 59 132 ∧ zq_at zy_missingAt_10_25.2.1 60 4 ∧ zq_at zy_missingAt_10_25.2.1 61 1 := by decide +kernel
theorem zd_10_25_56 : zz_B zy_missingAt_10_25 56 (Instr.if_icmp .gt) 62 59 := ⟨6, zq_163 zg_10_25_56.1 zg_10_25_56.2.1 zg_10_25_56.2.2.1 (by decide), rfl, rfl⟩
theorem zd_10_25_59 : zz_D zy_missingAt_10_25 59 (.iinc 4 1) 3 62 := ⟨zq_132 zg_10_25_56.2.2.2.1 zg_10_25_56.2.2.2.2.1 zg_10_25_56.2.2.2.2.2 (by decide), rfl⟩

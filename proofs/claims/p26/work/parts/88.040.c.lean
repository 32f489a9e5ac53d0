-- TensorForge$Layer size ()I
abbrev zr_size_4_7 : Room := { frames := 0, cells := 0, slots := 0, locals := 0 }
def zp_size_4_7 (t : Int) (S0 : zz_S) : Int → zz_S → Prop := fun r S => S0 = S ∧ ((-2147483648) ≤ r ∧ r ≤ 2147483647) ∧ (((1 ≤ S0 (zz_rf 6 t) 10 ∧ S0 (zz_rf 6 t) 10 ≤ 63) ∧ (1 ≤ S0 (zz_rf 6 t) 11 ∧ S0 (zz_rf 6 t) 11 ≤ 63) ∧ (1 ≤ S0 (zz_rf 6 t) 12 ∧ S0 (zz_rf 6 t) 12 ≤ 63)) → r = (S0 (zz_rf 6 t) 10 * S0 (zz_rf 6 t) 11) * S0 (zz_rf 6 t) 12)
theorem zc_size_4_7 {g : mm_G} {l : Launch} (t : Int) (S0 : zz_S) (n : Nat) (hn : zz_end ≤ n) (G_S0 : zz_G S0) (ht : 0 ≤ t ∧ t ≤ 23) : mm_Met g l zy_size_4_7 zr_size_4_7 [.ref (zz_rf 6 t)] (zz_M S0 n) n (zz_QI n (zp_size_4_7 t S0)) := by
  refine zz_enter (by decide) (Nat.le_of_ble_eq_true rfl) (zz_less (ls1 := [some (.ref (zz_rf 6 t))]) ⟨rfl, trivial⟩ ?_)
  have b_t := zz_rf6 (z := t) (by omega)
  refine zz_aload_n (x := zz_rf 6 t) rfl zd_4_7_0 ?_
  have g1 := zz_G.r G_S0 (zz_rf 6 t) 10 (-2147483648) 2147483647 (zR_k6_10 (by omega)) (zB_k6 (by omega))
  refine zz_geti (z := S0 (zz_rf 6 t) 10) zd_4_7_1 zf_Layer_54 (zT_k6 (by omega)) rfl (zN_k6 hn (by omega)) rfl ?_
  refine zz_aload_n (x := zz_rf 6 t) rfl zd_4_7_4 ?_
  have g2 := zz_G.r G_S0 (zz_rf 6 t) 11 (-2147483648) 2147483647 (zR_k6_11 (by omega)) (zB_k6 (by omega))
  refine zz_geti (z := S0 (zz_rf 6 t) 11) zd_4_7_5 zf_Layer_57 (zT_k6 (by omega)) rfl (zN_k6 hn (by omega)) rfl ?_
  refine zz_imul zd_4_7_8 ?_
  refine zz_nrm (fun v3 hv3 ev3 => ?_)
  refine zz_aload_n (x := zz_rf 6 t) rfl zd_4_7_9 ?_
  have g4 := zz_G.r G_S0 (zz_rf 6 t) 12 (-2147483648) 2147483647 (zR_k6_12 (by omega)) (zB_k6 (by omega))
  refine zz_geti (z := S0 (zz_rf 6 t) 12) zd_4_7_10 zf_Layer_60 (zT_k6 (by omega)) rfl (zN_k6 hn (by omega)) rfl ?_
  refine zz_imul zd_4_7_13 ?_
  refine zz_nrm (fun v5 hv5 ev5 => ?_)
  exact zz_iret zd_4_7_14 rfl (Nat.zero_le _) (Nat.zero_le _) ⟨_, _, rfl, rfl, by omega, (fun hb => by have m1 := zz_mulb (a := S0 (zz_rf 6 t) 10) (b := S0 (zz_rf 6 t) 11) 63 63 3969 (by omega) (by omega) (by decide); have c1 := ev3 (by omega); have m2 := zz_mulb (a := S0 (zz_rf 6 t) 10 * S0 (zz_rf 6 t) 11) (b := S0 (zz_rf 6 t) 12) 3969 63 250047 (by omega) (by omega) (by decide); rw [c1] at ev5; exact ev5 (by omega))⟩
theorem zk_Network_60 : mm_Vl "TensorForge$Network" 60 2 0 zy_size_4_7 := ⟨zyw_size_4_7, (R_Layer, F_Layer, 15), rfl, mm_tb_1 1013 (by decide +kernel) rfl, mm_tb_1 1014 (by decide +kernel) rfl, mm_tb_1 1015 (by decide +kernel) rfl⟩
theorem zm_Network_66 : Cond.methodLink "TensorForge$Network" 66 Lib.Math.max.name ∈ mm_tb ∧ Cond.static Lib.Math.max.name ∈ mm_tb ∧ Cond.initialized "java/lang/Math" ∈ mm_tb ∧ Cond.code Lib.Math.max.name Lib.Math.max.code 2 (some .int) ∈ mm_tb := ⟨mm_tb_1 1017 (by decide +kernel) rfl, mm_tb_1 709 (by decide +kernel) rfl, mm_tb_1 25 (by decide +kernel) rfl, mm_tb_1 710 (by decide +kernel) rfl⟩
theorem zg_7_8_31 : zq_at zy_endOfAll_7_8.2.1 31 96 ∧ zq_at zy_endOfAll_7_8.2.1 32 184 ∧ zq_at zy_endOfAll_7_8.2.1 33 0 ∧ zq_at zy_endOfAll_7_8.2.1 34 66 ∧ zq_at zy_endOfAll_7_8.2.1 35 60 ∧ zq_at zy_endOfAll_7_8.2.1 36 132 ∧ zq_at zy_endOfAll_7_8.2.1 37 2 ∧ zq_at zy_endOfAll_7_8.2.1 38 1 ∧ zq_at zy_endOfAll_7_8.2.1 39 167 ∧ zq_at zy_endOfAll_7_8.2.1 40 255 ∧ zq_at zy_endOfAll_7_8.2.1 41 221 := by decide +kernel
theorem zd_7_8_31 : zz_D zy_endOfAll_7_8 31 (.iadd) 1 32 := ⟨zq_96 zg_7_8_31.1, rfl⟩
theorem zd_7_8_32 : zz_D zy_endOfAll_7_8 32 (.invokestatic 66) 3 35 := ⟨zq_184 zg_7_8_31.2.1 zg_7_8_31.2.2.1 zg_7_8_31.2.2.2.1 rfl, rfl⟩
theorem zd_7_8_35 : zz_D zy_endOfAll_7_8 35 (.istore_n 1) 1 36 := ⟨zq_60 zg_7_8_31.2.2.2.2.1, rfl⟩
theorem zd_7_8_36 : zz_D zy_endOfAll_7_8 36 (.iinc 2 1) 3 39 := ⟨zq_132 zg_7_8_31.2.2.2.2.2.1 zg_7_8_31.2.2.2.2.2.2.1 zg_7_8_31.2.2.2.2.2.2.2.1 (by decide), rfl⟩
theorem zd_7_8_39 : zz_B zy_endOfAll_7_8 39 Instr.goto 4 42 := ⟨(-35), zq_167 zg_7_8_31.2.2.2.2.2.2.2.2.1 zg_7_8_31.2.2.2.2.2.2.2.2.2.1 zg_7_8_31.2.2.2.2.2.2.2.2.2.2 (by decide), rfl, rfl⟩
-- TensorForge$Network endOfAll ()I
abbrev zr_endOfAll_7_8 : Room := { frames := 1, cells := 0, slots := 0, locals := 14 }
def zp_endOfAll_7_8 (t : Int) (S0 : zz_S) : Int → zz_S → Prop := fun r S => S0 = S ∧ ((-2147483648) ≤ r ∧ r ≤ 2147483647) ∧ (∀ v : zn_T, zn_C S0 t v → zn_V v → r = v 15 1)
theorem zb_endOfAll_7_8_4 {g : mm_G} {l : Launch} (t : Int) (S0 : zz_S) (n : Nat) (hn : zz_end ≤ n) (G_S0 : zz_G S0) (ht : 0 ≤ t ∧ t ≤ 1) (x1 : Int) (x2 : Int) (S : zz_S) (G_S : zz_G S) (F_S : zz_fr [] [] (fun _ _ => False) S0 S) (i4_0 : 0 ≤ x1 ∧ x1 ≤ 2147483647) (i4_1 : 0 ≤ x2 ∧ x2 ≤ 11) (i4_2 : zn_mx S0 t x1 x2) (R : Nat) (hR : (S (zz_rf 3 t) 1 - x2).toNat = R) (k4 : ∀ (x1 : Int) (x2 : Int) (S : zz_S), zz_G S → zz_fr [] [] (fun _ _ => False) S0 S → (0 ≤ x1 ∧ x1 ≤ 2147483647) → (0 ≤ x2 ∧ x2 ≤ 11) → (zn_mx S0 t x1 x2) → (S (zz_rf 3 t) 1 - x2).toNat < R → zz_E g l zy_endOfAll_7_8 zr_endOfAll_7_8 (zz_QI n (zp_endOfAll_7_8 t S0)) S n 4 [some (.ref (zz_rf 3 t)), some (zi x1), some (zi x2)] [] 0 0) : zz_E g l zy_endOfAll_7_8 zr_endOfAll_7_8 (zz_QI n (zp_endOfAll_7_8 t S0)) S n 4 [some (.ref (zz_rf 3 t)), some (zi x1), some (zi x2)] [] 0 0 := by
  have b_t := zz_rf3 (z := t) (by omega)
  refine zz_iload_n (x := x2) rfl zd_7_8_4 ?_
  refine zz_aload_n (x := zz_rf 3 t) rfl zd_7_8_5 ?_
  have g1 := zz_G.r G_S0 (zz_rf 3 t) 1 1 11 (zR_k3_1 (by omega)) (zB_k3 (by omega))
  refine zz_geti (z := S0 (zz_rf 3 t) 1) zd_7_8_6 zf_Network_16 (zT_k3 (by omega)) rfl (zN_k3 hn (by omega)) (zz_rc F_S (zP_k3 (by omega) rfl) (zQ_k3 (by omega) rfl) (fun h => h) rfl) ?_
  refine zz_icmp_ge (by omega) (by omega) zd_7_8_9 (fun c2 => ?_) (fun c2 => ?_)
  · refine zz_iload_n (x := x1) rfl zd_7_8_42 ?_
    exact zz_iret zd_7_8_43 rfl (Nat.zero_le _) (Nat.zero_le _) ⟨_, _, rfl, zz_fr.eq F_S, by omega, (zn_mxE i4_2 (by omega))⟩
  · refine zz_iload_n (x := x1) rfl zd_7_8_12 ?_
    refine zz_aload_n (x := zz_rf 3 t) rfl zd_7_8_13 ?_
    refine zz_getr (kd := 0) (z := ((zz_rf 3 t + 1 : Nat) : Int)) zd_7_8_14 zf_Network_11 (zT_k3 (by omega)) rfl (zN_k3 hn (by omega)) (zE_k3a G_S (by omega)) (Int.natCast_nonneg _) (zz_rf 3 t + 1) (Int.toNat_natCast _) ?_
    refine zz_iload_n (x := x2) rfl zd_7_8_17 ?_
    refine zz_aald (kd := 4) (z := 12 * t + x2) zd_7_8_18 (zT_k3a (by omega)) rfl (zN_k3a hn (by omega)) (by decide) (by omega) (zE_lay G_S (by omega) (by omega)) (by omega) (zz_rf 6 (12 * t + x2)) rfl ?_
    have g3 := zz_G.r G_S0 (zz_rf 6 (12 * t + x2)) 13 (-2147483648) 2147483647 (zR_k6_13 (by omega)) (zB_k6 (by omega))
    refine zz_geti (z := S0 (zz_rf 6 (12 * t + x2)) 13) zd_7_8_19 zf_Network_63 (zT_k6 (by omega)) rfl (zN_k6 hn (by omega)) (zz_rc F_S (zP_k6 (by omega) rfl) (zQ_k6 (by omega) rfl) (fun h => h) rfl) ?_
    refine zz_aload_n (x := zz_rf 3 t) rfl zd_7_8_22 ?_
    refine zz_getr (kd := 0) (z := ((zz_rf 3 t + 1 : Nat) : Int)) zd_7_8_23 zf_Network_11 (zT_k3 (by omega)) rfl (zN_k3 hn (by omega)) (zE_k3a G_S (by omega)) (Int.natCast_nonneg _) (zz_rf 3 t + 1) (Int.toNat_natCast _) ?_
    refine zz_iload_n (x := x2) rfl zd_7_8_26 ?_
    refine zz_aald (kd := 4) (z := 12 * t + x2) zd_7_8_27 (zT_k3a (by omega)) rfl (zN_k3a hn (by omega)) (by decide) (by omega) (zE_lay G_S (by omega) (by omega)) (by omega) (zz_rf 6 (12 * t + x2)) rfl ?_
    have e4 : S (zz_rf 6 (12 * t + x2)) 10 = S0 (zz_rf 6 (12 * t + x2)) 10 := (zz_rc F_S (zP_k6 (by omega) rfl) (zQ_k6 (by omega) rfl) (fun h => h) rfl)
    have e5 : S (zz_rf 6 (12 * t + x2)) 11 = S0 (zz_rf 6 (12 * t + x2)) 11 := (zz_rc F_S (zP_k6 (by omega) rfl) (zQ_k6 (by omega) rfl) (fun h => h) rfl)
    have e6 : S (zz_rf 6 (12 * t + x2)) 12 = S0 (zz_rf 6 (12 * t + x2)) 12 := (zz_rc F_S (zP_k6 (by omega) rfl) (zQ_k6 (by omega) rfl) (fun h => h) rfl)
    refine zz_callVI [] zd_7_8_28 zk_Network_60 (zT_k6 (by omega)) (zN_k6 hn (by omega)) rfl rfl ⟨Nat.le_of_ble_eq_true rfl, Nat.le_of_ble_eq_true rfl⟩ ⟨rfl, rfl⟩ (Nat.zero_le _) (Nat.zero_le _) (zc_size_4_7 (12 * t + x2) S n hn G_S (by omega)) (fun v8 S7 hP => ?_)
    obtain ⟨rfl, o9, o10⟩ := hP
    rw [← zz_fr.eq F_S] at o10
    refine zz_iadd zd_7_8_31 ?_
    refine zz_nrm (fun v11 hv11 ev11 => ?_)
    refine zz_mmax (by omega) (by omega) zd_7_8_32 zm_Network_66 ⟨Nat.le_of_ble_eq_true rfl, Nat.le_of_ble_eq_true rfl⟩ (Nat.zero_le _) (Nat.zero_le _) (fun v12 hv12 => ?_)
    refine zz_istore_n [some (.ref (zz_rf 3 t)), some (zi v12), some (zi x2)] zd_7_8_35 (by decide) rfl ?_
    refine zz_iinc [some (.ref (zz_rf 3 t)), some (zi v12), some (zi (x2 + 1))] zd_7_8_36 rfl rfl ?_
    refine zz_goto zd_7_8_39 ?_
    have e13 : S (zz_rf 3 t) 1 = S0 (zz_rf 3 t) 1 := (zz_rc F_S (zP_k3 (by omega) rfl) (zQ_k3 (by omega) rfl) (fun h => h) rfl)
    refine zz_less (ls1 := [some (.ref (zz_rf 3 t)), some (zi v12), some (zi (x2 + 1))]) ⟨rfl, ⟨rfl, ⟨rfl, trivial⟩⟩⟩ ?_
    exact k4 v12 (x2 + 1) S G_S F_S (by omega) (by omega) (zn_mxS (b := v11) i4_2 (by omega) (by omega) o10 ev11 (by omega) (by omega) (by omega)) (by omega)
theorem zi_endOfAll_7_8 {g : mm_G} {l : Launch} (t : Int) (S0 : zz_S) (n : Nat) (hn : zz_end ≤ n) (G_S0 : zz_G S0) (ht : 0 ≤ t ∧ t ≤ 1) : ∀ N : Nat, (∀ (x1 : Int) (x2 : Int) (S : zz_S), zz_G S → zz_fr [] [] (fun _ _ => False) S0 S → (0 ≤ x1 ∧ x1 ≤ 2147483647) → (0 ≤ x2 ∧ x2 ≤ 11) → (zn_mx S0 t x1 x2) → (S (zz_rf 3 t) 1 - x2).toNat < N → zz_E g l zy_endOfAll_7_8 zr_endOfAll_7_8 (zz_QI n (zp_endOfAll_7_8 t S0)) S n 4 [some (.ref (zz_rf 3 t)), some (zi x1), some (zi x2)] [] 0 0) := by
  intro N
  induction N with
  | zero => exact fun x1 x2 S _ _ _ _ _ h => absurd h (Nat.not_lt_zero _)
  | succ N ih =>
    exact fun x1 x2 S a b j0 j1 j2 hR => zb_endOfAll_7_8_4 t S0 n hn G_S0 ht x1 x2 S a b j0 j1 j2 _ rfl (fun x1 x2 S a b j0 j1 j2 h => ih x1 x2 S a b j0 j1 j2 (Nat.lt_of_lt_of_le h (Nat.le_of_lt_succ hR)))
theorem zc_endOfAll_7_8 {g : mm_G} {l : Launch} (t : Int) (S0 : zz_S) (n : Nat) (hn : zz_end ≤ n) (G_S0 : zz_G S0) (ht : 0 ≤ t ∧ t ≤ 1) : mm_Met g l zy_endOfAll_7_8 zr_endOfAll_7_8 [.ref (zz_rf 3 t)] (zz_M S0 n) n (zz_QI n (zp_endOfAll_7_8 t S0)) := by
  refine zz_enter (by decide) (Nat.le_of_ble_eq_true rfl) (zz_less (ls1 := [some (.ref (zz_rf 3 t))]) ⟨rfl, trivial⟩ ?_)
  have F_S0 : zz_fr [] [] (fun _ _ => False) S0 S0 := zz_fr.refl
  have k4 : ∀ (x1 : Int) (x2 : Int) (S : zz_S), zz_G S → zz_fr [] [] (fun _ _ => False) S0 S → (0 ≤ x1 ∧ x1 ≤ 2147483647) → (0 ≤ x2 ∧ x2 ≤ 11) → (zn_mx S0 t x1 x2) → zz_E g l zy_endOfAll_7_8 zr_endOfAll_7_8 (zz_QI n (zp_endOfAll_7_8 t S0)) S n 4 [some (.ref (zz_rf 3 t)), some (zi x1), some (zi x2)] [] 0 0 := fun x1 x2 S a b j0 j1 j2 => (zi_endOfAll_7_8 (g := g) (l := l) t S0 n hn G_S0 ht _) x1 x2 S a b j0 j1 j2 (Nat.lt_succ_self _)
  have b_t := zz_rf3 (z := t) (by omega)
  refine zz_iconst zd_7_8_0 ?_
  refine zz_istore_n [some (.ref (zz_rf 3 t)), some (zi 0)] zd_7_8_1 (by decide) rfl ?_
  refine zz_iconst zd_7_8_2 ?_
  refine zz_istore_n [some (.ref (zz_rf 3 t)), some (zi 0), some (zi 0)] zd_7_8_3 (by decide) rfl ?_
  refine zz_less (ls1 := [some (.ref (zz_rf 3 t)), some (zi 0), some (zi 0)]) ⟨rfl, ⟨rfl, ⟨rfl, trivial⟩⟩⟩ ?_
  exact k4 0 0 S0 G_S0 F_S0 (by omega) (by omega) zn_mx0
theorem zk_Network_56 : mm_Vl "TensorForge$Network" 56 1 0 zy_endOfAll_7_8 := ⟨zyw_endOfAll_7_8, (R_Network, F_Network, 2), rfl, mm_tb_1 1009 (by decide +kernel) rfl, mm_tb_1 1010 (by decide +kernel) rfl, mm_tb_1 1011 (by decide +kernel) rfl⟩
theorem zg_7_7_67 : zq_at zy_offer_7_7.2.1 67 61 ∧ zq_at zy_offer_7_7.2.1 68 42 ∧ zq_at zy_offer_7_7.2.1 69 180 ∧ zq_at zy_offer_7_7.2.1 70 0 ∧ zq_at zy_offer_7_7.2.1 71 16 ∧ zq_at zy_offer_7_7.2.1 72 16 ∧ zq_at zy_offer_7_7.2.1 73 11 ∧ zq_at zy_offer_7_7.2.1 74 162 ∧ zq_at zy_offer_7_7.2.1 75 0 ∧ zq_at zy_offer_7_7.2.1 76 15 ∧ zq_at zy_offer_7_7.2.1 89 6 ∧ zq_at zy_offer_7_7.2.1 90 172 ∧ zq_at zy_offer_7_7.2.1 77 28 ∧ zq_at zy_offer_7_7.2.1 78 43 ∧ zq_at zy_offer_7_7.2.1 79 182 ∧ zq_at zy_offer_7_7.2.1 80 0 ∧ zq_at zy_offer_7_7.2.1 81 60 ∧ zq_at zy_offer_7_7.2.1 82 96 ∧ zq_at zy_offer_7_7.2.1 83 17 ∧ zq_at zy_offer_7_7.2.1 84 8 ∧ zq_at zy_offer_7_7.2.1 85 0 ∧ zq_at zy_offer_7_7.2.1 86 164 ∧ zq_at zy_offer_7_7.2.1 87 0 ∧ zq_at zy_offer_7_7.2.1 88 5 := by decide +kernel
theorem zd_7_7_67 : zz_D zy_offer_7_7 67 (.istore_n 2) 1 68 := ⟨zq_61 zg_7_7_67.1, rfl⟩
theorem zd_7_7_68 : zz_D zy_offer_7_7 68 (.aload_n 0) 1 69 := ⟨zq_42 zg_7_7_67.2.1, rfl⟩
theorem zd_7_7_69 : zz_D zy_offer_7_7 69 (.getfield 16) 3 72 := ⟨zq_180 zg_7_7_67.2.2.1 zg_7_7_67.2.2.2.1 zg_7_7_67.2.2.2.2.1 rfl, rfl⟩
theorem zd_7_7_72 : zz_D zy_offer_7_7 72 (.bipush 11) 2 74 := ⟨zq_16 zg_7_7_67.2.2.2.2.2.1 zg_7_7_67.2.2.2.2.2.2.1 (by decide), rfl⟩
theorem zd_7_7_74 : zz_B zy_offer_7_7 74 (Instr.if_icmp .ge) 89 77 := ⟨15, zq_162 zg_7_7_67.2.2.2.2.2.2.2.1 zg_7_7_67.2.2.2.2.2.2.2.2.1 zg_7_7_67.2.2.2.2.2.2.2.2.2.1 (by decide), rfl, rfl⟩
theorem zd_7_7_89 : zz_D zy_offer_7_7 89 (.iconst 3) 1 90 := ⟨zq_6 zg_7_7_67.2.2.2.2.2.2.2.2.2.2.1, rfl⟩
theorem zd_7_7_90 : zz_D zy_offer_7_7 90 (.ireturn) 1 91 := ⟨zq_172 zg_7_7_67.2.2.2.2.2.2.2.2.2.2.2.1, rfl⟩
theorem zd_7_7_77 : zz_D zy_offer_7_7 77 (.iload_n 2) 1 78 := ⟨zq_28 zg_7_7_67.2.2.2.2.2.2.2.2.2.2.2.2.1, rfl⟩
theorem zd_7_7_78 : zz_D zy_offer_7_7 78 (.aload_n 1) 1 79 := ⟨zq_43 zg_7_7_67.2.2.2.2.2.2.2.2.2.2.2.2.2.1, rfl⟩
theorem zd_7_7_79 : zz_D zy_offer_7_7 79 (.invokevirtual 60) 3 82 := ⟨zq_182 zg_7_7_67.2.2.2.2.2.2.2.2.2.2.2.2.2.2.1 zg_7_7_67.2.2.2.2.2.2.2.2.2.2.2.2.2.2.2.1 zg_7_7_67.2.2.2.2.2.2.2.2.2.2.2.2.2.2.2.2.1 rfl, rfl⟩
theorem zd_7_7_82 : zz_D zy_offer_7_7 82 (.iadd) 1 83 := ⟨zq_96 zg_7_7_67.2.2.2.2.2.2.2.2.2.2.2.2.2.2.2.2.2.1, rfl⟩
theorem zd_7_7_83 : zz_D zy_offer_7_7 83 (.sipush 2048) 3 86 := ⟨zq_17 zg_7_7_67.2.2.2.2.2.2.2.2.2.2.2.2.2.2.2.2.2.2.1 zg_7_7_67.2.2.2.2.2.2.2.2.2.2.2.2.2.2.2.2.2.2.2.1 zg_7_7_67.2.2.2.2.2.2.2.2.2.2.2.2.2.2.2.2.2.2.2.2.1 (by decide), rfl⟩
theorem zd_7_7_86 : zz_B zy_offer_7_7 86 (Instr.if_icmp .le) 91 89 := ⟨5, zq_164 zg_7_7_67.2.2.2.2.2.2.2.2.2.2.2.2.2.2.2.2.2.2.2.2.2.1 zg_7_7_67.2.2.2.2.2.2.2.2.2.2.2.2.2.2.2.2.2.2.2.2.2.2.1 zg_7_7_67.2.2.2.2.2.2.2.2.2.2.2.2.2.2.2.2.2.2.2.2.2.2.2 (by decide), rfl, rfl⟩
theorem zg_7_7_91 : zq_at zy_offer_7_7.2.1 91 43 ∧ zq_at zy_offer_7_7.2.1 92 28 ∧ zq_at zy_offer_7_7.2.1 93 181 ∧ zq_at zy_offer_7_7.2.1 94 0 ∧ zq_at zy_offer_7_7.2.1 95 63 ∧ zq_at zy_offer_7_7.2.1 96 42 ∧ zq_at zy_offer_7_7.2.1 97 89 ∧ zq_at zy_offer_7_7.2.1 98 180 ∧ zq_at zy_offer_7_7.2.1 99 0 ∧ zq_at zy_offer_7_7.2.1 100 16 ∧ zq_at zy_offer_7_7.2.1 101 4 ∧ zq_at zy_offer_7_7.2.1 102 96 ∧ zq_at zy_offer_7_7.2.1 103 181 ∧ zq_at zy_offer_7_7.2.1 104 0 ∧ zq_at zy_offer_7_7.2.1 105 16 ∧ zq_at zy_offer_7_7.2.1 106 3 ∧ zq_at zy_offer_7_7.2.1 107 172 := by decide +kernel
theorem zd_7_7_91 : zz_D zy_offer_7_7 91 (.aload_n 1) 1 92 := ⟨zq_43 zg_7_7_91.1, rfl⟩
theorem zd_7_7_92 : zz_D zy_offer_7_7 92 (.iload_n 2) 1 93 := ⟨zq_28 zg_7_7_91.2.1, rfl⟩
theorem zd_7_7_93 : zz_D zy_offer_7_7 93 (.putfield 63) 3 96 := ⟨zq_181 zg_7_7_91.2.2.1 zg_7_7_91.2.2.2.1 zg_7_7_91.2.2.2.2.1 rfl, rfl⟩
theorem zd_7_7_96 : zz_D zy_offer_7_7 96 (.aload_n 0) 1 97 := ⟨zq_42 zg_7_7_91.2.2.2.2.2.1, rfl⟩
theorem zd_7_7_97 : zz_D zy_offer_7_7 97 (.dup) 1 98 := ⟨zq_89 zg_7_7_91.2.2.2.2.2.2.1, rfl⟩
theorem zd_7_7_98 : zz_D zy_offer_7_7 98 (.getfield 16) 3 101 := ⟨zq_180 zg_7_7_91.2.2.2.2.2.2.2.1 zg_7_7_91.2.2.2.2.2.2.2.2.1 zg_7_7_91.2.2.2.2.2.2.2.2.2.1 rfl, rfl⟩
theorem zd_7_7_101 : zz_D zy_offer_7_7 101 (.iconst 1) 1 102 := ⟨zq_4 zg_7_7_91.2.2.2.2.2.2.2.2.2.2.1, rfl⟩
theorem zd_7_7_102 : zz_D zy_offer_7_7 102 (.iadd) 1 103 := ⟨zq_96 zg_7_7_91.2.2.2.2.2.2.2.2.2.2.2.1, rfl⟩
theorem zd_7_7_103 : zz_D zy_offer_7_7 103 (.putfield 16) 3 106 := ⟨zq_181 zg_7_7_91.2.2.2.2.2.2.2.2.2.2.2.2.1 zg_7_7_91.2.2.2.2.2.2.2.2.2.2.2.2.2.1 zg_7_7_91.2.2.2.2.2.2.2.2.2.2.2.2.2.2.1 rfl, rfl⟩
theorem zd_7_7_106 : zz_D zy_offer_7_7 106 (.iconst 0) 1 107 := ⟨zq_3 zg_7_7_91.2.2.2.2.2.2.2.2.2.2.2.2.2.2.2.1, rfl⟩
theorem zd_7_7_107 : zz_D zy_offer_7_7 107 (.ireturn) 1 108 := ⟨zq_172 zg_7_7_91.2.2.2.2.2.2.2.2.2.2.2.2.2.2.2.2, rfl⟩
-- TensorForge$Network offer ()I
abbrev zr_offer_7_7 : Room := { frames := 2, cells := 0, slots := 0, locals := 31 }
def zp_offer_7_7 (t : Int) (S0 : zz_S) : Int → zz_S → Prop := fun r S => zz_G S ∧ zz_fr [] [] (fun a i => (a = zz_rf 3 t ∧ i = 1) ∨ (a = zz_rf 6 (12 * t + S0 (zz_rf 3 t) 1) ∧ i = 10) ∨ (a = zz_rf 6 (12 * t + S0 (zz_rf 3 t) 1) ∧ i = 11) ∨ (a = zz_rf 6 (12 * t + S0 (zz_rf 3 t) 1) ∧ i = 12) ∨ (a = zz_rf 6 (12 * t + S0 (zz_rf 3 t) 1) ∧ i = 13)) S0 S ∧ (0 ≤ r ∧ r ≤ 3) ∧ (∀ v : zn_T, zn_C S0 t v → zn_V v → (S0 (zz_rf 6 (12 * t + S0 (zz_rf 3 t) 1)) 0 = 1 ∨ (S0 (zz_rf 6 (12 * t + S0 (zz_rf 3 t) 1)) 0 = 2 ∧ S0 (zz_rf 6 (12 * t + S0 (zz_rf 3 t) 1)) 6 = 0) ∨ S0 (zz_rf 6 (12 * t + S0 (zz_rf 3 t) 1)) 0 = 3) → zn_F v (S0 (zz_rf 6 (12 * t + S0 (zz_rf 3 t) 1)) 0) (S0 (zz_rf 6 (12 * t + S0 (zz_rf 3 t) 1)) 1) (S0 (zz_rf 6 (12 * t + S0 (zz_rf 3 t) 1)) 2) (S0 (zz_rf 6 (12 * t + S0 (zz_rf 3 t) 1)) 3) (S0 (zz_rf 6 (12 * t + S0 (zz_rf 3 t) 1)) 4) (S0 (zz_rf 6 (12 * t + S0 (zz_rf 3 t) 1)) 5) (S0 (zz_rf 6 (12 * t + S0 (zz_rf 3 t) 1)) 6) (S0 (zz_rf 6 (12 * t + S0 (zz_rf 3 t) 1)) 7) (S0 (zz_rf 6 (12 * t + S0 (zz_rf 3 t) 1)) 12) (S0 (zz_rf 6 (12 * t + S0 (zz_rf 3 t) 1)) 9) r ∧ (r = 0 → S (zz_rf 3 t) 1 = S0 (zz_rf 3 t) 1 + 1 ∧ ∀ nm : Int, zn_C S t (zn_nw v (S0 (zz_rf 6 (12 * t + S0 (zz_rf 3 t) 1)) 0) (S0 (zz_rf 6 (12 * t + S0 (zz_rf 3 t) 1)) 1) (S0 (zz_rf 6 (12 * t + S0 (zz_rf 3 t) 1)) 2) (S0 (zz_rf 6 (12 * t + S0 (zz_rf 3 t) 1)) 3) (S0 (zz_rf 6 (12 * t + S0 (zz_rf 3 t) 1)) 4) (S0 (zz_rf 6 (12 * t + S0 (zz_rf 3 t) 1)) 5) (S0 (zz_rf 6 (12 * t + S0 (zz_rf 3 t) 1)) 6) (S0 (zz_rf 6 (12 * t + S0 (zz_rf 3 t) 1)) 7) (S0 (zz_rf 6 (12 * t + S0 (zz_rf 3 t) 1)) 8) (S0 (zz_rf 6 (12 * t + S0 (zz_rf 3 t) 1)) 12) (S0 (zz_rf 6 (12 * t + S0 (zz_rf 3 t) 1)) 9) nm)) ∧ (r ≠ 0 → zn_C S t v)) ∧ (zz_Hc S)
set_option maxHeartbeats 4000000 in
theorem zc_offer_7_7 {g : mm_G} {l : Launch} (t : Int) (S0 : zz_S) (n : Nat) (hn : zz_end ≤ n) (G_S0 : zz_G S0) (ht : 0 ≤ t ∧ t ≤ 1) (H_S0 : zz_Hc S0) : mm_Met g l zy_offer_7_7 zr_offer_7_7 [.ref (zz_rf 3 t)] (zz_M S0 n) n (zz_QI n (zp_offer_7_7 t S0)) := by
  refine zz_enter (by decide) (Nat.le_of_ble_eq_true rfl) (zz_less (ls1 := [some (.ref (zz_rf 3 t))]) ⟨rfl, trivial⟩ ?_)
  have F_S0 : zz_fr [] [] (fun a i => (a = zz_rf 3 t ∧ i = 1) ∨ (a = zz_rf 6 (12 * t + S0 (zz_rf 3 t) 1) ∧ i = 10) ∨ (a = zz_rf 6 (12 * t + S0 (zz_rf 3 t) 1) ∧ i = 11) ∨ (a = zz_rf 6 (12 * t + S0 (zz_rf 3 t) 1) ∧ i = 12) ∨ (a = zz_rf 6 (12 * t + S0 (zz_rf 3 t) 1) ∧ i = 13)) S0 S0 := zz_fr.refl
  have b_t := zz_rf3 (z := t) (by omega)
  refine zz_aload_n (x := zz_rf 3 t) rfl zd_7_7_0 ?_
  refine zz_callVA [] zd_7_7_1 zk_Network_34 (zT_k3 (by omega)) (zN_k3 hn (by omega)) rfl rfl ⟨Nat.le_of_ble_eq_true rfl, Nat.le_of_ble_eq_true rfl⟩ ⟨rfl, rfl⟩ (Nat.zero_le _) (Nat.zero_le _) (zc_draft_7_6 t S0 n hn G_S0 (by omega)) (fun v2 S1 hP => ?_)
  obtain ⟨rfl, o3, o4⟩ := hP
  subst o3
  refine zz_astore_n [some (.ref (zz_rf 3 t)), some (.ref (zz_rf 6 (12 * t + S0 (zz_rf 3 t) 1)))] zd_7_7_4 (by decide) rfl ?_
  refine zz_aload_n (x := zz_rf 3 t) rfl zd_7_7_5 ?_
  refine zz_aload_n (x := zz_rf 6 (12 * t + S0 (zz_rf 3 t) 1)) rfl zd_7_7_6 ?_
  have g5 := zz_G.r G_S0 (zz_rf 6 (12 * t + S0 (zz_rf 3 t) 1)) 1 (-2147483648) 2147483647 (zR_k6_1 (by omega)) (zB_k6 (by omega))
  refine zz_geti (z := S0 (zz_rf 6 (12 * t + S0 (zz_rf 3 t) 1)) 1) zd_7_7_7 zf_Network_38 (zT_k6 (by omega)) rfl (zN_k6 hn (by omega)) rfl ?_
  refine zz_callVI [zi (S0 (zz_rf 6 (12 * t + S0 (zz_rf 3 t) 1)) 1)] zd_7_7_10 zk_Network_41 (zT_k3 (by omega)) (zN_k3 hn (by omega)) rfl rfl ⟨Nat.le_of_ble_eq_true rfl, Nat.le_of_ble_eq_true rfl⟩ ⟨rfl, rfl⟩ (Nat.zero_le _) (Nat.zero_le _) (zc_has_7_5 t (S0 (zz_rf 6 (12 * t + S0 (zz_rf 3 t) 1)) 1) S0 n hn G_S0 (by omega) (by omega)) (fun v7 S6 hP => ?_)
  obtain ⟨rfl, o8, o9⟩ := hP
  rcases (by omega : v7 = 0 ∨ v7 = 1) with rfl | rfl
  · refine zz_if_eq (by omega) zd_7_7_13 (fun c10 => ?_) (fun c10 => ?_)
    · refine zz_iconst zd_7_7_27 ?_
      exact zz_iret zd_7_7_28 rfl (Nat.zero_le _) (Nat.zero_le _) ⟨_, _, rfl, G_S0, F_S0, by omega, (fun v hC hV hK => by exact ⟨Or.inl ⟨rfl, fun hi => by have h9 := (zn_inC hC).mp hi; omega⟩, fun h => absurd h (by decide), fun _ => hC⟩), H_S0⟩
    · exfalso; omega
  · refine zz_if_eq (by omega) zd_7_7_13 (fun c11 => ?_) (fun c11 => ?_)
    · exfalso; omega
    · refine zz_aload_n (x := zz_rf 3 t) rfl zd_7_7_16 ?_
      refine zz_aload_n (x := zz_rf 6 (12 * t + S0 (zz_rf 3 t) 1)) rfl zd_7_7_17 ?_
      have g12 := zz_G.r G_S0 (zz_rf 6 (12 * t + S0 (zz_rf 3 t) 1)) 2 (-2147483648) 2147483647 (zR_k6_2 (by omega)) (zB_k6 (by omega))
      refine zz_geti (z := S0 (zz_rf 6 (12 * t + S0 (zz_rf 3 t) 1)) 2) zd_7_7_18 zf_Network_45 (zT_k6 (by omega)) rfl (zN_k6 hn (by omega)) rfl ?_
      refine zz_callVI [zi (S0 (zz_rf 6 (12 * t + S0 (zz_rf 3 t) 1)) 2)] zd_7_7_21 zk_Network_41 (zT_k3 (by omega)) (zN_k3 hn (by omega)) rfl rfl ⟨Nat.le_of_ble_eq_true rfl, Nat.le_of_ble_eq_true rfl⟩ ⟨rfl, rfl⟩ (Nat.zero_le _) (Nat.zero_le _) (zc_has_7_5 t (S0 (zz_rf 6 (12 * t + S0 (zz_rf 3 t) 1)) 2) S0 n hn G_S0 (by omega) (by omega)) (fun v14 S13 hP => ?_)
      obtain ⟨rfl, o15, o16⟩ := hP
      rcases (by omega : v14 = 0 ∨ v14 = 1) with rfl | rfl
      · refine zz_if_ne (by omega) zd_7_7_24 (fun c17 => ?_) (fun c17 => ?_)
        · exfalso; omega
        · refine zz_iconst zd_7_7_27 ?_
          exact zz_iret zd_7_7_28 rfl (Nat.zero_le _) (Nat.zero_le _) ⟨_, _, rfl, G_S0, F_S0, by omega, (fun v hC hV hK => by exact ⟨Or.inl ⟨rfl, fun hi => by have h9 := (zn_inC hC).mp hi; omega⟩, fun h => absurd h (by decide), fun _ => hC⟩), H_S0⟩
      · refine zz_if_ne (by omega) zd_7_7_24 (fun c18 => ?_) (fun c18 => ?_)
        · refine zz_aload_n (x := zz_rf 6 (12 * t + S0 (zz_rf 3 t) 1)) rfl zd_7_7_29 ?_
          refine zz_callVI [] zd_7_7_30 zk_Network_48 (zT_k6 (by omega)) (zN_k6 hn (by omega)) rfl rfl ⟨Nat.le_of_ble_eq_true rfl, Nat.le_of_ble_eq_true rfl⟩ ⟨rfl, rfl⟩ (Nat.zero_le _) (Nat.zero_le _) (zc_numbersFit_4_10 (12 * t + S0 (zz_rf 3 t) 1) S0 n hn G_S0 (by omega)) (fun v20 S19 hP => ?_)
          obtain ⟨rfl, o21, o22, o23⟩ := hP
          rcases (by omega : v20 = 0 ∨ v20 = 1) with rfl | rfl
          · refine zz_if_eq (by omega) zd_7_7_33 (fun c24 => ?_) (fun c24 => ?_)
            · refine zz_iconst zd_7_7_61 ?_
              exact zz_iret zd_7_7_62 rfl (Nat.zero_le _) (Nat.zero_le _) ⟨_, _, rfl, G_S0, F_S0, by omega, (fun v hC hV hK => by have hi9 : zn_in v (S0 (zz_rf 6 (12 * t + S0 (zz_rf 3 t) 1)) 1) (S0 (zz_rf 6 (12 * t + S0 (zz_rf 3 t) 1)) 2) := (zn_inC hC).mpr (by omega); exact ⟨Or.inr (Or.inl ⟨rfl, hi9, fun h9 => (o23.resolve_left (fun h8 => absurd h8.1 (by decide))).2 h9.1⟩), fun h => absurd h (by decide), fun _ => hC⟩), H_S0⟩
            · exfalso; omega
          · refine zz_if_eq (by omega) zd_7_7_33 (fun c25 => ?_) (fun c25 => ?_)
            · exfalso; omega
            · refine zz_aload_n (x := zz_rf 6 (12 * t + S0 (zz_rf 3 t) 1)) rfl zd_7_7_36 ?_
              refine zz_aload_n (x := zz_rf 3 t) rfl zd_7_7_37 ?_
              refine zz_getr (kd := 0) (z := ((zz_rf 3 t + 1 : Nat) : Int)) zd_7_7_38 zf_Network_11 (zT_k3 (by omega)) rfl (zN_k3 hn (by omega)) (zE_k3a G_S0 (by omega)) (Int.natCast_nonneg _) (zz_rf 3 t + 1) (Int.toNat_natCast _) ?_
              refine zz_aload_n (x := zz_rf 6 (12 * t + S0 (zz_rf 3 t) 1)) rfl zd_7_7_41 ?_
              refine zz_geti (z := S0 (zz_rf 6 (12 * t + S0 (zz_rf 3 t) 1)) 1) zd_7_7_42 zf_Network_38 (zT_k6 (by omega)) rfl (zN_k6 hn (by omega)) rfl ?_
              refine zz_aald (kd := 4) (z := 12 * t + (S0 (zz_rf 6 (12 * t + S0 (zz_rf 3 t) 1)) 1)) zd_7_7_45 (zT_k3a (by omega)) rfl (zN_k3a hn (by omega)) (by decide) (by omega) (zE_lay G_S0 (by omega) (by omega)) (by omega) (zz_rf 6 (12 * t + (S0 (zz_rf 6 (12 * t + S0 (zz_rf 3 t) 1)) 1))) rfl ?_
              refine zz_aload_n (x := zz_rf 3 t) rfl zd_7_7_46 ?_
              refine zz_getr (kd := 0) (z := ((zz_rf 3 t + 1 : Nat) : Int)) zd_7_7_47 zf_Network_11 (zT_k3 (by omega)) rfl (zN_k3 hn (by omega)) (zE_k3a G_S0 (by omega)) (Int.natCast_nonneg _) (zz_rf 3 t + 1) (Int.toNat_natCast _) ?_
              refine zz_aload_n (x := zz_rf 6 (12 * t + S0 (zz_rf 3 t) 1)) rfl zd_7_7_50 ?_
              refine zz_geti (z := S0 (zz_rf 6 (12 * t + S0 (zz_rf 3 t) 1)) 2) zd_7_7_51 zf_Network_45 (zT_k6 (by omega)) rfl (zN_k6 hn (by omega)) rfl ?_
              refine zz_aald (kd := 4) (z := 12 * t + (S0 (zz_rf 6 (12 * t + S0 (zz_rf 3 t) 1)) 2)) zd_7_7_54 (zT_k3a (by omega)) rfl (zN_k3a hn (by omega)) (by decide) (by omega) (zE_lay G_S0 (by omega) (by omega)) (by omega) (zz_rf 6 (12 * t + (S0 (zz_rf 6 (12 * t + S0 (zz_rf 3 t) 1)) 2))) rfl ?_
              refine zz_callVI [.ref (zz_rf 6 (12 * t + (S0 (zz_rf 6 (12 * t + S0 (zz_rf 3 t) 1)) 1))), .ref (zz_rf 6 (12 * t + (S0 (zz_rf 6 (12 * t + S0 (zz_rf 3 t) 1)) 2)))] zd_7_7_55 zk_Network_52 (zT_k6 (by omega)) (zN_k6 hn (by omega)) rfl rfl ⟨Nat.le_of_ble_eq_true rfl, Nat.le_of_ble_eq_true rfl⟩ ⟨rfl, rfl⟩ (Nat.zero_le _) (Nat.zero_le _) (zc_takeResult_4_11 (12 * t + S0 (zz_rf 3 t) 1) (12 * t + (S0 (zz_rf 6 (12 * t + S0 (zz_rf 3 t) 1)) 1)) (12 * t + (S0 (zz_rf 6 (12 * t + S0 (zz_rf 3 t) 1)) 2)) S0 n hn G_S0 (by omega) (by omega) (by omega)) (fun v27 S26 hP => ?_)
              obtain ⟨G_S26, fS26, o28, o29, o30⟩ := hP
              have b31 := zz_G.r G_S0 (zz_rf 3 t) 1 1 11 (zR_k3_1 (by omega)) (zB_k3 (by omega))
              have F_S26 := zz_fr.trans F_S0 fS26 rfl (fun a i h => by rcases h with h | h | h; exact Or.inr (Or.inr (Or.inr (Or.inl h))); exact Or.inr (Or.inr (Or.inr (Or.inr (Or.inl h)))); exact Or.inr (Or.inr (Or.inr (Or.inr (Or.inr (Or.inl h))))))
              have b32 := zz_G.r G_S0 (zz_rf 3 t) 1 1 11 (zR_k3_1 (by omega)) (zB_k3 (by omega))
              have b33 := zz_rf6 (z := (12 * t + S0 (zz_rf 3 t) 1)) (by omega)
              have b34 := zz_rf3 (z := t) (by omega)
              have H_S26 : zz_Hc S26 := zz_Hc.fr (q := t) (z := 12 * t + S0 (zz_rf 3 t) 1) fS26 rfl rfl G_S0 (by omega) rfl (fun b j h => by omega) H_S0
              rcases (by omega : v27 = 0 ∨ v27 = 1) with rfl | rfl
              · refine zz_if_ne (by omega) zd_7_7_58 (fun c35 => ?_) (fun c35 => ?_)
                · exfalso; omega
                · refine zz_iconst zd_7_7_61 ?_
                  have e36 : S26 (zz_rf 3 t) 1 = S0 (zz_rf 3 t) 1 := (zz_rc fS26 (zP_k3 (by omega) rfl) (zQ_k3 (by omega) rfl) (by have hz_ := zz_rf3 (z := t) (by omega); omega) rfl)
                  exact zz_iret zd_7_7_62 rfl (Nat.zero_le _) (Nat.zero_le _) ⟨_, _, rfl, G_S26, F_S26, by omega, (fun v hC hV hK => by have hi9 : zn_in v (S0 (zz_rf 6 (12 * t + S0 (zz_rf 3 t) 1)) 1) (S0 (zz_rf 6 (12 * t + S0 (zz_rf 3 t) 1)) 2) := (zn_inC hC).mpr (by omega); have hf9 := (o23.resolve_right (fun h8 => absurd h8.1 (by decide))).2; have g9 := zn_Cf hC hV (k := S0 (zz_rf 6 (12 * t + S0 (zz_rf 3 t) 1)) 1) (by omega) (by omega); have t9 := o30 hf9 ⟨g9.1, g9.2.1, g9.2.2.1⟩ (by omega) (by omega) hK; exact ⟨Or.inr (Or.inl ⟨rfl, hi9, fun h9 => (t9.resolve_left (fun h8 => absurd h8.1 (by decide))).2 ((zn_rsC hC hi9).mp h9.2)⟩), fun h => absurd h (by decide), fun _ => (zn_C.fr hC hV F_S26 rfl rfl (by omega) (by omega) (fun a i h => by omega))⟩), H_S26⟩
              · refine zz_if_ne (by omega) zd_7_7_58 (fun c37 => ?_) (fun c37 => ?_)
                · refine zz_aload_n (x := zz_rf 3 t) rfl zd_7_7_63 ?_
                  refine zz_callVI [] zd_7_7_64 zk_Network_56 (zT_k3 (by omega)) (zN_k3 hn (by omega)) rfl rfl ⟨Nat.le_of_ble_eq_true rfl, Nat.le_of_ble_eq_true rfl⟩ ⟨rfl, rfl⟩ (Nat.zero_le _) (Nat.zero_le _) (zc_endOfAll_7_8 t S26 n hn G_S26 (by omega)) (fun v39 S38 hP => ?_)
                  obtain ⟨rfl, o40, o41⟩ := hP
                  skip
                  refine zz_istore_n [some (.ref (zz_rf 3 t)), some (.ref (zz_rf 6 (12 * t + S0 (zz_rf 3 t) 1))), some (zi v39)] zd_7_7_67 (by decide) rfl ?_
                  refine zz_aload_n (x := zz_rf 3 t) rfl zd_7_7_68 ?_
                  have g42 := zz_G.r G_S0 (zz_rf 3 t) 1 1 11 (zR_k3_1 (by omega)) (zB_k3 (by omega))
                  refine zz_geti (z := S0 (zz_rf 3 t) 1) zd_7_7_69 zf_Network_16 (zT_k3 (by omega)) rfl (zN_k3 hn (by omega)) (zz_rc fS26 (zP_k3 (by omega) rfl) (zQ_k3 (by omega) rfl) (by have hz_ := zz_rf3 (z := t) (by omega); omega) rfl) ?_
                  refine zz_bipush (by decide) zd_7_7_72 ?_
                  refine zz_icmp_ge (by omega) (by omega) zd_7_7_74 (fun c43 => ?_) (fun c43 => ?_)
                  · refine zz_iconst zd_7_7_89 ?_
                    have e44 : S26 (zz_rf 3 t) 1 = S0 (zz_rf 3 t) 1 := (zz_rc fS26 (zP_k3 (by omega) rfl) (zQ_k3 (by omega) rfl) (by have hz_ := zz_rf3 (z := t) (by omega); omega) rfl)
                    exact zz_iret zd_7_7_90 rfl (Nat.zero_le _) (Nat.zero_le _) ⟨_, _, rfl, G_S26, F_S26, by omega, (fun v hC hV hK => by have hi9 : zn_in v (S0 (zz_rf 6 (12 * t + S0 (zz_rf 3 t) 1)) 1) (S0 (zz_rf 6 (12 * t + S0 (zz_rf 3 t) 1)) 2) := (zn_inC hC).mpr (by omega); have hf9 := (o23.resolve_right (fun h8 => absurd h8.1 (by decide))).2; have g9 := zn_Cf hC hV (k := S0 (zz_rf 6 (12 * t + S0 (zz_rf 3 t) 1)) 1) (by omega) (by omega); have t9 := o30 hf9 ⟨g9.1, g9.2.1, g9.2.2.1⟩ (by omega) (by omega) hK; obtain ⟨_, r9, q10, q11, q12⟩ := t9.resolve_right (fun h8 => absurd h8.1 (by decide)); have r8 := (zn_rsC hC hi9).mpr r9; have c9 := hC.1; exact ⟨Or.inr (Or.inr (Or.inl ⟨rfl, hi9, hf9, r8, fun h9 => by have h8 := h9.1; omega⟩)), fun h => absurd h (by decide), fun _ => (zn_C.fr hC hV F_S26 rfl rfl (by omega) (by omega) (fun a i h => by omega))⟩), H_S26⟩
                  · refine zz_iload_n (x := v39) rfl zd_7_7_77 ?_
                    refine zz_aload_n (x := zz_rf 6 (12 * t + S0 (zz_rf 3 t) 1)) rfl zd_7_7_78 ?_
                    refine zz_callVI [] zd_7_7_79 zk_Network_60 (zT_k6 (by omega)) (zN_k6 hn (by omega)) rfl rfl ⟨Nat.le_of_ble_eq_true rfl, Nat.le_of_ble_eq_true rfl⟩ ⟨rfl, rfl⟩ (Nat.zero_le _) (Nat.zero_le _) (zc_size_4_7 (12 * t + S0 (zz_rf 3 t) 1) S26 n hn G_S26 (by omega)) (fun v46 S45 hP => ?_)
                    obtain ⟨rfl, o47, o48⟩ := hP
                    skip
                    refine zz_iadd zd_7_7_82 ?_
                    refine zz_nrm (fun v49 hv49 ev49 => ?_)
                    refine zz_sipush (by decide) zd_7_7_83 ?_
                    refine zz_icmp_le (by omega) (by omega) zd_7_7_86 (fun c50 => ?_) (fun c50 => ?_)
                    · refine zz_aload_n (x := zz_rf 6 (12 * t + S0 (zz_rf 3 t) 1)) rfl zd_7_7_91 ?_
                      refine zz_iload_n (x := v39) rfl zd_7_7_92 ?_
                      refine zz_puti zd_7_7_93 zf_Network_63 (zT_k6 (by omega)) rfl (zN_k6 hn (by omega)) (fun S51 qS51 => ?_)
                      have G_S51 := zz_G.put G_S26 qS51 (-2147483648) 2147483647 (zR_k6_13 (by omega)) (by omega)
                      have F_S51 := zz_fr.putv F_S26 qS51 (Or.inr (Or.inr (Or.inr (Or.inr (⟨rfl, rfl⟩)))))
                      have H_S51 : zz_Hc S51 := zz_Hc.fr (q := t) (z := 12 * t + S0 (zz_rf 3 t) 1) (zz_fr.put1 qS51) rfl rfl G_S26 (by omega) (by rw [show S26 (zz_rf 3 t) 1 = S0 (zz_rf 3 t) 1 from (zz_rc fS26 (zP_k3 (by omega) rfl) (zQ_k3 (by omega) rfl) (by have hz_ := zz_rf3 (z := t) (by omega); omega) rfl)]) (fun b j h => Or.inr (Or.inr h.1)) H_S26
                      refine zz_aload_n (x := zz_rf 3 t) rfl zd_7_7_96 ?_
                      refine zz_dup rfl zd_7_7_97 ?_
                      refine zz_geti (z := S0 (zz_rf 3 t) 1) zd_7_7_98 zf_Network_16 (zT_k3 (by omega)) rfl (zN_k3 hn (by omega)) (zz_ro qS51 (fun h => absurd h.2 (by decide)) (zz_rc fS26 (zP_k3 (by omega) rfl) (zQ_k3 (by omega) rfl) (by have hz_ := zz_rf3 (z := t) (by omega); omega) rfl)) ?_
                      refine zz_iconst zd_7_7_101 ?_
                      refine zz_iadd zd_7_7_102 ?_
                      refine zz_puti zd_7_7_103 zf_Network_16 (zT_k3 (by omega)) rfl (zN_k3 hn (by omega)) (fun S52 qS52 => ?_)
                      have G_S52 := zz_G.put G_S51 qS52 1 11 (zR_k3_1 (by omega)) (by omega)
                      have F_S52 := zz_fr.putv F_S51 qS52 (Or.inl ⟨rfl, rfl⟩)
                      have e53 : S51 (zz_rf 3 t) 1 = S0 (zz_rf 3 t) 1 := (zz_ro qS51 (fun h => absurd h.2 (by decide)) (zz_rc fS26 (zP_k3 (by omega) rfl) (zQ_k3 (by omega) rfl) (by have hz_ := zz_rf3 (z := t) (by omega); omega) rfl))
                      have e54 : S51 (zz_rf 6 (12 * t + S0 (zz_rf 3 t) 1)) 0 = S0 (zz_rf 6 (12 * t + S0 (zz_rf 3 t) 1)) 0 := (zz_ro qS51 (fun h => absurd h.2 (by decide)) (zz_rc fS26 (zP_k6 (by omega) rfl) (zQ_k6 (by omega) rfl) (by have hz_ := zz_rf6 (z := 12 * t + S0 (zz_rf 3 t) 1) (by omega); omega) rfl))
                      have e55 : S51 (zz_rf 6 (12 * t + S0 (zz_rf 3 t) 1)) 12 = S26 (zz_rf 6 (12 * t + S0 (zz_rf 3 t) 1)) 12 := (zz_ro qS51 (fun h => absurd h.2 (by decide)) rfl)
                      have e56 : S51 (zz_rf 6 (12 * t + S0 (zz_rf 3 t) 1)) 3 = S0 (zz_rf 6 (12 * t + S0 (zz_rf 3 t) 1)) 3 := (zz_ro qS51 (fun h => absurd h.2 (by decide)) (zz_rc fS26 (zP_k6 (by omega) rfl) (zQ_k6 (by omega) rfl) (by have hz_ := zz_rf6 (z := 12 * t + S0 (zz_rf 3 t) 1) (by omega); omega) rfl))
                      have e57 : S51 (zz_rf 6 (12 * t + S0 (zz_rf 3 t) 1)) 4 = S0 (zz_rf 6 (12 * t + S0 (zz_rf 3 t) 1)) 4 := (zz_ro qS51 (fun h => absurd h.2 (by decide)) (zz_rc fS26 (zP_k6 (by omega) rfl) (zQ_k6 (by omega) rfl) (by have hz_ := zz_rf6 (z := 12 * t + S0 (zz_rf 3 t) 1) (by omega); omega) rfl))
                      have hy9 := (H_S0 t (by omega) (S0 (zz_rf 6 (12 * t + S0 (zz_rf 3 t) 1)) 1) (by omega) (by omega)).2
                      have H_S52 : zz_Hc S52 := zz_Hc.up qS52 (by omega) (by omega) G_S51 (by omega) (by rw [show S51 (zz_rf 3 t) 1 = S0 (zz_rf 3 t) 1 by omega]; unfold zz_ly; omega) H_S51
                      refine zz_iconst zd_7_7_106 ?_
                      have e58 : S52 (zz_rf 3 t) 1 = (S0 (zz_rf 3 t) 1) + 1 := (zz_rs qS52)
                      have e59 : S52 (zz_rf 6 (12 * t + S0 (zz_rf 3 t) 1)) 0 = S0 (zz_rf 6 (12 * t + S0 (zz_rf 3 t) 1)) 0 := (zz_ro qS52 (fun h => absurd h.2 (by decide)) (zz_ro qS51 (fun h => absurd h.2 (by decide)) (zz_rc fS26 (zP_k6 (by omega) rfl) (zQ_k6 (by omega) rfl) (by have hz_ := zz_rf6 (z := 12 * t + S0 (zz_rf 3 t) 1) (by omega); omega) rfl)))
                      have e60 : S52 (zz_rf 6 (12 * t + S0 (zz_rf 3 t) 1)) 1 = S0 (zz_rf 6 (12 * t + S0 (zz_rf 3 t) 1)) 1 := (zz_ro qS52 (fun h => absurd h.1 (by have := zz_rf3 (z := t) (by omega); have := zz_rf6 (z := 12 * t + S0 (zz_rf 3 t) 1) (by omega); omega)) (zz_ro qS51 (fun h => absurd h.2 (by decide)) (zz_rc fS26 (zP_k6 (by omega) rfl) (zQ_k6 (by omega) rfl) (by have hz_ := zz_rf6 (z := 12 * t + S0 (zz_rf 3 t) 1) (by omega); omega) rfl)))
                      have e61 : S52 (zz_rf 6 (12 * t + S0 (zz_rf 3 t) 1)) 10 = S26 (zz_rf 6 (12 * t + S0 (zz_rf 3 t) 1)) 10 := (zz_ro qS52 (fun h => absurd h.2 (by decide)) (zz_ro qS51 (fun h => absurd h.2 (by decide)) rfl))
                      have e62 : S52 (zz_rf 6 (12 * t + S0 (zz_rf 3 t) 1)) 11 = S26 (zz_rf 6 (12 * t + S0 (zz_rf 3 t) 1)) 11 := (zz_ro qS52 (fun h => absurd h.2 (by decide)) (zz_ro qS51 (fun h => absurd h.2 (by decide)) rfl))
                      have e63 : S52 (zz_rf 6 (12 * t + S0 (zz_rf 3 t) 1)) 12 = S26 (zz_rf 6 (12 * t + S0 (zz_rf 3 t) 1)) 12 := (zz_ro qS52 (fun h => absurd h.2 (by decide)) (zz_ro qS51 (fun h => absurd h.2 (by decide)) rfl))
                      have e64 : S52 (zz_rf 6 (12 * t + S0 (zz_rf 3 t) 1)) 13 = v39 := (zz_ro qS52 (fun h => absurd h.2 (by decide)) (zz_rs qS51))
                      have e65 : S52 (zz_rf 6 (12 * t + S0 (zz_rf 3 t) 1)) 2 = S0 (zz_rf 6 (12 * t + S0 (zz_rf 3 t) 1)) 2 := (zz_ro qS52 (fun h => absurd h.2 (by decide)) (zz_ro qS51 (fun h => absurd h.2 (by decide)) (zz_rc fS26 (zP_k6 (by omega) rfl) (zQ_k6 (by omega) rfl) (by have hz_ := zz_rf6 (z := 12 * t + S0 (zz_rf 3 t) 1) (by omega); omega) rfl)))
                      have e66 : S52 (zz_rf 6 (12 * t + S0 (zz_rf 3 t) 1)) 3 = S0 (zz_rf 6 (12 * t + S0 (zz_rf 3 t) 1)) 3 := (zz_ro qS52 (fun h => absurd h.2 (by decide)) (zz_ro qS51 (fun h => absurd h.2 (by decide)) (zz_rc fS26 (zP_k6 (by omega) rfl) (zQ_k6 (by omega) rfl) (by have hz_ := zz_rf6 (z := 12 * t + S0 (zz_rf 3 t) 1) (by omega); omega) rfl)))
                      have e67 : S52 (zz_rf 6 (12 * t + S0 (zz_rf 3 t) 1)) 4 = S0 (zz_rf 6 (12 * t + S0 (zz_rf 3 t) 1)) 4 := (zz_ro qS52 (fun h => absurd h.2 (by decide)) (zz_ro qS51 (fun h => absurd h.2 (by decide)) (zz_rc fS26 (zP_k6 (by omega) rfl) (zQ_k6 (by omega) rfl) (by have hz_ := zz_rf6 (z := 12 * t + S0 (zz_rf 3 t) 1) (by omega); omega) rfl)))
                      have e68 : S52 (zz_rf 6 (12 * t + S0 (zz_rf 3 t) 1)) 5 = S0 (zz_rf 6 (12 * t + S0 (zz_rf 3 t) 1)) 5 := (zz_ro qS52 (fun h => absurd h.2 (by decide)) (zz_ro qS51 (fun h => absurd h.2 (by decide)) (zz_rc fS26 (zP_k6 (by omega) rfl) (zQ_k6 (by omega) rfl) (by have hz_ := zz_rf6 (z := 12 * t + S0 (zz_rf 3 t) 1) (by omega); omega) rfl)))
                      have e69 : S52 (zz_rf 6 (12 * t + S0 (zz_rf 3 t) 1)) 6 = S0 (zz_rf 6 (12 * t + S0 (zz_rf 3 t) 1)) 6 := (zz_ro qS52 (fun h => absurd h.2 (by decide)) (zz_ro qS51 (fun h => absurd h.2 (by decide)) (zz_rc fS26 (zP_k6 (by omega) rfl) (zQ_k6 (by omega) rfl) (by have hz_ := zz_rf6 (z := 12 * t + S0 (zz_rf 3 t) 1) (by omega); omega) rfl)))
                      have e70 : S52 (zz_rf 6 (12 * t + S0 (zz_rf 3 t) 1)) 7 = S0 (zz_rf 6 (12 * t + S0 (zz_rf 3 t) 1)) 7 := (zz_ro qS52 (fun h => absurd h.2 (by decide)) (zz_ro qS51 (fun h => absurd h.2 (by decide)) (zz_rc fS26 (zP_k6 (by omega) rfl) (zQ_k6 (by omega) rfl) (by have hz_ := zz_rf6 (z := 12 * t + S0 (zz_rf 3 t) 1) (by omega); omega) rfl)))
                      have e71 : S52 (zz_rf 6 (12 * t + S0 (zz_rf 3 t) 1)) 8 = S0 (zz_rf 6 (12 * t + S0 (zz_rf 3 t) 1)) 8 := (zz_ro qS52 (fun h => absurd h.2 (by decide)) (zz_ro qS51 (fun h => absurd h.2 (by decide)) (zz_rc fS26 (zP_k6 (by omega) rfl) (zQ_k6 (by omega) rfl) (by have hz_ := zz_rf6 (z := 12 * t + S0 (zz_rf 3 t) 1) (by omega); omega) rfl)))
                      have e72 : S52 (zz_rf 6 (12 * t + S0 (zz_rf 3 t) 1)) 9 = S0 (zz_rf 6 (12 * t + S0 (zz_rf 3 t) 1)) 9 := (zz_ro qS52 (fun h => absurd h.2 (by decide)) (zz_ro qS51 (fun h => absurd h.2 (by decide)) (zz_rc fS26 (zP_k6 (by omega) rfl) (zQ_k6 (by omega) rfl) (by have hz_ := zz_rf6 (z := 12 * t + S0 (zz_rf 3 t) 1) (by omega); omega) rfl)))
                      exact zz_iret zd_7_7_107 rfl (Nat.zero_le _) (Nat.zero_le _) ⟨_, _, rfl, G_S52, F_S52, by omega, (fun v hC hV hK => by have hi9 : zn_in v (S0 (zz_rf 6 (12 * t + S0 (zz_rf 3 t) 1)) 1) (S0 (zz_rf 6 (12 * t + S0 (zz_rf 3 t) 1)) 2) := (zn_inC hC).mpr (by omega); have hf9 := (o23.resolve_right (fun h8 => absurd h8.1 (by decide))).2; have g9 := zn_Cf hC hV (k := S0 (zz_rf 6 (12 * t + S0 (zz_rf 3 t) 1)) 1) (by omega) (by omega); have t9 := o30 hf9 ⟨g9.1, g9.2.1, g9.2.2.1⟩ (by omega) (by omega) hK; obtain ⟨_, r9, q10, q11, q12⟩ := t9.resolve_right (fun h8 => absurd h8.1 (by decide)); have r8 := (zn_rsC hC hi9).mpr r9; have c9 := hC.1; have h3_ := zz_rf3 (z := t) (by omega); have h6_ := zz_rf6 (z := 12 * t + S0 (zz_rf 3 t) 1) (by omega); have C1 : zn_C S26 t v := zn_C.fr hC hV fS26 rfl rfl (by omega) (fS26 (zz_rf 3 t) 1 rfl rfl (fun h => by omega)) (fun a i h => by omega); have b9 := o41 v C1 hV; have w9 := zn_ofS hC hV (by omega) hi9 hf9 r9 q10 q11 q12 o48; have v9 := hV.1; have z9 : 0 ≤ v39 ∧ v39 ≤ 2048 := (by have := zn_E0 hV; omega); have c_v49 := ev49 (by omega); refine ⟨Or.inr (Or.inr (Or.inr ⟨rfl, hi9, hf9, r8, by omega, by omega⟩)), fun _ => ⟨by omega, fun nm => ?_⟩, fun h => absurd rfl h⟩; have y10 := zn_Cs hC (k := S0 (zz_rf 6 (12 * t + S0 (zz_rf 3 t) 1)) 1) (by omega) (by omega) 10 (by decide); have y11 := zn_Cs hC (k := S0 (zz_rf 6 (12 * t + S0 (zz_rf 3 t) 1)) 1) (by omega) (by omega) 11 (by decide); have y12 := zn_Cs hC (k := S0 (zz_rf 6 (12 * t + S0 (zz_rf 3 t) 1)) 1) (by omega) (by omega) 12 (by decide); rw [y10] at q10; rw [y11] at q11; rw [y12] at q12; exact zn_C.up hC hV F_S52 rfl rfl (by omega) (T := S0 (zz_rf 3 t) 1) rfl (by omega) (fun a i h => by omega) (by omega) (by omega) (by omega) (by omega) (by omega) (by omega) (by omega) (by omega) (by omega) (by omega) (by omega) (by omega) (by omega) (by omega)), H_S52⟩
                    · refine zz_iconst zd_7_7_89 ?_
                      have e73 : S26 (zz_rf 3 t) 1 = S0 (zz_rf 3 t) 1 := (zz_rc fS26 (zP_k3 (by omega) rfl) (zQ_k3 (by omega) rfl) (by have hz_ := zz_rf3 (z := t) (by omega); omega) rfl)
                      exact zz_iret zd_7_7_90 rfl (Nat.zero_le _) (Nat.zero_le _) ⟨_, _, rfl, G_S26, F_S26, by omega, (fun v hC hV hK => by have hi9 : zn_in v (S0 (zz_rf 6 (12 * t + S0 (zz_rf 3 t) 1)) 1) (S0 (zz_rf 6 (12 * t + S0 (zz_rf 3 t) 1)) 2) := (zn_inC hC).mpr (by omega); have hf9 := (o23.resolve_right (fun h8 => absurd h8.1 (by decide))).2; have g9 := zn_Cf hC hV (k := S0 (zz_rf 6 (12 * t + S0 (zz_rf 3 t) 1)) 1) (by omega) (by omega); have t9 := o30 hf9 ⟨g9.1, g9.2.1, g9.2.2.1⟩ (by omega) (by omega) hK; obtain ⟨_, r9, q10, q11, q12⟩ := t9.resolve_right (fun h8 => absurd h8.1 (by decide)); have r8 := (zn_rsC hC hi9).mpr r9; have c9 := hC.1; have h3_ := zz_rf3 (z := t) (by omega); have h6_ := zz_rf6 (z := 12 * t + S0 (zz_rf 3 t) 1) (by omega); have C1 : zn_C S26 t v := zn_C.fr hC hV fS26 rfl rfl (by omega) (fS26 (zz_rf 3 t) 1 rfl rfl (fun h => by omega)) (fun a i h => by omega); have b9 := o41 v C1 hV; have w9 := zn_ofS hC hV (by omega) hi9 hf9 r9 q10 q11 q12 o48; have v9 := hV.1; have z9 : 0 ≤ v39 ∧ v39 ≤ 2048 := (by have := zn_E0 hV; omega); have c_v49 := ev49 (by omega); exact ⟨Or.inr (Or.inr (Or.inl ⟨rfl, hi9, hf9, r8, fun h9 => by have h8 := h9.2; omega⟩)), fun h => absurd h (by decide), fun _ => (zn_C.fr hC hV F_S26 rfl rfl (by omega) (by omega) (fun a i h => by omega))⟩), H_S26⟩
                · exfalso; omega
        · exfalso; omega
theorem zk_TF_326 : mm_Vl "TensorForge" 326 1 0 zy_offer_7_7 := ⟨zyw_offer_7_7, (R_Network, F_Network, 2), rfl, mm_tb_1 1371 (by decide +kernel) rfl, mm_tb_1 990 (by decide +kernel) rfl, mm_tb_1 991 (by decide +kernel) rfl⟩
theorem zf_TF_278 : mm_Fl "TensorForge" 278 1 1 .int false := ⟨R_Network, F_Network, 2, t_Network, rfl, i_Network, by decide, mm_tb_1 148 (by decide +kernel) rfl, rfl, t_Network_ok, n_Network, rfl, by decide +kernel⟩
theorem zt_1_31_44 : zz_ThrW zy_added_1_31 44 126 331 130 := ⟨by decide +kernel, by decide +kernel, by decide +kernel, by decide +kernel, by decide +kernel⟩
theorem zxl_TF_126_331_130 : mm_Xl "TensorForge" 126 331 130 2 := ⟨mm_tb_1 1176 (by decide +kernel) rfl, mm_tb_1 1177 (by decide +kernel) rfl, mm_tb_1 19 (by decide +kernel) rfl, ⟨53, by decide +kernel⟩, zxa_TF_130⟩
theorem zt_1_31_28 : zz_ThrW zy_added_1_31 28 87 329 91 := ⟨by decide +kernel, by decide +kernel, by decide +kernel, by decide +kernel, by decide +kernel⟩
theorem zxl_TF_87_329_91 : mm_Xl "TensorForge" 87 329 91 0 := ⟨mm_tb_1 1048 (by decide +kernel) rfl, mm_tb_1 1049 (by decide +kernel) rfl, mm_tb_1 16 (by decide +kernel) rfl, ⟨52, by decide +kernel⟩, zxa_TF_91⟩
theorem zt_1_31_13 : zz_Thr zy_added_1_31 13 101 254 105 := ⟨by decide +kernel, by decide +kernel, by decide +kernel, by decide +kernel, by decide +kernel⟩
theorem zxl_TF_101_254_105 : mm_Xl "TensorForge" 101 254 105 1 := ⟨mm_tb_1 1133 (by decide +kernel) rfl, mm_tb_1 1134 (by decide +kernel) rfl, mm_tb_1 18 (by decide +kernel) rfl, ⟨51, by decide +kernel⟩, zxa_TF_105⟩
theorem zg_1_31_7 : zq_at zy_added_1_31.2.1 7 60 ∧ zq_at zy_added_1_31.2.1 8 27 ∧ zq_at zy_added_1_31.2.1 9 4 ∧ zq_at zy_added_1_31.2.1 10 160 ∧ zq_at zy_added_1_31.2.1 11 0 ∧ zq_at zy_added_1_31.2.1 12 13 ∧ zq_at zy_added_1_31.2.1 23 27 ∧ zq_at zy_added_1_31.2.1 24 5 ∧ zq_at zy_added_1_31.2.1 25 160 ∧ zq_at zy_added_1_31.2.1 26 0 ∧ zq_at zy_added_1_31.2.1 27 14 ∧ zq_at zy_added_1_31.2.1 39 27 ∧ zq_at zy_added_1_31.2.1 40 6 ∧ zq_at zy_added_1_31.2.1 41 160 ∧ zq_at zy_added_1_31.2.1 42 0 ∧ zq_at zy_added_1_31.2.1 43 14 ∧ zq_at zy_added_1_31.2.1 55 42 ∧ zq_at zy_added_1_31.2.1 56 180 ∧ zq_at zy_added_1_31.2.1 57 0 ∧ zq_at zy_added_1_31.2.1 58 10 ∧ zq_at zy_added_1_31.2.1 59 180 ∧ zq_at zy_added_1_31.2.1 60 1 ∧ zq_at zy_added_1_31.2.1 61 22 ∧ zq_at zy_added_1_31.2.1 62 4 := by decide +kernel
theorem zd_1_31_7 : zz_D zy_added_1_31 7 (.istore_n 1) 1 8 := ⟨zq_60 zg_1_31_7.1, rfl⟩
theorem zd_1_31_8 : zz_D zy_added_1_31 8 (.iload_n 1) 1 9 := ⟨zq_27 zg_1_31_7.2.1, rfl⟩
theorem zd_1_31_9 : zz_D zy_added_1_31 9 (.iconst 1) 1 10 := ⟨zq_4 zg_1_31_7.2.2.1, rfl⟩
theorem zd_1_31_10 : zz_B zy_added_1_31 10 (Instr.if_icmp .ne) 23 13 := ⟨13, zq_160 zg_1_31_7.2.2.2.1 zg_1_31_7.2.2.2.2.1 zg_1_31_7.2.2.2.2.2.1 (by decide), rfl, rfl⟩
theorem zd_1_31_23 : zz_D zy_added_1_31 23 (.iload_n 1) 1 24 := ⟨zq_27 zg_1_31_7.2.2.2.2.2.2.1, rfl⟩
theorem zd_1_31_24 : zz_D zy_added_1_31 24 (.iconst 2) 1 25 := ⟨zq_5 zg_1_31_7.2.2.2.2.2.2.2.1, rfl⟩
theorem zd_1_31_25 : zz_B zy_added_1_31 25 (Instr.if_icmp .ne) 39 28 := ⟨14, zq_160 zg_1_31_7.2.2.2.2.2.2.2.2.1 zg_1_31_7.2.2.2.2.2.2.2.2.2.1 zg_1_31_7.2.2.2.2.2.2.2.2.2.2.1 (by decide), rfl, rfl⟩
theorem zd_1_31_39 : zz_D zy_added_1_31 39 (.iload_n 1) 1 40 := ⟨zq_27 zg_1_31_7.2.2.2.2.2.2.2.2.2.2.2.1, rfl⟩
theorem zd_1_31_40 : zz_D zy_added_1_31 40 (.iconst 3) 1 41 := ⟨zq_6 zg_1_31_7.2.2.2.2.2.2.2.2.2.2.2.2.1, rfl⟩
theorem zd_1_31_41 : zz_B zy_added_1_31 41 (Instr.if_icmp .ne) 55 44 := ⟨14, zq_160 zg_1_31_7.2.2.2.2.2.2.2.2.2.2.2.2.2.1 zg_1_31_7.2.2.2.2.2.2.2.2.2.2.2.2.2.2.1 zg_1_31_7.2.2.2.2.2.2.2.2.2.2.2.2.2.2.2.1 (by decide), rfl, rfl⟩
theorem zd_1_31_55 : zz_D zy_added_1_31 55 (.aload_n 0) 1 56 := ⟨zq_42 zg_1_31_7.2.2.2.2.2.2.2.2.2.2.2.2.2.2.2.2.1, rfl⟩
theorem zd_1_31_56 : zz_D zy_added_1_31 56 (.getfield 10) 3 59 := ⟨zq_180 zg_1_31_7.2.2.2.2.2.2.2.2.2.2.2.2.2.2.2.2.2.1 zg_1_31_7.2.2.2.2.2.2.2.2.2.2.2.2.2.2.2.2.2.2.1 zg_1_31_7.2.2.2.2.2.2.2.2.2.2.2.2.2.2.2.2.2.2.2.1 rfl, rfl⟩
theorem zd_1_31_59 : zz_D zy_added_1_31 59 (.getfield 278) 3 62 := ⟨zq_180 zg_1_31_7.2.2.2.2.2.2.2.2.2.2.2.2.2.2.2.2.2.2.2.2.1 zg_1_31_7.2.2.2.2.2.2.2.2.2.2.2.2.2.2.2.2.2.2.2.2.2.1 zg_1_31_7.2.2.2.2.2.2.2.2.2.2.2.2.2.2.2.2.2.2.2.2.2.2.1 rfl, rfl⟩
theorem zd_1_31_62 : zz_D zy_added_1_31 62 (.iconst 1) 1 63 := ⟨zq_4 zg_1_31_7.2.2.2.2.2.2.2.2.2.2.2.2.2.2.2.2.2.2.2.2.2.2.2, rfl⟩
theorem zg_1_31_63 : zq_at zy_added_1_31.2.1 63 100 ∧ zq_at zy_added_1_31.2.1 64 172 := by decide +kernel
theorem zd_1_31_63 : zz_D zy_added_1_31 63 (.isub) 1 64 := ⟨zq_100 zg_1_31_63.1, rfl⟩
theorem zd_1_31_64 : zz_D zy_added_1_31 64 (.ireturn) 1 65 := ⟨zq_172 zg_1_31_63.2, rfl⟩
-- TensorForge added ()I
abbrev zr_added_1_31 : Room := { frames := 6, cells := 1, slots := 6, locals := 82 }
def zp_added_1_31  (S0 : zz_S) : Int → zz_S → Prop := fun r S => zz_G S ∧ zz_fr [] [] (fun a i => (a = zz_rf 3 (S0 1000 7) ∧ i = 1) ∨ (a = zz_rf 6 (12 * (S0 1000 7) + S0 (zz_rf 3 (S0 1000 7)) 1) ∧ i = 10) ∨ (a = zz_rf 6 (12 * (S0 1000 7) + S0 (zz_rf 3 (S0 1000 7)) 1) ∧ i = 11) ∨ (a = zz_rf 6 (12 * (S0 1000 7) + S0 (zz_rf 3 (S0 1000 7)) 1) ∧ i = 12) ∨ (a = zz_rf 6 (12 * (S0 1000 7) + S0 (zz_rf 3 (S0 1000 7)) 1) ∧ i = 13)) S0 S ∧ ((-2147483648) ≤ r ∧ r ≤ 2147483647) ∧ (∀ v : zn_T, zn_C S0 (S0 1000 7) v → zn_V v → (S0 (zz_rf 6 (12 * (S0 1000 7) + S0 (zz_rf 3 (S0 1000 7)) 1)) 0 = 1 ∨ (S0 (zz_rf 6 (12 * (S0 1000 7) + S0 (zz_rf 3 (S0 1000 7)) 1)) 0 = 2 ∧ S0 (zz_rf 6 (12 * (S0 1000 7) + S0 (zz_rf 3 (S0 1000 7)) 1)) 6 = 0) ∨ S0 (zz_rf 6 (12 * (S0 1000 7) + S0 (zz_rf 3 (S0 1000 7)) 1)) 0 = 3) → zn_F v (S0 (zz_rf 6 (12 * (S0 1000 7) + S0 (zz_rf 3 (S0 1000 7)) 1)) 0) (S0 (zz_rf 6 (12 * (S0 1000 7) + S0 (zz_rf 3 (S0 1000 7)) 1)) 1) (S0 (zz_rf 6 (12 * (S0 1000 7) + S0 (zz_rf 3 (S0 1000 7)) 1)) 2) (S0 (zz_rf 6 (12 * (S0 1000 7) + S0 (zz_rf 3 (S0 1000 7)) 1)) 3) (S0 (zz_rf 6 (12 * (S0 1000 7) + S0 (zz_rf 3 (S0 1000 7)) 1)) 4) (S0 (zz_rf 6 (12 * (S0 1000 7) + S0 (zz_rf 3 (S0 1000 7)) 1)) 5) (S0 (zz_rf 6 (12 * (S0 1000 7) + S0 (zz_rf 3 (S0 1000 7)) 1)) 6) (S0 (zz_rf 6 (12 * (S0 1000 7) + S0 (zz_rf 3 (S0 1000 7)) 1)) 7) (S0 (zz_rf 6 (12 * (S0 1000 7) + S0 (zz_rf 3 (S0 1000 7)) 1)) 12) (S0 (zz_rf 6 (12 * (S0 1000 7) + S0 (zz_rf 3 (S0 1000 7)) 1)) 9) 0 ∧ r = v 15 0 ∧ ∀ nm : Int, zn_C S (S0 1000 7) (zn_nw v (S0 (zz_rf 6 (12 * (S0 1000 7) + S0 (zz_rf 3 (S0 1000 7)) 1)) 0) (S0 (zz_rf 6 (12 * (S0 1000 7) + S0 (zz_rf 3 (S0 1000 7)) 1)) 1) (S0 (zz_rf 6 (12 * (S0 1000 7) + S0 (zz_rf 3 (S0 1000 7)) 1)) 2) (S0 (zz_rf 6 (12 * (S0 1000 7) + S0 (zz_rf 3 (S0 1000 7)) 1)) 3) (S0 (zz_rf 6 (12 * (S0 1000 7) + S0 (zz_rf 3 (S0 1000 7)) 1)) 4) (S0 (zz_rf 6 (12 * (S0 1000 7) + S0 (zz_rf 3 (S0 1000 7)) 1)) 5) (S0 (zz_rf 6 (12 * (S0 1000 7) + S0 (zz_rf 3 (S0 1000 7)) 1)) 6) (S0 (zz_rf 6 (12 * (S0 1000 7) + S0 (zz_rf 3 (S0 1000 7)) 1)) 7) (S0 (zz_rf 6 (12 * (S0 1000 7) + S0 (zz_rf 3 (S0 1000 7)) 1)) 8) (S0 (zz_rf 6 (12 * (S0 1000 7) + S0 (zz_rf 3 (S0 1000 7)) 1)) 12) (S0 (zz_rf 6 (12 * (S0 1000 7) + S0 (zz_rf 3 (S0 1000 7)) 1)) 9) nm)) ∧ (zz_Hc S)
def zx_added_1_31  (S0 : zz_S) : Nat → zz_S → Prop := fun i S => zz_G S ∧ zz_fr [] [] (fun a i => (a = zz_rf 3 (S0 1000 7) ∧ i = 1) ∨ (a = zz_rf 6 (12 * (S0 1000 7) + S0 (zz_rf 3 (S0 1000 7)) 1) ∧ i = 10) ∨ (a = zz_rf 6 (12 * (S0 1000 7) + S0 (zz_rf 3 (S0 1000 7)) 1) ∧ i = 11) ∨ (a = zz_rf 6 (12 * (S0 1000 7) + S0 (zz_rf 3 (S0 1000 7)) 1) ∧ i = 12) ∨ (a = zz_rf 6 (12 * (S0 1000 7) + S0 (zz_rf 3 (S0 1000 7)) 1) ∧ i = 13)) S0 S ∧ (i < 4) ∧ (i = 0 ∨ i = 1 ∨ i = 2) ∧ (∀ v : zn_T, zn_C S0 (S0 1000 7) v → zn_V v → (S0 (zz_rf 6 (12 * (S0 1000 7) + S0 (zz_rf 3 (S0 1000 7)) 1)) 0 = 1 ∨ (S0 (zz_rf 6 (12 * (S0 1000 7) + S0 (zz_rf 3 (S0 1000 7)) 1)) 0 = 2 ∧ S0 (zz_rf 6 (12 * (S0 1000 7) + S0 (zz_rf 3 (S0 1000 7)) 1)) 6 = 0) ∨ S0 (zz_rf 6 (12 * (S0 1000 7) + S0 (zz_rf 3 (S0 1000 7)) 1)) 0 = 3) → zn_F v (S0 (zz_rf 6 (12 * (S0 1000 7) + S0 (zz_rf 3 (S0 1000 7)) 1)) 0) (S0 (zz_rf 6 (12 * (S0 1000 7) + S0 (zz_rf 3 (S0 1000 7)) 1)) 1) (S0 (zz_rf 6 (12 * (S0 1000 7) + S0 (zz_rf 3 (S0 1000 7)) 1)) 2) (S0 (zz_rf 6 (12 * (S0 1000 7) + S0 (zz_rf 3 (S0 1000 7)) 1)) 3) (S0 (zz_rf 6 (12 * (S0 1000 7) + S0 (zz_rf 3 (S0 1000 7)) 1)) 4) (S0 (zz_rf 6 (12 * (S0 1000 7) + S0 (zz_rf 3 (S0 1000 7)) 1)) 5) (S0 (zz_rf 6 (12 * (S0 1000 7) + S0 (zz_rf 3 (S0 1000 7)) 1)) 6) (S0 (zz_rf 6 (12 * (S0 1000 7) + S0 (zz_rf 3 (S0 1000 7)) 1)) 7) (S0 (zz_rf 6 (12 * (S0 1000 7) + S0 (zz_rf 3 (S0 1000 7)) 1)) 12) (S0 (zz_rf 6 (12 * (S0 1000 7) + S0 (zz_rf 3 (S0 1000 7)) 1)) 9) (if i = 0 then 2 else if i = 1 then 1 else 3) ∧ zn_C S (S0 1000 7) v) ∧ (zz_Hc S)
theorem zc_added_1_31 {g : mm_G} {l : Launch}  (S0 : zz_S) (n : Nat) (hn : zz_end ≤ n) (hfl : l.flags = flags0) (G_S0 : zz_G S0) (H_S0 : zz_Hc S0) : mm_Met g l zy_added_1_31 zr_added_1_31 [.ref 1000] (zz_M S0 n) n (zz_XI n (zp_added_1_31  S0) (zx_added_1_31  S0)) := by
  refine zz_enter (by decide) (Nat.le_of_ble_eq_true rfl) (zz_less (ls1 := [some (.ref 1000)]) ⟨rfl, trivial⟩ ?_)
  have F_S0 : zz_fr [] [] (fun a i => (a = zz_rf 3 (S0 1000 7) ∧ i = 1) ∨ (a = zz_rf 6 (12 * (S0 1000 7) + S0 (zz_rf 3 (S0 1000 7)) 1) ∧ i = 10) ∨ (a = zz_rf 6 (12 * (S0 1000 7) + S0 (zz_rf 3 (S0 1000 7)) 1) ∧ i = 11) ∨ (a = zz_rf 6 (12 * (S0 1000 7) + S0 (zz_rf 3 (S0 1000 7)) 1) ∧ i = 12) ∨ (a = zz_rf 6 (12 * (S0 1000 7) + S0 (zz_rf 3 (S0 1000 7)) 1) ∧ i = 13)) S0 S0 := zz_fr.refl
  refine zz_aload_n (x := 1000) rfl zd_1_31_0 ?_
  have g1 := zz_G.r G_S0 1000 7 0 1 rfl rfl
  refine zz_getr (kd := 1) (z := S0 1000 7) zd_1_31_1 zf_TF_10 zT_1000 rfl (zz_ltn hn rfl) rfl (by omega) (zz_rf 3 (S0 1000 7)) rfl ?_
  refine zz_callVI [] zd_1_31_4 zk_TF_326 (zT_k3 (by omega)) (zN_k3 hn (by omega)) rfl rfl ⟨Nat.le_of_ble_eq_true rfl, Nat.le_of_ble_eq_true rfl⟩ ⟨rfl, rfl⟩ (Nat.zero_le _) (Nat.zero_le _) (zc_offer_7_7 (S0 1000 7) S0 n hn G_S0 (by omega) H_S0) (fun v3 S2 hP => ?_)
  obtain ⟨G_S2, fS2, o4, o5, o6⟩ := hP
  have g7 := zz_G.r G_S0 1000 7 0 1 rfl rfl
  have b8 := zz_G.r G_S0 (zz_rf 3 (S0 1000 7)) 1 1 11 (zR_k3_1 (by omega)) (zB_k3 (by omega))
  have F_S2 := zz_fr.trans F_S0 fS2 rfl (fun a i h => by rcases h with h | h | h | h | h; exact Or.inr (Or.inr (Or.inl h)); exact Or.inr (Or.inr (Or.inr (Or.inl h))); exact Or.inr (Or.inr (Or.inr (Or.inr (Or.inl h)))); exact Or.inr (Or.inr (Or.inr (Or.inr (Or.inr (Or.inl h))))); exact Or.inr (Or.inr (Or.inr (Or.inr (Or.inr (Or.inr (h)))))))
  have b9 := zz_rf3 (z := (S0 1000 7)) (by omega)
  have b10 := zz_G.r G_S0 (zz_rf 3 (S0 1000 7)) 1 1 11 (zR_k3_1 (by omega)) (zB_k3 (by omega))
  have b11 := zz_rf6 (z := (12 * (S0 1000 7) + S0 (zz_rf 3 (S0 1000 7)) 1)) (by omega)
  have H_S2 : zz_Hc S2 := o6
  skip
  refine zz_istore_n [some (.ref 1000), some (zi v3)] zd_1_31_7 (by decide) rfl ?_
  refine zz_iload_n (x := v3) rfl zd_1_31_8 ?_
  refine zz_iconst zd_1_31_9 ?_
  refine zz_icmp_ne (by omega) (by omega) zd_1_31_10 (fun c12 => ?_) (fun c12 => ?_)
  · refine zz_iload_n (x := v3) rfl zd_1_31_23 ?_
    refine zz_iconst zd_1_31_24 ?_
    refine zz_icmp_ne (by omega) (by omega) zd_1_31_25 (fun c13 => ?_) (fun c13 => ?_)
    · refine zz_iload_n (x := v3) rfl zd_1_31_39 ?_
      refine zz_iconst zd_1_31_40 ?_
      refine zz_icmp_ne (by omega) (by omega) zd_1_31_41 (fun c14 => ?_) (fun c14 => ?_)
      · refine zz_aload_n (x := 1000) rfl zd_1_31_55 ?_
        refine zz_getr (kd := 1) (z := S0 1000 7) zd_1_31_56 zf_TF_10 zT_1000 rfl (zz_ltn hn rfl) (zz_rc fS2 rfl rfl (by first | decide | omega) rfl) (by omega) (zz_rf 3 (S0 1000 7)) rfl ?_
        have g15 := zz_G.r G_S2 (zz_rf 3 (S0 1000 7)) 1 1 11 (zR_k3_1 (by omega)) (zB_k3 (by omega))
        refine zz_geti (z := S2 (zz_rf 3 (S0 1000 7)) 1) zd_1_31_59 zf_TF_278 (zT_k3 (by omega)) rfl (zN_k3 hn (by omega)) rfl ?_
        refine zz_iconst zd_1_31_62 ?_
        refine zz_isub zd_1_31_63 ?_
        exact zz_iret zd_1_31_64 rfl (Nat.le_of_ble_eq_true rfl) (Nat.le_of_ble_eq_true rfl) (Or.inl ⟨_, _, rfl, G_S2, F_S2, by omega, (fun v hC hV hK => by have h9 := o5 v hC hV hK; rw [show v3 = 0 by omega] at h9; have h8 := h9.2.1 rfl; have h7 := hC.1; exact ⟨h9.1, by omega, h8.2⟩), H_S2⟩)
      · exact zz_throwW (i := 2) hfl hn zt_1_31_44 zyw_added_1_31 zxl_TF_126_331_130 (Nat.le_of_ble_eq_true rfl) (Nat.le_of_ble_eq_true rfl) ⟨Nat.le_of_ble_eq_true rfl, Nat.le_of_ble_eq_true rfl⟩ (Or.inr ⟨_, _, rfl, G_S2, F_S2, by omega, by omega, (fun v hC hV hK => by have h9 := o5 v hC hV hK; rw [show v3 = 3 by omega] at h9; exact ⟨h9.1, h9.2.2 (by decide)⟩), H_S2⟩)
    · exact zz_throwW (i := 0) hfl hn zt_1_31_28 zyw_added_1_31 zxl_TF_87_329_91 (Nat.le_of_ble_eq_true rfl) (Nat.le_of_ble_eq_true rfl) ⟨Nat.le_of_ble_eq_true rfl, Nat.le_of_ble_eq_true rfl⟩ (Or.inr ⟨_, _, rfl, G_S2, F_S2, by omega, by omega, (fun v hC hV hK => by have h9 := o5 v hC hV hK; rw [show v3 = 2 by omega] at h9; exact ⟨h9.1, h9.2.2 (by decide)⟩), H_S2⟩)
  · exact zz_throw (i := 1) hfl hn zt_1_31_13 zyw_added_1_31 zxl_TF_101_254_105 (Nat.le_of_ble_eq_true rfl) (Nat.le_of_ble_eq_true rfl) ⟨Nat.le_of_ble_eq_true rfl, Nat.le_of_ble_eq_true rfl⟩ (Or.inr ⟨_, _, rfl, G_S2, F_S2, by omega, by omega, (fun v hC hV hK => by have h9 := o5 v hC hV hK; rw [show v3 = 1 by omega] at h9; exact ⟨h9.1, h9.2.2 (by decide)⟩), H_S2⟩)
theorem zk_TF_247 : mm_Vl "TensorForge" 247 0 0 zy_added_1_31 := ⟨zyw_added_1_31, (R_TF, F_TF, 12), rfl, mm_tb_1 1367 (by decide +kernel) rfl, mm_tb_1 1369 (by decide +kernel) rfl, mm_tb_s 62 (by decide +kernel) rfl⟩
theorem zg_1_19_74 : zq_at zy_convolution_1_19.2.1 74 172 := by decide +kernel
theorem zd_1_19_74 : zz_D zy_convolution_1_19 74 (.ireturn) 1 75 := ⟨zq_172 zg_1_19_74, rfl⟩

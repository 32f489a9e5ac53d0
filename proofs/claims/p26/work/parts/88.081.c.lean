theorem zi_makeTile_3_4 {g : mm_G} {l : Launch}  (S0 : zz_S) (n : Nat) (hn : zz_end ≤ n) (G_S0 : zz_G S0) (hq : S0 1076 1 ≤ 600) (hl : 0 ≤ S0 1076 3 ∧ 0 ≤ S0 1076 4 ∧ 0 ≤ S0 1076 5) (hk : zz_ly S0 (S0 1076 3) ∧ S0 (zz_rf 6 (S0 1076 4)) 12 ≤ 63) : ∀ N : Nat, (∀ (x1 : Int) (x3 : Int) (x4 : Int) (x5 : Int) (S : zz_S), zz_G S → zz_fr [(1076, 1), (1076, 6), (1076, 12), (1076, 13), (1076, 14), (1076, 15), (1076, 16)] [1029, 1030] (fun _ _ => False) S0 S → (0 ≤ x1 ∧ x1 ≤ 1) → ((-2147483648) ≤ x3 ∧ x3 ≤ 3) → ((-2147483648) ≤ x4 ∧ x4 ≤ 3) → ((-2147483648) ≤ x5 ∧ x5 ≤ 63) → (0 ≤ S 1076 13 ∧ S 1076 13 ≤ 3) → (S0 1076 1 ≤ S 1076 1 ∧ S 1076 1 ≤ S0 1076 1 + 840 * S 1076 13) → (51539607552 + (3 - S 1076 13).toNat) * 1208925819614629174706176 + 1208925819614629174706175 < N → zz_E g l zy_makeTile_3_4 zr_makeTile_3_4 (zz_QV n (zp_makeTile_3_4  S0)) S n 95 [some (.ref 1076), some (zi x1), none, some (zi x3), some (zi x4), some (zi x5), some (zi (S0 1076 12))] [] 0 0) ∧ (∀ (x1 : Int) (x3 : Int) (x4 : Int) (x5 : Int) (S : zz_S), zz_G S → zz_fr [(1076, 1), (1076, 6), (1076, 12), (1076, 13), (1076, 14), (1076, 15), (1076, 16)] [1029, 1030] (fun _ _ => False) S0 S → (0 ≤ x1 ∧ x1 ≤ 1) → ((-2147483648) ≤ x3 ∧ x3 ≤ 3) → ((-2147483648) ≤ x4 ∧ x4 ≤ 3) → ((-2147483648) ≤ x5 ∧ x5 ≤ 63) → (0 ≤ S 1076 13 ∧ S 1076 13 ≤ 2) → (0 ≤ S 1076 14 ∧ S 1076 14 ≤ 3) → (S 1076 13 < x3) → (S0 1076 1 ≤ S 1076 1 ∧ S 1076 1 ≤ S0 1076 1 + 840 * S 1076 13 + 280 * S 1076 14) → (51539607552 + (3 - S 1076 13).toNat) * 1208925819614629174706176 + (34359738368 + (3 - S 1076 14).toNat) * 1099511627776 + 1099511627775 < N → zz_E g l zy_makeTile_3_4 zr_makeTile_3_4 (zz_QV n (zp_makeTile_3_4  S0)) S n 108 [some (.ref 1076), some (zi x1), none, some (zi x3), some (zi x4), some (zi x5), some (zi (S0 1076 12))] [] 0 0) ∧ (∀ (x1 : Int) (x3 : Int) (x4 : Int) (x5 : Int) (S : zz_S), zz_G S → zz_fr [(1076, 1), (1076, 6), (1076, 12), (1076, 13), (1076, 14), (1076, 15), (1076, 16)] [1029, 1030] (fun _ _ => False) S0 S → (0 ≤ x1 ∧ x1 ≤ 1) → ((-2147483648) ≤ x3 ∧ x3 ≤ 3) → ((-2147483648) ≤ x4 ∧ x4 ≤ 3) → ((-2147483648) ≤ x5 ∧ x5 ≤ 63) → (0 ≤ S 1076 13 ∧ S 1076 13 ≤ 2) → (0 ≤ S 1076 14 ∧ S 1076 14 ≤ 2) → (S 1076 13 < x3) → (S 1076 14 < x4) → (0 ≤ S 1076 15 ∧ S 1076 15 ≤ 70) → (S0 1076 1 ≤ S 1076 1 ∧ S 1076 1 ≤ S0 1076 1 + 840 * S 1076 13 + 280 * S 1076 14 + 4 * S 1076 15) → (51539607552 + (3 - S 1076 13).toNat) * 1208925819614629174706176 + (34359738368 + (3 - S 1076 14).toNat) * 1099511627776 + (17179869184 + (80 - S 1076 15).toNat) < N → zz_E g l zy_makeTile_3_4 zr_makeTile_3_4 (zz_QV n (zp_makeTile_3_4  S0)) S n 122 [some (.ref 1076), some (zi x1), none, some (zi x3), some (zi x4), some (zi x5), some (zi (S0 1076 12))] [] 0 0) := by
  intro N
  induction N with
  | zero => exact ⟨fun x1 x3 x4 x5 S _ _ _ _ _ _ _ _ h => absurd h (Nat.not_lt_zero _), fun x1 x3 x4 x5 S _ _ _ _ _ _ _ _ _ _ h => absurd h (Nat.not_lt_zero _), fun x1 x3 x4 x5 S _ _ _ _ _ _ _ _ _ _ _ _ h => absurd h (Nat.not_lt_zero _)⟩
  | succ N ih =>
    exact ⟨fun x1 x3 x4 x5 S a b j0 j1 j2 j3 j4 j5 hR => zb_makeTile_3_4_95  S0 n hn G_S0 hq hl hk x1 x3 x4 x5 S a b j0 j1 j2 j3 j4 j5 _ rfl (fun x1 x3 x4 x5 S a b j0 j1 j2 j3 j4 j5 j6 j7 h => ih.2.1 x1 x3 x4 x5 S a b j0 j1 j2 j3 j4 j5 j6 j7 (Nat.lt_of_lt_of_le h (Nat.le_of_lt_succ hR))),
      fun x1 x3 x4 x5 S a b j0 j1 j2 j3 j4 j5 j6 j7 hR => zb_makeTile_3_4_108  S0 n hn G_S0 hq hl hk x1 x3 x4 x5 S a b j0 j1 j2 j3 j4 j5 j6 j7 _ rfl (fun x1 x3 x4 x5 S a b j0 j1 j2 j3 j4 j5 h => ih.1 x1 x3 x4 x5 S a b j0 j1 j2 j3 j4 j5 (Nat.lt_of_lt_of_le h (Nat.le_of_lt_succ hR))) (fun x1 x3 x4 x5 S a b j0 j1 j2 j3 j4 j5 j6 j7 j8 j9 h => ih.2.2 x1 x3 x4 x5 S a b j0 j1 j2 j3 j4 j5 j6 j7 j8 j9 (Nat.lt_of_lt_of_le h (Nat.le_of_lt_succ hR))),
      fun x1 x3 x4 x5 S a b j0 j1 j2 j3 j4 j5 j6 j7 j8 j9 hR => zb_makeTile_3_4_122  S0 n hn G_S0 hq hl hk x1 x3 x4 x5 S a b j0 j1 j2 j3 j4 j5 j6 j7 j8 j9 _ rfl (fun x1 x3 x4 x5 S a b j0 j1 j2 j3 j4 j5 j6 j7 h => ih.2.1 x1 x3 x4 x5 S a b j0 j1 j2 j3 j4 j5 j6 j7 (Nat.lt_of_lt_of_le h (Nat.le_of_lt_succ hR))) (fun x1 x3 x4 x5 S a b j0 j1 j2 j3 j4 j5 j6 j7 j8 j9 h => ih.2.2 x1 x3 x4 x5 S a b j0 j1 j2 j3 j4 j5 j6 j7 j8 j9 (Nat.lt_of_lt_of_le h (Nat.le_of_lt_succ hR)))⟩
theorem zc_makeTile_3_4 {g : mm_G} {l : Launch}  (S0 : zz_S) (n : Nat) (hn : zz_end ≤ n) (G_S0 : zz_G S0) (hq : S0 1076 1 ≤ 600) (hl : 0 ≤ S0 1076 3 ∧ 0 ≤ S0 1076 4 ∧ 0 ≤ S0 1076 5) (hk : zz_ly S0 (S0 1076 3) ∧ S0 (zz_rf 6 (S0 1076 4)) 12 ≤ 63) : mm_Met g l zy_makeTile_3_4 zr_makeTile_3_4 [.ref 1076] (zz_M S0 n) n (zz_QV n (zp_makeTile_3_4  S0)) := by
  refine zz_enter (by decide) (Nat.le_of_ble_eq_true rfl) (zz_less (ls1 := [some (.ref 1076)]) ⟨rfl, trivial⟩ ?_)
  have F_S0 : zz_fr [(1076, 1), (1076, 6), (1076, 12), (1076, 13), (1076, 14), (1076, 15), (1076, 16)] [1029, 1030] (fun _ _ => False) S0 S0 := zz_fr.refl
  have k95 : ∀ (x1 : Int) (x3 : Int) (x4 : Int) (x5 : Int) (S : zz_S), zz_G S → zz_fr [(1076, 1), (1076, 6), (1076, 12), (1076, 13), (1076, 14), (1076, 15), (1076, 16)] [1029, 1030] (fun _ _ => False) S0 S → (0 ≤ x1 ∧ x1 ≤ 1) → ((-2147483648) ≤ x3 ∧ x3 ≤ 3) → ((-2147483648) ≤ x4 ∧ x4 ≤ 3) → ((-2147483648) ≤ x5 ∧ x5 ≤ 63) → (0 ≤ S 1076 13 ∧ S 1076 13 ≤ 3) → (S0 1076 1 ≤ S 1076 1 ∧ S 1076 1 ≤ S0 1076 1 + 840 * S 1076 13) → zz_E g l zy_makeTile_3_4 zr_makeTile_3_4 (zz_QV n (zp_makeTile_3_4  S0)) S n 95 [some (.ref 1076), some (zi x1), none, some (zi x3), some (zi x4), some (zi x5), some (zi (S0 1076 12))] [] 0 0 := fun x1 x3 x4 x5 S a b j0 j1 j2 j3 j4 j5 => (zi_makeTile_3_4 (g := g) (l := l)  S0 n hn G_S0 hq hl hk _).1 x1 x3 x4 x5 S a b j0 j1 j2 j3 j4 j5 (Nat.lt_succ_self _)
  have hk1 := hk.1
  unfold zz_ly at hk1
  refine zz_aload_n (x := 1076) rfl zd_3_4_0 ?_
  have g1 := zz_G.r G_S0 1076 3 (-1) 23 rfl rfl
  refine zz_getr (kd := 4) (z := S0 1076 3) zd_3_4_1 zf_Compiler_51 zT_1076 rfl (zz_ltn hn rfl) rfl (by omega) (zz_rf 6 (S0 1076 3)) rfl ?_
  have g2 := zz_G.r G_S0 (zz_rf 6 (S0 1076 3)) 0 (-2147483648) 2147483647 (zR_k6_0 (by omega)) (zB_k6 (by omega))
  refine zz_geti (z := S0 (zz_rf 6 (S0 1076 3)) 0) zd_3_4_4 zf_Compiler_61 (zT_k6 (by omega)) rfl (zN_k6 hn (by omega)) rfl ?_
  refine zz_iconst zd_3_4_7 ?_
  refine zz_icmp_ne (by omega) (by omega) zd_3_4_8 (fun c3 => ?_) (fun c3 => ?_)
  · refine zz_iconst zd_3_4_15 ?_
    refine zz_istore_n [some (.ref 1076), some (zi 0)] zd_3_4_16 (by decide) rfl ?_
    refine zz_aload_n (x := 1076) rfl zd_3_4_17 ?_
    refine zz_getr (kd := 4) (z := S0 1076 3) zd_3_4_18 zf_Compiler_51 zT_1076 rfl (zz_ltn hn rfl) rfl (by omega) (zz_rf 6 (S0 1076 3)) rfl ?_
    refine zz_geti (z := S0 (zz_rf 6 (S0 1076 3)) 0) zd_3_4_21 zf_Compiler_61 (zT_k6 (by omega)) rfl (zN_k6 hn (by omega)) rfl ?_
    refine zz_iconst zd_3_4_24 ?_
    refine zz_icmp_ne (by omega) (by omega) zd_3_4_25 (fun c4 => ?_) (fun c4 => ?_)
    · refine zz_iconst zd_3_4_32 ?_
      refine zz_istore_n [some (.ref 1076), some (zi 0), some (zi 0)] zd_3_4_33 (by decide) rfl ?_
      refine zz_iload_n (x := 0) rfl zd_3_4_34 ?_
      refine zz_if_eq (by omega) zd_3_4_35 (fun c5 => ?_) (fun c5 => ?_)
      · refine zz_aload_n (x := 1076) rfl zd_3_4_42 ?_
        refine zz_getr (kd := 4) (z := S0 1076 3) zd_3_4_43 zf_Compiler_51 zT_1076 rfl (zz_ltn hn rfl) rfl (by omega) (zz_rf 6 (S0 1076 3)) rfl ?_
        have g6 := zz_G.r G_S0 (zz_rf 6 (S0 1076 3)) 3 (-2147483648) 2147483647 (zR_k6_3 (by omega)) (zB_k6 (by omega))
        refine zz_geti (z := S0 (zz_rf 6 (S0 1076 3)) 3) zd_3_4_46 zf_Compiler_100 (zT_k6 (by omega)) rfl (zN_k6 hn (by omega)) rfl ?_
        refine zz_istore_n [some (.ref 1076), some (zi 0), some (zi 0), some (zi (S0 (zz_rf 6 (S0 1076 3)) 3))] zd_3_4_49 (by decide) rfl ?_
        refine zz_iload_n (x := 0) rfl zd_3_4_50 ?_
        refine zz_if_eq (by omega) zd_3_4_51 (fun c7 => ?_) (fun c7 => ?_)
        · refine zz_aload_n (x := 1076) rfl zd_3_4_58 ?_
          refine zz_getr (kd := 4) (z := S0 1076 3) zd_3_4_59 zf_Compiler_51 zT_1076 rfl (zz_ltn hn rfl) rfl (by omega) (zz_rf 6 (S0 1076 3)) rfl ?_
          have g8 := zz_G.r G_S0 (zz_rf 6 (S0 1076 3)) 4 (-2147483648) 2147483647 (zR_k6_4 (by omega)) (zB_k6 (by omega))
          refine zz_geti (z := S0 (zz_rf 6 (S0 1076 3)) 4) zd_3_4_62 zf_Compiler_103 (zT_k6 (by omega)) rfl (zN_k6 hn (by omega)) rfl ?_
          refine zz_istore [some (.ref 1076), some (zi 0), some (zi 0), some (zi (S0 (zz_rf 6 (S0 1076 3)) 3)), some (zi (S0 (zz_rf 6 (S0 1076 3)) 4))] zd_3_4_65 (by decide) rfl ?_
          refine zz_iload_n (x := 0) rfl zd_3_4_67 ?_
          refine zz_if_eq (by omega) zd_3_4_68 (fun c9 => ?_) (fun c9 => ?_)
          · refine zz_iconst zd_3_4_81 ?_
            refine zz_istore [some (.ref 1076), some (zi 0), some (zi 0), some (zi (S0 (zz_rf 6 (S0 1076 3)) 3)), some (zi (S0 (zz_rf 6 (S0 1076 3)) 4)), some (zi 1)] zd_3_4_82 (by decide) rfl ?_
            refine zz_aload_n (x := 1076) rfl zd_3_4_84 ?_
            have g10 := zz_G.r G_S0 1076 12 (-2147483648) 2147483647 rfl rfl
            refine zz_geti (z := S0 1076 12) zd_3_4_85 zf_Compiler_73 zT_1076 rfl (zz_ltn hn rfl) rfl ?_
            refine zz_istore [some (.ref 1076), some (zi 0), some (zi 0), some (zi (S0 (zz_rf 6 (S0 1076 3)) 3)), some (zi (S0 (zz_rf 6 (S0 1076 3)) 4)), some (zi 1), some (zi (S0 1076 12))] zd_3_4_88 (by decide) rfl ?_
            refine zz_aload_n (x := 1076) rfl zd_3_4_90 ?_
            refine zz_iconst zd_3_4_91 ?_
            refine zz_puti zd_3_4_92 zf_Compiler_106 zT_1076 rfl (zz_ltn hn rfl) (fun S11 qS11 => ?_)
            have G_S11 := zz_G.put G_S0 qS11 (-2147483648) 2147483647 rfl (by omega)
            have F_S11 := zz_fr.puts F_S0 qS11 rfl
            have e12 : S11 1076 13 = 0 := (zz_rs qS11)
            have g13 := zz_G.r G_S0 1076 1 0 1000000 rfl rfl
            have e14 : S11 1076 1 = S0 1076 1 := (zz_ro qS11 (fun h => absurd h.2 (by decide)) rfl)
            refine zz_less (ls1 := [some (.ref 1076), some (zi 0), none, some (zi (S0 (zz_rf 6 (S0 1076 3)) 3)), some (zi (S0 (zz_rf 6 (S0 1076 3)) 4)), some (zi 1), some (zi (S0 1076 12))]) ⟨rfl, ⟨rfl, ⟨rfl, ⟨rfl, ⟨rfl, ⟨rfl, trivial⟩⟩⟩⟩⟩⟩ ?_
            exact k95 0 (S0 (zz_rf 6 (S0 1076 3)) 3) (S0 (zz_rf 6 (S0 1076 3)) 4) 1 S11 G_S11 F_S11 (by omega) (by omega) (by omega) (by omega) (by omega) (by omega)
          · exfalso; omega
        · exfalso; omega
      · exfalso; omega
    · refine zz_iconst zd_3_4_28 ?_
      refine zz_goto zd_3_4_29 ?_
      refine zz_istore_n [some (.ref 1076), some (zi 0), some (zi 1)] zd_3_4_33 (by decide) rfl ?_
      refine zz_iload_n (x := 1) rfl zd_3_4_34 ?_
      refine zz_if_eq (by omega) zd_3_4_35 (fun c15 => ?_) (fun c15 => ?_)
      · exfalso; omega
      · refine zz_iconst zd_3_4_38 ?_
        refine zz_goto zd_3_4_39 ?_
        refine zz_istore_n [some (.ref 1076), some (zi 0), some (zi 1), some (zi 1)] zd_3_4_49 (by decide) rfl ?_
        refine zz_iload_n (x := 1) rfl zd_3_4_50 ?_
        refine zz_if_eq (by omega) zd_3_4_51 (fun c16 => ?_) (fun c16 => ?_)
        · exfalso; omega
        · refine zz_iconst zd_3_4_54 ?_
          refine zz_goto zd_3_4_55 ?_
          refine zz_istore [some (.ref 1076), some (zi 0), some (zi 1), some (zi 1), some (zi 2)] zd_3_4_65 (by decide) rfl ?_
          refine zz_iload_n (x := 0) rfl zd_3_4_67 ?_
          refine zz_if_eq (by omega) zd_3_4_68 (fun c17 => ?_) (fun c17 => ?_)
          · refine zz_iconst zd_3_4_81 ?_
            refine zz_istore [some (.ref 1076), some (zi 0), some (zi 1), some (zi 1), some (zi 2), some (zi 1)] zd_3_4_82 (by decide) rfl ?_
            refine zz_aload_n (x := 1076) rfl zd_3_4_84 ?_
            have g18 := zz_G.r G_S0 1076 12 (-2147483648) 2147483647 rfl rfl
            refine zz_geti (z := S0 1076 12) zd_3_4_85 zf_Compiler_73 zT_1076 rfl (zz_ltn hn rfl) rfl ?_
            refine zz_istore [some (.ref 1076), some (zi 0), some (zi 1), some (zi 1), some (zi 2), some (zi 1), some (zi (S0 1076 12))] zd_3_4_88 (by decide) rfl ?_
            refine zz_aload_n (x := 1076) rfl zd_3_4_90 ?_
            refine zz_iconst zd_3_4_91 ?_
            refine zz_puti zd_3_4_92 zf_Compiler_106 zT_1076 rfl (zz_ltn hn rfl) (fun S19 qS19 => ?_)
            have G_S19 := zz_G.put G_S0 qS19 (-2147483648) 2147483647 rfl (by omega)
            have F_S19 := zz_fr.puts F_S0 qS19 rfl
            have e20 : S19 1076 13 = 0 := (zz_rs qS19)
            have g21 := zz_G.r G_S0 1076 1 0 1000000 rfl rfl
            have e22 : S19 1076 1 = S0 1076 1 := (zz_ro qS19 (fun h => absurd h.2 (by decide)) rfl)
            refine zz_less (ls1 := [some (.ref 1076), some (zi 0), none, some (zi 1), some (zi 2), some (zi 1), some (zi (S0 1076 12))]) ⟨rfl, ⟨rfl, ⟨rfl, ⟨rfl, ⟨rfl, ⟨rfl, trivial⟩⟩⟩⟩⟩⟩ ?_
            exact k95 0 1 2 1 S19 G_S19 F_S19 (by omega) (by omega) (by omega) (by omega) (by omega) (by omega)
          · exfalso; omega
  · refine zz_iconst zd_3_4_11 ?_
    refine zz_goto zd_3_4_12 ?_
    refine zz_istore_n [some (.ref 1076), some (zi 1)] zd_3_4_16 (by decide) rfl ?_
    refine zz_aload_n (x := 1076) rfl zd_3_4_17 ?_
    refine zz_getr (kd := 4) (z := S0 1076 3) zd_3_4_18 zf_Compiler_51 zT_1076 rfl (zz_ltn hn rfl) rfl (by omega) (zz_rf 6 (S0 1076 3)) rfl ?_
    refine zz_geti (z := S0 (zz_rf 6 (S0 1076 3)) 0) zd_3_4_21 zf_Compiler_61 (zT_k6 (by omega)) rfl (zN_k6 hn (by omega)) rfl ?_
    refine zz_iconst zd_3_4_24 ?_
    refine zz_icmp_ne (by omega) (by omega) zd_3_4_25 (fun c23 => ?_) (fun c23 => ?_)
    · refine zz_iconst zd_3_4_32 ?_
      refine zz_istore_n [some (.ref 1076), some (zi 1), some (zi 0)] zd_3_4_33 (by decide) rfl ?_
      refine zz_iload_n (x := 0) rfl zd_3_4_34 ?_
      refine zz_if_eq (by omega) zd_3_4_35 (fun c24 => ?_) (fun c24 => ?_)
      · refine zz_aload_n (x := 1076) rfl zd_3_4_42 ?_
        refine zz_getr (kd := 4) (z := S0 1076 3) zd_3_4_43 zf_Compiler_51 zT_1076 rfl (zz_ltn hn rfl) rfl (by omega) (zz_rf 6 (S0 1076 3)) rfl ?_
        have g25 := zz_G.r G_S0 (zz_rf 6 (S0 1076 3)) 3 (-2147483648) 2147483647 (zR_k6_3 (by omega)) (zB_k6 (by omega))
        refine zz_geti (z := S0 (zz_rf 6 (S0 1076 3)) 3) zd_3_4_46 zf_Compiler_100 (zT_k6 (by omega)) rfl (zN_k6 hn (by omega)) rfl ?_
        refine zz_istore_n [some (.ref 1076), some (zi 1), some (zi 0), some (zi (S0 (zz_rf 6 (S0 1076 3)) 3))] zd_3_4_49 (by decide) rfl ?_
        refine zz_iload_n (x := 0) rfl zd_3_4_50 ?_
        refine zz_if_eq (by omega) zd_3_4_51 (fun c26 => ?_) (fun c26 => ?_)
        · refine zz_aload_n (x := 1076) rfl zd_3_4_58 ?_
          refine zz_getr (kd := 4) (z := S0 1076 3) zd_3_4_59 zf_Compiler_51 zT_1076 rfl (zz_ltn hn rfl) rfl (by omega) (zz_rf 6 (S0 1076 3)) rfl ?_
          have g27 := zz_G.r G_S0 (zz_rf 6 (S0 1076 3)) 4 (-2147483648) 2147483647 (zR_k6_4 (by omega)) (zB_k6 (by omega))
          refine zz_geti (z := S0 (zz_rf 6 (S0 1076 3)) 4) zd_3_4_62 zf_Compiler_103 (zT_k6 (by omega)) rfl (zN_k6 hn (by omega)) rfl ?_
          refine zz_istore [some (.ref 1076), some (zi 1), some (zi 0), some (zi (S0 (zz_rf 6 (S0 1076 3)) 3)), some (zi (S0 (zz_rf 6 (S0 1076 3)) 4))] zd_3_4_65 (by decide) rfl ?_
          refine zz_iload_n (x := 1) rfl zd_3_4_67 ?_
          refine zz_if_eq (by omega) zd_3_4_68 (fun c28 => ?_) (fun c28 => ?_)
          · exfalso; omega
          · refine zz_aload_n (x := 1076) rfl zd_3_4_71 ?_
            have g29 := zz_G.r G_S0 1076 4 (-1) 23 rfl rfl
            refine zz_getr (kd := 4) (z := S0 1076 4) zd_3_4_72 zf_Compiler_55 zT_1076 rfl (zz_ltn hn rfl) rfl (by omega) (zz_rf 6 (S0 1076 4)) rfl ?_
            have g30 := zz_G.r G_S0 (zz_rf 6 (S0 1076 4)) 12 (-2147483648) 2147483647 (zR_k6_12 (by omega)) (zB_k6 (by omega))
            refine zz_geti (z := S0 (zz_rf 6 (S0 1076 4)) 12) zd_3_4_75 zf_Compiler_79 (zT_k6 (by omega)) rfl (zN_k6 hn (by omega)) rfl ?_
            refine zz_goto zd_3_4_78 ?_
            refine zz_istore [some (.ref 1076), some (zi 1), some (zi 0), some (zi (S0 (zz_rf 6 (S0 1076 3)) 3)), some (zi (S0 (zz_rf 6 (S0 1076 3)) 4)), some (zi (S0 (zz_rf 6 (S0 1076 4)) 12))] zd_3_4_82 (by decide) rfl ?_
            refine zz_aload_n (x := 1076) rfl zd_3_4_84 ?_
            have g31 := zz_G.r G_S0 1076 12 (-2147483648) 2147483647 rfl rfl
            refine zz_geti (z := S0 1076 12) zd_3_4_85 zf_Compiler_73 zT_1076 rfl (zz_ltn hn rfl) rfl ?_
            refine zz_istore [some (.ref 1076), some (zi 1), some (zi 0), some (zi (S0 (zz_rf 6 (S0 1076 3)) 3)), some (zi (S0 (zz_rf 6 (S0 1076 3)) 4)), some (zi (S0 (zz_rf 6 (S0 1076 4)) 12)), some (zi (S0 1076 12))] zd_3_4_88 (by decide) rfl ?_
            refine zz_aload_n (x := 1076) rfl zd_3_4_90 ?_
            refine zz_iconst zd_3_4_91 ?_
            refine zz_puti zd_3_4_92 zf_Compiler_106 zT_1076 rfl (zz_ltn hn rfl) (fun S32 qS32 => ?_)
            have G_S32 := zz_G.put G_S0 qS32 (-2147483648) 2147483647 rfl (by omega)
            have F_S32 := zz_fr.puts F_S0 qS32 rfl
            have e33 : S32 1076 13 = 0 := (zz_rs qS32)
            have g34 := zz_G.r G_S0 1076 1 0 1000000 rfl rfl
            have e35 : S32 1076 1 = S0 1076 1 := (zz_ro qS32 (fun h => absurd h.2 (by decide)) rfl)
            refine zz_less (ls1 := [some (.ref 1076), some (zi 1), none, some (zi (S0 (zz_rf 6 (S0 1076 3)) 3)), some (zi (S0 (zz_rf 6 (S0 1076 3)) 4)), some (zi (S0 (zz_rf 6 (S0 1076 4)) 12)), some (zi (S0 1076 12))]) ⟨rfl, ⟨rfl, ⟨rfl, ⟨rfl, ⟨rfl, ⟨rfl, trivial⟩⟩⟩⟩⟩⟩ ?_
            exact k95 1 (S0 (zz_rf 6 (S0 1076 3)) 3) (S0 (zz_rf 6 (S0 1076 3)) 4) (S0 (zz_rf 6 (S0 1076 4)) 12) S32 G_S32 F_S32 (by omega) (by omega) (by omega) (by omega) (by omega) (by omega)
        · exfalso; omega
      · exfalso; omega
    · exfalso; omega
theorem zk_Compiler_94 : mm_Vl "TensorForge$Compiler" 94 9 0 zy_makeTile_3_4 := ⟨zyw_makeTile_3_4, (R_Compiler, F_Compiler, 17), rfl, mm_tb_1 1416 (by decide +kernel) rfl, mm_tb_1 1418 (by decide +kernel) rfl, mm_tb_s 63 (by decide +kernel) rfl⟩
theorem zg_3_3_274 : zq_at zy_makeLayer_3_3.2.1 274 42 ∧ zq_at zy_makeLayer_3_3.2.1 275 89 ∧ zq_at zy_makeLayer_3_3.2.1 276 180 ∧ zq_at zy_makeLayer_3_3.2.1 277 0 ∧ zq_at zy_makeLayer_3_3.2.1 278 88 ∧ zq_at zy_makeLayer_3_3.2.1 279 21 ∧ zq_at zy_makeLayer_3_3.2.1 280 6 ∧ zq_at zy_makeLayer_3_3.2.1 281 96 ∧ zq_at zy_makeLayer_3_3.2.1 282 181 ∧ zq_at zy_makeLayer_3_3.2.1 283 0 ∧ zq_at zy_makeLayer_3_3.2.1 284 88 ∧ zq_at zy_makeLayer_3_3.2.1 285 167 ∧ zq_at zy_makeLayer_3_3.2.1 286 255 ∧ zq_at zy_makeLayer_3_3.2.1 287 205 ∧ zq_at zy_makeLayer_3_3.2.1 253 177 := by decide +kernel
theorem zd_3_3_274 : zz_D zy_makeLayer_3_3 274 (.aload_n 0) 1 275 := ⟨zq_42 zg_3_3_274.1, rfl⟩
theorem zd_3_3_275 : zz_D zy_makeLayer_3_3 275 (.dup) 1 276 := ⟨zq_89 zg_3_3_274.2.1, rfl⟩
theorem zd_3_3_276 : zz_D zy_makeLayer_3_3 276 (.getfield 88) 3 279 := ⟨zq_180 zg_3_3_274.2.2.1 zg_3_3_274.2.2.2.1 zg_3_3_274.2.2.2.2.1 rfl, rfl⟩
theorem zd_3_3_279 : zz_D zy_makeLayer_3_3 279 (.iload 6) 2 281 := ⟨zq_21 zg_3_3_274.2.2.2.2.2.1 zg_3_3_274.2.2.2.2.2.2.1, rfl⟩
theorem zd_3_3_281 : zz_D zy_makeLayer_3_3 281 (.iadd) 1 282 := ⟨zq_96 zg_3_3_274.2.2.2.2.2.2.2.1, rfl⟩
theorem zd_3_3_282 : zz_D zy_makeLayer_3_3 282 (.putfield 88) 3 285 := ⟨zq_181 zg_3_3_274.2.2.2.2.2.2.2.2.1 zg_3_3_274.2.2.2.2.2.2.2.2.2.1 zg_3_3_274.2.2.2.2.2.2.2.2.2.2.1 rfl, rfl⟩
theorem zd_3_3_285 : zz_B zy_makeLayer_3_3 285 Instr.goto 234 288 := ⟨(-51), zq_167 zg_3_3_274.2.2.2.2.2.2.2.2.2.2.2.1 zg_3_3_274.2.2.2.2.2.2.2.2.2.2.2.2.1 zg_3_3_274.2.2.2.2.2.2.2.2.2.2.2.2.2.1 (by decide), rfl, rfl⟩
theorem zd_3_3_253 : zz_D zy_makeLayer_3_3 253 (.return_) 1 254 := ⟨zq_177 zg_3_3_274.2.2.2.2.2.2.2.2.2.2.2.2.2.2, rfl⟩

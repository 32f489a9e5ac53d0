-- TensorForgeModel takeParts (I)Z
abbrev zr_takeParts_14_101 : Room := { frames := 5, cells := 0, slots := 0, locals := 75 }
def zp_takeParts_14_101 (p0 : Int) (S0 : zz_S) : Int → zz_S → Prop := fun r S => zz_G S ∧ zz_fr [(1079, 30), (1079, 31), (1079, 32), (1079, 61), (1079, 64), (1079, 65)] [1118] (fun _ _ => False) S0 S ∧ (0 ≤ r ∧ r ≤ 1)
theorem zb_takeParts_14_101_2 {g : mm_G} {l : Launch} (p0 : Int) (S0 : zz_S) (n : Nat) (hn : zz_end ≤ n) (G_S0 : zz_G S0) (hp0 : (-2147483648) ≤ p0 ∧ p0 ≤ 2147483647) (hN : ∀ w : Nat, 1 ≤ w → w ≤ 20 → S0 1100 w = zt_cd (zt_nw.getD w [])) (x2 : Int) (S : zz_S) (G_S : zz_G S) (F_S : zz_fr [(1079, 30), (1079, 31), (1079, 32), (1079, 61), (1079, 64), (1079, 65)] [1118] (fun _ _ => False) S0 S) (i2_0 : 0 ≤ x2 ∧ x2 ≤ 8) (R : Nat) (hR : (34359738368 + (8 - x2).toNat) = R) (k2 : ∀ (x2 : Int) (S : zz_S), zz_G S → zz_fr [(1079, 30), (1079, 31), (1079, 32), (1079, 61), (1079, 64), (1079, 65)] [1118] (fun _ _ => False) S0 S → (0 ≤ x2 ∧ x2 ≤ 8) → (34359738368 + (8 - x2).toNat) < R → zz_E g l zy_takeParts_14_101 zr_takeParts_14_101 (zz_QI n (zp_takeParts_14_101 p0 S0)) S n 2 [some (.ref 1079), some (zi p0), some (zi x2)] [] 0 0) (k40 : ∀  (S : zz_S), zz_G S → zz_fr [(1079, 30), (1079, 31), (1079, 32), (1079, 61), (1079, 64), (1079, 65)] [1118] (fun _ _ => False) S0 S → (17179869184 + 3 * (1501 - S 1079 32).toNat + (if S 1079 30 = 0 then (0 : Int) else if S 1079 30 = 101 then 1 else 2).toNat) < R → zz_E g l zy_takeParts_14_101 zr_takeParts_14_101 (zz_QI n (zp_takeParts_14_101 p0 S0)) S n 40 [some (.ref 1079), some (zi p0)] [] 0 0) : zz_E g l zy_takeParts_14_101 zr_takeParts_14_101 (zz_QI n (zp_takeParts_14_101 p0 S0)) S n 2 [some (.ref 1079), some (zi p0), some (zi x2)] [] 0 0 := by
  refine zz_iload_n (x := x2) rfl zd_14_101_2 ?_
  refine zz_bipush (by decide) zd_14_101_3 ?_
  refine zz_icmp_ge (by omega) (by omega) zd_14_101_5 (fun c1 => ?_) (fun c1 => ?_)
  · refine zz_aload_n (x := 1079) rfl zd_14_101_30 ?_
    refine zz_lconst (z := 0) (by decide) zd_14_101_31 ?_
    refine zz_putl zd_14_101_32 zf_Md_564 zT_1079 rfl (zz_ltn hn rfl) (fun S2 qS2 => ?_)
    have G_S2 := zz_G.put G_S qS2 (-9223372036854775808) 9223372036854775807 rfl (by omega)
    have F_S2 := zz_fr.puts F_S qS2 rfl
    refine zz_aload_n (x := 1079) rfl zd_14_101_35 ?_
    refine zz_iconst zd_14_101_36 ?_
    refine zz_puti zd_14_101_37 zf_Md_567 zT_1079 rfl (zz_ltn hn rfl) (fun S3 qS3 => ?_)
    have G_S3 := zz_G.put G_S2 qS3 0 255 rfl (by omega)
    have F_S3 := zz_fr.puts F_S2 qS3 rfl
    have g4 := zz_G.r G_S 1079 30 0 102 rfl rfl
    have e5 : S3 1079 30 = S 1079 30 := (zz_ro qS3 (fun h => absurd h.2 (by decide)) (zz_ro qS2 (fun h => absurd h.2 (by decide)) rfl))
    have g6 := zz_G.r G_S 1079 32 0 1500 rfl rfl
    have e7 : S3 1079 32 = S 1079 32 := (zz_ro qS3 (fun h => absurd h.2 (by decide)) (zz_ro qS2 (fun h => absurd h.2 (by decide)) rfl))
    refine zz_less (ls1 := [some (.ref 1079), some (zi p0)]) ⟨rfl, ⟨rfl, trivial⟩⟩ ?_
    exact k40 S3 G_S3 F_S3 (by omega)
  · refine zz_aload_n (x := 1079) rfl zd_14_101_8 ?_
    refine zz_getr (kd := 0) (z := 1118) zd_14_101_9 zf_Md_136 zT_1079 rfl (zz_ltn hn rfl) (zz_G.eq G_S 1079 63 1118 rfl rfl) (by decide) 1118 rfl ?_
    refine zz_iload_n (x := x2) rfl zd_14_101_12 ?_
    refine zz_iload_n (x := x2) rfl zd_14_101_13 ?_
    refine zz_iconst zd_14_101_14 ?_
    refine zz_icmp_ne (by omega) (by omega) zd_14_101_15 (fun c8 => ?_) (fun c8 => ?_)
    · refine zz_iconst zd_14_101_22 ?_
      refine zz_iast zd_14_101_23 zT_1118 rfl (zz_ltn hn rfl) (by decide) (by omega) (fun S9 qS9 => ?_)
      have G_S9 := zz_G.put G_S qS9 0 9999 rfl (by omega)
      have F_S9 := zz_fr.putc F_S qS9 rfl
      refine zz_iinc [some (.ref 1079), some (zi p0), some (zi (x2 + 1))] zd_14_101_24 rfl rfl ?_
      refine zz_goto zd_14_101_27 ?_
      refine zz_less (ls1 := [some (.ref 1079), some (zi p0), some (zi (x2 + 1))]) ⟨rfl, ⟨rfl, ⟨rfl, trivial⟩⟩⟩ ?_
      exact k2 (x2 + 1) S9 G_S9 F_S9 (by omega) (by omega)
    · refine zz_iconst zd_14_101_18 ?_
      refine zz_goto zd_14_101_19 ?_
      refine zz_iast zd_14_101_23 zT_1118 rfl (zz_ltn hn rfl) (by decide) (by omega) (fun S10 qS10 => ?_)
      have G_S10 := zz_G.put G_S qS10 0 9999 rfl (by omega)
      have F_S10 := zz_fr.putc F_S qS10 rfl
      refine zz_iinc [some (.ref 1079), some (zi p0), some (zi (x2 + 1))] zd_14_101_24 rfl rfl ?_
      refine zz_goto zd_14_101_27 ?_
      refine zz_less (ls1 := [some (.ref 1079), some (zi p0), some (zi (x2 + 1))]) ⟨rfl, ⟨rfl, ⟨rfl, trivial⟩⟩⟩ ?_
      exact k2 (x2 + 1) S10 G_S10 F_S10 (by omega) (by omega)
theorem zb_takeParts_14_101_40 {g : mm_G} {l : Launch} (p0 : Int) (S0 : zz_S) (n : Nat) (hn : zz_end ≤ n) (G_S0 : zz_G S0) (hp0 : (-2147483648) ≤ p0 ∧ p0 ≤ 2147483647) (hN : ∀ w : Nat, 1 ≤ w → w ≤ 20 → S0 1100 w = zt_cd (zt_nw.getD w []))  (S : zz_S) (G_S : zz_G S) (F_S : zz_fr [(1079, 30), (1079, 31), (1079, 32), (1079, 61), (1079, 64), (1079, 65)] [1118] (fun _ _ => False) S0 S)  (R : Nat) (hR : (17179869184 + 3 * (1501 - S 1079 32).toNat + (if S 1079 30 = 0 then (0 : Int) else if S 1079 30 = 101 then 1 else 2).toNat) = R) (k40 : ∀  (S : zz_S), zz_G S → zz_fr [(1079, 30), (1079, 31), (1079, 32), (1079, 61), (1079, 64), (1079, 65)] [1118] (fun _ _ => False) S0 S → (17179869184 + 3 * (1501 - S 1079 32).toNat + (if S 1079 30 = 0 then (0 : Int) else if S 1079 30 = 101 then 1 else 2).toNat) < R → zz_E g l zy_takeParts_14_101 zr_takeParts_14_101 (zz_QI n (zp_takeParts_14_101 p0 S0)) S n 40 [some (.ref 1079), some (zi p0)] [] 0 0) : zz_E g l zy_takeParts_14_101 zr_takeParts_14_101 (zz_QI n (zp_takeParts_14_101 p0 S0)) S n 40 [some (.ref 1079), some (zi p0)] [] 0 0 := by
  refine zz_aload_n (x := 1079) rfl zd_14_101_40 ?_
  have g11 := zz_G.r G_S 1079 30 0 102 rfl rfl
  refine zz_geti (z := S 1079 30) zd_14_101_41 zf_Md_347 zT_1079 rfl (zz_ltn hn rfl) rfl ?_
  refine zz_if_eq (by omega) zd_14_101_44 (fun c12 => ?_) (fun c12 => ?_)
  · refine zz_iconst zd_14_101_96 ?_
    exact zz_zret zd_14_101_97 rfl (by omega) (Nat.zero_le _) (Nat.zero_le _) ⟨_, _, rfl, G_S, F_S, by omega⟩
  · refine zz_aload_n (x := 1079) rfl zd_14_101_47 ?_
    refine zz_callVI [] zd_14_101_48 zk_Md_570 zT_1079 (zz_ltn hn rfl) rfl rfl ⟨Nat.le_of_ble_eq_true rfl, Nat.le_of_ble_eq_true rfl⟩ ⟨rfl, rfl⟩ (Nat.zero_le _) (Nat.zero_le _) (zc_partOf_14_99  S n hn G_S ) (fun v14 S13 hP => ?_)
    obtain ⟨rfl, o15, o16⟩ := hP
    refine zz_istore_n [some (.ref 1079), some (zi p0), some (zi v14)] zd_14_101_51 (by decide) rfl ?_
    refine zz_iload_n (x := v14) rfl zd_14_101_52 ?_
    refine zz_iload_n (x := p0) rfl zd_14_101_53 ?_
    refine zz_iand (by omega) (by omega) zd_14_101_54 (fun v17 hv17 av17 bv17 ev17 => ?_)
    refine zz_if_eq (by omega) zd_14_101_55 (fun c18 => ?_) (fun c18 => ?_)
    · refine zz_iconst zd_14_101_67 ?_
      exact zz_zret zd_14_101_68 rfl (by omega) (Nat.zero_le _) (Nat.zero_le _) ⟨_, _, rfl, G_S, F_S, by omega⟩
    · refine zz_iload_n (x := v14) rfl zd_14_101_58 ?_
      refine zz_aload_n (x := 1079) rfl zd_14_101_59 ?_
      have g19 := zz_G.r G_S 1079 65 0 255 rfl rfl
      refine zz_geti (z := S 1079 65) zd_14_101_60 zf_Md_567 zT_1079 rfl (zz_ltn hn rfl) rfl ?_
      refine zz_iand (by omega) (by omega) zd_14_101_63 (fun v20 hv20 av20 bv20 ev20 => ?_)
      refine zz_if_eq (by omega) zd_14_101_64 (fun c21 => ?_) (fun c21 => ?_)
      · refine zz_aload_n (x := 1079) rfl zd_14_101_69 ?_
        refine zz_aload_n (x := 1079) rfl zd_14_101_70 ?_
        refine zz_geti (z := S 1079 65) zd_14_101_71 zf_Md_567 zT_1079 rfl (zz_ltn hn rfl) rfl ?_
        refine zz_iload_n (x := v14) rfl zd_14_101_74 ?_
        refine zz_ior (by omega) (by omega) zd_14_101_75 (fun v22 hv22 av22 ev22 => ?_)
        have ob9 := zz_orb8 (by omega) (by omega) ev22
        refine zz_puti zd_14_101_76 zf_Md_567 zT_1079 rfl (zz_ltn hn rfl) (fun S23 qS23 => ?_)
        have G_S23 := zz_G.put G_S qS23 0 255 rfl (by omega)
        have F_S23 := zz_fr.puts F_S qS23 rfl
        refine zz_aload_n (x := 1079) rfl zd_14_101_79 ?_
        have g24 := zz_G.r G_S 1079 32 0 1500 rfl rfl
        have e25 : S23 1079 32 = S 1079 32 := (zz_ro qS23 (fun h => absurd h.2 (by decide)) rfl)
        refine zz_callVV [] zd_14_101_80 zk_Md_526 zT_1079 (zz_ltn hn rfl) rfl rfl ⟨Nat.le_of_ble_eq_true rfl, Nat.le_of_ble_eq_true rfl⟩ ⟨rfl, rfl⟩ (Nat.zero_le _) (Nat.zero_le _) (zc_advanceNet_14_93  S23 n hn G_S23 (fun u h1 h2 => ((zz_ro qS23 (fun h => absurd h.1 (by decide)) (zz_rc F_S (zz_nc1 rfl) rfl (fun h => h) rfl))).trans (hN u h1 h2))) (fun S26 hP => ?_)
        obtain ⟨G_S26, fS26, o28⟩ := hP
        have F_S26 := zz_fr.trans F_S23 fS26 rfl zz_nv
        refine zz_aload_n (x := 1079) rfl zd_14_101_83 ?_
        refine zz_iload_n (x := v14) rfl zd_14_101_84 ?_
        have g29 := zz_G.r G_S26 1079 30 0 102 rfl rfl
        have g30 := zz_G.r G_S26 1079 32 0 1500 rfl rfl
        refine zz_callVI [zi v14] zd_14_101_85 zk_Md_573 zT_1079 (zz_ltn hn rfl) rfl rfl ⟨Nat.le_of_ble_eq_true rfl, Nat.le_of_ble_eq_true rfl⟩ ⟨rfl, rfl⟩ (Nat.zero_le _) (Nat.zero_le _) (zc_takePart_14_100 v14 S26 n hn G_S26 (by omega) (fun u h1 h2 => ((zz_rc fS26 (zz_nc1 rfl) rfl (fun h => h) (zz_ro qS23 (fun h => absurd h.1 (by decide)) (zz_rc F_S (zz_nc1 rfl) rfl (fun h => h) rfl)))).trans (hN u h1 h2))) (fun v32 S31 hP => ?_)
        obtain ⟨G_S31, fS31, o33, o34⟩ := hP
        have F_S31 := zz_fr.trans F_S26 fS31 rfl zz_nv
        rcases (by omega : v32 = 0 ∨ v32 = 1) with rfl | rfl
        · refine zz_if_ne (by omega) zd_14_101_88 (fun c35 => ?_) (fun c35 => ?_)
          · exfalso; omega
          · refine zz_iconst zd_14_101_91 ?_
            exact zz_zret zd_14_101_92 rfl (by omega) (Nat.zero_le _) (Nat.zero_le _) ⟨_, _, rfl, G_S31, F_S31, by omega⟩
        · refine zz_if_ne (by omega) zd_14_101_88 (fun c36 => ?_) (fun c36 => ?_)
          · refine zz_goto zd_14_101_93 ?_
            have g37 := zz_G.r G_S31 1079 30 0 102 rfl rfl
            have g38 := zz_G.r G_S31 1079 32 0 1500 rfl rfl
            refine zz_less (ls1 := [some (.ref 1079), some (zi p0)]) ⟨rfl, ⟨rfl, trivial⟩⟩ ?_
            exact k40 S31 G_S31 F_S31 (by omega)
          · exfalso; omega
      · refine zz_iconst zd_14_101_67 ?_
        exact zz_zret zd_14_101_68 rfl (by omega) (Nat.zero_le _) (Nat.zero_le _) ⟨_, _, rfl, G_S, F_S, by omega⟩
theorem zi_takeParts_14_101 {g : mm_G} {l : Launch} (p0 : Int) (S0 : zz_S) (n : Nat) (hn : zz_end ≤ n) (G_S0 : zz_G S0) (hp0 : (-2147483648) ≤ p0 ∧ p0 ≤ 2147483647) (hN : ∀ w : Nat, 1 ≤ w → w ≤ 20 → S0 1100 w = zt_cd (zt_nw.getD w [])) : ∀ N : Nat, (∀ (x2 : Int) (S : zz_S), zz_G S → zz_fr [(1079, 30), (1079, 31), (1079, 32), (1079, 61), (1079, 64), (1079, 65)] [1118] (fun _ _ => False) S0 S → (0 ≤ x2 ∧ x2 ≤ 8) → (34359738368 + (8 - x2).toNat) < N → zz_E g l zy_takeParts_14_101 zr_takeParts_14_101 (zz_QI n (zp_takeParts_14_101 p0 S0)) S n 2 [some (.ref 1079), some (zi p0), some (zi x2)] [] 0 0) ∧ (∀  (S : zz_S), zz_G S → zz_fr [(1079, 30), (1079, 31), (1079, 32), (1079, 61), (1079, 64), (1079, 65)] [1118] (fun _ _ => False) S0 S → (17179869184 + 3 * (1501 - S 1079 32).toNat + (if S 1079 30 = 0 then (0 : Int) else if S 1079 30 = 101 then 1 else 2).toNat) < N → zz_E g l zy_takeParts_14_101 zr_takeParts_14_101 (zz_QI n (zp_takeParts_14_101 p0 S0)) S n 40 [some (.ref 1079), some (zi p0)] [] 0 0) := by
  intro N
  induction N with
  | zero => exact ⟨fun x2 S _ _ _ h => absurd h (Nat.not_lt_zero _), fun  S _ _  h => absurd h (Nat.not_lt_zero _)⟩
  | succ N ih =>
    exact ⟨fun x2 S a b j0 hR => zb_takeParts_14_101_2 p0 S0 n hn G_S0 hp0 hN x2 S a b j0 _ rfl (fun x2 S a b j0 h => ih.1 x2 S a b j0 (Nat.lt_of_lt_of_le h (Nat.le_of_lt_succ hR))) (fun  S a b  h => ih.2  S a b  (Nat.lt_of_lt_of_le h (Nat.le_of_lt_succ hR))),
      fun  S a b  hR => zb_takeParts_14_101_40 p0 S0 n hn G_S0 hp0 hN  S a b  _ rfl (fun  S a b  h => ih.2  S a b  (Nat.lt_of_lt_of_le h (Nat.le_of_lt_succ hR)))⟩
theorem zc_takeParts_14_101 {g : mm_G} {l : Launch} (p0 : Int) (S0 : zz_S) (n : Nat) (hn : zz_end ≤ n) (G_S0 : zz_G S0) (hp0 : (-2147483648) ≤ p0 ∧ p0 ≤ 2147483647) (hN : ∀ w : Nat, 1 ≤ w → w ≤ 20 → S0 1100 w = zt_cd (zt_nw.getD w [])) : mm_Met g l zy_takeParts_14_101 zr_takeParts_14_101 [.ref 1079, zi p0] (zz_M S0 n) n (zz_QI n (zp_takeParts_14_101 p0 S0)) := by
  refine zz_enter (by decide) (Nat.le_of_ble_eq_true rfl) (zz_less (ls1 := [some (.ref 1079), some (zi p0)]) ⟨rfl, ⟨rfl, trivial⟩⟩ ?_)
  have F_S0 : zz_fr [(1079, 30), (1079, 31), (1079, 32), (1079, 61), (1079, 64), (1079, 65)] [1118] (fun _ _ => False) S0 S0 := zz_fr.refl
  have k2 : ∀ (x2 : Int) (S : zz_S), zz_G S → zz_fr [(1079, 30), (1079, 31), (1079, 32), (1079, 61), (1079, 64), (1079, 65)] [1118] (fun _ _ => False) S0 S → (0 ≤ x2 ∧ x2 ≤ 8) → zz_E g l zy_takeParts_14_101 zr_takeParts_14_101 (zz_QI n (zp_takeParts_14_101 p0 S0)) S n 2 [some (.ref 1079), some (zi p0), some (zi x2)] [] 0 0 := fun x2 S a b j0 => (zi_takeParts_14_101 (g := g) (l := l) p0 S0 n hn G_S0 hp0 hN _).1 x2 S a b j0 (Nat.lt_succ_self _)
  refine zz_iconst zd_14_101_0 ?_
  refine zz_istore_n [some (.ref 1079), some (zi p0), some (zi 0)] zd_14_101_1 (by decide) rfl ?_
  refine zz_less (ls1 := [some (.ref 1079), some (zi p0), some (zi 0)]) ⟨rfl, ⟨rfl, ⟨rfl, trivial⟩⟩⟩ ?_
  exact k2 0 S0 G_S0 F_S0 (by omega)
abbrev zy_takeTensor_14_102 : mm_Y := (⟨"TensorForgeModel", "takeTensor", "()I"⟩, prog_14_method_102_code, 2, (some .int))
theorem zyw_takeTensor_14_102 : mm_Yw zy_takeTensor_14_102 0 := ⟨mm_tb_1 2210 (by decide +kernel) rfl, mm_tb_1 12 (by decide +kernel) rfl, ⟨by decide, by decide⟩, by decide +kernel⟩
theorem zg_14_102_0 : (decode zy_takeTensor_14_102.2.1 0 = .ok ((.aload_n 0), 1)) ∧ (decode zy_takeTensor_14_102.2.1 1 = .ok ((.getfield 347), 3)) ∧ (decode zy_takeTensor_14_102.2.1 4 = .ok ((.bipush 100), 2)) ∧ (decode zy_takeTensor_14_102.2.1 6 = .ok ((Instr.if_icmp .ne) 10, 3)) ∧ (decode zy_takeTensor_14_102.2.1 16 = .ok ((.aload_n 0), 1)) ∧ (decode zy_takeTensor_14_102.2.1 17 = .ok ((.getfield 347), 3)) ∧ (decode zy_takeTensor_14_102.2.1 20 = .ok ((.bipush 102), 2)) ∧ (decode zy_takeTensor_14_102.2.1 22 = .ok ((Instr.if_icmp .ne) 14, 3)) ∧ (decode zy_takeTensor_14_102.2.1 36 = .ok ((.iconst (-1)), 1)) ∧ (decode zy_takeTensor_14_102.2.1 37 = .ok ((.istore_n 1), 1)) := by decide +kernel
theorem zd_14_102_0 : zz_D zy_takeTensor_14_102 0 (.aload_n 0) 1 1 := ⟨zg_14_102_0.1, rfl⟩
theorem zd_14_102_1 : zz_D zy_takeTensor_14_102 1 (.getfield 347) 3 4 := ⟨zg_14_102_0.2.1, rfl⟩
theorem zd_14_102_4 : zz_D zy_takeTensor_14_102 4 (.bipush 100) 2 6 := ⟨zg_14_102_0.2.2.1, rfl⟩
theorem zd_14_102_6 : zz_B zy_takeTensor_14_102 6 (Instr.if_icmp .ne) 16 9 := ⟨10, zg_14_102_0.2.2.2.1, rfl, rfl⟩
theorem zd_14_102_16 : zz_D zy_takeTensor_14_102 16 (.aload_n 0) 1 17 := ⟨zg_14_102_0.2.2.2.2.1, rfl⟩
theorem zd_14_102_17 : zz_D zy_takeTensor_14_102 17 (.getfield 347) 3 20 := ⟨zg_14_102_0.2.2.2.2.2.1, rfl⟩
theorem zd_14_102_20 : zz_D zy_takeTensor_14_102 20 (.bipush 102) 2 22 := ⟨zg_14_102_0.2.2.2.2.2.2.1, rfl⟩
theorem zd_14_102_22 : zz_B zy_takeTensor_14_102 22 (Instr.if_icmp .ne) 36 25 := ⟨14, zg_14_102_0.2.2.2.2.2.2.2.1, rfl, rfl⟩
theorem zd_14_102_36 : zz_D zy_takeTensor_14_102 36 (.iconst (-1)) 1 37 := ⟨zg_14_102_0.2.2.2.2.2.2.2.2.1, rfl⟩
theorem zd_14_102_37 : zz_D zy_takeTensor_14_102 37 (.istore_n 1) 1 38 := ⟨zg_14_102_0.2.2.2.2.2.2.2.2.2, rfl⟩
theorem zg_14_102_38 : (decode zy_takeTensor_14_102.2.1 38 = .ok ((.aload_n 0), 1)) ∧ (decode zy_takeTensor_14_102.2.1 39 = .ok ((.invokevirtual 526), 3)) ∧ (decode zy_takeTensor_14_102.2.1 42 = .ok ((.iload_n 1), 1)) ∧ (decode zy_takeTensor_14_102.2.1 43 = .ok ((.ireturn), 1)) ∧ (decode zy_takeTensor_14_102.2.1 25 = .ok ((.aload_n 0), 1)) ∧ (decode zy_takeTensor_14_102.2.1 26 = .ok ((.aload_n 0), 1)) ∧ (decode zy_takeTensor_14_102.2.1 27 = .ok ((.getfield 522), 3)) ∧ (decode zy_takeTensor_14_102.2.1 30 = .ok ((.invokevirtual 560), 3)) ∧ (decode zy_takeTensor_14_102.2.1 33 = .ok (Instr.goto 4, 3)) ∧ (decode zy_takeTensor_14_102.2.1 9 = .ok ((.aload_n 0), 1)) := by decide +kernel
theorem zd_14_102_38 : zz_D zy_takeTensor_14_102 38 (.aload_n 0) 1 39 := ⟨zg_14_102_38.1, rfl⟩
theorem zd_14_102_39 : zz_D zy_takeTensor_14_102 39 (.invokevirtual 526) 3 42 := ⟨zg_14_102_38.2.1, rfl⟩
theorem zd_14_102_42 : zz_D zy_takeTensor_14_102 42 (.iload_n 1) 1 43 := ⟨zg_14_102_38.2.2.1, rfl⟩
theorem zd_14_102_43 : zz_D zy_takeTensor_14_102 43 (.ireturn) 1 44 := ⟨zg_14_102_38.2.2.2.1, rfl⟩
theorem zd_14_102_25 : zz_D zy_takeTensor_14_102 25 (.aload_n 0) 1 26 := ⟨zg_14_102_38.2.2.2.2.1, rfl⟩
theorem zd_14_102_26 : zz_D zy_takeTensor_14_102 26 (.aload_n 0) 1 27 := ⟨zg_14_102_38.2.2.2.2.2.1, rfl⟩
theorem zd_14_102_27 : zz_D zy_takeTensor_14_102 27 (.getfield 522) 3 30 := ⟨zg_14_102_38.2.2.2.2.2.2.1, rfl⟩
theorem zd_14_102_30 : zz_D zy_takeTensor_14_102 30 (.invokevirtual 560) 3 33 := ⟨zg_14_102_38.2.2.2.2.2.2.2.1, rfl⟩
theorem zd_14_102_33 : zz_B zy_takeTensor_14_102 33 Instr.goto 37 36 := ⟨4, zg_14_102_38.2.2.2.2.2.2.2.2.1, rfl, rfl⟩
theorem zd_14_102_9 : zz_D zy_takeTensor_14_102 9 (.aload_n 0) 1 10 := ⟨zg_14_102_38.2.2.2.2.2.2.2.2.2, rfl⟩
theorem zg_14_102_10 : (decode zy_takeTensor_14_102.2.1 10 = .ok ((.getfield 354), 3)) ∧ (decode zy_takeTensor_14_102.2.1 13 = .ok (Instr.goto 24, 3)) := by decide +kernel
theorem zd_14_102_10 : zz_D zy_takeTensor_14_102 10 (.getfield 354) 3 13 := ⟨zg_14_102_10.1, rfl⟩
theorem zd_14_102_13 : zz_B zy_takeTensor_14_102 13 Instr.goto 37 16 := ⟨24, zg_14_102_10.2, rfl, rfl⟩
-- TensorForgeModel takeTensor ()I
abbrev zr_takeTensor_14_102 : Room := { frames := 3, cells := 0, slots := 0, locals := 48 }
def zp_takeTensor_14_102  (S0 : zz_S) : Int → zz_S → Prop := fun r S => zz_G S ∧ zz_fr [(1079, 30), (1079, 31), (1079, 32), (1079, 61)] [] (fun _ _ => False) S0 S ∧ ((-1) ≤ r ∧ r ≤ 9999) ∧ (S 1079 32 > S0 1079 32 ∨ (S 1079 32 = S0 1079 32 ∧ (S 1079 30 = S0 1079 30 ∨ S 1079 30 = 0 ∨ S 1079 30 = 101)))
theorem zc_takeTensor_14_102 {g : mm_G} {l : Launch}  (S0 : zz_S) (n : Nat) (hn : zz_end ≤ n) (G_S0 : zz_G S0) (hN : ∀ w : Nat, 1 ≤ w → w ≤ 20 → S0 1100 w = zt_cd (zt_nw.getD w [])) : mm_Met g l zy_takeTensor_14_102 zr_takeTensor_14_102 [.ref 1079] (zz_M S0 n) n (zz_QI n (zp_takeTensor_14_102  S0)) := by
  refine zz_enter (by decide) (Nat.le_of_ble_eq_true rfl) (zz_less (ls1 := [some (.ref 1079)]) ⟨rfl, trivial⟩ ?_)
  have F_S0 : zz_fr [(1079, 30), (1079, 31), (1079, 32), (1079, 61)] [] (fun _ _ => False) S0 S0 := zz_fr.refl
  refine zz_aload_n (x := 1079) rfl zd_14_102_0 ?_
  have g1 := zz_G.r G_S0 1079 30 0 102 rfl rfl
  refine zz_geti (z := S0 1079 30) zd_14_102_1 zf_Md_347 zT_1079 rfl (zz_ltn hn rfl) rfl ?_
  refine zz_bipush (by decide) zd_14_102_4 ?_
  refine zz_icmp_ne (by omega) (by omega) zd_14_102_6 (fun c2 => ?_) (fun c2 => ?_)
  · refine zz_aload_n (x := 1079) rfl zd_14_102_16 ?_
    refine zz_geti (z := S0 1079 30) zd_14_102_17 zf_Md_347 zT_1079 rfl (zz_ltn hn rfl) rfl ?_
    refine zz_bipush (by decide) zd_14_102_20 ?_
    refine zz_icmp_ne (by omega) (by omega) zd_14_102_22 (fun c3 => ?_) (fun c3 => ?_)
    · refine zz_iconst zd_14_102_36 ?_
      refine zz_istore_n [some (.ref 1079), some (zi (-1))] zd_14_102_37 (by decide) rfl ?_
      refine zz_aload_n (x := 1079) rfl zd_14_102_38 ?_
      have g4 := zz_G.r G_S0 1079 32 0 1500 rfl rfl
      refine zz_callVV [] zd_14_102_39 zk_Md_526 zT_1079 (zz_ltn hn rfl) rfl rfl ⟨Nat.le_of_ble_eq_true rfl, Nat.le_of_ble_eq_true rfl⟩ ⟨rfl, rfl⟩ (Nat.zero_le _) (Nat.zero_le _) (zc_advanceNet_14_93  S0 n hn G_S0 hN) (fun S5 hP => ?_)
      obtain ⟨G_S5, fS5, o7⟩ := hP
      have F_S5 := zz_fr.trans F_S0 fS5 rfl zz_nv
      refine zz_iload_n (x := (-1)) rfl zd_14_102_42 ?_
      have g8 := zz_G.r G_S5 1079 30 0 102 rfl rfl
      have g9 := zz_G.r G_S5 1079 32 0 1500 rfl rfl
      exact zz_iret zd_14_102_43 rfl (Nat.zero_le _) (Nat.zero_le _) ⟨_, _, rfl, G_S5, F_S5, by omega, by omega⟩
    · refine zz_aload_n (x := 1079) rfl zd_14_102_25 ?_
      refine zz_aload_n (x := 1079) rfl zd_14_102_26 ?_
      have g10 := zz_G.r G_S0 1079 61 (-9223372036854775808) 9223372036854775807 rfl rfl
      refine zz_getl (z := S0 1079 61) zd_14_102_27 zf_Md_522 zT_1079 rfl (zz_ltn hn rfl) rfl ?_
      refine zz_callVI [zl (S0 1079 61)] zd_14_102_30 zk_Md_560 zT_1079 (zz_ltn hn rfl) rfl rfl ⟨Nat.le_of_ble_eq_true rfl, Nat.le_of_ble_eq_true rfl⟩ ⟨rfl, rfl⟩ (Nat.zero_le _) (Nat.zero_le _) (zc_named_14_98 (S0 1079 61) S0 n hn G_S0 (by omega)) (fun v12 S11 hP => ?_)
      obtain ⟨rfl, o13⟩ := hP
      refine zz_goto zd_14_102_33 ?_
      refine zz_istore_n [some (.ref 1079), some (zi v12)] zd_14_102_37 (by decide) rfl ?_
      refine zz_aload_n (x := 1079) rfl zd_14_102_38 ?_
      have g14 := zz_G.r G_S0 1079 32 0 1500 rfl rfl
      refine zz_callVV [] zd_14_102_39 zk_Md_526 zT_1079 (zz_ltn hn rfl) rfl rfl ⟨Nat.le_of_ble_eq_true rfl, Nat.le_of_ble_eq_true rfl⟩ ⟨rfl, rfl⟩ (Nat.zero_le _) (Nat.zero_le _) (zc_advanceNet_14_93  S0 n hn G_S0 hN) (fun S15 hP => ?_)
      obtain ⟨G_S15, fS15, o17⟩ := hP
      have F_S15 := zz_fr.trans F_S0 fS15 rfl zz_nv
      refine zz_iload_n (x := v12) rfl zd_14_102_42 ?_
      have g18 := zz_G.r G_S15 1079 30 0 102 rfl rfl
      have g19 := zz_G.r G_S15 1079 32 0 1500 rfl rfl
      exact zz_iret zd_14_102_43 rfl (Nat.zero_le _) (Nat.zero_le _) ⟨_, _, rfl, G_S15, F_S15, by omega, by omega⟩
  · refine zz_aload_n (x := 1079) rfl zd_14_102_9 ?_
    have g20 := zz_G.r G_S0 1079 31 0 9999 rfl rfl
    refine zz_geti (z := S0 1079 31) zd_14_102_10 zf_Md_354 zT_1079 rfl (zz_ltn hn rfl) rfl ?_
    refine zz_goto zd_14_102_13 ?_
    refine zz_istore_n [some (.ref 1079), some (zi (S0 1079 31))] zd_14_102_37 (by decide) rfl ?_
    refine zz_aload_n (x := 1079) rfl zd_14_102_38 ?_
    have g21 := zz_G.r G_S0 1079 32 0 1500 rfl rfl
    refine zz_callVV [] zd_14_102_39 zk_Md_526 zT_1079 (zz_ltn hn rfl) rfl rfl ⟨Nat.le_of_ble_eq_true rfl, Nat.le_of_ble_eq_true rfl⟩ ⟨rfl, rfl⟩ (Nat.zero_le _) (Nat.zero_le _) (zc_advanceNet_14_93  S0 n hn G_S0 hN) (fun S22 hP => ?_)
    obtain ⟨G_S22, fS22, o24⟩ := hP
    have F_S22 := zz_fr.trans F_S0 fS22 rfl zz_nv
    refine zz_iload_n (x := S0 1079 31) rfl zd_14_102_42 ?_
    have g25 := zz_G.r G_S22 1079 30 0 102 rfl rfl
    have g26 := zz_G.r G_S22 1079 32 0 1500 rfl rfl
    exact zz_iret zd_14_102_43 rfl (Nat.zero_le _) (Nat.zero_le _) ⟨_, _, rfl, G_S22, F_S22, by omega, by omega⟩
abbrev zy_readInput_14_103 : mm_Y := (⟨"TensorForgeModel", "readInput", "()Z"⟩, prog_14_method_103_code, 5, (some .boolean))
theorem zyw_readInput_14_103 : mm_Yw zy_readInput_14_103 0 := ⟨mm_tb_1 2251 (by decide +kernel) rfl, mm_tb_1 12 (by decide +kernel) rfl, ⟨by decide, by decide⟩, by decide +kernel⟩
theorem zk_Md_576 : mm_Vl "TensorForgeModel" 576 11 1 zy_takeParts_14_101 := ⟨zyw_takeParts_14_101, (R_Md, F_Md, 69), rfl, mm_tb_1 2215 (by decide +kernel) rfl, mm_tb_1 2217 (by decide +kernel) rfl, mm_tb_s 145 (by decide +kernel) rfl⟩
theorem zk_Md_579 : mm_Vl "TensorForgeModel" 579 11 3 zy_input_14_63 := ⟨zyw_input_14_63, (R_Md, F_Md, 69), rfl, mm_tb_1 2252 (by decide +kernel) rfl, mm_tb_1 2070 (by decide +kernel) rfl, mm_tb_1 2071 (by decide +kernel) rfl⟩
theorem zg_14_103_0 : (decode zy_readInput_14_103.2.1 0 = .ok ((.aload_n 0), 1)) ∧ (decode zy_readInput_14_103.2.1 1 = .ok ((.ldc2_w 532), 3)) ∧ (decode zy_readInput_14_103.2.1 4 = .ok ((.invokevirtual 529), 3)) ∧ (decode zy_readInput_14_103.2.1 7 = .ok ((Instr.ifCond .ne) 5, 3)) ∧ (decode zy_readInput_14_103.2.1 10 = .ok ((.iconst 0), 1)) ∧ (decode zy_readInput_14_103.2.1 11 = .ok ((.ireturn), 1)) ∧ (decode zy_readInput_14_103.2.1 12 = .ok ((.aload_n 0), 1)) ∧ (decode zy_readInput_14_103.2.1 13 = .ok ((.invokevirtual 526), 3)) ∧ (decode zy_readInput_14_103.2.1 16 = .ok ((.aload_n 0), 1)) ∧ (decode zy_readInput_14_103.2.1 17 = .ok ((.iconst 0), 1)) := by decide +kernel
theorem zd_14_103_0 : zz_D zy_readInput_14_103 0 (.aload_n 0) 1 1 := ⟨zg_14_103_0.1, rfl⟩
theorem zd_14_103_1 : zz_D zy_readInput_14_103 1 (.ldc2_w 532) 3 4 := ⟨zg_14_103_0.2.1, rfl⟩
theorem zd_14_103_4 : zz_D zy_readInput_14_103 4 (.invokevirtual 529) 3 7 := ⟨zg_14_103_0.2.2.1, rfl⟩
theorem zd_14_103_7 : zz_B zy_readInput_14_103 7 (Instr.ifCond .ne) 12 10 := ⟨5, zg_14_103_0.2.2.2.1, rfl, rfl⟩
theorem zd_14_103_10 : zz_D zy_readInput_14_103 10 (.iconst 0) 1 11 := ⟨zg_14_103_0.2.2.2.2.1, rfl⟩
theorem zd_14_103_11 : zz_D zy_readInput_14_103 11 (.ireturn) 1 12 := ⟨zg_14_103_0.2.2.2.2.2.1, rfl⟩
theorem zd_14_103_12 : zz_D zy_readInput_14_103 12 (.aload_n 0) 1 13 := ⟨zg_14_103_0.2.2.2.2.2.2.1, rfl⟩
theorem zd_14_103_13 : zz_D zy_readInput_14_103 13 (.invokevirtual 526) 3 16 := ⟨zg_14_103_0.2.2.2.2.2.2.2.1, rfl⟩
theorem zd_14_103_16 : zz_D zy_readInput_14_103 16 (.aload_n 0) 1 17 := ⟨zg_14_103_0.2.2.2.2.2.2.2.2.1, rfl⟩
theorem zd_14_103_17 : zz_D zy_readInput_14_103 17 (.iconst 0) 1 18 := ⟨zg_14_103_0.2.2.2.2.2.2.2.2.2, rfl⟩
theorem zg_14_103_18 : (decode zy_readInput_14_103.2.1 18 = .ok ((.invokevirtual 550), 3)) ∧ (decode zy_readInput_14_103.2.1 21 = .ok ((Instr.ifCond .eq) 37, 3)) ∧ (decode zy_readInput_14_103.2.1 58 = .ok ((.iconst 0), 1)) ∧ (decode zy_readInput_14_103.2.1 59 = .ok ((.istore_n 1), 1)) ∧ (decode zy_readInput_14_103.2.1 60 = .ok ((.aload_n 0), 1)) ∧ (decode zy_readInput_14_103.2.1 61 = .ok ((.getfield 136), 3)) ∧ (decode zy_readInput_14_103.2.1 64 = .ok ((.iconst 0), 1)) ∧ (decode zy_readInput_14_103.2.1 65 = .ok ((.iaload), 1)) ∧ (decode zy_readInput_14_103.2.1 66 = .ok ((.istore_n 2), 1)) ∧ (decode zy_readInput_14_103.2.1 67 = .ok ((.aload_n 0), 1)) := by decide +kernel
theorem zd_14_103_18 : zz_D zy_readInput_14_103 18 (.invokevirtual 550) 3 21 := ⟨zg_14_103_18.1, rfl⟩
theorem zd_14_103_21 : zz_B zy_readInput_14_103 21 (Instr.ifCond .eq) 58 24 := ⟨37, zg_14_103_18.2.1, rfl, rfl⟩
theorem zd_14_103_58 : zz_D zy_readInput_14_103 58 (.iconst 0) 1 59 := ⟨zg_14_103_18.2.2.1, rfl⟩
theorem zd_14_103_59 : zz_D zy_readInput_14_103 59 (.istore_n 1) 1 60 := ⟨zg_14_103_18.2.2.2.1, rfl⟩
theorem zd_14_103_60 : zz_D zy_readInput_14_103 60 (.aload_n 0) 1 61 := ⟨zg_14_103_18.2.2.2.2.1, rfl⟩
theorem zd_14_103_61 : zz_D zy_readInput_14_103 61 (.getfield 136) 3 64 := ⟨zg_14_103_18.2.2.2.2.2.1, rfl⟩
theorem zd_14_103_64 : zz_D zy_readInput_14_103 64 (.iconst 0) 1 65 := ⟨zg_14_103_18.2.2.2.2.2.2.1, rfl⟩
theorem zd_14_103_65 : zz_D zy_readInput_14_103 65 (.iaload) 1 66 := ⟨zg_14_103_18.2.2.2.2.2.2.2.1, rfl⟩
theorem zd_14_103_66 : zz_D zy_readInput_14_103 66 (.istore_n 2) 1 67 := ⟨zg_14_103_18.2.2.2.2.2.2.2.2.1, rfl⟩
theorem zd_14_103_67 : zz_D zy_readInput_14_103 67 (.aload_n 0) 1 68 := ⟨zg_14_103_18.2.2.2.2.2.2.2.2.2, rfl⟩
theorem zg_14_103_68 : (decode zy_readInput_14_103.2.1 68 = .ok ((.getfield 136), 3)) ∧ (decode zy_readInput_14_103.2.1 71 = .ok ((.iconst 1), 1)) ∧ (decode zy_readInput_14_103.2.1 72 = .ok ((.iaload), 1)) ∧ (decode zy_readInput_14_103.2.1 73 = .ok ((.istore_n 3), 1)) ∧ (decode zy_readInput_14_103.2.1 74 = .ok ((.aload_n 0), 1)) ∧ (decode zy_readInput_14_103.2.1 75 = .ok ((.getfield 136), 3)) ∧ (decode zy_readInput_14_103.2.1 78 = .ok ((.iconst 2), 1)) ∧ (decode zy_readInput_14_103.2.1 79 = .ok ((.iaload), 1)) ∧ (decode zy_readInput_14_103.2.1 80 = .ok ((.istore 4), 2)) ∧ (decode zy_readInput_14_103.2.1 82 = .ok ((.aload_n 0), 1)) := by decide +kernel
theorem zd_14_103_68 : zz_D zy_readInput_14_103 68 (.getfield 136) 3 71 := ⟨zg_14_103_68.1, rfl⟩
theorem zd_14_103_71 : zz_D zy_readInput_14_103 71 (.iconst 1) 1 72 := ⟨zg_14_103_68.2.1, rfl⟩
theorem zd_14_103_72 : zz_D zy_readInput_14_103 72 (.iaload) 1 73 := ⟨zg_14_103_68.2.2.1, rfl⟩
theorem zd_14_103_73 : zz_D zy_readInput_14_103 73 (.istore_n 3) 1 74 := ⟨zg_14_103_68.2.2.2.1, rfl⟩
theorem zd_14_103_74 : zz_D zy_readInput_14_103 74 (.aload_n 0) 1 75 := ⟨zg_14_103_68.2.2.2.2.1, rfl⟩
theorem zd_14_103_75 : zz_D zy_readInput_14_103 75 (.getfield 136) 3 78 := ⟨zg_14_103_68.2.2.2.2.2.1, rfl⟩
theorem zd_14_103_78 : zz_D zy_readInput_14_103 78 (.iconst 2) 1 79 := ⟨zg_14_103_68.2.2.2.2.2.2.1, rfl⟩
theorem zd_14_103_79 : zz_D zy_readInput_14_103 79 (.iaload) 1 80 := ⟨zg_14_103_68.2.2.2.2.2.2.2.1, rfl⟩
theorem zd_14_103_80 : zz_D zy_readInput_14_103 80 (.istore 4) 2 82 := ⟨zg_14_103_68.2.2.2.2.2.2.2.2.1, rfl⟩
theorem zd_14_103_82 : zz_D zy_readInput_14_103 82 (.aload_n 0) 1 83 := ⟨zg_14_103_68.2.2.2.2.2.2.2.2.2, rfl⟩
theorem zg_14_103_83 : (decode zy_readInput_14_103.2.1 83 = .ok ((.iconst 0), 1)) ∧ (decode zy_readInput_14_103.2.1 84 = .ok ((.putfield 85), 3)) ∧ (decode zy_readInput_14_103.2.1 87 = .ok ((.iload_n 1), 1)) ∧ (decode zy_readInput_14_103.2.1 88 = .ok ((Instr.ifCond .eq) 13, 3)) ∧ (decode zy_readInput_14_103.2.1 101 = .ok ((.iconst 0), 1)) ∧ (decode zy_readInput_14_103.2.1 102 = .ok ((.ireturn), 1)) ∧ (decode zy_readInput_14_103.2.1 24 = .ok ((.aload_n 0), 1)) ∧ (decode zy_readInput_14_103.2.1 25 = .ok ((.invokevirtual 553), 3)) ∧ (decode zy_readInput_14_103.2.1 28 = .ok ((Instr.ifCond .eq) 30, 3)) ∧ (decode zy_readInput_14_103.2.1 31 = .ok ((.aload_n 0), 1)) := by decide +kernel
theorem zd_14_103_83 : zz_D zy_readInput_14_103 83 (.iconst 0) 1 84 := ⟨zg_14_103_83.1, rfl⟩
theorem zd_14_103_84 : zz_D zy_readInput_14_103 84 (.putfield 85) 3 87 := ⟨zg_14_103_83.2.1, rfl⟩
theorem zd_14_103_87 : zz_D zy_readInput_14_103 87 (.iload_n 1) 1 88 := ⟨zg_14_103_83.2.2.1, rfl⟩
theorem zd_14_103_88 : zz_B zy_readInput_14_103 88 (Instr.ifCond .eq) 101 91 := ⟨13, zg_14_103_83.2.2.2.1, rfl, rfl⟩
theorem zd_14_103_101 : zz_D zy_readInput_14_103 101 (.iconst 0) 1 102 := ⟨zg_14_103_83.2.2.2.2.1, rfl⟩
theorem zd_14_103_102 : zz_D zy_readInput_14_103 102 (.ireturn) 1 103 := ⟨zg_14_103_83.2.2.2.2.2.1, rfl⟩
theorem zd_14_103_24 : zz_D zy_readInput_14_103 24 (.aload_n 0) 1 25 := ⟨zg_14_103_83.2.2.2.2.2.2.1, rfl⟩
theorem zd_14_103_25 : zz_D zy_readInput_14_103 25 (.invokevirtual 553) 3 28 := ⟨zg_14_103_83.2.2.2.2.2.2.2.1, rfl⟩
theorem zd_14_103_28 : zz_B zy_readInput_14_103 28 (Instr.ifCond .eq) 58 31 := ⟨30, zg_14_103_83.2.2.2.2.2.2.2.2.1, rfl, rfl⟩
theorem zd_14_103_31 : zz_D zy_readInput_14_103 31 (.aload_n 0) 1 32 := ⟨zg_14_103_83.2.2.2.2.2.2.2.2.2, rfl⟩
theorem zg_14_103_32 : (decode zy_readInput_14_103.2.1 32 = .ok ((.iconst 1), 1)) ∧ (decode zy_readInput_14_103.2.1 33 = .ok ((.invokevirtual 550), 3)) ∧ (decode zy_readInput_14_103.2.1 36 = .ok ((Instr.ifCond .eq) 22, 3)) ∧ (decode zy_readInput_14_103.2.1 39 = .ok ((.aload_n 0), 1)) ∧ (decode zy_readInput_14_103.2.1 40 = .ok ((.invokevirtual 553), 3)) ∧ (decode zy_readInput_14_103.2.1 43 = .ok ((Instr.ifCond .eq) 15, 3)) ∧ (decode zy_readInput_14_103.2.1 46 = .ok ((.aload_n 0), 1)) ∧ (decode zy_readInput_14_103.2.1 47 = .ok ((.iconst 2), 1)) ∧ (decode zy_readInput_14_103.2.1 48 = .ok ((.invokevirtual 550), 3)) ∧ (decode zy_readInput_14_103.2.1 51 = .ok ((Instr.ifCond .eq) 7, 3)) := by decide +kernel
theorem zd_14_103_32 : zz_D zy_readInput_14_103 32 (.iconst 1) 1 33 := ⟨zg_14_103_32.1, rfl⟩
theorem zd_14_103_33 : zz_D zy_readInput_14_103 33 (.invokevirtual 550) 3 36 := ⟨zg_14_103_32.2.1, rfl⟩
theorem zd_14_103_36 : zz_B zy_readInput_14_103 36 (Instr.ifCond .eq) 58 39 := ⟨22, zg_14_103_32.2.2.1, rfl, rfl⟩
theorem zd_14_103_39 : zz_D zy_readInput_14_103 39 (.aload_n 0) 1 40 := ⟨zg_14_103_32.2.2.2.1, rfl⟩
theorem zd_14_103_40 : zz_D zy_readInput_14_103 40 (.invokevirtual 553) 3 43 := ⟨zg_14_103_32.2.2.2.2.1, rfl⟩
theorem zd_14_103_43 : zz_B zy_readInput_14_103 43 (Instr.ifCond .eq) 58 46 := ⟨15, zg_14_103_32.2.2.2.2.2.1, rfl, rfl⟩
theorem zd_14_103_46 : zz_D zy_readInput_14_103 46 (.aload_n 0) 1 47 := ⟨zg_14_103_32.2.2.2.2.2.2.1, rfl⟩
theorem zd_14_103_47 : zz_D zy_readInput_14_103 47 (.iconst 2) 1 48 := ⟨zg_14_103_32.2.2.2.2.2.2.2.1, rfl⟩
theorem zd_14_103_48 : zz_D zy_readInput_14_103 48 (.invokevirtual 550) 3 51 := ⟨zg_14_103_32.2.2.2.2.2.2.2.2.1, rfl⟩
theorem zd_14_103_51 : zz_B zy_readInput_14_103 51 (Instr.ifCond .eq) 58 54 := ⟨7, zg_14_103_32.2.2.2.2.2.2.2.2.2, rfl, rfl⟩
theorem zg_14_103_54 : (decode zy_readInput_14_103.2.1 54 = .ok ((.iconst 1), 1)) ∧ (decode zy_readInput_14_103.2.1 55 = .ok (Instr.goto 4, 3)) ∧ (decode zy_readInput_14_103.2.1 91 = .ok ((.aload_n 0), 1)) ∧ (decode zy_readInput_14_103.2.1 92 = .ok ((.sipush 128), 3)) ∧ (decode zy_readInput_14_103.2.1 95 = .ok ((.invokevirtual 576), 3)) ∧ (decode zy_readInput_14_103.2.1 98 = .ok ((Instr.ifCond .ne) 5, 3)) ∧ (decode zy_readInput_14_103.2.1 103 = .ok ((.aload_n 0), 1)) ∧ (decode zy_readInput_14_103.2.1 104 = .ok ((.iload_n 2), 1)) ∧ (decode zy_readInput_14_103.2.1 105 = .ok ((.iload_n 3), 1)) ∧ (decode zy_readInput_14_103.2.1 106 = .ok ((.iload 4), 2)) := by decide +kernel
theorem zd_14_103_54 : zz_D zy_readInput_14_103 54 (.iconst 1) 1 55 := ⟨zg_14_103_54.1, rfl⟩
theorem zd_14_103_55 : zz_B zy_readInput_14_103 55 Instr.goto 59 58 := ⟨4, zg_14_103_54.2.1, rfl, rfl⟩
theorem zd_14_103_91 : zz_D zy_readInput_14_103 91 (.aload_n 0) 1 92 := ⟨zg_14_103_54.2.2.1, rfl⟩
theorem zd_14_103_92 : zz_D zy_readInput_14_103 92 (.sipush 128) 3 95 := ⟨zg_14_103_54.2.2.2.1, rfl⟩
theorem zd_14_103_95 : zz_D zy_readInput_14_103 95 (.invokevirtual 576) 3 98 := ⟨zg_14_103_54.2.2.2.2.1, rfl⟩
theorem zd_14_103_98 : zz_B zy_readInput_14_103 98 (Instr.ifCond .ne) 103 101 := ⟨5, zg_14_103_54.2.2.2.2.2.1, rfl, rfl⟩
theorem zd_14_103_103 : zz_D zy_readInput_14_103 103 (.aload_n 0) 1 104 := ⟨zg_14_103_54.2.2.2.2.2.2.1, rfl⟩
theorem zd_14_103_104 : zz_D zy_readInput_14_103 104 (.iload_n 2) 1 105 := ⟨zg_14_103_54.2.2.2.2.2.2.2.1, rfl⟩
theorem zd_14_103_105 : zz_D zy_readInput_14_103 105 (.iload_n 3) 1 106 := ⟨zg_14_103_54.2.2.2.2.2.2.2.2.1, rfl⟩
theorem zd_14_103_106 : zz_D zy_readInput_14_103 106 (.iload 4) 2 108 := ⟨zg_14_103_54.2.2.2.2.2.2.2.2.2, rfl⟩
theorem zg_14_103_108 : (decode zy_readInput_14_103.2.1 108 = .ok ((.invokevirtual 579), 3)) ∧ (decode zy_readInput_14_103.2.1 111 = .ok ((.aload_n 0), 1)) ∧ (decode zy_readInput_14_103.2.1 112 = .ok ((.getfield 133), 3)) ∧ (decode zy_readInput_14_103.2.1 115 = .ok ((.iconst 0), 1)) ∧ (decode zy_readInput_14_103.2.1 116 = .ok ((.aload_n 0), 1)) ∧ (decode zy_readInput_14_103.2.1 117 = .ok ((.getfield 564), 3)) ∧ (decode zy_readInput_14_103.2.1 120 = .ok ((.lastore), 1)) ∧ (decode zy_readInput_14_103.2.1 121 = .ok ((.aload_n 0), 1)) ∧ (decode zy_readInput_14_103.2.1 122 = .ok ((.getfield 187), 3)) ∧ (decode zy_readInput_14_103.2.1 125 = .ok ((Instr.ifCond .ne) 7, 3)) := by decide +kernel
theorem zd_14_103_108 : zz_D zy_readInput_14_103 108 (.invokevirtual 579) 3 111 := ⟨zg_14_103_108.1, rfl⟩
theorem zd_14_103_111 : zz_D zy_readInput_14_103 111 (.aload_n 0) 1 112 := ⟨zg_14_103_108.2.1, rfl⟩
theorem zd_14_103_112 : zz_D zy_readInput_14_103 112 (.getfield 133) 3 115 := ⟨zg_14_103_108.2.2.1, rfl⟩
theorem zd_14_103_115 : zz_D zy_readInput_14_103 115 (.iconst 0) 1 116 := ⟨zg_14_103_108.2.2.2.1, rfl⟩
theorem zd_14_103_116 : zz_D zy_readInput_14_103 116 (.aload_n 0) 1 117 := ⟨zg_14_103_108.2.2.2.2.1, rfl⟩
theorem zd_14_103_117 : zz_D zy_readInput_14_103 117 (.getfield 564) 3 120 := ⟨zg_14_103_108.2.2.2.2.2.1, rfl⟩
theorem zd_14_103_120 : zz_D zy_readInput_14_103 120 (.lastore) 1 121 := ⟨zg_14_103_108.2.2.2.2.2.2.1, rfl⟩
theorem zd_14_103_121 : zz_D zy_readInput_14_103 121 (.aload_n 0) 1 122 := ⟨zg_14_103_108.2.2.2.2.2.2.2.1, rfl⟩
theorem zd_14_103_122 : zz_D zy_readInput_14_103 122 (.getfield 187) 3 125 := ⟨zg_14_103_108.2.2.2.2.2.2.2.2.1, rfl⟩
theorem zd_14_103_125 : zz_B zy_readInput_14_103 125 (Instr.ifCond .ne) 132 128 := ⟨7, zg_14_103_108.2.2.2.2.2.2.2.2.2, rfl, rfl⟩
theorem zg_14_103_132 : (decode zy_readInput_14_103.2.1 132 = .ok ((.iconst 0), 1)) ∧ (decode zy_readInput_14_103.2.1 133 = .ok ((.ireturn), 1)) ∧ (decode zy_readInput_14_103.2.1 128 = .ok ((.iconst 1), 1)) ∧ (decode zy_readInput_14_103.2.1 129 = .ok (Instr.goto 4, 3)) := by decide +kernel
theorem zd_14_103_132 : zz_D zy_readInput_14_103 132 (.iconst 0) 1 133 := ⟨zg_14_103_132.1, rfl⟩
theorem zd_14_103_133 : zz_D zy_readInput_14_103 133 (.ireturn) 1 134 := ⟨zg_14_103_132.2.1, rfl⟩
theorem zd_14_103_128 : zz_D zy_readInput_14_103 128 (.iconst 1) 1 129 := ⟨zg_14_103_132.2.2.1, rfl⟩
theorem zd_14_103_129 : zz_B zy_readInput_14_103 129 Instr.goto 133 132 := ⟨4, zg_14_103_132.2.2.2, rfl, rfl⟩
-- TensorForgeModel readInput ()Z
abbrev zr_readInput_14_103 : Room := { frames := 6, cells := 0, slots := 0, locals := 89 }
def zp_readInput_14_103  (S0 : zz_S) : Int → zz_S → Prop := fun r S => zz_G S ∧ zz_fr [(1079, 0), (1079, 30), (1079, 31), (1079, 32), (1079, 36), (1079, 61), (1079, 64), (1079, 65), (1102, 0), (1103, 0), (1104, 0), (1105, 0), (1105, 1)] [1117, 1118] (fun _ _ => False) S0 S ∧ (0 ≤ r ∧ r ≤ 1) ∧ (r = 1 → S 1079 36 = 1) ∧ (zz_Hr S)
theorem zc_readInput_14_103 {g : mm_G} {l : Launch}  (S0 : zz_S) (n : Nat) (hn : zz_end ≤ n) (G_S0 : zz_G S0) (R_S0 : zz_Hr S0) (hN : ∀ w : Nat, 1 ≤ w → w ≤ 20 → S0 1100 w = zt_cd (zt_nw.getD w [])) : mm_Met g l zy_readInput_14_103 zr_readInput_14_103 [.ref 1079] (zz_M S0 n) n (zz_QI n (zp_readInput_14_103  S0)) := by
  refine zz_enter (by decide) (Nat.le_of_ble_eq_true rfl) (zz_less (ls1 := [some (.ref 1079)]) ⟨rfl, trivial⟩ ?_)
  have F_S0 : zz_fr [(1079, 0), (1079, 30), (1079, 31), (1079, 32), (1079, 36), (1079, 61), (1079, 64), (1079, 65), (1102, 0), (1103, 0), (1104, 0), (1105, 0), (1105, 1)] [1117, 1118] (fun _ _ => False) S0 S0 := zz_fr.refl
  refine zz_aload_n (x := 1079) rfl zd_14_103_0 ?_
  refine zz_ldc2 (z := 21676489) zq_Md_532 (by decide) zd_14_103_1 ?_
  refine zz_callVI [zl 21676489] zd_14_103_4 zk_Md_529 zT_1079 (zz_ltn hn rfl) rfl rfl ⟨Nat.le_of_ble_eq_true rfl, Nat.le_of_ble_eq_true rfl⟩ ⟨rfl, rfl⟩ (Nat.zero_le _) (Nat.zero_le _) (zc_isWord_14_94 21676489 S0 n hn G_S0 (by omega)) (fun v2 S1 hP => ?_)
  obtain ⟨rfl, o3⟩ := hP
  rcases (by omega : v2 = 0 ∨ v2 = 1) with rfl | rfl
  · refine zz_if_ne (by omega) zd_14_103_7 (fun c4 => ?_) (fun c4 => ?_)
    · exfalso; omega
    · refine zz_iconst zd_14_103_10 ?_
      have g5 := zz_G.r G_S0 1079 36 0 11 rfl rfl
      exact zz_zret zd_14_103_11 rfl (by omega) (Nat.zero_le _) (Nat.zero_le _) ⟨_, _, rfl, G_S0, F_S0, by omega, by omega, R_S0⟩
  · refine zz_if_ne (by omega) zd_14_103_7 (fun c6 => ?_) (fun c6 => ?_)
    · refine zz_aload_n (x := 1079) rfl zd_14_103_12 ?_
      have g7 := zz_G.r G_S0 1079 32 0 1500 rfl rfl
      refine zz_callVV [] zd_14_103_13 zk_Md_526 zT_1079 (zz_ltn hn rfl) rfl rfl ⟨Nat.le_of_ble_eq_true rfl, Nat.le_of_ble_eq_true rfl⟩ ⟨rfl, rfl⟩ (Nat.zero_le _) (Nat.zero_le _) (zc_advanceNet_14_93  S0 n hn G_S0 hN) (fun S8 hP => ?_)
      obtain ⟨G_S8, fS8, o10⟩ := hP
      have F_S8 := zz_fr.trans F_S0 fS8 rfl zz_nv
      have R_S8 : zz_Hr S8 := zz_Hr.fr fS8 rfl rfl (fun b j h => h.elim) R_S0
      refine zz_aload_n (x := 1079) rfl zd_14_103_16 ?_
      refine zz_iconst zd_14_103_17 ?_
      have g11 := zz_G.r G_S8 1079 30 0 102 rfl rfl
      have g12 := zz_G.r G_S8 1079 32 0 1500 rfl rfl
      refine zz_callVI [zi 0] zd_14_103_18 zk_Md_550 zT_1079 (zz_ltn hn rfl) rfl rfl ⟨Nat.le_of_ble_eq_true rfl, Nat.le_of_ble_eq_true rfl⟩ ⟨rfl, rfl⟩ (Nat.zero_le _) (Nat.zero_le _) (zc_takeNet_14_95 0 S8 n hn G_S8 (by omega) (fun u h1 h2 => ((zz_rc fS8 (zz_nc1 rfl) rfl (fun h => h) rfl)).trans (hN u h1 h2))) (fun v14 S13 hP => ?_)
      obtain ⟨G_S13, fS13, o15, o16⟩ := hP
      have F_S13 := zz_fr.trans F_S8 fS13 rfl zz_nv
      have R_S13 : zz_Hr S13 := zz_Hr.fr fS13 rfl rfl (fun b j h => h.elim) R_S8
      rcases (by omega : v14 = 0 ∨ v14 = 1) with rfl | rfl
      · refine zz_if_eq (by omega) zd_14_103_21 (fun c17 => ?_) (fun c17 => ?_)
        · refine zz_iconst zd_14_103_58 ?_
          refine zz_istore_n [some (.ref 1079), some (zi 0)] zd_14_103_59 (by decide) rfl ?_
          refine zz_aload_n (x := 1079) rfl zd_14_103_60 ?_
          refine zz_getr (kd := 0) (z := 1118) zd_14_103_61 zf_Md_136 zT_1079 rfl (zz_ltn hn rfl) (zz_G.eq G_S13 1079 63 1118 rfl rfl) (by decide) 1118 rfl ?_
          refine zz_iconst zd_14_103_64 ?_
          have g18 := zz_G.r G_S13 1118 0 0 9999 rfl rfl
          refine zz_iald (z := S13 1118 0) zd_14_103_65 zT_1118 rfl (zz_ltn hn rfl) (by decide) (by decide) rfl ?_
          refine zz_istore_n [some (.ref 1079), some (zi 0), some (zi (S13 1118 0))] zd_14_103_66 (by decide) rfl ?_
          refine zz_aload_n (x := 1079) rfl zd_14_103_67 ?_
          refine zz_getr (kd := 0) (z := 1118) zd_14_103_68 zf_Md_136 zT_1079 rfl (zz_ltn hn rfl) (zz_G.eq G_S13 1079 63 1118 rfl rfl) (by decide) 1118 rfl ?_
          refine zz_iconst zd_14_103_71 ?_
          have g19 := zz_G.r G_S13 1118 1 0 9999 rfl rfl
          refine zz_iald (z := S13 1118 1) zd_14_103_72 zT_1118 rfl (zz_ltn hn rfl) (by decide) (by decide) rfl ?_
          refine zz_istore_n [some (.ref 1079), some (zi 0), some (zi (S13 1118 0)), some (zi (S13 1118 1))] zd_14_103_73 (by decide) rfl ?_
          refine zz_aload_n (x := 1079) rfl zd_14_103_74 ?_
          refine zz_getr (kd := 0) (z := 1118) zd_14_103_75 zf_Md_136 zT_1079 rfl (zz_ltn hn rfl) (zz_G.eq G_S13 1079 63 1118 rfl rfl) (by decide) 1118 rfl ?_
          refine zz_iconst zd_14_103_78 ?_
          have g20 := zz_G.r G_S13 1118 2 0 9999 rfl rfl
          refine zz_iald (z := S13 1118 2) zd_14_103_79 zT_1118 rfl (zz_ltn hn rfl) (by decide) (by decide) rfl ?_
          refine zz_istore [some (.ref 1079), some (zi 0), some (zi (S13 1118 0)), some (zi (S13 1118 1)), some (zi (S13 1118 2))] zd_14_103_80 (by decide) rfl ?_
          refine zz_aload_n (x := 1079) rfl zd_14_103_82 ?_
          refine zz_iconst zd_14_103_83 ?_
          refine zz_puti zd_14_103_84 zf_Md_85 zT_1079 rfl (zz_ltn hn rfl) (fun S21 qS21 => ?_)
          have G_S21 := zz_G.put G_S13 qS21 0 11 rfl (by omega)
          have F_S21 := zz_fr.puts F_S13 qS21 rfl
          have R_S21 : zz_Hr S21 := zz_Hr.none (by rw [zz_rs qS21]; decide)
          refine zz_iload_n (x := 0) rfl zd_14_103_87 ?_
          refine zz_if_eq (by omega) zd_14_103_88 (fun c22 => ?_) (fun c22 => ?_)
          · refine zz_iconst zd_14_103_101 ?_
            have e23 : S21 1079 36 = 0 := (zz_rs qS21)
            exact zz_zret zd_14_103_102 rfl (by omega) (Nat.zero_le _) (Nat.zero_le _) ⟨_, _, rfl, G_S21, F_S21, by omega, by omega, R_S21⟩
          · exfalso; omega
        · exfalso; omega
      · refine zz_if_eq (by omega) zd_14_103_21 (fun c24 => ?_) (fun c24 => ?_)
        · exfalso; omega
        · refine zz_aload_n (x := 1079) rfl zd_14_103_24 ?_
          have g25 := zz_G.r G_S13 1079 30 0 102 rfl rfl
          have g26 := zz_G.r G_S13 1079 32 0 1500 rfl rfl
          refine zz_callVI [] zd_14_103_25 zk_Md_553 zT_1079 (zz_ltn hn rfl) rfl rfl ⟨Nat.le_of_ble_eq_true rfl, Nat.le_of_ble_eq_true rfl⟩ ⟨rfl, rfl⟩ (Nat.zero_le _) (Nat.zero_le _) (zc_takeX_14_96  S13 n hn G_S13 (fun u h1 h2 => ((zz_rc fS13 (zz_nc1 rfl) rfl (fun h => h) (zz_rc fS8 (zz_nc1 rfl) rfl (fun h => h) rfl))).trans (hN u h1 h2))) (fun v28 S27 hP => ?_)
          obtain ⟨G_S27, fS27, o29, o30⟩ := hP
          have F_S27 := zz_fr.trans F_S13 fS27 rfl zz_nv
          have R_S27 : zz_Hr S27 := zz_Hr.fr fS27 rfl rfl (fun b j h => h.elim) R_S13
          rcases (by omega : v28 = 0 ∨ v28 = 1) with rfl | rfl
          · refine zz_if_eq (by omega) zd_14_103_28 (fun c31 => ?_) (fun c31 => ?_)
            · refine zz_iconst zd_14_103_58 ?_
              refine zz_istore_n [some (.ref 1079), some (zi 0)] zd_14_103_59 (by decide) rfl ?_
              refine zz_aload_n (x := 1079) rfl zd_14_103_60 ?_
              refine zz_getr (kd := 0) (z := 1118) zd_14_103_61 zf_Md_136 zT_1079 rfl (zz_ltn hn rfl) (zz_G.eq G_S27 1079 63 1118 rfl rfl) (by decide) 1118 rfl ?_
              refine zz_iconst zd_14_103_64 ?_
              have g32 := zz_G.r G_S13 1118 0 0 9999 rfl rfl
              refine zz_iald (z := S13 1118 0) zd_14_103_65 zT_1118 rfl (zz_ltn hn rfl) (by decide) (by decide) (zz_rc fS27 (zz_nc1 rfl) rfl (fun h => h) rfl) ?_
              refine zz_istore_n [some (.ref 1079), some (zi 0), some (zi (S13 1118 0))] zd_14_103_66 (by decide) rfl ?_
              refine zz_aload_n (x := 1079) rfl zd_14_103_67 ?_
              refine zz_getr (kd := 0) (z := 1118) zd_14_103_68 zf_Md_136 zT_1079 rfl (zz_ltn hn rfl) (zz_G.eq G_S27 1079 63 1118 rfl rfl) (by decide) 1118 rfl ?_
              refine zz_iconst zd_14_103_71 ?_
              have g33 := zz_G.r G_S13 1118 1 0 9999 rfl rfl
              refine zz_iald (z := S13 1118 1) zd_14_103_72 zT_1118 rfl (zz_ltn hn rfl) (by decide) (by decide) (zz_rc fS27 (zz_nc1 rfl) rfl (fun h => h) rfl) ?_
              refine zz_istore_n [some (.ref 1079), some (zi 0), some (zi (S13 1118 0)), some (zi (S13 1118 1))] zd_14_103_73 (by decide) rfl ?_
              refine zz_aload_n (x := 1079) rfl zd_14_103_74 ?_
              refine zz_getr (kd := 0) (z := 1118) zd_14_103_75 zf_Md_136 zT_1079 rfl (zz_ltn hn rfl) (zz_G.eq G_S27 1079 63 1118 rfl rfl) (by decide) 1118 rfl ?_
              refine zz_iconst zd_14_103_78 ?_
              have g34 := zz_G.r G_S13 1118 2 0 9999 rfl rfl
              refine zz_iald (z := S13 1118 2) zd_14_103_79 zT_1118 rfl (zz_ltn hn rfl) (by decide) (by decide) (zz_rc fS27 (zz_nc1 rfl) rfl (fun h => h) rfl) ?_
              refine zz_istore [some (.ref 1079), some (zi 0), some (zi (S13 1118 0)), some (zi (S13 1118 1)), some (zi (S13 1118 2))] zd_14_103_80 (by decide) rfl ?_
              refine zz_aload_n (x := 1079) rfl zd_14_103_82 ?_
              refine zz_iconst zd_14_103_83 ?_
              refine zz_puti zd_14_103_84 zf_Md_85 zT_1079 rfl (zz_ltn hn rfl) (fun S35 qS35 => ?_)
              have G_S35 := zz_G.put G_S27 qS35 0 11 rfl (by omega)
              have F_S35 := zz_fr.puts F_S27 qS35 rfl
              have R_S35 : zz_Hr S35 := zz_Hr.none (by rw [zz_rs qS35]; decide)
              refine zz_iload_n (x := 0) rfl zd_14_103_87 ?_
              refine zz_if_eq (by omega) zd_14_103_88 (fun c36 => ?_) (fun c36 => ?_)
              · refine zz_iconst zd_14_103_101 ?_
                have e37 : S35 1079 36 = 0 := (zz_rs qS35)
                exact zz_zret zd_14_103_102 rfl (by omega) (Nat.zero_le _) (Nat.zero_le _) ⟨_, _, rfl, G_S35, F_S35, by omega, by omega, R_S35⟩
              · exfalso; omega
            · exfalso; omega
          · refine zz_if_eq (by omega) zd_14_103_28 (fun c38 => ?_) (fun c38 => ?_)
            · exfalso; omega
            · refine zz_aload_n (x := 1079) rfl zd_14_103_31 ?_
              refine zz_iconst zd_14_103_32 ?_
              have g39 := zz_G.r G_S27 1079 30 0 102 rfl rfl
              have g40 := zz_G.r G_S27 1079 32 0 1500 rfl rfl
              refine zz_callVI [zi 1] zd_14_103_33 zk_Md_550 zT_1079 (zz_ltn hn rfl) rfl rfl ⟨Nat.le_of_ble_eq_true rfl, Nat.le_of_ble_eq_true rfl⟩ ⟨rfl, rfl⟩ (Nat.zero_le _) (Nat.zero_le _) (zc_takeNet_14_95 1 S27 n hn G_S27 (by omega) (fun u h1 h2 => ((zz_rc fS27 (zz_nc1 rfl) rfl (fun h => h) (zz_rc fS13 (zz_nc1 rfl) rfl (fun h => h) (zz_rc fS8 (zz_nc1 rfl) rfl (fun h => h) rfl)))).trans (hN u h1 h2))) (fun v42 S41 hP => ?_)
              obtain ⟨G_S41, fS41, o43, o44⟩ := hP
              have F_S41 := zz_fr.trans F_S27 fS41 rfl zz_nv
              have R_S41 : zz_Hr S41 := zz_Hr.fr fS41 rfl rfl (fun b j h => h.elim) R_S27
              rcases (by omega : v42 = 0 ∨ v42 = 1) with rfl | rfl
              · refine zz_if_eq (by omega) zd_14_103_36 (fun c45 => ?_) (fun c45 => ?_)
                · refine zz_iconst zd_14_103_58 ?_
                  refine zz_istore_n [some (.ref 1079), some (zi 0)] zd_14_103_59 (by decide) rfl ?_
                  refine zz_aload_n (x := 1079) rfl zd_14_103_60 ?_
                  refine zz_getr (kd := 0) (z := 1118) zd_14_103_61 zf_Md_136 zT_1079 rfl (zz_ltn hn rfl) (zz_G.eq G_S41 1079 63 1118 rfl rfl) (by decide) 1118 rfl ?_
                  refine zz_iconst zd_14_103_64 ?_
                  have g46 := zz_G.r G_S41 1118 0 0 9999 rfl rfl
                  refine zz_iald (z := S41 1118 0) zd_14_103_65 zT_1118 rfl (zz_ltn hn rfl) (by decide) (by decide) rfl ?_
                  refine zz_istore_n [some (.ref 1079), some (zi 0), some (zi (S41 1118 0))] zd_14_103_66 (by decide) rfl ?_
                  refine zz_aload_n (x := 1079) rfl zd_14_103_67 ?_
                  refine zz_getr (kd := 0) (z := 1118) zd_14_103_68 zf_Md_136 zT_1079 rfl (zz_ltn hn rfl) (zz_G.eq G_S41 1079 63 1118 rfl rfl) (by decide) 1118 rfl ?_
                  refine zz_iconst zd_14_103_71 ?_
                  have g47 := zz_G.r G_S41 1118 1 0 9999 rfl rfl
                  refine zz_iald (z := S41 1118 1) zd_14_103_72 zT_1118 rfl (zz_ltn hn rfl) (by decide) (by decide) rfl ?_
                  refine zz_istore_n [some (.ref 1079), some (zi 0), some (zi (S41 1118 0)), some (zi (S41 1118 1))] zd_14_103_73 (by decide) rfl ?_
                  refine zz_aload_n (x := 1079) rfl zd_14_103_74 ?_
                  refine zz_getr (kd := 0) (z := 1118) zd_14_103_75 zf_Md_136 zT_1079 rfl (zz_ltn hn rfl) (zz_G.eq G_S41 1079 63 1118 rfl rfl) (by decide) 1118 rfl ?_
                  refine zz_iconst zd_14_103_78 ?_
                  have g48 := zz_G.r G_S41 1118 2 0 9999 rfl rfl
                  refine zz_iald (z := S41 1118 2) zd_14_103_79 zT_1118 rfl (zz_ltn hn rfl) (by decide) (by decide) rfl ?_
                  refine zz_istore [some (.ref 1079), some (zi 0), some (zi (S41 1118 0)), some (zi (S41 1118 1)), some (zi (S41 1118 2))] zd_14_103_80 (by decide) rfl ?_
                  refine zz_aload_n (x := 1079) rfl zd_14_103_82 ?_
                  refine zz_iconst zd_14_103_83 ?_
                  refine zz_puti zd_14_103_84 zf_Md_85 zT_1079 rfl (zz_ltn hn rfl) (fun S49 qS49 => ?_)
                  have G_S49 := zz_G.put G_S41 qS49 0 11 rfl (by omega)
                  have F_S49 := zz_fr.puts F_S41 qS49 rfl
                  have R_S49 : zz_Hr S49 := zz_Hr.none (by rw [zz_rs qS49]; decide)
                  refine zz_iload_n (x := 0) rfl zd_14_103_87 ?_
                  refine zz_if_eq (by omega) zd_14_103_88 (fun c50 => ?_) (fun c50 => ?_)
                  · refine zz_iconst zd_14_103_101 ?_
                    have e51 : S49 1079 36 = 0 := (zz_rs qS49)
                    exact zz_zret zd_14_103_102 rfl (by omega) (Nat.zero_le _) (Nat.zero_le _) ⟨_, _, rfl, G_S49, F_S49, by omega, by omega, R_S49⟩
                  · exfalso; omega
                · exfalso; omega
              · refine zz_if_eq (by omega) zd_14_103_36 (fun c52 => ?_) (fun c52 => ?_)
                · exfalso; omega
                · refine zz_aload_n (x := 1079) rfl zd_14_103_39 ?_
                  have g53 := zz_G.r G_S41 1079 30 0 102 rfl rfl
                  have g54 := zz_G.r G_S41 1079 32 0 1500 rfl rfl
                  refine zz_callVI [] zd_14_103_40 zk_Md_553 zT_1079 (zz_ltn hn rfl) rfl rfl ⟨Nat.le_of_ble_eq_true rfl, Nat.le_of_ble_eq_true rfl⟩ ⟨rfl, rfl⟩ (Nat.zero_le _) (Nat.zero_le _) (zc_takeX_14_96  S41 n hn G_S41 (fun u h1 h2 => ((zz_rc fS41 (zz_nc1 rfl) rfl (fun h => h) (zz_rc fS27 (zz_nc1 rfl) rfl (fun h => h) (zz_rc fS13 (zz_nc1 rfl) rfl (fun h => h) (zz_rc fS8 (zz_nc1 rfl) rfl (fun h => h) rfl))))).trans (hN u h1 h2))) (fun v56 S55 hP => ?_)
                  obtain ⟨G_S55, fS55, o57, o58⟩ := hP
                  have F_S55 := zz_fr.trans F_S41 fS55 rfl zz_nv
                  have R_S55 : zz_Hr S55 := zz_Hr.fr fS55 rfl rfl (fun b j h => h.elim) R_S41
                  rcases (by omega : v56 = 0 ∨ v56 = 1) with rfl | rfl
                  · refine zz_if_eq (by omega) zd_14_103_43 (fun c59 => ?_) (fun c59 => ?_)
                    · refine zz_iconst zd_14_103_58 ?_
                      refine zz_istore_n [some (.ref 1079), some (zi 0)] zd_14_103_59 (by decide) rfl ?_
                      refine zz_aload_n (x := 1079) rfl zd_14_103_60 ?_
                      refine zz_getr (kd := 0) (z := 1118) zd_14_103_61 zf_Md_136 zT_1079 rfl (zz_ltn hn rfl) (zz_G.eq G_S55 1079 63 1118 rfl rfl) (by decide) 1118 rfl ?_
                      refine zz_iconst zd_14_103_64 ?_
                      have g60 := zz_G.r G_S41 1118 0 0 9999 rfl rfl
                      refine zz_iald (z := S41 1118 0) zd_14_103_65 zT_1118 rfl (zz_ltn hn rfl) (by decide) (by decide) (zz_rc fS55 (zz_nc1 rfl) rfl (fun h => h) rfl) ?_
                      refine zz_istore_n [some (.ref 1079), some (zi 0), some (zi (S41 1118 0))] zd_14_103_66 (by decide) rfl ?_
                      refine zz_aload_n (x := 1079) rfl zd_14_103_67 ?_
                      refine zz_getr (kd := 0) (z := 1118) zd_14_103_68 zf_Md_136 zT_1079 rfl (zz_ltn hn rfl) (zz_G.eq G_S55 1079 63 1118 rfl rfl) (by decide) 1118 rfl ?_
                      refine zz_iconst zd_14_103_71 ?_
                      have g61 := zz_G.r G_S41 1118 1 0 9999 rfl rfl
                      refine zz_iald (z := S41 1118 1) zd_14_103_72 zT_1118 rfl (zz_ltn hn rfl) (by decide) (by decide) (zz_rc fS55 (zz_nc1 rfl) rfl (fun h => h) rfl) ?_
                      refine zz_istore_n [some (.ref 1079), some (zi 0), some (zi (S41 1118 0)), some (zi (S41 1118 1))] zd_14_103_73 (by decide) rfl ?_
                      refine zz_aload_n (x := 1079) rfl zd_14_103_74 ?_
                      refine zz_getr (kd := 0) (z := 1118) zd_14_103_75 zf_Md_136 zT_1079 rfl (zz_ltn hn rfl) (zz_G.eq G_S55 1079 63 1118 rfl rfl) (by decide) 1118 rfl ?_
                      refine zz_iconst zd_14_103_78 ?_
                      have g62 := zz_G.r G_S41 1118 2 0 9999 rfl rfl
                      refine zz_iald (z := S41 1118 2) zd_14_103_79 zT_1118 rfl (zz_ltn hn rfl) (by decide) (by decide) (zz_rc fS55 (zz_nc1 rfl) rfl (fun h => h) rfl) ?_
                      refine zz_istore [some (.ref 1079), some (zi 0), some (zi (S41 1118 0)), some (zi (S41 1118 1)), some (zi (S41 1118 2))] zd_14_103_80 (by decide) rfl ?_
                      refine zz_aload_n (x := 1079) rfl zd_14_103_82 ?_
                      refine zz_iconst zd_14_103_83 ?_
                      refine zz_puti zd_14_103_84 zf_Md_85 zT_1079 rfl (zz_ltn hn rfl) (fun S63 qS63 => ?_)
                      have G_S63 := zz_G.put G_S55 qS63 0 11 rfl (by omega)
                      have F_S63 := zz_fr.puts F_S55 qS63 rfl
                      have R_S63 : zz_Hr S63 := zz_Hr.none (by rw [zz_rs qS63]; decide)
                      refine zz_iload_n (x := 0) rfl zd_14_103_87 ?_
                      refine zz_if_eq (by omega) zd_14_103_88 (fun c64 => ?_) (fun c64 => ?_)
                      · refine zz_iconst zd_14_103_101 ?_
                        have e65 : S63 1079 36 = 0 := (zz_rs qS63)
                        exact zz_zret zd_14_103_102 rfl (by omega) (Nat.zero_le _) (Nat.zero_le _) ⟨_, _, rfl, G_S63, F_S63, by omega, by omega, R_S63⟩
                      · exfalso; omega
                    · exfalso; omega
                  · refine zz_if_eq (by omega) zd_14_103_43 (fun c66 => ?_) (fun c66 => ?_)
                    · exfalso; omega
                    · refine zz_aload_n (x := 1079) rfl zd_14_103_46 ?_
                      refine zz_iconst zd_14_103_47 ?_
                      have g67 := zz_G.r G_S55 1079 30 0 102 rfl rfl
                      have g68 := zz_G.r G_S55 1079 32 0 1500 rfl rfl
                      refine zz_callVI [zi 2] zd_14_103_48 zk_Md_550 zT_1079 (zz_ltn hn rfl) rfl rfl ⟨Nat.le_of_ble_eq_true rfl, Nat.le_of_ble_eq_true rfl⟩ ⟨rfl, rfl⟩ (Nat.zero_le _) (Nat.zero_le _) (zc_takeNet_14_95 2 S55 n hn G_S55 (by omega) (fun u h1 h2 => ((zz_rc fS55 (zz_nc1 rfl) rfl (fun h => h) (zz_rc fS41 (zz_nc1 rfl) rfl (fun h => h) (zz_rc fS27 (zz_nc1 rfl) rfl (fun h => h) (zz_rc fS13 (zz_nc1 rfl) rfl (fun h => h) (zz_rc fS8 (zz_nc1 rfl) rfl (fun h => h) rfl)))))).trans (hN u h1 h2))) (fun v70 S69 hP => ?_)
                      obtain ⟨G_S69, fS69, o71, o72⟩ := hP
                      have F_S69 := zz_fr.trans F_S55 fS69 rfl zz_nv
                      have R_S69 : zz_Hr S69 := zz_Hr.fr fS69 rfl rfl (fun b j h => h.elim) R_S55
                      rcases (by omega : v70 = 0 ∨ v70 = 1) with rfl | rfl
                      · refine zz_if_eq (by omega) zd_14_103_51 (fun c73 => ?_) (fun c73 => ?_)
                        · refine zz_iconst zd_14_103_58 ?_
                          refine zz_istore_n [some (.ref 1079), some (zi 0)] zd_14_103_59 (by decide) rfl ?_
                          refine zz_aload_n (x := 1079) rfl zd_14_103_60 ?_
                          refine zz_getr (kd := 0) (z := 1118) zd_14_103_61 zf_Md_136 zT_1079 rfl (zz_ltn hn rfl) (zz_G.eq G_S69 1079 63 1118 rfl rfl) (by decide) 1118 rfl ?_
                          refine zz_iconst zd_14_103_64 ?_
                          have g74 := zz_G.r G_S69 1118 0 0 9999 rfl rfl
                          refine zz_iald (z := S69 1118 0) zd_14_103_65 zT_1118 rfl (zz_ltn hn rfl) (by decide) (by decide) rfl ?_
                          refine zz_istore_n [some (.ref 1079), some (zi 0), some (zi (S69 1118 0))] zd_14_103_66 (by decide) rfl ?_
                          refine zz_aload_n (x := 1079) rfl zd_14_103_67 ?_
                          refine zz_getr (kd := 0) (z := 1118) zd_14_103_68 zf_Md_136 zT_1079 rfl (zz_ltn hn rfl) (zz_G.eq G_S69 1079 63 1118 rfl rfl) (by decide) 1118 rfl ?_
                          refine zz_iconst zd_14_103_71 ?_
                          have g75 := zz_G.r G_S69 1118 1 0 9999 rfl rfl
                          refine zz_iald (z := S69 1118 1) zd_14_103_72 zT_1118 rfl (zz_ltn hn rfl) (by decide) (by decide) rfl ?_
                          refine zz_istore_n [some (.ref 1079), some (zi 0), some (zi (S69 1118 0)), some (zi (S69 1118 1))] zd_14_103_73 (by decide) rfl ?_
                          refine zz_aload_n (x := 1079) rfl zd_14_103_74 ?_
                          refine zz_getr (kd := 0) (z := 1118) zd_14_103_75 zf_Md_136 zT_1079 rfl (zz_ltn hn rfl) (zz_G.eq G_S69 1079 63 1118 rfl rfl) (by decide) 1118 rfl ?_
                          refine zz_iconst zd_14_103_78 ?_
                          have g76 := zz_G.r G_S69 1118 2 0 9999 rfl rfl
                          refine zz_iald (z := S69 1118 2) zd_14_103_79 zT_1118 rfl (zz_ltn hn rfl) (by decide) (by decide) rfl ?_
                          refine zz_istore [some (.ref 1079), some (zi 0), some (zi (S69 1118 0)), some (zi (S69 1118 1)), some (zi (S69 1118 2))] zd_14_103_80 (by decide) rfl ?_
                          refine zz_aload_n (x := 1079) rfl zd_14_103_82 ?_
                          refine zz_iconst zd_14_103_83 ?_
                          refine zz_puti zd_14_103_84 zf_Md_85 zT_1079 rfl (zz_ltn hn rfl) (fun S77 qS77 => ?_)
                          have G_S77 := zz_G.put G_S69 qS77 0 11 rfl (by omega)
                          have F_S77 := zz_fr.puts F_S69 qS77 rfl
                          have R_S77 : zz_Hr S77 := zz_Hr.none (by rw [zz_rs qS77]; decide)
                          refine zz_iload_n (x := 0) rfl zd_14_103_87 ?_
                          refine zz_if_eq (by omega) zd_14_103_88 (fun c78 => ?_) (fun c78 => ?_)
                          · refine zz_iconst zd_14_103_101 ?_
                            have e79 : S77 1079 36 = 0 := (zz_rs qS77)
                            exact zz_zret zd_14_103_102 rfl (by omega) (Nat.zero_le _) (Nat.zero_le _) ⟨_, _, rfl, G_S77, F_S77, by omega, by omega, R_S77⟩
                          · exfalso; omega
                        · exfalso; omega
                      · refine zz_if_eq (by omega) zd_14_103_51 (fun c80 => ?_) (fun c80 => ?_)
                        · exfalso; omega
                        · refine zz_iconst zd_14_103_54 ?_
                          refine zz_goto zd_14_103_55 ?_
                          refine zz_istore_n [some (.ref 1079), some (zi 1)] zd_14_103_59 (by decide) rfl ?_
                          refine zz_aload_n (x := 1079) rfl zd_14_103_60 ?_
                          refine zz_getr (kd := 0) (z := 1118) zd_14_103_61 zf_Md_136 zT_1079 rfl (zz_ltn hn rfl) (zz_G.eq G_S69 1079 63 1118 rfl rfl) (by decide) 1118 rfl ?_
                          refine zz_iconst zd_14_103_64 ?_
                          have g81 := zz_G.r G_S69 1118 0 0 9999 rfl rfl
                          refine zz_iald (z := S69 1118 0) zd_14_103_65 zT_1118 rfl (zz_ltn hn rfl) (by decide) (by decide) rfl ?_
                          refine zz_istore_n [some (.ref 1079), some (zi 1), some (zi (S69 1118 0))] zd_14_103_66 (by decide) rfl ?_
                          refine zz_aload_n (x := 1079) rfl zd_14_103_67 ?_
                          refine zz_getr (kd := 0) (z := 1118) zd_14_103_68 zf_Md_136 zT_1079 rfl (zz_ltn hn rfl) (zz_G.eq G_S69 1079 63 1118 rfl rfl) (by decide) 1118 rfl ?_
                          refine zz_iconst zd_14_103_71 ?_
                          have g82 := zz_G.r G_S69 1118 1 0 9999 rfl rfl
                          refine zz_iald (z := S69 1118 1) zd_14_103_72 zT_1118 rfl (zz_ltn hn rfl) (by decide) (by decide) rfl ?_
                          refine zz_istore_n [some (.ref 1079), some (zi 1), some (zi (S69 1118 0)), some (zi (S69 1118 1))] zd_14_103_73 (by decide) rfl ?_
                          refine zz_aload_n (x := 1079) rfl zd_14_103_74 ?_
                          refine zz_getr (kd := 0) (z := 1118) zd_14_103_75 zf_Md_136 zT_1079 rfl (zz_ltn hn rfl) (zz_G.eq G_S69 1079 63 1118 rfl rfl) (by decide) 1118 rfl ?_
                          refine zz_iconst zd_14_103_78 ?_
                          have g83 := zz_G.r G_S69 1118 2 0 9999 rfl rfl
                          refine zz_iald (z := S69 1118 2) zd_14_103_79 zT_1118 rfl (zz_ltn hn rfl) (by decide) (by decide) rfl ?_
                          refine zz_istore [some (.ref 1079), some (zi 1), some (zi (S69 1118 0)), some (zi (S69 1118 1)), some (zi (S69 1118 2))] zd_14_103_80 (by decide) rfl ?_
                          refine zz_aload_n (x := 1079) rfl zd_14_103_82 ?_
                          refine zz_iconst zd_14_103_83 ?_
                          refine zz_puti zd_14_103_84 zf_Md_85 zT_1079 rfl (zz_ltn hn rfl) (fun S84 qS84 => ?_)
                          have G_S84 := zz_G.put G_S69 qS84 0 11 rfl (by omega)
                          have F_S84 := zz_fr.puts F_S69 qS84 rfl
                          have R_S84 : zz_Hr S84 := zz_Hr.none (by rw [zz_rs qS84]; decide)
                          refine zz_iload_n (x := 1) rfl zd_14_103_87 ?_
                          refine zz_if_eq (by omega) zd_14_103_88 (fun c85 => ?_) (fun c85 => ?_)
                          · exfalso; omega
                          · refine zz_aload_n (x := 1079) rfl zd_14_103_91 ?_
                            refine zz_sipush (by decide) zd_14_103_92 ?_
                            refine zz_callVI [zi 128] zd_14_103_95 zk_Md_576 zT_1079 (zz_ltn hn rfl) rfl rfl ⟨Nat.le_of_ble_eq_true rfl, Nat.le_of_ble_eq_true rfl⟩ ⟨rfl, rfl⟩ (Nat.zero_le _) (Nat.zero_le _) (zc_takeParts_14_101 128 S84 n hn G_S84 (by omega) (fun u h1 h2 => ((zz_ro qS84 (fun h => absurd h.1 (by decide)) (zz_rc fS69 (zz_nc1 rfl) rfl (fun h => h) (zz_rc fS55 (zz_nc1 rfl) rfl (fun h => h) (zz_rc fS41 (zz_nc1 rfl) rfl (fun h => h) (zz_rc fS27 (zz_nc1 rfl) rfl (fun h => h) (zz_rc fS13 (zz_nc1 rfl) rfl (fun h => h) (zz_rc fS8 (zz_nc1 rfl) rfl (fun h => h) rfl)))))))).trans (hN u h1 h2))) (fun v87 S86 hP => ?_)
                            obtain ⟨G_S86, fS86, o88⟩ := hP
                            have F_S86 := zz_fr.trans F_S84 fS86 rfl zz_nv
                            have R_S86 : zz_Hr S86 := zz_Hr.fr fS86 rfl rfl (fun b j h => h.elim) R_S84
                            rcases (by omega : v87 = 0 ∨ v87 = 1) with rfl | rfl
                            · refine zz_if_ne (by omega) zd_14_103_98 (fun c89 => ?_) (fun c89 => ?_)
                              · exfalso; omega
                              · refine zz_iconst zd_14_103_101 ?_
                                have e90 : S86 1079 36 = 0 := (zz_rc fS86 rfl rfl (fun h => h) (zz_rs qS84))
                                exact zz_zret zd_14_103_102 rfl (by omega) (Nat.zero_le _) (Nat.zero_le _) ⟨_, _, rfl, G_S86, F_S86, by omega, by omega, R_S86⟩
                            · refine zz_if_ne (by omega) zd_14_103_98 (fun c91 => ?_) (fun c91 => ?_)
                              · refine zz_aload_n (x := 1079) rfl zd_14_103_103 ?_
                                refine zz_iload_n (x := S69 1118 0) rfl zd_14_103_104 ?_
                                refine zz_iload_n (x := S69 1118 1) rfl zd_14_103_105 ?_
                                refine zz_iload (x := S69 1118 2) rfl zd_14_103_106 ?_
                                have e92 : S86 1079 36 = 0 := (zz_rc fS86 rfl rfl (fun h => h) (zz_rs qS84))
                                refine zz_callVV [zi (S69 1118 0), zi (S69 1118 1), zi (S69 1118 2)] zd_14_103_108 zk_Md_579 zT_1079 (zz_ltn hn rfl) rfl rfl ⟨Nat.le_of_ble_eq_true rfl, Nat.le_of_ble_eq_true rfl⟩ ⟨rfl, rfl⟩ (Nat.zero_le _) (Nat.zero_le _) (zc_input_14_63 (S69 1118 0) (S69 1118 1) (S69 1118 2) S86 n hn G_S86 (by omega) (by omega) (by omega) R_S86) (fun S93 hP => ?_)
                                obtain ⟨G_S93, fS93, o95, o96, o97, o98⟩ := hP
                                have F_S93 := zz_fr.trans F_S86 fS93 rfl zz_nv
                                have R_S93 : zz_Hr S93 := o98
                                refine zz_aload_n (x := 1079) rfl zd_14_103_111 ?_
                                refine zz_getr (kd := 0) (z := 1117) zd_14_103_112 zf_Md_133 zT_1079 rfl (zz_ltn hn rfl) (zz_G.eq G_S93 1079 62 1117 rfl rfl) (by decide) 1117 rfl ?_
                                refine zz_iconst zd_14_103_115 ?_
                                refine zz_aload_n (x := 1079) rfl zd_14_103_116 ?_
                                have g99 := zz_G.r G_S86 1079 64 (-9223372036854775808) 9223372036854775807 rfl rfl
                                refine zz_getl (z := S86 1079 64) zd_14_103_117 zf_Md_564 zT_1079 rfl (zz_ltn hn rfl) (zz_rc fS93 rfl rfl (fun h => h) rfl) ?_
                                refine zz_last zd_14_103_120 zT_1117 rfl (zz_ltn hn rfl) (by decide) (by decide) (fun S100 qS100 => ?_)
                                have G_S100 := zz_G.put G_S93 qS100 (-9223372036854775808) 9223372036854775807 rfl (by omega)
                                have F_S100 := zz_fr.putc F_S93 qS100 rfl
                                have R_S100 : zz_Hr S100 := zz_Hr.fr (zz_fr.put1 qS100) rfl rfl (fun b j h => by omega) R_S93
                                refine zz_aload_n (x := 1079) rfl zd_14_103_121 ?_
                                have g101 := zz_G.r G_S93 1079 0 0 3 rfl rfl
                                refine zz_geti (z := S93 1079 0) zd_14_103_122 zf_Md_187 zT_1079 rfl (zz_ltn hn rfl) (zz_ro qS100 (fun h => absurd h.1 (by decide)) rfl) ?_
                                refine zz_if_ne (by omega) zd_14_103_125 (fun c102 => ?_) (fun c102 => ?_)
                                · refine zz_iconst zd_14_103_132 ?_
                                  have g103 := zz_G.r G_S93 1079 36 0 11 rfl rfl
                                  have e104 : S100 1079 36 = S93 1079 36 := (zz_ro qS100 (fun h => absurd h.1 (by decide)) rfl)
                                  exact zz_zret zd_14_103_133 rfl (by omega) (Nat.zero_le _) (Nat.zero_le _) ⟨_, _, rfl, G_S100, F_S100, by omega, by omega, R_S100⟩
                                · refine zz_iconst zd_14_103_128 ?_
                                  refine zz_goto zd_14_103_129 ?_
                                  have g105 := zz_G.r G_S93 1079 36 0 11 rfl rfl
                                  have e106 : S100 1079 36 = S93 1079 36 := (zz_ro qS100 (fun h => absurd h.1 (by decide)) rfl)
                                  exact zz_zret zd_14_103_133 rfl (by omega) (Nat.zero_le _) (Nat.zero_le _) ⟨_, _, rfl, G_S100, F_S100, by omega, by omega, R_S100⟩
                              · exfalso; omega
    · exfalso; omega
abbrev zy_readLayer_14_104 : mm_Y := (⟨"TensorForgeModel", "readLayer", "()Z"⟩, prog_14_method_104_code, 9, (some .boolean))
theorem zyw_readLayer_14_104 : mm_Yw zy_readLayer_14_104 0 := ⟨mm_tb_1 2199 (by decide +kernel) rfl, mm_tb_1 12 (by decide +kernel) rfl, ⟨by decide, by decide⟩, by decide +kernel⟩
theorem zk_Md_582 : mm_Vl "TensorForgeModel" 582 11 0 zy_takeTensor_14_102 := ⟨zyw_takeTensor_14_102, (R_Md, F_Md, 69), rfl, mm_tb_1 2207 (by decide +kernel) rfl, mm_tb_1 2209 (by decide +kernel) rfl, mm_tb_s 143 (by decide +kernel) rfl⟩
theorem zk_Md_592 : mm_Vl "TensorForgeModel" 592 11 3 zy_addition_14_70 := ⟨zyw_addition_14_70, (R_Md, F_Md, 69), rfl, mm_tb_1 2247 (by decide +kernel) rfl, mm_tb_1 2102 (by decide +kernel) rfl, mm_tb_1 2103 (by decide +kernel) rfl⟩
theorem zk_Md_589 : mm_Vl "TensorForgeModel" 589 11 3 zy_pool_14_69 := ⟨zyw_pool_14_69, (R_Md, F_Md, 69), rfl, mm_tb_1 2246 (by decide +kernel) rfl, mm_tb_1 2098 (by decide +kernel) rfl, mm_tb_1 2099 (by decide +kernel) rfl⟩
theorem zk_Md_585 : mm_Vl "TensorForgeModel" 585 11 6 zy_convolution_14_67 := ⟨zyw_convolution_14_67, (R_Md, F_Md, 69), rfl, mm_tb_1 2245 (by decide +kernel) rfl, mm_tb_1 2075 (by decide +kernel) rfl, mm_tb_1 2076 (by decide +kernel) rfl⟩
theorem zg_14_104_0 : (decode zy_readLayer_14_104.2.1 0 = .ok ((.aload_n 0), 1)) ∧ (decode zy_readLayer_14_104.2.1 1 = .ok ((.ldc2_w 534), 3)) ∧ (decode zy_readLayer_14_104.2.1 4 = .ok ((.invokevirtual 529), 3)) ∧ (decode zy_readLayer_14_104.2.1 7 = .ok ((.istore_n 1), 1)) ∧ (decode zy_readLayer_14_104.2.1 8 = .ok ((.aload_n 0), 1)) ∧ (decode zy_readLayer_14_104.2.1 9 = .ok ((.ldc2_w 536), 3)) ∧ (decode zy_readLayer_14_104.2.1 12 = .ok ((.invokevirtual 529), 3)) ∧ (decode zy_readLayer_14_104.2.1 15 = .ok ((.istore_n 2), 1)) ∧ (decode zy_readLayer_14_104.2.1 16 = .ok ((.iload_n 1), 1)) ∧ (decode zy_readLayer_14_104.2.1 17 = .ok ((Instr.ifCond .ne) 19, 3)) := by decide +kernel
theorem zd_14_104_0 : zz_D zy_readLayer_14_104 0 (.aload_n 0) 1 1 := ⟨zg_14_104_0.1, rfl⟩
theorem zd_14_104_1 : zz_D zy_readLayer_14_104 1 (.ldc2_w 534) 3 4 := ⟨zg_14_104_0.2.1, rfl⟩
theorem zd_14_104_4 : zz_D zy_readLayer_14_104 4 (.invokevirtual 529) 3 7 := ⟨zg_14_104_0.2.2.1, rfl⟩
theorem zd_14_104_7 : zz_D zy_readLayer_14_104 7 (.istore_n 1) 1 8 := ⟨zg_14_104_0.2.2.2.1, rfl⟩
theorem zd_14_104_8 : zz_D zy_readLayer_14_104 8 (.aload_n 0) 1 9 := ⟨zg_14_104_0.2.2.2.2.1, rfl⟩
theorem zd_14_104_9 : zz_D zy_readLayer_14_104 9 (.ldc2_w 536) 3 12 := ⟨zg_14_104_0.2.2.2.2.2.1, rfl⟩
theorem zd_14_104_12 : zz_D zy_readLayer_14_104 12 (.invokevirtual 529) 3 15 := ⟨zg_14_104_0.2.2.2.2.2.2.1, rfl⟩
theorem zd_14_104_15 : zz_D zy_readLayer_14_104 15 (.istore_n 2) 1 16 := ⟨zg_14_104_0.2.2.2.2.2.2.2.1, rfl⟩
theorem zd_14_104_16 : zz_D zy_readLayer_14_104 16 (.iload_n 1) 1 17 := ⟨zg_14_104_0.2.2.2.2.2.2.2.2.1, rfl⟩
theorem zd_14_104_17 : zz_B zy_readLayer_14_104 17 (Instr.ifCond .ne) 36 20 := ⟨19, zg_14_104_0.2.2.2.2.2.2.2.2.2, rfl, rfl⟩
theorem zg_14_104_20 : (decode zy_readLayer_14_104.2.1 20 = .ok ((.iload_n 2), 1)) ∧ (decode zy_readLayer_14_104.2.1 21 = .ok ((Instr.ifCond .ne) 15, 3)) ∧ (decode zy_readLayer_14_104.2.1 24 = .ok ((.aload_n 0), 1)) ∧ (decode zy_readLayer_14_104.2.1 25 = .ok ((.ldc2_w 538), 3)) ∧ (decode zy_readLayer_14_104.2.1 28 = .ok ((.invokevirtual 529), 3)) ∧ (decode zy_readLayer_14_104.2.1 31 = .ok ((Instr.ifCond .ne) 5, 3)) ∧ (decode zy_readLayer_14_104.2.1 34 = .ok ((.iconst 0), 1)) ∧ (decode zy_readLayer_14_104.2.1 35 = .ok ((.ireturn), 1)) ∧ (decode zy_readLayer_14_104.2.1 36 = .ok ((.aload_n 0), 1)) ∧ (decode zy_readLayer_14_104.2.1 37 = .ok ((.invokevirtual 526), 3)) := by decide +kernel
theorem zd_14_104_20 : zz_D zy_readLayer_14_104 20 (.iload_n 2) 1 21 := ⟨zg_14_104_20.1, rfl⟩
theorem zd_14_104_21 : zz_B zy_readLayer_14_104 21 (Instr.ifCond .ne) 36 24 := ⟨15, zg_14_104_20.2.1, rfl, rfl⟩
theorem zd_14_104_24 : zz_D zy_readLayer_14_104 24 (.aload_n 0) 1 25 := ⟨zg_14_104_20.2.2.1, rfl⟩
theorem zd_14_104_25 : zz_D zy_readLayer_14_104 25 (.ldc2_w 538) 3 28 := ⟨zg_14_104_20.2.2.2.1, rfl⟩
theorem zd_14_104_28 : zz_D zy_readLayer_14_104 28 (.invokevirtual 529) 3 31 := ⟨zg_14_104_20.2.2.2.2.1, rfl⟩
theorem zd_14_104_31 : zz_B zy_readLayer_14_104 31 (Instr.ifCond .ne) 36 34 := ⟨5, zg_14_104_20.2.2.2.2.2.1, rfl, rfl⟩
theorem zd_14_104_34 : zz_D zy_readLayer_14_104 34 (.iconst 0) 1 35 := ⟨zg_14_104_20.2.2.2.2.2.2.1, rfl⟩
theorem zd_14_104_35 : zz_D zy_readLayer_14_104 35 (.ireturn) 1 36 := ⟨zg_14_104_20.2.2.2.2.2.2.2.1, rfl⟩
theorem zd_14_104_36 : zz_D zy_readLayer_14_104 36 (.aload_n 0) 1 37 := ⟨zg_14_104_20.2.2.2.2.2.2.2.2.1, rfl⟩
theorem zd_14_104_37 : zz_D zy_readLayer_14_104 37 (.invokevirtual 526) 3 40 := ⟨zg_14_104_20.2.2.2.2.2.2.2.2.2, rfl⟩
theorem zg_14_104_40 : (decode zy_readLayer_14_104.2.1 40 = .ok ((.aload_n 0), 1)) ∧ (decode zy_readLayer_14_104.2.1 41 = .ok ((.invokevirtual 582), 3)) ∧ (decode zy_readLayer_14_104.2.1 44 = .ok ((.istore_n 3), 1)) ∧ (decode zy_readLayer_14_104.2.1 45 = .ok ((.iload_n 1), 1)) ∧ (decode zy_readLayer_14_104.2.1 46 = .ok ((Instr.ifCond .ne) 18, 3)) ∧ (decode zy_readLayer_14_104.2.1 49 = .ok ((.iload_n 2), 1)) ∧ (decode zy_readLayer_14_104.2.1 50 = .ok ((Instr.ifCond .ne) 14, 3)) ∧ (decode zy_readLayer_14_104.2.1 53 = .ok ((.iload_n 3), 1)) ∧ (decode zy_readLayer_14_104.2.1 54 = .ok ((Instr.ifCond .lt) 10, 3)) ∧ (decode zy_readLayer_14_104.2.1 64 = .ok ((.iconst 0), 1)) := by decide +kernel
theorem zd_14_104_40 : zz_D zy_readLayer_14_104 40 (.aload_n 0) 1 41 := ⟨zg_14_104_40.1, rfl⟩
theorem zd_14_104_41 : zz_D zy_readLayer_14_104 41 (.invokevirtual 582) 3 44 := ⟨zg_14_104_40.2.1, rfl⟩
theorem zd_14_104_44 : zz_D zy_readLayer_14_104 44 (.istore_n 3) 1 45 := ⟨zg_14_104_40.2.2.1, rfl⟩
theorem zd_14_104_45 : zz_D zy_readLayer_14_104 45 (.iload_n 1) 1 46 := ⟨zg_14_104_40.2.2.2.1, rfl⟩
theorem zd_14_104_46 : zz_B zy_readLayer_14_104 46 (Instr.ifCond .ne) 64 49 := ⟨18, zg_14_104_40.2.2.2.2.1, rfl, rfl⟩
theorem zd_14_104_49 : zz_D zy_readLayer_14_104 49 (.iload_n 2) 1 50 := ⟨zg_14_104_40.2.2.2.2.2.1, rfl⟩
theorem zd_14_104_50 : zz_B zy_readLayer_14_104 50 (Instr.ifCond .ne) 64 53 := ⟨14, zg_14_104_40.2.2.2.2.2.2.1, rfl, rfl⟩
theorem zd_14_104_53 : zz_D zy_readLayer_14_104 53 (.iload_n 3) 1 54 := ⟨zg_14_104_40.2.2.2.2.2.2.2.1, rfl⟩
theorem zd_14_104_54 : zz_B zy_readLayer_14_104 54 (Instr.ifCond .lt) 64 57 := ⟨10, zg_14_104_40.2.2.2.2.2.2.2.2.1, rfl, rfl⟩
theorem zd_14_104_64 : zz_D zy_readLayer_14_104 64 (.iconst 0) 1 65 := ⟨zg_14_104_40.2.2.2.2.2.2.2.2.2, rfl⟩
theorem zg_14_104_65 : (decode zy_readLayer_14_104.2.1 65 = .ok ((.istore 4), 2)) ∧ (decode zy_readLayer_14_104.2.1 67 = .ok ((.iload_n 3), 1)) ∧ (decode zy_readLayer_14_104.2.1 68 = .ok ((Instr.ifCond .lt) 38, 3)) ∧ (decode zy_readLayer_14_104.2.1 106 = .ok ((.iconst 0), 1)) ∧ (decode zy_readLayer_14_104.2.1 107 = .ok ((.ireturn), 1)) ∧ (decode zy_readLayer_14_104.2.1 57 = .ok ((.aload_n 0), 1)) ∧ (decode zy_readLayer_14_104.2.1 58 = .ok ((.invokevirtual 582), 3)) ∧ (decode zy_readLayer_14_104.2.1 61 = .ok (Instr.goto 4, 3)) ∧ (decode zy_readLayer_14_104.2.1 71 = .ok ((.iload 4), 2)) ∧ (decode zy_readLayer_14_104.2.1 73 = .ok ((Instr.ifCond .lt) 33, 3)) := by decide +kernel
theorem zd_14_104_65 : zz_D zy_readLayer_14_104 65 (.istore 4) 2 67 := ⟨zg_14_104_65.1, rfl⟩
theorem zd_14_104_67 : zz_D zy_readLayer_14_104 67 (.iload_n 3) 1 68 := ⟨zg_14_104_65.2.1, rfl⟩
theorem zd_14_104_68 : zz_B zy_readLayer_14_104 68 (Instr.ifCond .lt) 106 71 := ⟨38, zg_14_104_65.2.2.1, rfl, rfl⟩
theorem zd_14_104_106 : zz_D zy_readLayer_14_104 106 (.iconst 0) 1 107 := ⟨zg_14_104_65.2.2.2.1, rfl⟩
theorem zd_14_104_107 : zz_D zy_readLayer_14_104 107 (.ireturn) 1 108 := ⟨zg_14_104_65.2.2.2.2.1, rfl⟩
theorem zd_14_104_57 : zz_D zy_readLayer_14_104 57 (.aload_n 0) 1 58 := ⟨zg_14_104_65.2.2.2.2.2.1, rfl⟩
theorem zd_14_104_58 : zz_D zy_readLayer_14_104 58 (.invokevirtual 582) 3 61 := ⟨zg_14_104_65.2.2.2.2.2.2.1, rfl⟩
theorem zd_14_104_61 : zz_B zy_readLayer_14_104 61 Instr.goto 65 64 := ⟨4, zg_14_104_65.2.2.2.2.2.2.2.1, rfl, rfl⟩
theorem zd_14_104_71 : zz_D zy_readLayer_14_104 71 (.iload 4) 2 73 := ⟨zg_14_104_65.2.2.2.2.2.2.2.2.1, rfl⟩
theorem zd_14_104_73 : zz_B zy_readLayer_14_104 73 (Instr.ifCond .lt) 106 76 := ⟨33, zg_14_104_65.2.2.2.2.2.2.2.2.2, rfl, rfl⟩
theorem zg_14_104_76 : (decode zy_readLayer_14_104.2.1 76 = .ok ((.aload_n 0), 1)) ∧ (decode zy_readLayer_14_104.2.1 77 = .ok ((.iload_n 1), 1)) ∧ (decode zy_readLayer_14_104.2.1 78 = .ok ((Instr.ifCond .eq) 9, 3)) ∧ (decode zy_readLayer_14_104.2.1 87 = .ok ((.iload_n 2), 1)) ∧ (decode zy_readLayer_14_104.2.1 88 = .ok ((Instr.ifCond .eq) 9, 3)) ∧ (decode zy_readLayer_14_104.2.1 97 = .ok ((.sipush 224), 3)) ∧ (decode zy_readLayer_14_104.2.1 100 = .ok ((.invokevirtual 576), 3)) ∧ (decode zy_readLayer_14_104.2.1 103 = .ok ((Instr.ifCond .ne) 5, 3)) ∧ (decode zy_readLayer_14_104.2.1 108 = .ok ((.aload_n 0), 1)) ∧ (decode zy_readLayer_14_104.2.1 109 = .ok ((.getfield 136), 3)) := by decide +kernel
theorem zd_14_104_76 : zz_D zy_readLayer_14_104 76 (.aload_n 0) 1 77 := ⟨zg_14_104_76.1, rfl⟩
theorem zd_14_104_77 : zz_D zy_readLayer_14_104 77 (.iload_n 1) 1 78 := ⟨zg_14_104_76.2.1, rfl⟩
theorem zd_14_104_78 : zz_B zy_readLayer_14_104 78 (Instr.ifCond .eq) 87 81 := ⟨9, zg_14_104_76.2.2.1, rfl, rfl⟩
theorem zd_14_104_87 : zz_D zy_readLayer_14_104 87 (.iload_n 2) 1 88 := ⟨zg_14_104_76.2.2.2.1, rfl⟩
theorem zd_14_104_88 : zz_B zy_readLayer_14_104 88 (Instr.ifCond .eq) 97 91 := ⟨9, zg_14_104_76.2.2.2.2.1, rfl, rfl⟩
theorem zd_14_104_97 : zz_D zy_readLayer_14_104 97 (.sipush 224) 3 100 := ⟨zg_14_104_76.2.2.2.2.2.1, rfl⟩
theorem zd_14_104_100 : zz_D zy_readLayer_14_104 100 (.invokevirtual 576) 3 103 := ⟨zg_14_104_76.2.2.2.2.2.2.1, rfl⟩
theorem zd_14_104_103 : zz_B zy_readLayer_14_104 103 (Instr.ifCond .ne) 108 106 := ⟨5, zg_14_104_76.2.2.2.2.2.2.2.1, rfl, rfl⟩
theorem zd_14_104_108 : zz_D zy_readLayer_14_104 108 (.aload_n 0) 1 109 := ⟨zg_14_104_76.2.2.2.2.2.2.2.2.1, rfl⟩
theorem zd_14_104_109 : zz_D zy_readLayer_14_104 109 (.getfield 136) 3 112 := ⟨zg_14_104_76.2.2.2.2.2.2.2.2.2, rfl⟩
theorem zg_14_104_112 : (decode zy_readLayer_14_104.2.1 112 = .ok ((.bipush 6), 2)) ∧ (decode zy_readLayer_14_104.2.1 114 = .ok ((.iaload), 1)) ∧ (decode zy_readLayer_14_104.2.1 115 = .ok ((.bipush 16), 2)) ∧ (decode zy_readLayer_14_104.2.1 117 = .ok ((.aload_n 0), 1)) ∧ (decode zy_readLayer_14_104.2.1 118 = .ok ((.getfield 136), 3)) ∧ (decode zy_readLayer_14_104.2.1 121 = .ok ((.bipush 7), 2)) ∧ (decode zy_readLayer_14_104.2.1 123 = .ok ((.iaload), 1)) ∧ (decode zy_readLayer_14_104.2.1 124 = .ok ((.imul), 1)) ∧ (decode zy_readLayer_14_104.2.1 125 = .ok ((.iadd), 1)) ∧ (decode zy_readLayer_14_104.2.1 126 = .ok ((.istore 5), 2)) := by decide +kernel
theorem zd_14_104_112 : zz_D zy_readLayer_14_104 112 (.bipush 6) 2 114 := ⟨zg_14_104_112.1, rfl⟩
theorem zd_14_104_114 : zz_D zy_readLayer_14_104 114 (.iaload) 1 115 := ⟨zg_14_104_112.2.1, rfl⟩
theorem zd_14_104_115 : zz_D zy_readLayer_14_104 115 (.bipush 16) 2 117 := ⟨zg_14_104_112.2.2.1, rfl⟩
theorem zd_14_104_117 : zz_D zy_readLayer_14_104 117 (.aload_n 0) 1 118 := ⟨zg_14_104_112.2.2.2.1, rfl⟩
theorem zd_14_104_118 : zz_D zy_readLayer_14_104 118 (.getfield 136) 3 121 := ⟨zg_14_104_112.2.2.2.2.1, rfl⟩
theorem zd_14_104_121 : zz_D zy_readLayer_14_104 121 (.bipush 7) 2 123 := ⟨zg_14_104_112.2.2.2.2.2.1, rfl⟩
theorem zd_14_104_123 : zz_D zy_readLayer_14_104 123 (.iaload) 1 124 := ⟨zg_14_104_112.2.2.2.2.2.2.1, rfl⟩
theorem zd_14_104_124 : zz_D zy_readLayer_14_104 124 (.imul) 1 125 := ⟨zg_14_104_112.2.2.2.2.2.2.2.1, rfl⟩
theorem zd_14_104_125 : zz_D zy_readLayer_14_104 125 (.iadd) 1 126 := ⟨zg_14_104_112.2.2.2.2.2.2.2.2.1, rfl⟩
theorem zd_14_104_126 : zz_D zy_readLayer_14_104 126 (.istore 5) 2 128 := ⟨zg_14_104_112.2.2.2.2.2.2.2.2.2, rfl⟩
theorem zg_14_104_128 : (decode zy_readLayer_14_104.2.1 128 = .ok ((.bipush 10), 2)) ∧ (decode zy_readLayer_14_104.2.1 130 = .ok ((.aload_n 0), 1)) ∧ (decode zy_readLayer_14_104.2.1 131 = .ok ((.getfield 136), 3)) ∧ (decode zy_readLayer_14_104.2.1 134 = .ok ((.iconst 0), 1)) ∧ (decode zy_readLayer_14_104.2.1 135 = .ok ((.iaload), 1)) ∧ (decode zy_readLayer_14_104.2.1 136 = .ok ((.imul), 1)) ∧ (decode zy_readLayer_14_104.2.1 137 = .ok ((.aload_n 0), 1)) ∧ (decode zy_readLayer_14_104.2.1 138 = .ok ((.getfield 136), 3)) ∧ (decode zy_readLayer_14_104.2.1 141 = .ok ((.iconst 1), 1)) ∧ (decode zy_readLayer_14_104.2.1 142 = .ok ((.iaload), 1)) := by decide +kernel
theorem zd_14_104_128 : zz_D zy_readLayer_14_104 128 (.bipush 10) 2 130 := ⟨zg_14_104_128.1, rfl⟩
theorem zd_14_104_130 : zz_D zy_readLayer_14_104 130 (.aload_n 0) 1 131 := ⟨zg_14_104_128.2.1, rfl⟩
theorem zd_14_104_131 : zz_D zy_readLayer_14_104 131 (.getfield 136) 3 134 := ⟨zg_14_104_128.2.2.1, rfl⟩
theorem zd_14_104_134 : zz_D zy_readLayer_14_104 134 (.iconst 0) 1 135 := ⟨zg_14_104_128.2.2.2.1, rfl⟩
theorem zd_14_104_135 : zz_D zy_readLayer_14_104 135 (.iaload) 1 136 := ⟨zg_14_104_128.2.2.2.2.1, rfl⟩
theorem zd_14_104_136 : zz_D zy_readLayer_14_104 136 (.imul) 1 137 := ⟨zg_14_104_128.2.2.2.2.2.1, rfl⟩
theorem zd_14_104_137 : zz_D zy_readLayer_14_104 137 (.aload_n 0) 1 138 := ⟨zg_14_104_128.2.2.2.2.2.2.1, rfl⟩
theorem zd_14_104_138 : zz_D zy_readLayer_14_104 138 (.getfield 136) 3 141 := ⟨zg_14_104_128.2.2.2.2.2.2.2.1, rfl⟩
theorem zd_14_104_141 : zz_D zy_readLayer_14_104 141 (.iconst 1) 1 142 := ⟨zg_14_104_128.2.2.2.2.2.2.2.2.1, rfl⟩
theorem zd_14_104_142 : zz_D zy_readLayer_14_104 142 (.iaload) 1 143 := ⟨zg_14_104_128.2.2.2.2.2.2.2.2.2, rfl⟩
theorem zg_14_104_143 : (decode zy_readLayer_14_104.2.1 143 = .ok ((.iadd), 1)) ∧ (decode zy_readLayer_14_104.2.1 144 = .ok ((.istore 6), 2)) ∧ (decode zy_readLayer_14_104.2.1 146 = .ok ((.aload_n 0), 1)) ∧ (decode zy_readLayer_14_104.2.1 147 = .ok ((.getfield 136), 3)) ∧ (decode zy_readLayer_14_104.2.1 150 = .ok ((.iconst 0), 1)) ∧ (decode zy_readLayer_14_104.2.1 151 = .ok ((.iaload), 1)) ∧ (decode zy_readLayer_14_104.2.1 152 = .ok ((.i2l), 1)) ∧ (decode zy_readLayer_14_104.2.1 153 = .ok ((.lconst 1), 1)) ∧ (decode zy_readLayer_14_104.2.1 154 = .ok ((.ldc2_w 416), 3)) ∧ (decode zy_readLayer_14_104.2.1 157 = .ok ((.invokestatic 192), 3)) := by decide +kernel
theorem zd_14_104_143 : zz_D zy_readLayer_14_104 143 (.iadd) 1 144 := ⟨zg_14_104_143.1, rfl⟩
theorem zd_14_104_144 : zz_D zy_readLayer_14_104 144 (.istore 6) 2 146 := ⟨zg_14_104_143.2.1, rfl⟩
theorem zd_14_104_146 : zz_D zy_readLayer_14_104 146 (.aload_n 0) 1 147 := ⟨zg_14_104_143.2.2.1, rfl⟩
theorem zd_14_104_147 : zz_D zy_readLayer_14_104 147 (.getfield 136) 3 150 := ⟨zg_14_104_143.2.2.2.1, rfl⟩
theorem zd_14_104_150 : zz_D zy_readLayer_14_104 150 (.iconst 0) 1 151 := ⟨zg_14_104_143.2.2.2.2.1, rfl⟩
theorem zd_14_104_151 : zz_D zy_readLayer_14_104 151 (.iaload) 1 152 := ⟨zg_14_104_143.2.2.2.2.2.1, rfl⟩
theorem zd_14_104_152 : zz_D zy_readLayer_14_104 152 (.i2l) 1 153 := ⟨zg_14_104_143.2.2.2.2.2.2.1, rfl⟩
theorem zd_14_104_153 : zz_D zy_readLayer_14_104 153 (.lconst 1) 1 154 := ⟨zg_14_104_143.2.2.2.2.2.2.2.1, rfl⟩
theorem zd_14_104_154 : zz_D zy_readLayer_14_104 154 (.ldc2_w 416) 3 157 := ⟨zg_14_104_143.2.2.2.2.2.2.2.2.1, rfl⟩
theorem zd_14_104_157 : zz_D zy_readLayer_14_104 157 (.invokestatic 192) 3 160 := ⟨zg_14_104_143.2.2.2.2.2.2.2.2.2, rfl⟩
theorem zg_14_104_160 : (decode zy_readLayer_14_104.2.1 160 = .ok ((Instr.ifCond .eq) 24, 3)) ∧ (decode zy_readLayer_14_104.2.1 184 = .ok ((.iconst 0), 1)) ∧ (decode zy_readLayer_14_104.2.1 185 = .ok ((.istore 7), 2)) ∧ (decode zy_readLayer_14_104.2.1 187 = .ok ((.iconst (-1)), 1)) ∧ (decode zy_readLayer_14_104.2.1 188 = .ok ((.istore 8), 2)) ∧ (decode zy_readLayer_14_104.2.1 190 = .ok ((.iload_n 1), 1)) ∧ (decode zy_readLayer_14_104.2.1 191 = .ok ((Instr.ifCond .eq) 108, 3)) ∧ (decode zy_readLayer_14_104.2.1 299 = .ok ((.iload_n 2), 1)) ∧ (decode zy_readLayer_14_104.2.1 300 = .ok ((Instr.ifCond .eq) 37, 3)) ∧ (decode zy_readLayer_14_104.2.1 337 = .ok ((.aload_n 0), 1)) := by decide +kernel
theorem zd_14_104_160 : zz_B zy_readLayer_14_104 160 (Instr.ifCond .eq) 184 163 := ⟨24, zg_14_104_160.1, rfl, rfl⟩
theorem zd_14_104_184 : zz_D zy_readLayer_14_104 184 (.iconst 0) 1 185 := ⟨zg_14_104_160.2.1, rfl⟩
theorem zd_14_104_185 : zz_D zy_readLayer_14_104 185 (.istore 7) 2 187 := ⟨zg_14_104_160.2.2.1, rfl⟩
theorem zd_14_104_187 : zz_D zy_readLayer_14_104 187 (.iconst (-1)) 1 188 := ⟨zg_14_104_160.2.2.2.1, rfl⟩
theorem zd_14_104_188 : zz_D zy_readLayer_14_104 188 (.istore 8) 2 190 := ⟨zg_14_104_160.2.2.2.2.1, rfl⟩
theorem zd_14_104_190 : zz_D zy_readLayer_14_104 190 (.iload_n 1) 1 191 := ⟨zg_14_104_160.2.2.2.2.2.1, rfl⟩
theorem zd_14_104_191 : zz_B zy_readLayer_14_104 191 (Instr.ifCond .eq) 299 194 := ⟨108, zg_14_104_160.2.2.2.2.2.2.1, rfl, rfl⟩
theorem zd_14_104_299 : zz_D zy_readLayer_14_104 299 (.iload_n 2) 1 300 := ⟨zg_14_104_160.2.2.2.2.2.2.2.1, rfl⟩
theorem zd_14_104_300 : zz_B zy_readLayer_14_104 300 (Instr.ifCond .eq) 337 303 := ⟨37, zg_14_104_160.2.2.2.2.2.2.2.2.1, rfl, rfl⟩
theorem zd_14_104_337 : zz_D zy_readLayer_14_104 337 (.aload_n 0) 1 338 := ⟨zg_14_104_160.2.2.2.2.2.2.2.2.2, rfl⟩
theorem zg_14_104_338 : (decode zy_readLayer_14_104.2.1 338 = .ok ((.getfield 136), 3)) ∧ (decode zy_readLayer_14_104.2.1 341 = .ok ((.bipush 6), 2)) ∧ (decode zy_readLayer_14_104.2.1 343 = .ok ((.iaload), 1)) ∧ (decode zy_readLayer_14_104.2.1 344 = .ok ((.bipush 15), 2)) ∧ (decode zy_readLayer_14_104.2.1 346 = .ok ((Instr.if_icmp .le) 5, 3)) ∧ (decode zy_readLayer_14_104.2.1 351 = .ok ((.aload_n 0), 1)) ∧ (decode zy_readLayer_14_104.2.1 352 = .ok ((.iload_n 3), 1)) ∧ (decode zy_readLayer_14_104.2.1 353 = .ok ((.iload 4), 2)) ∧ (decode zy_readLayer_14_104.2.1 355 = .ok ((.iload 5), 2)) ∧ (decode zy_readLayer_14_104.2.1 357 = .ok ((.invokevirtual 592), 3)) := by decide +kernel
theorem zd_14_104_338 : zz_D zy_readLayer_14_104 338 (.getfield 136) 3 341 := ⟨zg_14_104_338.1, rfl⟩
theorem zd_14_104_341 : zz_D zy_readLayer_14_104 341 (.bipush 6) 2 343 := ⟨zg_14_104_338.2.1, rfl⟩
theorem zd_14_104_343 : zz_D zy_readLayer_14_104 343 (.iaload) 1 344 := ⟨zg_14_104_338.2.2.1, rfl⟩
theorem zd_14_104_344 : zz_D zy_readLayer_14_104 344 (.bipush 15) 2 346 := ⟨zg_14_104_338.2.2.2.1, rfl⟩
theorem zd_14_104_346 : zz_B zy_readLayer_14_104 346 (Instr.if_icmp .le) 351 349 := ⟨5, zg_14_104_338.2.2.2.2.1, rfl, rfl⟩
theorem zd_14_104_351 : zz_D zy_readLayer_14_104 351 (.aload_n 0) 1 352 := ⟨zg_14_104_338.2.2.2.2.2.1, rfl⟩
theorem zd_14_104_352 : zz_D zy_readLayer_14_104 352 (.iload_n 3) 1 353 := ⟨zg_14_104_338.2.2.2.2.2.2.1, rfl⟩
theorem zd_14_104_353 : zz_D zy_readLayer_14_104 353 (.iload 4) 2 355 := ⟨zg_14_104_338.2.2.2.2.2.2.2.1, rfl⟩
theorem zd_14_104_355 : zz_D zy_readLayer_14_104 355 (.iload 5) 2 357 := ⟨zg_14_104_338.2.2.2.2.2.2.2.2.1, rfl⟩
theorem zd_14_104_357 : zz_D zy_readLayer_14_104 357 (.invokevirtual 592) 3 360 := ⟨zg_14_104_338.2.2.2.2.2.2.2.2.2, rfl⟩
theorem zg_14_104_360 : (decode zy_readLayer_14_104.2.1 360 = .ok ((.istore 8), 2)) ∧ (decode zy_readLayer_14_104.2.1 362 = .ok ((.aload_n 0), 1)) ∧ (decode zy_readLayer_14_104.2.1 363 = .ok ((.getfield 187), 3)) ∧ (decode zy_readLayer_14_104.2.1 366 = .ok ((Instr.ifCond .le) 5, 3)) ∧ (decode zy_readLayer_14_104.2.1 371 = .ok ((.aload_n 0), 1)) ∧ (decode zy_readLayer_14_104.2.1 372 = .ok ((.getfield 133), 3)) ∧ (decode zy_readLayer_14_104.2.1 375 = .ok ((.iload 8), 2)) ∧ (decode zy_readLayer_14_104.2.1 377 = .ok ((.aload_n 0), 1)) ∧ (decode zy_readLayer_14_104.2.1 378 = .ok ((.getfield 564), 3)) ∧ (decode zy_readLayer_14_104.2.1 381 = .ok ((.lastore), 1)) := by decide +kernel
theorem zd_14_104_360 : zz_D zy_readLayer_14_104 360 (.istore 8) 2 362 := ⟨zg_14_104_360.1, rfl⟩
theorem zd_14_104_362 : zz_D zy_readLayer_14_104 362 (.aload_n 0) 1 363 := ⟨zg_14_104_360.2.1, rfl⟩
theorem zd_14_104_363 : zz_D zy_readLayer_14_104 363 (.getfield 187) 3 366 := ⟨zg_14_104_360.2.2.1, rfl⟩
theorem zd_14_104_366 : zz_B zy_readLayer_14_104 366 (Instr.ifCond .le) 371 369 := ⟨5, zg_14_104_360.2.2.2.1, rfl, rfl⟩
theorem zd_14_104_371 : zz_D zy_readLayer_14_104 371 (.aload_n 0) 1 372 := ⟨zg_14_104_360.2.2.2.2.1, rfl⟩
theorem zd_14_104_372 : zz_D zy_readLayer_14_104 372 (.getfield 133) 3 375 := ⟨zg_14_104_360.2.2.2.2.2.1, rfl⟩
theorem zd_14_104_375 : zz_D zy_readLayer_14_104 375 (.iload 8) 2 377 := ⟨zg_14_104_360.2.2.2.2.2.2.1, rfl⟩
theorem zd_14_104_377 : zz_D zy_readLayer_14_104 377 (.aload_n 0) 1 378 := ⟨zg_14_104_360.2.2.2.2.2.2.2.1, rfl⟩
theorem zd_14_104_378 : zz_D zy_readLayer_14_104 378 (.getfield 564) 3 381 := ⟨zg_14_104_360.2.2.2.2.2.2.2.2.1, rfl⟩
theorem zd_14_104_381 : zz_D zy_readLayer_14_104 381 (.lastore) 1 382 := ⟨zg_14_104_360.2.2.2.2.2.2.2.2.2, rfl⟩
theorem zg_14_104_382 : (decode zy_readLayer_14_104.2.1 382 = .ok ((.iconst 1), 1)) ∧ (decode zy_readLayer_14_104.2.1 383 = .ok ((.ireturn), 1)) ∧ (decode zy_readLayer_14_104.2.1 369 = .ok ((.iconst 0), 1)) ∧ (decode zy_readLayer_14_104.2.1 370 = .ok ((.ireturn), 1)) ∧ (decode zy_readLayer_14_104.2.1 349 = .ok ((.iconst 0), 1)) ∧ (decode zy_readLayer_14_104.2.1 350 = .ok ((.ireturn), 1)) ∧ (decode zy_readLayer_14_104.2.1 163 = .ok ((.aload_n 0), 1)) ∧ (decode zy_readLayer_14_104.2.1 164 = .ok ((.getfield 136), 3)) ∧ (decode zy_readLayer_14_104.2.1 167 = .ok ((.iconst 1), 1)) ∧ (decode zy_readLayer_14_104.2.1 168 = .ok ((.iaload), 1)) := by decide +kernel
theorem zd_14_104_382 : zz_D zy_readLayer_14_104 382 (.iconst 1) 1 383 := ⟨zg_14_104_382.1, rfl⟩
theorem zd_14_104_383 : zz_D zy_readLayer_14_104 383 (.ireturn) 1 384 := ⟨zg_14_104_382.2.1, rfl⟩
theorem zd_14_104_369 : zz_D zy_readLayer_14_104 369 (.iconst 0) 1 370 := ⟨zg_14_104_382.2.2.1, rfl⟩
theorem zd_14_104_370 : zz_D zy_readLayer_14_104 370 (.ireturn) 1 371 := ⟨zg_14_104_382.2.2.2.1, rfl⟩
theorem zd_14_104_349 : zz_D zy_readLayer_14_104 349 (.iconst 0) 1 350 := ⟨zg_14_104_382.2.2.2.2.1, rfl⟩
theorem zd_14_104_350 : zz_D zy_readLayer_14_104 350 (.ireturn) 1 351 := ⟨zg_14_104_382.2.2.2.2.2.1, rfl⟩
theorem zd_14_104_163 : zz_D zy_readLayer_14_104 163 (.aload_n 0) 1 164 := ⟨zg_14_104_382.2.2.2.2.2.2.1, rfl⟩
theorem zd_14_104_164 : zz_D zy_readLayer_14_104 164 (.getfield 136) 3 167 := ⟨zg_14_104_382.2.2.2.2.2.2.2.1, rfl⟩
theorem zd_14_104_167 : zz_D zy_readLayer_14_104 167 (.iconst 1) 1 168 := ⟨zg_14_104_382.2.2.2.2.2.2.2.2.1, rfl⟩
theorem zd_14_104_168 : zz_D zy_readLayer_14_104 168 (.iaload) 1 169 := ⟨zg_14_104_382.2.2.2.2.2.2.2.2.2, rfl⟩
theorem zg_14_104_169 : (decode zy_readLayer_14_104.2.1 169 = .ok ((.i2l), 1)) ∧ (decode zy_readLayer_14_104.2.1 170 = .ok ((.lconst 1), 1)) ∧ (decode zy_readLayer_14_104.2.1 171 = .ok ((.ldc2_w 416), 3)) ∧ (decode zy_readLayer_14_104.2.1 174 = .ok ((.invokestatic 192), 3)) ∧ (decode zy_readLayer_14_104.2.1 177 = .ok ((Instr.ifCond .eq) 7, 3)) ∧ (decode zy_readLayer_14_104.2.1 180 = .ok ((.iconst 1), 1)) ∧ (decode zy_readLayer_14_104.2.1 181 = .ok (Instr.goto 4, 3)) ∧ (decode zy_readLayer_14_104.2.1 91 = .ok ((.sipush 137), 3)) ∧ (decode zy_readLayer_14_104.2.1 94 = .ok (Instr.goto 6, 3)) ∧ (decode zy_readLayer_14_104.2.1 303 = .ok ((.aload_n 0), 1)) := by decide +kernel
theorem zd_14_104_169 : zz_D zy_readLayer_14_104 169 (.i2l) 1 170 := ⟨zg_14_104_169.1, rfl⟩
theorem zd_14_104_170 : zz_D zy_readLayer_14_104 170 (.lconst 1) 1 171 := ⟨zg_14_104_169.2.1, rfl⟩
theorem zd_14_104_171 : zz_D zy_readLayer_14_104 171 (.ldc2_w 416) 3 174 := ⟨zg_14_104_169.2.2.1, rfl⟩
theorem zd_14_104_174 : zz_D zy_readLayer_14_104 174 (.invokestatic 192) 3 177 := ⟨zg_14_104_169.2.2.2.1, rfl⟩
theorem zd_14_104_177 : zz_B zy_readLayer_14_104 177 (Instr.ifCond .eq) 184 180 := ⟨7, zg_14_104_169.2.2.2.2.1, rfl, rfl⟩
theorem zd_14_104_180 : zz_D zy_readLayer_14_104 180 (.iconst 1) 1 181 := ⟨zg_14_104_169.2.2.2.2.2.1, rfl⟩
theorem zd_14_104_181 : zz_B zy_readLayer_14_104 181 Instr.goto 185 184 := ⟨4, zg_14_104_169.2.2.2.2.2.2.1, rfl, rfl⟩
theorem zd_14_104_91 : zz_D zy_readLayer_14_104 91 (.sipush 137) 3 94 := ⟨zg_14_104_169.2.2.2.2.2.2.2.1, rfl⟩
theorem zd_14_104_94 : zz_B zy_readLayer_14_104 94 Instr.goto 100 97 := ⟨6, zg_14_104_169.2.2.2.2.2.2.2.2.1, rfl, rfl⟩
theorem zd_14_104_303 : zz_D zy_readLayer_14_104 303 (.aload_n 0) 1 304 := ⟨zg_14_104_169.2.2.2.2.2.2.2.2.2, rfl⟩
theorem zg_14_104_304 : (decode zy_readLayer_14_104.2.1 304 = .ok ((.getfield 567), 3)) ∧ (decode zy_readLayer_14_104.2.1 307 = .ok ((.iconst 1), 1)) ∧ (decode zy_readLayer_14_104.2.1 308 = .ok ((.iand), 1)) ∧ (decode zy_readLayer_14_104.2.1 309 = .ok ((Instr.ifCond .eq) 8, 3)) ∧ (decode zy_readLayer_14_104.2.1 317 = .ok ((.iconst 0), 1)) ∧ (decode zy_readLayer_14_104.2.1 318 = .ok ((.ireturn), 1)) ∧ (decode zy_readLayer_14_104.2.1 312 = .ok ((.iload 7), 2)) ∧ (decode zy_readLayer_14_104.2.1 314 = .ok ((Instr.ifCond .ne) 5, 3)) ∧ (decode zy_readLayer_14_104.2.1 319 = .ok ((.aload_n 0), 1)) ∧ (decode zy_readLayer_14_104.2.1 320 = .ok ((.iload_n 3), 1)) := by decide +kernel
theorem zd_14_104_304 : zz_D zy_readLayer_14_104 304 (.getfield 567) 3 307 := ⟨zg_14_104_304.1, rfl⟩
theorem zd_14_104_307 : zz_D zy_readLayer_14_104 307 (.iconst 1) 1 308 := ⟨zg_14_104_304.2.1, rfl⟩
theorem zd_14_104_308 : zz_D zy_readLayer_14_104 308 (.iand) 1 309 := ⟨zg_14_104_304.2.2.1, rfl⟩
theorem zd_14_104_309 : zz_B zy_readLayer_14_104 309 (Instr.ifCond .eq) 317 312 := ⟨8, zg_14_104_304.2.2.2.1, rfl, rfl⟩
theorem zd_14_104_317 : zz_D zy_readLayer_14_104 317 (.iconst 0) 1 318 := ⟨zg_14_104_304.2.2.2.2.1, rfl⟩
theorem zd_14_104_318 : zz_D zy_readLayer_14_104 318 (.ireturn) 1 319 := ⟨zg_14_104_304.2.2.2.2.2.1, rfl⟩
theorem zd_14_104_312 : zz_D zy_readLayer_14_104 312 (.iload 7) 2 314 := ⟨zg_14_104_304.2.2.2.2.2.2.1, rfl⟩
theorem zd_14_104_314 : zz_B zy_readLayer_14_104 314 (Instr.ifCond .ne) 319 317 := ⟨5, zg_14_104_304.2.2.2.2.2.2.2.1, rfl, rfl⟩
theorem zd_14_104_319 : zz_D zy_readLayer_14_104 319 (.aload_n 0) 1 320 := ⟨zg_14_104_304.2.2.2.2.2.2.2.2.1, rfl⟩
theorem zd_14_104_320 : zz_D zy_readLayer_14_104 320 (.iload_n 3) 1 321 := ⟨zg_14_104_304.2.2.2.2.2.2.2.2.2, rfl⟩
theorem zg_14_104_321 : (decode zy_readLayer_14_104.2.1 321 = .ok ((.iload 6), 2)) ∧ (decode zy_readLayer_14_104.2.1 323 = .ok ((.aload_n 0), 1)) ∧ (decode zy_readLayer_14_104.2.1 324 = .ok ((.getfield 136), 3)) ∧ (decode zy_readLayer_14_104.2.1 327 = .ok ((.iconst 4), 1)) ∧ (decode zy_readLayer_14_104.2.1 328 = .ok ((.iaload), 1)) ∧ (decode zy_readLayer_14_104.2.1 329 = .ok ((.invokevirtual 589), 3)) ∧ (decode zy_readLayer_14_104.2.1 332 = .ok ((.istore 8), 2)) ∧ (decode zy_readLayer_14_104.2.1 334 = .ok (Instr.goto 28, 3)) ∧ (decode zy_readLayer_14_104.2.1 81 = .ok ((.sipush 255), 3)) ∧ (decode zy_readLayer_14_104.2.1 84 = .ok (Instr.goto 16, 3)) := by decide +kernel
theorem zd_14_104_321 : zz_D zy_readLayer_14_104 321 (.iload 6) 2 323 := ⟨zg_14_104_321.1, rfl⟩
theorem zd_14_104_323 : zz_D zy_readLayer_14_104 323 (.aload_n 0) 1 324 := ⟨zg_14_104_321.2.1, rfl⟩
theorem zd_14_104_324 : zz_D zy_readLayer_14_104 324 (.getfield 136) 3 327 := ⟨zg_14_104_321.2.2.1, rfl⟩
theorem zd_14_104_327 : zz_D zy_readLayer_14_104 327 (.iconst 4) 1 328 := ⟨zg_14_104_321.2.2.2.1, rfl⟩
theorem zd_14_104_328 : zz_D zy_readLayer_14_104 328 (.iaload) 1 329 := ⟨zg_14_104_321.2.2.2.2.1, rfl⟩
theorem zd_14_104_329 : zz_D zy_readLayer_14_104 329 (.invokevirtual 589) 3 332 := ⟨zg_14_104_321.2.2.2.2.2.1, rfl⟩
theorem zd_14_104_332 : zz_D zy_readLayer_14_104 332 (.istore 8) 2 334 := ⟨zg_14_104_321.2.2.2.2.2.2.1, rfl⟩
theorem zd_14_104_334 : zz_B zy_readLayer_14_104 334 Instr.goto 362 337 := ⟨28, zg_14_104_321.2.2.2.2.2.2.2.1, rfl, rfl⟩
theorem zd_14_104_81 : zz_D zy_readLayer_14_104 81 (.sipush 255) 3 84 := ⟨zg_14_104_321.2.2.2.2.2.2.2.2.1, rfl⟩
theorem zd_14_104_84 : zz_B zy_readLayer_14_104 84 Instr.goto 100 87 := ⟨16, zg_14_104_321.2.2.2.2.2.2.2.2.2, rfl, rfl⟩
theorem zg_14_104_194 : (decode zy_readLayer_14_104.2.1 194 = .ok ((.aload_n 0), 1)) ∧ (decode zy_readLayer_14_104.2.1 195 = .ok ((.getfield 567), 3)) ∧ (decode zy_readLayer_14_104.2.1 198 = .ok ((.bipush 7), 2)) ∧ (decode zy_readLayer_14_104.2.1 200 = .ok ((.iand), 1)) ∧ (decode zy_readLayer_14_104.2.1 201 = .ok ((.bipush 7), 2)) ∧ (decode zy_readLayer_14_104.2.1 203 = .ok ((Instr.if_icmp .ne) 52, 3)) ∧ (decode zy_readLayer_14_104.2.1 255 = .ok ((.iconst 0), 1)) ∧ (decode zy_readLayer_14_104.2.1 256 = .ok ((.ireturn), 1)) ∧ (decode zy_readLayer_14_104.2.1 206 = .ok ((.iload 7), 2)) ∧ (decode zy_readLayer_14_104.2.1 208 = .ok ((Instr.ifCond .eq) 47, 3)) := by decide +kernel
theorem zd_14_104_194 : zz_D zy_readLayer_14_104 194 (.aload_n 0) 1 195 := ⟨zg_14_104_194.1, rfl⟩
theorem zd_14_104_195 : zz_D zy_readLayer_14_104 195 (.getfield 567) 3 198 := ⟨zg_14_104_194.2.1, rfl⟩
theorem zd_14_104_198 : zz_D zy_readLayer_14_104 198 (.bipush 7) 2 200 := ⟨zg_14_104_194.2.2.1, rfl⟩
theorem zd_14_104_200 : zz_D zy_readLayer_14_104 200 (.iand) 1 201 := ⟨zg_14_104_194.2.2.2.1, rfl⟩
theorem zd_14_104_201 : zz_D zy_readLayer_14_104 201 (.bipush 7) 2 203 := ⟨zg_14_104_194.2.2.2.2.1, rfl⟩
theorem zd_14_104_203 : zz_B zy_readLayer_14_104 203 (Instr.if_icmp .ne) 255 206 := ⟨52, zg_14_104_194.2.2.2.2.2.1, rfl, rfl⟩
theorem zd_14_104_255 : zz_D zy_readLayer_14_104 255 (.iconst 0) 1 256 := ⟨zg_14_104_194.2.2.2.2.2.2.1, rfl⟩
theorem zd_14_104_256 : zz_D zy_readLayer_14_104 256 (.ireturn) 1 257 := ⟨zg_14_104_194.2.2.2.2.2.2.2.1, rfl⟩
theorem zd_14_104_206 : zz_D zy_readLayer_14_104 206 (.iload 7) 2 208 := ⟨zg_14_104_194.2.2.2.2.2.2.2.2.1, rfl⟩
theorem zd_14_104_208 : zz_B zy_readLayer_14_104 208 (Instr.ifCond .eq) 255 211 := ⟨47, zg_14_104_194.2.2.2.2.2.2.2.2.2, rfl, rfl⟩
theorem zg_14_104_211 : (decode zy_readLayer_14_104.2.1 211 = .ok ((.aload_n 0), 1)) ∧ (decode zy_readLayer_14_104.2.1 212 = .ok ((.getfield 136), 3)) ∧ (decode zy_readLayer_14_104.2.1 215 = .ok ((.iconst 4), 1)) ∧ (decode zy_readLayer_14_104.2.1 216 = .ok ((.iaload), 1)) ∧ (decode zy_readLayer_14_104.2.1 217 = .ok ((.i2l), 1)) ∧ (decode zy_readLayer_14_104.2.1 218 = .ok ((.lconst 1), 1)) ∧ (decode zy_readLayer_14_104.2.1 219 = .ok ((.ldc2_w 169), 3)) ∧ (decode zy_readLayer_14_104.2.1 222 = .ok ((.invokestatic 192), 3)) ∧ (decode zy_readLayer_14_104.2.1 225 = .ok ((Instr.ifCond .eq) 30, 3)) ∧ (decode zy_readLayer_14_104.2.1 228 = .ok ((.aload_n 0), 1)) := by decide +kernel
theorem zd_14_104_211 : zz_D zy_readLayer_14_104 211 (.aload_n 0) 1 212 := ⟨zg_14_104_211.1, rfl⟩
theorem zd_14_104_212 : zz_D zy_readLayer_14_104 212 (.getfield 136) 3 215 := ⟨zg_14_104_211.2.1, rfl⟩
theorem zd_14_104_215 : zz_D zy_readLayer_14_104 215 (.iconst 4) 1 216 := ⟨zg_14_104_211.2.2.1, rfl⟩
theorem zd_14_104_216 : zz_D zy_readLayer_14_104 216 (.iaload) 1 217 := ⟨zg_14_104_211.2.2.2.1, rfl⟩
theorem zd_14_104_217 : zz_D zy_readLayer_14_104 217 (.i2l) 1 218 := ⟨zg_14_104_211.2.2.2.2.1, rfl⟩
theorem zd_14_104_218 : zz_D zy_readLayer_14_104 218 (.lconst 1) 1 219 := ⟨zg_14_104_211.2.2.2.2.2.1, rfl⟩
theorem zd_14_104_219 : zz_D zy_readLayer_14_104 219 (.ldc2_w 169) 3 222 := ⟨zg_14_104_211.2.2.2.2.2.2.1, rfl⟩
theorem zd_14_104_222 : zz_D zy_readLayer_14_104 222 (.invokestatic 192) 3 225 := ⟨zg_14_104_211.2.2.2.2.2.2.2.1, rfl⟩
theorem zd_14_104_225 : zz_B zy_readLayer_14_104 225 (Instr.ifCond .eq) 255 228 := ⟨30, zg_14_104_211.2.2.2.2.2.2.2.2.1, rfl, rfl⟩
theorem zd_14_104_228 : zz_D zy_readLayer_14_104 228 (.aload_n 0) 1 229 := ⟨zg_14_104_211.2.2.2.2.2.2.2.2.2, rfl⟩
theorem zg_14_104_229 : (decode zy_readLayer_14_104.2.1 229 = .ok ((.getfield 136), 3)) ∧ (decode zy_readLayer_14_104.2.1 232 = .ok ((.iconst 5), 1)) ∧ (decode zy_readLayer_14_104.2.1 233 = .ok ((.iaload), 1)) ∧ (decode zy_readLayer_14_104.2.1 234 = .ok ((.i2l), 1)) ∧ (decode zy_readLayer_14_104.2.1 235 = .ok ((.lconst 0), 1)) ∧ (decode zy_readLayer_14_104.2.1 236 = .ok ((.lconst 1), 1)) ∧ (decode zy_readLayer_14_104.2.1 237 = .ok ((.invokestatic 192), 3)) ∧ (decode zy_readLayer_14_104.2.1 240 = .ok ((Instr.ifCond .eq) 15, 3)) ∧ (decode zy_readLayer_14_104.2.1 243 = .ok ((.aload_n 0), 1)) ∧ (decode zy_readLayer_14_104.2.1 244 = .ok ((.getfield 136), 3)) := by decide +kernel
theorem zd_14_104_229 : zz_D zy_readLayer_14_104 229 (.getfield 136) 3 232 := ⟨zg_14_104_229.1, rfl⟩
theorem zd_14_104_232 : zz_D zy_readLayer_14_104 232 (.iconst 5) 1 233 := ⟨zg_14_104_229.2.1, rfl⟩
theorem zd_14_104_233 : zz_D zy_readLayer_14_104 233 (.iaload) 1 234 := ⟨zg_14_104_229.2.2.1, rfl⟩
theorem zd_14_104_234 : zz_D zy_readLayer_14_104 234 (.i2l) 1 235 := ⟨zg_14_104_229.2.2.2.1, rfl⟩
theorem zd_14_104_235 : zz_D zy_readLayer_14_104 235 (.lconst 0) 1 236 := ⟨zg_14_104_229.2.2.2.2.1, rfl⟩
theorem zd_14_104_236 : zz_D zy_readLayer_14_104 236 (.lconst 1) 1 237 := ⟨zg_14_104_229.2.2.2.2.2.1, rfl⟩
theorem zd_14_104_237 : zz_D zy_readLayer_14_104 237 (.invokestatic 192) 3 240 := ⟨zg_14_104_229.2.2.2.2.2.2.1, rfl⟩
theorem zd_14_104_240 : zz_B zy_readLayer_14_104 240 (Instr.ifCond .eq) 255 243 := ⟨15, zg_14_104_229.2.2.2.2.2.2.2.1, rfl, rfl⟩
theorem zd_14_104_243 : zz_D zy_readLayer_14_104 243 (.aload_n 0) 1 244 := ⟨zg_14_104_229.2.2.2.2.2.2.2.2.1, rfl⟩
theorem zd_14_104_244 : zz_D zy_readLayer_14_104 244 (.getfield 136) 3 247 := ⟨zg_14_104_229.2.2.2.2.2.2.2.2.2, rfl⟩
theorem zg_14_104_247 : (decode zy_readLayer_14_104.2.1 247 = .ok ((.bipush 6), 2)) ∧ (decode zy_readLayer_14_104.2.1 249 = .ok ((.iaload), 1)) ∧ (decode zy_readLayer_14_104.2.1 250 = .ok ((.bipush 15), 2)) ∧ (decode zy_readLayer_14_104.2.1 252 = .ok ((Instr.if_icmp .le) 5, 3)) ∧ (decode zy_readLayer_14_104.2.1 257 = .ok ((.aload_n 0), 1)) ∧ (decode zy_readLayer_14_104.2.1 258 = .ok ((.iload_n 3), 1)) ∧ (decode zy_readLayer_14_104.2.1 259 = .ok ((.iload 6), 2)) ∧ (decode zy_readLayer_14_104.2.1 261 = .ok ((.aload_n 0), 1)) ∧ (decode zy_readLayer_14_104.2.1 262 = .ok ((.getfield 136), 3)) ∧ (decode zy_readLayer_14_104.2.1 265 = .ok ((.iconst 2), 1)) := by decide +kernel
theorem zd_14_104_247 : zz_D zy_readLayer_14_104 247 (.bipush 6) 2 249 := ⟨zg_14_104_247.1, rfl⟩
theorem zd_14_104_249 : zz_D zy_readLayer_14_104 249 (.iaload) 1 250 := ⟨zg_14_104_247.2.1, rfl⟩
theorem zd_14_104_250 : zz_D zy_readLayer_14_104 250 (.bipush 15) 2 252 := ⟨zg_14_104_247.2.2.1, rfl⟩
theorem zd_14_104_252 : zz_B zy_readLayer_14_104 252 (Instr.if_icmp .le) 257 255 := ⟨5, zg_14_104_247.2.2.2.1, rfl, rfl⟩
theorem zd_14_104_257 : zz_D zy_readLayer_14_104 257 (.aload_n 0) 1 258 := ⟨zg_14_104_247.2.2.2.2.1, rfl⟩
theorem zd_14_104_258 : zz_D zy_readLayer_14_104 258 (.iload_n 3) 1 259 := ⟨zg_14_104_247.2.2.2.2.2.1, rfl⟩
theorem zd_14_104_259 : zz_D zy_readLayer_14_104 259 (.iload 6) 2 261 := ⟨zg_14_104_247.2.2.2.2.2.2.1, rfl⟩
theorem zd_14_104_261 : zz_D zy_readLayer_14_104 261 (.aload_n 0) 1 262 := ⟨zg_14_104_247.2.2.2.2.2.2.2.1, rfl⟩
theorem zd_14_104_262 : zz_D zy_readLayer_14_104 262 (.getfield 136) 3 265 := ⟨zg_14_104_247.2.2.2.2.2.2.2.2.1, rfl⟩
theorem zd_14_104_265 : zz_D zy_readLayer_14_104 265 (.iconst 2) 1 266 := ⟨zg_14_104_247.2.2.2.2.2.2.2.2.2, rfl⟩
theorem zg_14_104_266 : (decode zy_readLayer_14_104.2.1 266 = .ok ((.iaload), 1)) ∧ (decode zy_readLayer_14_104.2.1 267 = .ok ((.bipush 10), 2)) ∧ (decode zy_readLayer_14_104.2.1 269 = .ok ((.aload_n 0), 1)) ∧ (decode zy_readLayer_14_104.2.1 270 = .ok ((.getfield 136), 3)) ∧ (decode zy_readLayer_14_104.2.1 273 = .ok ((.iconst 4), 1)) ∧ (decode zy_readLayer_14_104.2.1 274 = .ok ((.iaload), 1)) ∧ (decode zy_readLayer_14_104.2.1 275 = .ok ((.imul), 1)) ∧ (decode zy_readLayer_14_104.2.1 276 = .ok ((.aload_n 0), 1)) ∧ (decode zy_readLayer_14_104.2.1 277 = .ok ((.getfield 136), 3)) ∧ (decode zy_readLayer_14_104.2.1 280 = .ok ((.iconst 5), 1)) := by decide +kernel
theorem zd_14_104_266 : zz_D zy_readLayer_14_104 266 (.iaload) 1 267 := ⟨zg_14_104_266.1, rfl⟩
theorem zd_14_104_267 : zz_D zy_readLayer_14_104 267 (.bipush 10) 2 269 := ⟨zg_14_104_266.2.1, rfl⟩
theorem zd_14_104_269 : zz_D zy_readLayer_14_104 269 (.aload_n 0) 1 270 := ⟨zg_14_104_266.2.2.1, rfl⟩
theorem zd_14_104_270 : zz_D zy_readLayer_14_104 270 (.getfield 136) 3 273 := ⟨zg_14_104_266.2.2.2.1, rfl⟩
theorem zd_14_104_273 : zz_D zy_readLayer_14_104 273 (.iconst 4) 1 274 := ⟨zg_14_104_266.2.2.2.2.1, rfl⟩
theorem zd_14_104_274 : zz_D zy_readLayer_14_104 274 (.iaload) 1 275 := ⟨zg_14_104_266.2.2.2.2.2.1, rfl⟩
theorem zd_14_104_275 : zz_D zy_readLayer_14_104 275 (.imul) 1 276 := ⟨zg_14_104_266.2.2.2.2.2.2.1, rfl⟩
theorem zd_14_104_276 : zz_D zy_readLayer_14_104 276 (.aload_n 0) 1 277 := ⟨zg_14_104_266.2.2.2.2.2.2.2.1, rfl⟩
theorem zd_14_104_277 : zz_D zy_readLayer_14_104 277 (.getfield 136) 3 280 := ⟨zg_14_104_266.2.2.2.2.2.2.2.2.1, rfl⟩
theorem zd_14_104_280 : zz_D zy_readLayer_14_104 280 (.iconst 5) 1 281 := ⟨zg_14_104_266.2.2.2.2.2.2.2.2.2, rfl⟩
theorem zg_14_104_281 : (decode zy_readLayer_14_104.2.1 281 = .ok ((.iaload), 1)) ∧ (decode zy_readLayer_14_104.2.1 282 = .ok ((.iadd), 1)) ∧ (decode zy_readLayer_14_104.2.1 283 = .ok ((.iload 5), 2)) ∧ (decode zy_readLayer_14_104.2.1 285 = .ok ((.aload_n 0), 1)) ∧ (decode zy_readLayer_14_104.2.1 286 = .ok ((.getfield 136), 3)) ∧ (decode zy_readLayer_14_104.2.1 289 = .ok ((.iconst 3), 1)) ∧ (decode zy_readLayer_14_104.2.1 290 = .ok ((.iaload), 1)) ∧ (decode zy_readLayer_14_104.2.1 291 = .ok ((.invokevirtual 585), 3)) ∧ (decode zy_readLayer_14_104.2.1 294 = .ok ((.istore 8), 2)) ∧ (decode zy_readLayer_14_104.2.1 296 = .ok (Instr.goto 66, 3)) := by decide +kernel
theorem zd_14_104_281 : zz_D zy_readLayer_14_104 281 (.iaload) 1 282 := ⟨zg_14_104_281.1, rfl⟩
theorem zd_14_104_282 : zz_D zy_readLayer_14_104 282 (.iadd) 1 283 := ⟨zg_14_104_281.2.1, rfl⟩
theorem zd_14_104_283 : zz_D zy_readLayer_14_104 283 (.iload 5) 2 285 := ⟨zg_14_104_281.2.2.1, rfl⟩
theorem zd_14_104_285 : zz_D zy_readLayer_14_104 285 (.aload_n 0) 1 286 := ⟨zg_14_104_281.2.2.2.1, rfl⟩
theorem zd_14_104_286 : zz_D zy_readLayer_14_104 286 (.getfield 136) 3 289 := ⟨zg_14_104_281.2.2.2.2.1, rfl⟩
theorem zd_14_104_289 : zz_D zy_readLayer_14_104 289 (.iconst 3) 1 290 := ⟨zg_14_104_281.2.2.2.2.2.1, rfl⟩
theorem zd_14_104_290 : zz_D zy_readLayer_14_104 290 (.iaload) 1 291 := ⟨zg_14_104_281.2.2.2.2.2.2.1, rfl⟩
theorem zd_14_104_291 : zz_D zy_readLayer_14_104 291 (.invokevirtual 585) 3 294 := ⟨zg_14_104_281.2.2.2.2.2.2.2.1, rfl⟩
theorem zd_14_104_294 : zz_D zy_readLayer_14_104 294 (.istore 8) 2 296 := ⟨zg_14_104_281.2.2.2.2.2.2.2.2.1, rfl⟩
theorem zd_14_104_296 : zz_B zy_readLayer_14_104 296 Instr.goto 362 299 := ⟨66, zg_14_104_281.2.2.2.2.2.2.2.2.2, rfl, rfl⟩

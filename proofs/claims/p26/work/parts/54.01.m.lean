theorem zb_isIllegal_14_24_296 {g : mm_G} {l : Launch} (p0 : Int) (S0 : zz_S) (n : Nat) (hn : zz_end ≤ n) (G_S0 : zz_G S0) (hp0 : (-9223372036854775808) ≤ p0 ∧ p0 ≤ 9223372036854775807) (x4 : Int) (S : zz_S) (G_S : zz_G S) (F_S : zz_fr [(1087, 0), (1087, 1), (1087, 2), (1087, 3), (1087, 4), (1087, 5), (1087, 6), (1087, 7), (1087, 8), (1087, 9), (1087, 10), (1087, 11), (1088, 0), (1088, 1), (1088, 2), (1088, 3), (1088, 4), (1088, 5), (1088, 6), (1088, 7), (1088, 8), (1088, 9), (1089, 0), (1089, 1), (1089, 2), (1089, 3), (1089, 4), (1089, 5), (1089, 6), (1089, 7), (1089, 8), (1089, 9)] [] (fun _ _ => False) S0 S) (i296_0 : 0 ≤ x4 ∧ x4 ≤ 1) (i296_1 : (S 1087 0 = zz_fx p0 0 15) ∧ 0 ≤ S 1087 0 ∧ S 1087 0 ≤ 15) (i296_2 : (S 1087 1 = zz_fx p0 4 1) ∧ 0 ≤ S 1087 1 ∧ S 1087 1 ≤ 1) (i296_3 : (S 1087 2 = zz_fx p0 5 1) ∧ 0 ≤ S 1087 2 ∧ S 1087 2 ≤ 1) (i296_4 : (S 1087 3 = zz_fx p0 6 1) ∧ 0 ≤ S 1087 3 ∧ S 1087 3 ≤ 1) (i296_5 : (S 1087 4 = zz_fx p0 7 1) ∧ 0 ≤ S 1087 4 ∧ S 1087 4 ≤ 1) (i296_6 : (S 1087 5 = zz_fx p0 8 4095) ∧ 0 ≤ S 1087 5 ∧ S 1087 5 ≤ 4095) (i296_7 : (S 1087 6 = zz_fx p0 20 63) ∧ 0 ≤ S 1087 6 ∧ S 1087 6 ≤ 63) (i296_8 : (S 1087 7 = zz_fx p0 26 31) ∧ 0 ≤ S 1087 7 ∧ S 1087 7 ≤ 31) (i296_9 : (S 1087 8 = zz_fx p0 31 511) ∧ 0 ≤ S 1087 8 ∧ S 1087 8 ≤ 511) (i296_10 : (S 1087 9 = zz_fx p0 40 511) ∧ 0 ≤ S 1087 9 ∧ S 1087 9 ≤ 511) (i296_11 : (S 1087 10 = zz_fx p0 49 1023) ∧ 0 ≤ S 1087 10 ∧ S 1087 10 ≤ 1023) (i296_12 : (S 1087 11 = zz_fx p0 59 31) ∧ 0 ≤ S 1087 11 ∧ S 1087 11 ≤ 31) (i296_13 : 1 ≤ S 1087 0 ∧ S 1087 0 ≤ 9) (i296_14 : (S 1087 0 = 9 ∧ S 1087 6 = 0 ∧ S 1087 7 = 0) ∨ (S 1087 0 ≠ 9 ∧ 1 ≤ S 1087 6 ∧ 1 ≤ S 1087 7 ∧ S 1087 7 ≤ S0 1079 1)) (i296_15 : S 1087 0 = 5 → 1 ≤ S 1087 11 / 2 ∧ S 1087 11 / 2 ≤ S0 1079 1) (i296_16 : zz_sf (S 1087 0) (S 1087 5) (S 1087 6) (S 1087 7) (S 1087 8) (S 1087 9) (S 1087 10) (S 1087 11) = 0) (i296_17 : zz_sh (S 1087 0) (S 1087 6) (S 1087 7) (S0 1079 1) = 0) (i296_18 : zz_nf (S 1087 0) (S 1087 11) (S0 1079 1) = 0) (i296_19 : x4 = zz_tf (S 1087 0) (S 1087 1) (S 1087 2) (S 1087 3) (S 1087 4) (S 1087 11)) (R : Nat) (hR : (17179869184 + 0) = R)  : zz_E g l zy_isIllegal_14_24 zr_isIllegal_14_24 (zz_QI n (zp_isIllegal_14_24 p0 S0)) S n 296 [some (.ref 1079), none, none, none, some (zi x4)] [] 0 0 := by
  refine zz_aload_n (x := 1079) rfl zd_14_24_296 ?_
  have g504 := zz_G.r G_S 1087 0 (-2147483648) 2147483647 rfl rfl
  have g505 := zz_G.r G_S 1087 1 (-2147483648) 2147483647 rfl rfl
  have g506 := zz_G.r G_S 1087 2 (-2147483648) 2147483647 rfl rfl
  have g507 := zz_G.r G_S 1087 3 (-2147483648) 2147483647 rfl rfl
  have g508 := zz_G.r G_S 1087 4 (-2147483648) 2147483647 rfl rfl
  have g509 := zz_G.r G_S 1087 5 (-2147483648) 2147483647 rfl rfl
  have g510 := zz_G.r G_S 1087 6 (-2147483648) 2147483647 rfl rfl
  have g511 := zz_G.r G_S 1087 7 (-2147483648) 2147483647 rfl rfl
  have g512 := zz_G.r G_S 1087 8 (-2147483648) 2147483647 rfl rfl
  have g513 := zz_G.r G_S 1087 9 (-2147483648) 2147483647 rfl rfl
  have g514 := zz_G.r G_S 1087 10 (-2147483648) 2147483647 rfl rfl
  have g515 := zz_G.r G_S 1087 11 (-2147483648) 2147483647 rfl rfl
  have g516 := zz_G.r G_S0 1079 1 2 8 rfl rfl
  have e517 : S 1079 1 = S0 1079 1 := (zz_rc F_S rfl rfl (fun h => h) rfl)
  have g518 := zz_G.r G_S 1088 1 (-2147483648) 2147483647 rfl rfl
  have g519 := zz_G.r G_S 1088 3 (-2147483648) 2147483647 rfl rfl
  have g520 := zz_G.r G_S 1088 5 (-2147483648) 2147483647 rfl rfl
  have g521 := zz_G.r G_S 1088 7 (-2147483648) 2147483647 rfl rfl
  have g522 := zz_G.r G_S 1088 9 (-2147483648) 2147483647 rfl rfl
  have g523 := zz_G.r G_S 1089 1 (-2147483648) 2147483647 rfl rfl
  have g524 := zz_G.r G_S 1089 3 (-2147483648) 2147483647 rfl rfl
  have g525 := zz_G.r G_S 1089 5 (-2147483648) 2147483647 rfl rfl
  have g526 := zz_G.r G_S 1089 7 (-2147483648) 2147483647 rfl rfl
  have g527 := zz_G.r G_S 1089 9 (-2147483648) 2147483647 rfl rfl
  refine zz_callVV [] zd_14_24_297 zk_Md_247 zT_1079 (zz_ltn hn rfl) rfl rfl ⟨Nat.le_of_ble_eq_true rfl, Nat.le_of_ble_eq_true rfl⟩ ⟨rfl, rfl⟩ (Nat.zero_le _) (Nat.zero_le _) (zc_reaches_14_22  S n hn G_S (by omega) (by omega) (by omega) (by omega) (by omega) (by omega) (by omega) (by omega) (by omega) (by omega) (by omega) (by omega)) (fun S528 hP => ?_)
  obtain ⟨G_S528, fS528, o530, o531, o532, o533, o534, o535, o536, o537, o538⟩ := hP
  rw [show S 1079 1 = S0 1079 1 from (zz_rc F_S rfl rfl (fun h => h) rfl)] at o530
  rw [show S 1079 1 = S0 1079 1 from (zz_rc F_S rfl rfl (fun h => h) rfl)] at o531
  rw [show S 1079 1 = S0 1079 1 from (zz_rc F_S rfl rfl (fun h => h) rfl)] at o532
  rw [show S 1079 1 = S0 1079 1 from (zz_rc F_S rfl rfl (fun h => h) rfl)] at o533
  rw [show S 1079 1 = S0 1079 1 from (zz_rc F_S rfl rfl (fun h => h) rfl)] at o534
  rw [show S 1079 1 = S0 1079 1 from (zz_rc F_S rfl rfl (fun h => h) rfl)] at o535
  rw [show S 1079 1 = S0 1079 1 from (zz_rc F_S rfl rfl (fun h => h) rfl)] at o536
  rw [show S 1079 1 = S0 1079 1 from (zz_rc F_S rfl rfl (fun h => h) rfl)] at o537
  have F_S528 := zz_fr.trans F_S fS528 rfl zz_nv
  refine zz_iconst zd_14_24_300 ?_
  refine zz_istore [some (.ref 1079), none, none, none, some (zi x4), none, some (zi 0)] zd_14_24_301 (by decide) rfl ?_
  refine zz_iload (x := 0) rfl zd_14_24_303 ?_
  refine zz_iconst zd_14_24_305 ?_
  refine zz_icmp_ge (by omega) (by omega) zd_14_24_306 (fun c539 => ?_) (fun c539 => ?_)
  · exfalso; omega
  · refine zz_iload (x := x4) rfl zd_14_24_309 ?_
    refine zz_if_ne (by omega) zd_14_24_311 (fun c540 => ?_) (fun c540 => ?_)
    · refine zz_iconst zd_14_24_352 ?_
      refine zz_goto zd_14_24_353 ?_
      refine zz_istore [some (.ref 1079), none, none, none, some (zi 1), none, some (zi 0)] zd_14_24_357 (by decide) rfl ?_
      refine zz_iinc [some (.ref 1079), none, none, none, some (zi 1), none, some (zi 1)] zd_14_24_359 rfl rfl ?_
      refine zz_goto zd_14_24_362 ?_
      refine zz_iload (x := 1) rfl zd_14_24_303 ?_
      refine zz_iconst zd_14_24_305 ?_
      refine zz_icmp_ge (by omega) (by omega) zd_14_24_306 (fun c541 => ?_) (fun c541 => ?_)
      · exfalso; omega
      · refine zz_iload (x := 1) rfl zd_14_24_309 ?_
        refine zz_if_ne (by omega) zd_14_24_311 (fun c542 => ?_) (fun c542 => ?_)
        · refine zz_iconst zd_14_24_352 ?_
          refine zz_goto zd_14_24_353 ?_
          refine zz_istore [some (.ref 1079), none, none, none, some (zi 1), none, some (zi 1)] zd_14_24_357 (by decide) rfl ?_
          refine zz_iinc [some (.ref 1079), none, none, none, some (zi 1), none, some (zi 2)] zd_14_24_359 rfl rfl ?_
          refine zz_goto zd_14_24_362 ?_
          refine zz_iload (x := 2) rfl zd_14_24_303 ?_
          refine zz_iconst zd_14_24_305 ?_
          refine zz_icmp_ge (by omega) (by omega) zd_14_24_306 (fun c543 => ?_) (fun c543 => ?_)
          · exfalso; omega
          · refine zz_iload (x := 1) rfl zd_14_24_309 ?_
            refine zz_if_ne (by omega) zd_14_24_311 (fun c544 => ?_) (fun c544 => ?_)
            · refine zz_iconst zd_14_24_352 ?_
              refine zz_goto zd_14_24_353 ?_
              refine zz_istore [some (.ref 1079), none, none, none, some (zi 1), none, some (zi 2)] zd_14_24_357 (by decide) rfl ?_
              refine zz_iinc [some (.ref 1079), none, none, none, some (zi 1), none, some (zi 3)] zd_14_24_359 rfl rfl ?_
              refine zz_goto zd_14_24_362 ?_
              refine zz_iload (x := 3) rfl zd_14_24_303 ?_
              refine zz_iconst zd_14_24_305 ?_
              refine zz_icmp_ge (by omega) (by omega) zd_14_24_306 (fun c545 => ?_) (fun c545 => ?_)
              · exfalso; omega
              · refine zz_iload (x := 1) rfl zd_14_24_309 ?_
                refine zz_if_ne (by omega) zd_14_24_311 (fun c546 => ?_) (fun c546 => ?_)
                · refine zz_iconst zd_14_24_352 ?_
                  refine zz_goto zd_14_24_353 ?_
                  refine zz_istore [some (.ref 1079), none, none, none, some (zi 1), none, some (zi 3)] zd_14_24_357 (by decide) rfl ?_
                  refine zz_iinc [some (.ref 1079), none, none, none, some (zi 1), none, some (zi 4)] zd_14_24_359 rfl rfl ?_
                  refine zz_goto zd_14_24_362 ?_
                  refine zz_iload (x := 4) rfl zd_14_24_303 ?_
                  refine zz_iconst zd_14_24_305 ?_
                  refine zz_icmp_ge (by omega) (by omega) zd_14_24_306 (fun c547 => ?_) (fun c547 => ?_)
                  · exfalso; omega
                  · refine zz_iload (x := 1) rfl zd_14_24_309 ?_
                    refine zz_if_ne (by omega) zd_14_24_311 (fun c548 => ?_) (fun c548 => ?_)
                    · refine zz_iconst zd_14_24_352 ?_
                      refine zz_goto zd_14_24_353 ?_
                      refine zz_istore [some (.ref 1079), none, none, none, some (zi 1), none, some (zi 4)] zd_14_24_357 (by decide) rfl ?_
                      refine zz_iinc [some (.ref 1079), none, none, none, some (zi 1), none, some (zi 5)] zd_14_24_359 rfl rfl ?_
                      refine zz_goto zd_14_24_362 ?_
                      refine zz_iload (x := 5) rfl zd_14_24_303 ?_
                      refine zz_iconst zd_14_24_305 ?_
                      refine zz_icmp_ge (by omega) (by omega) zd_14_24_306 (fun c549 => ?_) (fun c549 => ?_)
                      · refine zz_iload (x := 1) rfl zd_14_24_365 ?_
                        exact zz_zret zd_14_24_367 rfl (by omega) (Nat.zero_le _) (Nat.zero_le _) ⟨_, _, rfl, G_S528, F_S528, by omega, fun hr => absurd hr (by decide), by rw [← i296_1.1, ← i296_2.1, ← i296_3.1, ← i296_4.1, ← i296_5.1, ← i296_6.1, ← i296_7.1, ← i296_8.1, ← i296_9.1, ← i296_10.1, ← i296_11.1, ← i296_12.1]; exact (Decidable.em (zz_tf (S 1087 0) (S 1087 1) (S 1087 2) (S 1087 3) (S 1087 4) (S 1087 11) = 1)).elim (fun h => (zz_il1 (Or.inr (Or.inr (Or.inr (Or.inl h))))).symm) (fun h => (zz_il1 (Or.inr (Or.inr (Or.inr (Or.inr (zz_re1 (by omega) o530 o531 o532 o533 o534 o535 o536 o537 o538 (by omega))))))).symm)⟩
                      · exfalso; omega
                    · exfalso; omega
                · exfalso; omega
            · exfalso; omega
        · exfalso; omega
    · refine zz_aload_n (x := 1079) rfl zd_14_24_314 ?_
      refine zz_getr (kd := 0) (z := 1088) zd_14_24_315 zf_Md_39 zT_1079 rfl (zz_ltn hn rfl) (zz_G.eq G_S528 1079 12 1088 rfl rfl) (by decide) 1088 rfl ?_
      refine zz_iconst zd_14_24_318 ?_
      refine zz_iload (x := 0) rfl zd_14_24_319 ?_
      refine zz_imul zd_14_24_321 ?_
      refine zz_eqv (v := 0) (by decide) ?_
      refine zz_iconst zd_14_24_322 ?_
      refine zz_iadd zd_14_24_323 ?_
      refine zz_eqv (v := 1) (by decide) ?_
      have g550 := zz_G.r G_S528 1088 1 (-2147483648) 2147483647 rfl rfl
      refine zz_iald (z := S528 1088 1) zd_14_24_324 zT_1088 rfl (zz_ltn hn rfl) (by decide) (by decide) rfl ?_
      refine zz_iload (x := 0) rfl zd_14_24_325 ?_
      refine zz_callSI [zi 0] zd_14_24_327 zk_Md_212 rfl rfl ⟨Nat.le_of_ble_eq_true rfl, Nat.le_of_ble_eq_true rfl⟩ ⟨rfl, rfl⟩ (Nat.zero_le _) (Nat.zero_le _) (zc_roomOf_14_9 0 S528 n hn G_S528 (by omega)) (fun v552 S551 hP => ?_)
      obtain ⟨rfl, o553, o554⟩ := hP
      obtain rfl : v552 = 4096 := by omega
      refine zz_icmp_ge (by omega) (by omega) zd_14_24_330 (fun c555 => ?_) (fun c555 => ?_)
      · refine zz_iconst zd_14_24_352 ?_
        refine zz_goto zd_14_24_353 ?_
        refine zz_istore [some (.ref 1079), none, none, none, some (zi 1), none, some (zi 0)] zd_14_24_357 (by decide) rfl ?_
        refine zz_iinc [some (.ref 1079), none, none, none, some (zi 1), none, some (zi 1)] zd_14_24_359 rfl rfl ?_
        refine zz_goto zd_14_24_362 ?_
        refine zz_iload (x := 1) rfl zd_14_24_303 ?_
        refine zz_iconst zd_14_24_305 ?_
        refine zz_icmp_ge (by omega) (by omega) zd_14_24_306 (fun c556 => ?_) (fun c556 => ?_)
        · exfalso; omega
        · refine zz_iload (x := 1) rfl zd_14_24_309 ?_
          refine zz_if_ne (by omega) zd_14_24_311 (fun c557 => ?_) (fun c557 => ?_)
          · refine zz_iconst zd_14_24_352 ?_
            refine zz_goto zd_14_24_353 ?_
            refine zz_istore [some (.ref 1079), none, none, none, some (zi 1), none, some (zi 1)] zd_14_24_357 (by decide) rfl ?_
            refine zz_iinc [some (.ref 1079), none, none, none, some (zi 1), none, some (zi 2)] zd_14_24_359 rfl rfl ?_
            refine zz_goto zd_14_24_362 ?_
            refine zz_iload (x := 2) rfl zd_14_24_303 ?_
            refine zz_iconst zd_14_24_305 ?_
            refine zz_icmp_ge (by omega) (by omega) zd_14_24_306 (fun c558 => ?_) (fun c558 => ?_)
            · exfalso; omega
            · refine zz_iload (x := 1) rfl zd_14_24_309 ?_
              refine zz_if_ne (by omega) zd_14_24_311 (fun c559 => ?_) (fun c559 => ?_)
              · refine zz_iconst zd_14_24_352 ?_
                refine zz_goto zd_14_24_353 ?_
                refine zz_istore [some (.ref 1079), none, none, none, some (zi 1), none, some (zi 2)] zd_14_24_357 (by decide) rfl ?_
                refine zz_iinc [some (.ref 1079), none, none, none, some (zi 1), none, some (zi 3)] zd_14_24_359 rfl rfl ?_
                refine zz_goto zd_14_24_362 ?_
                refine zz_iload (x := 3) rfl zd_14_24_303 ?_
                refine zz_iconst zd_14_24_305 ?_
                refine zz_icmp_ge (by omega) (by omega) zd_14_24_306 (fun c560 => ?_) (fun c560 => ?_)
                · exfalso; omega
                · refine zz_iload (x := 1) rfl zd_14_24_309 ?_
                  refine zz_if_ne (by omega) zd_14_24_311 (fun c561 => ?_) (fun c561 => ?_)
                  · refine zz_iconst zd_14_24_352 ?_
                    refine zz_goto zd_14_24_353 ?_
                    refine zz_istore [some (.ref 1079), none, none, none, some (zi 1), none, some (zi 3)] zd_14_24_357 (by decide) rfl ?_
                    refine zz_iinc [some (.ref 1079), none, none, none, some (zi 1), none, some (zi 4)] zd_14_24_359 rfl rfl ?_
                    refine zz_goto zd_14_24_362 ?_
                    refine zz_iload (x := 4) rfl zd_14_24_303 ?_
                    refine zz_iconst zd_14_24_305 ?_
                    refine zz_icmp_ge (by omega) (by omega) zd_14_24_306 (fun c562 => ?_) (fun c562 => ?_)
                    · exfalso; omega
                    · refine zz_iload (x := 1) rfl zd_14_24_309 ?_
                      refine zz_if_ne (by omega) zd_14_24_311 (fun c563 => ?_) (fun c563 => ?_)
                      · refine zz_iconst zd_14_24_352 ?_
                        refine zz_goto zd_14_24_353 ?_
                        refine zz_istore [some (.ref 1079), none, none, none, some (zi 1), none, some (zi 4)] zd_14_24_357 (by decide) rfl ?_
                        refine zz_iinc [some (.ref 1079), none, none, none, some (zi 1), none, some (zi 5)] zd_14_24_359 rfl rfl ?_
                        refine zz_goto zd_14_24_362 ?_
                        refine zz_iload (x := 5) rfl zd_14_24_303 ?_
                        refine zz_iconst zd_14_24_305 ?_
                        refine zz_icmp_ge (by omega) (by omega) zd_14_24_306 (fun c564 => ?_) (fun c564 => ?_)
                        · refine zz_iload (x := 1) rfl zd_14_24_365 ?_
                          exact zz_zret zd_14_24_367 rfl (by omega) (Nat.zero_le _) (Nat.zero_le _) ⟨_, _, rfl, G_S528, F_S528, by omega, fun hr => absurd hr (by decide), by rw [← i296_1.1, ← i296_2.1, ← i296_3.1, ← i296_4.1, ← i296_5.1, ← i296_6.1, ← i296_7.1, ← i296_8.1, ← i296_9.1, ← i296_10.1, ← i296_11.1, ← i296_12.1]; exact (Decidable.em (zz_tf (S 1087 0) (S 1087 1) (S 1087 2) (S 1087 3) (S 1087 4) (S 1087 11) = 1)).elim (fun h => (zz_il1 (Or.inr (Or.inr (Or.inr (Or.inl h))))).symm) (fun h => (zz_il1 (Or.inr (Or.inr (Or.inr (Or.inr (zz_re1 (by omega) o530 o531 o532 o533 o534 o535 o536 o537 o538 (by omega))))))).symm)⟩
                        · exfalso; omega
                      · exfalso; omega
                  · exfalso; omega
              · exfalso; omega
          · exfalso; omega
      · refine zz_aload_n (x := 1079) rfl zd_14_24_333 ?_
        refine zz_getr (kd := 0) (z := 1089) zd_14_24_334 zf_Md_42 zT_1079 rfl (zz_ltn hn rfl) (zz_G.eq G_S528 1079 13 1089 rfl rfl) (by decide) 1089 rfl ?_
        refine zz_iconst zd_14_24_337 ?_
        refine zz_iload (x := 0) rfl zd_14_24_338 ?_
        refine zz_imul zd_14_24_340 ?_
        refine zz_eqv (v := 0) (by decide) ?_
        refine zz_iconst zd_14_24_341 ?_
        refine zz_iadd zd_14_24_342 ?_
        refine zz_eqv (v := 1) (by decide) ?_
        have g565 := zz_G.r G_S528 1089 1 (-2147483648) 2147483647 rfl rfl
        refine zz_iald (z := S528 1089 1) zd_14_24_343 zT_1089 rfl (zz_ltn hn rfl) (by decide) (by decide) rfl ?_
        refine zz_iload (x := 0) rfl zd_14_24_344 ?_
        refine zz_callSI [zi 0] zd_14_24_346 zk_Md_212 rfl rfl ⟨Nat.le_of_ble_eq_true rfl, Nat.le_of_ble_eq_true rfl⟩ ⟨rfl, rfl⟩ (Nat.zero_le _) (Nat.zero_le _) (zc_roomOf_14_9 0 S528 n hn G_S528 (by omega)) (fun v567 S566 hP => ?_)
        obtain ⟨rfl, o568, o569⟩ := hP
        obtain rfl : v567 = 4096 := by omega
        refine zz_icmp_lt (by omega) (by omega) zd_14_24_349 (fun c570 => ?_) (fun c570 => ?_)
        · refine zz_iconst zd_14_24_356 ?_
          refine zz_istore [some (.ref 1079), none, none, none, some (zi 0), none, some (zi 0)] zd_14_24_357 (by decide) rfl ?_
          refine zz_iinc [some (.ref 1079), none, none, none, some (zi 0), none, some (zi 1)] zd_14_24_359 rfl rfl ?_
          refine zz_goto zd_14_24_362 ?_
          refine zz_iload (x := 1) rfl zd_14_24_303 ?_
          refine zz_iconst zd_14_24_305 ?_
          refine zz_icmp_ge (by omega) (by omega) zd_14_24_306 (fun c571 => ?_) (fun c571 => ?_)
          · exfalso; omega
          · refine zz_iload (x := 0) rfl zd_14_24_309 ?_
            refine zz_if_ne (by omega) zd_14_24_311 (fun c572 => ?_) (fun c572 => ?_)
            · exfalso; omega
            · refine zz_aload_n (x := 1079) rfl zd_14_24_314 ?_
              refine zz_getr (kd := 0) (z := 1088) zd_14_24_315 zf_Md_39 zT_1079 rfl (zz_ltn hn rfl) (zz_G.eq G_S528 1079 12 1088 rfl rfl) (by decide) 1088 rfl ?_
              refine zz_iconst zd_14_24_318 ?_
              refine zz_iload (x := 1) rfl zd_14_24_319 ?_
              refine zz_imul zd_14_24_321 ?_
              refine zz_eqv (v := 2) (by decide) ?_
              refine zz_iconst zd_14_24_322 ?_
              refine zz_iadd zd_14_24_323 ?_
              refine zz_eqv (v := 3) (by decide) ?_
              have g573 := zz_G.r G_S528 1088 3 (-2147483648) 2147483647 rfl rfl
              refine zz_iald (z := S528 1088 3) zd_14_24_324 zT_1088 rfl (zz_ltn hn rfl) (by decide) (by decide) rfl ?_
              refine zz_iload (x := 1) rfl zd_14_24_325 ?_
              refine zz_callSI [zi 1] zd_14_24_327 zk_Md_212 rfl rfl ⟨Nat.le_of_ble_eq_true rfl, Nat.le_of_ble_eq_true rfl⟩ ⟨rfl, rfl⟩ (Nat.zero_le _) (Nat.zero_le _) (zc_roomOf_14_9 1 S528 n hn G_S528 (by omega)) (fun v575 S574 hP => ?_)
              obtain ⟨rfl, o576, o577⟩ := hP
              obtain rfl : v575 = 512 := by omega
              refine zz_icmp_ge (by omega) (by omega) zd_14_24_330 (fun c578 => ?_) (fun c578 => ?_)
              · refine zz_iconst zd_14_24_352 ?_
                refine zz_goto zd_14_24_353 ?_
                refine zz_istore [some (.ref 1079), none, none, none, some (zi 1), none, some (zi 1)] zd_14_24_357 (by decide) rfl ?_
                refine zz_iinc [some (.ref 1079), none, none, none, some (zi 1), none, some (zi 2)] zd_14_24_359 rfl rfl ?_
                refine zz_goto zd_14_24_362 ?_
                refine zz_iload (x := 2) rfl zd_14_24_303 ?_
                refine zz_iconst zd_14_24_305 ?_
                refine zz_icmp_ge (by omega) (by omega) zd_14_24_306 (fun c579 => ?_) (fun c579 => ?_)
                · exfalso; omega
                · refine zz_iload (x := 1) rfl zd_14_24_309 ?_
                  refine zz_if_ne (by omega) zd_14_24_311 (fun c580 => ?_) (fun c580 => ?_)
                  · refine zz_iconst zd_14_24_352 ?_
                    refine zz_goto zd_14_24_353 ?_
                    refine zz_istore [some (.ref 1079), none, none, none, some (zi 1), none, some (zi 2)] zd_14_24_357 (by decide) rfl ?_
                    refine zz_iinc [some (.ref 1079), none, none, none, some (zi 1), none, some (zi 3)] zd_14_24_359 rfl rfl ?_
                    refine zz_goto zd_14_24_362 ?_
                    refine zz_iload (x := 3) rfl zd_14_24_303 ?_
                    refine zz_iconst zd_14_24_305 ?_
                    refine zz_icmp_ge (by omega) (by omega) zd_14_24_306 (fun c581 => ?_) (fun c581 => ?_)
                    · exfalso; omega
                    · refine zz_iload (x := 1) rfl zd_14_24_309 ?_
                      refine zz_if_ne (by omega) zd_14_24_311 (fun c582 => ?_) (fun c582 => ?_)
                      · refine zz_iconst zd_14_24_352 ?_
                        refine zz_goto zd_14_24_353 ?_
                        refine zz_istore [some (.ref 1079), none, none, none, some (zi 1), none, some (zi 3)] zd_14_24_357 (by decide) rfl ?_
                        refine zz_iinc [some (.ref 1079), none, none, none, some (zi 1), none, some (zi 4)] zd_14_24_359 rfl rfl ?_
                        refine zz_goto zd_14_24_362 ?_
                        refine zz_iload (x := 4) rfl zd_14_24_303 ?_
                        refine zz_iconst zd_14_24_305 ?_
                        refine zz_icmp_ge (by omega) (by omega) zd_14_24_306 (fun c583 => ?_) (fun c583 => ?_)
                        · exfalso; omega
                        · refine zz_iload (x := 1) rfl zd_14_24_309 ?_
                          refine zz_if_ne (by omega) zd_14_24_311 (fun c584 => ?_) (fun c584 => ?_)
                          · refine zz_iconst zd_14_24_352 ?_
                            refine zz_goto zd_14_24_353 ?_
                            refine zz_istore [some (.ref 1079), none, none, none, some (zi 1), none, some (zi 4)] zd_14_24_357 (by decide) rfl ?_
                            refine zz_iinc [some (.ref 1079), none, none, none, some (zi 1), none, some (zi 5)] zd_14_24_359 rfl rfl ?_
                            refine zz_goto zd_14_24_362 ?_
                            refine zz_iload (x := 5) rfl zd_14_24_303 ?_
                            refine zz_iconst zd_14_24_305 ?_
                            refine zz_icmp_ge (by omega) (by omega) zd_14_24_306 (fun c585 => ?_) (fun c585 => ?_)
                            · refine zz_iload (x := 1) rfl zd_14_24_365 ?_
                              exact zz_zret zd_14_24_367 rfl (by omega) (Nat.zero_le _) (Nat.zero_le _) ⟨_, _, rfl, G_S528, F_S528, by omega, fun hr => absurd hr (by decide), by rw [← i296_1.1, ← i296_2.1, ← i296_3.1, ← i296_4.1, ← i296_5.1, ← i296_6.1, ← i296_7.1, ← i296_8.1, ← i296_9.1, ← i296_10.1, ← i296_11.1, ← i296_12.1]; exact (Decidable.em (zz_tf (S 1087 0) (S 1087 1) (S 1087 2) (S 1087 3) (S 1087 4) (S 1087 11) = 1)).elim (fun h => (zz_il1 (Or.inr (Or.inr (Or.inr (Or.inl h))))).symm) (fun h => (zz_il1 (Or.inr (Or.inr (Or.inr (Or.inr (zz_re1 (by omega) o530 o531 o532 o533 o534 o535 o536 o537 o538 (by omega))))))).symm)⟩
                            · exfalso; omega
                          · exfalso; omega
                      · exfalso; omega
                  · exfalso; omega
              · refine zz_aload_n (x := 1079) rfl zd_14_24_333 ?_
                refine zz_getr (kd := 0) (z := 1089) zd_14_24_334 zf_Md_42 zT_1079 rfl (zz_ltn hn rfl) (zz_G.eq G_S528 1079 13 1089 rfl rfl) (by decide) 1089 rfl ?_
                refine zz_iconst zd_14_24_337 ?_
                refine zz_iload (x := 1) rfl zd_14_24_338 ?_
                refine zz_imul zd_14_24_340 ?_
                refine zz_eqv (v := 2) (by decide) ?_
                refine zz_iconst zd_14_24_341 ?_
                refine zz_iadd zd_14_24_342 ?_
                refine zz_eqv (v := 3) (by decide) ?_
                have g586 := zz_G.r G_S528 1089 3 (-2147483648) 2147483647 rfl rfl
                refine zz_iald (z := S528 1089 3) zd_14_24_343 zT_1089 rfl (zz_ltn hn rfl) (by decide) (by decide) rfl ?_
                refine zz_iload (x := 1) rfl zd_14_24_344 ?_
                refine zz_callSI [zi 1] zd_14_24_346 zk_Md_212 rfl rfl ⟨Nat.le_of_ble_eq_true rfl, Nat.le_of_ble_eq_true rfl⟩ ⟨rfl, rfl⟩ (Nat.zero_le _) (Nat.zero_le _) (zc_roomOf_14_9 1 S528 n hn G_S528 (by omega)) (fun v588 S587 hP => ?_)
                obtain ⟨rfl, o589, o590⟩ := hP
                obtain rfl : v588 = 512 := by omega
                refine zz_icmp_lt (by omega) (by omega) zd_14_24_349 (fun c591 => ?_) (fun c591 => ?_)
                · refine zz_iconst zd_14_24_356 ?_
                  refine zz_istore [some (.ref 1079), none, none, none, some (zi 0), none, some (zi 1)] zd_14_24_357 (by decide) rfl ?_
                  refine zz_iinc [some (.ref 1079), none, none, none, some (zi 0), none, some (zi 2)] zd_14_24_359 rfl rfl ?_
                  refine zz_goto zd_14_24_362 ?_
                  refine zz_iload (x := 2) rfl zd_14_24_303 ?_
                  refine zz_iconst zd_14_24_305 ?_
                  refine zz_icmp_ge (by omega) (by omega) zd_14_24_306 (fun c592 => ?_) (fun c592 => ?_)
                  · exfalso; omega
                  · refine zz_iload (x := 0) rfl zd_14_24_309 ?_
                    refine zz_if_ne (by omega) zd_14_24_311 (fun c593 => ?_) (fun c593 => ?_)
                    · exfalso; omega
                    · refine zz_aload_n (x := 1079) rfl zd_14_24_314 ?_
                      refine zz_getr (kd := 0) (z := 1088) zd_14_24_315 zf_Md_39 zT_1079 rfl (zz_ltn hn rfl) (zz_G.eq G_S528 1079 12 1088 rfl rfl) (by decide) 1088 rfl ?_
                      refine zz_iconst zd_14_24_318 ?_
                      refine zz_iload (x := 2) rfl zd_14_24_319 ?_
                      refine zz_imul zd_14_24_321 ?_
                      refine zz_eqv (v := 4) (by decide) ?_
                      refine zz_iconst zd_14_24_322 ?_
                      refine zz_iadd zd_14_24_323 ?_
                      refine zz_eqv (v := 5) (by decide) ?_
                      have g594 := zz_G.r G_S528 1088 5 (-2147483648) 2147483647 rfl rfl
                      refine zz_iald (z := S528 1088 5) zd_14_24_324 zT_1088 rfl (zz_ltn hn rfl) (by decide) (by decide) rfl ?_
                      refine zz_iload (x := 2) rfl zd_14_24_325 ?_
                      refine zz_callSI [zi 2] zd_14_24_327 zk_Md_212 rfl rfl ⟨Nat.le_of_ble_eq_true rfl, Nat.le_of_ble_eq_true rfl⟩ ⟨rfl, rfl⟩ (Nat.zero_le _) (Nat.zero_le _) (zc_roomOf_14_9 2 S528 n hn G_S528 (by omega)) (fun v596 S595 hP => ?_)
                      obtain ⟨rfl, o597, o598⟩ := hP
                      obtain rfl : v596 = 512 := by omega
                      refine zz_icmp_ge (by omega) (by omega) zd_14_24_330 (fun c599 => ?_) (fun c599 => ?_)
                      · refine zz_iconst zd_14_24_352 ?_
                        refine zz_goto zd_14_24_353 ?_
                        refine zz_istore [some (.ref 1079), none, none, none, some (zi 1), none, some (zi 2)] zd_14_24_357 (by decide) rfl ?_
                        refine zz_iinc [some (.ref 1079), none, none, none, some (zi 1), none, some (zi 3)] zd_14_24_359 rfl rfl ?_
                        refine zz_goto zd_14_24_362 ?_
                        refine zz_iload (x := 3) rfl zd_14_24_303 ?_
                        refine zz_iconst zd_14_24_305 ?_
                        refine zz_icmp_ge (by omega) (by omega) zd_14_24_306 (fun c600 => ?_) (fun c600 => ?_)
                        · exfalso; omega
                        · refine zz_iload (x := 1) rfl zd_14_24_309 ?_
                          refine zz_if_ne (by omega) zd_14_24_311 (fun c601 => ?_) (fun c601 => ?_)
                          · refine zz_iconst zd_14_24_352 ?_
                            refine zz_goto zd_14_24_353 ?_
                            refine zz_istore [some (.ref 1079), none, none, none, some (zi 1), none, some (zi 3)] zd_14_24_357 (by decide) rfl ?_
                            refine zz_iinc [some (.ref 1079), none, none, none, some (zi 1), none, some (zi 4)] zd_14_24_359 rfl rfl ?_
                            refine zz_goto zd_14_24_362 ?_
                            refine zz_iload (x := 4) rfl zd_14_24_303 ?_
                            refine zz_iconst zd_14_24_305 ?_
                            refine zz_icmp_ge (by omega) (by omega) zd_14_24_306 (fun c602 => ?_) (fun c602 => ?_)
                            · exfalso; omega
                            · refine zz_iload (x := 1) rfl zd_14_24_309 ?_
                              refine zz_if_ne (by omega) zd_14_24_311 (fun c603 => ?_) (fun c603 => ?_)
                              · refine zz_iconst zd_14_24_352 ?_
                                refine zz_goto zd_14_24_353 ?_
                                refine zz_istore [some (.ref 1079), none, none, none, some (zi 1), none, some (zi 4)] zd_14_24_357 (by decide) rfl ?_
                                refine zz_iinc [some (.ref 1079), none, none, none, some (zi 1), none, some (zi 5)] zd_14_24_359 rfl rfl ?_
                                refine zz_goto zd_14_24_362 ?_
                                refine zz_iload (x := 5) rfl zd_14_24_303 ?_
                                refine zz_iconst zd_14_24_305 ?_
                                refine zz_icmp_ge (by omega) (by omega) zd_14_24_306 (fun c604 => ?_) (fun c604 => ?_)
                                · refine zz_iload (x := 1) rfl zd_14_24_365 ?_
                                  exact zz_zret zd_14_24_367 rfl (by omega) (Nat.zero_le _) (Nat.zero_le _) ⟨_, _, rfl, G_S528, F_S528, by omega, fun hr => absurd hr (by decide), by rw [← i296_1.1, ← i296_2.1, ← i296_3.1, ← i296_4.1, ← i296_5.1, ← i296_6.1, ← i296_7.1, ← i296_8.1, ← i296_9.1, ← i296_10.1, ← i296_11.1, ← i296_12.1]; exact (Decidable.em (zz_tf (S 1087 0) (S 1087 1) (S 1087 2) (S 1087 3) (S 1087 4) (S 1087 11) = 1)).elim (fun h => (zz_il1 (Or.inr (Or.inr (Or.inr (Or.inl h))))).symm) (fun h => (zz_il1 (Or.inr (Or.inr (Or.inr (Or.inr (zz_re1 (by omega) o530 o531 o532 o533 o534 o535 o536 o537 o538 (by omega))))))).symm)⟩
                                · exfalso; omega
                              · exfalso; omega
                          · exfalso; omega
                      · refine zz_aload_n (x := 1079) rfl zd_14_24_333 ?_
                        refine zz_getr (kd := 0) (z := 1089) zd_14_24_334 zf_Md_42 zT_1079 rfl (zz_ltn hn rfl) (zz_G.eq G_S528 1079 13 1089 rfl rfl) (by decide) 1089 rfl ?_
                        refine zz_iconst zd_14_24_337 ?_
                        refine zz_iload (x := 2) rfl zd_14_24_338 ?_
                        refine zz_imul zd_14_24_340 ?_
                        refine zz_eqv (v := 4) (by decide) ?_
                        refine zz_iconst zd_14_24_341 ?_
                        refine zz_iadd zd_14_24_342 ?_
                        refine zz_eqv (v := 5) (by decide) ?_
                        have g605 := zz_G.r G_S528 1089 5 (-2147483648) 2147483647 rfl rfl
                        refine zz_iald (z := S528 1089 5) zd_14_24_343 zT_1089 rfl (zz_ltn hn rfl) (by decide) (by decide) rfl ?_
                        refine zz_iload (x := 2) rfl zd_14_24_344 ?_
                        refine zz_callSI [zi 2] zd_14_24_346 zk_Md_212 rfl rfl ⟨Nat.le_of_ble_eq_true rfl, Nat.le_of_ble_eq_true rfl⟩ ⟨rfl, rfl⟩ (Nat.zero_le _) (Nat.zero_le _) (zc_roomOf_14_9 2 S528 n hn G_S528 (by omega)) (fun v607 S606 hP => ?_)
                        obtain ⟨rfl, o608, o609⟩ := hP
                        obtain rfl : v607 = 512 := by omega
                        refine zz_icmp_lt (by omega) (by omega) zd_14_24_349 (fun c610 => ?_) (fun c610 => ?_)
                        · refine zz_iconst zd_14_24_356 ?_
                          refine zz_istore [some (.ref 1079), none, none, none, some (zi 0), none, some (zi 2)] zd_14_24_357 (by decide) rfl ?_
                          refine zz_iinc [some (.ref 1079), none, none, none, some (zi 0), none, some (zi 3)] zd_14_24_359 rfl rfl ?_
                          refine zz_goto zd_14_24_362 ?_
                          refine zz_iload (x := 3) rfl zd_14_24_303 ?_
                          refine zz_iconst zd_14_24_305 ?_
                          refine zz_icmp_ge (by omega) (by omega) zd_14_24_306 (fun c611 => ?_) (fun c611 => ?_)
                          · exfalso; omega
                          · refine zz_iload (x := 0) rfl zd_14_24_309 ?_
                            refine zz_if_ne (by omega) zd_14_24_311 (fun c612 => ?_) (fun c612 => ?_)
                            · exfalso; omega
                            · refine zz_aload_n (x := 1079) rfl zd_14_24_314 ?_
                              refine zz_getr (kd := 0) (z := 1088) zd_14_24_315 zf_Md_39 zT_1079 rfl (zz_ltn hn rfl) (zz_G.eq G_S528 1079 12 1088 rfl rfl) (by decide) 1088 rfl ?_
                              refine zz_iconst zd_14_24_318 ?_
                              refine zz_iload (x := 3) rfl zd_14_24_319 ?_
                              refine zz_imul zd_14_24_321 ?_
                              refine zz_eqv (v := 6) (by decide) ?_
                              refine zz_iconst zd_14_24_322 ?_
                              refine zz_iadd zd_14_24_323 ?_
                              refine zz_eqv (v := 7) (by decide) ?_
                              have g613 := zz_G.r G_S528 1088 7 (-2147483648) 2147483647 rfl rfl
                              refine zz_iald (z := S528 1088 7) zd_14_24_324 zT_1088 rfl (zz_ltn hn rfl) (by decide) (by decide) rfl ?_
                              refine zz_iload (x := 3) rfl zd_14_24_325 ?_
                              refine zz_callSI [zi 3] zd_14_24_327 zk_Md_212 rfl rfl ⟨Nat.le_of_ble_eq_true rfl, Nat.le_of_ble_eq_true rfl⟩ ⟨rfl, rfl⟩ (Nat.zero_le _) (Nat.zero_le _) (zc_roomOf_14_9 3 S528 n hn G_S528 (by omega)) (fun v615 S614 hP => ?_)
                              obtain ⟨rfl, o616, o617⟩ := hP
                              obtain rfl : v615 = 256 := by omega
                              refine zz_icmp_ge (by omega) (by omega) zd_14_24_330 (fun c618 => ?_) (fun c618 => ?_)
                              · refine zz_iconst zd_14_24_352 ?_
                                refine zz_goto zd_14_24_353 ?_
                                refine zz_istore [some (.ref 1079), none, none, none, some (zi 1), none, some (zi 3)] zd_14_24_357 (by decide) rfl ?_
                                refine zz_iinc [some (.ref 1079), none, none, none, some (zi 1), none, some (zi 4)] zd_14_24_359 rfl rfl ?_
                                refine zz_goto zd_14_24_362 ?_
                                refine zz_iload (x := 4) rfl zd_14_24_303 ?_
                                refine zz_iconst zd_14_24_305 ?_
                                refine zz_icmp_ge (by omega) (by omega) zd_14_24_306 (fun c619 => ?_) (fun c619 => ?_)
                                · exfalso; omega
                                · refine zz_iload (x := 1) rfl zd_14_24_309 ?_
                                  refine zz_if_ne (by omega) zd_14_24_311 (fun c620 => ?_) (fun c620 => ?_)
                                  · refine zz_iconst zd_14_24_352 ?_
                                    refine zz_goto zd_14_24_353 ?_
                                    refine zz_istore [some (.ref 1079), none, none, none, some (zi 1), none, some (zi 4)] zd_14_24_357 (by decide) rfl ?_
                                    refine zz_iinc [some (.ref 1079), none, none, none, some (zi 1), none, some (zi 5)] zd_14_24_359 rfl rfl ?_
                                    refine zz_goto zd_14_24_362 ?_
                                    refine zz_iload (x := 5) rfl zd_14_24_303 ?_
                                    refine zz_iconst zd_14_24_305 ?_
                                    refine zz_icmp_ge (by omega) (by omega) zd_14_24_306 (fun c621 => ?_) (fun c621 => ?_)
                                    · refine zz_iload (x := 1) rfl zd_14_24_365 ?_
                                      exact zz_zret zd_14_24_367 rfl (by omega) (Nat.zero_le _) (Nat.zero_le _) ⟨_, _, rfl, G_S528, F_S528, by omega, fun hr => absurd hr (by decide), by rw [← i296_1.1, ← i296_2.1, ← i296_3.1, ← i296_4.1, ← i296_5.1, ← i296_6.1, ← i296_7.1, ← i296_8.1, ← i296_9.1, ← i296_10.1, ← i296_11.1, ← i296_12.1]; exact (Decidable.em (zz_tf (S 1087 0) (S 1087 1) (S 1087 2) (S 1087 3) (S 1087 4) (S 1087 11) = 1)).elim (fun h => (zz_il1 (Or.inr (Or.inr (Or.inr (Or.inl h))))).symm) (fun h => (zz_il1 (Or.inr (Or.inr (Or.inr (Or.inr (zz_re1 (by omega) o530 o531 o532 o533 o534 o535 o536 o537 o538 (by omega))))))).symm)⟩
                                    · exfalso; omega
                                  · exfalso; omega
                              · refine zz_aload_n (x := 1079) rfl zd_14_24_333 ?_
                                refine zz_getr (kd := 0) (z := 1089) zd_14_24_334 zf_Md_42 zT_1079 rfl (zz_ltn hn rfl) (zz_G.eq G_S528 1079 13 1089 rfl rfl) (by decide) 1089 rfl ?_
                                refine zz_iconst zd_14_24_337 ?_
                                refine zz_iload (x := 3) rfl zd_14_24_338 ?_
                                refine zz_imul zd_14_24_340 ?_
                                refine zz_eqv (v := 6) (by decide) ?_
                                refine zz_iconst zd_14_24_341 ?_
                                refine zz_iadd zd_14_24_342 ?_
                                refine zz_eqv (v := 7) (by decide) ?_
                                have g622 := zz_G.r G_S528 1089 7 (-2147483648) 2147483647 rfl rfl
                                refine zz_iald (z := S528 1089 7) zd_14_24_343 zT_1089 rfl (zz_ltn hn rfl) (by decide) (by decide) rfl ?_
                                refine zz_iload (x := 3) rfl zd_14_24_344 ?_
                                refine zz_callSI [zi 3] zd_14_24_346 zk_Md_212 rfl rfl ⟨Nat.le_of_ble_eq_true rfl, Nat.le_of_ble_eq_true rfl⟩ ⟨rfl, rfl⟩ (Nat.zero_le _) (Nat.zero_le _) (zc_roomOf_14_9 3 S528 n hn G_S528 (by omega)) (fun v624 S623 hP => ?_)
                                obtain ⟨rfl, o625, o626⟩ := hP
                                obtain rfl : v624 = 256 := by omega
                                refine zz_icmp_lt (by omega) (by omega) zd_14_24_349 (fun c627 => ?_) (fun c627 => ?_)
                                · refine zz_iconst zd_14_24_356 ?_
                                  refine zz_istore [some (.ref 1079), none, none, none, some (zi 0), none, some (zi 3)] zd_14_24_357 (by decide) rfl ?_
                                  refine zz_iinc [some (.ref 1079), none, none, none, some (zi 0), none, some (zi 4)] zd_14_24_359 rfl rfl ?_
                                  refine zz_goto zd_14_24_362 ?_
                                  refine zz_iload (x := 4) rfl zd_14_24_303 ?_
                                  refine zz_iconst zd_14_24_305 ?_
                                  refine zz_icmp_ge (by omega) (by omega) zd_14_24_306 (fun c628 => ?_) (fun c628 => ?_)
                                  · exfalso; omega
                                  · refine zz_iload (x := 0) rfl zd_14_24_309 ?_
                                    refine zz_if_ne (by omega) zd_14_24_311 (fun c629 => ?_) (fun c629 => ?_)
                                    · exfalso; omega
                                    · refine zz_aload_n (x := 1079) rfl zd_14_24_314 ?_
                                      refine zz_getr (kd := 0) (z := 1088) zd_14_24_315 zf_Md_39 zT_1079 rfl (zz_ltn hn rfl) (zz_G.eq G_S528 1079 12 1088 rfl rfl) (by decide) 1088 rfl ?_
                                      refine zz_iconst zd_14_24_318 ?_
                                      refine zz_iload (x := 4) rfl zd_14_24_319 ?_
                                      refine zz_imul zd_14_24_321 ?_
                                      refine zz_eqv (v := 8) (by decide) ?_
                                      refine zz_iconst zd_14_24_322 ?_
                                      refine zz_iadd zd_14_24_323 ?_
                                      refine zz_eqv (v := 9) (by decide) ?_
                                      have g630 := zz_G.r G_S528 1088 9 (-2147483648) 2147483647 rfl rfl
                                      refine zz_iald (z := S528 1088 9) zd_14_24_324 zT_1088 rfl (zz_ltn hn rfl) (by decide) (by decide) rfl ?_
                                      refine zz_iload (x := 4) rfl zd_14_24_325 ?_
                                      refine zz_callSI [zi 4] zd_14_24_327 zk_Md_212 rfl rfl ⟨Nat.le_of_ble_eq_true rfl, Nat.le_of_ble_eq_true rfl⟩ ⟨rfl, rfl⟩ (Nat.zero_le _) (Nat.zero_le _) (zc_roomOf_14_9 4 S528 n hn G_S528 (by omega)) (fun v632 S631 hP => ?_)
                                      obtain ⟨rfl, o633, o634⟩ := hP
                                      obtain rfl : v632 = 256 := by omega
                                      refine zz_icmp_ge (by omega) (by omega) zd_14_24_330 (fun c635 => ?_) (fun c635 => ?_)
                                      · refine zz_iconst zd_14_24_352 ?_
                                        refine zz_goto zd_14_24_353 ?_
                                        refine zz_istore [some (.ref 1079), none, none, none, some (zi 1), none, some (zi 4)] zd_14_24_357 (by decide) rfl ?_
                                        refine zz_iinc [some (.ref 1079), none, none, none, some (zi 1), none, some (zi 5)] zd_14_24_359 rfl rfl ?_
                                        refine zz_goto zd_14_24_362 ?_
                                        refine zz_iload (x := 5) rfl zd_14_24_303 ?_
                                        refine zz_iconst zd_14_24_305 ?_
                                        refine zz_icmp_ge (by omega) (by omega) zd_14_24_306 (fun c636 => ?_) (fun c636 => ?_)
                                        · refine zz_iload (x := 1) rfl zd_14_24_365 ?_
                                          exact zz_zret zd_14_24_367 rfl (by omega) (Nat.zero_le _) (Nat.zero_le _) ⟨_, _, rfl, G_S528, F_S528, by omega, fun hr => absurd hr (by decide), by rw [← i296_1.1, ← i296_2.1, ← i296_3.1, ← i296_4.1, ← i296_5.1, ← i296_6.1, ← i296_7.1, ← i296_8.1, ← i296_9.1, ← i296_10.1, ← i296_11.1, ← i296_12.1]; exact (Decidable.em (zz_tf (S 1087 0) (S 1087 1) (S 1087 2) (S 1087 3) (S 1087 4) (S 1087 11) = 1)).elim (fun h => (zz_il1 (Or.inr (Or.inr (Or.inr (Or.inl h))))).symm) (fun h => (zz_il1 (Or.inr (Or.inr (Or.inr (Or.inr (zz_re1 (by omega) o530 o531 o532 o533 o534 o535 o536 o537 o538 (by omega))))))).symm)⟩
                                        · exfalso; omega
                                      · refine zz_aload_n (x := 1079) rfl zd_14_24_333 ?_
                                        refine zz_getr (kd := 0) (z := 1089) zd_14_24_334 zf_Md_42 zT_1079 rfl (zz_ltn hn rfl) (zz_G.eq G_S528 1079 13 1089 rfl rfl) (by decide) 1089 rfl ?_
                                        refine zz_iconst zd_14_24_337 ?_
                                        refine zz_iload (x := 4) rfl zd_14_24_338 ?_
                                        refine zz_imul zd_14_24_340 ?_
                                        refine zz_eqv (v := 8) (by decide) ?_
                                        refine zz_iconst zd_14_24_341 ?_
                                        refine zz_iadd zd_14_24_342 ?_
                                        refine zz_eqv (v := 9) (by decide) ?_
                                        have g637 := zz_G.r G_S528 1089 9 (-2147483648) 2147483647 rfl rfl
                                        refine zz_iald (z := S528 1089 9) zd_14_24_343 zT_1089 rfl (zz_ltn hn rfl) (by decide) (by decide) rfl ?_
                                        refine zz_iload (x := 4) rfl zd_14_24_344 ?_
                                        refine zz_callSI [zi 4] zd_14_24_346 zk_Md_212 rfl rfl ⟨Nat.le_of_ble_eq_true rfl, Nat.le_of_ble_eq_true rfl⟩ ⟨rfl, rfl⟩ (Nat.zero_le _) (Nat.zero_le _) (zc_roomOf_14_9 4 S528 n hn G_S528 (by omega)) (fun v639 S638 hP => ?_)
                                        obtain ⟨rfl, o640, o641⟩ := hP
                                        obtain rfl : v639 = 256 := by omega
                                        refine zz_icmp_lt (by omega) (by omega) zd_14_24_349 (fun c642 => ?_) (fun c642 => ?_)
                                        · refine zz_iconst zd_14_24_356 ?_
                                          refine zz_istore [some (.ref 1079), none, none, none, some (zi 0), none, some (zi 4)] zd_14_24_357 (by decide) rfl ?_
                                          refine zz_iinc [some (.ref 1079), none, none, none, some (zi 0), none, some (zi 5)] zd_14_24_359 rfl rfl ?_
                                          refine zz_goto zd_14_24_362 ?_
                                          refine zz_iload (x := 5) rfl zd_14_24_303 ?_
                                          refine zz_iconst zd_14_24_305 ?_
                                          refine zz_icmp_ge (by omega) (by omega) zd_14_24_306 (fun c643 => ?_) (fun c643 => ?_)
                                          · refine zz_iload (x := 0) rfl zd_14_24_365 ?_
                                            exact zz_zret zd_14_24_367 rfl (by omega) (Nat.zero_le _) (Nat.zero_le _) ⟨_, _, rfl, G_S528, F_S528, by omega, fun _ => by unfold zz_lgl; rw [← i296_1.1, ← i296_6.1, ← i296_7.1, ← i296_8.1, ← i296_9.1, ← i296_10.1, ← i296_11.1, ← i296_12.1]; exact zz_lg_mk2 i296_13 i296_14 i296_15 o530 o531 o532 o533 o534 o535 o536 o537 o538 ⟨by assumption, by assumption, by assumption, by assumption, by assumption, by assumption, by assumption, by assumption, by assumption, by assumption⟩, by rw [← i296_1.1, ← i296_2.1, ← i296_3.1, ← i296_4.1, ← i296_5.1, ← i296_6.1, ← i296_7.1, ← i296_8.1, ← i296_9.1, ← i296_10.1, ← i296_11.1, ← i296_12.1]; exact (zz_il0 i296_16 i296_17 i296_18 (by omega) (zz_re0 (by omega) o530 o531 o532 o533 o534 o535 o536 o537 o538 ⟨by assumption, by assumption, by assumption, by assumption, by assumption, by assumption, by assumption, by assumption, by assumption, by assumption⟩)).symm⟩
                                          · exfalso; omega
                                        · refine zz_iconst zd_14_24_352 ?_
                                          refine zz_goto zd_14_24_353 ?_
                                          refine zz_istore [some (.ref 1079), none, none, none, some (zi 1), none, some (zi 4)] zd_14_24_357 (by decide) rfl ?_
                                          refine zz_iinc [some (.ref 1079), none, none, none, some (zi 1), none, some (zi 5)] zd_14_24_359 rfl rfl ?_
                                          refine zz_goto zd_14_24_362 ?_
                                          refine zz_iload (x := 5) rfl zd_14_24_303 ?_
                                          refine zz_iconst zd_14_24_305 ?_
                                          refine zz_icmp_ge (by omega) (by omega) zd_14_24_306 (fun c644 => ?_) (fun c644 => ?_)
                                          · refine zz_iload (x := 1) rfl zd_14_24_365 ?_
                                            exact zz_zret zd_14_24_367 rfl (by omega) (Nat.zero_le _) (Nat.zero_le _) ⟨_, _, rfl, G_S528, F_S528, by omega, fun hr => absurd hr (by decide), by rw [← i296_1.1, ← i296_2.1, ← i296_3.1, ← i296_4.1, ← i296_5.1, ← i296_6.1, ← i296_7.1, ← i296_8.1, ← i296_9.1, ← i296_10.1, ← i296_11.1, ← i296_12.1]; exact (Decidable.em (zz_tf (S 1087 0) (S 1087 1) (S 1087 2) (S 1087 3) (S 1087 4) (S 1087 11) = 1)).elim (fun h => (zz_il1 (Or.inr (Or.inr (Or.inr (Or.inl h))))).symm) (fun h => (zz_il1 (Or.inr (Or.inr (Or.inr (Or.inr (zz_re1 (by omega) o530 o531 o532 o533 o534 o535 o536 o537 o538 (by omega))))))).symm)⟩
                                          · exfalso; omega
                                · refine zz_iconst zd_14_24_352 ?_
                                  refine zz_goto zd_14_24_353 ?_
                                  refine zz_istore [some (.ref 1079), none, none, none, some (zi 1), none, some (zi 3)] zd_14_24_357 (by decide) rfl ?_
                                  refine zz_iinc [some (.ref 1079), none, none, none, some (zi 1), none, some (zi 4)] zd_14_24_359 rfl rfl ?_
                                  refine zz_goto zd_14_24_362 ?_
                                  refine zz_iload (x := 4) rfl zd_14_24_303 ?_
                                  refine zz_iconst zd_14_24_305 ?_
                                  refine zz_icmp_ge (by omega) (by omega) zd_14_24_306 (fun c645 => ?_) (fun c645 => ?_)
                                  · exfalso; omega
                                  · refine zz_iload (x := 1) rfl zd_14_24_309 ?_
                                    refine zz_if_ne (by omega) zd_14_24_311 (fun c646 => ?_) (fun c646 => ?_)
                                    · refine zz_iconst zd_14_24_352 ?_
                                      refine zz_goto zd_14_24_353 ?_
                                      refine zz_istore [some (.ref 1079), none, none, none, some (zi 1), none, some (zi 4)] zd_14_24_357 (by decide) rfl ?_
                                      refine zz_iinc [some (.ref 1079), none, none, none, some (zi 1), none, some (zi 5)] zd_14_24_359 rfl rfl ?_
                                      refine zz_goto zd_14_24_362 ?_
                                      refine zz_iload (x := 5) rfl zd_14_24_303 ?_
                                      refine zz_iconst zd_14_24_305 ?_
                                      refine zz_icmp_ge (by omega) (by omega) zd_14_24_306 (fun c647 => ?_) (fun c647 => ?_)
                                      · refine zz_iload (x := 1) rfl zd_14_24_365 ?_
                                        exact zz_zret zd_14_24_367 rfl (by omega) (Nat.zero_le _) (Nat.zero_le _) ⟨_, _, rfl, G_S528, F_S528, by omega, fun hr => absurd hr (by decide), by rw [← i296_1.1, ← i296_2.1, ← i296_3.1, ← i296_4.1, ← i296_5.1, ← i296_6.1, ← i296_7.1, ← i296_8.1, ← i296_9.1, ← i296_10.1, ← i296_11.1, ← i296_12.1]; exact (Decidable.em (zz_tf (S 1087 0) (S 1087 1) (S 1087 2) (S 1087 3) (S 1087 4) (S 1087 11) = 1)).elim (fun h => (zz_il1 (Or.inr (Or.inr (Or.inr (Or.inl h))))).symm) (fun h => (zz_il1 (Or.inr (Or.inr (Or.inr (Or.inr (zz_re1 (by omega) o530 o531 o532 o533 o534 o535 o536 o537 o538 (by omega))))))).symm)⟩
                                      · exfalso; omega
                                    · exfalso; omega
                        · refine zz_iconst zd_14_24_352 ?_
                          refine zz_goto zd_14_24_353 ?_
                          refine zz_istore [some (.ref 1079), none, none, none, some (zi 1), none, some (zi 2)] zd_14_24_357 (by decide) rfl ?_
                          refine zz_iinc [some (.ref 1079), none, none, none, some (zi 1), none, some (zi 3)] zd_14_24_359 rfl rfl ?_
                          refine zz_goto zd_14_24_362 ?_
                          refine zz_iload (x := 3) rfl zd_14_24_303 ?_
                          refine zz_iconst zd_14_24_305 ?_
                          refine zz_icmp_ge (by omega) (by omega) zd_14_24_306 (fun c648 => ?_) (fun c648 => ?_)
                          · exfalso; omega
                          · refine zz_iload (x := 1) rfl zd_14_24_309 ?_
                            refine zz_if_ne (by omega) zd_14_24_311 (fun c649 => ?_) (fun c649 => ?_)
                            · refine zz_iconst zd_14_24_352 ?_
                              refine zz_goto zd_14_24_353 ?_
                              refine zz_istore [some (.ref 1079), none, none, none, some (zi 1), none, some (zi 3)] zd_14_24_357 (by decide) rfl ?_
                              refine zz_iinc [some (.ref 1079), none, none, none, some (zi 1), none, some (zi 4)] zd_14_24_359 rfl rfl ?_
                              refine zz_goto zd_14_24_362 ?_
                              refine zz_iload (x := 4) rfl zd_14_24_303 ?_
                              refine zz_iconst zd_14_24_305 ?_
                              refine zz_icmp_ge (by omega) (by omega) zd_14_24_306 (fun c650 => ?_) (fun c650 => ?_)
                              · exfalso; omega
                              · refine zz_iload (x := 1) rfl zd_14_24_309 ?_
                                refine zz_if_ne (by omega) zd_14_24_311 (fun c651 => ?_) (fun c651 => ?_)
                                · refine zz_iconst zd_14_24_352 ?_
                                  refine zz_goto zd_14_24_353 ?_
                                  refine zz_istore [some (.ref 1079), none, none, none, some (zi 1), none, some (zi 4)] zd_14_24_357 (by decide) rfl ?_
                                  refine zz_iinc [some (.ref 1079), none, none, none, some (zi 1), none, some (zi 5)] zd_14_24_359 rfl rfl ?_
                                  refine zz_goto zd_14_24_362 ?_
                                  refine zz_iload (x := 5) rfl zd_14_24_303 ?_
                                  refine zz_iconst zd_14_24_305 ?_
                                  refine zz_icmp_ge (by omega) (by omega) zd_14_24_306 (fun c652 => ?_) (fun c652 => ?_)
                                  · refine zz_iload (x := 1) rfl zd_14_24_365 ?_
                                    exact zz_zret zd_14_24_367 rfl (by omega) (Nat.zero_le _) (Nat.zero_le _) ⟨_, _, rfl, G_S528, F_S528, by omega, fun hr => absurd hr (by decide), by rw [← i296_1.1, ← i296_2.1, ← i296_3.1, ← i296_4.1, ← i296_5.1, ← i296_6.1, ← i296_7.1, ← i296_8.1, ← i296_9.1, ← i296_10.1, ← i296_11.1, ← i296_12.1]; exact (Decidable.em (zz_tf (S 1087 0) (S 1087 1) (S 1087 2) (S 1087 3) (S 1087 4) (S 1087 11) = 1)).elim (fun h => (zz_il1 (Or.inr (Or.inr (Or.inr (Or.inl h))))).symm) (fun h => (zz_il1 (Or.inr (Or.inr (Or.inr (Or.inr (zz_re1 (by omega) o530 o531 o532 o533 o534 o535 o536 o537 o538 (by omega))))))).symm)⟩
                                  · exfalso; omega
                                · exfalso; omega
                            · exfalso; omega
                · refine zz_iconst zd_14_24_352 ?_
                  refine zz_goto zd_14_24_353 ?_
                  refine zz_istore [some (.ref 1079), none, none, none, some (zi 1), none, some (zi 1)] zd_14_24_357 (by decide) rfl ?_
                  refine zz_iinc [some (.ref 1079), none, none, none, some (zi 1), none, some (zi 2)] zd_14_24_359 rfl rfl ?_
                  refine zz_goto zd_14_24_362 ?_
                  refine zz_iload (x := 2) rfl zd_14_24_303 ?_
                  refine zz_iconst zd_14_24_305 ?_
                  refine zz_icmp_ge (by omega) (by omega) zd_14_24_306 (fun c653 => ?_) (fun c653 => ?_)
                  · exfalso; omega
                  · refine zz_iload (x := 1) rfl zd_14_24_309 ?_
                    refine zz_if_ne (by omega) zd_14_24_311 (fun c654 => ?_) (fun c654 => ?_)
                    · refine zz_iconst zd_14_24_352 ?_
                      refine zz_goto zd_14_24_353 ?_
                      refine zz_istore [some (.ref 1079), none, none, none, some (zi 1), none, some (zi 2)] zd_14_24_357 (by decide) rfl ?_
                      refine zz_iinc [some (.ref 1079), none, none, none, some (zi 1), none, some (zi 3)] zd_14_24_359 rfl rfl ?_
                      refine zz_goto zd_14_24_362 ?_
                      refine zz_iload (x := 3) rfl zd_14_24_303 ?_
                      refine zz_iconst zd_14_24_305 ?_
                      refine zz_icmp_ge (by omega) (by omega) zd_14_24_306 (fun c655 => ?_) (fun c655 => ?_)
                      · exfalso; omega
                      · refine zz_iload (x := 1) rfl zd_14_24_309 ?_
                        refine zz_if_ne (by omega) zd_14_24_311 (fun c656 => ?_) (fun c656 => ?_)
                        · refine zz_iconst zd_14_24_352 ?_
                          refine zz_goto zd_14_24_353 ?_
                          refine zz_istore [some (.ref 1079), none, none, none, some (zi 1), none, some (zi 3)] zd_14_24_357 (by decide) rfl ?_
                          refine zz_iinc [some (.ref 1079), none, none, none, some (zi 1), none, some (zi 4)] zd_14_24_359 rfl rfl ?_
                          refine zz_goto zd_14_24_362 ?_
                          refine zz_iload (x := 4) rfl zd_14_24_303 ?_
                          refine zz_iconst zd_14_24_305 ?_
                          refine zz_icmp_ge (by omega) (by omega) zd_14_24_306 (fun c657 => ?_) (fun c657 => ?_)
                          · exfalso; omega
                          · refine zz_iload (x := 1) rfl zd_14_24_309 ?_
                            refine zz_if_ne (by omega) zd_14_24_311 (fun c658 => ?_) (fun c658 => ?_)
                            · refine zz_iconst zd_14_24_352 ?_
                              refine zz_goto zd_14_24_353 ?_
                              refine zz_istore [some (.ref 1079), none, none, none, some (zi 1), none, some (zi 4)] zd_14_24_357 (by decide) rfl ?_
                              refine zz_iinc [some (.ref 1079), none, none, none, some (zi 1), none, some (zi 5)] zd_14_24_359 rfl rfl ?_
                              refine zz_goto zd_14_24_362 ?_
                              refine zz_iload (x := 5) rfl zd_14_24_303 ?_
                              refine zz_iconst zd_14_24_305 ?_
                              refine zz_icmp_ge (by omega) (by omega) zd_14_24_306 (fun c659 => ?_) (fun c659 => ?_)
                              · refine zz_iload (x := 1) rfl zd_14_24_365 ?_
                                exact zz_zret zd_14_24_367 rfl (by omega) (Nat.zero_le _) (Nat.zero_le _) ⟨_, _, rfl, G_S528, F_S528, by omega, fun hr => absurd hr (by decide), by rw [← i296_1.1, ← i296_2.1, ← i296_3.1, ← i296_4.1, ← i296_5.1, ← i296_6.1, ← i296_7.1, ← i296_8.1, ← i296_9.1, ← i296_10.1, ← i296_11.1, ← i296_12.1]; exact (Decidable.em (zz_tf (S 1087 0) (S 1087 1) (S 1087 2) (S 1087 3) (S 1087 4) (S 1087 11) = 1)).elim (fun h => (zz_il1 (Or.inr (Or.inr (Or.inr (Or.inl h))))).symm) (fun h => (zz_il1 (Or.inr (Or.inr (Or.inr (Or.inr (zz_re1 (by omega) o530 o531 o532 o533 o534 o535 o536 o537 o538 (by omega))))))).symm)⟩
                              · exfalso; omega
                            · exfalso; omega
                        · exfalso; omega
                    · exfalso; omega
        · refine zz_iconst zd_14_24_352 ?_
          refine zz_goto zd_14_24_353 ?_
          refine zz_istore [some (.ref 1079), none, none, none, some (zi 1), none, some (zi 0)] zd_14_24_357 (by decide) rfl ?_
          refine zz_iinc [some (.ref 1079), none, none, none, some (zi 1), none, some (zi 1)] zd_14_24_359 rfl rfl ?_
          refine zz_goto zd_14_24_362 ?_
          refine zz_iload (x := 1) rfl zd_14_24_303 ?_
          refine zz_iconst zd_14_24_305 ?_
          refine zz_icmp_ge (by omega) (by omega) zd_14_24_306 (fun c660 => ?_) (fun c660 => ?_)
          · exfalso; omega
          · refine zz_iload (x := 1) rfl zd_14_24_309 ?_
            refine zz_if_ne (by omega) zd_14_24_311 (fun c661 => ?_) (fun c661 => ?_)
            · refine zz_iconst zd_14_24_352 ?_
              refine zz_goto zd_14_24_353 ?_
              refine zz_istore [some (.ref 1079), none, none, none, some (zi 1), none, some (zi 1)] zd_14_24_357 (by decide) rfl ?_
              refine zz_iinc [some (.ref 1079), none, none, none, some (zi 1), none, some (zi 2)] zd_14_24_359 rfl rfl ?_
              refine zz_goto zd_14_24_362 ?_
              refine zz_iload (x := 2) rfl zd_14_24_303 ?_
              refine zz_iconst zd_14_24_305 ?_
              refine zz_icmp_ge (by omega) (by omega) zd_14_24_306 (fun c662 => ?_) (fun c662 => ?_)
              · exfalso; omega
              · refine zz_iload (x := 1) rfl zd_14_24_309 ?_
                refine zz_if_ne (by omega) zd_14_24_311 (fun c663 => ?_) (fun c663 => ?_)
                · refine zz_iconst zd_14_24_352 ?_
                  refine zz_goto zd_14_24_353 ?_
                  refine zz_istore [some (.ref 1079), none, none, none, some (zi 1), none, some (zi 2)] zd_14_24_357 (by decide) rfl ?_
                  refine zz_iinc [some (.ref 1079), none, none, none, some (zi 1), none, some (zi 3)] zd_14_24_359 rfl rfl ?_
                  refine zz_goto zd_14_24_362 ?_
                  refine zz_iload (x := 3) rfl zd_14_24_303 ?_
                  refine zz_iconst zd_14_24_305 ?_
                  refine zz_icmp_ge (by omega) (by omega) zd_14_24_306 (fun c664 => ?_) (fun c664 => ?_)
                  · exfalso; omega
                  · refine zz_iload (x := 1) rfl zd_14_24_309 ?_
                    refine zz_if_ne (by omega) zd_14_24_311 (fun c665 => ?_) (fun c665 => ?_)
                    · refine zz_iconst zd_14_24_352 ?_
                      refine zz_goto zd_14_24_353 ?_
                      refine zz_istore [some (.ref 1079), none, none, none, some (zi 1), none, some (zi 3)] zd_14_24_357 (by decide) rfl ?_
                      refine zz_iinc [some (.ref 1079), none, none, none, some (zi 1), none, some (zi 4)] zd_14_24_359 rfl rfl ?_
                      refine zz_goto zd_14_24_362 ?_
                      refine zz_iload (x := 4) rfl zd_14_24_303 ?_
                      refine zz_iconst zd_14_24_305 ?_
                      refine zz_icmp_ge (by omega) (by omega) zd_14_24_306 (fun c666 => ?_) (fun c666 => ?_)
                      · exfalso; omega
                      · refine zz_iload (x := 1) rfl zd_14_24_309 ?_
                        refine zz_if_ne (by omega) zd_14_24_311 (fun c667 => ?_) (fun c667 => ?_)
                        · refine zz_iconst zd_14_24_352 ?_
                          refine zz_goto zd_14_24_353 ?_
                          refine zz_istore [some (.ref 1079), none, none, none, some (zi 1), none, some (zi 4)] zd_14_24_357 (by decide) rfl ?_
                          refine zz_iinc [some (.ref 1079), none, none, none, some (zi 1), none, some (zi 5)] zd_14_24_359 rfl rfl ?_
                          refine zz_goto zd_14_24_362 ?_
                          refine zz_iload (x := 5) rfl zd_14_24_303 ?_
                          refine zz_iconst zd_14_24_305 ?_
                          refine zz_icmp_ge (by omega) (by omega) zd_14_24_306 (fun c668 => ?_) (fun c668 => ?_)
                          · refine zz_iload (x := 1) rfl zd_14_24_365 ?_
                            exact zz_zret zd_14_24_367 rfl (by omega) (Nat.zero_le _) (Nat.zero_le _) ⟨_, _, rfl, G_S528, F_S528, by omega, fun hr => absurd hr (by decide), by rw [← i296_1.1, ← i296_2.1, ← i296_3.1, ← i296_4.1, ← i296_5.1, ← i296_6.1, ← i296_7.1, ← i296_8.1, ← i296_9.1, ← i296_10.1, ← i296_11.1, ← i296_12.1]; exact (Decidable.em (zz_tf (S 1087 0) (S 1087 1) (S 1087 2) (S 1087 3) (S 1087 4) (S 1087 11) = 1)).elim (fun h => (zz_il1 (Or.inr (Or.inr (Or.inr (Or.inl h))))).symm) (fun h => (zz_il1 (Or.inr (Or.inr (Or.inr (Or.inr (zz_re1 (by omega) o530 o531 o532 o533 o534 o535 o536 o537 o538 (by omega))))))).symm)⟩
                          · exfalso; omega
                        · exfalso; omega
                    · exfalso; omega
                · exfalso; omega
            · exfalso; omega
theorem zi_isIllegal_14_24 {g : mm_G} {l : Launch} (p0 : Int) (S0 : zz_S) (n : Nat) (hn : zz_end ≤ n) (G_S0 : zz_G S0) (hp0 : (-9223372036854775808) ≤ p0 ∧ p0 ≤ 9223372036854775807) : ∀ N : Nat, (∀ (x3 : Int) (x4 : Int) (x5 : Int) (S : zz_S), zz_G S → zz_fr [(1087, 0), (1087, 1), (1087, 2), (1087, 3), (1087, 4), (1087, 5), (1087, 6), (1087, 7), (1087, 8), (1087, 9), (1087, 10), (1087, 11), (1088, 0), (1088, 1), (1088, 2), (1088, 3), (1088, 4), (1088, 5), (1088, 6), (1088, 7), (1088, 8), (1088, 9), (1089, 0), (1089, 1), (1089, 2), (1089, 3), (1089, 4), (1089, 5), (1089, 6), (1089, 7), (1089, 8), (1089, 9)] [] (fun _ _ => False) S0 S → (1 ≤ x3 ∧ x3 ≤ 9) → (0 ≤ x4 ∧ x4 ≤ 1) → (5 ≤ x5 ∧ x5 ≤ 12) → ((S 1087 0 = zz_fx p0 0 15) ∧ 0 ≤ S 1087 0 ∧ S 1087 0 ≤ 15) → ((S 1087 1 = zz_fx p0 4 1) ∧ 0 ≤ S 1087 1 ∧ S 1087 1 ≤ 1) → ((S 1087 2 = zz_fx p0 5 1) ∧ 0 ≤ S 1087 2 ∧ S 1087 2 ≤ 1) → ((S 1087 3 = zz_fx p0 6 1) ∧ 0 ≤ S 1087 3 ∧ S 1087 3 ≤ 1) → ((S 1087 4 = zz_fx p0 7 1) ∧ 0 ≤ S 1087 4 ∧ S 1087 4 ≤ 1) → ((S 1087 5 = zz_fx p0 8 4095) ∧ 0 ≤ S 1087 5 ∧ S 1087 5 ≤ 4095) → ((S 1087 6 = zz_fx p0 20 63) ∧ 0 ≤ S 1087 6 ∧ S 1087 6 ≤ 63) → ((S 1087 7 = zz_fx p0 26 31) ∧ 0 ≤ S 1087 7 ∧ S 1087 7 ≤ 31) → ((S 1087 8 = zz_fx p0 31 511) ∧ 0 ≤ S 1087 8 ∧ S 1087 8 ≤ 511) → ((S 1087 9 = zz_fx p0 40 511) ∧ 0 ≤ S 1087 9 ∧ S 1087 9 ≤ 511) → ((S 1087 10 = zz_fx p0 49 1023) ∧ 0 ≤ S 1087 10 ∧ S 1087 10 ≤ 1023) → ((S 1087 11 = zz_fx p0 59 31) ∧ 0 ≤ S 1087 11 ∧ S 1087 11 ≤ 31) → (x3 = S 1087 0) → (x4 = 0 → (x3 = 9 ∧ S 1087 6 = 0 ∧ S 1087 7 = 0) ∨ (x3 ≠ 9 ∧ 1 ≤ S 1087 6 ∧ 1 ≤ S 1087 7 ∧ S 1087 7 ≤ S0 1079 1)) → (1 ≤ S 1087 0 ∧ S 1087 0 ≤ 9) → ((x4 = 1 ∧ zz_il (S 1087 0) (S 1087 1) (S 1087 2) (S 1087 3) (S 1087 4) (S 1087 5) (S 1087 6) (S 1087 7) (S 1087 8) (S 1087 9) (S 1087 10) (S 1087 11) (S0 1079 1) = 1) ∨ (x4 = 0 ∧ zz_sh (S 1087 0) (S 1087 6) (S 1087 7) (S0 1079 1) = 0 ∧ (S 1087 0 ≠ 9 ∨ S 1087 11 ≤ 2) ∧ zz_sa (S 1087 0) (S 1087 5) (S 1087 6) (S 1087 7) (S 1087 8) (S 1087 9) (S 1087 10) (S 1087 11) x5 = 0)) → (51539607552 + (12 - x5).toNat) < N → zz_E g l zy_isIllegal_14_24 zr_isIllegal_14_24 (zz_QI n (zp_isIllegal_14_24 p0 S0)) S n 115 [some (.ref 1079), none, none, some (zi x3), some (zi x4), some (zi x5)] [] 0 0) ∧ (∀  (S : zz_S), zz_G S → zz_fr [(1087, 0), (1087, 1), (1087, 2), (1087, 3), (1087, 4), (1087, 5), (1087, 6), (1087, 7), (1087, 8), (1087, 9), (1087, 10), (1087, 11), (1088, 0), (1088, 1), (1088, 2), (1088, 3), (1088, 4), (1088, 5), (1088, 6), (1088, 7), (1088, 8), (1088, 9), (1089, 0), (1089, 1), (1089, 2), (1089, 3), (1089, 4), (1089, 5), (1089, 6), (1089, 7), (1089, 8), (1089, 9)] [] (fun _ _ => False) S0 S → ((S 1087 0 = zz_fx p0 0 15) ∧ 0 ≤ S 1087 0 ∧ S 1087 0 ≤ 15) → ((S 1087 1 = zz_fx p0 4 1) ∧ 0 ≤ S 1087 1 ∧ S 1087 1 ≤ 1) → ((S 1087 2 = zz_fx p0 5 1) ∧ 0 ≤ S 1087 2 ∧ S 1087 2 ≤ 1) → ((S 1087 3 = zz_fx p0 6 1) ∧ 0 ≤ S 1087 3 ∧ S 1087 3 ≤ 1) → ((S 1087 4 = zz_fx p0 7 1) ∧ 0 ≤ S 1087 4 ∧ S 1087 4 ≤ 1) → ((S 1087 5 = zz_fx p0 8 4095) ∧ 0 ≤ S 1087 5 ∧ S 1087 5 ≤ 4095) → ((S 1087 6 = zz_fx p0 20 63) ∧ 0 ≤ S 1087 6 ∧ S 1087 6 ≤ 63) → ((S 1087 7 = zz_fx p0 26 31) ∧ 0 ≤ S 1087 7 ∧ S 1087 7 ≤ 31) → ((S 1087 8 = zz_fx p0 31 511) ∧ 0 ≤ S 1087 8 ∧ S 1087 8 ≤ 511) → ((S 1087 9 = zz_fx p0 40 511) ∧ 0 ≤ S 1087 9 ∧ S 1087 9 ≤ 511) → ((S 1087 10 = zz_fx p0 49 1023) ∧ 0 ≤ S 1087 10 ∧ S 1087 10 ≤ 1023) → ((S 1087 11 = zz_fx p0 59 31) ∧ 0 ≤ S 1087 11 ∧ S 1087 11 ≤ 31) → (1 ≤ S 1087 0 ∧ S 1087 0 ≤ 9) → ((S 1087 0 = 9 ∧ S 1087 6 = 0 ∧ S 1087 7 = 0) ∨ (S 1087 0 ≠ 9 ∧ 1 ≤ S 1087 6 ∧ 1 ≤ S 1087 7 ∧ S 1087 7 ≤ S0 1079 1)) → (S 1087 0 = 5 → 1 ≤ S 1087 11 / 2 ∧ S 1087 11 / 2 ≤ S0 1079 1) → (zz_sf (S 1087 0) (S 1087 5) (S 1087 6) (S 1087 7) (S 1087 8) (S 1087 9) (S 1087 10) (S 1087 11) = 0) → (zz_sh (S 1087 0) (S 1087 6) (S 1087 7) (S0 1079 1) = 0) → (zz_nf (S 1087 0) (S 1087 11) (S0 1079 1) = 0) → (34359738368 + 0) < N → zz_E g l zy_isIllegal_14_24 zr_isIllegal_14_24 (zz_QI n (zp_isIllegal_14_24 p0 S0)) S n 236 [some (.ref 1079)] [] 0 0) ∧ (∀ (x4 : Int) (S : zz_S), zz_G S → zz_fr [(1087, 0), (1087, 1), (1087, 2), (1087, 3), (1087, 4), (1087, 5), (1087, 6), (1087, 7), (1087, 8), (1087, 9), (1087, 10), (1087, 11), (1088, 0), (1088, 1), (1088, 2), (1088, 3), (1088, 4), (1088, 5), (1088, 6), (1088, 7), (1088, 8), (1088, 9), (1089, 0), (1089, 1), (1089, 2), (1089, 3), (1089, 4), (1089, 5), (1089, 6), (1089, 7), (1089, 8), (1089, 9)] [] (fun _ _ => False) S0 S → (0 ≤ x4 ∧ x4 ≤ 1) → ((S 1087 0 = zz_fx p0 0 15) ∧ 0 ≤ S 1087 0 ∧ S 1087 0 ≤ 15) → ((S 1087 1 = zz_fx p0 4 1) ∧ 0 ≤ S 1087 1 ∧ S 1087 1 ≤ 1) → ((S 1087 2 = zz_fx p0 5 1) ∧ 0 ≤ S 1087 2 ∧ S 1087 2 ≤ 1) → ((S 1087 3 = zz_fx p0 6 1) ∧ 0 ≤ S 1087 3 ∧ S 1087 3 ≤ 1) → ((S 1087 4 = zz_fx p0 7 1) ∧ 0 ≤ S 1087 4 ∧ S 1087 4 ≤ 1) → ((S 1087 5 = zz_fx p0 8 4095) ∧ 0 ≤ S 1087 5 ∧ S 1087 5 ≤ 4095) → ((S 1087 6 = zz_fx p0 20 63) ∧ 0 ≤ S 1087 6 ∧ S 1087 6 ≤ 63) → ((S 1087 7 = zz_fx p0 26 31) ∧ 0 ≤ S 1087 7 ∧ S 1087 7 ≤ 31) → ((S 1087 8 = zz_fx p0 31 511) ∧ 0 ≤ S 1087 8 ∧ S 1087 8 ≤ 511) → ((S 1087 9 = zz_fx p0 40 511) ∧ 0 ≤ S 1087 9 ∧ S 1087 9 ≤ 511) → ((S 1087 10 = zz_fx p0 49 1023) ∧ 0 ≤ S 1087 10 ∧ S 1087 10 ≤ 1023) → ((S 1087 11 = zz_fx p0 59 31) ∧ 0 ≤ S 1087 11 ∧ S 1087 11 ≤ 31) → (1 ≤ S 1087 0 ∧ S 1087 0 ≤ 9) → ((S 1087 0 = 9 ∧ S 1087 6 = 0 ∧ S 1087 7 = 0) ∨ (S 1087 0 ≠ 9 ∧ 1 ≤ S 1087 6 ∧ 1 ≤ S 1087 7 ∧ S 1087 7 ≤ S0 1079 1)) → (S 1087 0 = 5 → 1 ≤ S 1087 11 / 2 ∧ S 1087 11 / 2 ≤ S0 1079 1) → (zz_sf (S 1087 0) (S 1087 5) (S 1087 6) (S 1087 7) (S 1087 8) (S 1087 9) (S 1087 10) (S 1087 11) = 0) → (zz_sh (S 1087 0) (S 1087 6) (S 1087 7) (S0 1079 1) = 0) → (zz_nf (S 1087 0) (S 1087 11) (S0 1079 1) = 0) → (x4 = zz_tf (S 1087 0) (S 1087 1) (S 1087 2) (S 1087 3) (S 1087 4) (S 1087 11)) → (17179869184 + 0) < N → zz_E g l zy_isIllegal_14_24 zr_isIllegal_14_24 (zz_QI n (zp_isIllegal_14_24 p0 S0)) S n 296 [some (.ref 1079), none, none, none, some (zi x4)] [] 0 0) := by
  intro N
  induction N with
  | zero => exact ⟨fun x3 x4 x5 S _ _ _ _ _ _ _ _ _ _ _ _ _ _ _ _ _ _ _ _ _ h => absurd h (Nat.not_lt_zero _), fun  S _ _ _ _ _ _ _ _ _ _ _ _ _ _ _ _ _ _ _ _ h => absurd h (Nat.not_lt_zero _), fun x4 S _ _ _ _ _ _ _ _ _ _ _ _ _ _ _ _ _ _ _ _ _ _ h => absurd h (Nat.not_lt_zero _)⟩
  | succ N ih =>
    exact ⟨fun x3 x4 x5 S a b j0 j1 j2 j3 j4 j5 j6 j7 j8 j9 j10 j11 j12 j13 j14 j15 j16 j17 j18 hR => zb_isIllegal_14_24_115 p0 S0 n hn G_S0 hp0 x3 x4 x5 S a b j0 j1 j2 j3 j4 j5 j6 j7 j8 j9 j10 j11 j12 j13 j14 j15 j16 j17 j18 _ rfl (fun x3 x4 x5 S a b j0 j1 j2 j3 j4 j5 j6 j7 j8 j9 j10 j11 j12 j13 j14 j15 j16 j17 j18 h => ih.1 x3 x4 x5 S a b j0 j1 j2 j3 j4 j5 j6 j7 j8 j9 j10 j11 j12 j13 j14 j15 j16 j17 j18 (Nat.lt_of_lt_of_le h (Nat.le_of_lt_succ hR))) (fun  S a b j0 j1 j2 j3 j4 j5 j6 j7 j8 j9 j10 j11 j12 j13 j14 j15 j16 j17 h => ih.2.1  S a b j0 j1 j2 j3 j4 j5 j6 j7 j8 j9 j10 j11 j12 j13 j14 j15 j16 j17 (Nat.lt_of_lt_of_le h (Nat.le_of_lt_succ hR))),
      fun  S a b j0 j1 j2 j3 j4 j5 j6 j7 j8 j9 j10 j11 j12 j13 j14 j15 j16 j17 hR => zb_isIllegal_14_24_236 p0 S0 n hn G_S0 hp0  S a b j0 j1 j2 j3 j4 j5 j6 j7 j8 j9 j10 j11 j12 j13 j14 j15 j16 j17 _ rfl (fun x4 S a b j0 j1 j2 j3 j4 j5 j6 j7 j8 j9 j10 j11 j12 j13 j14 j15 j16 j17 j18 j19 h => ih.2.2 x4 S a b j0 j1 j2 j3 j4 j5 j6 j7 j8 j9 j10 j11 j12 j13 j14 j15 j16 j17 j18 j19 (Nat.lt_of_lt_of_le h (Nat.le_of_lt_succ hR))),
      fun x4 S a b j0 j1 j2 j3 j4 j5 j6 j7 j8 j9 j10 j11 j12 j13 j14 j15 j16 j17 j18 j19 hR => zb_isIllegal_14_24_296 p0 S0 n hn G_S0 hp0 x4 S a b j0 j1 j2 j3 j4 j5 j6 j7 j8 j9 j10 j11 j12 j13 j14 j15 j16 j17 j18 j19 _ rfl ⟩
theorem zc_isIllegal_14_24 {g : mm_G} {l : Launch} (p0 : Int) (S0 : zz_S) (n : Nat) (hn : zz_end ≤ n) (G_S0 : zz_G S0) (hp0 : (-9223372036854775808) ≤ p0 ∧ p0 ≤ 9223372036854775807) : mm_Met g l zy_isIllegal_14_24 zr_isIllegal_14_24 [.ref 1079, zl p0] (zz_M S0 n) n (zz_QI n (zp_isIllegal_14_24 p0 S0)) := by
  refine zz_enter (by decide) (Nat.le_of_ble_eq_true rfl) (zz_less (ls1 := [some (.ref 1079), some (zl p0), none]) ⟨rfl, ⟨rfl, trivial⟩⟩ ?_)
  have F_S0 : zz_fr [(1087, 0), (1087, 1), (1087, 2), (1087, 3), (1087, 4), (1087, 5), (1087, 6), (1087, 7), (1087, 8), (1087, 9), (1087, 10), (1087, 11), (1088, 0), (1088, 1), (1088, 2), (1088, 3), (1088, 4), (1088, 5), (1088, 6), (1088, 7), (1088, 8), (1088, 9), (1089, 0), (1089, 1), (1089, 2), (1089, 3), (1089, 4), (1089, 5), (1089, 6), (1089, 7), (1089, 8), (1089, 9)] [] (fun _ _ => False) S0 S0 := zz_fr.refl
  have k115 : ∀ (x3 : Int) (x4 : Int) (x5 : Int) (S : zz_S), zz_G S → zz_fr [(1087, 0), (1087, 1), (1087, 2), (1087, 3), (1087, 4), (1087, 5), (1087, 6), (1087, 7), (1087, 8), (1087, 9), (1087, 10), (1087, 11), (1088, 0), (1088, 1), (1088, 2), (1088, 3), (1088, 4), (1088, 5), (1088, 6), (1088, 7), (1088, 8), (1088, 9), (1089, 0), (1089, 1), (1089, 2), (1089, 3), (1089, 4), (1089, 5), (1089, 6), (1089, 7), (1089, 8), (1089, 9)] [] (fun _ _ => False) S0 S → (1 ≤ x3 ∧ x3 ≤ 9) → (0 ≤ x4 ∧ x4 ≤ 1) → (5 ≤ x5 ∧ x5 ≤ 12) → ((S 1087 0 = zz_fx p0 0 15) ∧ 0 ≤ S 1087 0 ∧ S 1087 0 ≤ 15) → ((S 1087 1 = zz_fx p0 4 1) ∧ 0 ≤ S 1087 1 ∧ S 1087 1 ≤ 1) → ((S 1087 2 = zz_fx p0 5 1) ∧ 0 ≤ S 1087 2 ∧ S 1087 2 ≤ 1) → ((S 1087 3 = zz_fx p0 6 1) ∧ 0 ≤ S 1087 3 ∧ S 1087 3 ≤ 1) → ((S 1087 4 = zz_fx p0 7 1) ∧ 0 ≤ S 1087 4 ∧ S 1087 4 ≤ 1) → ((S 1087 5 = zz_fx p0 8 4095) ∧ 0 ≤ S 1087 5 ∧ S 1087 5 ≤ 4095) → ((S 1087 6 = zz_fx p0 20 63) ∧ 0 ≤ S 1087 6 ∧ S 1087 6 ≤ 63) → ((S 1087 7 = zz_fx p0 26 31) ∧ 0 ≤ S 1087 7 ∧ S 1087 7 ≤ 31) → ((S 1087 8 = zz_fx p0 31 511) ∧ 0 ≤ S 1087 8 ∧ S 1087 8 ≤ 511) → ((S 1087 9 = zz_fx p0 40 511) ∧ 0 ≤ S 1087 9 ∧ S 1087 9 ≤ 511) → ((S 1087 10 = zz_fx p0 49 1023) ∧ 0 ≤ S 1087 10 ∧ S 1087 10 ≤ 1023) → ((S 1087 11 = zz_fx p0 59 31) ∧ 0 ≤ S 1087 11 ∧ S 1087 11 ≤ 31) → (x3 = S 1087 0) → (x4 = 0 → (x3 = 9 ∧ S 1087 6 = 0 ∧ S 1087 7 = 0) ∨ (x3 ≠ 9 ∧ 1 ≤ S 1087 6 ∧ 1 ≤ S 1087 7 ∧ S 1087 7 ≤ S0 1079 1)) → (1 ≤ S 1087 0 ∧ S 1087 0 ≤ 9) → ((x4 = 1 ∧ zz_il (S 1087 0) (S 1087 1) (S 1087 2) (S 1087 3) (S 1087 4) (S 1087 5) (S 1087 6) (S 1087 7) (S 1087 8) (S 1087 9) (S 1087 10) (S 1087 11) (S0 1079 1) = 1) ∨ (x4 = 0 ∧ zz_sh (S 1087 0) (S 1087 6) (S 1087 7) (S0 1079 1) = 0 ∧ (S 1087 0 ≠ 9 ∨ S 1087 11 ≤ 2) ∧ zz_sa (S 1087 0) (S 1087 5) (S 1087 6) (S 1087 7) (S 1087 8) (S 1087 9) (S 1087 10) (S 1087 11) x5 = 0)) → zz_E g l zy_isIllegal_14_24 zr_isIllegal_14_24 (zz_QI n (zp_isIllegal_14_24 p0 S0)) S n 115 [some (.ref 1079), none, none, some (zi x3), some (zi x4), some (zi x5)] [] 0 0 := fun x3 x4 x5 S a b j0 j1 j2 j3 j4 j5 j6 j7 j8 j9 j10 j11 j12 j13 j14 j15 j16 j17 j18 => (zi_isIllegal_14_24 (g := g) (l := l) p0 S0 n hn G_S0 hp0 _).1 x3 x4 x5 S a b j0 j1 j2 j3 j4 j5 j6 j7 j8 j9 j10 j11 j12 j13 j14 j15 j16 j17 j18 (Nat.lt_succ_self _)
  refine zz_aload_n (x := 1079) rfl zd_14_24_0 ?_
  refine zz_lload_n (x := p0) rfl zd_14_24_1 ?_
  refine zz_callVV [zl p0] zd_14_24_2 zk_Md_234 zT_1079 (zz_ltn hn rfl) rfl rfl ⟨Nat.le_of_ble_eq_true rfl, Nat.le_of_ble_eq_true rfl⟩ ⟨rfl, rfl⟩ (Nat.zero_le _) (Nat.zero_le _) (zc_take_14_18 p0 S0 n hn G_S0 (by omega)) (fun S1 hP => ?_)
  obtain ⟨G_S1, fS1, o3, o4, o5, o6, o7, o8, o9, o10, o11, o12, o13, o14⟩ := hP
  have F_S1 := zz_fr.trans F_S0 fS1 rfl zz_nv
  refine zz_aload_n (x := 1079) rfl zd_14_24_5 ?_
  refine zz_getr (kd := 0) (z := 1087) zd_14_24_6 zf_Md_36 zT_1079 rfl (zz_ltn hn rfl) (zz_G.eq G_S1 1079 11 1087 rfl rfl) (by decide) 1087 rfl ?_
  refine zz_iconst zd_14_24_9 ?_
  have g15 := zz_G.r G_S1 1087 0 (-2147483648) 2147483647 rfl rfl
  refine zz_iald (z := S1 1087 0) zd_14_24_10 zT_1087 rfl (zz_ltn hn rfl) (by decide) (by decide) rfl ?_
  refine zz_istore_n [some (.ref 1079), some (zl p0), none, some (zi (S1 1087 0))] zd_14_24_11 (by decide) rfl ?_
  refine zz_iload_n (x := S1 1087 0) rfl zd_14_24_12 ?_
  refine zz_i2l (by omega) zd_14_24_13 ?_
  refine zz_lconst (z := 1) (by decide) zd_14_24_14 ?_
  refine zz_ldc2 (z := 9) zq_Md_238 (by decide) zd_14_24_15 ?_
  refine zz_callSI [zl (S1 1087 0), zl 1, zl 9] zd_14_24_18 zk_Md_192 rfl rfl ⟨Nat.le_of_ble_eq_true rfl, Nat.le_of_ble_eq_true rfl⟩ ⟨rfl, rfl⟩ (Nat.zero_le _) (Nat.zero_le _) (zc_in_14_4 (S1 1087 0) 1 9 S1 n hn G_S1 (by omega) (by omega) (by omega)) (fun v17 S16 hP => ?_)
  obtain ⟨rfl, o18, o19⟩ := hP
  rcases (by omega : v17 = 0 ∨ v17 = 1) with rfl | rfl
  · have n20 : S1 1087 0 < 1 ∨ 9 < S1 1087 0 := by omega
    clear o19
    refine zz_if_ne (by omega) zd_14_24_21 (fun c21 => ?_) (fun c21 => ?_)
    · exfalso; omega
    · refine zz_iconst zd_14_24_24 ?_
      exact zz_zret zd_14_24_25 rfl (by omega) (Nat.zero_le _) (Nat.zero_le _) ⟨_, _, rfl, G_S1, F_S1, by omega, fun hr => absurd hr (by decide), (zz_il1 (Or.inl (zz_sfk (by omega)))).symm⟩
  · have n22 : 1 ≤ S1 1087 0 ∧ S1 1087 0 ≤ 9 := by omega
    clear o19
    refine zz_if_ne (by omega) zd_14_24_21 (fun c23 => ?_) (fun c23 => ?_)
    · refine zz_iload_n (x := S1 1087 0) rfl zd_14_24_26 ?_
      refine zz_bipush (by decide) zd_14_24_27 ?_
      refine zz_icmp_ne (by omega) (by omega) zd_14_24_29 (fun c24 => ?_) (fun c24 => ?_)
      · refine zz_aload_n (x := 1079) rfl zd_14_24_71 ?_
        refine zz_getr (kd := 0) (z := 1087) zd_14_24_72 zf_Md_36 zT_1079 rfl (zz_ltn hn rfl) (zz_G.eq G_S1 1079 11 1087 rfl rfl) (by decide) 1087 rfl ?_
        refine zz_bipush (by decide) zd_14_24_75 ?_
        have g25 := zz_G.r G_S1 1087 6 (-2147483648) 2147483647 rfl rfl
        refine zz_iald (z := S1 1087 6) zd_14_24_77 zT_1087 rfl (zz_ltn hn rfl) (by decide) (by decide) rfl ?_
        refine zz_if_eq (by omega) zd_14_24_78 (fun c26 => ?_) (fun c26 => ?_)
        · refine zz_iconst zd_14_24_105 ?_
          refine zz_goto zd_14_24_106 ?_
          refine zz_istore [some (.ref 1079), some (zl p0), none, some (zi (S1 1087 0)), some (zi 1)] zd_14_24_110 (by decide) rfl ?_
          refine zz_iconst zd_14_24_112 ?_
          refine zz_istore [some (.ref 1079), some (zl p0), none, some (zi (S1 1087 0)), some (zi 1), some (zi 5)] zd_14_24_113 (by decide) rfl ?_
          have g27 := zz_G.r G_S1 1087 1 (-2147483648) 2147483647 rfl rfl
          have g28 := zz_G.r G_S1 1087 2 (-2147483648) 2147483647 rfl rfl
          have g29 := zz_G.r G_S1 1087 3 (-2147483648) 2147483647 rfl rfl
          have g30 := zz_G.r G_S1 1087 4 (-2147483648) 2147483647 rfl rfl
          have g31 := zz_G.r G_S1 1087 5 (-2147483648) 2147483647 rfl rfl
          have g32 := zz_G.r G_S1 1087 7 (-2147483648) 2147483647 rfl rfl
          have g33 := zz_G.r G_S1 1087 8 (-2147483648) 2147483647 rfl rfl
          have g34 := zz_G.r G_S1 1087 9 (-2147483648) 2147483647 rfl rfl
          have g35 := zz_G.r G_S1 1087 10 (-2147483648) 2147483647 rfl rfl
          have g36 := zz_G.r G_S1 1087 11 (-2147483648) 2147483647 rfl rfl
          refine zz_less (ls1 := [some (.ref 1079), none, none, some (zi (S1 1087 0)), some (zi 1), some (zi 5)]) ⟨rfl, ⟨rfl, ⟨rfl, ⟨rfl, trivial⟩⟩⟩⟩ ?_
          exact k115 (S1 1087 0) 1 5 S1 G_S1 F_S1 (by omega) (by omega) (by omega) (by omega) (by omega) (by omega) (by omega) (by omega) (by omega) (by omega) (by omega) (by omega) (by omega) (by omega) (by omega) (by omega) (by omega) (by omega) (Or.inl ⟨rfl, zz_e1 (by omega) (by omega)⟩)
        · refine zz_aload_n (x := 1079) rfl zd_14_24_81 ?_
          refine zz_getr (kd := 0) (z := 1087) zd_14_24_82 zf_Md_36 zT_1079 rfl (zz_ltn hn rfl) (zz_G.eq G_S1 1079 11 1087 rfl rfl) (by decide) 1087 rfl ?_
          refine zz_bipush (by decide) zd_14_24_85 ?_
          have g37 := zz_G.r G_S1 1087 7 (-2147483648) 2147483647 rfl rfl
          refine zz_iald (z := S1 1087 7) zd_14_24_87 zT_1087 rfl (zz_ltn hn rfl) (by decide) (by decide) rfl ?_
          refine zz_if_eq (by omega) zd_14_24_88 (fun c38 => ?_) (fun c38 => ?_)
          · refine zz_iconst zd_14_24_105 ?_
            refine zz_goto zd_14_24_106 ?_
            refine zz_istore [some (.ref 1079), some (zl p0), none, some (zi (S1 1087 0)), some (zi 1)] zd_14_24_110 (by decide) rfl ?_
            refine zz_iconst zd_14_24_112 ?_
            refine zz_istore [some (.ref 1079), some (zl p0), none, some (zi (S1 1087 0)), some (zi 1), some (zi 5)] zd_14_24_113 (by decide) rfl ?_
            have g39 := zz_G.r G_S1 1087 1 (-2147483648) 2147483647 rfl rfl
            have g40 := zz_G.r G_S1 1087 2 (-2147483648) 2147483647 rfl rfl
            have g41 := zz_G.r G_S1 1087 3 (-2147483648) 2147483647 rfl rfl
            have g42 := zz_G.r G_S1 1087 4 (-2147483648) 2147483647 rfl rfl
            have g43 := zz_G.r G_S1 1087 5 (-2147483648) 2147483647 rfl rfl
            have g44 := zz_G.r G_S1 1087 8 (-2147483648) 2147483647 rfl rfl
            have g45 := zz_G.r G_S1 1087 9 (-2147483648) 2147483647 rfl rfl
            have g46 := zz_G.r G_S1 1087 10 (-2147483648) 2147483647 rfl rfl
            have g47 := zz_G.r G_S1 1087 11 (-2147483648) 2147483647 rfl rfl
            refine zz_less (ls1 := [some (.ref 1079), none, none, some (zi (S1 1087 0)), some (zi 1), some (zi 5)]) ⟨rfl, ⟨rfl, ⟨rfl, ⟨rfl, trivial⟩⟩⟩⟩ ?_
            exact k115 (S1 1087 0) 1 5 S1 G_S1 F_S1 (by omega) (by omega) (by omega) (by omega) (by omega) (by omega) (by omega) (by omega) (by omega) (by omega) (by omega) (by omega) (by omega) (by omega) (by omega) (by omega) (by omega) (by omega) (Or.inl ⟨rfl, zz_e1 (by omega) (by omega)⟩)
          · refine zz_aload_n (x := 1079) rfl zd_14_24_91 ?_
            refine zz_getr (kd := 0) (z := 1087) zd_14_24_92 zf_Md_36 zT_1079 rfl (zz_ltn hn rfl) (zz_G.eq G_S1 1079 11 1087 rfl rfl) (by decide) 1087 rfl ?_
            refine zz_bipush (by decide) zd_14_24_95 ?_
            refine zz_iald (z := S1 1087 7) zd_14_24_97 zT_1087 rfl (zz_ltn hn rfl) (by decide) (by decide) rfl ?_
            refine zz_aload_n (x := 1079) rfl zd_14_24_98 ?_
            have g48 := zz_G.r G_S0 1079 1 2 8 rfl rfl
            refine zz_geti (z := S0 1079 1) zd_14_24_99 zf_Md_7 zT_1079 rfl (zz_ltn hn rfl) (zz_rc fS1 rfl rfl (fun h => h) rfl) ?_
            refine zz_icmp_le (by omega) (by omega) zd_14_24_102 (fun c49 => ?_) (fun c49 => ?_)
            · refine zz_iconst zd_14_24_109 ?_
              refine zz_istore [some (.ref 1079), some (zl p0), none, some (zi (S1 1087 0)), some (zi 0)] zd_14_24_110 (by decide) rfl ?_
              refine zz_iconst zd_14_24_112 ?_
              refine zz_istore [some (.ref 1079), some (zl p0), none, some (zi (S1 1087 0)), some (zi 0), some (zi 5)] zd_14_24_113 (by decide) rfl ?_
              have g50 := zz_G.r G_S1 1087 1 (-2147483648) 2147483647 rfl rfl
              have g51 := zz_G.r G_S1 1087 2 (-2147483648) 2147483647 rfl rfl
              have g52 := zz_G.r G_S1 1087 3 (-2147483648) 2147483647 rfl rfl
              have g53 := zz_G.r G_S1 1087 4 (-2147483648) 2147483647 rfl rfl
              have g54 := zz_G.r G_S1 1087 5 (-2147483648) 2147483647 rfl rfl
              have g55 := zz_G.r G_S1 1087 8 (-2147483648) 2147483647 rfl rfl
              have g56 := zz_G.r G_S1 1087 9 (-2147483648) 2147483647 rfl rfl
              have g57 := zz_G.r G_S1 1087 10 (-2147483648) 2147483647 rfl rfl
              have g58 := zz_G.r G_S1 1087 11 (-2147483648) 2147483647 rfl rfl
              refine zz_less (ls1 := [some (.ref 1079), none, none, some (zi (S1 1087 0)), some (zi 0), some (zi 5)]) ⟨rfl, ⟨rfl, ⟨rfl, ⟨rfl, trivial⟩⟩⟩⟩ ?_
              exact k115 (S1 1087 0) 0 5 S1 G_S1 F_S1 (by omega) (by omega) (by omega) (by omega) (by omega) (by omega) (by omega) (by omega) (by omega) (by omega) (by omega) (by omega) (by omega) (by omega) (by omega) (by omega) (by omega) (by omega) (Or.inr ⟨rfl, zz_shx (by omega), by omega, zz_sa5 _ _ _ _ _ _ _ _⟩)
            · refine zz_iconst zd_14_24_105 ?_
              refine zz_goto zd_14_24_106 ?_
              refine zz_istore [some (.ref 1079), some (zl p0), none, some (zi (S1 1087 0)), some (zi 1)] zd_14_24_110 (by decide) rfl ?_
              refine zz_iconst zd_14_24_112 ?_
              refine zz_istore [some (.ref 1079), some (zl p0), none, some (zi (S1 1087 0)), some (zi 1), some (zi 5)] zd_14_24_113 (by decide) rfl ?_
              have g59 := zz_G.r G_S1 1087 1 (-2147483648) 2147483647 rfl rfl
              have g60 := zz_G.r G_S1 1087 2 (-2147483648) 2147483647 rfl rfl
              have g61 := zz_G.r G_S1 1087 3 (-2147483648) 2147483647 rfl rfl
              have g62 := zz_G.r G_S1 1087 4 (-2147483648) 2147483647 rfl rfl
              have g63 := zz_G.r G_S1 1087 5 (-2147483648) 2147483647 rfl rfl
              have g64 := zz_G.r G_S1 1087 8 (-2147483648) 2147483647 rfl rfl
              have g65 := zz_G.r G_S1 1087 9 (-2147483648) 2147483647 rfl rfl
              have g66 := zz_G.r G_S1 1087 10 (-2147483648) 2147483647 rfl rfl
              have g67 := zz_G.r G_S1 1087 11 (-2147483648) 2147483647 rfl rfl
              refine zz_less (ls1 := [some (.ref 1079), none, none, some (zi (S1 1087 0)), some (zi 1), some (zi 5)]) ⟨rfl, ⟨rfl, ⟨rfl, ⟨rfl, trivial⟩⟩⟩⟩ ?_
              exact k115 (S1 1087 0) 1 5 S1 G_S1 F_S1 (by omega) (by omega) (by omega) (by omega) (by omega) (by omega) (by omega) (by omega) (by omega) (by omega) (by omega) (by omega) (by omega) (by omega) (by omega) (by omega) (by omega) (by omega) (Or.inl ⟨rfl, zz_e1 (by omega) (by omega)⟩)
      · refine zz_aload_n (x := 1079) rfl zd_14_24_32 ?_
        refine zz_getr (kd := 0) (z := 1087) zd_14_24_33 zf_Md_36 zT_1079 rfl (zz_ltn hn rfl) (zz_G.eq G_S1 1079 11 1087 rfl rfl) (by decide) 1087 rfl ?_
        refine zz_bipush (by decide) zd_14_24_36 ?_
        have g68 := zz_G.r G_S1 1087 6 (-2147483648) 2147483647 rfl rfl
        refine zz_iald (z := S1 1087 6) zd_14_24_38 zT_1087 rfl (zz_ltn hn rfl) (by decide) (by decide) rfl ?_
        refine zz_if_gt (by omega) zd_14_24_39 (fun c69 => ?_) (fun c69 => ?_)
        · refine zz_iconst zd_14_24_63 ?_
          refine zz_goto zd_14_24_64 ?_
          refine zz_istore [some (.ref 1079), some (zl p0), none, some (zi (S1 1087 0)), some (zi 1)] zd_14_24_110 (by decide) rfl ?_
          refine zz_iconst zd_14_24_112 ?_
          refine zz_istore [some (.ref 1079), some (zl p0), none, some (zi (S1 1087 0)), some (zi 1), some (zi 5)] zd_14_24_113 (by decide) rfl ?_
          have g70 := zz_G.r G_S1 1087 1 (-2147483648) 2147483647 rfl rfl
          have g71 := zz_G.r G_S1 1087 2 (-2147483648) 2147483647 rfl rfl
          have g72 := zz_G.r G_S1 1087 3 (-2147483648) 2147483647 rfl rfl
          have g73 := zz_G.r G_S1 1087 4 (-2147483648) 2147483647 rfl rfl
          have g74 := zz_G.r G_S1 1087 5 (-2147483648) 2147483647 rfl rfl
          have g75 := zz_G.r G_S1 1087 7 (-2147483648) 2147483647 rfl rfl
          have g76 := zz_G.r G_S1 1087 8 (-2147483648) 2147483647 rfl rfl
          have g77 := zz_G.r G_S1 1087 9 (-2147483648) 2147483647 rfl rfl
          have g78 := zz_G.r G_S1 1087 10 (-2147483648) 2147483647 rfl rfl
          have g79 := zz_G.r G_S1 1087 11 (-2147483648) 2147483647 rfl rfl
          refine zz_less (ls1 := [some (.ref 1079), none, none, some (zi (S1 1087 0)), some (zi 1), some (zi 5)]) ⟨rfl, ⟨rfl, ⟨rfl, ⟨rfl, trivial⟩⟩⟩⟩ ?_
          exact k115 (S1 1087 0) 1 5 S1 G_S1 F_S1 (by omega) (by omega) (by omega) (by omega) (by omega) (by omega) (by omega) (by omega) (by omega) (by omega) (by omega) (by omega) (by omega) (by omega) (by omega) (by omega) (by omega) (by omega) (Or.inl ⟨rfl, zz_e1 (by omega) (by omega)⟩)
        · refine zz_aload_n (x := 1079) rfl zd_14_24_42 ?_
          refine zz_getr (kd := 0) (z := 1087) zd_14_24_43 zf_Md_36 zT_1079 rfl (zz_ltn hn rfl) (zz_G.eq G_S1 1079 11 1087 rfl rfl) (by decide) 1087 rfl ?_
          refine zz_bipush (by decide) zd_14_24_46 ?_
          have g80 := zz_G.r G_S1 1087 7 (-2147483648) 2147483647 rfl rfl
          refine zz_iald (z := S1 1087 7) zd_14_24_48 zT_1087 rfl (zz_ltn hn rfl) (by decide) (by decide) rfl ?_
          refine zz_if_gt (by omega) zd_14_24_49 (fun c81 => ?_) (fun c81 => ?_)
          · refine zz_iconst zd_14_24_63 ?_
            refine zz_goto zd_14_24_64 ?_
            refine zz_istore [some (.ref 1079), some (zl p0), none, some (zi (S1 1087 0)), some (zi 1)] zd_14_24_110 (by decide) rfl ?_
            refine zz_iconst zd_14_24_112 ?_
            refine zz_istore [some (.ref 1079), some (zl p0), none, some (zi (S1 1087 0)), some (zi 1), some (zi 5)] zd_14_24_113 (by decide) rfl ?_
            have g82 := zz_G.r G_S1 1087 1 (-2147483648) 2147483647 rfl rfl
            have g83 := zz_G.r G_S1 1087 2 (-2147483648) 2147483647 rfl rfl
            have g84 := zz_G.r G_S1 1087 3 (-2147483648) 2147483647 rfl rfl
            have g85 := zz_G.r G_S1 1087 4 (-2147483648) 2147483647 rfl rfl
            have g86 := zz_G.r G_S1 1087 5 (-2147483648) 2147483647 rfl rfl
            have g87 := zz_G.r G_S1 1087 8 (-2147483648) 2147483647 rfl rfl
            have g88 := zz_G.r G_S1 1087 9 (-2147483648) 2147483647 rfl rfl
            have g89 := zz_G.r G_S1 1087 10 (-2147483648) 2147483647 rfl rfl
            have g90 := zz_G.r G_S1 1087 11 (-2147483648) 2147483647 rfl rfl
            refine zz_less (ls1 := [some (.ref 1079), none, none, some (zi (S1 1087 0)), some (zi 1), some (zi 5)]) ⟨rfl, ⟨rfl, ⟨rfl, ⟨rfl, trivial⟩⟩⟩⟩ ?_
            exact k115 (S1 1087 0) 1 5 S1 G_S1 F_S1 (by omega) (by omega) (by omega) (by omega) (by omega) (by omega) (by omega) (by omega) (by omega) (by omega) (by omega) (by omega) (by omega) (by omega) (by omega) (by omega) (by omega) (by omega) (Or.inl ⟨rfl, zz_e1 (by omega) (by omega)⟩)
          · refine zz_aload_n (x := 1079) rfl zd_14_24_52 ?_
            refine zz_getr (kd := 0) (z := 1087) zd_14_24_53 zf_Md_36 zT_1079 rfl (zz_ltn hn rfl) (zz_G.eq G_S1 1079 11 1087 rfl rfl) (by decide) 1087 rfl ?_
            refine zz_bipush (by decide) zd_14_24_56 ?_
            have g91 := zz_G.r G_S1 1087 11 (-2147483648) 2147483647 rfl rfl
            refine zz_iald (z := S1 1087 11) zd_14_24_58 zT_1087 rfl (zz_ltn hn rfl) (by decide) (by decide) rfl ?_
            refine zz_iconst zd_14_24_59 ?_
            refine zz_icmp_le (by omega) (by omega) zd_14_24_60 (fun c92 => ?_) (fun c92 => ?_)
            · refine zz_iconst zd_14_24_67 ?_
              refine zz_goto zd_14_24_68 ?_
              refine zz_istore [some (.ref 1079), some (zl p0), none, some (zi (S1 1087 0)), some (zi 0)] zd_14_24_110 (by decide) rfl ?_
              refine zz_iconst zd_14_24_112 ?_
              refine zz_istore [some (.ref 1079), some (zl p0), none, some (zi (S1 1087 0)), some (zi 0), some (zi 5)] zd_14_24_113 (by decide) rfl ?_
              have g93 := zz_G.r G_S1 1087 1 (-2147483648) 2147483647 rfl rfl
              have g94 := zz_G.r G_S1 1087 2 (-2147483648) 2147483647 rfl rfl
              have g95 := zz_G.r G_S1 1087 3 (-2147483648) 2147483647 rfl rfl
              have g96 := zz_G.r G_S1 1087 4 (-2147483648) 2147483647 rfl rfl
              have g97 := zz_G.r G_S1 1087 5 (-2147483648) 2147483647 rfl rfl
              have g98 := zz_G.r G_S1 1087 8 (-2147483648) 2147483647 rfl rfl
              have g99 := zz_G.r G_S1 1087 9 (-2147483648) 2147483647 rfl rfl
              have g100 := zz_G.r G_S1 1087 10 (-2147483648) 2147483647 rfl rfl
              refine zz_less (ls1 := [some (.ref 1079), none, none, some (zi (S1 1087 0)), some (zi 0), some (zi 5)]) ⟨rfl, ⟨rfl, ⟨rfl, ⟨rfl, trivial⟩⟩⟩⟩ ?_
              exact k115 (S1 1087 0) 0 5 S1 G_S1 F_S1 (by omega) (by omega) (by omega) (by omega) (by omega) (by omega) (by omega) (by omega) (by omega) (by omega) (by omega) (by omega) (by omega) (by omega) (by omega) (by omega) (by omega) (by omega) (Or.inr ⟨rfl, zz_shx (by omega), by omega, zz_sa5 _ _ _ _ _ _ _ _⟩)
            · refine zz_iconst zd_14_24_63 ?_
              refine zz_goto zd_14_24_64 ?_
              refine zz_istore [some (.ref 1079), some (zl p0), none, some (zi (S1 1087 0)), some (zi 1)] zd_14_24_110 (by decide) rfl ?_
              refine zz_iconst zd_14_24_112 ?_
              refine zz_istore [some (.ref 1079), some (zl p0), none, some (zi (S1 1087 0)), some (zi 1), some (zi 5)] zd_14_24_113 (by decide) rfl ?_
              have g101 := zz_G.r G_S1 1087 1 (-2147483648) 2147483647 rfl rfl
              have g102 := zz_G.r G_S1 1087 2 (-2147483648) 2147483647 rfl rfl
              have g103 := zz_G.r G_S1 1087 3 (-2147483648) 2147483647 rfl rfl
              have g104 := zz_G.r G_S1 1087 4 (-2147483648) 2147483647 rfl rfl
              have g105 := zz_G.r G_S1 1087 5 (-2147483648) 2147483647 rfl rfl
              have g106 := zz_G.r G_S1 1087 8 (-2147483648) 2147483647 rfl rfl
              have g107 := zz_G.r G_S1 1087 9 (-2147483648) 2147483647 rfl rfl
              have g108 := zz_G.r G_S1 1087 10 (-2147483648) 2147483647 rfl rfl
              refine zz_less (ls1 := [some (.ref 1079), none, none, some (zi (S1 1087 0)), some (zi 1), some (zi 5)]) ⟨rfl, ⟨rfl, ⟨rfl, ⟨rfl, trivial⟩⟩⟩⟩ ?_
              exact k115 (S1 1087 0) 1 5 S1 G_S1 F_S1 (by omega) (by omega) (by omega) (by omega) (by omega) (by omega) (by omega) (by omega) (by omega) (by omega) (by omega) (by omega) (by omega) (by omega) (by omega) (by omega) (by omega) (by omega) (Or.inl ⟨rfl, zz_e1 (by omega) (by omega)⟩)
    · exfalso; omega
abbrev zy_illegal_14_25 : mm_Y := (⟨"TensorForgeModel", "illegal", "(J)Z"⟩, prog_14_method_25_code, 3, (some .boolean))
theorem zyw_illegal_14_25 : mm_Yw zy_illegal_14_25 1 := ⟨mm_tb_1 1886 (by decide +kernel) rfl, mm_tb_1 12 (by decide +kernel) rfl, ⟨by decide, by decide⟩, by decide +kernel⟩
theorem zk_Md_250 : mm_Vl "TensorForgeModel" 250 11 1 zy_isIllegal_14_24 := ⟨zyw_isIllegal_14_24, (R_Md, F_Md, 69), rfl, mm_tb_1 1887 (by decide +kernel) rfl, mm_tb_1 1889 (by decide +kernel) rfl, mm_tb_s 88 (by decide +kernel) rfl⟩
theorem zg_14_25_0 : zq_at zy_illegal_14_25.2.1 0 42 ∧ zq_at zy_illegal_14_25.2.1 1 3 ∧ zq_at zy_illegal_14_25.2.1 2 181 ∧ zq_at zy_illegal_14_25.2.1 3 0 ∧ zq_at zy_illegal_14_25.2.1 4 187 ∧ zq_at zy_illegal_14_25.2.1 5 42 ∧ zq_at zy_illegal_14_25.2.1 6 31 ∧ zq_at zy_illegal_14_25.2.1 7 182 ∧ zq_at zy_illegal_14_25.2.1 8 0 ∧ zq_at zy_illegal_14_25.2.1 9 250 ∧ zq_at zy_illegal_14_25.2.1 10 172 := by decide +kernel
theorem zd_14_25_0 : zz_D zy_illegal_14_25 0 (.aload_n 0) 1 1 := ⟨zq_42 zg_14_25_0.1, rfl⟩
theorem zd_14_25_1 : zz_D zy_illegal_14_25 1 (.iconst 0) 1 2 := ⟨zq_3 zg_14_25_0.2.1, rfl⟩
theorem zd_14_25_2 : zz_D zy_illegal_14_25 2 (.putfield 187) 3 5 := ⟨zq_181 zg_14_25_0.2.2.1 zg_14_25_0.2.2.2.1 zg_14_25_0.2.2.2.2.1 rfl, rfl⟩
theorem zd_14_25_5 : zz_D zy_illegal_14_25 5 (.aload_n 0) 1 6 := ⟨zq_42 zg_14_25_0.2.2.2.2.2.1, rfl⟩
theorem zd_14_25_6 : zz_D zy_illegal_14_25 6 (.lload_n 1) 1 7 := ⟨zq_31 zg_14_25_0.2.2.2.2.2.2.1, rfl⟩
theorem zd_14_25_7 : zz_D zy_illegal_14_25 7 (.invokevirtual 250) 3 10 := ⟨zq_182 zg_14_25_0.2.2.2.2.2.2.2.1 zg_14_25_0.2.2.2.2.2.2.2.2.1 zg_14_25_0.2.2.2.2.2.2.2.2.2.1 rfl, rfl⟩
theorem zd_14_25_10 : zz_D zy_illegal_14_25 10 (.ireturn) 1 11 := ⟨zq_172 zg_14_25_0.2.2.2.2.2.2.2.2.2.2, rfl⟩

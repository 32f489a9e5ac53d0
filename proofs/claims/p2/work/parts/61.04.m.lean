-- TensorForgeModel groupLoads (IIIIIZZ)V
abbrev zr_groupLoads_14_84 : Room := { frames := 4, cells := 0, slots := 0, locals := 59 }
def zp_groupLoads_14_84 (p0 : Int) (p1 : Int) (p2 : Int) (p3 : Int) (p4 : Int) (p5 : Int) (p6 : Int) (S0 : zz_S) : zz_S → Prop := fun S => zz_G S ∧ zz_fr [(1079, 10), (1079, 57)] [1086, 1087] (fun _ _ => False) S0 S ∧ (S0 1079 10 ≤ S 1079 10 ∧ S 1079 10 ≤ S0 1079 10 + 5) ∧ (p6 = 1 → S 1079 10 = S0 1079 10)
theorem zb_groupLoads_14_84_300 {g : mm_G} {l : Launch} (p0 : Int) (p1 : Int) (p2 : Int) (p3 : Int) (p4 : Int) (p5 : Int) (p6 : Int) (S0 : zz_S) (n : Nat) (hn : zz_end ≤ n) (G_S0 : zz_G S0) (hp0 : 0 ≤ p0 ∧ p0 ≤ 9) (hp1 : (-2147483648) ≤ p1 ∧ p1 ≤ 2147483647) (hp2 : (-2147483648) ≤ p2 ∧ p2 ≤ 2147483647) (hp3 : (-2147483648) ≤ p3 ∧ p3 ≤ 2147483647) (hp4 : (-2147483648) ≤ p4 ∧ p4 ≤ 2147483647) (hp5 : 0 ≤ p5 ∧ p5 ≤ 1) (hp6 : 0 ≤ p6 ∧ p6 ≤ 1) (hq : S0 1079 10 ≤ 900000) (x10 : Int) (x11 : Int) (x12 : Int) (x13 : Int) (x14 : Int) (S : zz_S) (G_S : zz_G S) (F_S : zz_fr [(1079, 10), (1079, 57)] [1086, 1087] (fun _ _ => False) S0 S) (i300_0 : (-2147483648) ≤ x10 ∧ x10 ≤ 2147483647) (i300_1 : (-2147483648) ≤ x11 ∧ x11 ≤ 2147483647) (i300_2 : (-2147483648) ≤ x12 ∧ x12 ≤ 2147483647) (i300_3 : (-2147483648) ≤ x13 ∧ x13 ≤ 2147483647) (i300_4 : 0 ≤ x14 ∧ x14 ≤ 2147483647) (i300_5 : S0 1106 p0.toNat ≠ 2) (i300_6 : S0 1079 10 ≤ S 1079 10 ∧ S 1079 10 ≤ S0 1079 10 + 2) (i300_7 : p6 = 1 → S 1079 10 = S0 1079 10) (R : Nat) (hR : (2147483647 - x14).toNat = R) (k300 : ∀ (x10 : Int) (x11 : Int) (x12 : Int) (x13 : Int) (x14 : Int) (S : zz_S), zz_G S → zz_fr [(1079, 10), (1079, 57)] [1086, 1087] (fun _ _ => False) S0 S → ((-2147483648) ≤ x10 ∧ x10 ≤ 2147483647) → ((-2147483648) ≤ x11 ∧ x11 ≤ 2147483647) → ((-2147483648) ≤ x12 ∧ x12 ≤ 2147483647) → ((-2147483648) ≤ x13 ∧ x13 ≤ 2147483647) → (0 ≤ x14 ∧ x14 ≤ 2147483647) → (S0 1106 p0.toNat ≠ 2) → (S0 1079 10 ≤ S 1079 10 ∧ S 1079 10 ≤ S0 1079 10 + 2) → (p6 = 1 → S 1079 10 = S0 1079 10) → (2147483647 - x14).toNat < R → zz_E g l zy_groupLoads_14_84 zr_groupLoads_14_84 (zz_QV n (zp_groupLoads_14_84 p0 p1 p2 p3 p4 p5 p6 S0)) S n 300 [some (.ref 1079), some (zi p0), none, none, some (zi p3), some (zi p4), none, some (zi p6), some (zi (S0 1107 p0.toNat)), none, some (zi x10), some (zi x11), some (zi x12), some (zi x13), some (zi x14)] [] 0 0) : zz_E g l zy_groupLoads_14_84 zr_groupLoads_14_84 (zz_QV n (zp_groupLoads_14_84 p0 p1 p2 p3 p4 p5 p6 S0)) S n 300 [some (.ref 1079), some (zi p0), none, none, some (zi p3), some (zi p4), none, some (zi p6), some (zi (S0 1107 p0.toNat)), none, some (zi x10), some (zi x11), some (zi x12), some (zi x13), some (zi x14)] [] 0 0 := by
  refine zz_iload (x := x14) rfl zd_14_84_300 ?_
  refine zz_aload_n (x := 1079) rfl zd_14_84_302 ?_
  have g157 := zz_G.r G_S0 1079 52 (-2147483648) 2147483647 rfl rfl
  refine zz_geti (z := S0 1079 52) zd_14_84_303 zf_Md_469 zT_1079 rfl (zz_ltn hn rfl) (zz_rc F_S rfl rfl (fun h => h) rfl) ?_
  refine zz_icmp_ge (by omega) (by omega) zd_14_84_306 (fun c158 => ?_) (fun c158 => ?_)
  · refine zz_iload (x := x13) rfl zd_14_84_378 ?_
    refine zz_if_ne (by omega) zd_14_84_380 (fun c159 => ?_) (fun c159 => ?_)
    · refine zz_iconst zd_14_84_387 ?_
      refine zz_istore [some (.ref 1079), some (zi p0), none, none, some (zi p3), some (zi p4), none, some (zi p6), some (zi (S0 1107 p0.toNat)), none, some (zi x10), some (zi x11), some (zi x12), some (zi x13), some (zi 0)] zd_14_84_388 (by decide) rfl ?_
      refine zz_iload (x := x12) rfl zd_14_84_390 ?_
      refine zz_if_le (by omega) zd_14_84_392 (fun c160 => ?_) (fun c160 => ?_)
      · refine zz_iload (x := 0) rfl zd_14_84_422 ?_
        refine zz_if_ne (by omega) zd_14_84_424 (fun c161 => ?_) (fun c161 => ?_)
        · exfalso; omega
        · refine zz_aload_n (x := 1079) rfl zd_14_84_427 ?_
          refine zz_iconst zd_14_84_428 ?_
          refine zz_aload_n (x := 1079) rfl zd_14_84_429 ?_
          refine zz_getr (kd := 0) (z := 1105) zd_14_84_430 zf_Md_97 zT_1079 rfl (zz_ltn hn rfl) (zz_G.eq G_S 1079 40 1105 rfl rfl) (by decide) 1105 rfl ?_
          refine zz_iload (x := S0 1107 p0.toNat) rfl zd_14_84_433 ?_
          have g162 := zz_G.r G_S0 1105 ((S0 1107 p0.toNat).toNat) (0) (if (S0 1107 p0.toNat).toNat = 0 then 0 else 10000000) rfl rfl
          refine zz_iald (z := S0 1105 ((S0 1107 p0.toNat).toNat)) zd_14_84_435 zT_1105 rfl (zz_ltn hn rfl) (by decide) (by omega) (zz_rc F_S (zz_nc1 rfl) rfl (fun h => h) rfl) ?_
          refine zz_iload (x := x10) rfl zd_14_84_436 ?_
          refine zz_aload_n (x := 1079) rfl zd_14_84_438 ?_
          refine zz_getr (kd := 0) (z := 1103) zd_14_84_439 zf_Md_91 zT_1079 rfl (zz_ltn hn rfl) (zz_G.eq G_S 1079 38 1103 rfl rfl) (by decide) 1103 rfl ?_
          refine zz_iload (x := S0 1107 p0.toNat) rfl zd_14_84_442 ?_
          have g163 := zz_G.r G_S0 1103 ((S0 1107 p0.toNat).toNat) 0 63 rfl rfl
          refine zz_iald (z := S0 1103 ((S0 1107 p0.toNat).toNat)) zd_14_84_444 zT_1103 rfl (zz_ltn hn rfl) (by decide) (by omega) (zz_rc F_S (zz_nc1 rfl) rfl (fun h => h) rfl) ?_
          refine zz_imul zd_14_84_445 ?_
          refine zz_nrm (fun v164 hv164 ev164 => ?_)
          refine zz_iload (x := x11) rfl zd_14_84_446 ?_
          refine zz_iadd zd_14_84_448 ?_
          refine zz_nrm (fun v165 hv165 ev165 => ?_)
          refine zz_aload_n (x := 1079) rfl zd_14_84_449 ?_
          refine zz_getr (kd := 0) (z := 1111) zd_14_84_450 zf_Md_115 zT_1079 rfl (zz_ltn hn rfl) (zz_G.eq G_S 1079 46 1111 rfl rfl) (by decide) 1111 rfl ?_
          refine zz_iload_n (x := p0) rfl zd_14_84_453 ?_
          have g166 := zz_G.r G_S0 1111 p0.toNat 0 3 rfl rfl
          refine zz_iald (z := S0 1111 p0.toNat) zd_14_84_454 zT_1111 rfl (zz_ltn hn rfl) (by decide) (by omega) (zz_rc F_S (zz_nc1 rfl) rfl (fun h => h) rfl) ?_
          refine zz_iload (x := x12) rfl zd_14_84_455 ?_
          refine zz_imul zd_14_84_457 ?_
          refine zz_nrm (fun v167 hv167 ev167 => ?_)
          refine zz_iadd zd_14_84_458 ?_
          refine zz_nrm (fun v168 hv168 ev168 => ?_)
          refine zz_aload_n (x := 1079) rfl zd_14_84_459 ?_
          refine zz_getr (kd := 0) (z := 1104) zd_14_84_460 zf_Md_94 zT_1079 rfl (zz_ltn hn rfl) (zz_G.eq G_S 1079 39 1104 rfl rfl) (by decide) 1104 rfl ?_
          refine zz_iload (x := S0 1107 p0.toNat) rfl zd_14_84_463 ?_
          have g169 := zz_G.r G_S0 1104 ((S0 1107 p0.toNat).toNat) 0 63 rfl rfl
          refine zz_iald (z := S0 1104 ((S0 1107 p0.toNat).toNat)) zd_14_84_465 zT_1104 rfl (zz_ltn hn rfl) (by decide) (by omega) (zz_rc F_S (zz_nc1 rfl) rfl (fun h => h) rfl) ?_
          refine zz_imul zd_14_84_466 ?_
          refine zz_nrm (fun v170 hv170 ev170 => ?_)
          refine zz_iadd zd_14_84_467 ?_
          refine zz_nrm (fun v171 hv171 ev171 => ?_)
          refine zz_iload (x := p3) rfl zd_14_84_468 ?_
          refine zz_iadd zd_14_84_470 ?_
          refine zz_nrm (fun v172 hv172 ev172 => ?_)
          refine zz_iload (x := x13) rfl zd_14_84_471 ?_
          refine zz_iload (x := p4) rfl zd_14_84_473 ?_
          refine zz_callVV [zi 1, zi v172, zi x13, zi p4] zd_14_84_475 zk_Md_475 zT_1079 (zz_ltn hn rfl) rfl rfl ⟨Nat.le_of_ble_eq_true rfl, Nat.le_of_ble_eq_true rfl⟩ ⟨rfl, rfl⟩ (Nat.zero_le _) (Nat.zero_le _) (zc_set_14_78 1 v172 x13 p4 S n hn G_S (by omega) (by omega) (by omega) (by omega)) (fun S173 hP => ?_)
          obtain ⟨G_S173, fS173⟩ := hP
          have F_S173 := zz_fr.trans F_S fS173 rfl zz_nv
          refine zz_aload_n (x := 1079) rfl zd_14_84_478 ?_
          refine zz_aload_n (x := 1079) rfl zd_14_84_479 ?_
          refine zz_callVI [] zd_14_84_480 zk_Md_489 zT_1079 (zz_ltn hn rfl) rfl rfl ⟨Nat.le_of_ble_eq_true rfl, Nat.le_of_ble_eq_true rfl⟩ ⟨rfl, rfl⟩ (Nat.zero_le _) (Nat.zero_le _) (zc_half_14_80  S173 n hn G_S173 ) (fun v176 S175 hP => ?_)
          obtain ⟨rfl, o177⟩ := hP
          refine zz_iload (x := x12) rfl zd_14_84_483 ?_
          refine zz_aload_n (x := 1079) rfl zd_14_84_485 ?_
          have g178 := zz_G.r G_S0 1079 1 2 8 rfl rfl
          refine zz_geti (z := S0 1079 1) zd_14_84_486 zf_Md_7 zT_1079 rfl (zz_ltn hn rfl) (zz_rc fS173 rfl rfl (fun h => h) (zz_rc F_S rfl rfl (fun h => h) rfl)) ?_
          refine zz_imul zd_14_84_489 ?_
          refine zz_nrm (fun v179 hv179 ev179 => ?_)
          refine zz_iadd zd_14_84_490 ?_
          refine zz_nrm (fun v180 hv180 ev180 => ?_)
          refine zz_iconst zd_14_84_491 ?_
          refine zz_aload_n (x := 1079) rfl zd_14_84_492 ?_
          refine zz_getr (kd := 0) (z := 1111) zd_14_84_493 zf_Md_115 zT_1079 rfl (zz_ltn hn rfl) (zz_G.eq G_S173 1079 46 1111 rfl rfl) (by decide) 1111 rfl ?_
          refine zz_iload_n (x := p0) rfl zd_14_84_496 ?_
          refine zz_iald (z := S0 1111 p0.toNat) zd_14_84_497 zT_1111 rfl (zz_ltn hn rfl) (by decide) (by omega) (zz_rc fS173 (zz_nc1 rfl) rfl (fun h => h) (zz_rc F_S (zz_nc1 rfl) rfl (fun h => h) rfl)) ?_
          refine zz_aload_n (x := 1079) rfl zd_14_84_498 ?_
          refine zz_getr (kd := 0) (z := 1104) zd_14_84_499 zf_Md_94 zT_1079 rfl (zz_ltn hn rfl) (zz_G.eq G_S173 1079 39 1104 rfl rfl) (by decide) 1104 rfl ?_
          refine zz_iload (x := S0 1107 p0.toNat) rfl zd_14_84_502 ?_
          refine zz_iald (z := S0 1104 ((S0 1107 p0.toNat).toNat)) zd_14_84_504 zT_1104 rfl (zz_ltn hn rfl) (by decide) (by omega) (zz_rc fS173 (zz_nc1 rfl) rfl (fun h => h) (zz_rc F_S (zz_nc1 rfl) rfl (fun h => h) rfl)) ?_
          refine zz_imul zd_14_84_505 ?_
          have m181 := zz_mulb (a := S0 1111 p0.toNat) (b := S0 1104 ((S0 1107 p0.toNat).toNat)) 3 63 189 (by omega) (by omega) (by decide)
          refine zz_nme (fun v182 ev182 => ?_)
          refine zz_iconst zd_14_84_506 ?_
          refine zz_callVV [zi v180, zi 0, zi v182, zi 0] zd_14_84_507 zk_Md_482 zT_1079 (zz_ltn hn rfl) rfl rfl ⟨Nat.le_of_ble_eq_true rfl, Nat.le_of_ble_eq_true rfl⟩ ⟨rfl, rfl⟩ (Nat.zero_le _) (Nat.zero_le _) (zc_with_14_79 v180 0 v182 0 S173 n hn G_S173 (by omega) (by omega) (by omega) (by omega)) (fun S183 hP => ?_)
          obtain ⟨G_S183, fS183⟩ := hP
          have F_S183 := zz_fr.trans F_S173 fS183 rfl zz_nv
          refine zz_aload_n (x := 1079) rfl zd_14_84_510 ?_
          refine zz_iload (x := p6) rfl zd_14_84_511 ?_
          have g185 := zz_G.r G_S 1079 10 0 1000000 rfl rfl
          have e186 : S183 1079 10 = S 1079 10 := (zz_rc fS183 rfl rfl (fun h => h) (zz_rc fS173 rfl rfl (fun h => h) rfl))
          refine zz_callVV [zi p6] zd_14_84_513 zk_Md_485 zT_1079 (zz_ltn hn rfl) rfl rfl ⟨Nat.le_of_ble_eq_true rfl, Nat.le_of_ble_eq_true rfl⟩ ⟨rfl, rfl⟩ (Nat.zero_le _) (Nat.zero_le _) (zc_load_14_82 p6 S183 n hn G_S183 (by omega) (by omega)) (fun S187 hP => ?_)
          obtain ⟨G_S187, fS187, o189, o190⟩ := hP
          have F_S187 := zz_fr.trans F_S183 fS187 rfl zz_nv
          refine zz_iload (x := x12) rfl zd_14_84_516 ?_
          refine zz_iload (x := x13) rfl zd_14_84_518 ?_
          refine zz_iadd zd_14_84_520 ?_
          refine zz_nrm (fun v191 hv191 ev191 => ?_)
          refine zz_aload_n (x := 1079) rfl zd_14_84_521 ?_
          refine zz_geti (z := S0 1079 52) zd_14_84_522 zf_Md_469 zT_1079 rfl (zz_ltn hn rfl) (zz_rc fS187 rfl rfl (fun h => h) (zz_rc fS183 rfl rfl (fun h => h) (zz_rc fS173 rfl rfl (fun h => h) (zz_rc F_S rfl rfl (fun h => h) rfl)))) ?_
          refine zz_icmp_ge (by omega) (by omega) zd_14_84_525 (fun c192 => ?_) (fun c192 => ?_)
          · have g193 := zz_G.r G_S187 1079 10 0 1000000 rfl rfl
            exact zz_vret zd_14_84_574 rfl (Nat.zero_le _) (Nat.zero_le _) ⟨_, rfl, G_S187, F_S187, by omega, by omega⟩
          · refine zz_aload_n (x := 1079) rfl zd_14_84_528 ?_
            refine zz_iconst zd_14_84_529 ?_
            refine zz_iconst zd_14_84_530 ?_
            refine zz_aload_n (x := 1079) rfl zd_14_84_531 ?_
            refine zz_geti (z := S0 1079 52) zd_14_84_532 zf_Md_469 zT_1079 rfl (zz_ltn hn rfl) (zz_rc fS187 rfl rfl (fun h => h) (zz_rc fS183 rfl rfl (fun h => h) (zz_rc fS173 rfl rfl (fun h => h) (zz_rc F_S rfl rfl (fun h => h) rfl)))) ?_
            refine zz_iload (x := x12) rfl zd_14_84_535 ?_
            refine zz_isub zd_14_84_537 ?_
            refine zz_nrm (fun v194 hv194 ev194 => ?_)
            refine zz_iload (x := x13) rfl zd_14_84_538 ?_
            refine zz_isub zd_14_84_540 ?_
            refine zz_nrm (fun v195 hv195 ev195 => ?_)
            refine zz_iload (x := p4) rfl zd_14_84_541 ?_
            refine zz_callVV [zi 3, zi 0, zi v195, zi p4] zd_14_84_543 zk_Md_475 zT_1079 (zz_ltn hn rfl) rfl rfl ⟨Nat.le_of_ble_eq_true rfl, Nat.le_of_ble_eq_true rfl⟩ ⟨rfl, rfl⟩ (Nat.zero_le _) (Nat.zero_le _) (zc_set_14_78 3 0 v195 p4 S187 n hn G_S187 (by omega) (by omega) (by omega) (by omega)) (fun S196 hP => ?_)
            obtain ⟨G_S196, fS196⟩ := hP
            have F_S196 := zz_fr.trans F_S187 fS196 rfl zz_nv
            refine zz_aload_n (x := 1079) rfl zd_14_84_546 ?_
            refine zz_aload_n (x := 1079) rfl zd_14_84_547 ?_
            refine zz_callVI [] zd_14_84_548 zk_Md_489 zT_1079 (zz_ltn hn rfl) rfl rfl ⟨Nat.le_of_ble_eq_true rfl, Nat.le_of_ble_eq_true rfl⟩ ⟨rfl, rfl⟩ (Nat.zero_le _) (Nat.zero_le _) (zc_half_14_80  S196 n hn G_S196 ) (fun v199 S198 hP => ?_)
            obtain ⟨rfl, o200⟩ := hP
            refine zz_iload (x := x12) rfl zd_14_84_551 ?_
            refine zz_iload (x := x13) rfl zd_14_84_553 ?_
            refine zz_iadd zd_14_84_555 ?_
            refine zz_nrm (fun v201 hv201 ev201 => ?_)
            refine zz_aload_n (x := 1079) rfl zd_14_84_556 ?_
            refine zz_geti (z := S0 1079 1) zd_14_84_557 zf_Md_7 zT_1079 rfl (zz_ltn hn rfl) (zz_rc fS196 rfl rfl (fun h => h) (zz_rc fS187 rfl rfl (fun h => h) (zz_rc fS183 rfl rfl (fun h => h) (zz_rc fS173 rfl rfl (fun h => h) (zz_rc F_S rfl rfl (fun h => h) rfl))))) ?_
            refine zz_imul zd_14_84_560 ?_
            refine zz_nrm (fun v202 hv202 ev202 => ?_)
            refine zz_iadd zd_14_84_561 ?_
            refine zz_nrm (fun v203 hv203 ev203 => ?_)
            refine zz_iconst zd_14_84_562 ?_
            refine zz_iconst zd_14_84_563 ?_
            refine zz_iconst zd_14_84_564 ?_
            refine zz_callVV [zi v203, zi 0, zi 0, zi 0] zd_14_84_565 zk_Md_482 zT_1079 (zz_ltn hn rfl) rfl rfl ⟨Nat.le_of_ble_eq_true rfl, Nat.le_of_ble_eq_true rfl⟩ ⟨rfl, rfl⟩ (Nat.zero_le _) (Nat.zero_le _) (zc_with_14_79 v203 0 0 0 S196 n hn G_S196 (by omega) (by omega) (by omega) (by omega)) (fun S204 hP => ?_)
            obtain ⟨G_S204, fS204⟩ := hP
            have F_S204 := zz_fr.trans F_S196 fS204 rfl zz_nv
            refine zz_aload_n (x := 1079) rfl zd_14_84_568 ?_
            refine zz_iload (x := p6) rfl zd_14_84_569 ?_
            have g206 := zz_G.r G_S187 1079 10 0 1000000 rfl rfl
            have e207 : S204 1079 10 = S187 1079 10 := (zz_rc fS204 rfl rfl (fun h => h) (zz_rc fS196 rfl rfl (fun h => h) rfl))
            refine zz_callVV [zi p6] zd_14_84_571 zk_Md_485 zT_1079 (zz_ltn hn rfl) rfl rfl ⟨Nat.le_of_ble_eq_true rfl, Nat.le_of_ble_eq_true rfl⟩ ⟨rfl, rfl⟩ (Nat.zero_le _) (Nat.zero_le _) (zc_load_14_82 p6 S204 n hn G_S204 (by omega) (by omega)) (fun S208 hP => ?_)
            obtain ⟨G_S208, fS208, o210, o211⟩ := hP
            have F_S208 := zz_fr.trans F_S204 fS208 rfl zz_nv
            have g212 := zz_G.r G_S208 1079 10 0 1000000 rfl rfl
            exact zz_vret zd_14_84_574 rfl (Nat.zero_le _) (Nat.zero_le _) ⟨_, rfl, G_S208, F_S208, by omega, by omega⟩
      · refine zz_aload_n (x := 1079) rfl zd_14_84_395 ?_
        refine zz_iconst zd_14_84_396 ?_
        refine zz_iconst zd_14_84_397 ?_
        refine zz_iload (x := x12) rfl zd_14_84_398 ?_
        refine zz_iload (x := p4) rfl zd_14_84_400 ?_
        refine zz_callVV [zi 3, zi 0, zi x12, zi p4] zd_14_84_402 zk_Md_475 zT_1079 (zz_ltn hn rfl) rfl rfl ⟨Nat.le_of_ble_eq_true rfl, Nat.le_of_ble_eq_true rfl⟩ ⟨rfl, rfl⟩ (Nat.zero_le _) (Nat.zero_le _) (zc_set_14_78 3 0 x12 p4 S n hn G_S (by omega) (by omega) (by omega) (by omega)) (fun S213 hP => ?_)
        obtain ⟨G_S213, fS213⟩ := hP
        have F_S213 := zz_fr.trans F_S fS213 rfl zz_nv
        refine zz_aload_n (x := 1079) rfl zd_14_84_405 ?_
        refine zz_aload_n (x := 1079) rfl zd_14_84_406 ?_
        refine zz_callVI [] zd_14_84_407 zk_Md_489 zT_1079 (zz_ltn hn rfl) rfl rfl ⟨Nat.le_of_ble_eq_true rfl, Nat.le_of_ble_eq_true rfl⟩ ⟨rfl, rfl⟩ (Nat.zero_le _) (Nat.zero_le _) (zc_half_14_80  S213 n hn G_S213 ) (fun v216 S215 hP => ?_)
        obtain ⟨rfl, o217⟩ := hP
        refine zz_iconst zd_14_84_410 ?_
        refine zz_iconst zd_14_84_411 ?_
        refine zz_iconst zd_14_84_412 ?_
        refine zz_callVV [zi v216, zi 0, zi 0, zi 0] zd_14_84_413 zk_Md_482 zT_1079 (zz_ltn hn rfl) rfl rfl ⟨Nat.le_of_ble_eq_true rfl, Nat.le_of_ble_eq_true rfl⟩ ⟨rfl, rfl⟩ (Nat.zero_le _) (Nat.zero_le _) (zc_with_14_79 v216 0 0 0 S213 n hn G_S213 (by omega) (by omega) (by omega) (by omega)) (fun S218 hP => ?_)
        obtain ⟨G_S218, fS218⟩ := hP
        have F_S218 := zz_fr.trans F_S213 fS218 rfl zz_nv
        refine zz_aload_n (x := 1079) rfl zd_14_84_416 ?_
        refine zz_iload (x := p6) rfl zd_14_84_417 ?_
        have g220 := zz_G.r G_S 1079 10 0 1000000 rfl rfl
        have e221 : S218 1079 10 = S 1079 10 := (zz_rc fS218 rfl rfl (fun h => h) (zz_rc fS213 rfl rfl (fun h => h) rfl))
        refine zz_callVV [zi p6] zd_14_84_419 zk_Md_485 zT_1079 (zz_ltn hn rfl) rfl rfl ⟨Nat.le_of_ble_eq_true rfl, Nat.le_of_ble_eq_true rfl⟩ ⟨rfl, rfl⟩ (Nat.zero_le _) (Nat.zero_le _) (zc_load_14_82 p6 S218 n hn G_S218 (by omega) (by omega)) (fun S222 hP => ?_)
        obtain ⟨G_S222, fS222, o224, o225⟩ := hP
        have F_S222 := zz_fr.trans F_S218 fS222 rfl zz_nv
        refine zz_iload (x := 0) rfl zd_14_84_422 ?_
        refine zz_if_ne (by omega) zd_14_84_424 (fun c226 => ?_) (fun c226 => ?_)
        · exfalso; omega
        · refine zz_aload_n (x := 1079) rfl zd_14_84_427 ?_
          refine zz_iconst zd_14_84_428 ?_
          refine zz_aload_n (x := 1079) rfl zd_14_84_429 ?_
          refine zz_getr (kd := 0) (z := 1105) zd_14_84_430 zf_Md_97 zT_1079 rfl (zz_ltn hn rfl) (zz_G.eq G_S222 1079 40 1105 rfl rfl) (by decide) 1105 rfl ?_
          refine zz_iload (x := S0 1107 p0.toNat) rfl zd_14_84_433 ?_
          have g227 := zz_G.r G_S0 1105 ((S0 1107 p0.toNat).toNat) (0) (if (S0 1107 p0.toNat).toNat = 0 then 0 else 10000000) rfl rfl
          refine zz_iald (z := S0 1105 ((S0 1107 p0.toNat).toNat)) zd_14_84_435 zT_1105 rfl (zz_ltn hn rfl) (by decide) (by omega) (zz_rc fS222 (zz_nc1 rfl) rfl (fun h => h) (zz_rc fS218 (zz_nc1 rfl) rfl (fun h => h) (zz_rc fS213 (zz_nc1 rfl) rfl (fun h => h) (zz_rc F_S (zz_nc1 rfl) rfl (fun h => h) rfl)))) ?_
          refine zz_iload (x := x10) rfl zd_14_84_436 ?_
          refine zz_aload_n (x := 1079) rfl zd_14_84_438 ?_
          refine zz_getr (kd := 0) (z := 1103) zd_14_84_439 zf_Md_91 zT_1079 rfl (zz_ltn hn rfl) (zz_G.eq G_S222 1079 38 1103 rfl rfl) (by decide) 1103 rfl ?_
          refine zz_iload (x := S0 1107 p0.toNat) rfl zd_14_84_442 ?_
          have g228 := zz_G.r G_S0 1103 ((S0 1107 p0.toNat).toNat) 0 63 rfl rfl
          refine zz_iald (z := S0 1103 ((S0 1107 p0.toNat).toNat)) zd_14_84_444 zT_1103 rfl (zz_ltn hn rfl) (by decide) (by omega) (zz_rc fS222 (zz_nc1 rfl) rfl (fun h => h) (zz_rc fS218 (zz_nc1 rfl) rfl (fun h => h) (zz_rc fS213 (zz_nc1 rfl) rfl (fun h => h) (zz_rc F_S (zz_nc1 rfl) rfl (fun h => h) rfl)))) ?_
          refine zz_imul zd_14_84_445 ?_
          refine zz_nrm (fun v229 hv229 ev229 => ?_)
          refine zz_iload (x := x11) rfl zd_14_84_446 ?_
          refine zz_iadd zd_14_84_448 ?_
          refine zz_nrm (fun v230 hv230 ev230 => ?_)
          refine zz_aload_n (x := 1079) rfl zd_14_84_449 ?_
          refine zz_getr (kd := 0) (z := 1111) zd_14_84_450 zf_Md_115 zT_1079 rfl (zz_ltn hn rfl) (zz_G.eq G_S222 1079 46 1111 rfl rfl) (by decide) 1111 rfl ?_
          refine zz_iload_n (x := p0) rfl zd_14_84_453 ?_
          have g231 := zz_G.r G_S0 1111 p0.toNat 0 3 rfl rfl
          refine zz_iald (z := S0 1111 p0.toNat) zd_14_84_454 zT_1111 rfl (zz_ltn hn rfl) (by decide) (by omega) (zz_rc fS222 (zz_nc1 rfl) rfl (fun h => h) (zz_rc fS218 (zz_nc1 rfl) rfl (fun h => h) (zz_rc fS213 (zz_nc1 rfl) rfl (fun h => h) (zz_rc F_S (zz_nc1 rfl) rfl (fun h => h) rfl)))) ?_
          refine zz_iload (x := x12) rfl zd_14_84_455 ?_
          refine zz_imul zd_14_84_457 ?_
          have m232 := zz_mulb (a := S0 1111 p0.toNat) (b := x12) 3 2147483647 6442450941 (by omega) (by omega) (by decide)
          refine zz_nrm (fun v233 hv233 ev233 => ?_)
          refine zz_iadd zd_14_84_458 ?_
          refine zz_nrm (fun v234 hv234 ev234 => ?_)
          refine zz_aload_n (x := 1079) rfl zd_14_84_459 ?_
          refine zz_getr (kd := 0) (z := 1104) zd_14_84_460 zf_Md_94 zT_1079 rfl (zz_ltn hn rfl) (zz_G.eq G_S222 1079 39 1104 rfl rfl) (by decide) 1104 rfl ?_
          refine zz_iload (x := S0 1107 p0.toNat) rfl zd_14_84_463 ?_
          have g235 := zz_G.r G_S0 1104 ((S0 1107 p0.toNat).toNat) 0 63 rfl rfl
          refine zz_iald (z := S0 1104 ((S0 1107 p0.toNat).toNat)) zd_14_84_465 zT_1104 rfl (zz_ltn hn rfl) (by decide) (by omega) (zz_rc fS222 (zz_nc1 rfl) rfl (fun h => h) (zz_rc fS218 (zz_nc1 rfl) rfl (fun h => h) (zz_rc fS213 (zz_nc1 rfl) rfl (fun h => h) (zz_rc F_S (zz_nc1 rfl) rfl (fun h => h) rfl)))) ?_
          refine zz_imul zd_14_84_466 ?_
          refine zz_nrm (fun v236 hv236 ev236 => ?_)
          refine zz_iadd zd_14_84_467 ?_
          refine zz_nrm (fun v237 hv237 ev237 => ?_)
          refine zz_iload (x := p3) rfl zd_14_84_468 ?_
          refine zz_iadd zd_14_84_470 ?_
          refine zz_nrm (fun v238 hv238 ev238 => ?_)
          refine zz_iload (x := x13) rfl zd_14_84_471 ?_
          refine zz_iload (x := p4) rfl zd_14_84_473 ?_
          refine zz_callVV [zi 1, zi v238, zi x13, zi p4] zd_14_84_475 zk_Md_475 zT_1079 (zz_ltn hn rfl) rfl rfl ⟨Nat.le_of_ble_eq_true rfl, Nat.le_of_ble_eq_true rfl⟩ ⟨rfl, rfl⟩ (Nat.zero_le _) (Nat.zero_le _) (zc_set_14_78 1 v238 x13 p4 S222 n hn G_S222 (by omega) (by omega) (by omega) (by omega)) (fun S239 hP => ?_)
          obtain ⟨G_S239, fS239⟩ := hP
          have F_S239 := zz_fr.trans F_S222 fS239 rfl zz_nv
          refine zz_aload_n (x := 1079) rfl zd_14_84_478 ?_
          refine zz_aload_n (x := 1079) rfl zd_14_84_479 ?_
          refine zz_callVI [] zd_14_84_480 zk_Md_489 zT_1079 (zz_ltn hn rfl) rfl rfl ⟨Nat.le_of_ble_eq_true rfl, Nat.le_of_ble_eq_true rfl⟩ ⟨rfl, rfl⟩ (Nat.zero_le _) (Nat.zero_le _) (zc_half_14_80  S239 n hn G_S239 ) (fun v242 S241 hP => ?_)
          obtain ⟨rfl, o243⟩ := hP
          refine zz_iload (x := x12) rfl zd_14_84_483 ?_
          refine zz_aload_n (x := 1079) rfl zd_14_84_485 ?_
          have g244 := zz_G.r G_S0 1079 1 2 8 rfl rfl
          refine zz_geti (z := S0 1079 1) zd_14_84_486 zf_Md_7 zT_1079 rfl (zz_ltn hn rfl) (zz_rc fS239 rfl rfl (fun h => h) (zz_rc fS222 rfl rfl (fun h => h) (zz_rc fS218 rfl rfl (fun h => h) (zz_rc fS213 rfl rfl (fun h => h) (zz_rc F_S rfl rfl (fun h => h) rfl))))) ?_
          refine zz_imul zd_14_84_489 ?_
          have m245 := zz_mulb (a := x12) (b := S0 1079 1) 2147483647 8 17179869176 (by omega) (by omega) (by decide)
          refine zz_nrm (fun v246 hv246 ev246 => ?_)
          refine zz_iadd zd_14_84_490 ?_
          refine zz_nrm (fun v247 hv247 ev247 => ?_)
          refine zz_iconst zd_14_84_491 ?_
          refine zz_aload_n (x := 1079) rfl zd_14_84_492 ?_
          refine zz_getr (kd := 0) (z := 1111) zd_14_84_493 zf_Md_115 zT_1079 rfl (zz_ltn hn rfl) (zz_G.eq G_S239 1079 46 1111 rfl rfl) (by decide) 1111 rfl ?_
          refine zz_iload_n (x := p0) rfl zd_14_84_496 ?_
          refine zz_iald (z := S0 1111 p0.toNat) zd_14_84_497 zT_1111 rfl (zz_ltn hn rfl) (by decide) (by omega) (zz_rc fS239 (zz_nc1 rfl) rfl (fun h => h) (zz_rc fS222 (zz_nc1 rfl) rfl (fun h => h) (zz_rc fS218 (zz_nc1 rfl) rfl (fun h => h) (zz_rc fS213 (zz_nc1 rfl) rfl (fun h => h) (zz_rc F_S (zz_nc1 rfl) rfl (fun h => h) rfl))))) ?_
          refine zz_aload_n (x := 1079) rfl zd_14_84_498 ?_
          refine zz_getr (kd := 0) (z := 1104) zd_14_84_499 zf_Md_94 zT_1079 rfl (zz_ltn hn rfl) (zz_G.eq G_S239 1079 39 1104 rfl rfl) (by decide) 1104 rfl ?_
          refine zz_iload (x := S0 1107 p0.toNat) rfl zd_14_84_502 ?_
          refine zz_iald (z := S0 1104 ((S0 1107 p0.toNat).toNat)) zd_14_84_504 zT_1104 rfl (zz_ltn hn rfl) (by decide) (by omega) (zz_rc fS239 (zz_nc1 rfl) rfl (fun h => h) (zz_rc fS222 (zz_nc1 rfl) rfl (fun h => h) (zz_rc fS218 (zz_nc1 rfl) rfl (fun h => h) (zz_rc fS213 (zz_nc1 rfl) rfl (fun h => h) (zz_rc F_S (zz_nc1 rfl) rfl (fun h => h) rfl))))) ?_
          refine zz_imul zd_14_84_505 ?_
          have m248 := zz_mulb (a := S0 1111 p0.toNat) (b := S0 1104 ((S0 1107 p0.toNat).toNat)) 3 63 189 (by omega) (by omega) (by decide)
          refine zz_nme (fun v249 ev249 => ?_)
          refine zz_iconst zd_14_84_506 ?_
          refine zz_callVV [zi v247, zi 0, zi v249, zi 0] zd_14_84_507 zk_Md_482 zT_1079 (zz_ltn hn rfl) rfl rfl ⟨Nat.le_of_ble_eq_true rfl, Nat.le_of_ble_eq_true rfl⟩ ⟨rfl, rfl⟩ (Nat.zero_le _) (Nat.zero_le _) (zc_with_14_79 v247 0 v249 0 S239 n hn G_S239 (by omega) (by omega) (by omega) (by omega)) (fun S250 hP => ?_)
          obtain ⟨G_S250, fS250⟩ := hP
          have F_S250 := zz_fr.trans F_S239 fS250 rfl zz_nv
          refine zz_aload_n (x := 1079) rfl zd_14_84_510 ?_
          refine zz_iload (x := p6) rfl zd_14_84_511 ?_
          have g252 := zz_G.r G_S222 1079 10 0 1000000 rfl rfl
          have e253 : S250 1079 10 = S222 1079 10 := (zz_rc fS250 rfl rfl (fun h => h) (zz_rc fS239 rfl rfl (fun h => h) rfl))
          refine zz_callVV [zi p6] zd_14_84_513 zk_Md_485 zT_1079 (zz_ltn hn rfl) rfl rfl ⟨Nat.le_of_ble_eq_true rfl, Nat.le_of_ble_eq_true rfl⟩ ⟨rfl, rfl⟩ (Nat.zero_le _) (Nat.zero_le _) (zc_load_14_82 p6 S250 n hn G_S250 (by omega) (by omega)) (fun S254 hP => ?_)
          obtain ⟨G_S254, fS254, o256, o257⟩ := hP
          have F_S254 := zz_fr.trans F_S250 fS254 rfl zz_nv
          refine zz_iload (x := x12) rfl zd_14_84_516 ?_
          refine zz_iload (x := x13) rfl zd_14_84_518 ?_
          refine zz_iadd zd_14_84_520 ?_
          refine zz_nrm (fun v258 hv258 ev258 => ?_)
          refine zz_aload_n (x := 1079) rfl zd_14_84_521 ?_
          refine zz_geti (z := S0 1079 52) zd_14_84_522 zf_Md_469 zT_1079 rfl (zz_ltn hn rfl) (zz_rc fS254 rfl rfl (fun h => h) (zz_rc fS250 rfl rfl (fun h => h) (zz_rc fS239 rfl rfl (fun h => h) (zz_rc fS222 rfl rfl (fun h => h) (zz_rc fS218 rfl rfl (fun h => h) (zz_rc fS213 rfl rfl (fun h => h) (zz_rc F_S rfl rfl (fun h => h) rfl))))))) ?_
          refine zz_icmp_ge (by omega) (by omega) zd_14_84_525 (fun c259 => ?_) (fun c259 => ?_)
          · have g260 := zz_G.r G_S254 1079 10 0 1000000 rfl rfl
            exact zz_vret zd_14_84_574 rfl (Nat.zero_le _) (Nat.zero_le _) ⟨_, rfl, G_S254, F_S254, by omega, by omega⟩
          · refine zz_aload_n (x := 1079) rfl zd_14_84_528 ?_
            refine zz_iconst zd_14_84_529 ?_
            refine zz_iconst zd_14_84_530 ?_
            refine zz_aload_n (x := 1079) rfl zd_14_84_531 ?_
            refine zz_geti (z := S0 1079 52) zd_14_84_532 zf_Md_469 zT_1079 rfl (zz_ltn hn rfl) (zz_rc fS254 rfl rfl (fun h => h) (zz_rc fS250 rfl rfl (fun h => h) (zz_rc fS239 rfl rfl (fun h => h) (zz_rc fS222 rfl rfl (fun h => h) (zz_rc fS218 rfl rfl (fun h => h) (zz_rc fS213 rfl rfl (fun h => h) (zz_rc F_S rfl rfl (fun h => h) rfl))))))) ?_
            refine zz_iload (x := x12) rfl zd_14_84_535 ?_
            refine zz_isub zd_14_84_537 ?_
            refine zz_nrm (fun v261 hv261 ev261 => ?_)
            refine zz_iload (x := x13) rfl zd_14_84_538 ?_
            refine zz_isub zd_14_84_540 ?_
            refine zz_nrm (fun v262 hv262 ev262 => ?_)
            refine zz_iload (x := p4) rfl zd_14_84_541 ?_
            refine zz_callVV [zi 3, zi 0, zi v262, zi p4] zd_14_84_543 zk_Md_475 zT_1079 (zz_ltn hn rfl) rfl rfl ⟨Nat.le_of_ble_eq_true rfl, Nat.le_of_ble_eq_true rfl⟩ ⟨rfl, rfl⟩ (Nat.zero_le _) (Nat.zero_le _) (zc_set_14_78 3 0 v262 p4 S254 n hn G_S254 (by omega) (by omega) (by omega) (by omega)) (fun S263 hP => ?_)
            obtain ⟨G_S263, fS263⟩ := hP
            have F_S263 := zz_fr.trans F_S254 fS263 rfl zz_nv
            refine zz_aload_n (x := 1079) rfl zd_14_84_546 ?_
            refine zz_aload_n (x := 1079) rfl zd_14_84_547 ?_
            refine zz_callVI [] zd_14_84_548 zk_Md_489 zT_1079 (zz_ltn hn rfl) rfl rfl ⟨Nat.le_of_ble_eq_true rfl, Nat.le_of_ble_eq_true rfl⟩ ⟨rfl, rfl⟩ (Nat.zero_le _) (Nat.zero_le _) (zc_half_14_80  S263 n hn G_S263 ) (fun v266 S265 hP => ?_)
            obtain ⟨rfl, o267⟩ := hP
            refine zz_iload (x := x12) rfl zd_14_84_551 ?_
            refine zz_iload (x := x13) rfl zd_14_84_553 ?_
            refine zz_iadd zd_14_84_555 ?_
            refine zz_nrm (fun v268 hv268 ev268 => ?_)
            refine zz_aload_n (x := 1079) rfl zd_14_84_556 ?_
            refine zz_geti (z := S0 1079 1) zd_14_84_557 zf_Md_7 zT_1079 rfl (zz_ltn hn rfl) (zz_rc fS263 rfl rfl (fun h => h) (zz_rc fS254 rfl rfl (fun h => h) (zz_rc fS250 rfl rfl (fun h => h) (zz_rc fS239 rfl rfl (fun h => h) (zz_rc fS222 rfl rfl (fun h => h) (zz_rc fS218 rfl rfl (fun h => h) (zz_rc fS213 rfl rfl (fun h => h) (zz_rc F_S rfl rfl (fun h => h) rfl)))))))) ?_
            refine zz_imul zd_14_84_560 ?_
            refine zz_nrm (fun v269 hv269 ev269 => ?_)
            refine zz_iadd zd_14_84_561 ?_
            refine zz_nrm (fun v270 hv270 ev270 => ?_)
            refine zz_iconst zd_14_84_562 ?_
            refine zz_iconst zd_14_84_563 ?_
            refine zz_iconst zd_14_84_564 ?_
            refine zz_callVV [zi v270, zi 0, zi 0, zi 0] zd_14_84_565 zk_Md_482 zT_1079 (zz_ltn hn rfl) rfl rfl ⟨Nat.le_of_ble_eq_true rfl, Nat.le_of_ble_eq_true rfl⟩ ⟨rfl, rfl⟩ (Nat.zero_le _) (Nat.zero_le _) (zc_with_14_79 v270 0 0 0 S263 n hn G_S263 (by omega) (by omega) (by omega) (by omega)) (fun S271 hP => ?_)
            obtain ⟨G_S271, fS271⟩ := hP
            have F_S271 := zz_fr.trans F_S263 fS271 rfl zz_nv
            refine zz_aload_n (x := 1079) rfl zd_14_84_568 ?_
            refine zz_iload (x := p6) rfl zd_14_84_569 ?_
            have g273 := zz_G.r G_S254 1079 10 0 1000000 rfl rfl
            have e274 : S271 1079 10 = S254 1079 10 := (zz_rc fS271 rfl rfl (fun h => h) (zz_rc fS263 rfl rfl (fun h => h) rfl))
            refine zz_callVV [zi p6] zd_14_84_571 zk_Md_485 zT_1079 (zz_ltn hn rfl) rfl rfl ⟨Nat.le_of_ble_eq_true rfl, Nat.le_of_ble_eq_true rfl⟩ ⟨rfl, rfl⟩ (Nat.zero_le _) (Nat.zero_le _) (zc_load_14_82 p6 S271 n hn G_S271 (by omega) (by omega)) (fun S275 hP => ?_)
            obtain ⟨G_S275, fS275, o277, o278⟩ := hP
            have F_S275 := zz_fr.trans F_S271 fS275 rfl zz_nv
            have g279 := zz_G.r G_S275 1079 10 0 1000000 rfl rfl
            exact zz_vret zd_14_84_574 rfl (Nat.zero_le _) (Nat.zero_le _) ⟨_, rfl, G_S275, F_S275, by omega, by omega⟩
    · refine zz_iconst zd_14_84_383 ?_
      refine zz_goto zd_14_84_384 ?_
      refine zz_istore [some (.ref 1079), some (zi p0), none, none, some (zi p3), some (zi p4), none, some (zi p6), some (zi (S0 1107 p0.toNat)), none, some (zi x10), some (zi x11), some (zi x12), some (zi x13), some (zi 1)] zd_14_84_388 (by decide) rfl ?_
      refine zz_iload (x := x12) rfl zd_14_84_390 ?_
      refine zz_if_le (by omega) zd_14_84_392 (fun c280 => ?_) (fun c280 => ?_)
      · refine zz_iload (x := 1) rfl zd_14_84_422 ?_
        refine zz_if_ne (by omega) zd_14_84_424 (fun c281 => ?_) (fun c281 => ?_)
        · have g282 := zz_G.r G_S 1079 10 0 1000000 rfl rfl
          exact zz_vret zd_14_84_574 rfl (Nat.zero_le _) (Nat.zero_le _) ⟨_, rfl, G_S, F_S, by omega, by omega⟩
        · exfalso; omega
      · refine zz_aload_n (x := 1079) rfl zd_14_84_395 ?_
        refine zz_iconst zd_14_84_396 ?_
        refine zz_iconst zd_14_84_397 ?_
        refine zz_iload (x := x12) rfl zd_14_84_398 ?_
        refine zz_iload (x := p4) rfl zd_14_84_400 ?_
        refine zz_callVV [zi 3, zi 0, zi x12, zi p4] zd_14_84_402 zk_Md_475 zT_1079 (zz_ltn hn rfl) rfl rfl ⟨Nat.le_of_ble_eq_true rfl, Nat.le_of_ble_eq_true rfl⟩ ⟨rfl, rfl⟩ (Nat.zero_le _) (Nat.zero_le _) (zc_set_14_78 3 0 x12 p4 S n hn G_S (by omega) (by omega) (by omega) (by omega)) (fun S283 hP => ?_)
        obtain ⟨G_S283, fS283⟩ := hP
        have F_S283 := zz_fr.trans F_S fS283 rfl zz_nv
        refine zz_aload_n (x := 1079) rfl zd_14_84_405 ?_
        refine zz_aload_n (x := 1079) rfl zd_14_84_406 ?_
        refine zz_callVI [] zd_14_84_407 zk_Md_489 zT_1079 (zz_ltn hn rfl) rfl rfl ⟨Nat.le_of_ble_eq_true rfl, Nat.le_of_ble_eq_true rfl⟩ ⟨rfl, rfl⟩ (Nat.zero_le _) (Nat.zero_le _) (zc_half_14_80  S283 n hn G_S283 ) (fun v286 S285 hP => ?_)
        obtain ⟨rfl, o287⟩ := hP
        refine zz_iconst zd_14_84_410 ?_
        refine zz_iconst zd_14_84_411 ?_
        refine zz_iconst zd_14_84_412 ?_
        refine zz_callVV [zi v286, zi 0, zi 0, zi 0] zd_14_84_413 zk_Md_482 zT_1079 (zz_ltn hn rfl) rfl rfl ⟨Nat.le_of_ble_eq_true rfl, Nat.le_of_ble_eq_true rfl⟩ ⟨rfl, rfl⟩ (Nat.zero_le _) (Nat.zero_le _) (zc_with_14_79 v286 0 0 0 S283 n hn G_S283 (by omega) (by omega) (by omega) (by omega)) (fun S288 hP => ?_)
        obtain ⟨G_S288, fS288⟩ := hP
        have F_S288 := zz_fr.trans F_S283 fS288 rfl zz_nv
        refine zz_aload_n (x := 1079) rfl zd_14_84_416 ?_
        refine zz_iload (x := p6) rfl zd_14_84_417 ?_
        have g290 := zz_G.r G_S 1079 10 0 1000000 rfl rfl
        have e291 : S288 1079 10 = S 1079 10 := (zz_rc fS288 rfl rfl (fun h => h) (zz_rc fS283 rfl rfl (fun h => h) rfl))
        refine zz_callVV [zi p6] zd_14_84_419 zk_Md_485 zT_1079 (zz_ltn hn rfl) rfl rfl ⟨Nat.le_of_ble_eq_true rfl, Nat.le_of_ble_eq_true rfl⟩ ⟨rfl, rfl⟩ (Nat.zero_le _) (Nat.zero_le _) (zc_load_14_82 p6 S288 n hn G_S288 (by omega) (by omega)) (fun S292 hP => ?_)
        obtain ⟨G_S292, fS292, o294, o295⟩ := hP
        have F_S292 := zz_fr.trans F_S288 fS292 rfl zz_nv
        refine zz_iload (x := 1) rfl zd_14_84_422 ?_
        refine zz_if_ne (by omega) zd_14_84_424 (fun c296 => ?_) (fun c296 => ?_)
        · have g297 := zz_G.r G_S292 1079 10 0 1000000 rfl rfl
          exact zz_vret zd_14_84_574 rfl (Nat.zero_le _) (Nat.zero_le _) ⟨_, rfl, G_S292, F_S292, by omega, by omega⟩
        · exfalso; omega
  · refine zz_iload (x := x11) rfl zd_14_84_309 ?_
    refine zz_aload_n (x := 1079) rfl zd_14_84_311 ?_
    refine zz_getr (kd := 0) (z := 1111) zd_14_84_312 zf_Md_115 zT_1079 rfl (zz_ltn hn rfl) (zz_G.eq G_S 1079 46 1111 rfl rfl) (by decide) 1111 rfl ?_
    refine zz_iload_n (x := p0) rfl zd_14_84_315 ?_
    have g298 := zz_G.r G_S0 1111 p0.toNat 0 3 rfl rfl
    refine zz_iald (z := S0 1111 p0.toNat) zd_14_84_316 zT_1111 rfl (zz_ltn hn rfl) (by decide) (by omega) (zz_rc F_S (zz_nc1 rfl) rfl (fun h => h) rfl) ?_
    refine zz_iload (x := x14) rfl zd_14_84_317 ?_
    refine zz_imul zd_14_84_319 ?_
    have m299 := zz_mulb (a := S0 1111 p0.toNat) (b := x14) 3 2147483646 6442450938 (by omega) (by omega) (by decide)
    refine zz_nrm (fun v300 hv300 ev300 => ?_)
    refine zz_iadd zd_14_84_320 ?_
    refine zz_nrm (fun v301 hv301 ev301 => ?_)
    refine zz_istore [some (.ref 1079), some (zi p0), none, none, some (zi p3), some (zi p4), none, some (zi p6), some (zi (S0 1107 p0.toNat)), none, some (zi x10), some (zi x11), some (zi x12), some (zi x13), some (zi x14), some (zi v301)] zd_14_84_321 (by decide) rfl ?_
    refine zz_aload_n (x := 1079) rfl zd_14_84_323 ?_
    refine zz_iload (x := S0 1107 p0.toNat) rfl zd_14_84_324 ?_
    refine zz_iload (x := x10) rfl zd_14_84_326 ?_
    refine zz_iload (x := v301) rfl zd_14_84_328 ?_
    have g302 := zz_G.r G_S0 1102 ((S0 1107 p0.toNat).toNat) 0 63 rfl rfl
    have e303 : S 1102 (S0 1107 p0.toNat).toNat = S0 1102 (S0 1107 p0.toNat).toNat := (zz_rc F_S (zz_nc1 rfl) rfl (fun h => h) rfl)
    have g304 := zz_G.r G_S0 1103 ((S0 1107 p0.toNat).toNat) 0 63 rfl rfl
    have e305 : S 1103 (S0 1107 p0.toNat).toNat = S0 1103 (S0 1107 p0.toNat).toNat := (zz_rc F_S (zz_nc1 rfl) rfl (fun h => h) rfl)
    refine zz_callVI [zi (S0 1107 p0.toNat), zi x10, zi v301] zd_14_84_330 zk_Md_434 zT_1079 (zz_ltn hn rfl) rfl rfl ⟨Nat.le_of_ble_eq_true rfl, Nat.le_of_ble_eq_true rfl⟩ ⟨rfl, rfl⟩ (Nat.zero_le _) (Nat.zero_le _) (zc_isThere_14_72 (S0 1107 p0.toNat) x10 v301 S n hn G_S (by omega) (by omega) (by omega)) (fun v307 S306 hP => ?_)
    obtain ⟨rfl, o308, o309⟩ := hP
    rcases (by omega : v307 = 0 ∨ v307 = 1) with rfl | rfl
    · refine zz_istore [some (.ref 1079), some (zi p0), none, none, some (zi p3), some (zi p4), none, some (zi p6), some (zi (S0 1107 p0.toNat)), none, some (zi x10), some (zi x11), some (zi x12), some (zi x13), some (zi x14), some (zi v301), some (zi 0)] zd_14_84_333 (by decide) rfl ?_
      refine zz_iload (x := 0) rfl zd_14_84_335 ?_
      refine zz_if_eq (by omega) zd_14_84_337 (fun c310 => ?_) (fun c310 => ?_)
      · refine zz_iload (x := x13) rfl zd_14_84_347 ?_
        refine zz_istore [some (.ref 1079), some (zi p0), none, none, some (zi p3), some (zi p4), none, some (zi p6), some (zi (S0 1107 p0.toNat)), none, some (zi x10), some (zi x11), some (zi x12), some (zi x13), some (zi x14), some (zi v301), some (zi 0)] zd_14_84_349 (by decide) rfl ?_
        refine zz_iload (x := 0) rfl zd_14_84_351 ?_
        refine zz_if_ne (by omega) zd_14_84_353 (fun c311 => ?_) (fun c311 => ?_)
        · exfalso; omega
        · refine zz_iload (x := x13) rfl zd_14_84_356 ?_
          refine zz_if_ne (by omega) zd_14_84_358 (fun c312 => ?_) (fun c312 => ?_)
          · refine zz_iload (x := x12) rfl zd_14_84_368 ?_
            refine zz_istore [some (.ref 1079), some (zi p0), none, none, some (zi p3), some (zi p4), none, some (zi p6), some (zi (S0 1107 p0.toNat)), none, some (zi x10), some (zi x11), some (zi x12), some (zi x13), some (zi x14), some (zi v301), some (zi 0)] zd_14_84_370 (by decide) rfl ?_
            refine zz_iinc [some (.ref 1079), some (zi p0), none, none, some (zi p3), some (zi p4), none, some (zi p6), some (zi (S0 1107 p0.toNat)), none, some (zi x10), some (zi x11), some (zi x12), some (zi x13), some (zi (x14 + 1)), some (zi v301), some (zi 0)] zd_14_84_372 rfl rfl ?_
            refine zz_goto zd_14_84_375 ?_
            have g313 := zz_G.r G_S 1079 10 0 1000000 rfl rfl
            refine zz_less (ls1 := [some (.ref 1079), some (zi p0), none, none, some (zi p3), some (zi p4), none, some (zi p6), some (zi (S0 1107 p0.toNat)), none, some (zi x10), some (zi x11), some (zi x12), some (zi x13), some (zi (x14 + 1))]) ⟨rfl, ⟨rfl, ⟨rfl, ⟨rfl, ⟨rfl, ⟨rfl, ⟨rfl, ⟨rfl, ⟨rfl, ⟨rfl, ⟨rfl, trivial⟩⟩⟩⟩⟩⟩⟩⟩⟩⟩⟩ ?_
            exact k300 x10 x11 x12 x13 (x14 + 1) S G_S F_S (by omega) (by omega) (by omega) (by omega) (by omega) (by omega) (by omega) (by omega) (by omega)
          · refine zz_iload (x := x12) rfl zd_14_84_361 ?_
            refine zz_iconst zd_14_84_363 ?_
            refine zz_iadd zd_14_84_364 ?_
            refine zz_nrm (fun v314 hv314 ev314 => ?_)
            refine zz_goto zd_14_84_365 ?_
            refine zz_istore [some (.ref 1079), some (zi p0), none, none, some (zi p3), some (zi p4), none, some (zi p6), some (zi (S0 1107 p0.toNat)), none, some (zi x10), some (zi x11), some (zi v314), some (zi x13), some (zi x14), some (zi v301), some (zi 0)] zd_14_84_370 (by decide) rfl ?_
            refine zz_iinc [some (.ref 1079), some (zi p0), none, none, some (zi p3), some (zi p4), none, some (zi p6), some (zi (S0 1107 p0.toNat)), none, some (zi x10), some (zi x11), some (zi v314), some (zi x13), some (zi (x14 + 1)), some (zi v301), some (zi 0)] zd_14_84_372 rfl rfl ?_
            refine zz_goto zd_14_84_375 ?_
            have g315 := zz_G.r G_S 1079 10 0 1000000 rfl rfl
            refine zz_less (ls1 := [some (.ref 1079), some (zi p0), none, none, some (zi p3), some (zi p4), none, some (zi p6), some (zi (S0 1107 p0.toNat)), none, some (zi x10), some (zi x11), some (zi v314), some (zi x13), some (zi (x14 + 1))]) ⟨rfl, ⟨rfl, ⟨rfl, ⟨rfl, ⟨rfl, ⟨rfl, ⟨rfl, ⟨rfl, ⟨rfl, ⟨rfl, ⟨rfl, trivial⟩⟩⟩⟩⟩⟩⟩⟩⟩⟩⟩ ?_
            exact k300 x10 x11 v314 x13 (x14 + 1) S G_S F_S (by omega) (by omega) (by omega) (by omega) (by omega) (by omega) (by omega) (by omega) (by omega)
      · exfalso; omega
    · refine zz_istore [some (.ref 1079), some (zi p0), none, none, some (zi p3), some (zi p4), none, some (zi p6), some (zi (S0 1107 p0.toNat)), none, some (zi x10), some (zi x11), some (zi x12), some (zi x13), some (zi x14), some (zi v301), some (zi 1)] zd_14_84_333 (by decide) rfl ?_
      refine zz_iload (x := 1) rfl zd_14_84_335 ?_
      refine zz_if_eq (by omega) zd_14_84_337 (fun c316 => ?_) (fun c316 => ?_)
      · exfalso; omega
      · refine zz_iload (x := x13) rfl zd_14_84_340 ?_
        refine zz_iconst zd_14_84_342 ?_
        refine zz_iadd zd_14_84_343 ?_
        refine zz_nrm (fun v317 hv317 ev317 => ?_)
        refine zz_goto zd_14_84_344 ?_
        refine zz_istore [some (.ref 1079), some (zi p0), none, none, some (zi p3), some (zi p4), none, some (zi p6), some (zi (S0 1107 p0.toNat)), none, some (zi x10), some (zi x11), some (zi x12), some (zi v317), some (zi x14), some (zi v301), some (zi 1)] zd_14_84_349 (by decide) rfl ?_
        refine zz_iload (x := 1) rfl zd_14_84_351 ?_
        refine zz_if_ne (by omega) zd_14_84_353 (fun c318 => ?_) (fun c318 => ?_)
        · refine zz_iload (x := x12) rfl zd_14_84_368 ?_
          refine zz_istore [some (.ref 1079), some (zi p0), none, none, some (zi p3), some (zi p4), none, some (zi p6), some (zi (S0 1107 p0.toNat)), none, some (zi x10), some (zi x11), some (zi x12), some (zi v317), some (zi x14), some (zi v301), some (zi 1)] zd_14_84_370 (by decide) rfl ?_
          refine zz_iinc [some (.ref 1079), some (zi p0), none, none, some (zi p3), some (zi p4), none, some (zi p6), some (zi (S0 1107 p0.toNat)), none, some (zi x10), some (zi x11), some (zi x12), some (zi v317), some (zi (x14 + 1)), some (zi v301), some (zi 1)] zd_14_84_372 rfl rfl ?_
          refine zz_goto zd_14_84_375 ?_
          have g319 := zz_G.r G_S 1079 10 0 1000000 rfl rfl
          refine zz_less (ls1 := [some (.ref 1079), some (zi p0), none, none, some (zi p3), some (zi p4), none, some (zi p6), some (zi (S0 1107 p0.toNat)), none, some (zi x10), some (zi x11), some (zi x12), some (zi v317), some (zi (x14 + 1))]) ⟨rfl, ⟨rfl, ⟨rfl, ⟨rfl, ⟨rfl, ⟨rfl, ⟨rfl, ⟨rfl, ⟨rfl, ⟨rfl, ⟨rfl, trivial⟩⟩⟩⟩⟩⟩⟩⟩⟩⟩⟩ ?_
          exact k300 x10 x11 x12 v317 (x14 + 1) S G_S F_S (by omega) (by omega) (by omega) (by omega) (by omega) (by omega) (by omega) (by omega) (by omega)
        · exfalso; omega
theorem zi_groupLoads_14_84 {g : mm_G} {l : Launch} (p0 : Int) (p1 : Int) (p2 : Int) (p3 : Int) (p4 : Int) (p5 : Int) (p6 : Int) (S0 : zz_S) (n : Nat) (hn : zz_end ≤ n) (G_S0 : zz_G S0) (hp0 : 0 ≤ p0 ∧ p0 ≤ 9) (hp1 : (-2147483648) ≤ p1 ∧ p1 ≤ 2147483647) (hp2 : (-2147483648) ≤ p2 ∧ p2 ≤ 2147483647) (hp3 : (-2147483648) ≤ p3 ∧ p3 ≤ 2147483647) (hp4 : (-2147483648) ≤ p4 ∧ p4 ≤ 2147483647) (hp5 : 0 ≤ p5 ∧ p5 ≤ 1) (hp6 : 0 ≤ p6 ∧ p6 ≤ 1) (hq : S0 1079 10 ≤ 900000) : ∀ N : Nat, (∀ (x10 : Int) (x11 : Int) (x12 : Int) (x13 : Int) (x14 : Int) (S : zz_S), zz_G S → zz_fr [(1079, 10), (1079, 57)] [1086, 1087] (fun _ _ => False) S0 S → ((-2147483648) ≤ x10 ∧ x10 ≤ 2147483647) → ((-2147483648) ≤ x11 ∧ x11 ≤ 2147483647) → ((-2147483648) ≤ x12 ∧ x12 ≤ 2147483647) → ((-2147483648) ≤ x13 ∧ x13 ≤ 2147483647) → (0 ≤ x14 ∧ x14 ≤ 2147483647) → (S0 1106 p0.toNat ≠ 2) → (S0 1079 10 ≤ S 1079 10 ∧ S 1079 10 ≤ S0 1079 10 + 2) → (p6 = 1 → S 1079 10 = S0 1079 10) → (2147483647 - x14).toNat < N → zz_E g l zy_groupLoads_14_84 zr_groupLoads_14_84 (zz_QV n (zp_groupLoads_14_84 p0 p1 p2 p3 p4 p5 p6 S0)) S n 300 [some (.ref 1079), some (zi p0), none, none, some (zi p3), some (zi p4), none, some (zi p6), some (zi (S0 1107 p0.toNat)), none, some (zi x10), some (zi x11), some (zi x12), some (zi x13), some (zi x14)] [] 0 0) := by
  intro N
  induction N with
  | zero => exact fun x10 x11 x12 x13 x14 S _ _ _ _ _ _ _ _ _ _ h => absurd h (Nat.not_lt_zero _)
  | succ N ih =>
    exact fun x10 x11 x12 x13 x14 S a b j0 j1 j2 j3 j4 j5 j6 j7 hR => zb_groupLoads_14_84_300 p0 p1 p2 p3 p4 p5 p6 S0 n hn G_S0 hp0 hp1 hp2 hp3 hp4 hp5 hp6 hq x10 x11 x12 x13 x14 S a b j0 j1 j2 j3 j4 j5 j6 j7 _ rfl (fun x10 x11 x12 x13 x14 S a b j0 j1 j2 j3 j4 j5 j6 j7 h => ih x10 x11 x12 x13 x14 S a b j0 j1 j2 j3 j4 j5 j6 j7 (Nat.lt_of_lt_of_le h (Nat.le_of_lt_succ hR)))
theorem zc_groupLoads_14_84 {g : mm_G} {l : Launch} (p0 : Int) (p1 : Int) (p2 : Int) (p3 : Int) (p4 : Int) (p5 : Int) (p6 : Int) (S0 : zz_S) (n : Nat) (hn : zz_end ≤ n) (G_S0 : zz_G S0) (hp0 : 0 ≤ p0 ∧ p0 ≤ 9) (hp1 : (-2147483648) ≤ p1 ∧ p1 ≤ 2147483647) (hp2 : (-2147483648) ≤ p2 ∧ p2 ≤ 2147483647) (hp3 : (-2147483648) ≤ p3 ∧ p3 ≤ 2147483647) (hp4 : (-2147483648) ≤ p4 ∧ p4 ≤ 2147483647) (hp5 : 0 ≤ p5 ∧ p5 ≤ 1) (hp6 : 0 ≤ p6 ∧ p6 ≤ 1) (hq : S0 1079 10 ≤ 900000) : mm_Met g l zy_groupLoads_14_84 zr_groupLoads_14_84 [.ref 1079, zi p0, zi p1, zi p2, zi p3, zi p4, zi p5, zi p6] (zz_M S0 n) n (zz_QV n (zp_groupLoads_14_84 p0 p1 p2 p3 p4 p5 p6 S0)) := by
  refine zz_enter (by decide) (Nat.le_of_ble_eq_true rfl) (zz_less (ls1 := [some (.ref 1079), some (zi p0), some (zi p1), some (zi p2), some (zi p3), some (zi p4), some (zi p5), some (zi p6)]) ⟨rfl, ⟨rfl, ⟨rfl, ⟨rfl, ⟨rfl, ⟨rfl, ⟨rfl, ⟨rfl, trivial⟩⟩⟩⟩⟩⟩⟩⟩ ?_)
  have F_S0 : zz_fr [(1079, 10), (1079, 57)] [1086, 1087] (fun _ _ => False) S0 S0 := zz_fr.refl
  have k300 : ∀ (x10 : Int) (x11 : Int) (x12 : Int) (x13 : Int) (x14 : Int) (S : zz_S), zz_G S → zz_fr [(1079, 10), (1079, 57)] [1086, 1087] (fun _ _ => False) S0 S → ((-2147483648) ≤ x10 ∧ x10 ≤ 2147483647) → ((-2147483648) ≤ x11 ∧ x11 ≤ 2147483647) → ((-2147483648) ≤ x12 ∧ x12 ≤ 2147483647) → ((-2147483648) ≤ x13 ∧ x13 ≤ 2147483647) → (0 ≤ x14 ∧ x14 ≤ 2147483647) → (S0 1106 p0.toNat ≠ 2) → (S0 1079 10 ≤ S 1079 10 ∧ S 1079 10 ≤ S0 1079 10 + 2) → (p6 = 1 → S 1079 10 = S0 1079 10) → zz_E g l zy_groupLoads_14_84 zr_groupLoads_14_84 (zz_QV n (zp_groupLoads_14_84 p0 p1 p2 p3 p4 p5 p6 S0)) S n 300 [some (.ref 1079), some (zi p0), none, none, some (zi p3), some (zi p4), none, some (zi p6), some (zi (S0 1107 p0.toNat)), none, some (zi x10), some (zi x11), some (zi x12), some (zi x13), some (zi x14)] [] 0 0 := fun x10 x11 x12 x13 x14 S a b j0 j1 j2 j3 j4 j5 j6 j7 => (zi_groupLoads_14_84 (g := g) (l := l) p0 p1 p2 p3 p4 p5 p6 S0 n hn G_S0 hp0 hp1 hp2 hp3 hp4 hp5 hp6 hq _) x10 x11 x12 x13 x14 S a b j0 j1 j2 j3 j4 j5 j6 j7 (Nat.lt_succ_self _)
  refine zz_aload_n (x := 1079) rfl zd_14_84_0 ?_
  refine zz_getr (kd := 0) (z := 1107) zd_14_84_1 zf_Md_103 zT_1079 rfl (zz_ltn hn rfl) (zz_G.eq G_S0 1079 42 1107 rfl rfl) (by decide) 1107 rfl ?_
  refine zz_iload_n (x := p0) rfl zd_14_84_4 ?_
  have g1 := zz_G.r G_S0 1107 p0.toNat 0 10 rfl rfl
  refine zz_iald (z := S0 1107 p0.toNat) zd_14_84_5 zT_1107 rfl (zz_ltn hn rfl) (by decide) (by omega) rfl ?_
  refine zz_istore [some (.ref 1079), some (zi p0), some (zi p1), some (zi p2), some (zi p3), some (zi p4), some (zi p5), some (zi p6), some (zi (S0 1107 p0.toNat))] zd_14_84_6 (by decide) rfl ?_
  refine zz_aload_n (x := 1079) rfl zd_14_84_8 ?_
  refine zz_getr (kd := 0) (z := 1104) zd_14_84_9 zf_Md_94 zT_1079 rfl (zz_ltn hn rfl) (zz_G.eq G_S0 1079 39 1104 rfl rfl) (by decide) 1104 rfl ?_
  refine zz_iload_n (x := p0) rfl zd_14_84_12 ?_
  refine zz_iconst zd_14_84_13 ?_
  refine zz_iadd zd_14_84_14 ?_
  have g2 := zz_G.r G_S0 1104 ((p0 + 1).toNat) 0 63 rfl rfl
  refine zz_iald (z := S0 1104 ((p0 + 1).toNat)) zd_14_84_15 zT_1104 rfl (zz_ltn hn rfl) (by decide) (by omega) rfl ?_
  refine zz_istore [some (.ref 1079), some (zi p0), some (zi p1), some (zi p2), some (zi p3), some (zi p4), some (zi p5), some (zi p6), some (zi (S0 1107 p0.toNat)), some (zi (S0 1104 ((p0 + 1).toNat)))] zd_14_84_16 (by decide) rfl ?_
  refine zz_aload_n (x := 1079) rfl zd_14_84_18 ?_
  refine zz_getr (kd := 0) (z := 1106) zd_14_84_19 zf_Md_100 zT_1079 rfl (zz_ltn hn rfl) (zz_G.eq G_S0 1079 41 1106 rfl rfl) (by decide) 1106 rfl ?_
  refine zz_iload_n (x := p0) rfl zd_14_84_22 ?_
  have g3 := zz_G.r G_S0 1106 p0.toNat 0 2 rfl rfl
  refine zz_iald (z := S0 1106 p0.toNat) zd_14_84_23 zT_1106 rfl (zz_ltn hn rfl) (by decide) (by omega) rfl ?_
  refine zz_if_ne (by omega) zd_14_84_24 (fun c4 => ?_) (fun c4 => ?_)
  · refine zz_aload_n (x := 1079) rfl zd_14_84_75 ?_
    refine zz_getr (kd := 0) (z := 1106) zd_14_84_76 zf_Md_100 zT_1079 rfl (zz_ltn hn rfl) (zz_G.eq G_S0 1079 41 1106 rfl rfl) (by decide) 1106 rfl ?_
    refine zz_iload_n (x := p0) rfl zd_14_84_79 ?_
    refine zz_iald (z := S0 1106 p0.toNat) zd_14_84_80 zT_1106 rfl (zz_ltn hn rfl) (by decide) (by omega) rfl ?_
    refine zz_if_ne (by omega) zd_14_84_81 (fun c5 => ?_) (fun c5 => ?_)
    · refine zz_aload_n (x := 1079) rfl zd_14_84_158 ?_
      refine zz_getr (kd := 0) (z := 1106) zd_14_84_159 zf_Md_100 zT_1079 rfl (zz_ltn hn rfl) (zz_G.eq G_S0 1079 41 1106 rfl rfl) (by decide) 1106 rfl ?_
      refine zz_iload_n (x := p0) rfl zd_14_84_162 ?_
      refine zz_iald (z := S0 1106 p0.toNat) zd_14_84_163 zT_1106 rfl (zz_ltn hn rfl) (by decide) (by omega) rfl ?_
      refine zz_iconst zd_14_84_164 ?_
      refine zz_icmp_ne (by omega) (by omega) zd_14_84_165 (fun c6 => ?_) (fun c6 => ?_)
      · refine zz_aload_n (x := 1079) rfl zd_14_84_247 ?_
        refine zz_getr (kd := 0) (z := 1111) zd_14_84_248 zf_Md_115 zT_1079 rfl (zz_ltn hn rfl) (zz_G.eq G_S0 1079 46 1111 rfl rfl) (by decide) 1111 rfl ?_
        refine zz_iload_n (x := p0) rfl zd_14_84_251 ?_
        have g7 := zz_G.r G_S0 1111 p0.toNat 0 3 rfl rfl
        refine zz_iald (z := S0 1111 p0.toNat) zd_14_84_252 zT_1111 rfl (zz_ltn hn rfl) (by decide) (by omega) rfl ?_
        refine zz_aload_n (x := 1079) rfl zd_14_84_253 ?_
        have g8 := zz_G.r G_S0 1079 55 (-2147483648) 2147483647 rfl rfl
        refine zz_geti (z := S0 1079 55) zd_14_84_254 zf_Md_495 zT_1079 rfl (zz_ltn hn rfl) rfl ?_
        refine zz_imul zd_14_84_257 ?_
        refine zz_nrm (fun v9 hv9 ev9 => ?_)
        refine zz_iload_n (x := p1) rfl zd_14_84_258 ?_
        refine zz_iadd zd_14_84_259 ?_
        refine zz_nrm (fun v10 hv10 ev10 => ?_)
        refine zz_aload_n (x := 1079) rfl zd_14_84_260 ?_
        refine zz_getr (kd := 0) (z := 1112) zd_14_84_261 zf_Md_118 zT_1079 rfl (zz_ltn hn rfl) (zz_G.eq G_S0 1079 47 1112 rfl rfl) (by decide) 1112 rfl ?_
        refine zz_iload_n (x := p0) rfl zd_14_84_264 ?_
        have g11 := zz_G.r G_S0 1112 p0.toNat 0 1 rfl rfl
        refine zz_iald (z := S0 1112 p0.toNat) zd_14_84_265 zT_1112 rfl (zz_ltn hn rfl) (by decide) (by omega) rfl ?_
        refine zz_isub zd_14_84_266 ?_
        refine zz_nrm (fun v12 hv12 ev12 => ?_)
        refine zz_istore [some (.ref 1079), some (zi p0), some (zi p1), some (zi p2), some (zi p3), some (zi p4), some (zi p5), some (zi p6), some (zi (S0 1107 p0.toNat)), some (zi (S0 1104 ((p0 + 1).toNat))), some (zi v12)] zd_14_84_267 (by decide) rfl ?_
        refine zz_aload_n (x := 1079) rfl zd_14_84_269 ?_
        refine zz_getr (kd := 0) (z := 1111) zd_14_84_270 zf_Md_115 zT_1079 rfl (zz_ltn hn rfl) (zz_G.eq G_S0 1079 46 1111 rfl rfl) (by decide) 1111 rfl ?_
        refine zz_iload_n (x := p0) rfl zd_14_84_273 ?_
        refine zz_iald (z := S0 1111 p0.toNat) zd_14_84_274 zT_1111 rfl (zz_ltn hn rfl) (by decide) (by omega) rfl ?_
        refine zz_aload_n (x := 1079) rfl zd_14_84_275 ?_
        have g13 := zz_G.r G_S0 1079 54 (-2147483648) 2147483647 rfl rfl
        refine zz_geti (z := S0 1079 54) zd_14_84_276 zf_Md_492 zT_1079 rfl (zz_ltn hn rfl) rfl ?_
        refine zz_imul zd_14_84_279 ?_
        refine zz_nrm (fun v14 hv14 ev14 => ?_)
        refine zz_iload_n (x := p2) rfl zd_14_84_280 ?_
        refine zz_iadd zd_14_84_281 ?_
        refine zz_nrm (fun v15 hv15 ev15 => ?_)
        refine zz_aload_n (x := 1079) rfl zd_14_84_282 ?_
        refine zz_getr (kd := 0) (z := 1112) zd_14_84_283 zf_Md_118 zT_1079 rfl (zz_ltn hn rfl) (zz_G.eq G_S0 1079 47 1112 rfl rfl) (by decide) 1112 rfl ?_
        refine zz_iload_n (x := p0) rfl zd_14_84_286 ?_
        refine zz_iald (z := S0 1112 p0.toNat) zd_14_84_287 zT_1112 rfl (zz_ltn hn rfl) (by decide) (by omega) rfl ?_
        refine zz_isub zd_14_84_288 ?_
        refine zz_nrm (fun v16 hv16 ev16 => ?_)
        refine zz_istore [some (.ref 1079), some (zi p0), some (zi p1), some (zi p2), some (zi p3), some (zi p4), some (zi p5), some (zi p6), some (zi (S0 1107 p0.toNat)), some (zi (S0 1104 ((p0 + 1).toNat))), some (zi v12), some (zi v16)] zd_14_84_289 (by decide) rfl ?_
        refine zz_iconst zd_14_84_291 ?_
        refine zz_istore [some (.ref 1079), some (zi p0), some (zi p1), some (zi p2), some (zi p3), some (zi p4), some (zi p5), some (zi p6), some (zi (S0 1107 p0.toNat)), some (zi (S0 1104 ((p0 + 1).toNat))), some (zi v12), some (zi v16), some (zi 0)] zd_14_84_292 (by decide) rfl ?_
        refine zz_iconst zd_14_84_294 ?_
        refine zz_istore [some (.ref 1079), some (zi p0), some (zi p1), some (zi p2), some (zi p3), some (zi p4), some (zi p5), some (zi p6), some (zi (S0 1107 p0.toNat)), some (zi (S0 1104 ((p0 + 1).toNat))), some (zi v12), some (zi v16), some (zi 0), some (zi 0)] zd_14_84_295 (by decide) rfl ?_
        refine zz_iconst zd_14_84_297 ?_
        refine zz_istore [some (.ref 1079), some (zi p0), some (zi p1), some (zi p2), some (zi p3), some (zi p4), some (zi p5), some (zi p6), some (zi (S0 1107 p0.toNat)), some (zi (S0 1104 ((p0 + 1).toNat))), some (zi v12), some (zi v16), some (zi 0), some (zi 0), some (zi 0)] zd_14_84_298 (by decide) rfl ?_
        have g17 := zz_G.r G_S0 1079 10 0 1000000 rfl rfl
        refine zz_less (ls1 := [some (.ref 1079), some (zi p0), none, none, some (zi p3), some (zi p4), none, some (zi p6), some (zi (S0 1107 p0.toNat)), none, some (zi v12), some (zi v16), some (zi 0), some (zi 0), some (zi 0)]) ⟨rfl, ⟨rfl, ⟨rfl, ⟨rfl, ⟨rfl, ⟨rfl, ⟨rfl, ⟨rfl, ⟨rfl, ⟨rfl, ⟨rfl, trivial⟩⟩⟩⟩⟩⟩⟩⟩⟩⟩⟩ ?_
        exact k300 v12 v16 0 0 0 S0 G_S0 F_S0 (by omega) (by omega) (by omega) (by omega) (by omega) (by omega) (by omega) (by omega)
      · refine zz_iload_n (x := p1) rfl zd_14_84_168 ?_
        refine zz_if_ne (by omega) zd_14_84_169 (fun c18 => ?_) (fun c18 => ?_)
        · refine zz_aload_n (x := 1079) rfl zd_14_84_181 ?_
          refine zz_getr (kd := 0) (z := 1108) zd_14_84_182 zf_Md_106 zT_1079 rfl (zz_ltn hn rfl) (zz_G.eq G_S0 1079 43 1108 rfl rfl) (by decide) 1108 rfl ?_
          refine zz_iload_n (x := p0) rfl zd_14_84_185 ?_
          have g19 := zz_G.r G_S0 1108 p0.toNat 0 10 rfl rfl
          refine zz_iald (z := S0 1108 p0.toNat) zd_14_84_186 zT_1108 rfl (zz_ltn hn rfl) (by decide) (by omega) rfl ?_
          refine zz_istore [some (.ref 1079), some (zi p0), some (zi p1), some (zi p2), some (zi p3), some (zi p4), some (zi p5), some (zi p6), some (zi (S0 1107 p0.toNat)), some (zi (S0 1104 ((p0 + 1).toNat))), some (zi (S0 1108 p0.toNat))] zd_14_84_187 (by decide) rfl ?_
          refine zz_aload_n (x := 1079) rfl zd_14_84_189 ?_
          refine zz_iconst zd_14_84_190 ?_
          refine zz_aload_n (x := 1079) rfl zd_14_84_191 ?_
          refine zz_getr (kd := 0) (z := 1105) zd_14_84_192 zf_Md_97 zT_1079 rfl (zz_ltn hn rfl) (zz_G.eq G_S0 1079 40 1105 rfl rfl) (by decide) 1105 rfl ?_
          refine zz_iload (x := S0 1108 p0.toNat) rfl zd_14_84_195 ?_
          have g20 := zz_G.r G_S0 1105 ((S0 1108 p0.toNat).toNat) (0) (if (S0 1108 p0.toNat).toNat = 0 then 0 else 10000000) rfl rfl
          refine zz_iald (z := S0 1105 ((S0 1108 p0.toNat).toNat)) zd_14_84_197 zT_1105 rfl (zz_ltn hn rfl) (by decide) (by omega) rfl ?_
          refine zz_aload_n (x := 1079) rfl zd_14_84_198 ?_
          have g21 := zz_G.r G_S0 1079 54 (-2147483648) 2147483647 rfl rfl
          refine zz_geti (z := S0 1079 54) zd_14_84_199 zf_Md_492 zT_1079 rfl (zz_ltn hn rfl) rfl ?_
          refine zz_aload_n (x := 1079) rfl zd_14_84_202 ?_
          refine zz_getr (kd := 0) (z := 1104) zd_14_84_203 zf_Md_94 zT_1079 rfl (zz_ltn hn rfl) (zz_G.eq G_S0 1079 39 1104 rfl rfl) (by decide) 1104 rfl ?_
          refine zz_iload (x := S0 1108 p0.toNat) rfl zd_14_84_206 ?_
          have g22 := zz_G.r G_S0 1104 ((S0 1108 p0.toNat).toNat) 0 63 rfl rfl
          refine zz_iald (z := S0 1104 ((S0 1108 p0.toNat).toNat)) zd_14_84_208 zT_1104 rfl (zz_ltn hn rfl) (by decide) (by omega) rfl ?_
          refine zz_imul zd_14_84_209 ?_
          refine zz_nrm (fun v23 hv23 ev23 => ?_)
          refine zz_iadd zd_14_84_210 ?_
          refine zz_nrm (fun v24 hv24 ev24 => ?_)
          refine zz_iload (x := p3) rfl zd_14_84_211 ?_
          refine zz_iadd zd_14_84_213 ?_
          refine zz_nrm (fun v25 hv25 ev25 => ?_)
          refine zz_aload_n (x := 1079) rfl zd_14_84_214 ?_
          have g26 := zz_G.r G_S0 1079 52 (-2147483648) 2147483647 rfl rfl
          refine zz_geti (z := S0 1079 52) zd_14_84_215 zf_Md_469 zT_1079 rfl (zz_ltn hn rfl) rfl ?_
          refine zz_iload (x := p4) rfl zd_14_84_218 ?_
          refine zz_callVV [zi 1, zi v25, zi (S0 1079 52), zi p4] zd_14_84_220 zk_Md_475 zT_1079 (zz_ltn hn rfl) rfl rfl ⟨Nat.le_of_ble_eq_true rfl, Nat.le_of_ble_eq_true rfl⟩ ⟨rfl, rfl⟩ (Nat.zero_le _) (Nat.zero_le _) (zc_set_14_78 1 v25 (S0 1079 52) p4 S0 n hn G_S0 (by omega) (by omega) (by omega) (by omega)) (fun S27 hP => ?_)
          obtain ⟨G_S27, fS27⟩ := hP
          have F_S27 := zz_fr.trans F_S0 fS27 rfl zz_nv
          refine zz_aload_n (x := 1079) rfl zd_14_84_223 ?_
          refine zz_aload_n (x := 1079) rfl zd_14_84_224 ?_
          refine zz_callVI [] zd_14_84_225 zk_Md_489 zT_1079 (zz_ltn hn rfl) rfl rfl ⟨Nat.le_of_ble_eq_true rfl, Nat.le_of_ble_eq_true rfl⟩ ⟨rfl, rfl⟩ (Nat.zero_le _) (Nat.zero_le _) (zc_half_14_80  S27 n hn G_S27 ) (fun v30 S29 hP => ?_)
          obtain ⟨rfl, o31⟩ := hP
          refine zz_iconst zd_14_84_228 ?_
          refine zz_aload_n (x := 1079) rfl zd_14_84_229 ?_
          refine zz_getr (kd := 0) (z := 1104) zd_14_84_230 zf_Md_94 zT_1079 rfl (zz_ltn hn rfl) (zz_G.eq G_S27 1079 39 1104 rfl rfl) (by decide) 1104 rfl ?_
          refine zz_iload (x := S0 1108 p0.toNat) rfl zd_14_84_233 ?_
          refine zz_iald (z := S0 1104 ((S0 1108 p0.toNat).toNat)) zd_14_84_235 zT_1104 rfl (zz_ltn hn rfl) (by decide) (by omega) (zz_rc fS27 (zz_nc1 rfl) rfl (fun h => h) rfl) ?_
          refine zz_iconst zd_14_84_236 ?_
          refine zz_callVV [zi v30, zi 0, zi (S0 1104 ((S0 1108 p0.toNat).toNat)), zi 0] zd_14_84_237 zk_Md_482 zT_1079 (zz_ltn hn rfl) rfl rfl ⟨Nat.le_of_ble_eq_true rfl, Nat.le_of_ble_eq_true rfl⟩ ⟨rfl, rfl⟩ (Nat.zero_le _) (Nat.zero_le _) (zc_with_14_79 v30 0 (S0 1104 ((S0 1108 p0.toNat).toNat)) 0 S27 n hn G_S27 (by omega) (by omega) (by omega) (by omega)) (fun S32 hP => ?_)
          obtain ⟨G_S32, fS32⟩ := hP
          have F_S32 := zz_fr.trans F_S27 fS32 rfl zz_nv
          refine zz_aload_n (x := 1079) rfl zd_14_84_240 ?_
          refine zz_iload (x := p6) rfl zd_14_84_241 ?_
          have g34 := zz_G.r G_S0 1079 10 0 1000000 rfl rfl
          have e35 : S32 1079 10 = S0 1079 10 := (zz_rc fS32 rfl rfl (fun h => h) (zz_rc fS27 rfl rfl (fun h => h) rfl))
          refine zz_callVV [zi p6] zd_14_84_243 zk_Md_485 zT_1079 (zz_ltn hn rfl) rfl rfl ⟨Nat.le_of_ble_eq_true rfl, Nat.le_of_ble_eq_true rfl⟩ ⟨rfl, rfl⟩ (Nat.zero_le _) (Nat.zero_le _) (zc_load_14_82 p6 S32 n hn G_S32 (by omega) (by omega)) (fun S36 hP => ?_)
          obtain ⟨G_S36, fS36, o38, o39⟩ := hP
          have F_S36 := zz_fr.trans F_S32 fS36 rfl zz_nv
          have g40 := zz_G.r G_S36 1079 10 0 1000000 rfl rfl
          exact zz_vret zd_14_84_246 rfl (Nat.zero_le _) (Nat.zero_le _) ⟨_, rfl, G_S36, F_S36, by omega, by omega⟩
        · refine zz_aload_n (x := 1079) rfl zd_14_84_172 ?_
          refine zz_getr (kd := 0) (z := 1107) zd_14_84_173 zf_Md_103 zT_1079 rfl (zz_ltn hn rfl) (zz_G.eq G_S0 1079 42 1107 rfl rfl) (by decide) 1107 rfl ?_
          refine zz_iload_n (x := p0) rfl zd_14_84_176 ?_
          refine zz_iald (z := S0 1107 p0.toNat) zd_14_84_177 zT_1107 rfl (zz_ltn hn rfl) (by decide) (by omega) rfl ?_
          refine zz_goto zd_14_84_178 ?_
          refine zz_istore [some (.ref 1079), some (zi p0), some (zi p1), some (zi p2), some (zi p3), some (zi p4), some (zi p5), some (zi p6), some (zi (S0 1107 p0.toNat)), some (zi (S0 1104 ((p0 + 1).toNat))), some (zi (S0 1107 p0.toNat))] zd_14_84_187 (by decide) rfl ?_
          refine zz_aload_n (x := 1079) rfl zd_14_84_189 ?_
          refine zz_iconst zd_14_84_190 ?_
          refine zz_aload_n (x := 1079) rfl zd_14_84_191 ?_
          refine zz_getr (kd := 0) (z := 1105) zd_14_84_192 zf_Md_97 zT_1079 rfl (zz_ltn hn rfl) (zz_G.eq G_S0 1079 40 1105 rfl rfl) (by decide) 1105 rfl ?_
          refine zz_iload (x := S0 1107 p0.toNat) rfl zd_14_84_195 ?_
          have g41 := zz_G.r G_S0 1105 ((S0 1107 p0.toNat).toNat) (0) (if (S0 1107 p0.toNat).toNat = 0 then 0 else 10000000) rfl rfl
          refine zz_iald (z := S0 1105 ((S0 1107 p0.toNat).toNat)) zd_14_84_197 zT_1105 rfl (zz_ltn hn rfl) (by decide) (by omega) rfl ?_
          refine zz_aload_n (x := 1079) rfl zd_14_84_198 ?_
          have g42 := zz_G.r G_S0 1079 54 (-2147483648) 2147483647 rfl rfl
          refine zz_geti (z := S0 1079 54) zd_14_84_199 zf_Md_492 zT_1079 rfl (zz_ltn hn rfl) rfl ?_
          refine zz_aload_n (x := 1079) rfl zd_14_84_202 ?_
          refine zz_getr (kd := 0) (z := 1104) zd_14_84_203 zf_Md_94 zT_1079 rfl (zz_ltn hn rfl) (zz_G.eq G_S0 1079 39 1104 rfl rfl) (by decide) 1104 rfl ?_
          refine zz_iload (x := S0 1107 p0.toNat) rfl zd_14_84_206 ?_
          have g43 := zz_G.r G_S0 1104 ((S0 1107 p0.toNat).toNat) 0 63 rfl rfl
          refine zz_iald (z := S0 1104 ((S0 1107 p0.toNat).toNat)) zd_14_84_208 zT_1104 rfl (zz_ltn hn rfl) (by decide) (by omega) rfl ?_
          refine zz_imul zd_14_84_209 ?_
          refine zz_nrm (fun v44 hv44 ev44 => ?_)
          refine zz_iadd zd_14_84_210 ?_
          refine zz_nrm (fun v45 hv45 ev45 => ?_)
          refine zz_iload (x := p3) rfl zd_14_84_211 ?_
          refine zz_iadd zd_14_84_213 ?_
          refine zz_nrm (fun v46 hv46 ev46 => ?_)
          refine zz_aload_n (x := 1079) rfl zd_14_84_214 ?_
          have g47 := zz_G.r G_S0 1079 52 (-2147483648) 2147483647 rfl rfl
          refine zz_geti (z := S0 1079 52) zd_14_84_215 zf_Md_469 zT_1079 rfl (zz_ltn hn rfl) rfl ?_
          refine zz_iload (x := p4) rfl zd_14_84_218 ?_
          refine zz_callVV [zi 1, zi v46, zi (S0 1079 52), zi p4] zd_14_84_220 zk_Md_475 zT_1079 (zz_ltn hn rfl) rfl rfl ⟨Nat.le_of_ble_eq_true rfl, Nat.le_of_ble_eq_true rfl⟩ ⟨rfl, rfl⟩ (Nat.zero_le _) (Nat.zero_le _) (zc_set_14_78 1 v46 (S0 1079 52) p4 S0 n hn G_S0 (by omega) (by omega) (by omega) (by omega)) (fun S48 hP => ?_)
          obtain ⟨G_S48, fS48⟩ := hP
          have F_S48 := zz_fr.trans F_S0 fS48 rfl zz_nv
          refine zz_aload_n (x := 1079) rfl zd_14_84_223 ?_
          refine zz_aload_n (x := 1079) rfl zd_14_84_224 ?_
          refine zz_callVI [] zd_14_84_225 zk_Md_489 zT_1079 (zz_ltn hn rfl) rfl rfl ⟨Nat.le_of_ble_eq_true rfl, Nat.le_of_ble_eq_true rfl⟩ ⟨rfl, rfl⟩ (Nat.zero_le _) (Nat.zero_le _) (zc_half_14_80  S48 n hn G_S48 ) (fun v51 S50 hP => ?_)
          obtain ⟨rfl, o52⟩ := hP
          refine zz_iconst zd_14_84_228 ?_
          refine zz_aload_n (x := 1079) rfl zd_14_84_229 ?_
          refine zz_getr (kd := 0) (z := 1104) zd_14_84_230 zf_Md_94 zT_1079 rfl (zz_ltn hn rfl) (zz_G.eq G_S48 1079 39 1104 rfl rfl) (by decide) 1104 rfl ?_
          refine zz_iload (x := S0 1107 p0.toNat) rfl zd_14_84_233 ?_
          refine zz_iald (z := S0 1104 ((S0 1107 p0.toNat).toNat)) zd_14_84_235 zT_1104 rfl (zz_ltn hn rfl) (by decide) (by omega) (zz_rc fS48 (zz_nc1 rfl) rfl (fun h => h) rfl) ?_
          refine zz_iconst zd_14_84_236 ?_
          refine zz_callVV [zi v51, zi 0, zi (S0 1104 ((S0 1107 p0.toNat).toNat)), zi 0] zd_14_84_237 zk_Md_482 zT_1079 (zz_ltn hn rfl) rfl rfl ⟨Nat.le_of_ble_eq_true rfl, Nat.le_of_ble_eq_true rfl⟩ ⟨rfl, rfl⟩ (Nat.zero_le _) (Nat.zero_le _) (zc_with_14_79 v51 0 (S0 1104 ((S0 1107 p0.toNat).toNat)) 0 S48 n hn G_S48 (by omega) (by omega) (by omega) (by omega)) (fun S53 hP => ?_)
          obtain ⟨G_S53, fS53⟩ := hP
          have F_S53 := zz_fr.trans F_S48 fS53 rfl zz_nv
          refine zz_aload_n (x := 1079) rfl zd_14_84_240 ?_
          refine zz_iload (x := p6) rfl zd_14_84_241 ?_
          have g55 := zz_G.r G_S0 1079 10 0 1000000 rfl rfl
          have e56 : S53 1079 10 = S0 1079 10 := (zz_rc fS53 rfl rfl (fun h => h) (zz_rc fS48 rfl rfl (fun h => h) rfl))
          refine zz_callVV [zi p6] zd_14_84_243 zk_Md_485 zT_1079 (zz_ltn hn rfl) rfl rfl ⟨Nat.le_of_ble_eq_true rfl, Nat.le_of_ble_eq_true rfl⟩ ⟨rfl, rfl⟩ (Nat.zero_le _) (Nat.zero_le _) (zc_load_14_82 p6 S53 n hn G_S53 (by omega) (by omega)) (fun S57 hP => ?_)
          obtain ⟨G_S57, fS57, o59, o60⟩ := hP
          have F_S57 := zz_fr.trans F_S53 fS57 rfl zz_nv
          have g61 := zz_G.r G_S57 1079 10 0 1000000 rfl rfl
          exact zz_vret zd_14_84_246 rfl (Nat.zero_le _) (Nat.zero_le _) ⟨_, rfl, G_S57, F_S57, by omega, by omega⟩
    · exfalso; omega
  · refine zz_iload (x := p5) rfl zd_14_84_27 ?_
    refine zz_if_eq (by omega) zd_14_84_29 (fun c62 => ?_) (fun c62 => ?_)
    · refine zz_aload_n (x := 1079) rfl zd_14_84_75 ?_
      refine zz_getr (kd := 0) (z := 1106) zd_14_84_76 zf_Md_100 zT_1079 rfl (zz_ltn hn rfl) (zz_G.eq G_S0 1079 41 1106 rfl rfl) (by decide) 1106 rfl ?_
      refine zz_iload_n (x := p0) rfl zd_14_84_79 ?_
      refine zz_iald (z := S0 1106 p0.toNat) zd_14_84_80 zT_1106 rfl (zz_ltn hn rfl) (by decide) (by omega) rfl ?_
      refine zz_if_ne (by omega) zd_14_84_81 (fun c63 => ?_) (fun c63 => ?_)
      · exfalso; omega
      · refine zz_iload_n (x := p1) rfl zd_14_84_84 ?_
        refine zz_aload_n (x := 1079) rfl zd_14_84_85 ?_
        refine zz_getr (kd := 0) (z := 1110) zd_14_84_86 zf_Md_112 zT_1079 rfl (zz_ltn hn rfl) (zz_G.eq G_S0 1079 45 1110 rfl rfl) (by decide) 1110 rfl ?_
        refine zz_iload_n (x := p0) rfl zd_14_84_89 ?_
        have g64 := zz_G.r G_S0 1110 p0.toNat 0 3 rfl rfl
        refine zz_iald (z := S0 1110 p0.toNat) zd_14_84_90 zT_1110 rfl (zz_ltn hn rfl) (by decide) (by omega) rfl ?_
        refine zz_imul zd_14_84_91 ?_
        refine zz_nrm (fun v65 hv65 ev65 => ?_)
        refine zz_iload_n (x := p2) rfl zd_14_84_92 ?_
        refine zz_iadd zd_14_84_93 ?_
        refine zz_nrm (fun v66 hv66 ev66 => ?_)
        refine zz_aload_n (x := 1079) rfl zd_14_84_94 ?_
        refine zz_getr (kd := 0) (z := 1104) zd_14_84_95 zf_Md_94 zT_1079 rfl (zz_ltn hn rfl) (zz_G.eq G_S0 1079 39 1104 rfl rfl) (by decide) 1104 rfl ?_
        refine zz_iload (x := S0 1107 p0.toNat) rfl zd_14_84_98 ?_
        have g67 := zz_G.r G_S0 1104 ((S0 1107 p0.toNat).toNat) 0 63 rfl rfl
        refine zz_iald (z := S0 1104 ((S0 1107 p0.toNat).toNat)) zd_14_84_100 zT_1104 rfl (zz_ltn hn rfl) (by decide) (by omega) rfl ?_
        refine zz_imul zd_14_84_101 ?_
        refine zz_nrm (fun v68 hv68 ev68 => ?_)
        refine zz_iload (x := p3) rfl zd_14_84_102 ?_
        refine zz_iadd zd_14_84_104 ?_
        refine zz_nrm (fun v69 hv69 ev69 => ?_)
        refine zz_istore [some (.ref 1079), some (zi p0), some (zi p1), some (zi p2), some (zi p3), some (zi p4), some (zi p5), some (zi p6), some (zi (S0 1107 p0.toNat)), some (zi (S0 1104 ((p0 + 1).toNat))), some (zi v69)] zd_14_84_105 (by decide) rfl ?_
        refine zz_aload_n (x := 1079) rfl zd_14_84_107 ?_
        refine zz_iconst zd_14_84_108 ?_
        refine zz_aload_n (x := 1079) rfl zd_14_84_109 ?_
        refine zz_getr (kd := 0) (z := 1114) zd_14_84_110 zf_Md_124 zT_1079 rfl (zz_ltn hn rfl) (zz_G.eq G_S0 1079 49 1114 rfl rfl) (by decide) 1114 rfl ?_
        refine zz_iload_n (x := p0) rfl zd_14_84_113 ?_
        have g70 := zz_G.r G_S0 1114 p0.toNat 0 4096 rfl rfl
        refine zz_iald (z := S0 1114 p0.toNat) zd_14_84_114 zT_1114 rfl (zz_ltn hn rfl) (by decide) (by omega) rfl ?_
        refine zz_iconst zd_14_84_115 ?_
        refine zz_iload (x := S0 1104 ((p0 + 1).toNat)) rfl zd_14_84_116 ?_
        refine zz_imul zd_14_84_118 ?_
        refine zz_iadd zd_14_84_119 ?_
        refine zz_nme (fun v71 ev71 => ?_)
        refine zz_iload (x := v69) rfl zd_14_84_120 ?_
        refine zz_iload (x := S0 1104 ((p0 + 1).toNat)) rfl zd_14_84_122 ?_
        refine zz_imul zd_14_84_124 ?_
        refine zz_nrm (fun v72 hv72 ev72 => ?_)
        refine zz_iadd zd_14_84_125 ?_
        refine zz_nrm (fun v73 hv73 ev73 => ?_)
        refine zz_aload_n (x := 1079) rfl zd_14_84_126 ?_
        have g74 := zz_G.r G_S0 1079 56 (-2147483648) 2147483647 rfl rfl
        refine zz_geti (z := S0 1079 56) zd_14_84_127 zf_Md_466 zT_1079 rfl (zz_ltn hn rfl) rfl ?_
        refine zz_iadd zd_14_84_130 ?_
        refine zz_nrm (fun v75 hv75 ev75 => ?_)
        refine zz_iload (x := p4) rfl zd_14_84_131 ?_
        refine zz_aload_n (x := 1079) rfl zd_14_84_133 ?_
        have g76 := zz_G.r G_S0 1079 53 (-2147483648) 2147483647 rfl rfl
        refine zz_geti (z := S0 1079 53) zd_14_84_134 zf_Md_472 zT_1079 rfl (zz_ltn hn rfl) rfl ?_
        refine zz_callVV [zi 2, zi v75, zi p4, zi (S0 1079 53)] zd_14_84_137 zk_Md_475 zT_1079 (zz_ltn hn rfl) rfl rfl ⟨Nat.le_of_ble_eq_true rfl, Nat.le_of_ble_eq_true rfl⟩ ⟨rfl, rfl⟩ (Nat.zero_le _) (Nat.zero_le _) (zc_set_14_78 2 v75 p4 (S0 1079 53) S0 n hn G_S0 (by omega) (by omega) (by omega) (by omega)) (fun S77 hP => ?_)
        obtain ⟨G_S77, fS77⟩ := hP
        have F_S77 := zz_fr.trans F_S0 fS77 rfl zz_nv
        refine zz_aload_n (x := 1079) rfl zd_14_84_140 ?_
        refine zz_aload_n (x := 1079) rfl zd_14_84_141 ?_
        refine zz_callVI [] zd_14_84_142 zk_Md_489 zT_1079 (zz_ltn hn rfl) rfl rfl ⟨Nat.le_of_ble_eq_true rfl, Nat.le_of_ble_eq_true rfl⟩ ⟨rfl, rfl⟩ (Nat.zero_le _) (Nat.zero_le _) (zc_half_14_80  S77 n hn G_S77 ) (fun v80 S79 hP => ?_)
        obtain ⟨rfl, o81⟩ := hP
        refine zz_iconst zd_14_84_145 ?_
        refine zz_iload (x := S0 1104 ((p0 + 1).toNat)) rfl zd_14_84_146 ?_
        refine zz_iconst zd_14_84_148 ?_
        refine zz_callVV [zi v80, zi 0, zi (S0 1104 ((p0 + 1).toNat)), zi 0] zd_14_84_149 zk_Md_482 zT_1079 (zz_ltn hn rfl) rfl rfl ⟨Nat.le_of_ble_eq_true rfl, Nat.le_of_ble_eq_true rfl⟩ ⟨rfl, rfl⟩ (Nat.zero_le _) (Nat.zero_le _) (zc_with_14_79 v80 0 (S0 1104 ((p0 + 1).toNat)) 0 S77 n hn G_S77 (by omega) (by omega) (by omega) (by omega)) (fun S82 hP => ?_)
        obtain ⟨G_S82, fS82⟩ := hP
        have F_S82 := zz_fr.trans F_S77 fS82 rfl zz_nv
        refine zz_aload_n (x := 1079) rfl zd_14_84_152 ?_
        refine zz_iload (x := p6) rfl zd_14_84_153 ?_
        have g84 := zz_G.r G_S0 1079 10 0 1000000 rfl rfl
        have e85 : S82 1079 10 = S0 1079 10 := (zz_rc fS82 rfl rfl (fun h => h) (zz_rc fS77 rfl rfl (fun h => h) rfl))
        refine zz_callVV [zi p6] zd_14_84_155 zk_Md_485 zT_1079 (zz_ltn hn rfl) rfl rfl ⟨Nat.le_of_ble_eq_true rfl, Nat.le_of_ble_eq_true rfl⟩ ⟨rfl, rfl⟩ (Nat.zero_le _) (Nat.zero_le _) (zc_load_14_82 p6 S82 n hn G_S82 (by omega) (by omega)) (fun S86 hP => ?_)
        obtain ⟨G_S86, fS86, o88, o89⟩ := hP
        have F_S86 := zz_fr.trans F_S82 fS86 rfl zz_nv
        refine zz_aload_n (x := 1079) rfl zd_14_84_158 ?_
        refine zz_getr (kd := 0) (z := 1106) zd_14_84_159 zf_Md_100 zT_1079 rfl (zz_ltn hn rfl) (zz_G.eq G_S86 1079 41 1106 rfl rfl) (by decide) 1106 rfl ?_
        refine zz_iload_n (x := p0) rfl zd_14_84_162 ?_
        refine zz_iald (z := S0 1106 p0.toNat) zd_14_84_163 zT_1106 rfl (zz_ltn hn rfl) (by decide) (by omega) (zz_rc fS86 (zz_nc1 rfl) rfl (fun h => h) (zz_rc fS82 (zz_nc1 rfl) rfl (fun h => h) (zz_rc fS77 (zz_nc1 rfl) rfl (fun h => h) rfl))) ?_
        refine zz_iconst zd_14_84_164 ?_
        refine zz_icmp_ne (by omega) (by omega) zd_14_84_165 (fun c90 => ?_) (fun c90 => ?_)
        · refine zz_aload_n (x := 1079) rfl zd_14_84_247 ?_
          refine zz_getr (kd := 0) (z := 1111) zd_14_84_248 zf_Md_115 zT_1079 rfl (zz_ltn hn rfl) (zz_G.eq G_S86 1079 46 1111 rfl rfl) (by decide) 1111 rfl ?_
          refine zz_iload_n (x := p0) rfl zd_14_84_251 ?_
          have g91 := zz_G.r G_S0 1111 p0.toNat 0 3 rfl rfl
          refine zz_iald (z := S0 1111 p0.toNat) zd_14_84_252 zT_1111 rfl (zz_ltn hn rfl) (by decide) (by omega) (zz_rc fS86 (zz_nc1 rfl) rfl (fun h => h) (zz_rc fS82 (zz_nc1 rfl) rfl (fun h => h) (zz_rc fS77 (zz_nc1 rfl) rfl (fun h => h) rfl))) ?_
          refine zz_aload_n (x := 1079) rfl zd_14_84_253 ?_
          have g92 := zz_G.r G_S0 1079 55 (-2147483648) 2147483647 rfl rfl
          refine zz_geti (z := S0 1079 55) zd_14_84_254 zf_Md_495 zT_1079 rfl (zz_ltn hn rfl) (zz_rc fS86 rfl rfl (fun h => h) (zz_rc fS82 rfl rfl (fun h => h) (zz_rc fS77 rfl rfl (fun h => h) rfl))) ?_
          refine zz_imul zd_14_84_257 ?_
          refine zz_nrm (fun v93 hv93 ev93 => ?_)
          refine zz_iload_n (x := p1) rfl zd_14_84_258 ?_
          refine zz_iadd zd_14_84_259 ?_
          refine zz_nrm (fun v94 hv94 ev94 => ?_)
          refine zz_aload_n (x := 1079) rfl zd_14_84_260 ?_
          refine zz_getr (kd := 0) (z := 1112) zd_14_84_261 zf_Md_118 zT_1079 rfl (zz_ltn hn rfl) (zz_G.eq G_S86 1079 47 1112 rfl rfl) (by decide) 1112 rfl ?_
          refine zz_iload_n (x := p0) rfl zd_14_84_264 ?_
          have g95 := zz_G.r G_S0 1112 p0.toNat 0 1 rfl rfl
          refine zz_iald (z := S0 1112 p0.toNat) zd_14_84_265 zT_1112 rfl (zz_ltn hn rfl) (by decide) (by omega) (zz_rc fS86 (zz_nc1 rfl) rfl (fun h => h) (zz_rc fS82 (zz_nc1 rfl) rfl (fun h => h) (zz_rc fS77 (zz_nc1 rfl) rfl (fun h => h) rfl))) ?_
          refine zz_isub zd_14_84_266 ?_
          refine zz_nrm (fun v96 hv96 ev96 => ?_)
          refine zz_istore [some (.ref 1079), some (zi p0), some (zi p1), some (zi p2), some (zi p3), some (zi p4), some (zi p5), some (zi p6), some (zi (S0 1107 p0.toNat)), some (zi (S0 1104 ((p0 + 1).toNat))), some (zi v96)] zd_14_84_267 (by decide) rfl ?_
          refine zz_aload_n (x := 1079) rfl zd_14_84_269 ?_
          refine zz_getr (kd := 0) (z := 1111) zd_14_84_270 zf_Md_115 zT_1079 rfl (zz_ltn hn rfl) (zz_G.eq G_S86 1079 46 1111 rfl rfl) (by decide) 1111 rfl ?_
          refine zz_iload_n (x := p0) rfl zd_14_84_273 ?_
          refine zz_iald (z := S0 1111 p0.toNat) zd_14_84_274 zT_1111 rfl (zz_ltn hn rfl) (by decide) (by omega) (zz_rc fS86 (zz_nc1 rfl) rfl (fun h => h) (zz_rc fS82 (zz_nc1 rfl) rfl (fun h => h) (zz_rc fS77 (zz_nc1 rfl) rfl (fun h => h) rfl))) ?_
          refine zz_aload_n (x := 1079) rfl zd_14_84_275 ?_
          have g97 := zz_G.r G_S0 1079 54 (-2147483648) 2147483647 rfl rfl
          refine zz_geti (z := S0 1079 54) zd_14_84_276 zf_Md_492 zT_1079 rfl (zz_ltn hn rfl) (zz_rc fS86 rfl rfl (fun h => h) (zz_rc fS82 rfl rfl (fun h => h) (zz_rc fS77 rfl rfl (fun h => h) rfl))) ?_
          refine zz_imul zd_14_84_279 ?_
          refine zz_nrm (fun v98 hv98 ev98 => ?_)
          refine zz_iload_n (x := p2) rfl zd_14_84_280 ?_
          refine zz_iadd zd_14_84_281 ?_
          refine zz_nrm (fun v99 hv99 ev99 => ?_)
          refine zz_aload_n (x := 1079) rfl zd_14_84_282 ?_
          refine zz_getr (kd := 0) (z := 1112) zd_14_84_283 zf_Md_118 zT_1079 rfl (zz_ltn hn rfl) (zz_G.eq G_S86 1079 47 1112 rfl rfl) (by decide) 1112 rfl ?_
          refine zz_iload_n (x := p0) rfl zd_14_84_286 ?_
          refine zz_iald (z := S0 1112 p0.toNat) zd_14_84_287 zT_1112 rfl (zz_ltn hn rfl) (by decide) (by omega) (zz_rc fS86 (zz_nc1 rfl) rfl (fun h => h) (zz_rc fS82 (zz_nc1 rfl) rfl (fun h => h) (zz_rc fS77 (zz_nc1 rfl) rfl (fun h => h) rfl))) ?_
          refine zz_isub zd_14_84_288 ?_
          refine zz_nrm (fun v100 hv100 ev100 => ?_)
          refine zz_istore [some (.ref 1079), some (zi p0), some (zi p1), some (zi p2), some (zi p3), some (zi p4), some (zi p5), some (zi p6), some (zi (S0 1107 p0.toNat)), some (zi (S0 1104 ((p0 + 1).toNat))), some (zi v96), some (zi v100)] zd_14_84_289 (by decide) rfl ?_
          refine zz_iconst zd_14_84_291 ?_
          refine zz_istore [some (.ref 1079), some (zi p0), some (zi p1), some (zi p2), some (zi p3), some (zi p4), some (zi p5), some (zi p6), some (zi (S0 1107 p0.toNat)), some (zi (S0 1104 ((p0 + 1).toNat))), some (zi v96), some (zi v100), some (zi 0)] zd_14_84_292 (by decide) rfl ?_
          refine zz_iconst zd_14_84_294 ?_
          refine zz_istore [some (.ref 1079), some (zi p0), some (zi p1), some (zi p2), some (zi p3), some (zi p4), some (zi p5), some (zi p6), some (zi (S0 1107 p0.toNat)), some (zi (S0 1104 ((p0 + 1).toNat))), some (zi v96), some (zi v100), some (zi 0), some (zi 0)] zd_14_84_295 (by decide) rfl ?_
          refine zz_iconst zd_14_84_297 ?_
          refine zz_istore [some (.ref 1079), some (zi p0), some (zi p1), some (zi p2), some (zi p3), some (zi p4), some (zi p5), some (zi p6), some (zi (S0 1107 p0.toNat)), some (zi (S0 1104 ((p0 + 1).toNat))), some (zi v96), some (zi v100), some (zi 0), some (zi 0), some (zi 0)] zd_14_84_298 (by decide) rfl ?_
          have g101 := zz_G.r G_S86 1079 10 0 1000000 rfl rfl
          refine zz_less (ls1 := [some (.ref 1079), some (zi p0), none, none, some (zi p3), some (zi p4), none, some (zi p6), some (zi (S0 1107 p0.toNat)), none, some (zi v96), some (zi v100), some (zi 0), some (zi 0), some (zi 0)]) ⟨rfl, ⟨rfl, ⟨rfl, ⟨rfl, ⟨rfl, ⟨rfl, ⟨rfl, ⟨rfl, ⟨rfl, ⟨rfl, ⟨rfl, trivial⟩⟩⟩⟩⟩⟩⟩⟩⟩⟩⟩ ?_
          exact k300 v96 v100 0 0 0 S86 G_S86 F_S86 (by omega) (by omega) (by omega) (by omega) (by omega) (by omega) (by omega) (by omega)
        · exfalso; omega
    · refine zz_aload_n (x := 1079) rfl zd_14_84_32 ?_
      refine zz_iconst zd_14_84_33 ?_
      refine zz_aload_n (x := 1079) rfl zd_14_84_34 ?_
      refine zz_getr (kd := 0) (z := 1114) zd_14_84_35 zf_Md_124 zT_1079 rfl (zz_ltn hn rfl) (zz_G.eq G_S0 1079 49 1114 rfl rfl) (by decide) 1114 rfl ?_
      refine zz_iload_n (x := p0) rfl zd_14_84_38 ?_
      have g102 := zz_G.r G_S0 1114 p0.toNat 0 4096 rfl rfl
      refine zz_iald (z := S0 1114 p0.toNat) zd_14_84_39 zT_1114 rfl (zz_ltn hn rfl) (by decide) (by omega) rfl ?_
      refine zz_iconst zd_14_84_40 ?_
      refine zz_aload_n (x := 1079) rfl zd_14_84_41 ?_
      have g103 := zz_G.r G_S0 1079 56 (-2147483648) 2147483647 rfl rfl
      refine zz_geti (z := S0 1079 56) zd_14_84_42 zf_Md_466 zT_1079 rfl (zz_ltn hn rfl) rfl ?_
      refine zz_imul zd_14_84_45 ?_
      refine zz_nrm (fun v104 hv104 ev104 => ?_)
      refine zz_iadd zd_14_84_46 ?_
      refine zz_nrm (fun v105 hv105 ev105 => ?_)
      refine zz_aload_n (x := 1079) rfl zd_14_84_47 ?_
      have g106 := zz_G.r G_S0 1079 52 (-2147483648) 2147483647 rfl rfl
      refine zz_geti (z := S0 1079 52) zd_14_84_48 zf_Md_469 zT_1079 rfl (zz_ltn hn rfl) rfl ?_
      refine zz_aload_n (x := 1079) rfl zd_14_84_51 ?_
      have g107 := zz_G.r G_S0 1079 53 (-2147483648) 2147483647 rfl rfl
      refine zz_geti (z := S0 1079 53) zd_14_84_52 zf_Md_472 zT_1079 rfl (zz_ltn hn rfl) rfl ?_
      refine zz_callVV [zi 4, zi v105, zi (S0 1079 52), zi (S0 1079 53)] zd_14_84_55 zk_Md_475 zT_1079 (zz_ltn hn rfl) rfl rfl ⟨Nat.le_of_ble_eq_true rfl, Nat.le_of_ble_eq_true rfl⟩ ⟨rfl, rfl⟩ (Nat.zero_le _) (Nat.zero_le _) (zc_set_14_78 4 v105 (S0 1079 52) (S0 1079 53) S0 n hn G_S0 (by omega) (by omega) (by omega) (by omega)) (fun S108 hP => ?_)
      obtain ⟨G_S108, fS108⟩ := hP
      have F_S108 := zz_fr.trans F_S0 fS108 rfl zz_nv
      refine zz_aload_n (x := 1079) rfl zd_14_84_58 ?_
      refine zz_aload_n (x := 1079) rfl zd_14_84_59 ?_
      refine zz_callVI [] zd_14_84_60 zk_Md_479 zT_1079 (zz_ltn hn rfl) rfl rfl ⟨Nat.le_of_ble_eq_true rfl, Nat.le_of_ble_eq_true rfl⟩ ⟨rfl, rfl⟩ (Nat.zero_le _) (Nat.zero_le _) (zc_quarter_14_81  S108 n hn G_S108 ) (fun v111 S110 hP => ?_)
      obtain ⟨rfl, o112⟩ := hP
      refine zz_iconst zd_14_84_63 ?_
      refine zz_iconst zd_14_84_64 ?_
      refine zz_iconst zd_14_84_65 ?_
      refine zz_callVV [zi v111, zi 0, zi 0, zi 0] zd_14_84_66 zk_Md_482 zT_1079 (zz_ltn hn rfl) rfl rfl ⟨Nat.le_of_ble_eq_true rfl, Nat.le_of_ble_eq_true rfl⟩ ⟨rfl, rfl⟩ (Nat.zero_le _) (Nat.zero_le _) (zc_with_14_79 v111 0 0 0 S108 n hn G_S108 (by omega) (by omega) (by omega) (by omega)) (fun S113 hP => ?_)
      obtain ⟨G_S113, fS113⟩ := hP
      have F_S113 := zz_fr.trans F_S108 fS113 rfl zz_nv
      refine zz_aload_n (x := 1079) rfl zd_14_84_69 ?_
      refine zz_iload (x := p6) rfl zd_14_84_70 ?_
      have g115 := zz_G.r G_S0 1079 10 0 1000000 rfl rfl
      have e116 : S113 1079 10 = S0 1079 10 := (zz_rc fS113 rfl rfl (fun h => h) (zz_rc fS108 rfl rfl (fun h => h) rfl))
      refine zz_callVV [zi p6] zd_14_84_72 zk_Md_485 zT_1079 (zz_ltn hn rfl) rfl rfl ⟨Nat.le_of_ble_eq_true rfl, Nat.le_of_ble_eq_true rfl⟩ ⟨rfl, rfl⟩ (Nat.zero_le _) (Nat.zero_le _) (zc_load_14_82 p6 S113 n hn G_S113 (by omega) (by omega)) (fun S117 hP => ?_)
      obtain ⟨G_S117, fS117, o119, o120⟩ := hP
      have F_S117 := zz_fr.trans F_S113 fS117 rfl zz_nv
      refine zz_aload_n (x := 1079) rfl zd_14_84_75 ?_
      refine zz_getr (kd := 0) (z := 1106) zd_14_84_76 zf_Md_100 zT_1079 rfl (zz_ltn hn rfl) (zz_G.eq G_S117 1079 41 1106 rfl rfl) (by decide) 1106 rfl ?_
      refine zz_iload_n (x := p0) rfl zd_14_84_79 ?_
      refine zz_iald (z := S0 1106 p0.toNat) zd_14_84_80 zT_1106 rfl (zz_ltn hn rfl) (by decide) (by omega) (zz_rc fS117 (zz_nc1 rfl) rfl (fun h => h) (zz_rc fS113 (zz_nc1 rfl) rfl (fun h => h) (zz_rc fS108 (zz_nc1 rfl) rfl (fun h => h) rfl))) ?_
      refine zz_if_ne (by omega) zd_14_84_81 (fun c121 => ?_) (fun c121 => ?_)
      · exfalso; omega
      · refine zz_iload_n (x := p1) rfl zd_14_84_84 ?_
        refine zz_aload_n (x := 1079) rfl zd_14_84_85 ?_
        refine zz_getr (kd := 0) (z := 1110) zd_14_84_86 zf_Md_112 zT_1079 rfl (zz_ltn hn rfl) (zz_G.eq G_S117 1079 45 1110 rfl rfl) (by decide) 1110 rfl ?_
        refine zz_iload_n (x := p0) rfl zd_14_84_89 ?_
        have g122 := zz_G.r G_S0 1110 p0.toNat 0 3 rfl rfl
        refine zz_iald (z := S0 1110 p0.toNat) zd_14_84_90 zT_1110 rfl (zz_ltn hn rfl) (by decide) (by omega) (zz_rc fS117 (zz_nc1 rfl) rfl (fun h => h) (zz_rc fS113 (zz_nc1 rfl) rfl (fun h => h) (zz_rc fS108 (zz_nc1 rfl) rfl (fun h => h) rfl))) ?_
        refine zz_imul zd_14_84_91 ?_
        refine zz_nrm (fun v123 hv123 ev123 => ?_)
        refine zz_iload_n (x := p2) rfl zd_14_84_92 ?_
        refine zz_iadd zd_14_84_93 ?_
        refine zz_nrm (fun v124 hv124 ev124 => ?_)
        refine zz_aload_n (x := 1079) rfl zd_14_84_94 ?_
        refine zz_getr (kd := 0) (z := 1104) zd_14_84_95 zf_Md_94 zT_1079 rfl (zz_ltn hn rfl) (zz_G.eq G_S117 1079 39 1104 rfl rfl) (by decide) 1104 rfl ?_
        refine zz_iload (x := S0 1107 p0.toNat) rfl zd_14_84_98 ?_
        have g125 := zz_G.r G_S0 1104 ((S0 1107 p0.toNat).toNat) 0 63 rfl rfl
        refine zz_iald (z := S0 1104 ((S0 1107 p0.toNat).toNat)) zd_14_84_100 zT_1104 rfl (zz_ltn hn rfl) (by decide) (by omega) (zz_rc fS117 (zz_nc1 rfl) rfl (fun h => h) (zz_rc fS113 (zz_nc1 rfl) rfl (fun h => h) (zz_rc fS108 (zz_nc1 rfl) rfl (fun h => h) rfl))) ?_
        refine zz_imul zd_14_84_101 ?_
        refine zz_nrm (fun v126 hv126 ev126 => ?_)
        refine zz_iload (x := p3) rfl zd_14_84_102 ?_
        refine zz_iadd zd_14_84_104 ?_
        refine zz_nrm (fun v127 hv127 ev127 => ?_)
        refine zz_istore [some (.ref 1079), some (zi p0), some (zi p1), some (zi p2), some (zi p3), some (zi p4), some (zi p5), some (zi p6), some (zi (S0 1107 p0.toNat)), some (zi (S0 1104 ((p0 + 1).toNat))), some (zi v127)] zd_14_84_105 (by decide) rfl ?_
        refine zz_aload_n (x := 1079) rfl zd_14_84_107 ?_
        refine zz_iconst zd_14_84_108 ?_
        refine zz_aload_n (x := 1079) rfl zd_14_84_109 ?_
        refine zz_getr (kd := 0) (z := 1114) zd_14_84_110 zf_Md_124 zT_1079 rfl (zz_ltn hn rfl) (zz_G.eq G_S117 1079 49 1114 rfl rfl) (by decide) 1114 rfl ?_
        refine zz_iload_n (x := p0) rfl zd_14_84_113 ?_
        refine zz_iald (z := S0 1114 p0.toNat) zd_14_84_114 zT_1114 rfl (zz_ltn hn rfl) (by decide) (by omega) (zz_rc fS117 (zz_nc1 rfl) rfl (fun h => h) (zz_rc fS113 (zz_nc1 rfl) rfl (fun h => h) (zz_rc fS108 (zz_nc1 rfl) rfl (fun h => h) rfl))) ?_
        refine zz_iconst zd_14_84_115 ?_
        refine zz_iload (x := S0 1104 ((p0 + 1).toNat)) rfl zd_14_84_116 ?_
        refine zz_imul zd_14_84_118 ?_
        refine zz_iadd zd_14_84_119 ?_
        refine zz_nme (fun v128 ev128 => ?_)
        refine zz_iload (x := v127) rfl zd_14_84_120 ?_
        refine zz_iload (x := S0 1104 ((p0 + 1).toNat)) rfl zd_14_84_122 ?_
        refine zz_imul zd_14_84_124 ?_
        refine zz_nrm (fun v129 hv129 ev129 => ?_)
        refine zz_iadd zd_14_84_125 ?_
        refine zz_nrm (fun v130 hv130 ev130 => ?_)
        refine zz_aload_n (x := 1079) rfl zd_14_84_126 ?_
        refine zz_geti (z := S0 1079 56) zd_14_84_127 zf_Md_466 zT_1079 rfl (zz_ltn hn rfl) (zz_rc fS117 rfl rfl (fun h => h) (zz_rc fS113 rfl rfl (fun h => h) (zz_rc fS108 rfl rfl (fun h => h) rfl))) ?_
        refine zz_iadd zd_14_84_130 ?_
        refine zz_nrm (fun v131 hv131 ev131 => ?_)
        refine zz_iload (x := p4) rfl zd_14_84_131 ?_
        refine zz_aload_n (x := 1079) rfl zd_14_84_133 ?_
        refine zz_geti (z := S0 1079 53) zd_14_84_134 zf_Md_472 zT_1079 rfl (zz_ltn hn rfl) (zz_rc fS117 rfl rfl (fun h => h) (zz_rc fS113 rfl rfl (fun h => h) (zz_rc fS108 rfl rfl (fun h => h) rfl))) ?_
        refine zz_callVV [zi 2, zi v131, zi p4, zi (S0 1079 53)] zd_14_84_137 zk_Md_475 zT_1079 (zz_ltn hn rfl) rfl rfl ⟨Nat.le_of_ble_eq_true rfl, Nat.le_of_ble_eq_true rfl⟩ ⟨rfl, rfl⟩ (Nat.zero_le _) (Nat.zero_le _) (zc_set_14_78 2 v131 p4 (S0 1079 53) S117 n hn G_S117 (by omega) (by omega) (by omega) (by omega)) (fun S132 hP => ?_)
        obtain ⟨G_S132, fS132⟩ := hP
        have F_S132 := zz_fr.trans F_S117 fS132 rfl zz_nv
        refine zz_aload_n (x := 1079) rfl zd_14_84_140 ?_
        refine zz_aload_n (x := 1079) rfl zd_14_84_141 ?_
        refine zz_callVI [] zd_14_84_142 zk_Md_489 zT_1079 (zz_ltn hn rfl) rfl rfl ⟨Nat.le_of_ble_eq_true rfl, Nat.le_of_ble_eq_true rfl⟩ ⟨rfl, rfl⟩ (Nat.zero_le _) (Nat.zero_le _) (zc_half_14_80  S132 n hn G_S132 ) (fun v135 S134 hP => ?_)
        obtain ⟨rfl, o136⟩ := hP
        refine zz_iconst zd_14_84_145 ?_
        refine zz_iload (x := S0 1104 ((p0 + 1).toNat)) rfl zd_14_84_146 ?_
        refine zz_iconst zd_14_84_148 ?_
        refine zz_callVV [zi v135, zi 0, zi (S0 1104 ((p0 + 1).toNat)), zi 0] zd_14_84_149 zk_Md_482 zT_1079 (zz_ltn hn rfl) rfl rfl ⟨Nat.le_of_ble_eq_true rfl, Nat.le_of_ble_eq_true rfl⟩ ⟨rfl, rfl⟩ (Nat.zero_le _) (Nat.zero_le _) (zc_with_14_79 v135 0 (S0 1104 ((p0 + 1).toNat)) 0 S132 n hn G_S132 (by omega) (by omega) (by omega) (by omega)) (fun S137 hP => ?_)
        obtain ⟨G_S137, fS137⟩ := hP
        have F_S137 := zz_fr.trans F_S132 fS137 rfl zz_nv
        refine zz_aload_n (x := 1079) rfl zd_14_84_152 ?_
        refine zz_iload (x := p6) rfl zd_14_84_153 ?_
        have g139 := zz_G.r G_S117 1079 10 0 1000000 rfl rfl
        have e140 : S137 1079 10 = S117 1079 10 := (zz_rc fS137 rfl rfl (fun h => h) (zz_rc fS132 rfl rfl (fun h => h) rfl))
        refine zz_callVV [zi p6] zd_14_84_155 zk_Md_485 zT_1079 (zz_ltn hn rfl) rfl rfl ⟨Nat.le_of_ble_eq_true rfl, Nat.le_of_ble_eq_true rfl⟩ ⟨rfl, rfl⟩ (Nat.zero_le _) (Nat.zero_le _) (zc_load_14_82 p6 S137 n hn G_S137 (by omega) (by omega)) (fun S141 hP => ?_)
        obtain ⟨G_S141, fS141, o143, o144⟩ := hP
        have F_S141 := zz_fr.trans F_S137 fS141 rfl zz_nv
        refine zz_aload_n (x := 1079) rfl zd_14_84_158 ?_
        refine zz_getr (kd := 0) (z := 1106) zd_14_84_159 zf_Md_100 zT_1079 rfl (zz_ltn hn rfl) (zz_G.eq G_S141 1079 41 1106 rfl rfl) (by decide) 1106 rfl ?_
        refine zz_iload_n (x := p0) rfl zd_14_84_162 ?_
        refine zz_iald (z := S0 1106 p0.toNat) zd_14_84_163 zT_1106 rfl (zz_ltn hn rfl) (by decide) (by omega) (zz_rc fS141 (zz_nc1 rfl) rfl (fun h => h) (zz_rc fS137 (zz_nc1 rfl) rfl (fun h => h) (zz_rc fS132 (zz_nc1 rfl) rfl (fun h => h) (zz_rc fS117 (zz_nc1 rfl) rfl (fun h => h) (zz_rc fS113 (zz_nc1 rfl) rfl (fun h => h) (zz_rc fS108 (zz_nc1 rfl) rfl (fun h => h) rfl)))))) ?_
        refine zz_iconst zd_14_84_164 ?_
        refine zz_icmp_ne (by omega) (by omega) zd_14_84_165 (fun c145 => ?_) (fun c145 => ?_)
        · refine zz_aload_n (x := 1079) rfl zd_14_84_247 ?_
          refine zz_getr (kd := 0) (z := 1111) zd_14_84_248 zf_Md_115 zT_1079 rfl (zz_ltn hn rfl) (zz_G.eq G_S141 1079 46 1111 rfl rfl) (by decide) 1111 rfl ?_
          refine zz_iload_n (x := p0) rfl zd_14_84_251 ?_
          have g146 := zz_G.r G_S0 1111 p0.toNat 0 3 rfl rfl
          refine zz_iald (z := S0 1111 p0.toNat) zd_14_84_252 zT_1111 rfl (zz_ltn hn rfl) (by decide) (by omega) (zz_rc fS141 (zz_nc1 rfl) rfl (fun h => h) (zz_rc fS137 (zz_nc1 rfl) rfl (fun h => h) (zz_rc fS132 (zz_nc1 rfl) rfl (fun h => h) (zz_rc fS117 (zz_nc1 rfl) rfl (fun h => h) (zz_rc fS113 (zz_nc1 rfl) rfl (fun h => h) (zz_rc fS108 (zz_nc1 rfl) rfl (fun h => h) rfl)))))) ?_
          refine zz_aload_n (x := 1079) rfl zd_14_84_253 ?_
          have g147 := zz_G.r G_S0 1079 55 (-2147483648) 2147483647 rfl rfl
          refine zz_geti (z := S0 1079 55) zd_14_84_254 zf_Md_495 zT_1079 rfl (zz_ltn hn rfl) (zz_rc fS141 rfl rfl (fun h => h) (zz_rc fS137 rfl rfl (fun h => h) (zz_rc fS132 rfl rfl (fun h => h) (zz_rc fS117 rfl rfl (fun h => h) (zz_rc fS113 rfl rfl (fun h => h) (zz_rc fS108 rfl rfl (fun h => h) rfl)))))) ?_
          refine zz_imul zd_14_84_257 ?_
          refine zz_nrm (fun v148 hv148 ev148 => ?_)
          refine zz_iload_n (x := p1) rfl zd_14_84_258 ?_
          refine zz_iadd zd_14_84_259 ?_
          refine zz_nrm (fun v149 hv149 ev149 => ?_)
          refine zz_aload_n (x := 1079) rfl zd_14_84_260 ?_
          refine zz_getr (kd := 0) (z := 1112) zd_14_84_261 zf_Md_118 zT_1079 rfl (zz_ltn hn rfl) (zz_G.eq G_S141 1079 47 1112 rfl rfl) (by decide) 1112 rfl ?_
          refine zz_iload_n (x := p0) rfl zd_14_84_264 ?_
          have g150 := zz_G.r G_S0 1112 p0.toNat 0 1 rfl rfl
          refine zz_iald (z := S0 1112 p0.toNat) zd_14_84_265 zT_1112 rfl (zz_ltn hn rfl) (by decide) (by omega) (zz_rc fS141 (zz_nc1 rfl) rfl (fun h => h) (zz_rc fS137 (zz_nc1 rfl) rfl (fun h => h) (zz_rc fS132 (zz_nc1 rfl) rfl (fun h => h) (zz_rc fS117 (zz_nc1 rfl) rfl (fun h => h) (zz_rc fS113 (zz_nc1 rfl) rfl (fun h => h) (zz_rc fS108 (zz_nc1 rfl) rfl (fun h => h) rfl)))))) ?_
          refine zz_isub zd_14_84_266 ?_
          refine zz_nrm (fun v151 hv151 ev151 => ?_)
          refine zz_istore [some (.ref 1079), some (zi p0), some (zi p1), some (zi p2), some (zi p3), some (zi p4), some (zi p5), some (zi p6), some (zi (S0 1107 p0.toNat)), some (zi (S0 1104 ((p0 + 1).toNat))), some (zi v151)] zd_14_84_267 (by decide) rfl ?_
          refine zz_aload_n (x := 1079) rfl zd_14_84_269 ?_
          refine zz_getr (kd := 0) (z := 1111) zd_14_84_270 zf_Md_115 zT_1079 rfl (zz_ltn hn rfl) (zz_G.eq G_S141 1079 46 1111 rfl rfl) (by decide) 1111 rfl ?_
          refine zz_iload_n (x := p0) rfl zd_14_84_273 ?_
          refine zz_iald (z := S0 1111 p0.toNat) zd_14_84_274 zT_1111 rfl (zz_ltn hn rfl) (by decide) (by omega) (zz_rc fS141 (zz_nc1 rfl) rfl (fun h => h) (zz_rc fS137 (zz_nc1 rfl) rfl (fun h => h) (zz_rc fS132 (zz_nc1 rfl) rfl (fun h => h) (zz_rc fS117 (zz_nc1 rfl) rfl (fun h => h) (zz_rc fS113 (zz_nc1 rfl) rfl (fun h => h) (zz_rc fS108 (zz_nc1 rfl) rfl (fun h => h) rfl)))))) ?_
          refine zz_aload_n (x := 1079) rfl zd_14_84_275 ?_
          have g152 := zz_G.r G_S0 1079 54 (-2147483648) 2147483647 rfl rfl
          refine zz_geti (z := S0 1079 54) zd_14_84_276 zf_Md_492 zT_1079 rfl (zz_ltn hn rfl) (zz_rc fS141 rfl rfl (fun h => h) (zz_rc fS137 rfl rfl (fun h => h) (zz_rc fS132 rfl rfl (fun h => h) (zz_rc fS117 rfl rfl (fun h => h) (zz_rc fS113 rfl rfl (fun h => h) (zz_rc fS108 rfl rfl (fun h => h) rfl)))))) ?_
          refine zz_imul zd_14_84_279 ?_
          refine zz_nrm (fun v153 hv153 ev153 => ?_)
          refine zz_iload_n (x := p2) rfl zd_14_84_280 ?_
          refine zz_iadd zd_14_84_281 ?_
          refine zz_nrm (fun v154 hv154 ev154 => ?_)
          refine zz_aload_n (x := 1079) rfl zd_14_84_282 ?_
          refine zz_getr (kd := 0) (z := 1112) zd_14_84_283 zf_Md_118 zT_1079 rfl (zz_ltn hn rfl) (zz_G.eq G_S141 1079 47 1112 rfl rfl) (by decide) 1112 rfl ?_
          refine zz_iload_n (x := p0) rfl zd_14_84_286 ?_
          refine zz_iald (z := S0 1112 p0.toNat) zd_14_84_287 zT_1112 rfl (zz_ltn hn rfl) (by decide) (by omega) (zz_rc fS141 (zz_nc1 rfl) rfl (fun h => h) (zz_rc fS137 (zz_nc1 rfl) rfl (fun h => h) (zz_rc fS132 (zz_nc1 rfl) rfl (fun h => h) (zz_rc fS117 (zz_nc1 rfl) rfl (fun h => h) (zz_rc fS113 (zz_nc1 rfl) rfl (fun h => h) (zz_rc fS108 (zz_nc1 rfl) rfl (fun h => h) rfl)))))) ?_
          refine zz_isub zd_14_84_288 ?_
          refine zz_nrm (fun v155 hv155 ev155 => ?_)
          refine zz_istore [some (.ref 1079), some (zi p0), some (zi p1), some (zi p2), some (zi p3), some (zi p4), some (zi p5), some (zi p6), some (zi (S0 1107 p0.toNat)), some (zi (S0 1104 ((p0 + 1).toNat))), some (zi v151), some (zi v155)] zd_14_84_289 (by decide) rfl ?_
          refine zz_iconst zd_14_84_291 ?_
          refine zz_istore [some (.ref 1079), some (zi p0), some (zi p1), some (zi p2), some (zi p3), some (zi p4), some (zi p5), some (zi p6), some (zi (S0 1107 p0.toNat)), some (zi (S0 1104 ((p0 + 1).toNat))), some (zi v151), some (zi v155), some (zi 0)] zd_14_84_292 (by decide) rfl ?_
          refine zz_iconst zd_14_84_294 ?_
          refine zz_istore [some (.ref 1079), some (zi p0), some (zi p1), some (zi p2), some (zi p3), some (zi p4), some (zi p5), some (zi p6), some (zi (S0 1107 p0.toNat)), some (zi (S0 1104 ((p0 + 1).toNat))), some (zi v151), some (zi v155), some (zi 0), some (zi 0)] zd_14_84_295 (by decide) rfl ?_
          refine zz_iconst zd_14_84_297 ?_
          refine zz_istore [some (.ref 1079), some (zi p0), some (zi p1), some (zi p2), some (zi p3), some (zi p4), some (zi p5), some (zi p6), some (zi (S0 1107 p0.toNat)), some (zi (S0 1104 ((p0 + 1).toNat))), some (zi v151), some (zi v155), some (zi 0), some (zi 0), some (zi 0)] zd_14_84_298 (by decide) rfl ?_
          have g156 := zz_G.r G_S141 1079 10 0 1000000 rfl rfl
          refine zz_less (ls1 := [some (.ref 1079), some (zi p0), none, none, some (zi p3), some (zi p4), none, some (zi p6), some (zi (S0 1107 p0.toNat)), none, some (zi v151), some (zi v155), some (zi 0), some (zi 0), some (zi 0)]) ⟨rfl, ⟨rfl, ⟨rfl, ⟨rfl, ⟨rfl, ⟨rfl, ⟨rfl, ⟨rfl, ⟨rfl, ⟨rfl, ⟨rfl, trivial⟩⟩⟩⟩⟩⟩⟩⟩⟩⟩⟩ ?_
          exact k300 v151 v155 0 0 0 S141 G_S141 F_S141 (by omega) (by omega) (by omega) (by omega) (by omega) (by omega) (by omega) (by omega)
        · exfalso; omega
theorem zk_Md_462 : mm_Vl "TensorForgeModel" 462 11 7 zy_groupLoads_14_84 := ⟨zyw_groupLoads_14_84, (R_Md, F_Md, 69), rfl, mm_tb_1 2152 (by decide +kernel) rfl, mm_tb_1 2154 (by decide +kernel) rfl, mm_tb_s 130 (by decide +kernel) rfl⟩
theorem zd_14_83_24 : zz_D zy_group_14_83 24 (.aload_n 0) 1 25 := ⟨by decide +kernel, rfl⟩
theorem zd_14_83_25 : zz_D zy_group_14_83 25 (.aload_n 0) 1 26 := ⟨by decide +kernel, rfl⟩
theorem zd_14_83_26 : zz_D zy_group_14_83 26 (.getfield 453) 3 29 := ⟨by decide +kernel, rfl⟩
theorem zd_14_83_29 : zz_D zy_group_14_83 29 (.putfield 456) 3 32 := ⟨by decide +kernel, rfl⟩
theorem zd_14_83_32 : zz_D zy_group_14_83 32 (.aload_n 0) 1 33 := ⟨by decide +kernel, rfl⟩
theorem zd_14_83_33 : zz_D zy_group_14_83 33 (.iconst 0) 1 34 := ⟨by decide +kernel, rfl⟩
theorem zd_14_83_34 : zz_D zy_group_14_83 34 (.putfield 453) 3 37 := ⟨by decide +kernel, rfl⟩
theorem zd_14_83_37 : zz_D zy_group_14_83 37 (.aload_n 0) 1 38 := ⟨by decide +kernel, rfl⟩
theorem zd_14_83_38 : zz_D zy_group_14_83 38 (.iload_n 1) 1 39 := ⟨by decide +kernel, rfl⟩
theorem zd_14_83_39 : zz_D zy_group_14_83 39 (.iload_n 2) 1 40 := ⟨by decide +kernel, rfl⟩
theorem zd_14_83_40 : zz_D zy_group_14_83 40 (.iload_n 3) 1 41 := ⟨by decide +kernel, rfl⟩
theorem zd_14_83_41 : zz_D zy_group_14_83 41 (.iload 4) 2 43 := ⟨by decide +kernel, rfl⟩
theorem zd_14_83_43 : zz_D zy_group_14_83 43 (.iload 5) 2 45 := ⟨by decide +kernel, rfl⟩
theorem zd_14_83_45 : zz_D zy_group_14_83 45 (.iload 6) 2 47 := ⟨by decide +kernel, rfl⟩
theorem zd_14_83_47 : zz_D zy_group_14_83 47 (.iconst 0) 1 48 := ⟨by decide +kernel, rfl⟩
theorem zd_14_83_48 : zz_D zy_group_14_83 48 (.invokevirtual 462) 3 51 := ⟨by decide +kernel, rfl⟩
theorem zd_14_83_51 : zz_D zy_group_14_83 51 (.return_) 1 52 := ⟨by decide +kernel, rfl⟩

-- TensorForgeModel tile (I)V
abbrev zr_tile_14_87 : Room := { frames := 6, cells := 0, slots := 0, locals := 105 }
def zp_tile_14_87 (p0 : Int) (S0 : zz_S) : zz_S → Prop := fun S => zz_G S ∧ zz_fr [(1079, 10), (1079, 50), (1079, 51), (1079, 57), (1079, 60)] [1086, 1087] (fun _ _ => False) S0 S ∧ (S0 1079 10 ≤ S 1079 10 ∧ S 1079 10 ≤ S0 1079 10 + 2000)
theorem zb_tile_14_87_19 {g : mm_G} {l : Launch} (p0 : Int) (S0 : zz_S) (n : Nat) (hn : zz_end ≤ n) (G_S0 : zz_G S0) (hp0 : 0 ≤ p0 ∧ p0 ≤ 9) (hq : S0 1079 10 ≤ 600) (x3 : Int) (S : zz_S) (G_S : zz_G S) (F_S : zz_fr [(1079, 10), (1079, 50), (1079, 51), (1079, 57), (1079, 60)] [1086, 1087] (fun _ _ => False) S0 S) (i19_0 : 0 ≤ x3 ∧ x3 ≤ 2) (i19_1 : S0 1106 p0.toNat = 2) (i19_2 : S0 1079 10 ≤ S 1079 10 ∧ S 1079 10 ≤ S0 1079 10 + 6 * x3) (R : Nat) (hR : (34359738368 + (2 - x3).toNat) = R) (k19 : ∀ (x3 : Int) (S : zz_S), zz_G S → zz_fr [(1079, 10), (1079, 50), (1079, 51), (1079, 57), (1079, 60)] [1086, 1087] (fun _ _ => False) S0 S → (0 ≤ x3 ∧ x3 ≤ 2) → (S0 1106 p0.toNat = 2) → (S0 1079 10 ≤ S 1079 10 ∧ S 1079 10 ≤ S0 1079 10 + 6 * x3) → (34359738368 + (2 - x3).toNat) < R → zz_E g l zy_tile_14_87 zr_tile_14_87 (zz_QV n (zp_tile_14_87 p0 S0)) S n 19 [some (.ref 1079), some (zi p0), none, some (zi x3)] [] 0 0) : zz_E g l zy_tile_14_87 zr_tile_14_87 (zz_QV n (zp_tile_14_87 p0 S0)) S n 19 [some (.ref 1079), some (zi p0), none, some (zi x3)] [] 0 0 := by
  refine zz_iload_n (x := x3) rfl zd_14_87_19 ?_
  refine zz_iconst zd_14_87_20 ?_
  refine zz_icmp_ge (by omega) (by omega) zd_14_87_21 (fun c256 => ?_) (fun c256 => ?_)
  · refine zz_goto zd_14_87_82 ?_
    refine zz_aload_n (x := 1079) rfl zd_14_87_292 ?_
    refine zz_bipush (by decide) zd_14_87_293 ?_
    refine zz_iconst zd_14_87_295 ?_
    refine zz_aload_n (x := 1079) rfl zd_14_87_296 ?_
    have g257 := zz_G.r G_S0 1079 52 (-2147483648) 2147483647 rfl rfl
    refine zz_geti (z := S0 1079 52) zd_14_87_297 zf_Md_469 zT_1079 rfl (zz_ltn hn rfl) (zz_rc F_S rfl rfl (fun h => h) rfl) ?_
    refine zz_aload_n (x := 1079) rfl zd_14_87_300 ?_
    have g258 := zz_G.r G_S0 1079 53 (-2147483648) 2147483647 rfl rfl
    refine zz_geti (z := S0 1079 53) zd_14_87_301 zf_Md_472 zT_1079 rfl (zz_ltn hn rfl) (zz_rc F_S rfl rfl (fun h => h) rfl) ?_
    refine zz_callVV [zi 7, zi 0, zi (S0 1079 52), zi (S0 1079 53)] zd_14_87_304 zk_Md_475 zT_1079 (zz_ltn hn rfl) rfl rfl ⟨Nat.le_of_ble_eq_true rfl, Nat.le_of_ble_eq_true rfl⟩ ⟨rfl, rfl⟩ (Nat.zero_le _) (Nat.zero_le _) (zc_set_14_78 7 0 (S0 1079 52) (S0 1079 53) S n hn G_S (by omega) (by omega) (by omega) (by omega)) (fun S259 hP => ?_)
    obtain ⟨G_S259, fS259⟩ := hP
    have F_S259 := zz_fr.trans F_S fS259 rfl zz_nv
    refine zz_aload_n (x := 1079) rfl zd_14_87_307 ?_
    refine zz_aload_n (x := 1079) rfl zd_14_87_308 ?_
    refine zz_callVI [] zd_14_87_309 zk_Md_479 zT_1079 (zz_ltn hn rfl) rfl rfl ⟨Nat.le_of_ble_eq_true rfl, Nat.le_of_ble_eq_true rfl⟩ ⟨rfl, rfl⟩ (Nat.zero_le _) (Nat.zero_le _) (zc_quarter_14_81  S259 n hn G_S259 ) (fun v262 S261 hP => ?_)
    obtain ⟨rfl, o263⟩ := hP
    refine zz_aload_n (x := 1079) rfl zd_14_87_312 ?_
    refine zz_callVI [] zd_14_87_313 zk_Md_479 zT_1079 (zz_ltn hn rfl) rfl rfl ⟨Nat.le_of_ble_eq_true rfl, Nat.le_of_ble_eq_true rfl⟩ ⟨rfl, rfl⟩ (Nat.zero_le _) (Nat.zero_le _) (zc_quarter_14_81  S259 n hn G_S259 ) (fun v265 S264 hP => ?_)
    obtain ⟨rfl, o266⟩ := hP
    refine zz_iconst zd_14_87_316 ?_
    refine zz_aload_n (x := 1079) rfl zd_14_87_317 ?_
    refine zz_getr (kd := 0) (z := 1113) zd_14_87_318 zf_Md_121 zT_1079 rfl (zz_ltn hn rfl) (zz_G.eq G_S259 1079 48 1113 rfl rfl) (by decide) 1113 rfl ?_
    refine zz_iload_n (x := p0) rfl zd_14_87_321 ?_
    have g267 := zz_G.r G_S0 1113 p0.toNat 0 31 rfl rfl
    refine zz_iald (z := S0 1113 p0.toNat) zd_14_87_322 zT_1113 rfl (zz_ltn hn rfl) (by decide) (by omega) (zz_rc fS259 (zz_nc1 rfl) rfl (fun h => h) (zz_rc F_S (zz_nc1 rfl) rfl (fun h => h) rfl)) ?_
    refine zz_callVV [zi v262, zi v265, zi 0, zi (S0 1113 p0.toNat)] zd_14_87_323 zk_Md_482 zT_1079 (zz_ltn hn rfl) rfl rfl ⟨Nat.le_of_ble_eq_true rfl, Nat.le_of_ble_eq_true rfl⟩ ⟨rfl, rfl⟩ (Nat.zero_le _) (Nat.zero_le _) (zc_with_14_79 v262 v265 0 (S0 1113 p0.toNat) S259 n hn G_S259 (by omega) (by omega) (by omega) (by omega)) (fun S268 hP => ?_)
    obtain ⟨G_S268, fS268⟩ := hP
    have F_S268 := zz_fr.trans F_S259 fS268 rfl zz_nv
    refine zz_aload_n (x := 1079) rfl zd_14_87_326 ?_
    refine zz_bipush (by decide) zd_14_87_327 ?_
    refine zz_aload_n (x := 1079) rfl zd_14_87_329 ?_
    have g270 := zz_G.r G_S 1079 50 (-2147483648) 2147483647 rfl rfl
    refine zz_geti (z := S 1079 50) zd_14_87_330 zf_Md_450 zT_1079 rfl (zz_ltn hn rfl) (zz_rc fS268 rfl rfl (fun h => h) (zz_rc fS259 rfl rfl (fun h => h) rfl)) ?_
    refine zz_iconst zd_14_87_333 ?_
    refine zz_icmp_le (by omega) (by omega) zd_14_87_334 (fun c271 => ?_) (fun c271 => ?_)
    · refine zz_iconst zd_14_87_341 ?_
      refine zz_ior (by omega) (by omega) zd_14_87_342 (fun v272 hv272 av272 ev272 => ?_)
      have g273 := zz_G.r G_S 1079 10 0 1000000 rfl rfl
      have e274 : S268 1079 10 = S 1079 10 := (zz_rc fS268 rfl rfl (fun h => h) (zz_rc fS259 rfl rfl (fun h => h) rfl))
      refine zz_callVV [zi v272] zd_14_87_343 zk_Md_459 zT_1079 (zz_ltn hn rfl) rfl rfl ⟨Nat.le_of_ble_eq_true rfl, Nat.le_of_ble_eq_true rfl⟩ ⟨rfl, rfl⟩ (Nat.zero_le _) (Nat.zero_le _) (zc_emit_14_77 v272 S268 n hn G_S268 (by omega) (by omega)) (fun S275 hP => ?_)
      obtain ⟨G_S275, fS275, o277⟩ := hP
      have F_S275 := zz_fr.trans F_S268 fS275 rfl zz_nv
      refine zz_iload_n (x := p0) rfl zd_14_87_346 ?_
      refine zz_iconst zd_14_87_347 ?_
      refine zz_iadd zd_14_87_348 ?_
      refine zz_istore_n [some (.ref 1079), some (zi p0), none, some (zi (p0 + 1))] zd_14_87_349 (by decide) rfl ?_
      refine zz_aload_n (x := 1079) rfl zd_14_87_350 ?_
      refine zz_getr (kd := 0) (z := 1106) zd_14_87_351 zf_Md_100 zT_1079 rfl (zz_ltn hn rfl) (zz_G.eq G_S275 1079 41 1106 rfl rfl) (by decide) 1106 rfl ?_
      refine zz_iload_n (x := p0) rfl zd_14_87_354 ?_
      have g278 := zz_G.r G_S0 1106 p0.toNat 0 2 rfl rfl
      refine zz_iald (z := S0 1106 p0.toNat) zd_14_87_355 zT_1106 rfl (zz_ltn hn rfl) (by decide) (by omega) (zz_rc fS275 (zz_nc1 rfl) rfl (fun h => h) (zz_rc fS268 (zz_nc1 rfl) rfl (fun h => h) (zz_rc fS259 (zz_nc1 rfl) rfl (fun h => h) (zz_rc F_S (zz_nc1 rfl) rfl (fun h => h) rfl)))) ?_
      refine zz_iconst zd_14_87_356 ?_
      refine zz_icmp_ne (by omega) (by omega) zd_14_87_357 (fun c279 => ?_) (fun c279 => ?_)
      · refine zz_aload_n (x := 1079) rfl zd_14_87_367 ?_
        have g280 := zz_G.r G_S0 1079 55 (-2147483648) 2147483647 rfl rfl
        refine zz_geti (z := S0 1079 55) zd_14_87_368 zf_Md_495 zT_1079 rfl (zz_ltn hn rfl) (zz_rc fS275 rfl rfl (fun h => h) (zz_rc fS268 rfl rfl (fun h => h) (zz_rc fS259 rfl rfl (fun h => h) (zz_rc F_S rfl rfl (fun h => h) rfl)))) ?_
        refine zz_aload_n (x := 1079) rfl zd_14_87_371 ?_
        refine zz_getr (kd := 0) (z := 1103) zd_14_87_372 zf_Md_91 zT_1079 rfl (zz_ltn hn rfl) (zz_G.eq G_S275 1079 38 1103 rfl rfl) (by decide) 1103 rfl ?_
        refine zz_iload_n (x := p0 + 1) rfl zd_14_87_375 ?_
        have g281 := zz_G.r G_S0 1103 ((p0 + 1).toNat) 0 63 rfl rfl
        refine zz_iald (z := S0 1103 ((p0 + 1).toNat)) zd_14_87_376 zT_1103 rfl (zz_ltn hn rfl) (by decide) (by omega) (zz_rc fS275 (zz_nc1 rfl) rfl (fun h => h) (zz_rc fS268 (zz_nc1 rfl) rfl (fun h => h) (zz_rc fS259 (zz_nc1 rfl) rfl (fun h => h) (zz_rc F_S (zz_nc1 rfl) rfl (fun h => h) rfl)))) ?_
        refine zz_imul zd_14_87_377 ?_
        refine zz_nrm (fun v282 hv282 ev282 => ?_)
        refine zz_aload_n (x := 1079) rfl zd_14_87_378 ?_
        have g283 := zz_G.r G_S0 1079 54 (-2147483648) 2147483647 rfl rfl
        refine zz_geti (z := S0 1079 54) zd_14_87_379 zf_Md_492 zT_1079 rfl (zz_ltn hn rfl) (zz_rc fS275 rfl rfl (fun h => h) (zz_rc fS268 rfl rfl (fun h => h) (zz_rc fS259 rfl rfl (fun h => h) (zz_rc F_S rfl rfl (fun h => h) rfl)))) ?_
        refine zz_iadd zd_14_87_382 ?_
        refine zz_nrm (fun v284 hv284 ev284 => ?_)
        refine zz_istore [some (.ref 1079), some (zi p0), none, some (zi (p0 + 1)), some (zi v284)] zd_14_87_383 (by decide) rfl ?_
        refine zz_aload_n (x := 1079) rfl zd_14_87_385 ?_
        refine zz_bipush (by decide) zd_14_87_386 ?_
        refine zz_aload_n (x := 1079) rfl zd_14_87_388 ?_
        refine zz_getr (kd := 0) (z := 1105) zd_14_87_389 zf_Md_97 zT_1079 rfl (zz_ltn hn rfl) (zz_G.eq G_S275 1079 40 1105 rfl rfl) (by decide) 1105 rfl ?_
        refine zz_iload_n (x := p0 + 1) rfl zd_14_87_392 ?_
        have g285 := zz_G.r G_S0 1105 ((p0 + 1).toNat) (0) (if (p0 + 1).toNat = 0 then 0 else 10000000) rfl rfl
        refine zz_iald (z := S0 1105 ((p0 + 1).toNat)) zd_14_87_393 zT_1105 rfl (zz_ltn hn rfl) (by decide) (by omega) (zz_rc fS275 (zz_nc1 rfl) rfl (fun h => h) (zz_rc fS268 (zz_nc1 rfl) rfl (fun h => h) (zz_rc fS259 (zz_nc1 rfl) rfl (fun h => h) (zz_rc F_S (zz_nc1 rfl) rfl (fun h => h) rfl)))) ?_
        refine zz_iload (x := v284) rfl zd_14_87_394 ?_
        refine zz_aload_n (x := 1079) rfl zd_14_87_396 ?_
        refine zz_getr (kd := 0) (z := 1104) zd_14_87_397 zf_Md_94 zT_1079 rfl (zz_ltn hn rfl) (zz_G.eq G_S275 1079 39 1104 rfl rfl) (by decide) 1104 rfl ?_
        refine zz_iload_n (x := p0 + 1) rfl zd_14_87_400 ?_
        have g286 := zz_G.r G_S0 1104 ((p0 + 1).toNat) 0 63 rfl rfl
        refine zz_iald (z := S0 1104 ((p0 + 1).toNat)) zd_14_87_401 zT_1104 rfl (zz_ltn hn rfl) (by decide) (by omega) (zz_rc fS275 (zz_nc1 rfl) rfl (fun h => h) (zz_rc fS268 (zz_nc1 rfl) rfl (fun h => h) (zz_rc fS259 (zz_nc1 rfl) rfl (fun h => h) (zz_rc F_S (zz_nc1 rfl) rfl (fun h => h) rfl)))) ?_
        refine zz_imul zd_14_87_402 ?_
        refine zz_nrm (fun v287 hv287 ev287 => ?_)
        refine zz_iadd zd_14_87_403 ?_
        refine zz_nrm (fun v288 hv288 ev288 => ?_)
        refine zz_aload_n (x := 1079) rfl zd_14_87_404 ?_
        have g289 := zz_G.r G_S0 1079 56 (-2147483648) 2147483647 rfl rfl
        refine zz_geti (z := S0 1079 56) zd_14_87_405 zf_Md_466 zT_1079 rfl (zz_ltn hn rfl) (zz_rc fS275 rfl rfl (fun h => h) (zz_rc fS268 rfl rfl (fun h => h) (zz_rc fS259 rfl rfl (fun h => h) (zz_rc F_S rfl rfl (fun h => h) rfl)))) ?_
        refine zz_iadd zd_14_87_408 ?_
        refine zz_nrm (fun v290 hv290 ev290 => ?_)
        refine zz_aload_n (x := 1079) rfl zd_14_87_409 ?_
        refine zz_geti (z := S0 1079 52) zd_14_87_410 zf_Md_469 zT_1079 rfl (zz_ltn hn rfl) (zz_rc fS275 rfl rfl (fun h => h) (zz_rc fS268 rfl rfl (fun h => h) (zz_rc fS259 rfl rfl (fun h => h) (zz_rc F_S rfl rfl (fun h => h) rfl)))) ?_
        refine zz_aload_n (x := 1079) rfl zd_14_87_413 ?_
        refine zz_geti (z := S0 1079 53) zd_14_87_414 zf_Md_472 zT_1079 rfl (zz_ltn hn rfl) (zz_rc fS275 rfl rfl (fun h => h) (zz_rc fS268 rfl rfl (fun h => h) (zz_rc fS259 rfl rfl (fun h => h) (zz_rc F_S rfl rfl (fun h => h) rfl)))) ?_
        refine zz_callVV [zi 8, zi v290, zi (S0 1079 52), zi (S0 1079 53)] zd_14_87_417 zk_Md_475 zT_1079 (zz_ltn hn rfl) rfl rfl ⟨Nat.le_of_ble_eq_true rfl, Nat.le_of_ble_eq_true rfl⟩ ⟨rfl, rfl⟩ (Nat.zero_le _) (Nat.zero_le _) (zc_set_14_78 8 v290 (S0 1079 52) (S0 1079 53) S275 n hn G_S275 (by omega) (by omega) (by omega) (by omega)) (fun S291 hP => ?_)
        obtain ⟨G_S291, fS291⟩ := hP
        have F_S291 := zz_fr.trans F_S275 fS291 rfl zz_nv
        refine zz_aload_n (x := 1079) rfl zd_14_87_420 ?_
        refine zz_aload_n (x := 1079) rfl zd_14_87_421 ?_
        refine zz_callVI [] zd_14_87_422 zk_Md_479 zT_1079 (zz_ltn hn rfl) rfl rfl ⟨Nat.le_of_ble_eq_true rfl, Nat.le_of_ble_eq_true rfl⟩ ⟨rfl, rfl⟩ (Nat.zero_le _) (Nat.zero_le _) (zc_quarter_14_81  S291 n hn G_S291 ) (fun v294 S293 hP => ?_)
        obtain ⟨rfl, o295⟩ := hP
        refine zz_iconst zd_14_87_425 ?_
        refine zz_aload_n (x := 1079) rfl zd_14_87_426 ?_
        refine zz_getr (kd := 0) (z := 1104) zd_14_87_427 zf_Md_94 zT_1079 rfl (zz_ltn hn rfl) (zz_G.eq G_S291 1079 39 1104 rfl rfl) (by decide) 1104 rfl ?_
        refine zz_iload_n (x := p0 + 1) rfl zd_14_87_430 ?_
        refine zz_iald (z := S0 1104 ((p0 + 1).toNat)) zd_14_87_431 zT_1104 rfl (zz_ltn hn rfl) (by decide) (by omega) (zz_rc fS291 (zz_nc1 rfl) rfl (fun h => h) (zz_rc fS275 (zz_nc1 rfl) rfl (fun h => h) (zz_rc fS268 (zz_nc1 rfl) rfl (fun h => h) (zz_rc fS259 (zz_nc1 rfl) rfl (fun h => h) (zz_rc F_S (zz_nc1 rfl) rfl (fun h => h) rfl))))) ?_
        refine zz_iconst zd_14_87_432 ?_
        refine zz_callVV [zi v294, zi 0, zi (S0 1104 ((p0 + 1).toNat)), zi 0] zd_14_87_433 zk_Md_482 zT_1079 (zz_ltn hn rfl) rfl rfl ⟨Nat.le_of_ble_eq_true rfl, Nat.le_of_ble_eq_true rfl⟩ ⟨rfl, rfl⟩ (Nat.zero_le _) (Nat.zero_le _) (zc_with_14_79 v294 0 (S0 1104 ((p0 + 1).toNat)) 0 S291 n hn G_S291 (by omega) (by omega) (by omega) (by omega)) (fun S296 hP => ?_)
        obtain ⟨G_S296, fS296⟩ := hP
        have F_S296 := zz_fr.trans F_S291 fS296 rfl zz_nv
        refine zz_aload_n (x := 1079) rfl zd_14_87_436 ?_
        refine zz_iconst zd_14_87_437 ?_
        have g298 := zz_G.r G_S275 1079 10 0 1000000 rfl rfl
        have e299 : S296 1079 10 = S275 1079 10 := (zz_rc fS296 rfl rfl (fun h => h) (zz_rc fS291 rfl rfl (fun h => h) rfl))
        refine zz_callVV [zi 5] zd_14_87_438 zk_Md_459 zT_1079 (zz_ltn hn rfl) rfl rfl ⟨Nat.le_of_ble_eq_true rfl, Nat.le_of_ble_eq_true rfl⟩ ⟨rfl, rfl⟩ (Nat.zero_le _) (Nat.zero_le _) (zc_emit_14_77 5 S296 n hn G_S296 (by omega) (by omega)) (fun S300 hP => ?_)
        obtain ⟨G_S300, fS300, o302⟩ := hP
        have F_S300 := zz_fr.trans F_S296 fS300 rfl zz_nv
        refine zz_aload_n (x := 1079) rfl zd_14_87_441 ?_
        refine zz_dup rfl zd_14_87_442 ?_
        refine zz_geti (z := S 1079 50) zd_14_87_443 zf_Md_450 zT_1079 rfl (zz_ltn hn rfl) (zz_rc fS300 rfl rfl (fun h => h) (zz_rc fS296 rfl rfl (fun h => h) (zz_rc fS291 rfl rfl (fun h => h) (zz_rc fS275 rfl rfl (fun h => h) (zz_rc fS268 rfl rfl (fun h => h) (zz_rc fS259 rfl rfl (fun h => h) rfl)))))) ?_
        refine zz_iconst zd_14_87_446 ?_
        refine zz_iadd zd_14_87_447 ?_
        refine zz_puti zd_14_87_448 zf_Md_450 zT_1079 rfl (zz_ltn hn rfl) (fun S303 qS303 => ?_)
        have G_S303 := zz_G.put G_S300 qS303 (-2147483648) 2147483647 rfl (by omega)
        have F_S303 := zz_fr.puts F_S300 qS303 rfl
        have g304 := zz_G.r G_S300 1079 10 0 1000000 rfl rfl
        have e305 : S303 1079 10 = S300 1079 10 := (zz_ro qS303 (fun h => absurd h.2 (by decide)) rfl)
        exact zz_vret zd_14_87_451 rfl (Nat.zero_le _) (Nat.zero_le _) ⟨_, rfl, G_S303, F_S303, by omega⟩
      · refine zz_aload_n (x := 1079) rfl zd_14_87_360 ?_
        have g306 := zz_G.r G_S0 1079 54 (-2147483648) 2147483647 rfl rfl
        refine zz_geti (z := S0 1079 54) zd_14_87_361 zf_Md_492 zT_1079 rfl (zz_ltn hn rfl) (zz_rc fS275 rfl rfl (fun h => h) (zz_rc fS268 rfl rfl (fun h => h) (zz_rc fS259 rfl rfl (fun h => h) (zz_rc F_S rfl rfl (fun h => h) rfl)))) ?_
        refine zz_goto zd_14_87_364 ?_
        refine zz_istore [some (.ref 1079), some (zi p0), none, some (zi (p0 + 1)), some (zi (S0 1079 54))] zd_14_87_383 (by decide) rfl ?_
        refine zz_aload_n (x := 1079) rfl zd_14_87_385 ?_
        refine zz_bipush (by decide) zd_14_87_386 ?_
        refine zz_aload_n (x := 1079) rfl zd_14_87_388 ?_
        refine zz_getr (kd := 0) (z := 1105) zd_14_87_389 zf_Md_97 zT_1079 rfl (zz_ltn hn rfl) (zz_G.eq G_S275 1079 40 1105 rfl rfl) (by decide) 1105 rfl ?_
        refine zz_iload_n (x := p0 + 1) rfl zd_14_87_392 ?_
        have g307 := zz_G.r G_S0 1105 ((p0 + 1).toNat) (0) (if (p0 + 1).toNat = 0 then 0 else 10000000) rfl rfl
        refine zz_iald (z := S0 1105 ((p0 + 1).toNat)) zd_14_87_393 zT_1105 rfl (zz_ltn hn rfl) (by decide) (by omega) (zz_rc fS275 (zz_nc1 rfl) rfl (fun h => h) (zz_rc fS268 (zz_nc1 rfl) rfl (fun h => h) (zz_rc fS259 (zz_nc1 rfl) rfl (fun h => h) (zz_rc F_S (zz_nc1 rfl) rfl (fun h => h) rfl)))) ?_
        refine zz_iload (x := S0 1079 54) rfl zd_14_87_394 ?_
        refine zz_aload_n (x := 1079) rfl zd_14_87_396 ?_
        refine zz_getr (kd := 0) (z := 1104) zd_14_87_397 zf_Md_94 zT_1079 rfl (zz_ltn hn rfl) (zz_G.eq G_S275 1079 39 1104 rfl rfl) (by decide) 1104 rfl ?_
        refine zz_iload_n (x := p0 + 1) rfl zd_14_87_400 ?_
        have g308 := zz_G.r G_S0 1104 ((p0 + 1).toNat) 0 63 rfl rfl
        refine zz_iald (z := S0 1104 ((p0 + 1).toNat)) zd_14_87_401 zT_1104 rfl (zz_ltn hn rfl) (by decide) (by omega) (zz_rc fS275 (zz_nc1 rfl) rfl (fun h => h) (zz_rc fS268 (zz_nc1 rfl) rfl (fun h => h) (zz_rc fS259 (zz_nc1 rfl) rfl (fun h => h) (zz_rc F_S (zz_nc1 rfl) rfl (fun h => h) rfl)))) ?_
        refine zz_imul zd_14_87_402 ?_
        refine zz_nrm (fun v309 hv309 ev309 => ?_)
        refine zz_iadd zd_14_87_403 ?_
        refine zz_nrm (fun v310 hv310 ev310 => ?_)
        refine zz_aload_n (x := 1079) rfl zd_14_87_404 ?_
        have g311 := zz_G.r G_S0 1079 56 (-2147483648) 2147483647 rfl rfl
        refine zz_geti (z := S0 1079 56) zd_14_87_405 zf_Md_466 zT_1079 rfl (zz_ltn hn rfl) (zz_rc fS275 rfl rfl (fun h => h) (zz_rc fS268 rfl rfl (fun h => h) (zz_rc fS259 rfl rfl (fun h => h) (zz_rc F_S rfl rfl (fun h => h) rfl)))) ?_
        refine zz_iadd zd_14_87_408 ?_
        refine zz_nrm (fun v312 hv312 ev312 => ?_)
        refine zz_aload_n (x := 1079) rfl zd_14_87_409 ?_
        refine zz_geti (z := S0 1079 52) zd_14_87_410 zf_Md_469 zT_1079 rfl (zz_ltn hn rfl) (zz_rc fS275 rfl rfl (fun h => h) (zz_rc fS268 rfl rfl (fun h => h) (zz_rc fS259 rfl rfl (fun h => h) (zz_rc F_S rfl rfl (fun h => h) rfl)))) ?_
        refine zz_aload_n (x := 1079) rfl zd_14_87_413 ?_
        refine zz_geti (z := S0 1079 53) zd_14_87_414 zf_Md_472 zT_1079 rfl (zz_ltn hn rfl) (zz_rc fS275 rfl rfl (fun h => h) (zz_rc fS268 rfl rfl (fun h => h) (zz_rc fS259 rfl rfl (fun h => h) (zz_rc F_S rfl rfl (fun h => h) rfl)))) ?_
        refine zz_callVV [zi 8, zi v312, zi (S0 1079 52), zi (S0 1079 53)] zd_14_87_417 zk_Md_475 zT_1079 (zz_ltn hn rfl) rfl rfl ⟨Nat.le_of_ble_eq_true rfl, Nat.le_of_ble_eq_true rfl⟩ ⟨rfl, rfl⟩ (Nat.zero_le _) (Nat.zero_le _) (zc_set_14_78 8 v312 (S0 1079 52) (S0 1079 53) S275 n hn G_S275 (by omega) (by omega) (by omega) (by omega)) (fun S313 hP => ?_)
        obtain ⟨G_S313, fS313⟩ := hP
        have F_S313 := zz_fr.trans F_S275 fS313 rfl zz_nv
        refine zz_aload_n (x := 1079) rfl zd_14_87_420 ?_
        refine zz_aload_n (x := 1079) rfl zd_14_87_421 ?_
        refine zz_callVI [] zd_14_87_422 zk_Md_479 zT_1079 (zz_ltn hn rfl) rfl rfl ⟨Nat.le_of_ble_eq_true rfl, Nat.le_of_ble_eq_true rfl⟩ ⟨rfl, rfl⟩ (Nat.zero_le _) (Nat.zero_le _) (zc_quarter_14_81  S313 n hn G_S313 ) (fun v316 S315 hP => ?_)
        obtain ⟨rfl, o317⟩ := hP
        refine zz_iconst zd_14_87_425 ?_
        refine zz_aload_n (x := 1079) rfl zd_14_87_426 ?_
        refine zz_getr (kd := 0) (z := 1104) zd_14_87_427 zf_Md_94 zT_1079 rfl (zz_ltn hn rfl) (zz_G.eq G_S313 1079 39 1104 rfl rfl) (by decide) 1104 rfl ?_
        refine zz_iload_n (x := p0 + 1) rfl zd_14_87_430 ?_
        refine zz_iald (z := S0 1104 ((p0 + 1).toNat)) zd_14_87_431 zT_1104 rfl (zz_ltn hn rfl) (by decide) (by omega) (zz_rc fS313 (zz_nc1 rfl) rfl (fun h => h) (zz_rc fS275 (zz_nc1 rfl) rfl (fun h => h) (zz_rc fS268 (zz_nc1 rfl) rfl (fun h => h) (zz_rc fS259 (zz_nc1 rfl) rfl (fun h => h) (zz_rc F_S (zz_nc1 rfl) rfl (fun h => h) rfl))))) ?_
        refine zz_iconst zd_14_87_432 ?_
        refine zz_callVV [zi v316, zi 0, zi (S0 1104 ((p0 + 1).toNat)), zi 0] zd_14_87_433 zk_Md_482 zT_1079 (zz_ltn hn rfl) rfl rfl ⟨Nat.le_of_ble_eq_true rfl, Nat.le_of_ble_eq_true rfl⟩ ⟨rfl, rfl⟩ (Nat.zero_le _) (Nat.zero_le _) (zc_with_14_79 v316 0 (S0 1104 ((p0 + 1).toNat)) 0 S313 n hn G_S313 (by omega) (by omega) (by omega) (by omega)) (fun S318 hP => ?_)
        obtain ⟨G_S318, fS318⟩ := hP
        have F_S318 := zz_fr.trans F_S313 fS318 rfl zz_nv
        refine zz_aload_n (x := 1079) rfl zd_14_87_436 ?_
        refine zz_iconst zd_14_87_437 ?_
        have g320 := zz_G.r G_S275 1079 10 0 1000000 rfl rfl
        have e321 : S318 1079 10 = S275 1079 10 := (zz_rc fS318 rfl rfl (fun h => h) (zz_rc fS313 rfl rfl (fun h => h) rfl))
        refine zz_callVV [zi 5] zd_14_87_438 zk_Md_459 zT_1079 (zz_ltn hn rfl) rfl rfl ⟨Nat.le_of_ble_eq_true rfl, Nat.le_of_ble_eq_true rfl⟩ ⟨rfl, rfl⟩ (Nat.zero_le _) (Nat.zero_le _) (zc_emit_14_77 5 S318 n hn G_S318 (by omega) (by omega)) (fun S322 hP => ?_)
        obtain ⟨G_S322, fS322, o324⟩ := hP
        have F_S322 := zz_fr.trans F_S318 fS322 rfl zz_nv
        refine zz_aload_n (x := 1079) rfl zd_14_87_441 ?_
        refine zz_dup rfl zd_14_87_442 ?_
        refine zz_geti (z := S 1079 50) zd_14_87_443 zf_Md_450 zT_1079 rfl (zz_ltn hn rfl) (zz_rc fS322 rfl rfl (fun h => h) (zz_rc fS318 rfl rfl (fun h => h) (zz_rc fS313 rfl rfl (fun h => h) (zz_rc fS275 rfl rfl (fun h => h) (zz_rc fS268 rfl rfl (fun h => h) (zz_rc fS259 rfl rfl (fun h => h) rfl)))))) ?_
        refine zz_iconst zd_14_87_446 ?_
        refine zz_iadd zd_14_87_447 ?_
        refine zz_puti zd_14_87_448 zf_Md_450 zT_1079 rfl (zz_ltn hn rfl) (fun S325 qS325 => ?_)
        have G_S325 := zz_G.put G_S322 qS325 (-2147483648) 2147483647 rfl (by omega)
        have F_S325 := zz_fr.puts F_S322 qS325 rfl
        have g326 := zz_G.r G_S322 1079 10 0 1000000 rfl rfl
        have e327 : S325 1079 10 = S322 1079 10 := (zz_ro qS325 (fun h => absurd h.2 (by decide)) rfl)
        exact zz_vret zd_14_87_451 rfl (Nat.zero_le _) (Nat.zero_le _) ⟨_, rfl, G_S325, F_S325, by omega⟩
    · refine zz_iconst zd_14_87_337 ?_
      refine zz_goto zd_14_87_338 ?_
      refine zz_ior (by omega) (by omega) zd_14_87_342 (fun v328 hv328 av328 ev328 => ?_)
      have g329 := zz_G.r G_S 1079 10 0 1000000 rfl rfl
      have e330 : S268 1079 10 = S 1079 10 := (zz_rc fS268 rfl rfl (fun h => h) (zz_rc fS259 rfl rfl (fun h => h) rfl))
      refine zz_callVV [zi v328] zd_14_87_343 zk_Md_459 zT_1079 (zz_ltn hn rfl) rfl rfl ⟨Nat.le_of_ble_eq_true rfl, Nat.le_of_ble_eq_true rfl⟩ ⟨rfl, rfl⟩ (Nat.zero_le _) (Nat.zero_le _) (zc_emit_14_77 v328 S268 n hn G_S268 (by omega) (by omega)) (fun S331 hP => ?_)
      obtain ⟨G_S331, fS331, o333⟩ := hP
      have F_S331 := zz_fr.trans F_S268 fS331 rfl zz_nv
      refine zz_iload_n (x := p0) rfl zd_14_87_346 ?_
      refine zz_iconst zd_14_87_347 ?_
      refine zz_iadd zd_14_87_348 ?_
      refine zz_istore_n [some (.ref 1079), some (zi p0), none, some (zi (p0 + 1))] zd_14_87_349 (by decide) rfl ?_
      refine zz_aload_n (x := 1079) rfl zd_14_87_350 ?_
      refine zz_getr (kd := 0) (z := 1106) zd_14_87_351 zf_Md_100 zT_1079 rfl (zz_ltn hn rfl) (zz_G.eq G_S331 1079 41 1106 rfl rfl) (by decide) 1106 rfl ?_
      refine zz_iload_n (x := p0) rfl zd_14_87_354 ?_
      have g334 := zz_G.r G_S0 1106 p0.toNat 0 2 rfl rfl
      refine zz_iald (z := S0 1106 p0.toNat) zd_14_87_355 zT_1106 rfl (zz_ltn hn rfl) (by decide) (by omega) (zz_rc fS331 (zz_nc1 rfl) rfl (fun h => h) (zz_rc fS268 (zz_nc1 rfl) rfl (fun h => h) (zz_rc fS259 (zz_nc1 rfl) rfl (fun h => h) (zz_rc F_S (zz_nc1 rfl) rfl (fun h => h) rfl)))) ?_
      refine zz_iconst zd_14_87_356 ?_
      refine zz_icmp_ne (by omega) (by omega) zd_14_87_357 (fun c335 => ?_) (fun c335 => ?_)
      · refine zz_aload_n (x := 1079) rfl zd_14_87_367 ?_
        have g336 := zz_G.r G_S0 1079 55 (-2147483648) 2147483647 rfl rfl
        refine zz_geti (z := S0 1079 55) zd_14_87_368 zf_Md_495 zT_1079 rfl (zz_ltn hn rfl) (zz_rc fS331 rfl rfl (fun h => h) (zz_rc fS268 rfl rfl (fun h => h) (zz_rc fS259 rfl rfl (fun h => h) (zz_rc F_S rfl rfl (fun h => h) rfl)))) ?_
        refine zz_aload_n (x := 1079) rfl zd_14_87_371 ?_
        refine zz_getr (kd := 0) (z := 1103) zd_14_87_372 zf_Md_91 zT_1079 rfl (zz_ltn hn rfl) (zz_G.eq G_S331 1079 38 1103 rfl rfl) (by decide) 1103 rfl ?_
        refine zz_iload_n (x := p0 + 1) rfl zd_14_87_375 ?_
        have g337 := zz_G.r G_S0 1103 ((p0 + 1).toNat) 0 63 rfl rfl
        refine zz_iald (z := S0 1103 ((p0 + 1).toNat)) zd_14_87_376 zT_1103 rfl (zz_ltn hn rfl) (by decide) (by omega) (zz_rc fS331 (zz_nc1 rfl) rfl (fun h => h) (zz_rc fS268 (zz_nc1 rfl) rfl (fun h => h) (zz_rc fS259 (zz_nc1 rfl) rfl (fun h => h) (zz_rc F_S (zz_nc1 rfl) rfl (fun h => h) rfl)))) ?_
        refine zz_imul zd_14_87_377 ?_
        refine zz_nrm (fun v338 hv338 ev338 => ?_)
        refine zz_aload_n (x := 1079) rfl zd_14_87_378 ?_
        have g339 := zz_G.r G_S0 1079 54 (-2147483648) 2147483647 rfl rfl
        refine zz_geti (z := S0 1079 54) zd_14_87_379 zf_Md_492 zT_1079 rfl (zz_ltn hn rfl) (zz_rc fS331 rfl rfl (fun h => h) (zz_rc fS268 rfl rfl (fun h => h) (zz_rc fS259 rfl rfl (fun h => h) (zz_rc F_S rfl rfl (fun h => h) rfl)))) ?_
        refine zz_iadd zd_14_87_382 ?_
        refine zz_nrm (fun v340 hv340 ev340 => ?_)
        refine zz_istore [some (.ref 1079), some (zi p0), none, some (zi (p0 + 1)), some (zi v340)] zd_14_87_383 (by decide) rfl ?_
        refine zz_aload_n (x := 1079) rfl zd_14_87_385 ?_
        refine zz_bipush (by decide) zd_14_87_386 ?_
        refine zz_aload_n (x := 1079) rfl zd_14_87_388 ?_
        refine zz_getr (kd := 0) (z := 1105) zd_14_87_389 zf_Md_97 zT_1079 rfl (zz_ltn hn rfl) (zz_G.eq G_S331 1079 40 1105 rfl rfl) (by decide) 1105 rfl ?_
        refine zz_iload_n (x := p0 + 1) rfl zd_14_87_392 ?_
        have g341 := zz_G.r G_S0 1105 ((p0 + 1).toNat) (0) (if (p0 + 1).toNat = 0 then 0 else 10000000) rfl rfl
        refine zz_iald (z := S0 1105 ((p0 + 1).toNat)) zd_14_87_393 zT_1105 rfl (zz_ltn hn rfl) (by decide) (by omega) (zz_rc fS331 (zz_nc1 rfl) rfl (fun h => h) (zz_rc fS268 (zz_nc1 rfl) rfl (fun h => h) (zz_rc fS259 (zz_nc1 rfl) rfl (fun h => h) (zz_rc F_S (zz_nc1 rfl) rfl (fun h => h) rfl)))) ?_
        refine zz_iload (x := v340) rfl zd_14_87_394 ?_
        refine zz_aload_n (x := 1079) rfl zd_14_87_396 ?_
        refine zz_getr (kd := 0) (z := 1104) zd_14_87_397 zf_Md_94 zT_1079 rfl (zz_ltn hn rfl) (zz_G.eq G_S331 1079 39 1104 rfl rfl) (by decide) 1104 rfl ?_
        refine zz_iload_n (x := p0 + 1) rfl zd_14_87_400 ?_
        have g342 := zz_G.r G_S0 1104 ((p0 + 1).toNat) 0 63 rfl rfl
        refine zz_iald (z := S0 1104 ((p0 + 1).toNat)) zd_14_87_401 zT_1104 rfl (zz_ltn hn rfl) (by decide) (by omega) (zz_rc fS331 (zz_nc1 rfl) rfl (fun h => h) (zz_rc fS268 (zz_nc1 rfl) rfl (fun h => h) (zz_rc fS259 (zz_nc1 rfl) rfl (fun h => h) (zz_rc F_S (zz_nc1 rfl) rfl (fun h => h) rfl)))) ?_
        refine zz_imul zd_14_87_402 ?_
        refine zz_nrm (fun v343 hv343 ev343 => ?_)
        refine zz_iadd zd_14_87_403 ?_
        refine zz_nrm (fun v344 hv344 ev344 => ?_)
        refine zz_aload_n (x := 1079) rfl zd_14_87_404 ?_
        have g345 := zz_G.r G_S0 1079 56 (-2147483648) 2147483647 rfl rfl
        refine zz_geti (z := S0 1079 56) zd_14_87_405 zf_Md_466 zT_1079 rfl (zz_ltn hn rfl) (zz_rc fS331 rfl rfl (fun h => h) (zz_rc fS268 rfl rfl (fun h => h) (zz_rc fS259 rfl rfl (fun h => h) (zz_rc F_S rfl rfl (fun h => h) rfl)))) ?_
        refine zz_iadd zd_14_87_408 ?_
        refine zz_nrm (fun v346 hv346 ev346 => ?_)
        refine zz_aload_n (x := 1079) rfl zd_14_87_409 ?_
        refine zz_geti (z := S0 1079 52) zd_14_87_410 zf_Md_469 zT_1079 rfl (zz_ltn hn rfl) (zz_rc fS331 rfl rfl (fun h => h) (zz_rc fS268 rfl rfl (fun h => h) (zz_rc fS259 rfl rfl (fun h => h) (zz_rc F_S rfl rfl (fun h => h) rfl)))) ?_
        refine zz_aload_n (x := 1079) rfl zd_14_87_413 ?_
        refine zz_geti (z := S0 1079 53) zd_14_87_414 zf_Md_472 zT_1079 rfl (zz_ltn hn rfl) (zz_rc fS331 rfl rfl (fun h => h) (zz_rc fS268 rfl rfl (fun h => h) (zz_rc fS259 rfl rfl (fun h => h) (zz_rc F_S rfl rfl (fun h => h) rfl)))) ?_
        refine zz_callVV [zi 8, zi v346, zi (S0 1079 52), zi (S0 1079 53)] zd_14_87_417 zk_Md_475 zT_1079 (zz_ltn hn rfl) rfl rfl ⟨Nat.le_of_ble_eq_true rfl, Nat.le_of_ble_eq_true rfl⟩ ⟨rfl, rfl⟩ (Nat.zero_le _) (Nat.zero_le _) (zc_set_14_78 8 v346 (S0 1079 52) (S0 1079 53) S331 n hn G_S331 (by omega) (by omega) (by omega) (by omega)) (fun S347 hP => ?_)
        obtain ⟨G_S347, fS347⟩ := hP
        have F_S347 := zz_fr.trans F_S331 fS347 rfl zz_nv
        refine zz_aload_n (x := 1079) rfl zd_14_87_420 ?_
        refine zz_aload_n (x := 1079) rfl zd_14_87_421 ?_
        refine zz_callVI [] zd_14_87_422 zk_Md_479 zT_1079 (zz_ltn hn rfl) rfl rfl ⟨Nat.le_of_ble_eq_true rfl, Nat.le_of_ble_eq_true rfl⟩ ⟨rfl, rfl⟩ (Nat.zero_le _) (Nat.zero_le _) (zc_quarter_14_81  S347 n hn G_S347 ) (fun v350 S349 hP => ?_)
        obtain ⟨rfl, o351⟩ := hP
        refine zz_iconst zd_14_87_425 ?_
        refine zz_aload_n (x := 1079) rfl zd_14_87_426 ?_
        refine zz_getr (kd := 0) (z := 1104) zd_14_87_427 zf_Md_94 zT_1079 rfl (zz_ltn hn rfl) (zz_G.eq G_S347 1079 39 1104 rfl rfl) (by decide) 1104 rfl ?_
        refine zz_iload_n (x := p0 + 1) rfl zd_14_87_430 ?_
        refine zz_iald (z := S0 1104 ((p0 + 1).toNat)) zd_14_87_431 zT_1104 rfl (zz_ltn hn rfl) (by decide) (by omega) (zz_rc fS347 (zz_nc1 rfl) rfl (fun h => h) (zz_rc fS331 (zz_nc1 rfl) rfl (fun h => h) (zz_rc fS268 (zz_nc1 rfl) rfl (fun h => h) (zz_rc fS259 (zz_nc1 rfl) rfl (fun h => h) (zz_rc F_S (zz_nc1 rfl) rfl (fun h => h) rfl))))) ?_
        refine zz_iconst zd_14_87_432 ?_
        refine zz_callVV [zi v350, zi 0, zi (S0 1104 ((p0 + 1).toNat)), zi 0] zd_14_87_433 zk_Md_482 zT_1079 (zz_ltn hn rfl) rfl rfl ⟨Nat.le_of_ble_eq_true rfl, Nat.le_of_ble_eq_true rfl⟩ ⟨rfl, rfl⟩ (Nat.zero_le _) (Nat.zero_le _) (zc_with_14_79 v350 0 (S0 1104 ((p0 + 1).toNat)) 0 S347 n hn G_S347 (by omega) (by omega) (by omega) (by omega)) (fun S352 hP => ?_)
        obtain ⟨G_S352, fS352⟩ := hP
        have F_S352 := zz_fr.trans F_S347 fS352 rfl zz_nv
        refine zz_aload_n (x := 1079) rfl zd_14_87_436 ?_
        refine zz_iconst zd_14_87_437 ?_
        have g354 := zz_G.r G_S331 1079 10 0 1000000 rfl rfl
        have e355 : S352 1079 10 = S331 1079 10 := (zz_rc fS352 rfl rfl (fun h => h) (zz_rc fS347 rfl rfl (fun h => h) rfl))
        refine zz_callVV [zi 5] zd_14_87_438 zk_Md_459 zT_1079 (zz_ltn hn rfl) rfl rfl ⟨Nat.le_of_ble_eq_true rfl, Nat.le_of_ble_eq_true rfl⟩ ⟨rfl, rfl⟩ (Nat.zero_le _) (Nat.zero_le _) (zc_emit_14_77 5 S352 n hn G_S352 (by omega) (by omega)) (fun S356 hP => ?_)
        obtain ⟨G_S356, fS356, o358⟩ := hP
        have F_S356 := zz_fr.trans F_S352 fS356 rfl zz_nv
        refine zz_aload_n (x := 1079) rfl zd_14_87_441 ?_
        refine zz_dup rfl zd_14_87_442 ?_
        refine zz_geti (z := S 1079 50) zd_14_87_443 zf_Md_450 zT_1079 rfl (zz_ltn hn rfl) (zz_rc fS356 rfl rfl (fun h => h) (zz_rc fS352 rfl rfl (fun h => h) (zz_rc fS347 rfl rfl (fun h => h) (zz_rc fS331 rfl rfl (fun h => h) (zz_rc fS268 rfl rfl (fun h => h) (zz_rc fS259 rfl rfl (fun h => h) rfl)))))) ?_
        refine zz_iconst zd_14_87_446 ?_
        refine zz_iadd zd_14_87_447 ?_
        refine zz_nrm (fun v359 hv359 ev359 => ?_)
        refine zz_puti zd_14_87_448 zf_Md_450 zT_1079 rfl (zz_ltn hn rfl) (fun S360 qS360 => ?_)
        have G_S360 := zz_G.put G_S356 qS360 (-2147483648) 2147483647 rfl (by omega)
        have F_S360 := zz_fr.puts F_S356 qS360 rfl
        have g361 := zz_G.r G_S356 1079 10 0 1000000 rfl rfl
        have e362 : S360 1079 10 = S356 1079 10 := (zz_ro qS360 (fun h => absurd h.2 (by decide)) rfl)
        exact zz_vret zd_14_87_451 rfl (Nat.zero_le _) (Nat.zero_le _) ⟨_, rfl, G_S360, F_S360, by omega⟩
      · refine zz_aload_n (x := 1079) rfl zd_14_87_360 ?_
        have g363 := zz_G.r G_S0 1079 54 (-2147483648) 2147483647 rfl rfl
        refine zz_geti (z := S0 1079 54) zd_14_87_361 zf_Md_492 zT_1079 rfl (zz_ltn hn rfl) (zz_rc fS331 rfl rfl (fun h => h) (zz_rc fS268 rfl rfl (fun h => h) (zz_rc fS259 rfl rfl (fun h => h) (zz_rc F_S rfl rfl (fun h => h) rfl)))) ?_
        refine zz_goto zd_14_87_364 ?_
        refine zz_istore [some (.ref 1079), some (zi p0), none, some (zi (p0 + 1)), some (zi (S0 1079 54))] zd_14_87_383 (by decide) rfl ?_
        refine zz_aload_n (x := 1079) rfl zd_14_87_385 ?_
        refine zz_bipush (by decide) zd_14_87_386 ?_
        refine zz_aload_n (x := 1079) rfl zd_14_87_388 ?_
        refine zz_getr (kd := 0) (z := 1105) zd_14_87_389 zf_Md_97 zT_1079 rfl (zz_ltn hn rfl) (zz_G.eq G_S331 1079 40 1105 rfl rfl) (by decide) 1105 rfl ?_
        refine zz_iload_n (x := p0 + 1) rfl zd_14_87_392 ?_
        have g364 := zz_G.r G_S0 1105 ((p0 + 1).toNat) (0) (if (p0 + 1).toNat = 0 then 0 else 10000000) rfl rfl
        refine zz_iald (z := S0 1105 ((p0 + 1).toNat)) zd_14_87_393 zT_1105 rfl (zz_ltn hn rfl) (by decide) (by omega) (zz_rc fS331 (zz_nc1 rfl) rfl (fun h => h) (zz_rc fS268 (zz_nc1 rfl) rfl (fun h => h) (zz_rc fS259 (zz_nc1 rfl) rfl (fun h => h) (zz_rc F_S (zz_nc1 rfl) rfl (fun h => h) rfl)))) ?_
        refine zz_iload (x := S0 1079 54) rfl zd_14_87_394 ?_
        refine zz_aload_n (x := 1079) rfl zd_14_87_396 ?_
        refine zz_getr (kd := 0) (z := 1104) zd_14_87_397 zf_Md_94 zT_1079 rfl (zz_ltn hn rfl) (zz_G.eq G_S331 1079 39 1104 rfl rfl) (by decide) 1104 rfl ?_
        refine zz_iload_n (x := p0 + 1) rfl zd_14_87_400 ?_
        have g365 := zz_G.r G_S0 1104 ((p0 + 1).toNat) 0 63 rfl rfl
        refine zz_iald (z := S0 1104 ((p0 + 1).toNat)) zd_14_87_401 zT_1104 rfl (zz_ltn hn rfl) (by decide) (by omega) (zz_rc fS331 (zz_nc1 rfl) rfl (fun h => h) (zz_rc fS268 (zz_nc1 rfl) rfl (fun h => h) (zz_rc fS259 (zz_nc1 rfl) rfl (fun h => h) (zz_rc F_S (zz_nc1 rfl) rfl (fun h => h) rfl)))) ?_
        refine zz_imul zd_14_87_402 ?_
        refine zz_nrm (fun v366 hv366 ev366 => ?_)
        refine zz_iadd zd_14_87_403 ?_
        refine zz_nrm (fun v367 hv367 ev367 => ?_)
        refine zz_aload_n (x := 1079) rfl zd_14_87_404 ?_
        have g368 := zz_G.r G_S0 1079 56 (-2147483648) 2147483647 rfl rfl
        refine zz_geti (z := S0 1079 56) zd_14_87_405 zf_Md_466 zT_1079 rfl (zz_ltn hn rfl) (zz_rc fS331 rfl rfl (fun h => h) (zz_rc fS268 rfl rfl (fun h => h) (zz_rc fS259 rfl rfl (fun h => h) (zz_rc F_S rfl rfl (fun h => h) rfl)))) ?_
        refine zz_iadd zd_14_87_408 ?_
        refine zz_nrm (fun v369 hv369 ev369 => ?_)
        refine zz_aload_n (x := 1079) rfl zd_14_87_409 ?_
        refine zz_geti (z := S0 1079 52) zd_14_87_410 zf_Md_469 zT_1079 rfl (zz_ltn hn rfl) (zz_rc fS331 rfl rfl (fun h => h) (zz_rc fS268 rfl rfl (fun h => h) (zz_rc fS259 rfl rfl (fun h => h) (zz_rc F_S rfl rfl (fun h => h) rfl)))) ?_
        refine zz_aload_n (x := 1079) rfl zd_14_87_413 ?_
        refine zz_geti (z := S0 1079 53) zd_14_87_414 zf_Md_472 zT_1079 rfl (zz_ltn hn rfl) (zz_rc fS331 rfl rfl (fun h => h) (zz_rc fS268 rfl rfl (fun h => h) (zz_rc fS259 rfl rfl (fun h => h) (zz_rc F_S rfl rfl (fun h => h) rfl)))) ?_
        refine zz_callVV [zi 8, zi v369, zi (S0 1079 52), zi (S0 1079 53)] zd_14_87_417 zk_Md_475 zT_1079 (zz_ltn hn rfl) rfl rfl ⟨Nat.le_of_ble_eq_true rfl, Nat.le_of_ble_eq_true rfl⟩ ⟨rfl, rfl⟩ (Nat.zero_le _) (Nat.zero_le _) (zc_set_14_78 8 v369 (S0 1079 52) (S0 1079 53) S331 n hn G_S331 (by omega) (by omega) (by omega) (by omega)) (fun S370 hP => ?_)
        obtain ⟨G_S370, fS370⟩ := hP
        have F_S370 := zz_fr.trans F_S331 fS370 rfl zz_nv
        refine zz_aload_n (x := 1079) rfl zd_14_87_420 ?_
        refine zz_aload_n (x := 1079) rfl zd_14_87_421 ?_
        refine zz_callVI [] zd_14_87_422 zk_Md_479 zT_1079 (zz_ltn hn rfl) rfl rfl ⟨Nat.le_of_ble_eq_true rfl, Nat.le_of_ble_eq_true rfl⟩ ⟨rfl, rfl⟩ (Nat.zero_le _) (Nat.zero_le _) (zc_quarter_14_81  S370 n hn G_S370 ) (fun v373 S372 hP => ?_)
        obtain ⟨rfl, o374⟩ := hP
        refine zz_iconst zd_14_87_425 ?_
        refine zz_aload_n (x := 1079) rfl zd_14_87_426 ?_
        refine zz_getr (kd := 0) (z := 1104) zd_14_87_427 zf_Md_94 zT_1079 rfl (zz_ltn hn rfl) (zz_G.eq G_S370 1079 39 1104 rfl rfl) (by decide) 1104 rfl ?_
        refine zz_iload_n (x := p0 + 1) rfl zd_14_87_430 ?_
        refine zz_iald (z := S0 1104 ((p0 + 1).toNat)) zd_14_87_431 zT_1104 rfl (zz_ltn hn rfl) (by decide) (by omega) (zz_rc fS370 (zz_nc1 rfl) rfl (fun h => h) (zz_rc fS331 (zz_nc1 rfl) rfl (fun h => h) (zz_rc fS268 (zz_nc1 rfl) rfl (fun h => h) (zz_rc fS259 (zz_nc1 rfl) rfl (fun h => h) (zz_rc F_S (zz_nc1 rfl) rfl (fun h => h) rfl))))) ?_
        refine zz_iconst zd_14_87_432 ?_
        refine zz_callVV [zi v373, zi 0, zi (S0 1104 ((p0 + 1).toNat)), zi 0] zd_14_87_433 zk_Md_482 zT_1079 (zz_ltn hn rfl) rfl rfl ⟨Nat.le_of_ble_eq_true rfl, Nat.le_of_ble_eq_true rfl⟩ ⟨rfl, rfl⟩ (Nat.zero_le _) (Nat.zero_le _) (zc_with_14_79 v373 0 (S0 1104 ((p0 + 1).toNat)) 0 S370 n hn G_S370 (by omega) (by omega) (by omega) (by omega)) (fun S375 hP => ?_)
        obtain ⟨G_S375, fS375⟩ := hP
        have F_S375 := zz_fr.trans F_S370 fS375 rfl zz_nv
        refine zz_aload_n (x := 1079) rfl zd_14_87_436 ?_
        refine zz_iconst zd_14_87_437 ?_
        have g377 := zz_G.r G_S331 1079 10 0 1000000 rfl rfl
        have e378 : S375 1079 10 = S331 1079 10 := (zz_rc fS375 rfl rfl (fun h => h) (zz_rc fS370 rfl rfl (fun h => h) rfl))
        refine zz_callVV [zi 5] zd_14_87_438 zk_Md_459 zT_1079 (zz_ltn hn rfl) rfl rfl ⟨Nat.le_of_ble_eq_true rfl, Nat.le_of_ble_eq_true rfl⟩ ⟨rfl, rfl⟩ (Nat.zero_le _) (Nat.zero_le _) (zc_emit_14_77 5 S375 n hn G_S375 (by omega) (by omega)) (fun S379 hP => ?_)
        obtain ⟨G_S379, fS379, o381⟩ := hP
        have F_S379 := zz_fr.trans F_S375 fS379 rfl zz_nv
        refine zz_aload_n (x := 1079) rfl zd_14_87_441 ?_
        refine zz_dup rfl zd_14_87_442 ?_
        refine zz_geti (z := S 1079 50) zd_14_87_443 zf_Md_450 zT_1079 rfl (zz_ltn hn rfl) (zz_rc fS379 rfl rfl (fun h => h) (zz_rc fS375 rfl rfl (fun h => h) (zz_rc fS370 rfl rfl (fun h => h) (zz_rc fS331 rfl rfl (fun h => h) (zz_rc fS268 rfl rfl (fun h => h) (zz_rc fS259 rfl rfl (fun h => h) rfl)))))) ?_
        refine zz_iconst zd_14_87_446 ?_
        refine zz_iadd zd_14_87_447 ?_
        refine zz_nrm (fun v382 hv382 ev382 => ?_)
        refine zz_puti zd_14_87_448 zf_Md_450 zT_1079 rfl (zz_ltn hn rfl) (fun S383 qS383 => ?_)
        have G_S383 := zz_G.put G_S379 qS383 (-2147483648) 2147483647 rfl (by omega)
        have F_S383 := zz_fr.puts F_S379 qS383 rfl
        have g384 := zz_G.r G_S379 1079 10 0 1000000 rfl rfl
        have e385 : S383 1079 10 = S379 1079 10 := (zz_ro qS383 (fun h => absurd h.2 (by decide)) rfl)
        exact zz_vret zd_14_87_451 rfl (Nat.zero_le _) (Nat.zero_le _) ⟨_, rfl, G_S383, F_S383, by omega⟩
  · refine zz_aload_n (x := 1079) rfl zd_14_87_24 ?_
    refine zz_iload_n (x := p0) rfl zd_14_87_25 ?_
    refine zz_iload_n (x := x3) rfl zd_14_87_26 ?_
    refine zz_iconst zd_14_87_27 ?_
    refine zz_aload_n (x := 1079) rfl zd_14_87_28 ?_
    have g386 := zz_G.r G_S0 1079 56 (-2147483648) 2147483647 rfl rfl
    refine zz_geti (z := S0 1079 56) zd_14_87_29 zf_Md_466 zT_1079 rfl (zz_ltn hn rfl) (zz_rc F_S rfl rfl (fun h => h) rfl) ?_
    refine zz_aload_n (x := 1079) rfl zd_14_87_32 ?_
    have g387 := zz_G.r G_S0 1079 53 (-2147483648) 2147483647 rfl rfl
    refine zz_geti (z := S0 1079 53) zd_14_87_33 zf_Md_472 zT_1079 rfl (zz_ltn hn rfl) (zz_rc F_S rfl rfl (fun h => h) rfl) ?_
    refine zz_iload_n (x := x3) rfl zd_14_87_36 ?_
    refine zz_if_ne (by omega) zd_14_87_37 (fun c388 => ?_) (fun c388 => ?_)
    · refine zz_iconst zd_14_87_44 ?_
      have g389 := zz_G.r G_S 1079 10 0 1000000 rfl rfl
      refine zz_callVV [zi p0, zi x3, zi 0, zi (S0 1079 56), zi (S0 1079 53), zi 0] zd_14_87_45 zk_Md_498 zT_1079 (zz_ltn hn rfl) rfl rfl ⟨Nat.le_of_ble_eq_true rfl, Nat.le_of_ble_eq_true rfl⟩ ⟨rfl, rfl⟩ (Nat.zero_le _) (Nat.zero_le _) (zc_group_14_83 p0 x3 0 (S0 1079 56) (S0 1079 53) 0 S n hn G_S (by omega) (by omega) (by omega) (by omega) (by omega) (by omega) (by omega)) (fun S390 hP => ?_)
      obtain ⟨G_S390, fS390, o392⟩ := hP
      have F_S390 := zz_fr.trans F_S fS390 rfl zz_nv
      refine zz_aload_n (x := 1079) rfl zd_14_87_48 ?_
      refine zz_iload_n (x := p0) rfl zd_14_87_49 ?_
      refine zz_aload_n (x := 1079) rfl zd_14_87_50 ?_
      refine zz_geti (z := S0 1079 53) zd_14_87_51 zf_Md_472 zT_1079 rfl (zz_ltn hn rfl) (zz_rc fS390 rfl rfl (fun h => h) (zz_rc F_S rfl rfl (fun h => h) rfl)) ?_
      refine zz_iload_n (x := x3) rfl zd_14_87_54 ?_
      refine zz_if_ne (by omega) zd_14_87_55 (fun c393 => ?_) (fun c393 => ?_)
      · refine zz_iconst zd_14_87_62 ?_
        refine zz_iload_n (x := x3) rfl zd_14_87_63 ?_
        refine zz_iconst zd_14_87_64 ?_
        refine zz_icmp_ne (by omega) (by omega) zd_14_87_65 (fun c394 => ?_) (fun c394 => ?_)
        · exfalso; omega
        · refine zz_iconst zd_14_87_68 ?_
          refine zz_goto zd_14_87_69 ?_
          have g395 := zz_G.r G_S390 1079 10 0 1000000 rfl rfl
          refine zz_callVV [zi p0, zi (S0 1079 53), zi 0, zi 1] zd_14_87_73 zk_Md_502 zT_1079 (zz_ltn hn rfl) rfl rfl ⟨Nat.le_of_ble_eq_true rfl, Nat.le_of_ble_eq_true rfl⟩ ⟨rfl, rfl⟩ (Nat.zero_le _) (Nat.zero_le _) (zc_works_14_86 p0 (S0 1079 53) 0 1 S390 n hn G_S390 (by omega) (by omega) (by omega) (by omega) (by omega)) (fun S396 hP => ?_)
          obtain ⟨G_S396, fS396, o398⟩ := hP
          have F_S396 := zz_fr.trans F_S390 fS396 rfl zz_nv
          refine zz_iinc [some (.ref 1079), some (zi p0), none, some (zi (x3 + 1))] zd_14_87_76 rfl rfl ?_
          refine zz_goto zd_14_87_79 ?_
          have g399 := zz_G.r G_S396 1079 10 0 1000000 rfl rfl
          refine zz_less (ls1 := [some (.ref 1079), some (zi p0), none, some (zi (x3 + 1))]) ⟨rfl, ⟨rfl, ⟨rfl, trivial⟩⟩⟩ ?_
          exact k19 (x3 + 1) S396 G_S396 F_S396 (by omega) (by omega) (by omega) (by omega)
      · exfalso; omega
    · refine zz_iconst zd_14_87_40 ?_
      refine zz_goto zd_14_87_41 ?_
      have g400 := zz_G.r G_S 1079 10 0 1000000 rfl rfl
      refine zz_callVV [zi p0, zi x3, zi 0, zi (S0 1079 56), zi (S0 1079 53), zi 1] zd_14_87_45 zk_Md_498 zT_1079 (zz_ltn hn rfl) rfl rfl ⟨Nat.le_of_ble_eq_true rfl, Nat.le_of_ble_eq_true rfl⟩ ⟨rfl, rfl⟩ (Nat.zero_le _) (Nat.zero_le _) (zc_group_14_83 p0 x3 0 (S0 1079 56) (S0 1079 53) 1 S n hn G_S (by omega) (by omega) (by omega) (by omega) (by omega) (by omega) (by omega)) (fun S401 hP => ?_)
      obtain ⟨G_S401, fS401, o403⟩ := hP
      have F_S401 := zz_fr.trans F_S fS401 rfl zz_nv
      refine zz_aload_n (x := 1079) rfl zd_14_87_48 ?_
      refine zz_iload_n (x := p0) rfl zd_14_87_49 ?_
      refine zz_aload_n (x := 1079) rfl zd_14_87_50 ?_
      refine zz_geti (z := S0 1079 53) zd_14_87_51 zf_Md_472 zT_1079 rfl (zz_ltn hn rfl) (zz_rc fS401 rfl rfl (fun h => h) (zz_rc F_S rfl rfl (fun h => h) rfl)) ?_
      refine zz_iload_n (x := x3) rfl zd_14_87_54 ?_
      refine zz_if_ne (by omega) zd_14_87_55 (fun c404 => ?_) (fun c404 => ?_)
      · exfalso; omega
      · refine zz_iconst zd_14_87_58 ?_
        refine zz_goto zd_14_87_59 ?_
        refine zz_iload_n (x := x3) rfl zd_14_87_63 ?_
        refine zz_iconst zd_14_87_64 ?_
        refine zz_icmp_ne (by omega) (by omega) zd_14_87_65 (fun c405 => ?_) (fun c405 => ?_)
        · refine zz_iconst zd_14_87_72 ?_
          have g406 := zz_G.r G_S401 1079 10 0 1000000 rfl rfl
          refine zz_callVV [zi p0, zi (S0 1079 53), zi 1, zi 0] zd_14_87_73 zk_Md_502 zT_1079 (zz_ltn hn rfl) rfl rfl ⟨Nat.le_of_ble_eq_true rfl, Nat.le_of_ble_eq_true rfl⟩ ⟨rfl, rfl⟩ (Nat.zero_le _) (Nat.zero_le _) (zc_works_14_86 p0 (S0 1079 53) 1 0 S401 n hn G_S401 (by omega) (by omega) (by omega) (by omega) (by omega)) (fun S407 hP => ?_)
          obtain ⟨G_S407, fS407, o409⟩ := hP
          have F_S407 := zz_fr.trans F_S401 fS407 rfl zz_nv
          refine zz_iinc [some (.ref 1079), some (zi p0), none, some (zi (x3 + 1))] zd_14_87_76 rfl rfl ?_
          refine zz_goto zd_14_87_79 ?_
          have g410 := zz_G.r G_S407 1079 10 0 1000000 rfl rfl
          refine zz_less (ls1 := [some (.ref 1079), some (zi p0), none, some (zi (x3 + 1))]) ⟨rfl, ⟨rfl, ⟨rfl, trivial⟩⟩⟩ ?_
          exact k19 (x3 + 1) S407 G_S407 F_S407 (by omega) (by omega) (by omega) (by omega)
        · exfalso; omega
theorem zb_tile_14_87_147 {g : mm_G} {l : Launch} (p0 : Int) (S0 : zz_S) (n : Nat) (hn : zz_end ≤ n) (G_S0 : zz_G S0) (hp0 : 0 ≤ p0 ∧ p0 ≤ 9) (hq : S0 1079 10 ≤ 600) (x3 : Int) (x5 : Int) (x6 : Int) (S : zz_S) (G_S : zz_G S) (F_S : zz_fr [(1079, 10), (1079, 50), (1079, 51), (1079, 57), (1079, 60)] [1086, 1087] (fun _ _ => False) S0 S) (i147_0 : 0 ≤ x3 ∧ x3 ≤ 1) (i147_1 : 0 ≤ x5 ∧ x5 ≤ 35) (i147_2 : 0 ≤ x6 ∧ x6 ≤ 2147483647) (i147_3 : S0 1106 p0.toNat ≠ 2) (i147_4 : S0 1079 10 ≤ S 1079 10 ∧ S 1079 10 ≤ S0 1079 10 + 6 * x6) (i147_5 : x4 = (S0 1109 p0.toNat) * (S0 1110 p0.toNat)) (R : Nat) (hR : (17179869184 + (400 - x6).toNat) = R) (k147 : ∀ (x3 : Int) (x5 : Int) (x6 : Int) (S : zz_S), zz_G S → zz_fr [(1079, 10), (1079, 50), (1079, 51), (1079, 57), (1079, 60)] [1086, 1087] (fun _ _ => False) S0 S → (0 ≤ x3 ∧ x3 ≤ 1) → (0 ≤ x5 ∧ x5 ≤ 35) → (0 ≤ x6 ∧ x6 ≤ 2147483647) → (S0 1106 p0.toNat ≠ 2) → (S0 1079 10 ≤ S 1079 10 ∧ S 1079 10 ≤ S0 1079 10 + 6 * x6) → (x4 = (S0 1109 p0.toNat) * (S0 1110 p0.toNat)) → (17179869184 + (400 - x6).toNat) < R → zz_E g l zy_tile_14_87 zr_tile_14_87 (zz_QV n (zp_tile_14_87 p0 S0)) S n 147 [some (.ref 1079), some (zi p0), some (zi (S0 1107 p0.toNat)), some (zi x3), some (zi ((S0 1109 p0.toNat) * (S0 1110 p0.toNat))), some (zi x5), some (zi x6)] [] 0 0) : zz_E g l zy_tile_14_87 zr_tile_14_87 (zz_QV n (zp_tile_14_87 p0 S0)) S n 147 [some (.ref 1079), some (zi p0), some (zi (S0 1107 p0.toNat)), some (zi x3), some (zi ((S0 1109 p0.toNat) * (S0 1110 p0.toNat))), some (zi x5), some (zi x6)] [] 0 0 := by
  refine zz_iload (x := x6) rfl zd_14_87_147 ?_
  refine zz_iload (x := (S0 1109 p0.toNat) * (S0 1110 p0.toNat)) rfl zd_14_87_149 ?_
  refine zz_iload (x := x5) rfl zd_14_87_151 ?_
  refine zz_imul zd_14_87_153 ?_
  refine zz_nrm (fun v21 hv21 ev21 => ?_)
  refine zz_icmp_ge (by omega) (by omega) zd_14_87_154 (fun c22 => ?_) (fun c22 => ?_)
  · refine zz_aload_n (x := 1079) rfl zd_14_87_292 ?_
    refine zz_bipush (by decide) zd_14_87_293 ?_
    refine zz_iconst zd_14_87_295 ?_
    refine zz_aload_n (x := 1079) rfl zd_14_87_296 ?_
    have g23 := zz_G.r G_S0 1079 52 (-2147483648) 2147483647 rfl rfl
    refine zz_geti (z := S0 1079 52) zd_14_87_297 zf_Md_469 zT_1079 rfl (zz_ltn hn rfl) (zz_rc F_S rfl rfl (fun h => h) rfl) ?_
    refine zz_aload_n (x := 1079) rfl zd_14_87_300 ?_
    have g24 := zz_G.r G_S0 1079 53 (-2147483648) 2147483647 rfl rfl
    refine zz_geti (z := S0 1079 53) zd_14_87_301 zf_Md_472 zT_1079 rfl (zz_ltn hn rfl) (zz_rc F_S rfl rfl (fun h => h) rfl) ?_
    refine zz_callVV [zi 7, zi 0, zi (S0 1079 52), zi (S0 1079 53)] zd_14_87_304 zk_Md_475 zT_1079 (zz_ltn hn rfl) rfl rfl ⟨Nat.le_of_ble_eq_true rfl, Nat.le_of_ble_eq_true rfl⟩ ⟨rfl, rfl⟩ (Nat.zero_le _) (Nat.zero_le _) (zc_set_14_78 7 0 (S0 1079 52) (S0 1079 53) S n hn G_S (by omega) (by omega) (by omega) (by omega)) (fun S25 hP => ?_)
    obtain ⟨G_S25, fS25⟩ := hP
    have F_S25 := zz_fr.trans F_S fS25 rfl zz_nv
    refine zz_aload_n (x := 1079) rfl zd_14_87_307 ?_
    refine zz_aload_n (x := 1079) rfl zd_14_87_308 ?_
    refine zz_callVI [] zd_14_87_309 zk_Md_479 zT_1079 (zz_ltn hn rfl) rfl rfl ⟨Nat.le_of_ble_eq_true rfl, Nat.le_of_ble_eq_true rfl⟩ ⟨rfl, rfl⟩ (Nat.zero_le _) (Nat.zero_le _) (zc_quarter_14_81  S25 n hn G_S25 ) (fun v28 S27 hP => ?_)
    obtain ⟨rfl, o29⟩ := hP
    refine zz_aload_n (x := 1079) rfl zd_14_87_312 ?_
    refine zz_callVI [] zd_14_87_313 zk_Md_479 zT_1079 (zz_ltn hn rfl) rfl rfl ⟨Nat.le_of_ble_eq_true rfl, Nat.le_of_ble_eq_true rfl⟩ ⟨rfl, rfl⟩ (Nat.zero_le _) (Nat.zero_le _) (zc_quarter_14_81  S25 n hn G_S25 ) (fun v31 S30 hP => ?_)
    obtain ⟨rfl, o32⟩ := hP
    refine zz_iconst zd_14_87_316 ?_
    refine zz_aload_n (x := 1079) rfl zd_14_87_317 ?_
    refine zz_getr (kd := 0) (z := 1113) zd_14_87_318 zf_Md_121 zT_1079 rfl (zz_ltn hn rfl) (zz_G.eq G_S25 1079 48 1113 rfl rfl) (by decide) 1113 rfl ?_
    refine zz_iload_n (x := p0) rfl zd_14_87_321 ?_
    have g33 := zz_G.r G_S0 1113 p0.toNat 0 31 rfl rfl
    refine zz_iald (z := S0 1113 p0.toNat) zd_14_87_322 zT_1113 rfl (zz_ltn hn rfl) (by decide) (by omega) (zz_rc fS25 (zz_nc1 rfl) rfl (fun h => h) (zz_rc F_S (zz_nc1 rfl) rfl (fun h => h) rfl)) ?_
    refine zz_callVV [zi v28, zi v31, zi 0, zi (S0 1113 p0.toNat)] zd_14_87_323 zk_Md_482 zT_1079 (zz_ltn hn rfl) rfl rfl ⟨Nat.le_of_ble_eq_true rfl, Nat.le_of_ble_eq_true rfl⟩ ⟨rfl, rfl⟩ (Nat.zero_le _) (Nat.zero_le _) (zc_with_14_79 v28 v31 0 (S0 1113 p0.toNat) S25 n hn G_S25 (by omega) (by omega) (by omega) (by omega)) (fun S34 hP => ?_)
    obtain ⟨G_S34, fS34⟩ := hP
    have F_S34 := zz_fr.trans F_S25 fS34 rfl zz_nv
    refine zz_aload_n (x := 1079) rfl zd_14_87_326 ?_
    refine zz_bipush (by decide) zd_14_87_327 ?_
    refine zz_aload_n (x := 1079) rfl zd_14_87_329 ?_
    have g36 := zz_G.r G_S 1079 50 (-2147483648) 2147483647 rfl rfl
    refine zz_geti (z := S 1079 50) zd_14_87_330 zf_Md_450 zT_1079 rfl (zz_ltn hn rfl) (zz_rc fS34 rfl rfl (fun h => h) (zz_rc fS25 rfl rfl (fun h => h) rfl)) ?_
    refine zz_iconst zd_14_87_333 ?_
    refine zz_icmp_le (by omega) (by omega) zd_14_87_334 (fun c37 => ?_) (fun c37 => ?_)
    · refine zz_iconst zd_14_87_341 ?_
      refine zz_ior (by omega) (by omega) zd_14_87_342 (fun v38 hv38 av38 ev38 => ?_)
      have g39 := zz_G.r G_S 1079 10 0 1000000 rfl rfl
      have e40 : S34 1079 10 = S 1079 10 := (zz_rc fS34 rfl rfl (fun h => h) (zz_rc fS25 rfl rfl (fun h => h) rfl))
      refine zz_callVV [zi v38] zd_14_87_343 zk_Md_459 zT_1079 (zz_ltn hn rfl) rfl rfl ⟨Nat.le_of_ble_eq_true rfl, Nat.le_of_ble_eq_true rfl⟩ ⟨rfl, rfl⟩ (Nat.zero_le _) (Nat.zero_le _) (zc_emit_14_77 v38 S34 n hn G_S34 (by omega) (by omega)) (fun S41 hP => ?_)
      obtain ⟨G_S41, fS41, o43⟩ := hP
      have F_S41 := zz_fr.trans F_S34 fS41 rfl zz_nv
      refine zz_iload_n (x := p0) rfl zd_14_87_346 ?_
      refine zz_iconst zd_14_87_347 ?_
      refine zz_iadd zd_14_87_348 ?_
      refine zz_istore_n [some (.ref 1079), some (zi p0), some (zi (S0 1107 p0.toNat)), some (zi (p0 + 1)), some (zi ((S0 1109 p0.toNat) * (S0 1110 p0.toNat))), some (zi x5), some (zi x6)] zd_14_87_349 (by decide) rfl ?_
      refine zz_aload_n (x := 1079) rfl zd_14_87_350 ?_
      refine zz_getr (kd := 0) (z := 1106) zd_14_87_351 zf_Md_100 zT_1079 rfl (zz_ltn hn rfl) (zz_G.eq G_S41 1079 41 1106 rfl rfl) (by decide) 1106 rfl ?_
      refine zz_iload_n (x := p0) rfl zd_14_87_354 ?_
      have g44 := zz_G.r G_S0 1106 p0.toNat 0 2 rfl rfl
      refine zz_iald (z := S0 1106 p0.toNat) zd_14_87_355 zT_1106 rfl (zz_ltn hn rfl) (by decide) (by omega) (zz_rc fS41 (zz_nc1 rfl) rfl (fun h => h) (zz_rc fS34 (zz_nc1 rfl) rfl (fun h => h) (zz_rc fS25 (zz_nc1 rfl) rfl (fun h => h) (zz_rc F_S (zz_nc1 rfl) rfl (fun h => h) rfl)))) ?_
      refine zz_iconst zd_14_87_356 ?_
      refine zz_icmp_ne (by omega) (by omega) zd_14_87_357 (fun c45 => ?_) (fun c45 => ?_)
      · refine zz_aload_n (x := 1079) rfl zd_14_87_367 ?_
        have g46 := zz_G.r G_S0 1079 55 (-2147483648) 2147483647 rfl rfl
        refine zz_geti (z := S0 1079 55) zd_14_87_368 zf_Md_495 zT_1079 rfl (zz_ltn hn rfl) (zz_rc fS41 rfl rfl (fun h => h) (zz_rc fS34 rfl rfl (fun h => h) (zz_rc fS25 rfl rfl (fun h => h) (zz_rc F_S rfl rfl (fun h => h) rfl)))) ?_
        refine zz_aload_n (x := 1079) rfl zd_14_87_371 ?_
        refine zz_getr (kd := 0) (z := 1103) zd_14_87_372 zf_Md_91 zT_1079 rfl (zz_ltn hn rfl) (zz_G.eq G_S41 1079 38 1103 rfl rfl) (by decide) 1103 rfl ?_
        refine zz_iload_n (x := p0 + 1) rfl zd_14_87_375 ?_
        have g47 := zz_G.r G_S0 1103 ((p0 + 1).toNat) 0 63 rfl rfl
        refine zz_iald (z := S0 1103 ((p0 + 1).toNat)) zd_14_87_376 zT_1103 rfl (zz_ltn hn rfl) (by decide) (by omega) (zz_rc fS41 (zz_nc1 rfl) rfl (fun h => h) (zz_rc fS34 (zz_nc1 rfl) rfl (fun h => h) (zz_rc fS25 (zz_nc1 rfl) rfl (fun h => h) (zz_rc F_S (zz_nc1 rfl) rfl (fun h => h) rfl)))) ?_
        refine zz_imul zd_14_87_377 ?_
        refine zz_nrm (fun v48 hv48 ev48 => ?_)
        refine zz_aload_n (x := 1079) rfl zd_14_87_378 ?_
        have g49 := zz_G.r G_S0 1079 54 (-2147483648) 2147483647 rfl rfl
        refine zz_geti (z := S0 1079 54) zd_14_87_379 zf_Md_492 zT_1079 rfl (zz_ltn hn rfl) (zz_rc fS41 rfl rfl (fun h => h) (zz_rc fS34 rfl rfl (fun h => h) (zz_rc fS25 rfl rfl (fun h => h) (zz_rc F_S rfl rfl (fun h => h) rfl)))) ?_
        refine zz_iadd zd_14_87_382 ?_
        refine zz_nrm (fun v50 hv50 ev50 => ?_)
        refine zz_istore [some (.ref 1079), some (zi p0), some (zi (S0 1107 p0.toNat)), some (zi (p0 + 1)), some (zi v50), some (zi x5), some (zi x6)] zd_14_87_383 (by decide) rfl ?_
        refine zz_aload_n (x := 1079) rfl zd_14_87_385 ?_
        refine zz_bipush (by decide) zd_14_87_386 ?_
        refine zz_aload_n (x := 1079) rfl zd_14_87_388 ?_
        refine zz_getr (kd := 0) (z := 1105) zd_14_87_389 zf_Md_97 zT_1079 rfl (zz_ltn hn rfl) (zz_G.eq G_S41 1079 40 1105 rfl rfl) (by decide) 1105 rfl ?_
        refine zz_iload_n (x := p0 + 1) rfl zd_14_87_392 ?_
        have g51 := zz_G.r G_S0 1105 ((p0 + 1).toNat) (0) (if (p0 + 1).toNat = 0 then 0 else 10000000) rfl rfl
        refine zz_iald (z := S0 1105 ((p0 + 1).toNat)) zd_14_87_393 zT_1105 rfl (zz_ltn hn rfl) (by decide) (by omega) (zz_rc fS41 (zz_nc1 rfl) rfl (fun h => h) (zz_rc fS34 (zz_nc1 rfl) rfl (fun h => h) (zz_rc fS25 (zz_nc1 rfl) rfl (fun h => h) (zz_rc F_S (zz_nc1 rfl) rfl (fun h => h) rfl)))) ?_
        refine zz_iload (x := v50) rfl zd_14_87_394 ?_
        refine zz_aload_n (x := 1079) rfl zd_14_87_396 ?_
        refine zz_getr (kd := 0) (z := 1104) zd_14_87_397 zf_Md_94 zT_1079 rfl (zz_ltn hn rfl) (zz_G.eq G_S41 1079 39 1104 rfl rfl) (by decide) 1104 rfl ?_
        refine zz_iload_n (x := p0 + 1) rfl zd_14_87_400 ?_
        have g52 := zz_G.r G_S0 1104 ((p0 + 1).toNat) 0 63 rfl rfl
        refine zz_iald (z := S0 1104 ((p0 + 1).toNat)) zd_14_87_401 zT_1104 rfl (zz_ltn hn rfl) (by decide) (by omega) (zz_rc fS41 (zz_nc1 rfl) rfl (fun h => h) (zz_rc fS34 (zz_nc1 rfl) rfl (fun h => h) (zz_rc fS25 (zz_nc1 rfl) rfl (fun h => h) (zz_rc F_S (zz_nc1 rfl) rfl (fun h => h) rfl)))) ?_
        refine zz_imul zd_14_87_402 ?_
        refine zz_nrm (fun v53 hv53 ev53 => ?_)
        refine zz_iadd zd_14_87_403 ?_
        refine zz_nrm (fun v54 hv54 ev54 => ?_)
        refine zz_aload_n (x := 1079) rfl zd_14_87_404 ?_
        have g55 := zz_G.r G_S0 1079 56 (-2147483648) 2147483647 rfl rfl
        refine zz_geti (z := S0 1079 56) zd_14_87_405 zf_Md_466 zT_1079 rfl (zz_ltn hn rfl) (zz_rc fS41 rfl rfl (fun h => h) (zz_rc fS34 rfl rfl (fun h => h) (zz_rc fS25 rfl rfl (fun h => h) (zz_rc F_S rfl rfl (fun h => h) rfl)))) ?_
        refine zz_iadd zd_14_87_408 ?_
        refine zz_nrm (fun v56 hv56 ev56 => ?_)
        refine zz_aload_n (x := 1079) rfl zd_14_87_409 ?_
        refine zz_geti (z := S0 1079 52) zd_14_87_410 zf_Md_469 zT_1079 rfl (zz_ltn hn rfl) (zz_rc fS41 rfl rfl (fun h => h) (zz_rc fS34 rfl rfl (fun h => h) (zz_rc fS25 rfl rfl (fun h => h) (zz_rc F_S rfl rfl (fun h => h) rfl)))) ?_
        refine zz_aload_n (x := 1079) rfl zd_14_87_413 ?_
        refine zz_geti (z := S0 1079 53) zd_14_87_414 zf_Md_472 zT_1079 rfl (zz_ltn hn rfl) (zz_rc fS41 rfl rfl (fun h => h) (zz_rc fS34 rfl rfl (fun h => h) (zz_rc fS25 rfl rfl (fun h => h) (zz_rc F_S rfl rfl (fun h => h) rfl)))) ?_
        refine zz_callVV [zi 8, zi v56, zi (S0 1079 52), zi (S0 1079 53)] zd_14_87_417 zk_Md_475 zT_1079 (zz_ltn hn rfl) rfl rfl ⟨Nat.le_of_ble_eq_true rfl, Nat.le_of_ble_eq_true rfl⟩ ⟨rfl, rfl⟩ (Nat.zero_le _) (Nat.zero_le _) (zc_set_14_78 8 v56 (S0 1079 52) (S0 1079 53) S41 n hn G_S41 (by omega) (by omega) (by omega) (by omega)) (fun S57 hP => ?_)
        obtain ⟨G_S57, fS57⟩ := hP
        have F_S57 := zz_fr.trans F_S41 fS57 rfl zz_nv
        refine zz_aload_n (x := 1079) rfl zd_14_87_420 ?_
        refine zz_aload_n (x := 1079) rfl zd_14_87_421 ?_
        refine zz_callVI [] zd_14_87_422 zk_Md_479 zT_1079 (zz_ltn hn rfl) rfl rfl ⟨Nat.le_of_ble_eq_true rfl, Nat.le_of_ble_eq_true rfl⟩ ⟨rfl, rfl⟩ (Nat.zero_le _) (Nat.zero_le _) (zc_quarter_14_81  S57 n hn G_S57 ) (fun v60 S59 hP => ?_)
        obtain ⟨rfl, o61⟩ := hP
        refine zz_iconst zd_14_87_425 ?_
        refine zz_aload_n (x := 1079) rfl zd_14_87_426 ?_
        refine zz_getr (kd := 0) (z := 1104) zd_14_87_427 zf_Md_94 zT_1079 rfl (zz_ltn hn rfl) (zz_G.eq G_S57 1079 39 1104 rfl rfl) (by decide) 1104 rfl ?_
        refine zz_iload_n (x := p0 + 1) rfl zd_14_87_430 ?_
        refine zz_iald (z := S0 1104 ((p0 + 1).toNat)) zd_14_87_431 zT_1104 rfl (zz_ltn hn rfl) (by decide) (by omega) (zz_rc fS57 (zz_nc1 rfl) rfl (fun h => h) (zz_rc fS41 (zz_nc1 rfl) rfl (fun h => h) (zz_rc fS34 (zz_nc1 rfl) rfl (fun h => h) (zz_rc fS25 (zz_nc1 rfl) rfl (fun h => h) (zz_rc F_S (zz_nc1 rfl) rfl (fun h => h) rfl))))) ?_
        refine zz_iconst zd_14_87_432 ?_
        refine zz_callVV [zi v60, zi 0, zi (S0 1104 ((p0 + 1).toNat)), zi 0] zd_14_87_433 zk_Md_482 zT_1079 (zz_ltn hn rfl) rfl rfl ⟨Nat.le_of_ble_eq_true rfl, Nat.le_of_ble_eq_true rfl⟩ ⟨rfl, rfl⟩ (Nat.zero_le _) (Nat.zero_le _) (zc_with_14_79 v60 0 (S0 1104 ((p0 + 1).toNat)) 0 S57 n hn G_S57 (by omega) (by omega) (by omega) (by omega)) (fun S62 hP => ?_)
        obtain ⟨G_S62, fS62⟩ := hP
        have F_S62 := zz_fr.trans F_S57 fS62 rfl zz_nv
        refine zz_aload_n (x := 1079) rfl zd_14_87_436 ?_
        refine zz_iconst zd_14_87_437 ?_
        have g64 := zz_G.r G_S41 1079 10 0 1000000 rfl rfl
        have e65 : S62 1079 10 = S41 1079 10 := (zz_rc fS62 rfl rfl (fun h => h) (zz_rc fS57 rfl rfl (fun h => h) rfl))
        refine zz_callVV [zi 5] zd_14_87_438 zk_Md_459 zT_1079 (zz_ltn hn rfl) rfl rfl ⟨Nat.le_of_ble_eq_true rfl, Nat.le_of_ble_eq_true rfl⟩ ⟨rfl, rfl⟩ (Nat.zero_le _) (Nat.zero_le _) (zc_emit_14_77 5 S62 n hn G_S62 (by omega) (by omega)) (fun S66 hP => ?_)
        obtain ⟨G_S66, fS66, o68⟩ := hP
        have F_S66 := zz_fr.trans F_S62 fS66 rfl zz_nv
        refine zz_aload_n (x := 1079) rfl zd_14_87_441 ?_
        refine zz_dup rfl zd_14_87_442 ?_
        refine zz_geti (z := S 1079 50) zd_14_87_443 zf_Md_450 zT_1079 rfl (zz_ltn hn rfl) (zz_rc fS66 rfl rfl (fun h => h) (zz_rc fS62 rfl rfl (fun h => h) (zz_rc fS57 rfl rfl (fun h => h) (zz_rc fS41 rfl rfl (fun h => h) (zz_rc fS34 rfl rfl (fun h => h) (zz_rc fS25 rfl rfl (fun h => h) rfl)))))) ?_
        refine zz_iconst zd_14_87_446 ?_
        refine zz_iadd zd_14_87_447 ?_
        refine zz_puti zd_14_87_448 zf_Md_450 zT_1079 rfl (zz_ltn hn rfl) (fun S69 qS69 => ?_)
        have G_S69 := zz_G.put G_S66 qS69 (-2147483648) 2147483647 rfl (by omega)
        have F_S69 := zz_fr.puts F_S66 qS69 rfl
        have g70 := zz_G.r G_S66 1079 10 0 1000000 rfl rfl
        have e71 : S69 1079 10 = S66 1079 10 := (zz_ro qS69 (fun h => absurd h.2 (by decide)) rfl)
        exact zz_vret zd_14_87_451 rfl (Nat.zero_le _) (Nat.zero_le _) ⟨_, rfl, G_S69, F_S69, by omega⟩
      · refine zz_aload_n (x := 1079) rfl zd_14_87_360 ?_
        have g72 := zz_G.r G_S0 1079 54 (-2147483648) 2147483647 rfl rfl
        refine zz_geti (z := S0 1079 54) zd_14_87_361 zf_Md_492 zT_1079 rfl (zz_ltn hn rfl) (zz_rc fS41 rfl rfl (fun h => h) (zz_rc fS34 rfl rfl (fun h => h) (zz_rc fS25 rfl rfl (fun h => h) (zz_rc F_S rfl rfl (fun h => h) rfl)))) ?_
        refine zz_goto zd_14_87_364 ?_
        refine zz_istore [some (.ref 1079), some (zi p0), some (zi (S0 1107 p0.toNat)), some (zi (p0 + 1)), some (zi (S0 1079 54)), some (zi x5), some (zi x6)] zd_14_87_383 (by decide) rfl ?_
        refine zz_aload_n (x := 1079) rfl zd_14_87_385 ?_
        refine zz_bipush (by decide) zd_14_87_386 ?_
        refine zz_aload_n (x := 1079) rfl zd_14_87_388 ?_
        refine zz_getr (kd := 0) (z := 1105) zd_14_87_389 zf_Md_97 zT_1079 rfl (zz_ltn hn rfl) (zz_G.eq G_S41 1079 40 1105 rfl rfl) (by decide) 1105 rfl ?_
        refine zz_iload_n (x := p0 + 1) rfl zd_14_87_392 ?_
        have g73 := zz_G.r G_S0 1105 ((p0 + 1).toNat) (0) (if (p0 + 1).toNat = 0 then 0 else 10000000) rfl rfl
        refine zz_iald (z := S0 1105 ((p0 + 1).toNat)) zd_14_87_393 zT_1105 rfl (zz_ltn hn rfl) (by decide) (by omega) (zz_rc fS41 (zz_nc1 rfl) rfl (fun h => h) (zz_rc fS34 (zz_nc1 rfl) rfl (fun h => h) (zz_rc fS25 (zz_nc1 rfl) rfl (fun h => h) (zz_rc F_S (zz_nc1 rfl) rfl (fun h => h) rfl)))) ?_
        refine zz_iload (x := S0 1079 54) rfl zd_14_87_394 ?_
        refine zz_aload_n (x := 1079) rfl zd_14_87_396 ?_
        refine zz_getr (kd := 0) (z := 1104) zd_14_87_397 zf_Md_94 zT_1079 rfl (zz_ltn hn rfl) (zz_G.eq G_S41 1079 39 1104 rfl rfl) (by decide) 1104 rfl ?_
        refine zz_iload_n (x := p0 + 1) rfl zd_14_87_400 ?_
        have g74 := zz_G.r G_S0 1104 ((p0 + 1).toNat) 0 63 rfl rfl
        refine zz_iald (z := S0 1104 ((p0 + 1).toNat)) zd_14_87_401 zT_1104 rfl (zz_ltn hn rfl) (by decide) (by omega) (zz_rc fS41 (zz_nc1 rfl) rfl (fun h => h) (zz_rc fS34 (zz_nc1 rfl) rfl (fun h => h) (zz_rc fS25 (zz_nc1 rfl) rfl (fun h => h) (zz_rc F_S (zz_nc1 rfl) rfl (fun h => h) rfl)))) ?_
        refine zz_imul zd_14_87_402 ?_
        refine zz_nrm (fun v75 hv75 ev75 => ?_)
        refine zz_iadd zd_14_87_403 ?_
        refine zz_nrm (fun v76 hv76 ev76 => ?_)
        refine zz_aload_n (x := 1079) rfl zd_14_87_404 ?_
        have g77 := zz_G.r G_S0 1079 56 (-2147483648) 2147483647 rfl rfl
        refine zz_geti (z := S0 1079 56) zd_14_87_405 zf_Md_466 zT_1079 rfl (zz_ltn hn rfl) (zz_rc fS41 rfl rfl (fun h => h) (zz_rc fS34 rfl rfl (fun h => h) (zz_rc fS25 rfl rfl (fun h => h) (zz_rc F_S rfl rfl (fun h => h) rfl)))) ?_
        refine zz_iadd zd_14_87_408 ?_
        refine zz_nrm (fun v78 hv78 ev78 => ?_)
        refine zz_aload_n (x := 1079) rfl zd_14_87_409 ?_
        refine zz_geti (z := S0 1079 52) zd_14_87_410 zf_Md_469 zT_1079 rfl (zz_ltn hn rfl) (zz_rc fS41 rfl rfl (fun h => h) (zz_rc fS34 rfl rfl (fun h => h) (zz_rc fS25 rfl rfl (fun h => h) (zz_rc F_S rfl rfl (fun h => h) rfl)))) ?_
        refine zz_aload_n (x := 1079) rfl zd_14_87_413 ?_
        refine zz_geti (z := S0 1079 53) zd_14_87_414 zf_Md_472 zT_1079 rfl (zz_ltn hn rfl) (zz_rc fS41 rfl rfl (fun h => h) (zz_rc fS34 rfl rfl (fun h => h) (zz_rc fS25 rfl rfl (fun h => h) (zz_rc F_S rfl rfl (fun h => h) rfl)))) ?_
        refine zz_callVV [zi 8, zi v78, zi (S0 1079 52), zi (S0 1079 53)] zd_14_87_417 zk_Md_475 zT_1079 (zz_ltn hn rfl) rfl rfl ⟨Nat.le_of_ble_eq_true rfl, Nat.le_of_ble_eq_true rfl⟩ ⟨rfl, rfl⟩ (Nat.zero_le _) (Nat.zero_le _) (zc_set_14_78 8 v78 (S0 1079 52) (S0 1079 53) S41 n hn G_S41 (by omega) (by omega) (by omega) (by omega)) (fun S79 hP => ?_)
        obtain ⟨G_S79, fS79⟩ := hP
        have F_S79 := zz_fr.trans F_S41 fS79 rfl zz_nv
        refine zz_aload_n (x := 1079) rfl zd_14_87_420 ?_
        refine zz_aload_n (x := 1079) rfl zd_14_87_421 ?_
        refine zz_callVI [] zd_14_87_422 zk_Md_479 zT_1079 (zz_ltn hn rfl) rfl rfl ⟨Nat.le_of_ble_eq_true rfl, Nat.le_of_ble_eq_true rfl⟩ ⟨rfl, rfl⟩ (Nat.zero_le _) (Nat.zero_le _) (zc_quarter_14_81  S79 n hn G_S79 ) (fun v82 S81 hP => ?_)
        obtain ⟨rfl, o83⟩ := hP
        refine zz_iconst zd_14_87_425 ?_
        refine zz_aload_n (x := 1079) rfl zd_14_87_426 ?_
        refine zz_getr (kd := 0) (z := 1104) zd_14_87_427 zf_Md_94 zT_1079 rfl (zz_ltn hn rfl) (zz_G.eq G_S79 1079 39 1104 rfl rfl) (by decide) 1104 rfl ?_
        refine zz_iload_n (x := p0 + 1) rfl zd_14_87_430 ?_
        refine zz_iald (z := S0 1104 ((p0 + 1).toNat)) zd_14_87_431 zT_1104 rfl (zz_ltn hn rfl) (by decide) (by omega) (zz_rc fS79 (zz_nc1 rfl) rfl (fun h => h) (zz_rc fS41 (zz_nc1 rfl) rfl (fun h => h) (zz_rc fS34 (zz_nc1 rfl) rfl (fun h => h) (zz_rc fS25 (zz_nc1 rfl) rfl (fun h => h) (zz_rc F_S (zz_nc1 rfl) rfl (fun h => h) rfl))))) ?_
        refine zz_iconst zd_14_87_432 ?_
        refine zz_callVV [zi v82, zi 0, zi (S0 1104 ((p0 + 1).toNat)), zi 0] zd_14_87_433 zk_Md_482 zT_1079 (zz_ltn hn rfl) rfl rfl ⟨Nat.le_of_ble_eq_true rfl, Nat.le_of_ble_eq_true rfl⟩ ⟨rfl, rfl⟩ (Nat.zero_le _) (Nat.zero_le _) (zc_with_14_79 v82 0 (S0 1104 ((p0 + 1).toNat)) 0 S79 n hn G_S79 (by omega) (by omega) (by omega) (by omega)) (fun S84 hP => ?_)
        obtain ⟨G_S84, fS84⟩ := hP
        have F_S84 := zz_fr.trans F_S79 fS84 rfl zz_nv
        refine zz_aload_n (x := 1079) rfl zd_14_87_436 ?_
        refine zz_iconst zd_14_87_437 ?_
        have g86 := zz_G.r G_S41 1079 10 0 1000000 rfl rfl
        have e87 : S84 1079 10 = S41 1079 10 := (zz_rc fS84 rfl rfl (fun h => h) (zz_rc fS79 rfl rfl (fun h => h) rfl))
        refine zz_callVV [zi 5] zd_14_87_438 zk_Md_459 zT_1079 (zz_ltn hn rfl) rfl rfl ⟨Nat.le_of_ble_eq_true rfl, Nat.le_of_ble_eq_true rfl⟩ ⟨rfl, rfl⟩ (Nat.zero_le _) (Nat.zero_le _) (zc_emit_14_77 5 S84 n hn G_S84 (by omega) (by omega)) (fun S88 hP => ?_)
        obtain ⟨G_S88, fS88, o90⟩ := hP
        have F_S88 := zz_fr.trans F_S84 fS88 rfl zz_nv
        refine zz_aload_n (x := 1079) rfl zd_14_87_441 ?_
        refine zz_dup rfl zd_14_87_442 ?_
        refine zz_geti (z := S 1079 50) zd_14_87_443 zf_Md_450 zT_1079 rfl (zz_ltn hn rfl) (zz_rc fS88 rfl rfl (fun h => h) (zz_rc fS84 rfl rfl (fun h => h) (zz_rc fS79 rfl rfl (fun h => h) (zz_rc fS41 rfl rfl (fun h => h) (zz_rc fS34 rfl rfl (fun h => h) (zz_rc fS25 rfl rfl (fun h => h) rfl)))))) ?_
        refine zz_iconst zd_14_87_446 ?_
        refine zz_iadd zd_14_87_447 ?_
        refine zz_puti zd_14_87_448 zf_Md_450 zT_1079 rfl (zz_ltn hn rfl) (fun S91 qS91 => ?_)
        have G_S91 := zz_G.put G_S88 qS91 (-2147483648) 2147483647 rfl (by omega)
        have F_S91 := zz_fr.puts F_S88 qS91 rfl
        have g92 := zz_G.r G_S88 1079 10 0 1000000 rfl rfl
        have e93 : S91 1079 10 = S88 1079 10 := (zz_ro qS91 (fun h => absurd h.2 (by decide)) rfl)
        exact zz_vret zd_14_87_451 rfl (Nat.zero_le _) (Nat.zero_le _) ⟨_, rfl, G_S91, F_S91, by omega⟩
    · refine zz_iconst zd_14_87_337 ?_
      refine zz_goto zd_14_87_338 ?_
      refine zz_ior (by omega) (by omega) zd_14_87_342 (fun v94 hv94 av94 ev94 => ?_)
      have g95 := zz_G.r G_S 1079 10 0 1000000 rfl rfl
      have e96 : S34 1079 10 = S 1079 10 := (zz_rc fS34 rfl rfl (fun h => h) (zz_rc fS25 rfl rfl (fun h => h) rfl))
      refine zz_callVV [zi v94] zd_14_87_343 zk_Md_459 zT_1079 (zz_ltn hn rfl) rfl rfl ⟨Nat.le_of_ble_eq_true rfl, Nat.le_of_ble_eq_true rfl⟩ ⟨rfl, rfl⟩ (Nat.zero_le _) (Nat.zero_le _) (zc_emit_14_77 v94 S34 n hn G_S34 (by omega) (by omega)) (fun S97 hP => ?_)
      obtain ⟨G_S97, fS97, o99⟩ := hP
      have F_S97 := zz_fr.trans F_S34 fS97 rfl zz_nv
      refine zz_iload_n (x := p0) rfl zd_14_87_346 ?_
      refine zz_iconst zd_14_87_347 ?_
      refine zz_iadd zd_14_87_348 ?_
      refine zz_istore_n [some (.ref 1079), some (zi p0), some (zi (S0 1107 p0.toNat)), some (zi (p0 + 1)), some (zi ((S0 1109 p0.toNat) * (S0 1110 p0.toNat))), some (zi x5), some (zi x6)] zd_14_87_349 (by decide) rfl ?_
      refine zz_aload_n (x := 1079) rfl zd_14_87_350 ?_
      refine zz_getr (kd := 0) (z := 1106) zd_14_87_351 zf_Md_100 zT_1079 rfl (zz_ltn hn rfl) (zz_G.eq G_S97 1079 41 1106 rfl rfl) (by decide) 1106 rfl ?_
      refine zz_iload_n (x := p0) rfl zd_14_87_354 ?_
      have g100 := zz_G.r G_S0 1106 p0.toNat 0 2 rfl rfl
      refine zz_iald (z := S0 1106 p0.toNat) zd_14_87_355 zT_1106 rfl (zz_ltn hn rfl) (by decide) (by omega) (zz_rc fS97 (zz_nc1 rfl) rfl (fun h => h) (zz_rc fS34 (zz_nc1 rfl) rfl (fun h => h) (zz_rc fS25 (zz_nc1 rfl) rfl (fun h => h) (zz_rc F_S (zz_nc1 rfl) rfl (fun h => h) rfl)))) ?_
      refine zz_iconst zd_14_87_356 ?_
      refine zz_icmp_ne (by omega) (by omega) zd_14_87_357 (fun c101 => ?_) (fun c101 => ?_)
      · refine zz_aload_n (x := 1079) rfl zd_14_87_367 ?_
        have g102 := zz_G.r G_S0 1079 55 (-2147483648) 2147483647 rfl rfl
        refine zz_geti (z := S0 1079 55) zd_14_87_368 zf_Md_495 zT_1079 rfl (zz_ltn hn rfl) (zz_rc fS97 rfl rfl (fun h => h) (zz_rc fS34 rfl rfl (fun h => h) (zz_rc fS25 rfl rfl (fun h => h) (zz_rc F_S rfl rfl (fun h => h) rfl)))) ?_
        refine zz_aload_n (x := 1079) rfl zd_14_87_371 ?_
        refine zz_getr (kd := 0) (z := 1103) zd_14_87_372 zf_Md_91 zT_1079 rfl (zz_ltn hn rfl) (zz_G.eq G_S97 1079 38 1103 rfl rfl) (by decide) 1103 rfl ?_
        refine zz_iload_n (x := p0 + 1) rfl zd_14_87_375 ?_
        have g103 := zz_G.r G_S0 1103 ((p0 + 1).toNat) 0 63 rfl rfl
        refine zz_iald (z := S0 1103 ((p0 + 1).toNat)) zd_14_87_376 zT_1103 rfl (zz_ltn hn rfl) (by decide) (by omega) (zz_rc fS97 (zz_nc1 rfl) rfl (fun h => h) (zz_rc fS34 (zz_nc1 rfl) rfl (fun h => h) (zz_rc fS25 (zz_nc1 rfl) rfl (fun h => h) (zz_rc F_S (zz_nc1 rfl) rfl (fun h => h) rfl)))) ?_
        refine zz_imul zd_14_87_377 ?_
        refine zz_nrm (fun v104 hv104 ev104 => ?_)
        refine zz_aload_n (x := 1079) rfl zd_14_87_378 ?_
        have g105 := zz_G.r G_S0 1079 54 (-2147483648) 2147483647 rfl rfl
        refine zz_geti (z := S0 1079 54) zd_14_87_379 zf_Md_492 zT_1079 rfl (zz_ltn hn rfl) (zz_rc fS97 rfl rfl (fun h => h) (zz_rc fS34 rfl rfl (fun h => h) (zz_rc fS25 rfl rfl (fun h => h) (zz_rc F_S rfl rfl (fun h => h) rfl)))) ?_
        refine zz_iadd zd_14_87_382 ?_
        refine zz_nrm (fun v106 hv106 ev106 => ?_)
        refine zz_istore [some (.ref 1079), some (zi p0), some (zi (S0 1107 p0.toNat)), some (zi (p0 + 1)), some (zi v106), some (zi x5), some (zi x6)] zd_14_87_383 (by decide) rfl ?_
        refine zz_aload_n (x := 1079) rfl zd_14_87_385 ?_
        refine zz_bipush (by decide) zd_14_87_386 ?_
        refine zz_aload_n (x := 1079) rfl zd_14_87_388 ?_
        refine zz_getr (kd := 0) (z := 1105) zd_14_87_389 zf_Md_97 zT_1079 rfl (zz_ltn hn rfl) (zz_G.eq G_S97 1079 40 1105 rfl rfl) (by decide) 1105 rfl ?_
        refine zz_iload_n (x := p0 + 1) rfl zd_14_87_392 ?_
        have g107 := zz_G.r G_S0 1105 ((p0 + 1).toNat) (0) (if (p0 + 1).toNat = 0 then 0 else 10000000) rfl rfl
        refine zz_iald (z := S0 1105 ((p0 + 1).toNat)) zd_14_87_393 zT_1105 rfl (zz_ltn hn rfl) (by decide) (by omega) (zz_rc fS97 (zz_nc1 rfl) rfl (fun h => h) (zz_rc fS34 (zz_nc1 rfl) rfl (fun h => h) (zz_rc fS25 (zz_nc1 rfl) rfl (fun h => h) (zz_rc F_S (zz_nc1 rfl) rfl (fun h => h) rfl)))) ?_
        refine zz_iload (x := v106) rfl zd_14_87_394 ?_
        refine zz_aload_n (x := 1079) rfl zd_14_87_396 ?_
        refine zz_getr (kd := 0) (z := 1104) zd_14_87_397 zf_Md_94 zT_1079 rfl (zz_ltn hn rfl) (zz_G.eq G_S97 1079 39 1104 rfl rfl) (by decide) 1104 rfl ?_
        refine zz_iload_n (x := p0 + 1) rfl zd_14_87_400 ?_
        have g108 := zz_G.r G_S0 1104 ((p0 + 1).toNat) 0 63 rfl rfl
        refine zz_iald (z := S0 1104 ((p0 + 1).toNat)) zd_14_87_401 zT_1104 rfl (zz_ltn hn rfl) (by decide) (by omega) (zz_rc fS97 (zz_nc1 rfl) rfl (fun h => h) (zz_rc fS34 (zz_nc1 rfl) rfl (fun h => h) (zz_rc fS25 (zz_nc1 rfl) rfl (fun h => h) (zz_rc F_S (zz_nc1 rfl) rfl (fun h => h) rfl)))) ?_
        refine zz_imul zd_14_87_402 ?_
        refine zz_nrm (fun v109 hv109 ev109 => ?_)
        refine zz_iadd zd_14_87_403 ?_
        refine zz_nrm (fun v110 hv110 ev110 => ?_)
        refine zz_aload_n (x := 1079) rfl zd_14_87_404 ?_
        have g111 := zz_G.r G_S0 1079 56 (-2147483648) 2147483647 rfl rfl
        refine zz_geti (z := S0 1079 56) zd_14_87_405 zf_Md_466 zT_1079 rfl (zz_ltn hn rfl) (zz_rc fS97 rfl rfl (fun h => h) (zz_rc fS34 rfl rfl (fun h => h) (zz_rc fS25 rfl rfl (fun h => h) (zz_rc F_S rfl rfl (fun h => h) rfl)))) ?_
        refine zz_iadd zd_14_87_408 ?_
        refine zz_nrm (fun v112 hv112 ev112 => ?_)
        refine zz_aload_n (x := 1079) rfl zd_14_87_409 ?_
        refine zz_geti (z := S0 1079 52) zd_14_87_410 zf_Md_469 zT_1079 rfl (zz_ltn hn rfl) (zz_rc fS97 rfl rfl (fun h => h) (zz_rc fS34 rfl rfl (fun h => h) (zz_rc fS25 rfl rfl (fun h => h) (zz_rc F_S rfl rfl (fun h => h) rfl)))) ?_
        refine zz_aload_n (x := 1079) rfl zd_14_87_413 ?_
        refine zz_geti (z := S0 1079 53) zd_14_87_414 zf_Md_472 zT_1079 rfl (zz_ltn hn rfl) (zz_rc fS97 rfl rfl (fun h => h) (zz_rc fS34 rfl rfl (fun h => h) (zz_rc fS25 rfl rfl (fun h => h) (zz_rc F_S rfl rfl (fun h => h) rfl)))) ?_
        refine zz_callVV [zi 8, zi v112, zi (S0 1079 52), zi (S0 1079 53)] zd_14_87_417 zk_Md_475 zT_1079 (zz_ltn hn rfl) rfl rfl ⟨Nat.le_of_ble_eq_true rfl, Nat.le_of_ble_eq_true rfl⟩ ⟨rfl, rfl⟩ (Nat.zero_le _) (Nat.zero_le _) (zc_set_14_78 8 v112 (S0 1079 52) (S0 1079 53) S97 n hn G_S97 (by omega) (by omega) (by omega) (by omega)) (fun S113 hP => ?_)
        obtain ⟨G_S113, fS113⟩ := hP
        have F_S113 := zz_fr.trans F_S97 fS113 rfl zz_nv
        refine zz_aload_n (x := 1079) rfl zd_14_87_420 ?_
        refine zz_aload_n (x := 1079) rfl zd_14_87_421 ?_
        refine zz_callVI [] zd_14_87_422 zk_Md_479 zT_1079 (zz_ltn hn rfl) rfl rfl ⟨Nat.le_of_ble_eq_true rfl, Nat.le_of_ble_eq_true rfl⟩ ⟨rfl, rfl⟩ (Nat.zero_le _) (Nat.zero_le _) (zc_quarter_14_81  S113 n hn G_S113 ) (fun v116 S115 hP => ?_)
        obtain ⟨rfl, o117⟩ := hP
        refine zz_iconst zd_14_87_425 ?_
        refine zz_aload_n (x := 1079) rfl zd_14_87_426 ?_
        refine zz_getr (kd := 0) (z := 1104) zd_14_87_427 zf_Md_94 zT_1079 rfl (zz_ltn hn rfl) (zz_G.eq G_S113 1079 39 1104 rfl rfl) (by decide) 1104 rfl ?_
        refine zz_iload_n (x := p0 + 1) rfl zd_14_87_430 ?_
        refine zz_iald (z := S0 1104 ((p0 + 1).toNat)) zd_14_87_431 zT_1104 rfl (zz_ltn hn rfl) (by decide) (by omega) (zz_rc fS113 (zz_nc1 rfl) rfl (fun h => h) (zz_rc fS97 (zz_nc1 rfl) rfl (fun h => h) (zz_rc fS34 (zz_nc1 rfl) rfl (fun h => h) (zz_rc fS25 (zz_nc1 rfl) rfl (fun h => h) (zz_rc F_S (zz_nc1 rfl) rfl (fun h => h) rfl))))) ?_
        refine zz_iconst zd_14_87_432 ?_
        refine zz_callVV [zi v116, zi 0, zi (S0 1104 ((p0 + 1).toNat)), zi 0] zd_14_87_433 zk_Md_482 zT_1079 (zz_ltn hn rfl) rfl rfl ⟨Nat.le_of_ble_eq_true rfl, Nat.le_of_ble_eq_true rfl⟩ ⟨rfl, rfl⟩ (Nat.zero_le _) (Nat.zero_le _) (zc_with_14_79 v116 0 (S0 1104 ((p0 + 1).toNat)) 0 S113 n hn G_S113 (by omega) (by omega) (by omega) (by omega)) (fun S118 hP => ?_)
        obtain ⟨G_S118, fS118⟩ := hP
        have F_S118 := zz_fr.trans F_S113 fS118 rfl zz_nv
        refine zz_aload_n (x := 1079) rfl zd_14_87_436 ?_
        refine zz_iconst zd_14_87_437 ?_
        have g120 := zz_G.r G_S97 1079 10 0 1000000 rfl rfl
        have e121 : S118 1079 10 = S97 1079 10 := (zz_rc fS118 rfl rfl (fun h => h) (zz_rc fS113 rfl rfl (fun h => h) rfl))
        refine zz_callVV [zi 5] zd_14_87_438 zk_Md_459 zT_1079 (zz_ltn hn rfl) rfl rfl ⟨Nat.le_of_ble_eq_true rfl, Nat.le_of_ble_eq_true rfl⟩ ⟨rfl, rfl⟩ (Nat.zero_le _) (Nat.zero_le _) (zc_emit_14_77 5 S118 n hn G_S118 (by omega) (by omega)) (fun S122 hP => ?_)
        obtain ⟨G_S122, fS122, o124⟩ := hP
        have F_S122 := zz_fr.trans F_S118 fS122 rfl zz_nv
        refine zz_aload_n (x := 1079) rfl zd_14_87_441 ?_
        refine zz_dup rfl zd_14_87_442 ?_
        refine zz_geti (z := S 1079 50) zd_14_87_443 zf_Md_450 zT_1079 rfl (zz_ltn hn rfl) (zz_rc fS122 rfl rfl (fun h => h) (zz_rc fS118 rfl rfl (fun h => h) (zz_rc fS113 rfl rfl (fun h => h) (zz_rc fS97 rfl rfl (fun h => h) (zz_rc fS34 rfl rfl (fun h => h) (zz_rc fS25 rfl rfl (fun h => h) rfl)))))) ?_
        refine zz_iconst zd_14_87_446 ?_
        refine zz_iadd zd_14_87_447 ?_
        refine zz_nrm (fun v125 hv125 ev125 => ?_)
        refine zz_puti zd_14_87_448 zf_Md_450 zT_1079 rfl (zz_ltn hn rfl) (fun S126 qS126 => ?_)
        have G_S126 := zz_G.put G_S122 qS126 (-2147483648) 2147483647 rfl (by omega)
        have F_S126 := zz_fr.puts F_S122 qS126 rfl
        have g127 := zz_G.r G_S122 1079 10 0 1000000 rfl rfl
        have e128 : S126 1079 10 = S122 1079 10 := (zz_ro qS126 (fun h => absurd h.2 (by decide)) rfl)
        exact zz_vret zd_14_87_451 rfl (Nat.zero_le _) (Nat.zero_le _) ⟨_, rfl, G_S126, F_S126, by omega⟩
      · refine zz_aload_n (x := 1079) rfl zd_14_87_360 ?_
        have g129 := zz_G.r G_S0 1079 54 (-2147483648) 2147483647 rfl rfl
        refine zz_geti (z := S0 1079 54) zd_14_87_361 zf_Md_492 zT_1079 rfl (zz_ltn hn rfl) (zz_rc fS97 rfl rfl (fun h => h) (zz_rc fS34 rfl rfl (fun h => h) (zz_rc fS25 rfl rfl (fun h => h) (zz_rc F_S rfl rfl (fun h => h) rfl)))) ?_
        refine zz_goto zd_14_87_364 ?_
        refine zz_istore [some (.ref 1079), some (zi p0), some (zi (S0 1107 p0.toNat)), some (zi (p0 + 1)), some (zi (S0 1079 54)), some (zi x5), some (zi x6)] zd_14_87_383 (by decide) rfl ?_
        refine zz_aload_n (x := 1079) rfl zd_14_87_385 ?_
        refine zz_bipush (by decide) zd_14_87_386 ?_
        refine zz_aload_n (x := 1079) rfl zd_14_87_388 ?_
        refine zz_getr (kd := 0) (z := 1105) zd_14_87_389 zf_Md_97 zT_1079 rfl (zz_ltn hn rfl) (zz_G.eq G_S97 1079 40 1105 rfl rfl) (by decide) 1105 rfl ?_
        refine zz_iload_n (x := p0 + 1) rfl zd_14_87_392 ?_
        have g130 := zz_G.r G_S0 1105 ((p0 + 1).toNat) (0) (if (p0 + 1).toNat = 0 then 0 else 10000000) rfl rfl
        refine zz_iald (z := S0 1105 ((p0 + 1).toNat)) zd_14_87_393 zT_1105 rfl (zz_ltn hn rfl) (by decide) (by omega) (zz_rc fS97 (zz_nc1 rfl) rfl (fun h => h) (zz_rc fS34 (zz_nc1 rfl) rfl (fun h => h) (zz_rc fS25 (zz_nc1 rfl) rfl (fun h => h) (zz_rc F_S (zz_nc1 rfl) rfl (fun h => h) rfl)))) ?_
        refine zz_iload (x := S0 1079 54) rfl zd_14_87_394 ?_
        refine zz_aload_n (x := 1079) rfl zd_14_87_396 ?_
        refine zz_getr (kd := 0) (z := 1104) zd_14_87_397 zf_Md_94 zT_1079 rfl (zz_ltn hn rfl) (zz_G.eq G_S97 1079 39 1104 rfl rfl) (by decide) 1104 rfl ?_
        refine zz_iload_n (x := p0 + 1) rfl zd_14_87_400 ?_
        have g131 := zz_G.r G_S0 1104 ((p0 + 1).toNat) 0 63 rfl rfl
        refine zz_iald (z := S0 1104 ((p0 + 1).toNat)) zd_14_87_401 zT_1104 rfl (zz_ltn hn rfl) (by decide) (by omega) (zz_rc fS97 (zz_nc1 rfl) rfl (fun h => h) (zz_rc fS34 (zz_nc1 rfl) rfl (fun h => h) (zz_rc fS25 (zz_nc1 rfl) rfl (fun h => h) (zz_rc F_S (zz_nc1 rfl) rfl (fun h => h) rfl)))) ?_
        refine zz_imul zd_14_87_402 ?_
        refine zz_nrm (fun v132 hv132 ev132 => ?_)
        refine zz_iadd zd_14_87_403 ?_
        refine zz_nrm (fun v133 hv133 ev133 => ?_)
        refine zz_aload_n (x := 1079) rfl zd_14_87_404 ?_
        have g134 := zz_G.r G_S0 1079 56 (-2147483648) 2147483647 rfl rfl
        refine zz_geti (z := S0 1079 56) zd_14_87_405 zf_Md_466 zT_1079 rfl (zz_ltn hn rfl) (zz_rc fS97 rfl rfl (fun h => h) (zz_rc fS34 rfl rfl (fun h => h) (zz_rc fS25 rfl rfl (fun h => h) (zz_rc F_S rfl rfl (fun h => h) rfl)))) ?_
        refine zz_iadd zd_14_87_408 ?_
        refine zz_nrm (fun v135 hv135 ev135 => ?_)
        refine zz_aload_n (x := 1079) rfl zd_14_87_409 ?_
        refine zz_geti (z := S0 1079 52) zd_14_87_410 zf_Md_469 zT_1079 rfl (zz_ltn hn rfl) (zz_rc fS97 rfl rfl (fun h => h) (zz_rc fS34 rfl rfl (fun h => h) (zz_rc fS25 rfl rfl (fun h => h) (zz_rc F_S rfl rfl (fun h => h) rfl)))) ?_
        refine zz_aload_n (x := 1079) rfl zd_14_87_413 ?_
        refine zz_geti (z := S0 1079 53) zd_14_87_414 zf_Md_472 zT_1079 rfl (zz_ltn hn rfl) (zz_rc fS97 rfl rfl (fun h => h) (zz_rc fS34 rfl rfl (fun h => h) (zz_rc fS25 rfl rfl (fun h => h) (zz_rc F_S rfl rfl (fun h => h) rfl)))) ?_
        refine zz_callVV [zi 8, zi v135, zi (S0 1079 52), zi (S0 1079 53)] zd_14_87_417 zk_Md_475 zT_1079 (zz_ltn hn rfl) rfl rfl ⟨Nat.le_of_ble_eq_true rfl, Nat.le_of_ble_eq_true rfl⟩ ⟨rfl, rfl⟩ (Nat.zero_le _) (Nat.zero_le _) (zc_set_14_78 8 v135 (S0 1079 52) (S0 1079 53) S97 n hn G_S97 (by omega) (by omega) (by omega) (by omega)) (fun S136 hP => ?_)
        obtain ⟨G_S136, fS136⟩ := hP
        have F_S136 := zz_fr.trans F_S97 fS136 rfl zz_nv
        refine zz_aload_n (x := 1079) rfl zd_14_87_420 ?_
        refine zz_aload_n (x := 1079) rfl zd_14_87_421 ?_
        refine zz_callVI [] zd_14_87_422 zk_Md_479 zT_1079 (zz_ltn hn rfl) rfl rfl ⟨Nat.le_of_ble_eq_true rfl, Nat.le_of_ble_eq_true rfl⟩ ⟨rfl, rfl⟩ (Nat.zero_le _) (Nat.zero_le _) (zc_quarter_14_81  S136 n hn G_S136 ) (fun v139 S138 hP => ?_)
        obtain ⟨rfl, o140⟩ := hP
        refine zz_iconst zd_14_87_425 ?_
        refine zz_aload_n (x := 1079) rfl zd_14_87_426 ?_
        refine zz_getr (kd := 0) (z := 1104) zd_14_87_427 zf_Md_94 zT_1079 rfl (zz_ltn hn rfl) (zz_G.eq G_S136 1079 39 1104 rfl rfl) (by decide) 1104 rfl ?_
        refine zz_iload_n (x := p0 + 1) rfl zd_14_87_430 ?_
        refine zz_iald (z := S0 1104 ((p0 + 1).toNat)) zd_14_87_431 zT_1104 rfl (zz_ltn hn rfl) (by decide) (by omega) (zz_rc fS136 (zz_nc1 rfl) rfl (fun h => h) (zz_rc fS97 (zz_nc1 rfl) rfl (fun h => h) (zz_rc fS34 (zz_nc1 rfl) rfl (fun h => h) (zz_rc fS25 (zz_nc1 rfl) rfl (fun h => h) (zz_rc F_S (zz_nc1 rfl) rfl (fun h => h) rfl))))) ?_
        refine zz_iconst zd_14_87_432 ?_
        refine zz_callVV [zi v139, zi 0, zi (S0 1104 ((p0 + 1).toNat)), zi 0] zd_14_87_433 zk_Md_482 zT_1079 (zz_ltn hn rfl) rfl rfl ⟨Nat.le_of_ble_eq_true rfl, Nat.le_of_ble_eq_true rfl⟩ ⟨rfl, rfl⟩ (Nat.zero_le _) (Nat.zero_le _) (zc_with_14_79 v139 0 (S0 1104 ((p0 + 1).toNat)) 0 S136 n hn G_S136 (by omega) (by omega) (by omega) (by omega)) (fun S141 hP => ?_)
        obtain ⟨G_S141, fS141⟩ := hP
        have F_S141 := zz_fr.trans F_S136 fS141 rfl zz_nv
        refine zz_aload_n (x := 1079) rfl zd_14_87_436 ?_
        refine zz_iconst zd_14_87_437 ?_
        have g143 := zz_G.r G_S97 1079 10 0 1000000 rfl rfl
        have e144 : S141 1079 10 = S97 1079 10 := (zz_rc fS141 rfl rfl (fun h => h) (zz_rc fS136 rfl rfl (fun h => h) rfl))
        refine zz_callVV [zi 5] zd_14_87_438 zk_Md_459 zT_1079 (zz_ltn hn rfl) rfl rfl ⟨Nat.le_of_ble_eq_true rfl, Nat.le_of_ble_eq_true rfl⟩ ⟨rfl, rfl⟩ (Nat.zero_le _) (Nat.zero_le _) (zc_emit_14_77 5 S141 n hn G_S141 (by omega) (by omega)) (fun S145 hP => ?_)
        obtain ⟨G_S145, fS145, o147⟩ := hP
        have F_S145 := zz_fr.trans F_S141 fS145 rfl zz_nv
        refine zz_aload_n (x := 1079) rfl zd_14_87_441 ?_
        refine zz_dup rfl zd_14_87_442 ?_
        refine zz_geti (z := S 1079 50) zd_14_87_443 zf_Md_450 zT_1079 rfl (zz_ltn hn rfl) (zz_rc fS145 rfl rfl (fun h => h) (zz_rc fS141 rfl rfl (fun h => h) (zz_rc fS136 rfl rfl (fun h => h) (zz_rc fS97 rfl rfl (fun h => h) (zz_rc fS34 rfl rfl (fun h => h) (zz_rc fS25 rfl rfl (fun h => h) rfl)))))) ?_
        refine zz_iconst zd_14_87_446 ?_
        refine zz_iadd zd_14_87_447 ?_
        refine zz_nrm (fun v148 hv148 ev148 => ?_)
        refine zz_puti zd_14_87_448 zf_Md_450 zT_1079 rfl (zz_ltn hn rfl) (fun S149 qS149 => ?_)
        have G_S149 := zz_G.put G_S145 qS149 (-2147483648) 2147483647 rfl (by omega)
        have F_S149 := zz_fr.puts F_S145 qS149 rfl
        have g150 := zz_G.r G_S145 1079 10 0 1000000 rfl rfl
        have e151 : S149 1079 10 = S145 1079 10 := (zz_ro qS149 (fun h => absurd h.2 (by decide)) rfl)
        exact zz_vret zd_14_87_451 rfl (Nat.zero_le _) (Nat.zero_le _) ⟨_, rfl, G_S149, F_S149, by omega⟩
  · have hpp := zz_pos2 (a := x4) (b := x5) (k := x6) (by omega) (by omega) (by omega) (by omega)
    have hkr := zz_G.r G_S0 1109 p0.toNat 0 3 rfl rfl
    have hkc := zz_G.r G_S0 1110 p0.toNat 0 3 rfl rfl
    have hpk := zz_pos2 (a := S0 1109 p0.toNat) (b := S0 1110 p0.toNat) (k := 0) (by omega) (by omega) (by omega) (by omega)
    refine zz_iload_n (x := x3) rfl zd_14_87_157 ?_
    refine zz_if_eq (by omega) zd_14_87_158 (fun c152 => ?_) (fun c152 => ?_)
    · refine zz_iload (x := x6) rfl zd_14_87_168 ?_
      refine zz_iload (x := x5) rfl zd_14_87_170 ?_
      refine zz_irem (by omega) (by omega) zd_14_87_172 (fun v153 hv153 av153 bv153 cv153 => ?_)
      refine zz_aload_n (x := 1079) rfl zd_14_87_173 ?_
      have g154 := zz_G.r G_S0 1079 1 2 8 rfl rfl
      refine zz_geti (z := S0 1079 1) zd_14_87_174 zf_Md_7 zT_1079 rfl (zz_ltn hn rfl) (zz_rc F_S rfl rfl (fun h => h) rfl) ?_
      refine zz_imul zd_14_87_177 ?_
      have m155 := zz_mulb (a := v153) (b := S0 1079 1) 34 8 272 (by omega) (by omega) (by decide)
      refine zz_istore [some (.ref 1079), some (zi p0), some (zi (S0 1107 p0.toNat)), some (zi x3), some (zi ((S0 1109 p0.toNat) * (S0 1110 p0.toNat))), some (zi x5), some (zi x6), some (zi (v153 * (S0 1079 1)))] zd_14_87_178 (by decide) rfl ?_
      refine zz_iload_n (x := x3) rfl zd_14_87_180 ?_
      refine zz_if_eq (by omega) zd_14_87_181 (fun c156 => ?_) (fun c156 => ?_)
      · refine zz_aload_n (x := 1079) rfl zd_14_87_191 ?_
        refine zz_geti (z := S0 1079 1) zd_14_87_192 zf_Md_7 zT_1079 rfl (zz_ltn hn rfl) (zz_rc F_S rfl rfl (fun h => h) rfl) ?_
        refine zz_aload_n (x := 1079) rfl zd_14_87_195 ?_
        refine zz_getr (kd := 0) (z := 1104) zd_14_87_196 zf_Md_94 zT_1079 rfl (zz_ltn hn rfl) (zz_G.eq G_S 1079 39 1104 rfl rfl) (by decide) 1104 rfl ?_
        refine zz_iload_n (x := S0 1107 p0.toNat) rfl zd_14_87_199 ?_
        have g157 := zz_G.r G_S0 1104 ((S0 1107 p0.toNat).toNat) 0 63 rfl rfl
        refine zz_iald (z := S0 1104 ((S0 1107 p0.toNat).toNat)) zd_14_87_200 zT_1104 rfl (zz_ltn hn rfl) (by decide) (by omega) (zz_rc F_S (zz_nc1 rfl) rfl (fun h => h) rfl) ?_
        refine zz_iload (x := v153 * (S0 1079 1)) rfl zd_14_87_201 ?_
        refine zz_isub zd_14_87_203 ?_
        refine zz_nme (fun v158 ev158 => ?_)
        refine zz_callSI [zi (S0 1079 1), zi v158] zd_14_87_204 zk_Md_506 rfl rfl ⟨Nat.le_of_ble_eq_true rfl, Nat.le_of_ble_eq_true rfl⟩ ⟨rfl, rfl⟩ (Nat.zero_le _) (Nat.zero_le _) (zc_least_14_85 (S0 1079 1) v158 S n hn G_S (by omega) (by omega)) (fun v160 S159 hP => ?_)
        obtain ⟨rfl, o161, o162⟩ := hP
        refine zz_istore [some (.ref 1079), some (zi p0), some (zi (S0 1107 p0.toNat)), some (zi x3), some (zi ((S0 1109 p0.toNat) * (S0 1110 p0.toNat))), some (zi x5), some (zi x6), some (zi (v153 * (S0 1079 1))), some (zi v160)] zd_14_87_207 (by decide) rfl ?_
        refine zz_aload_n (x := 1079) rfl zd_14_87_209 ?_
        refine zz_iload_n (x := p0) rfl zd_14_87_210 ?_
        refine zz_iload (x := x6) rfl zd_14_87_211 ?_
        refine zz_iload (x := x5) rfl zd_14_87_213 ?_
        refine zz_idiv (by omega) (by omega) zd_14_87_215 (fun v163 hv163 av163 bv163 cv163 => ?_)
        have m164 := zz_divb (by omega) (by omega) av163
        refine zz_aload_n (x := 1079) rfl zd_14_87_216 ?_
        refine zz_getr (kd := 0) (z := 1110) zd_14_87_217 zf_Md_112 zT_1079 rfl (zz_ltn hn rfl) (zz_G.eq G_S 1079 45 1110 rfl rfl) (by decide) 1110 rfl ?_
        refine zz_iload_n (x := p0) rfl zd_14_87_220 ?_
        have g165 := zz_G.r G_S0 1110 p0.toNat 0 3 rfl rfl
        refine zz_iald (z := S0 1110 p0.toNat) zd_14_87_221 zT_1110 rfl (zz_ltn hn rfl) (by decide) (by omega) (zz_rc F_S (zz_nc1 rfl) rfl (fun h => h) rfl) ?_
        refine zz_idiv (by omega) (by omega) zd_14_87_222 (fun v166 hv166 av166 bv166 cv166 => ?_)
        have m167 := zz_divb (by omega) (by omega) av166
        refine zz_iload (x := x6) rfl zd_14_87_223 ?_
        refine zz_iload (x := x5) rfl zd_14_87_225 ?_
        refine zz_idiv (by omega) (by omega) zd_14_87_227 (fun v168 hv168 av168 bv168 cv168 => ?_)
        have m169 := zz_divb (by omega) (by omega) av168
        refine zz_aload_n (x := 1079) rfl zd_14_87_228 ?_
        refine zz_getr (kd := 0) (z := 1110) zd_14_87_229 zf_Md_112 zT_1079 rfl (zz_ltn hn rfl) (zz_G.eq G_S 1079 45 1110 rfl rfl) (by decide) 1110 rfl ?_
        refine zz_iload_n (x := p0) rfl zd_14_87_232 ?_
        refine zz_iald (z := S0 1110 p0.toNat) zd_14_87_233 zT_1110 rfl (zz_ltn hn rfl) (by decide) (by omega) (zz_rc F_S (zz_nc1 rfl) rfl (fun h => h) rfl) ?_
        refine zz_irem (by omega) (by omega) zd_14_87_234 (fun v170 hv170 av170 bv170 cv170 => ?_)
        refine zz_iload (x := v153 * (S0 1079 1)) rfl zd_14_87_235 ?_
        refine zz_iload (x := v160) rfl zd_14_87_237 ?_
        refine zz_iload (x := x6) rfl zd_14_87_239 ?_
        refine zz_if_ne (by omega) zd_14_87_241 (fun c171 => ?_) (fun c171 => ?_)
        · refine zz_iconst zd_14_87_248 ?_
          have g172 := zz_G.r G_S 1079 10 0 1000000 rfl rfl
          refine zz_callVV [zi p0, zi v166, zi v170, zi (v153 * (S0 1079 1)), zi v160, zi 0] zd_14_87_249 zk_Md_498 zT_1079 (zz_ltn hn rfl) rfl rfl ⟨Nat.le_of_ble_eq_true rfl, Nat.le_of_ble_eq_true rfl⟩ ⟨rfl, rfl⟩ (Nat.zero_le _) (Nat.zero_le _) (zc_group_14_83 p0 v166 v170 (v153 * (S0 1079 1)) v160 0 S n hn G_S (by omega) (by omega) (by omega) (by omega) (by omega) (by omega) (by omega)) (fun S173 hP => ?_)
          obtain ⟨G_S173, fS173, o175⟩ := hP
          have F_S173 := zz_fr.trans F_S fS173 rfl zz_nv
          refine zz_aload_n (x := 1079) rfl zd_14_87_252 ?_
          refine zz_iload_n (x := p0) rfl zd_14_87_253 ?_
          refine zz_iload (x := v160) rfl zd_14_87_254 ?_
          refine zz_iload (x := x6) rfl zd_14_87_256 ?_
          refine zz_if_ne (by omega) zd_14_87_258 (fun c176 => ?_) (fun c176 => ?_)
          · refine zz_iconst zd_14_87_265 ?_
            refine zz_iload (x := x6) rfl zd_14_87_266 ?_
            refine zz_iload (x := (S0 1109 p0.toNat) * (S0 1110 p0.toNat)) rfl zd_14_87_268 ?_
            refine zz_iload (x := x5) rfl zd_14_87_270 ?_
            refine zz_imul zd_14_87_272 ?_
            refine zz_nrm (fun v177 hv177 ev177 => ?_)
            refine zz_iconst zd_14_87_273 ?_
            refine zz_isub zd_14_87_274 ?_
            refine zz_nrm (fun v178 hv178 ev178 => ?_)
            refine zz_icmp_ne (by omega) (by omega) zd_14_87_275 (fun c179 => ?_) (fun c179 => ?_)
            · refine zz_iconst zd_14_87_282 ?_
              have g180 := zz_G.r G_S173 1079 10 0 1000000 rfl rfl
              refine zz_callVV [zi p0, zi v160, zi 0, zi 0] zd_14_87_283 zk_Md_502 zT_1079 (zz_ltn hn rfl) rfl rfl ⟨Nat.le_of_ble_eq_true rfl, Nat.le_of_ble_eq_true rfl⟩ ⟨rfl, rfl⟩ (Nat.zero_le _) (Nat.zero_le _) (zc_works_14_86 p0 v160 0 0 S173 n hn G_S173 (by omega) (by omega) (by omega) (by omega) (by omega)) (fun S181 hP => ?_)
              obtain ⟨G_S181, fS181, o183⟩ := hP
              have F_S181 := zz_fr.trans F_S173 fS181 rfl zz_nv
              refine zz_iinc [some (.ref 1079), some (zi p0), some (zi (S0 1107 p0.toNat)), some (zi x3), some (zi ((S0 1109 p0.toNat) * (S0 1110 p0.toNat))), some (zi x5), some (zi (x6 + 1)), some (zi (v153 * (S0 1079 1))), some (zi v160)] zd_14_87_286 rfl rfl ?_
              refine zz_goto zd_14_87_289 ?_
              have g184 := zz_G.r G_S181 1079 10 0 1000000 rfl rfl
              refine zz_less (ls1 := [some (.ref 1079), some (zi p0), some (zi (S0 1107 p0.toNat)), some (zi x3), some (zi ((S0 1109 p0.toNat) * (S0 1110 p0.toNat))), some (zi x5), some (zi (x6 + 1))]) ⟨rfl, ⟨rfl, ⟨rfl, ⟨rfl, ⟨rfl, ⟨rfl, ⟨rfl, trivial⟩⟩⟩⟩⟩⟩⟩ ?_
              exact k147 x3 x5 (x6 + 1) S181 G_S181 F_S181 (by omega) (by omega) (by omega) (by omega) (by omega) (by omega) (by omega)
            · refine zz_iconst zd_14_87_278 ?_
              refine zz_goto zd_14_87_279 ?_
              have g185 := zz_G.r G_S173 1079 10 0 1000000 rfl rfl
              refine zz_callVV [zi p0, zi v160, zi 0, zi 1] zd_14_87_283 zk_Md_502 zT_1079 (zz_ltn hn rfl) rfl rfl ⟨Nat.le_of_ble_eq_true rfl, Nat.le_of_ble_eq_true rfl⟩ ⟨rfl, rfl⟩ (Nat.zero_le _) (Nat.zero_le _) (zc_works_14_86 p0 v160 0 1 S173 n hn G_S173 (by omega) (by omega) (by omega) (by omega) (by omega)) (fun S186 hP => ?_)
              obtain ⟨G_S186, fS186, o188⟩ := hP
              have F_S186 := zz_fr.trans F_S173 fS186 rfl zz_nv
              refine zz_iinc [some (.ref 1079), some (zi p0), some (zi (S0 1107 p0.toNat)), some (zi x3), some (zi ((S0 1109 p0.toNat) * (S0 1110 p0.toNat))), some (zi x5), some (zi (x6 + 1)), some (zi (v153 * (S0 1079 1))), some (zi v160)] zd_14_87_286 rfl rfl ?_
              refine zz_goto zd_14_87_289 ?_
              have g189 := zz_G.r G_S186 1079 10 0 1000000 rfl rfl
              refine zz_less (ls1 := [some (.ref 1079), some (zi p0), some (zi (S0 1107 p0.toNat)), some (zi x3), some (zi ((S0 1109 p0.toNat) * (S0 1110 p0.toNat))), some (zi x5), some (zi (x6 + 1))]) ⟨rfl, ⟨rfl, ⟨rfl, ⟨rfl, ⟨rfl, ⟨rfl, ⟨rfl, trivial⟩⟩⟩⟩⟩⟩⟩ ?_
              exact k147 x3 x5 (x6 + 1) S186 G_S186 F_S186 (by omega) (by omega) (by omega) (by omega) (by omega) (by omega) (by omega)
          · exfalso; omega
        · refine zz_iconst zd_14_87_244 ?_
          refine zz_goto zd_14_87_245 ?_
          have g190 := zz_G.r G_S 1079 10 0 1000000 rfl rfl
          refine zz_callVV [zi p0, zi v166, zi v170, zi (v153 * (S0 1079 1)), zi v160, zi 1] zd_14_87_249 zk_Md_498 zT_1079 (zz_ltn hn rfl) rfl rfl ⟨Nat.le_of_ble_eq_true rfl, Nat.le_of_ble_eq_true rfl⟩ ⟨rfl, rfl⟩ (Nat.zero_le _) (Nat.zero_le _) (zc_group_14_83 p0 v166 v170 (v153 * (S0 1079 1)) v160 1 S n hn G_S (by omega) (by omega) (by omega) (by omega) (by omega) (by omega) (by omega)) (fun S191 hP => ?_)
          obtain ⟨G_S191, fS191, o193⟩ := hP
          have F_S191 := zz_fr.trans F_S fS191 rfl zz_nv
          refine zz_aload_n (x := 1079) rfl zd_14_87_252 ?_
          refine zz_iload_n (x := p0) rfl zd_14_87_253 ?_
          refine zz_iload (x := v160) rfl zd_14_87_254 ?_
          refine zz_iload (x := x6) rfl zd_14_87_256 ?_
          refine zz_if_ne (by omega) zd_14_87_258 (fun c194 => ?_) (fun c194 => ?_)
          · exfalso; omega
          · refine zz_iconst zd_14_87_261 ?_
            refine zz_goto zd_14_87_262 ?_
            refine zz_iload (x := x6) rfl zd_14_87_266 ?_
            refine zz_iload (x := (S0 1109 p0.toNat) * (S0 1110 p0.toNat)) rfl zd_14_87_268 ?_
            refine zz_iload (x := x5) rfl zd_14_87_270 ?_
            refine zz_imul zd_14_87_272 ?_
            refine zz_nrm (fun v195 hv195 ev195 => ?_)
            refine zz_iconst zd_14_87_273 ?_
            refine zz_isub zd_14_87_274 ?_
            refine zz_nrm (fun v196 hv196 ev196 => ?_)
            refine zz_icmp_ne (by omega) (by omega) zd_14_87_275 (fun c197 => ?_) (fun c197 => ?_)
            · refine zz_iconst zd_14_87_282 ?_
              have g198 := zz_G.r G_S191 1079 10 0 1000000 rfl rfl
              refine zz_callVV [zi p0, zi v160, zi 1, zi 0] zd_14_87_283 zk_Md_502 zT_1079 (zz_ltn hn rfl) rfl rfl ⟨Nat.le_of_ble_eq_true rfl, Nat.le_of_ble_eq_true rfl⟩ ⟨rfl, rfl⟩ (Nat.zero_le _) (Nat.zero_le _) (zc_works_14_86 p0 v160 1 0 S191 n hn G_S191 (by omega) (by omega) (by omega) (by omega) (by omega)) (fun S199 hP => ?_)
              obtain ⟨G_S199, fS199, o201⟩ := hP
              have F_S199 := zz_fr.trans F_S191 fS199 rfl zz_nv
              refine zz_iinc [some (.ref 1079), some (zi p0), some (zi (S0 1107 p0.toNat)), some (zi x3), some (zi ((S0 1109 p0.toNat) * (S0 1110 p0.toNat))), some (zi x5), some (zi (x6 + 1)), some (zi (v153 * (S0 1079 1))), some (zi v160)] zd_14_87_286 rfl rfl ?_
              refine zz_goto zd_14_87_289 ?_
              have g202 := zz_G.r G_S199 1079 10 0 1000000 rfl rfl
              refine zz_less (ls1 := [some (.ref 1079), some (zi p0), some (zi (S0 1107 p0.toNat)), some (zi x3), some (zi ((S0 1109 p0.toNat) * (S0 1110 p0.toNat))), some (zi x5), some (zi (x6 + 1))]) ⟨rfl, ⟨rfl, ⟨rfl, ⟨rfl, ⟨rfl, ⟨rfl, ⟨rfl, trivial⟩⟩⟩⟩⟩⟩⟩ ?_
              exact k147 x3 x5 (x6 + 1) S199 G_S199 F_S199 (by omega) (by omega) (by omega) (by omega) (by omega) (by omega) (by omega)
            · refine zz_iconst zd_14_87_278 ?_
              refine zz_goto zd_14_87_279 ?_
              have g203 := zz_G.r G_S191 1079 10 0 1000000 rfl rfl
              refine zz_callVV [zi p0, zi v160, zi 1, zi 1] zd_14_87_283 zk_Md_502 zT_1079 (zz_ltn hn rfl) rfl rfl ⟨Nat.le_of_ble_eq_true rfl, Nat.le_of_ble_eq_true rfl⟩ ⟨rfl, rfl⟩ (Nat.zero_le _) (Nat.zero_le _) (zc_works_14_86 p0 v160 1 1 S191 n hn G_S191 (by omega) (by omega) (by omega) (by omega) (by omega)) (fun S204 hP => ?_)
              obtain ⟨G_S204, fS204, o206⟩ := hP
              have F_S204 := zz_fr.trans F_S191 fS204 rfl zz_nv
              refine zz_iinc [some (.ref 1079), some (zi p0), some (zi (S0 1107 p0.toNat)), some (zi x3), some (zi ((S0 1109 p0.toNat) * (S0 1110 p0.toNat))), some (zi x5), some (zi (x6 + 1)), some (zi (v153 * (S0 1079 1))), some (zi v160)] zd_14_87_286 rfl rfl ?_
              refine zz_goto zd_14_87_289 ?_
              have g207 := zz_G.r G_S204 1079 10 0 1000000 rfl rfl
              refine zz_less (ls1 := [some (.ref 1079), some (zi p0), some (zi (S0 1107 p0.toNat)), some (zi x3), some (zi ((S0 1109 p0.toNat) * (S0 1110 p0.toNat))), some (zi x5), some (zi (x6 + 1))]) ⟨rfl, ⟨rfl, ⟨rfl, ⟨rfl, ⟨rfl, ⟨rfl, ⟨rfl, trivial⟩⟩⟩⟩⟩⟩⟩ ?_
              exact k147 x3 x5 (x6 + 1) S204 G_S204 F_S204 (by omega) (by omega) (by omega) (by omega) (by omega) (by omega) (by omega)
      · exfalso; omega
    · refine zz_aload_n (x := 1079) rfl zd_14_87_161 ?_
      have g208 := zz_G.r G_S0 1079 56 (-2147483648) 2147483647 rfl rfl
      refine zz_geti (z := S0 1079 56) zd_14_87_162 zf_Md_466 zT_1079 rfl (zz_ltn hn rfl) (zz_rc F_S rfl rfl (fun h => h) rfl) ?_
      refine zz_goto zd_14_87_165 ?_
      refine zz_istore [some (.ref 1079), some (zi p0), some (zi (S0 1107 p0.toNat)), some (zi x3), some (zi ((S0 1109 p0.toNat) * (S0 1110 p0.toNat))), some (zi x5), some (zi x6), some (zi (S0 1079 56))] zd_14_87_178 (by decide) rfl ?_
      refine zz_iload_n (x := x3) rfl zd_14_87_180 ?_
      refine zz_if_eq (by omega) zd_14_87_181 (fun c209 => ?_) (fun c209 => ?_)
      · exfalso; omega
      · refine zz_aload_n (x := 1079) rfl zd_14_87_184 ?_
        have g210 := zz_G.r G_S0 1079 53 (-2147483648) 2147483647 rfl rfl
        refine zz_geti (z := S0 1079 53) zd_14_87_185 zf_Md_472 zT_1079 rfl (zz_ltn hn rfl) (zz_rc F_S rfl rfl (fun h => h) rfl) ?_
        refine zz_goto zd_14_87_188 ?_
        refine zz_istore [some (.ref 1079), some (zi p0), some (zi (S0 1107 p0.toNat)), some (zi x3), some (zi ((S0 1109 p0.toNat) * (S0 1110 p0.toNat))), some (zi x5), some (zi x6), some (zi (S0 1079 56)), some (zi (S0 1079 53))] zd_14_87_207 (by decide) rfl ?_
        refine zz_aload_n (x := 1079) rfl zd_14_87_209 ?_
        refine zz_iload_n (x := p0) rfl zd_14_87_210 ?_
        refine zz_iload (x := x6) rfl zd_14_87_211 ?_
        refine zz_iload (x := x5) rfl zd_14_87_213 ?_
        refine zz_idiv (by omega) (by omega) zd_14_87_215 (fun v211 hv211 av211 bv211 cv211 => ?_)
        have m212 := zz_divb (by omega) (by omega) av211
        refine zz_aload_n (x := 1079) rfl zd_14_87_216 ?_
        refine zz_getr (kd := 0) (z := 1110) zd_14_87_217 zf_Md_112 zT_1079 rfl (zz_ltn hn rfl) (zz_G.eq G_S 1079 45 1110 rfl rfl) (by decide) 1110 rfl ?_
        refine zz_iload_n (x := p0) rfl zd_14_87_220 ?_
        have g213 := zz_G.r G_S0 1110 p0.toNat 0 3 rfl rfl
        refine zz_iald (z := S0 1110 p0.toNat) zd_14_87_221 zT_1110 rfl (zz_ltn hn rfl) (by decide) (by omega) (zz_rc F_S (zz_nc1 rfl) rfl (fun h => h) rfl) ?_
        refine zz_idiv (by omega) (by omega) zd_14_87_222 (fun v214 hv214 av214 bv214 cv214 => ?_)
        have m215 := zz_divb (by omega) (by omega) av214
        refine zz_iload (x := x6) rfl zd_14_87_223 ?_
        refine zz_iload (x := x5) rfl zd_14_87_225 ?_
        refine zz_idiv (by omega) (by omega) zd_14_87_227 (fun v216 hv216 av216 bv216 cv216 => ?_)
        have m217 := zz_divb (by omega) (by omega) av216
        refine zz_aload_n (x := 1079) rfl zd_14_87_228 ?_
        refine zz_getr (kd := 0) (z := 1110) zd_14_87_229 zf_Md_112 zT_1079 rfl (zz_ltn hn rfl) (zz_G.eq G_S 1079 45 1110 rfl rfl) (by decide) 1110 rfl ?_
        refine zz_iload_n (x := p0) rfl zd_14_87_232 ?_
        refine zz_iald (z := S0 1110 p0.toNat) zd_14_87_233 zT_1110 rfl (zz_ltn hn rfl) (by decide) (by omega) (zz_rc F_S (zz_nc1 rfl) rfl (fun h => h) rfl) ?_
        refine zz_irem (by omega) (by omega) zd_14_87_234 (fun v218 hv218 av218 bv218 cv218 => ?_)
        refine zz_iload (x := S0 1079 56) rfl zd_14_87_235 ?_
        refine zz_iload (x := S0 1079 53) rfl zd_14_87_237 ?_
        refine zz_iload (x := x6) rfl zd_14_87_239 ?_
        refine zz_if_ne (by omega) zd_14_87_241 (fun c219 => ?_) (fun c219 => ?_)
        · refine zz_iconst zd_14_87_248 ?_
          have g220 := zz_G.r G_S 1079 10 0 1000000 rfl rfl
          refine zz_callVV [zi p0, zi v214, zi v218, zi (S0 1079 56), zi (S0 1079 53), zi 0] zd_14_87_249 zk_Md_498 zT_1079 (zz_ltn hn rfl) rfl rfl ⟨Nat.le_of_ble_eq_true rfl, Nat.le_of_ble_eq_true rfl⟩ ⟨rfl, rfl⟩ (Nat.zero_le _) (Nat.zero_le _) (zc_group_14_83 p0 v214 v218 (S0 1079 56) (S0 1079 53) 0 S n hn G_S (by omega) (by omega) (by omega) (by omega) (by omega) (by omega) (by omega)) (fun S221 hP => ?_)
          obtain ⟨G_S221, fS221, o223⟩ := hP
          have F_S221 := zz_fr.trans F_S fS221 rfl zz_nv
          refine zz_aload_n (x := 1079) rfl zd_14_87_252 ?_
          refine zz_iload_n (x := p0) rfl zd_14_87_253 ?_
          refine zz_iload (x := S0 1079 53) rfl zd_14_87_254 ?_
          refine zz_iload (x := x6) rfl zd_14_87_256 ?_
          refine zz_if_ne (by omega) zd_14_87_258 (fun c224 => ?_) (fun c224 => ?_)
          · refine zz_iconst zd_14_87_265 ?_
            refine zz_iload (x := x6) rfl zd_14_87_266 ?_
            refine zz_iload (x := (S0 1109 p0.toNat) * (S0 1110 p0.toNat)) rfl zd_14_87_268 ?_
            refine zz_iload (x := x5) rfl zd_14_87_270 ?_
            refine zz_imul zd_14_87_272 ?_
            refine zz_nrm (fun v225 hv225 ev225 => ?_)
            refine zz_iconst zd_14_87_273 ?_
            refine zz_isub zd_14_87_274 ?_
            refine zz_nrm (fun v226 hv226 ev226 => ?_)
            refine zz_icmp_ne (by omega) (by omega) zd_14_87_275 (fun c227 => ?_) (fun c227 => ?_)
            · refine zz_iconst zd_14_87_282 ?_
              have g228 := zz_G.r G_S221 1079 10 0 1000000 rfl rfl
              refine zz_callVV [zi p0, zi (S0 1079 53), zi 0, zi 0] zd_14_87_283 zk_Md_502 zT_1079 (zz_ltn hn rfl) rfl rfl ⟨Nat.le_of_ble_eq_true rfl, Nat.le_of_ble_eq_true rfl⟩ ⟨rfl, rfl⟩ (Nat.zero_le _) (Nat.zero_le _) (zc_works_14_86 p0 (S0 1079 53) 0 0 S221 n hn G_S221 (by omega) (by omega) (by omega) (by omega) (by omega)) (fun S229 hP => ?_)
              obtain ⟨G_S229, fS229, o231⟩ := hP
              have F_S229 := zz_fr.trans F_S221 fS229 rfl zz_nv
              refine zz_iinc [some (.ref 1079), some (zi p0), some (zi (S0 1107 p0.toNat)), some (zi x3), some (zi ((S0 1109 p0.toNat) * (S0 1110 p0.toNat))), some (zi x5), some (zi (x6 + 1)), some (zi (S0 1079 56)), some (zi (S0 1079 53))] zd_14_87_286 rfl rfl ?_
              refine zz_goto zd_14_87_289 ?_
              have g232 := zz_G.r G_S229 1079 10 0 1000000 rfl rfl
              refine zz_less (ls1 := [some (.ref 1079), some (zi p0), some (zi (S0 1107 p0.toNat)), some (zi x3), some (zi ((S0 1109 p0.toNat) * (S0 1110 p0.toNat))), some (zi x5), some (zi (x6 + 1))]) ⟨rfl, ⟨rfl, ⟨rfl, ⟨rfl, ⟨rfl, ⟨rfl, ⟨rfl, trivial⟩⟩⟩⟩⟩⟩⟩ ?_
              exact k147 x3 x5 (x6 + 1) S229 G_S229 F_S229 (by omega) (by omega) (by omega) (by omega) (by omega) (by omega) (by omega)
            · refine zz_iconst zd_14_87_278 ?_
              refine zz_goto zd_14_87_279 ?_
              have g233 := zz_G.r G_S221 1079 10 0 1000000 rfl rfl
              refine zz_callVV [zi p0, zi (S0 1079 53), zi 0, zi 1] zd_14_87_283 zk_Md_502 zT_1079 (zz_ltn hn rfl) rfl rfl ⟨Nat.le_of_ble_eq_true rfl, Nat.le_of_ble_eq_true rfl⟩ ⟨rfl, rfl⟩ (Nat.zero_le _) (Nat.zero_le _) (zc_works_14_86 p0 (S0 1079 53) 0 1 S221 n hn G_S221 (by omega) (by omega) (by omega) (by omega) (by omega)) (fun S234 hP => ?_)
              obtain ⟨G_S234, fS234, o236⟩ := hP
              have F_S234 := zz_fr.trans F_S221 fS234 rfl zz_nv
              refine zz_iinc [some (.ref 1079), some (zi p0), some (zi (S0 1107 p0.toNat)), some (zi x3), some (zi ((S0 1109 p0.toNat) * (S0 1110 p0.toNat))), some (zi x5), some (zi (x6 + 1)), some (zi (S0 1079 56)), some (zi (S0 1079 53))] zd_14_87_286 rfl rfl ?_
              refine zz_goto zd_14_87_289 ?_
              have g237 := zz_G.r G_S234 1079 10 0 1000000 rfl rfl
              refine zz_less (ls1 := [some (.ref 1079), some (zi p0), some (zi (S0 1107 p0.toNat)), some (zi x3), some (zi ((S0 1109 p0.toNat) * (S0 1110 p0.toNat))), some (zi x5), some (zi (x6 + 1))]) ⟨rfl, ⟨rfl, ⟨rfl, ⟨rfl, ⟨rfl, ⟨rfl, ⟨rfl, trivial⟩⟩⟩⟩⟩⟩⟩ ?_
              exact k147 x3 x5 (x6 + 1) S234 G_S234 F_S234 (by omega) (by omega) (by omega) (by omega) (by omega) (by omega) (by omega)
          · exfalso; omega
        · refine zz_iconst zd_14_87_244 ?_
          refine zz_goto zd_14_87_245 ?_
          have g238 := zz_G.r G_S 1079 10 0 1000000 rfl rfl
          refine zz_callVV [zi p0, zi v214, zi v218, zi (S0 1079 56), zi (S0 1079 53), zi 1] zd_14_87_249 zk_Md_498 zT_1079 (zz_ltn hn rfl) rfl rfl ⟨Nat.le_of_ble_eq_true rfl, Nat.le_of_ble_eq_true rfl⟩ ⟨rfl, rfl⟩ (Nat.zero_le _) (Nat.zero_le _) (zc_group_14_83 p0 v214 v218 (S0 1079 56) (S0 1079 53) 1 S n hn G_S (by omega) (by omega) (by omega) (by omega) (by omega) (by omega) (by omega)) (fun S239 hP => ?_)
          obtain ⟨G_S239, fS239, o241⟩ := hP
          have F_S239 := zz_fr.trans F_S fS239 rfl zz_nv
          refine zz_aload_n (x := 1079) rfl zd_14_87_252 ?_
          refine zz_iload_n (x := p0) rfl zd_14_87_253 ?_
          refine zz_iload (x := S0 1079 53) rfl zd_14_87_254 ?_
          refine zz_iload (x := x6) rfl zd_14_87_256 ?_
          refine zz_if_ne (by omega) zd_14_87_258 (fun c242 => ?_) (fun c242 => ?_)
          · exfalso; omega
          · refine zz_iconst zd_14_87_261 ?_
            refine zz_goto zd_14_87_262 ?_
            refine zz_iload (x := x6) rfl zd_14_87_266 ?_
            refine zz_iload (x := (S0 1109 p0.toNat) * (S0 1110 p0.toNat)) rfl zd_14_87_268 ?_
            refine zz_iload (x := x5) rfl zd_14_87_270 ?_
            refine zz_imul zd_14_87_272 ?_
            refine zz_nrm (fun v243 hv243 ev243 => ?_)
            refine zz_iconst zd_14_87_273 ?_
            refine zz_isub zd_14_87_274 ?_
            refine zz_nrm (fun v244 hv244 ev244 => ?_)
            refine zz_icmp_ne (by omega) (by omega) zd_14_87_275 (fun c245 => ?_) (fun c245 => ?_)
            · refine zz_iconst zd_14_87_282 ?_
              have g246 := zz_G.r G_S239 1079 10 0 1000000 rfl rfl
              refine zz_callVV [zi p0, zi (S0 1079 53), zi 1, zi 0] zd_14_87_283 zk_Md_502 zT_1079 (zz_ltn hn rfl) rfl rfl ⟨Nat.le_of_ble_eq_true rfl, Nat.le_of_ble_eq_true rfl⟩ ⟨rfl, rfl⟩ (Nat.zero_le _) (Nat.zero_le _) (zc_works_14_86 p0 (S0 1079 53) 1 0 S239 n hn G_S239 (by omega) (by omega) (by omega) (by omega) (by omega)) (fun S247 hP => ?_)
              obtain ⟨G_S247, fS247, o249⟩ := hP
              have F_S247 := zz_fr.trans F_S239 fS247 rfl zz_nv
              refine zz_iinc [some (.ref 1079), some (zi p0), some (zi (S0 1107 p0.toNat)), some (zi x3), some (zi ((S0 1109 p0.toNat) * (S0 1110 p0.toNat))), some (zi x5), some (zi (x6 + 1)), some (zi (S0 1079 56)), some (zi (S0 1079 53))] zd_14_87_286 rfl rfl ?_
              refine zz_goto zd_14_87_289 ?_
              have g250 := zz_G.r G_S247 1079 10 0 1000000 rfl rfl
              refine zz_less (ls1 := [some (.ref 1079), some (zi p0), some (zi (S0 1107 p0.toNat)), some (zi x3), some (zi ((S0 1109 p0.toNat) * (S0 1110 p0.toNat))), some (zi x5), some (zi (x6 + 1))]) ⟨rfl, ⟨rfl, ⟨rfl, ⟨rfl, ⟨rfl, ⟨rfl, ⟨rfl, trivial⟩⟩⟩⟩⟩⟩⟩ ?_
              exact k147 x3 x5 (x6 + 1) S247 G_S247 F_S247 (by omega) (by omega) (by omega) (by omega) (by omega) (by omega) (by omega)
            · refine zz_iconst zd_14_87_278 ?_
              refine zz_goto zd_14_87_279 ?_
              have g251 := zz_G.r G_S239 1079 10 0 1000000 rfl rfl
              refine zz_callVV [zi p0, zi (S0 1079 53), zi 1, zi 1] zd_14_87_283 zk_Md_502 zT_1079 (zz_ltn hn rfl) rfl rfl ⟨Nat.le_of_ble_eq_true rfl, Nat.le_of_ble_eq_true rfl⟩ ⟨rfl, rfl⟩ (Nat.zero_le _) (Nat.zero_le _) (zc_works_14_86 p0 (S0 1079 53) 1 1 S239 n hn G_S239 (by omega) (by omega) (by omega) (by omega) (by omega)) (fun S252 hP => ?_)
              obtain ⟨G_S252, fS252, o254⟩ := hP
              have F_S252 := zz_fr.trans F_S239 fS252 rfl zz_nv
              refine zz_iinc [some (.ref 1079), some (zi p0), some (zi (S0 1107 p0.toNat)), some (zi x3), some (zi ((S0 1109 p0.toNat) * (S0 1110 p0.toNat))), some (zi x5), some (zi (x6 + 1)), some (zi (S0 1079 56)), some (zi (S0 1079 53))] zd_14_87_286 rfl rfl ?_
              refine zz_goto zd_14_87_289 ?_
              have g255 := zz_G.r G_S252 1079 10 0 1000000 rfl rfl
              refine zz_less (ls1 := [some (.ref 1079), some (zi p0), some (zi (S0 1107 p0.toNat)), some (zi x3), some (zi ((S0 1109 p0.toNat) * (S0 1110 p0.toNat))), some (zi x5), some (zi (x6 + 1))]) ⟨rfl, ⟨rfl, ⟨rfl, ⟨rfl, ⟨rfl, ⟨rfl, ⟨rfl, trivial⟩⟩⟩⟩⟩⟩⟩ ?_
              exact k147 x3 x5 (x6 + 1) S252 G_S252 F_S252 (by omega) (by omega) (by omega) (by omega) (by omega) (by omega) (by omega)
theorem zi_tile_14_87 {g : mm_G} {l : Launch} (p0 : Int) (S0 : zz_S) (n : Nat) (hn : zz_end ≤ n) (G_S0 : zz_G S0) (hp0 : 0 ≤ p0 ∧ p0 ≤ 9) (hq : S0 1079 10 ≤ 600) : ∀ N : Nat, (∀ (x3 : Int) (S : zz_S), zz_G S → zz_fr [(1079, 10), (1079, 50), (1079, 51), (1079, 57), (1079, 60)] [1086, 1087] (fun _ _ => False) S0 S → (0 ≤ x3 ∧ x3 ≤ 2) → (S0 1106 p0.toNat = 2) → (S0 1079 10 ≤ S 1079 10 ∧ S 1079 10 ≤ S0 1079 10 + 6 * x3) → (34359738368 + (2 - x3).toNat) < N → zz_E g l zy_tile_14_87 zr_tile_14_87 (zz_QV n (zp_tile_14_87 p0 S0)) S n 19 [some (.ref 1079), some (zi p0), none, some (zi x3)] [] 0 0) ∧ (∀ (x3 : Int) (x5 : Int) (x6 : Int) (S : zz_S), zz_G S → zz_fr [(1079, 10), (1079, 50), (1079, 51), (1079, 57), (1079, 60)] [1086, 1087] (fun _ _ => False) S0 S → (0 ≤ x3 ∧ x3 ≤ 1) → (0 ≤ x5 ∧ x5 ≤ 35) → (0 ≤ x6 ∧ x6 ≤ 2147483647) → (S0 1106 p0.toNat ≠ 2) → (S0 1079 10 ≤ S 1079 10 ∧ S 1079 10 ≤ S0 1079 10 + 6 * x6) → (x4 = (S0 1109 p0.toNat) * (S0 1110 p0.toNat)) → (17179869184 + (400 - x6).toNat) < N → zz_E g l zy_tile_14_87 zr_tile_14_87 (zz_QV n (zp_tile_14_87 p0 S0)) S n 147 [some (.ref 1079), some (zi p0), some (zi (S0 1107 p0.toNat)), some (zi x3), some (zi ((S0 1109 p0.toNat) * (S0 1110 p0.toNat))), some (zi x5), some (zi x6)] [] 0 0) := by
  intro N
  induction N with
  | zero => exact ⟨fun x3 S _ _ _ _ _ h => absurd h (Nat.not_lt_zero _), fun x3 x5 x6 S _ _ _ _ _ _ _ _ h => absurd h (Nat.not_lt_zero _)⟩
  | succ N ih =>
    exact ⟨fun x3 S a b j0 j1 j2 hR => zb_tile_14_87_19 p0 S0 n hn G_S0 hp0 hq x3 S a b j0 j1 j2 _ rfl (fun x3 S a b j0 j1 j2 h => ih.1 x3 S a b j0 j1 j2 (Nat.lt_of_lt_of_le h (Nat.le_of_lt_succ hR))),
      fun x3 x5 x6 S a b j0 j1 j2 j3 j4 j5 hR => zb_tile_14_87_147 p0 S0 n hn G_S0 hp0 hq x3 x5 x6 S a b j0 j1 j2 j3 j4 j5 _ rfl (fun x3 x5 x6 S a b j0 j1 j2 j3 j4 j5 h => ih.2 x3 x5 x6 S a b j0 j1 j2 j3 j4 j5 (Nat.lt_of_lt_of_le h (Nat.le_of_lt_succ hR)))⟩
theorem zc_tile_14_87 {g : mm_G} {l : Launch} (p0 : Int) (S0 : zz_S) (n : Nat) (hn : zz_end ≤ n) (G_S0 : zz_G S0) (hp0 : 0 ≤ p0 ∧ p0 ≤ 9) (hq : S0 1079 10 ≤ 600) : mm_Met g l zy_tile_14_87 zr_tile_14_87 [.ref 1079, zi p0] (zz_M S0 n) n (zz_QV n (zp_tile_14_87 p0 S0)) := by
  refine zz_enter (by decide) (Nat.le_of_ble_eq_true rfl) (zz_less (ls1 := [some (.ref 1079), some (zi p0)]) ⟨rfl, ⟨rfl, trivial⟩⟩ ?_)
  have F_S0 : zz_fr [(1079, 10), (1079, 50), (1079, 51), (1079, 57), (1079, 60)] [1086, 1087] (fun _ _ => False) S0 S0 := zz_fr.refl
  have k19 : ∀ (x3 : Int) (S : zz_S), zz_G S → zz_fr [(1079, 10), (1079, 50), (1079, 51), (1079, 57), (1079, 60)] [1086, 1087] (fun _ _ => False) S0 S → (0 ≤ x3 ∧ x3 ≤ 2) → (S0 1106 p0.toNat = 2) → (S0 1079 10 ≤ S 1079 10 ∧ S 1079 10 ≤ S0 1079 10 + 6 * x3) → zz_E g l zy_tile_14_87 zr_tile_14_87 (zz_QV n (zp_tile_14_87 p0 S0)) S n 19 [some (.ref 1079), some (zi p0), none, some (zi x3)] [] 0 0 := fun x3 S a b j0 j1 j2 => (zi_tile_14_87 (g := g) (l := l) p0 S0 n hn G_S0 hp0 hq _).1 x3 S a b j0 j1 j2 (Nat.lt_succ_self _)
  have k147 : ∀ (x3 : Int) (x5 : Int) (x6 : Int) (S : zz_S), zz_G S → zz_fr [(1079, 10), (1079, 50), (1079, 51), (1079, 57), (1079, 60)] [1086, 1087] (fun _ _ => False) S0 S → (0 ≤ x3 ∧ x3 ≤ 1) → (0 ≤ x5 ∧ x5 ≤ 35) → (0 ≤ x6 ∧ x6 ≤ 2147483647) → (S0 1106 p0.toNat ≠ 2) → (S0 1079 10 ≤ S 1079 10 ∧ S 1079 10 ≤ S0 1079 10 + 6 * x6) → (x4 = (S0 1109 p0.toNat) * (S0 1110 p0.toNat)) → zz_E g l zy_tile_14_87 zr_tile_14_87 (zz_QV n (zp_tile_14_87 p0 S0)) S n 147 [some (.ref 1079), some (zi p0), some (zi (S0 1107 p0.toNat)), some (zi x3), some (zi ((S0 1109 p0.toNat) * (S0 1110 p0.toNat))), some (zi x5), some (zi x6)] [] 0 0 := fun x3 x5 x6 S a b j0 j1 j2 j3 j4 j5 => (zi_tile_14_87 (g := g) (l := l) p0 S0 n hn G_S0 hp0 hq _).2 x3 x5 x6 S a b j0 j1 j2 j3 j4 j5 (Nat.lt_succ_self _)
  refine zz_aload_n (x := 1079) rfl zd_14_87_0 ?_
  refine zz_getr (kd := 0) (z := 1107) zd_14_87_1 zf_Md_103 zT_1079 rfl (zz_ltn hn rfl) (zz_G.eq G_S0 1079 42 1107 rfl rfl) (by decide) 1107 rfl ?_
  refine zz_iload_n (x := p0) rfl zd_14_87_4 ?_
  have g1 := zz_G.r G_S0 1107 p0.toNat 0 10 rfl rfl
  refine zz_iald (z := S0 1107 p0.toNat) zd_14_87_5 zT_1107 rfl (zz_ltn hn rfl) (by decide) (by omega) rfl ?_
  refine zz_istore_n [some (.ref 1079), some (zi p0), some (zi (S0 1107 p0.toNat))] zd_14_87_6 (by decide) rfl ?_
  refine zz_aload_n (x := 1079) rfl zd_14_87_7 ?_
  refine zz_getr (kd := 0) (z := 1106) zd_14_87_8 zf_Md_100 zT_1079 rfl (zz_ltn hn rfl) (zz_G.eq G_S0 1079 41 1106 rfl rfl) (by decide) 1106 rfl ?_
  refine zz_iload_n (x := p0) rfl zd_14_87_11 ?_
  have g2 := zz_G.r G_S0 1106 p0.toNat 0 2 rfl rfl
  refine zz_iald (z := S0 1106 p0.toNat) zd_14_87_12 zT_1106 rfl (zz_ltn hn rfl) (by decide) (by omega) rfl ?_
  refine zz_iconst zd_14_87_13 ?_
  refine zz_icmp_ne (by omega) (by omega) zd_14_87_14 (fun c3 => ?_) (fun c3 => ?_)
  · refine zz_aload_n (x := 1079) rfl zd_14_87_85 ?_
    refine zz_getr (kd := 0) (z := 1106) zd_14_87_86 zf_Md_100 zT_1079 rfl (zz_ltn hn rfl) (zz_G.eq G_S0 1079 41 1106 rfl rfl) (by decide) 1106 rfl ?_
    refine zz_iload_n (x := p0) rfl zd_14_87_89 ?_
    refine zz_iald (z := S0 1106 p0.toNat) zd_14_87_90 zT_1106 rfl (zz_ltn hn rfl) (by decide) (by omega) rfl ?_
    refine zz_iconst zd_14_87_91 ?_
    refine zz_icmp_ne (by omega) (by omega) zd_14_87_92 (fun c4 => ?_) (fun c4 => ?_)
    · refine zz_iconst zd_14_87_99 ?_
      refine zz_istore_n [some (.ref 1079), some (zi p0), some (zi (S0 1107 p0.toNat)), some (zi 0)] zd_14_87_100 (by decide) rfl ?_
      refine zz_aload_n (x := 1079) rfl zd_14_87_101 ?_
      refine zz_getr (kd := 0) (z := 1109) zd_14_87_102 zf_Md_109 zT_1079 rfl (zz_ltn hn rfl) (zz_G.eq G_S0 1079 44 1109 rfl rfl) (by decide) 1109 rfl ?_
      refine zz_iload_n (x := p0) rfl zd_14_87_105 ?_
      have g5 := zz_G.r G_S0 1109 p0.toNat 0 3 rfl rfl
      refine zz_iald (z := S0 1109 p0.toNat) zd_14_87_106 zT_1109 rfl (zz_ltn hn rfl) (by decide) (by omega) rfl ?_
      refine zz_aload_n (x := 1079) rfl zd_14_87_107 ?_
      refine zz_getr (kd := 0) (z := 1110) zd_14_87_108 zf_Md_112 zT_1079 rfl (zz_ltn hn rfl) (zz_G.eq G_S0 1079 45 1110 rfl rfl) (by decide) 1110 rfl ?_
      refine zz_iload_n (x := p0) rfl zd_14_87_111 ?_
      have g6 := zz_G.r G_S0 1110 p0.toNat 0 3 rfl rfl
      refine zz_iald (z := S0 1110 p0.toNat) zd_14_87_112 zT_1110 rfl (zz_ltn hn rfl) (by decide) (by omega) rfl ?_
      refine zz_imul zd_14_87_113 ?_
      have m7 := zz_mulb (a := S0 1109 p0.toNat) (b := S0 1110 p0.toNat) 3 3 9 (by omega) (by omega) (by decide)
      refine zz_istore [some (.ref 1079), some (zi p0), some (zi (S0 1107 p0.toNat)), some (zi 0), some (zi ((S0 1109 p0.toNat) * (S0 1110 p0.toNat)))] zd_14_87_114 (by decide) rfl ?_
      refine zz_iload_n (x := 0) rfl zd_14_87_116 ?_
      refine zz_if_eq (by omega) zd_14_87_117 (fun c8 => ?_) (fun c8 => ?_)
      · refine zz_aload_n (x := 1079) rfl zd_14_87_124 ?_
        refine zz_getr (kd := 0) (z := 1104) zd_14_87_125 zf_Md_94 zT_1079 rfl (zz_ltn hn rfl) (zz_G.eq G_S0 1079 39 1104 rfl rfl) (by decide) 1104 rfl ?_
        refine zz_iload_n (x := S0 1107 p0.toNat) rfl zd_14_87_128 ?_
        have g9 := zz_G.r G_S0 1104 ((S0 1107 p0.toNat).toNat) 0 63 rfl rfl
        refine zz_iald (z := S0 1104 ((S0 1107 p0.toNat).toNat)) zd_14_87_129 zT_1104 rfl (zz_ltn hn rfl) (by decide) (by omega) rfl ?_
        refine zz_aload_n (x := 1079) rfl zd_14_87_130 ?_
        have g10 := zz_G.r G_S0 1079 1 2 8 rfl rfl
        refine zz_geti (z := S0 1079 1) zd_14_87_131 zf_Md_7 zT_1079 rfl (zz_ltn hn rfl) rfl ?_
        refine zz_iadd zd_14_87_134 ?_
        refine zz_nme (fun v11 ev11 => ?_)
        refine zz_iconst zd_14_87_135 ?_
        refine zz_isub zd_14_87_136 ?_
        refine zz_aload_n (x := 1079) rfl zd_14_87_137 ?_
        refine zz_geti (z := S0 1079 1) zd_14_87_138 zf_Md_7 zT_1079 rfl (zz_ltn hn rfl) rfl ?_
        refine zz_idiv (by omega) (by omega) zd_14_87_141 (fun v12 hv12 av12 bv12 cv12 => ?_)
        have m13 := zz_divb (by omega) (by omega) av12
        refine zz_istore [some (.ref 1079), some (zi p0), some (zi (S0 1107 p0.toNat)), some (zi 0), some (zi ((S0 1109 p0.toNat) * (S0 1110 p0.toNat))), some (zi v12)] zd_14_87_142 (by decide) rfl ?_
        refine zz_iconst zd_14_87_144 ?_
        refine zz_istore [some (.ref 1079), some (zi p0), some (zi (S0 1107 p0.toNat)), some (zi 0), some (zi ((S0 1109 p0.toNat) * (S0 1110 p0.toNat))), some (zi v12), some (zi 0)] zd_14_87_145 (by decide) rfl ?_
        have g14 := zz_G.r G_S0 1079 10 0 1000000 rfl rfl
        refine zz_less (ls1 := [some (.ref 1079), some (zi p0), some (zi (S0 1107 p0.toNat)), some (zi 0), some (zi ((S0 1109 p0.toNat) * (S0 1110 p0.toNat))), some (zi v12), some (zi 0)]) ⟨rfl, ⟨rfl, ⟨rfl, ⟨rfl, ⟨rfl, ⟨rfl, ⟨rfl, trivial⟩⟩⟩⟩⟩⟩⟩ ?_
        exact k147 0 v12 0 S0 G_S0 F_S0 (by omega) (by omega) (by omega) (by omega) (by omega) (by omega)
      · exfalso; omega
    · refine zz_iconst zd_14_87_95 ?_
      refine zz_goto zd_14_87_96 ?_
      refine zz_istore_n [some (.ref 1079), some (zi p0), some (zi (S0 1107 p0.toNat)), some (zi 1)] zd_14_87_100 (by decide) rfl ?_
      refine zz_aload_n (x := 1079) rfl zd_14_87_101 ?_
      refine zz_getr (kd := 0) (z := 1109) zd_14_87_102 zf_Md_109 zT_1079 rfl (zz_ltn hn rfl) (zz_G.eq G_S0 1079 44 1109 rfl rfl) (by decide) 1109 rfl ?_
      refine zz_iload_n (x := p0) rfl zd_14_87_105 ?_
      have g15 := zz_G.r G_S0 1109 p0.toNat 0 3 rfl rfl
      refine zz_iald (z := S0 1109 p0.toNat) zd_14_87_106 zT_1109 rfl (zz_ltn hn rfl) (by decide) (by omega) rfl ?_
      refine zz_aload_n (x := 1079) rfl zd_14_87_107 ?_
      refine zz_getr (kd := 0) (z := 1110) zd_14_87_108 zf_Md_112 zT_1079 rfl (zz_ltn hn rfl) (zz_G.eq G_S0 1079 45 1110 rfl rfl) (by decide) 1110 rfl ?_
      refine zz_iload_n (x := p0) rfl zd_14_87_111 ?_
      have g16 := zz_G.r G_S0 1110 p0.toNat 0 3 rfl rfl
      refine zz_iald (z := S0 1110 p0.toNat) zd_14_87_112 zT_1110 rfl (zz_ltn hn rfl) (by decide) (by omega) rfl ?_
      refine zz_imul zd_14_87_113 ?_
      have m17 := zz_mulb (a := S0 1109 p0.toNat) (b := S0 1110 p0.toNat) 3 3 9 (by omega) (by omega) (by decide)
      refine zz_istore [some (.ref 1079), some (zi p0), some (zi (S0 1107 p0.toNat)), some (zi 1), some (zi ((S0 1109 p0.toNat) * (S0 1110 p0.toNat)))] zd_14_87_114 (by decide) rfl ?_
      refine zz_iload_n (x := 1) rfl zd_14_87_116 ?_
      refine zz_if_eq (by omega) zd_14_87_117 (fun c18 => ?_) (fun c18 => ?_)
      · exfalso; omega
      · refine zz_iconst zd_14_87_120 ?_
        refine zz_goto zd_14_87_121 ?_
        refine zz_istore [some (.ref 1079), some (zi p0), some (zi (S0 1107 p0.toNat)), some (zi 1), some (zi ((S0 1109 p0.toNat) * (S0 1110 p0.toNat))), some (zi 1)] zd_14_87_142 (by decide) rfl ?_
        refine zz_iconst zd_14_87_144 ?_
        refine zz_istore [some (.ref 1079), some (zi p0), some (zi (S0 1107 p0.toNat)), some (zi 1), some (zi ((S0 1109 p0.toNat) * (S0 1110 p0.toNat))), some (zi 1), some (zi 0)] zd_14_87_145 (by decide) rfl ?_
        have g19 := zz_G.r G_S0 1079 10 0 1000000 rfl rfl
        refine zz_less (ls1 := [some (.ref 1079), some (zi p0), some (zi (S0 1107 p0.toNat)), some (zi 1), some (zi ((S0 1109 p0.toNat) * (S0 1110 p0.toNat))), some (zi 1), some (zi 0)]) ⟨rfl, ⟨rfl, ⟨rfl, ⟨rfl, ⟨rfl, ⟨rfl, ⟨rfl, trivial⟩⟩⟩⟩⟩⟩⟩ ?_
        exact k147 1 1 0 S0 G_S0 F_S0 (by omega) (by omega) (by omega) (by omega) (by omega) (by omega)
  · refine zz_iconst zd_14_87_17 ?_
    refine zz_istore_n [some (.ref 1079), some (zi p0), some (zi (S0 1107 p0.toNat)), some (zi 0)] zd_14_87_18 (by decide) rfl ?_
    have g20 := zz_G.r G_S0 1079 10 0 1000000 rfl rfl
    refine zz_less (ls1 := [some (.ref 1079), some (zi p0), none, some (zi 0)]) ⟨rfl, ⟨rfl, ⟨rfl, trivial⟩⟩⟩ ?_
    exact k19 0 S0 G_S0 F_S0 (by omega) (by omega) (by omega)
abbrev zy_layer_14_88 : mm_Y := (⟨"TensorForgeModel", "layer", "(I)V"⟩, prog_14_method_88_code, 8, none)
theorem zyw_layer_14_88 : mm_Yw zy_layer_14_88 1 := ⟨mm_tb_1 2140 (by decide +kernel) rfl, mm_tb_1 12 (by decide +kernel) rfl, ⟨by decide, by decide⟩, by decide +kernel⟩
theorem zd_14_88_0 : zz_D zy_layer_14_88 0 (.iload_n 1) 1 1 := ⟨by decide +kernel, rfl⟩
theorem zd_14_88_1 : zz_D zy_layer_14_88 1 (.iconst 1) 1 2 := ⟨by decide +kernel, rfl⟩
theorem zd_14_88_2 : zz_D zy_layer_14_88 2 (.iadd) 1 3 := ⟨by decide +kernel, rfl⟩
theorem zd_14_88_3 : zz_D zy_layer_14_88 3 (.istore_n 2) 1 4 := ⟨by decide +kernel, rfl⟩
theorem zd_14_88_4 : zz_D zy_layer_14_88 4 (.aload_n 0) 1 5 := ⟨by decide +kernel, rfl⟩
theorem zd_14_88_5 : zz_D zy_layer_14_88 5 (.getfield 100) 3 8 := ⟨by decide +kernel, rfl⟩
theorem zd_14_88_8 : zz_D zy_layer_14_88 8 (.iload_n 1) 1 9 := ⟨by decide +kernel, rfl⟩
theorem zd_14_88_9 : zz_D zy_layer_14_88 9 (.iaload) 1 10 := ⟨by decide +kernel, rfl⟩
theorem zd_14_88_10 : zz_D zy_layer_14_88 10 (.iconst 2) 1 11 := ⟨by decide +kernel, rfl⟩
theorem zd_14_88_11 : zz_B zy_layer_14_88 11 (Instr.if_icmp .ne) 18 14 := ⟨7, by decide +kernel, rfl, rfl⟩
theorem zd_14_88_18 : zz_D zy_layer_14_88 18 (.aload_n 0) 1 19 := ⟨by decide +kernel, rfl⟩
theorem zd_14_88_19 : zz_D zy_layer_14_88 19 (.getfield 88) 3 22 := ⟨by decide +kernel, rfl⟩
theorem zd_14_88_22 : zz_D zy_layer_14_88 22 (.iload_n 2) 1 23 := ⟨by decide +kernel, rfl⟩
theorem zd_14_88_23 : zz_D zy_layer_14_88 23 (.iaload) 1 24 := ⟨by decide +kernel, rfl⟩
theorem zd_14_88_24 : zz_D zy_layer_14_88 24 (.istore_n 3) 1 25 := ⟨by decide +kernel, rfl⟩
theorem zd_14_88_25 : zz_D zy_layer_14_88 25 (.aload_n 0) 1 26 := ⟨by decide +kernel, rfl⟩
theorem zd_14_88_26 : zz_D zy_layer_14_88 26 (.getfield 100) 3 29 := ⟨by decide +kernel, rfl⟩
theorem zd_14_88_29 : zz_D zy_layer_14_88 29 (.iload_n 1) 1 30 := ⟨by decide +kernel, rfl⟩
theorem zd_14_88_30 : zz_D zy_layer_14_88 30 (.iaload) 1 31 := ⟨by decide +kernel, rfl⟩
theorem zd_14_88_31 : zz_D zy_layer_14_88 31 (.iconst 2) 1 32 := ⟨by decide +kernel, rfl⟩
theorem zd_14_88_32 : zz_B zy_layer_14_88 32 (Instr.if_icmp .ne) 51 35 := ⟨19, by decide +kernel, rfl, rfl⟩
theorem zd_14_88_51 : zz_D zy_layer_14_88 51 (.aload_n 0) 1 52 := ⟨by decide +kernel, rfl⟩
theorem zd_14_88_52 : zz_D zy_layer_14_88 52 (.getfield 91) 3 55 := ⟨by decide +kernel, rfl⟩
theorem zd_14_88_55 : zz_D zy_layer_14_88 55 (.iload_n 2) 1 56 := ⟨by decide +kernel, rfl⟩
theorem zd_14_88_56 : zz_D zy_layer_14_88 56 (.iaload) 1 57 := ⟨by decide +kernel, rfl⟩
theorem zd_14_88_57 : zz_D zy_layer_14_88 57 (.istore 4) 2 59 := ⟨by decide +kernel, rfl⟩
theorem zd_14_88_59 : zz_D zy_layer_14_88 59 (.bipush 63) 2 61 := ⟨by decide +kernel, rfl⟩
theorem zd_14_88_61 : zz_D zy_layer_14_88 61 (.sipush 128) 3 64 := ⟨by decide +kernel, rfl⟩
theorem zd_14_88_64 : zz_D zy_layer_14_88 64 (.aload_n 0) 1 65 := ⟨by decide +kernel, rfl⟩
theorem zd_14_88_65 : zz_D zy_layer_14_88 65 (.getfield 7) 3 68 := ⟨by decide +kernel, rfl⟩
theorem zd_14_88_68 : zz_D zy_layer_14_88 68 (.idiv) 1 69 := ⟨by decide +kernel, rfl⟩
theorem zd_14_88_69 : zz_D zy_layer_14_88 69 (.invokestatic 506) 3 72 := ⟨by decide +kernel, rfl⟩
theorem zd_14_88_72 : zz_D zy_layer_14_88 72 (.istore 5) 2 74 := ⟨by decide +kernel, rfl⟩
theorem zd_14_88_74 : zz_D zy_layer_14_88 74 (.aload_n 0) 1 75 := ⟨by decide +kernel, rfl⟩
theorem zd_14_88_75 : zz_D zy_layer_14_88 75 (.iconst 0) 1 76 := ⟨by decide +kernel, rfl⟩
theorem zd_14_88_76 : zz_D zy_layer_14_88 76 (.putfield 450) 3 79 := ⟨by decide +kernel, rfl⟩
theorem zd_14_88_79 : zz_D zy_layer_14_88 79 (.aload_n 0) 1 80 := ⟨by decide +kernel, rfl⟩
theorem zd_14_88_80 : zz_D zy_layer_14_88 80 (.iconst 0) 1 81 := ⟨by decide +kernel, rfl⟩
theorem zd_14_88_81 : zz_D zy_layer_14_88 81 (.putfield 447) 3 84 := ⟨by decide +kernel, rfl⟩
theorem zd_14_88_84 : zz_D zy_layer_14_88 84 (.aload_n 0) 1 85 := ⟨by decide +kernel, rfl⟩
theorem zd_14_88_85 : zz_D zy_layer_14_88 85 (.iconst 0) 1 86 := ⟨by decide +kernel, rfl⟩
theorem zd_14_88_86 : zz_D zy_layer_14_88 86 (.putfield 466) 3 89 := ⟨by decide +kernel, rfl⟩
theorem zd_14_88_14 : zz_D zy_layer_14_88 14 (.iconst 1) 1 15 := ⟨by decide +kernel, rfl⟩
theorem zd_14_88_15 : zz_B zy_layer_14_88 15 Instr.goto 24 18 := ⟨9, by decide +kernel, rfl, rfl⟩
theorem zd_14_88_35 : zz_D zy_layer_14_88 35 (.aload_n 0) 1 36 := ⟨by decide +kernel, rfl⟩
theorem zd_14_88_36 : zz_D zy_layer_14_88 36 (.getfield 88) 3 39 := ⟨by decide +kernel, rfl⟩
theorem zd_14_88_39 : zz_D zy_layer_14_88 39 (.iload_n 2) 1 40 := ⟨by decide +kernel, rfl⟩
theorem zd_14_88_40 : zz_D zy_layer_14_88 40 (.iaload) 1 41 := ⟨by decide +kernel, rfl⟩
theorem zd_14_88_41 : zz_D zy_layer_14_88 41 (.aload_n 0) 1 42 := ⟨by decide +kernel, rfl⟩
theorem zd_14_88_42 : zz_D zy_layer_14_88 42 (.getfield 91) 3 45 := ⟨by decide +kernel, rfl⟩
theorem zd_14_88_45 : zz_D zy_layer_14_88 45 (.iload_n 2) 1 46 := ⟨by decide +kernel, rfl⟩
theorem zd_14_88_46 : zz_D zy_layer_14_88 46 (.iaload) 1 47 := ⟨by decide +kernel, rfl⟩
theorem zd_14_88_47 : zz_D zy_layer_14_88 47 (.imul) 1 48 := ⟨by decide +kernel, rfl⟩
theorem zd_14_88_48 : zz_B zy_layer_14_88 48 Instr.goto 57 51 := ⟨9, by decide +kernel, rfl, rfl⟩
theorem zd_14_88_89 : zz_D zy_layer_14_88 89 (.aload_n 0) 1 90 := ⟨by decide +kernel, rfl⟩
theorem zd_14_88_90 : zz_D zy_layer_14_88 90 (.getfield 466) 3 93 := ⟨by decide +kernel, rfl⟩
theorem zd_14_88_93 : zz_D zy_layer_14_88 93 (.aload_n 0) 1 94 := ⟨by decide +kernel, rfl⟩
theorem zd_14_88_94 : zz_D zy_layer_14_88 94 (.getfield 94) 3 97 := ⟨by decide +kernel, rfl⟩
theorem zd_14_88_97 : zz_D zy_layer_14_88 97 (.iload_n 2) 1 98 := ⟨by decide +kernel, rfl⟩
theorem zd_14_88_98 : zz_D zy_layer_14_88 98 (.iaload) 1 99 := ⟨by decide +kernel, rfl⟩
theorem zd_14_88_99 : zz_B zy_layer_14_88 99 (Instr.if_icmp .ge) 225 102 := ⟨126, by decide +kernel, rfl, rfl⟩
theorem zd_14_88_225 : zz_D zy_layer_14_88 225 (.iconst 2) 1 226 := ⟨by decide +kernel, rfl⟩
theorem zd_14_88_226 : zz_D zy_layer_14_88 226 (.aload_n 0) 1 227 := ⟨by decide +kernel, rfl⟩
theorem zd_14_88_227 : zz_D zy_layer_14_88 227 (.getfield 450) 3 230 := ⟨by decide +kernel, rfl⟩
theorem zd_14_88_230 : zz_D zy_layer_14_88 230 (.invokestatic 506) 3 233 := ⟨by decide +kernel, rfl⟩
theorem zd_14_88_233 : zz_D zy_layer_14_88 233 (.istore 6) 2 235 := ⟨by decide +kernel, rfl⟩
theorem zd_14_88_235 : zz_D zy_layer_14_88 235 (.iconst 0) 1 236 := ⟨by decide +kernel, rfl⟩
theorem zd_14_88_236 : zz_D zy_layer_14_88 236 (.istore 7) 2 238 := ⟨by decide +kernel, rfl⟩
theorem zd_14_88_102 : zz_D zy_layer_14_88 102 (.aload_n 0) 1 103 := ⟨by decide +kernel, rfl⟩
theorem zd_14_88_103 : zz_D zy_layer_14_88 103 (.aload_n 0) 1 104 := ⟨by decide +kernel, rfl⟩
theorem zd_14_88_104 : zz_D zy_layer_14_88 104 (.getfield 7) 3 107 := ⟨by decide +kernel, rfl⟩
theorem zd_14_88_107 : zz_D zy_layer_14_88 107 (.aload_n 0) 1 108 := ⟨by decide +kernel, rfl⟩
theorem zd_14_88_108 : zz_D zy_layer_14_88 108 (.getfield 94) 3 111 := ⟨by decide +kernel, rfl⟩
theorem zd_14_88_111 : zz_D zy_layer_14_88 111 (.iload_n 2) 1 112 := ⟨by decide +kernel, rfl⟩
theorem zd_14_88_112 : zz_D zy_layer_14_88 112 (.iaload) 1 113 := ⟨by decide +kernel, rfl⟩
theorem zd_14_88_113 : zz_D zy_layer_14_88 113 (.aload_n 0) 1 114 := ⟨by decide +kernel, rfl⟩
theorem zd_14_88_114 : zz_D zy_layer_14_88 114 (.getfield 466) 3 117 := ⟨by decide +kernel, rfl⟩
theorem zd_14_88_117 : zz_D zy_layer_14_88 117 (.isub) 1 118 := ⟨by decide +kernel, rfl⟩
theorem zd_14_88_118 : zz_D zy_layer_14_88 118 (.invokestatic 506) 3 121 := ⟨by decide +kernel, rfl⟩
theorem zd_14_88_121 : zz_D zy_layer_14_88 121 (.putfield 472) 3 124 := ⟨by decide +kernel, rfl⟩
theorem zd_14_88_124 : zz_D zy_layer_14_88 124 (.aload_n 0) 1 125 := ⟨by decide +kernel, rfl⟩
theorem zd_14_88_125 : zz_D zy_layer_14_88 125 (.iconst 0) 1 126 := ⟨by decide +kernel, rfl⟩
theorem zd_14_88_126 : zz_D zy_layer_14_88 126 (.putfield 495) 3 129 := ⟨by decide +kernel, rfl⟩
theorem zd_14_88_238 : zz_D zy_layer_14_88 238 (.iload 7) 2 240 := ⟨by decide +kernel, rfl⟩
theorem zd_14_88_240 : zz_D zy_layer_14_88 240 (.iload 6) 2 242 := ⟨by decide +kernel, rfl⟩
theorem zd_14_88_242 : zz_B zy_layer_14_88 242 (Instr.if_icmp .ge) 288 245 := ⟨46, by decide +kernel, rfl, rfl⟩
theorem zd_14_88_288 : zz_D zy_layer_14_88 288 (.iconst 0) 1 289 := ⟨by decide +kernel, rfl⟩
theorem zd_14_88_289 : zz_D zy_layer_14_88 289 (.istore 7) 2 291 := ⟨by decide +kernel, rfl⟩
theorem zd_14_88_245 : zz_D zy_layer_14_88 245 (.aload_n 0) 1 246 := ⟨by decide +kernel, rfl⟩
theorem zd_14_88_246 : zz_D zy_layer_14_88 246 (.bipush 9) 2 248 := ⟨by decide +kernel, rfl⟩
theorem zd_14_88_248 : zz_D zy_layer_14_88 248 (.iconst 0) 1 249 := ⟨by decide +kernel, rfl⟩
theorem zd_14_88_249 : zz_D zy_layer_14_88 249 (.iconst 0) 1 250 := ⟨by decide +kernel, rfl⟩
theorem zd_14_88_250 : zz_D zy_layer_14_88 250 (.iconst 0) 1 251 := ⟨by decide +kernel, rfl⟩
theorem zd_14_88_251 : zz_D zy_layer_14_88 251 (.invokevirtual 475) 3 254 := ⟨by decide +kernel, rfl⟩
theorem zd_14_88_254 : zz_D zy_layer_14_88 254 (.aload_n 0) 1 255 := ⟨by decide +kernel, rfl⟩
theorem zd_14_88_255 : zz_D zy_layer_14_88 255 (.iconst 0) 1 256 := ⟨by decide +kernel, rfl⟩
theorem zd_14_88_256 : zz_D zy_layer_14_88 256 (.iconst 0) 1 257 := ⟨by decide +kernel, rfl⟩
theorem zd_14_88_257 : zz_D zy_layer_14_88 257 (.iconst 0) 1 258 := ⟨by decide +kernel, rfl⟩
theorem zd_14_88_258 : zz_D zy_layer_14_88 258 (.iconst 1) 1 259 := ⟨by decide +kernel, rfl⟩
theorem zd_14_88_259 : zz_D zy_layer_14_88 259 (.invokevirtual 482) 3 262 := ⟨by decide +kernel, rfl⟩
theorem zd_14_88_262 : zz_D zy_layer_14_88 262 (.aload_n 0) 1 263 := ⟨by decide +kernel, rfl⟩
theorem zd_14_88_263 : zz_D zy_layer_14_88 263 (.iconst 2) 1 264 := ⟨by decide +kernel, rfl⟩
theorem zd_14_88_264 : zz_D zy_layer_14_88 264 (.iload 7) 2 266 := ⟨by decide +kernel, rfl⟩
theorem zd_14_88_266 : zz_D zy_layer_14_88 266 (.iload 6) 2 268 := ⟨by decide +kernel, rfl⟩
theorem zd_14_88_268 : zz_D zy_layer_14_88 268 (.iconst 1) 1 269 := ⟨by decide +kernel, rfl⟩
theorem zd_14_88_269 : zz_D zy_layer_14_88 269 (.isub) 1 270 := ⟨by decide +kernel, rfl⟩
theorem zd_14_88_270 : zz_B zy_layer_14_88 270 (Instr.if_icmp .ne) 277 273 := ⟨7, by decide +kernel, rfl, rfl⟩
theorem zd_14_88_277 : zz_D zy_layer_14_88 277 (.iconst 0) 1 278 := ⟨by decide +kernel, rfl⟩
theorem zd_14_88_278 : zz_D zy_layer_14_88 278 (.ior) 1 279 := ⟨by decide +kernel, rfl⟩
theorem zd_14_88_279 : zz_D zy_layer_14_88 279 (.invokevirtual 459) 3 282 := ⟨by decide +kernel, rfl⟩
theorem zd_14_88_282 : zz_D zy_layer_14_88 282 (.iinc 7 1) 3 285 := ⟨by decide +kernel, rfl⟩
theorem zd_14_88_285 : zz_B zy_layer_14_88 285 Instr.goto 238 288 := ⟨(-47), by decide +kernel, rfl, rfl⟩
theorem zd_14_88_273 : zz_D zy_layer_14_88 273 (.iconst 4) 1 274 := ⟨by decide +kernel, rfl⟩
theorem zd_14_88_274 : zz_B zy_layer_14_88 274 Instr.goto 278 277 := ⟨4, by decide +kernel, rfl, rfl⟩
theorem zd_14_88_129 : zz_D zy_layer_14_88 129 (.aload_n 0) 1 130 := ⟨by decide +kernel, rfl⟩
theorem zd_14_88_130 : zz_D zy_layer_14_88 130 (.getfield 495) 3 133 := ⟨by decide +kernel, rfl⟩
theorem zd_14_88_133 : zz_D zy_layer_14_88 133 (.iload_n 3) 1 134 := ⟨by decide +kernel, rfl⟩
theorem zd_14_88_134 : zz_B zy_layer_14_88 134 (Instr.if_icmp .ge) 209 137 := ⟨75, by decide +kernel, rfl, rfl⟩
theorem zd_14_88_209 : zz_D zy_layer_14_88 209 (.aload_n 0) 1 210 := ⟨by decide +kernel, rfl⟩
theorem zd_14_88_210 : zz_D zy_layer_14_88 210 (.aload_n 0) 1 211 := ⟨by decide +kernel, rfl⟩
theorem zd_14_88_211 : zz_D zy_layer_14_88 211 (.getfield 466) 3 214 := ⟨by decide +kernel, rfl⟩
theorem zd_14_88_214 : zz_D zy_layer_14_88 214 (.aload_n 0) 1 215 := ⟨by decide +kernel, rfl⟩
theorem zd_14_88_215 : zz_D zy_layer_14_88 215 (.getfield 7) 3 218 := ⟨by decide +kernel, rfl⟩
theorem zd_14_88_218 : zz_D zy_layer_14_88 218 (.iadd) 1 219 := ⟨by decide +kernel, rfl⟩
theorem zd_14_88_219 : zz_D zy_layer_14_88 219 (.putfield 466) 3 222 := ⟨by decide +kernel, rfl⟩
theorem zd_14_88_222 : zz_B zy_layer_14_88 222 Instr.goto 89 225 := ⟨(-133), by decide +kernel, rfl, rfl⟩
theorem zd_14_88_137 : zz_D zy_layer_14_88 137 (.aload_n 0) 1 138 := ⟨by decide +kernel, rfl⟩
theorem zd_14_88_138 : zz_D zy_layer_14_88 138 (.iconst 0) 1 139 := ⟨by decide +kernel, rfl⟩
theorem zd_14_88_139 : zz_D zy_layer_14_88 139 (.putfield 492) 3 142 := ⟨by decide +kernel, rfl⟩
theorem zd_14_88_291 : zz_D zy_layer_14_88 291 (.iload 7) 2 293 := ⟨by decide +kernel, rfl⟩
theorem zd_14_88_293 : zz_D zy_layer_14_88 293 (.iconst 2) 1 294 := ⟨by decide +kernel, rfl⟩
theorem zd_14_88_294 : zz_D zy_layer_14_88 294 (.aload_n 0) 1 295 := ⟨by decide +kernel, rfl⟩
theorem zd_14_88_295 : zz_D zy_layer_14_88 295 (.getfield 447) 3 298 := ⟨by decide +kernel, rfl⟩
theorem zd_14_88_298 : zz_D zy_layer_14_88 298 (.invokestatic 506) 3 301 := ⟨by decide +kernel, rfl⟩
theorem zd_14_88_301 : zz_B zy_layer_14_88 301 (Instr.if_icmp .gt) 324 304 := ⟨23, by decide +kernel, rfl, rfl⟩
theorem zd_14_88_324 : zz_D zy_layer_14_88 324 (.return_) 1 325 := ⟨by decide +kernel, rfl⟩
theorem zd_14_88_304 : zz_D zy_layer_14_88 304 (.aload_n 0) 1 305 := ⟨by decide +kernel, rfl⟩
theorem zd_14_88_305 : zz_D zy_layer_14_88 305 (.bipush 9) 2 307 := ⟨by decide +kernel, rfl⟩
theorem zd_14_88_307 : zz_D zy_layer_14_88 307 (.iconst 0) 1 308 := ⟨by decide +kernel, rfl⟩
theorem zd_14_88_308 : zz_D zy_layer_14_88 308 (.iconst 0) 1 309 := ⟨by decide +kernel, rfl⟩
theorem zd_14_88_309 : zz_D zy_layer_14_88 309 (.iconst 0) 1 310 := ⟨by decide +kernel, rfl⟩
theorem zd_14_88_310 : zz_D zy_layer_14_88 310 (.invokevirtual 475) 3 313 := ⟨by decide +kernel, rfl⟩
theorem zd_14_88_313 : zz_D zy_layer_14_88 313 (.aload_n 0) 1 314 := ⟨by decide +kernel, rfl⟩
theorem zd_14_88_314 : zz_D zy_layer_14_88 314 (.iconst 2) 1 315 := ⟨by decide +kernel, rfl⟩
theorem zd_14_88_315 : zz_D zy_layer_14_88 315 (.invokevirtual 459) 3 318 := ⟨by decide +kernel, rfl⟩
theorem zd_14_88_318 : zz_D zy_layer_14_88 318 (.iinc 7 1) 3 321 := ⟨by decide +kernel, rfl⟩
theorem zd_14_88_321 : zz_B zy_layer_14_88 321 Instr.goto 291 324 := ⟨(-30), by decide +kernel, rfl, rfl⟩
theorem zd_14_88_142 : zz_D zy_layer_14_88 142 (.aload_n 0) 1 143 := ⟨by decide +kernel, rfl⟩
theorem zd_14_88_143 : zz_D zy_layer_14_88 143 (.getfield 492) 3 146 := ⟨by decide +kernel, rfl⟩
theorem zd_14_88_146 : zz_D zy_layer_14_88 146 (.iload 4) 2 148 := ⟨by decide +kernel, rfl⟩
theorem zd_14_88_148 : zz_B zy_layer_14_88 148 (Instr.if_icmp .ge) 196 151 := ⟨48, by decide +kernel, rfl, rfl⟩
theorem zd_14_88_196 : zz_D zy_layer_14_88 196 (.aload_n 0) 1 197 := ⟨by decide +kernel, rfl⟩
theorem zd_14_88_197 : zz_D zy_layer_14_88 197 (.dup) 1 198 := ⟨by decide +kernel, rfl⟩
theorem zd_14_88_198 : zz_D zy_layer_14_88 198 (.getfield 495) 3 201 := ⟨by decide +kernel, rfl⟩
theorem zd_14_88_201 : zz_D zy_layer_14_88 201 (.iconst 1) 1 202 := ⟨by decide +kernel, rfl⟩
theorem zd_14_88_202 : zz_D zy_layer_14_88 202 (.iadd) 1 203 := ⟨by decide +kernel, rfl⟩
theorem zd_14_88_203 : zz_D zy_layer_14_88 203 (.putfield 495) 3 206 := ⟨by decide +kernel, rfl⟩
theorem zd_14_88_206 : zz_B zy_layer_14_88 206 Instr.goto 129 209 := ⟨(-77), by decide +kernel, rfl, rfl⟩
theorem zd_14_88_151 : zz_D zy_layer_14_88 151 (.aload_n 0) 1 152 := ⟨by decide +kernel, rfl⟩
theorem zd_14_88_152 : zz_D zy_layer_14_88 152 (.iload 5) 2 154 := ⟨by decide +kernel, rfl⟩
theorem zd_14_88_154 : zz_D zy_layer_14_88 154 (.iload 4) 2 156 := ⟨by decide +kernel, rfl⟩
theorem zd_14_88_156 : zz_D zy_layer_14_88 156 (.aload_n 0) 1 157 := ⟨by decide +kernel, rfl⟩
theorem zd_14_88_157 : zz_D zy_layer_14_88 157 (.getfield 492) 3 160 := ⟨by decide +kernel, rfl⟩
theorem zd_14_88_160 : zz_D zy_layer_14_88 160 (.isub) 1 161 := ⟨by decide +kernel, rfl⟩
theorem zd_14_88_161 : zz_D zy_layer_14_88 161 (.invokestatic 506) 3 164 := ⟨by decide +kernel, rfl⟩
theorem zd_14_88_164 : zz_D zy_layer_14_88 164 (.putfield 469) 3 167 := ⟨by decide +kernel, rfl⟩
theorem zd_14_88_167 : zz_D zy_layer_14_88 167 (.aload_n 0) 1 168 := ⟨by decide +kernel, rfl⟩
theorem zd_14_88_168 : zz_D zy_layer_14_88 168 (.getfield 372) 3 171 := ⟨by decide +kernel, rfl⟩
theorem zd_14_88_171 : zz_D zy_layer_14_88 171 (.sipush 600) 3 174 := ⟨by decide +kernel, rfl⟩
theorem zd_14_88_174 : zz_B zy_layer_14_88 174 (Instr.if_icmp .gt) 182 177 := ⟨8, by decide +kernel, rfl, rfl⟩
theorem zd_14_88_182 : zz_D zy_layer_14_88 182 (.aload_n 0) 1 183 := ⟨by decide +kernel, rfl⟩
theorem zd_14_88_183 : zz_D zy_layer_14_88 183 (.aload_n 0) 1 184 := ⟨by decide +kernel, rfl⟩
theorem zd_14_88_184 : zz_D zy_layer_14_88 184 (.getfield 492) 3 187 := ⟨by decide +kernel, rfl⟩
theorem zd_14_88_187 : zz_D zy_layer_14_88 187 (.iload 5) 2 189 := ⟨by decide +kernel, rfl⟩
theorem zd_14_88_189 : zz_D zy_layer_14_88 189 (.iadd) 1 190 := ⟨by decide +kernel, rfl⟩
theorem zd_14_88_190 : zz_D zy_layer_14_88 190 (.putfield 492) 3 193 := ⟨by decide +kernel, rfl⟩
theorem zd_14_88_193 : zz_B zy_layer_14_88 193 Instr.goto 142 196 := ⟨(-51), by decide +kernel, rfl, rfl⟩
theorem zd_14_88_177 : zz_D zy_layer_14_88 177 (.aload_n 0) 1 178 := ⟨by decide +kernel, rfl⟩
theorem zd_14_88_178 : zz_D zy_layer_14_88 178 (.iload_n 1) 1 179 := ⟨by decide +kernel, rfl⟩
theorem zd_14_88_179 : zz_D zy_layer_14_88 179 (.invokevirtual 509) 3 182 := ⟨by decide +kernel, rfl⟩
theorem zk_Md_509 : mm_Vl "TensorForgeModel" 509 11 1 zy_tile_14_87 := ⟨zyw_tile_14_87, (R_Md, F_Md, 69), rfl, mm_tb_1 2144 (by decide +kernel) rfl, mm_tb_1 2146 (by decide +kernel) rfl, mm_tb_s 128 (by decide +kernel) rfl⟩

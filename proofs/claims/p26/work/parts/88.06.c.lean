-- TensorForge$Layer narrowing ()I
abbrev zr_narrowing_4_6 : Room := { frames := 0, cells := 0, slots := 0, locals := 0 }
def zp_narrowing_4_6 (t : Int) (S0 : zz_S) : Int → zz_S → Prop := fun r S => S0 = S ∧ ((-2147483648) ≤ r ∧ r ≤ 2147483647)
theorem zc_narrowing_4_6 {g : mm_G} {l : Launch} (t : Int) (S0 : zz_S) (n : Nat) (hn : zz_end ≤ n) (G_S0 : zz_G S0) (ht : 0 ≤ t ∧ t ≤ 23) : mm_Met g l zy_narrowing_4_6 zr_narrowing_4_6 [.ref (zz_rf 6 t)] (zz_M S0 n) n (zz_QI n (zp_narrowing_4_6 t S0)) := by
  refine zz_enter (by decide) (Nat.le_of_ble_eq_true rfl) (zz_less (ls1 := [some (.ref (zz_rf 6 t))]) ⟨rfl, trivial⟩ ?_)
  have b_t := zz_rf6 (z := t) (by omega)
  refine zz_aload_n (x := zz_rf 6 t) rfl zd_4_6_0 ?_
  have g1 := zz_G.r G_S0 (zz_rf 6 t) 8 0 1 (zR_k6_8 (by omega)) (zB_k6 (by omega))
  refine zz_geti (z := S0 (zz_rf 6 t) 8) zd_4_6_1 zf_Layer_38 (zT_k6 (by omega)) rfl (zN_k6 hn (by omega)) rfl ?_
  refine zz_if_eq (by omega) zd_4_6_4 (fun c2 => ?_) (fun c2 => ?_)
  · refine zz_aload_n (x := zz_rf 6 t) rfl zd_4_6_17 ?_
    have g3 := zz_G.r G_S0 (zz_rf 6 t) 7 (-2147483648) 2147483647 (zR_k6_7 (by omega)) (zB_k6 (by omega))
    refine zz_geti (z := S0 (zz_rf 6 t) 7) zd_4_6_18 zf_Layer_35 (zT_k6 (by omega)) rfl (zN_k6 hn (by omega)) rfl ?_
    exact zz_iret zd_4_6_21 rfl (Nat.zero_le _) (Nat.zero_le _) ⟨_, _, rfl, rfl, by omega⟩
  · refine zz_bipush (by decide) zd_4_6_7 ?_
    refine zz_aload_n (x := zz_rf 6 t) rfl zd_4_6_9 ?_
    have g4 := zz_G.r G_S0 (zz_rf 6 t) 7 (-2147483648) 2147483647 (zR_k6_7 (by omega)) (zB_k6 (by omega))
    refine zz_geti (z := S0 (zz_rf 6 t) 7) zd_4_6_10 zf_Layer_35 (zT_k6 (by omega)) rfl (zN_k6 hn (by omega)) rfl ?_
    refine zz_iadd zd_4_6_13 ?_
    refine zz_nrm (fun v5 hv5 ev5 => ?_)
    refine zz_goto zd_4_6_14 ?_
    exact zz_iret zd_4_6_21 rfl (Nat.zero_le _) (Nat.zero_le _) ⟨_, _, rfl, rfl, by omega⟩
theorem zk_Compiler_136 : mm_Vl "TensorForge$Compiler" 136 2 0 zy_narrowing_4_6 := ⟨zyw_narrowing_4_6, (R_Layer, F_Layer, 15), rfl, mm_tb_1 1475 (by decide +kernel) rfl, mm_tb_1 904 (by decide +kernel) rfl, mm_tb_1 905 (by decide +kernel) rfl⟩
abbrev zy_cellAt_4_15 : mm_Y := (⟨"TensorForge$Layer", "cellAt", "(III)I"⟩, prog_4_method_15_code, 4, (some .int))
theorem zyw_cellAt_4_15 : mm_Yw zy_cellAt_4_15 3 := ⟨mm_tb_1 869 (by decide +kernel) rfl, mm_tb_1 3 (by decide +kernel) rfl, ⟨by decide, by decide⟩, by decide +kernel⟩
theorem zg_3_4_323 : zq_at zy_makeTile_3_4.2.1 323 184 ∧ zq_at zy_makeTile_3_4.2.1 324 0 ∧ zq_at zy_makeTile_3_4.2.1 325 132 ∧ zq_at zy_makeTile_3_4.2.1 326 129 ∧ zq_at zy_makeTile_3_4.2.1 327 6 ∧ zq_at zy_makeTile_3_4.2.1 328 184 ∧ zq_at zy_makeTile_3_4.2.1 329 0 ∧ zq_at zy_makeTile_3_4.2.1 330 139 ∧ zq_at zy_makeTile_3_4.2.1 331 129 ∧ zq_at zy_makeTile_3_4.2.1 332 7 ∧ zq_at zy_makeTile_3_4.2.1 333 184 ∧ zq_at zy_makeTile_3_4.2.1 334 0 ∧ zq_at zy_makeTile_3_4.2.1 335 139 ∧ zq_at zy_makeTile_3_4.2.1 336 129 ∧ zq_at zy_makeTile_3_4.2.1 337 55 ∧ zq_at zy_makeTile_3_4.2.1 338 8 ∧ zq_at zy_makeTile_3_4.2.1 339 42 ∧ zq_at zy_makeTile_3_4.2.1 340 42 ∧ zq_at zy_makeTile_3_4.2.1 341 180 ∧ zq_at zy_makeTile_3_4.2.1 342 0 ∧ zq_at zy_makeTile_3_4.2.1 343 70 ∧ zq_at zy_makeTile_3_4.2.1 344 4 := by decide +kernel
theorem zd_3_4_323 : zz_D zy_makeTile_3_4 323 (.invokestatic 132) 3 326 := ⟨zq_184 zg_3_4_323.1 zg_3_4_323.2.1 zg_3_4_323.2.2.1 rfl, rfl⟩
theorem zd_3_4_326 : zz_D zy_makeTile_3_4 326 (.lor) 1 327 := ⟨zq_129 zg_3_4_323.2.2.2.1, rfl⟩
theorem zd_3_4_327 : zz_D zy_makeTile_3_4 327 (.iconst 3) 1 328 := ⟨zq_6 zg_3_4_323.2.2.2.2.1, rfl⟩
theorem zd_3_4_328 : zz_D zy_makeTile_3_4 328 (.invokestatic 139) 3 331 := ⟨zq_184 zg_3_4_323.2.2.2.2.2.1 zg_3_4_323.2.2.2.2.2.2.1 zg_3_4_323.2.2.2.2.2.2.2.1 rfl, rfl⟩
theorem zd_3_4_331 : zz_D zy_makeTile_3_4 331 (.lor) 1 332 := ⟨zq_129 zg_3_4_323.2.2.2.2.2.2.2.2.1, rfl⟩
theorem zd_3_4_332 : zz_D zy_makeTile_3_4 332 (.iconst 4) 1 333 := ⟨zq_7 zg_3_4_323.2.2.2.2.2.2.2.2.2.1, rfl⟩
theorem zd_3_4_333 : zz_D zy_makeTile_3_4 333 (.invokestatic 139) 3 336 := ⟨zq_184 zg_3_4_323.2.2.2.2.2.2.2.2.2.2.1 zg_3_4_323.2.2.2.2.2.2.2.2.2.2.2.1 zg_3_4_323.2.2.2.2.2.2.2.2.2.2.2.2.1 rfl, rfl⟩
theorem zd_3_4_336 : zz_D zy_makeTile_3_4 336 (.lor) 1 337 := ⟨zq_129 zg_3_4_323.2.2.2.2.2.2.2.2.2.2.2.2.2.1, rfl⟩
theorem zd_3_4_337 : zz_D zy_makeTile_3_4 337 (.lstore 8) 2 339 := ⟨zq_55 zg_3_4_323.2.2.2.2.2.2.2.2.2.2.2.2.2.2.1 zg_3_4_323.2.2.2.2.2.2.2.2.2.2.2.2.2.2.2.1, rfl⟩
theorem zd_3_4_339 : zz_D zy_makeTile_3_4 339 (.aload_n 0) 1 340 := ⟨zq_42 zg_3_4_323.2.2.2.2.2.2.2.2.2.2.2.2.2.2.2.2.1, rfl⟩
theorem zd_3_4_340 : zz_D zy_makeTile_3_4 340 (.aload_n 0) 1 341 := ⟨zq_42 zg_3_4_323.2.2.2.2.2.2.2.2.2.2.2.2.2.2.2.2.2.1, rfl⟩
theorem zd_3_4_341 : zz_D zy_makeTile_3_4 341 (.getfield 70) 3 344 := ⟨zq_180 zg_3_4_323.2.2.2.2.2.2.2.2.2.2.2.2.2.2.2.2.2.2.1 zg_3_4_323.2.2.2.2.2.2.2.2.2.2.2.2.2.2.2.2.2.2.2.1 zg_3_4_323.2.2.2.2.2.2.2.2.2.2.2.2.2.2.2.2.2.2.2.2.1 rfl, rfl⟩
theorem zd_3_4_344 : zz_D zy_makeTile_3_4 344 (.iconst 1) 1 345 := ⟨zq_4 zg_3_4_323.2.2.2.2.2.2.2.2.2.2.2.2.2.2.2.2.2.2.2.2.2, rfl⟩
theorem zg_3_4_345 : zq_at zy_makeTile_3_4.2.1 345 164 ∧ zq_at zy_makeTile_3_4.2.1 346 0 ∧ zq_at zy_makeTile_3_4.2.1 347 13 ∧ zq_at zy_makeTile_3_4.2.1 358 22 ∧ zq_at zy_makeTile_3_4.2.1 359 8 ∧ zq_at zy_makeTile_3_4.2.1 360 182 ∧ zq_at zy_makeTile_3_4.2.1 361 0 ∧ zq_at zy_makeTile_3_4.2.1 362 143 ∧ zq_at zy_makeTile_3_4.2.1 363 42 ∧ zq_at zy_makeTile_3_4.2.1 364 16 ∧ zq_at zy_makeTile_3_4.2.1 365 8 ∧ zq_at zy_makeTile_3_4.2.1 366 42 ∧ zq_at zy_makeTile_3_4.2.1 367 180 ∧ zq_at zy_makeTile_3_4.2.1 368 0 ∧ zq_at zy_makeTile_3_4.2.1 369 91 ∧ zq_at zy_makeTile_3_4.2.1 370 42 ∧ zq_at zy_makeTile_3_4.2.1 371 180 ∧ zq_at zy_makeTile_3_4.2.1 372 0 ∧ zq_at zy_makeTile_3_4.2.1 373 82 ∧ zq_at zy_makeTile_3_4.2.1 374 184 ∧ zq_at zy_makeTile_3_4.2.1 375 0 ∧ zq_at zy_makeTile_3_4.2.1 376 128 ∧ zq_at zy_makeTile_3_4.2.1 377 16 ∧ zq_at zy_makeTile_3_4.2.1 378 8 := by decide +kernel
theorem zd_3_4_345 : zz_B zy_makeTile_3_4 345 (Instr.if_icmp .le) 358 348 := ⟨13, zq_164 zg_3_4_345.1 zg_3_4_345.2.1 zg_3_4_345.2.2.1 (by decide), rfl, rfl⟩
theorem zd_3_4_358 : zz_D zy_makeTile_3_4 358 (.lload 8) 2 360 := ⟨zq_22 zg_3_4_345.2.2.2.1 zg_3_4_345.2.2.2.2.1, rfl⟩
theorem zd_3_4_360 : zz_D zy_makeTile_3_4 360 (.invokevirtual 143) 3 363 := ⟨zq_182 zg_3_4_345.2.2.2.2.2.1 zg_3_4_345.2.2.2.2.2.2.1 zg_3_4_345.2.2.2.2.2.2.2.1 rfl, rfl⟩
theorem zd_3_4_363 : zz_D zy_makeTile_3_4 363 (.aload_n 0) 1 364 := ⟨zq_42 zg_3_4_345.2.2.2.2.2.2.2.2.1, rfl⟩
theorem zd_3_4_364 : zz_D zy_makeTile_3_4 364 (.bipush 8) 2 366 := ⟨zq_16 zg_3_4_345.2.2.2.2.2.2.2.2.2.1 zg_3_4_345.2.2.2.2.2.2.2.2.2.2.1 (by decide), rfl⟩
theorem zd_3_4_366 : zz_D zy_makeTile_3_4 366 (.aload_n 0) 1 367 := ⟨zq_42 zg_3_4_345.2.2.2.2.2.2.2.2.2.2.2.1, rfl⟩
theorem zd_3_4_367 : zz_D zy_makeTile_3_4 367 (.getfield 91) 3 370 := ⟨zq_180 zg_3_4_345.2.2.2.2.2.2.2.2.2.2.2.2.1 zg_3_4_345.2.2.2.2.2.2.2.2.2.2.2.2.2.1 zg_3_4_345.2.2.2.2.2.2.2.2.2.2.2.2.2.2.1 rfl, rfl⟩
theorem zd_3_4_370 : zz_D zy_makeTile_3_4 370 (.aload_n 0) 1 371 := ⟨zq_42 zg_3_4_345.2.2.2.2.2.2.2.2.2.2.2.2.2.2.2.1, rfl⟩
theorem zd_3_4_371 : zz_D zy_makeTile_3_4 371 (.getfield 82) 3 374 := ⟨zq_180 zg_3_4_345.2.2.2.2.2.2.2.2.2.2.2.2.2.2.2.2.1 zg_3_4_345.2.2.2.2.2.2.2.2.2.2.2.2.2.2.2.2.2.1 zg_3_4_345.2.2.2.2.2.2.2.2.2.2.2.2.2.2.2.2.2.2.1 rfl, rfl⟩
theorem zd_3_4_374 : zz_D zy_makeTile_3_4 374 (.invokestatic 128) 3 377 := ⟨zq_184 zg_3_4_345.2.2.2.2.2.2.2.2.2.2.2.2.2.2.2.2.2.2.2.1 zg_3_4_345.2.2.2.2.2.2.2.2.2.2.2.2.2.2.2.2.2.2.2.2.1 zg_3_4_345.2.2.2.2.2.2.2.2.2.2.2.2.2.2.2.2.2.2.2.2.2.1 rfl, rfl⟩
theorem zd_3_4_377 : zz_D zy_makeTile_3_4 377 (.bipush 8) 2 379 := ⟨zq_16 zg_3_4_345.2.2.2.2.2.2.2.2.2.2.2.2.2.2.2.2.2.2.2.2.2.2.1 zg_3_4_345.2.2.2.2.2.2.2.2.2.2.2.2.2.2.2.2.2.2.2.2.2.2.2 (by decide), rfl⟩
theorem zg_3_4_379 : zq_at zy_makeTile_3_4.2.1 379 21 ∧ zq_at zy_makeTile_3_4.2.1 380 7 ∧ zq_at zy_makeTile_3_4.2.1 381 184 ∧ zq_at zy_makeTile_3_4.2.1 382 0 ∧ zq_at zy_makeTile_3_4.2.1 383 132 ∧ zq_at zy_makeTile_3_4.2.1 384 129 ∧ zq_at zy_makeTile_3_4.2.1 385 8 ∧ zq_at zy_makeTile_3_4.2.1 386 42 ∧ zq_at zy_makeTile_3_4.2.1 387 180 ∧ zq_at zy_makeTile_3_4.2.1 388 0 ∧ zq_at zy_makeTile_3_4.2.1 389 51 ∧ zq_at zy_makeTile_3_4.2.1 390 42 ∧ zq_at zy_makeTile_3_4.2.1 391 180 ∧ zq_at zy_makeTile_3_4.2.1 392 0 ∧ zq_at zy_makeTile_3_4.2.1 393 85 ∧ zq_at zy_makeTile_3_4.2.1 394 42 ∧ zq_at zy_makeTile_3_4.2.1 395 180 ∧ zq_at zy_makeTile_3_4.2.1 396 0 ∧ zq_at zy_makeTile_3_4.2.1 397 88 ∧ zq_at zy_makeTile_3_4.2.1 398 42 ∧ zq_at zy_makeTile_3_4.2.1 399 180 ∧ zq_at zy_makeTile_3_4.2.1 400 0 ∧ zq_at zy_makeTile_3_4.2.1 401 76 := by decide +kernel
theorem zd_3_4_379 : zz_D zy_makeTile_3_4 379 (.iload 7) 2 381 := ⟨zq_21 zg_3_4_379.1 zg_3_4_379.2.1, rfl⟩
theorem zd_3_4_381 : zz_D zy_makeTile_3_4 381 (.invokestatic 132) 3 384 := ⟨zq_184 zg_3_4_379.2.2.1 zg_3_4_379.2.2.2.1 zg_3_4_379.2.2.2.2.1 rfl, rfl⟩
theorem zd_3_4_384 : zz_D zy_makeTile_3_4 384 (.lor) 1 385 := ⟨zq_129 zg_3_4_379.2.2.2.2.2.1, rfl⟩
theorem zd_3_4_385 : zz_D zy_makeTile_3_4 385 (.iconst 5) 1 386 := ⟨zq_8 zg_3_4_379.2.2.2.2.2.2.1, rfl⟩
theorem zd_3_4_386 : zz_D zy_makeTile_3_4 386 (.aload_n 0) 1 387 := ⟨zq_42 zg_3_4_379.2.2.2.2.2.2.2.1, rfl⟩
theorem zd_3_4_387 : zz_D zy_makeTile_3_4 387 (.getfield 51) 3 390 := ⟨zq_180 zg_3_4_379.2.2.2.2.2.2.2.2.1 zg_3_4_379.2.2.2.2.2.2.2.2.2.1 zg_3_4_379.2.2.2.2.2.2.2.2.2.2.1 rfl, rfl⟩
theorem zd_3_4_390 : zz_D zy_makeTile_3_4 390 (.aload_n 0) 1 391 := ⟨zq_42 zg_3_4_379.2.2.2.2.2.2.2.2.2.2.2.1, rfl⟩
theorem zd_3_4_391 : zz_D zy_makeTile_3_4 391 (.getfield 85) 3 394 := ⟨zq_180 zg_3_4_379.2.2.2.2.2.2.2.2.2.2.2.2.1 zg_3_4_379.2.2.2.2.2.2.2.2.2.2.2.2.2.1 zg_3_4_379.2.2.2.2.2.2.2.2.2.2.2.2.2.2.1 rfl, rfl⟩
theorem zd_3_4_394 : zz_D zy_makeTile_3_4 394 (.aload_n 0) 1 395 := ⟨zq_42 zg_3_4_379.2.2.2.2.2.2.2.2.2.2.2.2.2.2.2.1, rfl⟩
theorem zd_3_4_395 : zz_D zy_makeTile_3_4 395 (.getfield 88) 3 398 := ⟨zq_180 zg_3_4_379.2.2.2.2.2.2.2.2.2.2.2.2.2.2.2.2.1 zg_3_4_379.2.2.2.2.2.2.2.2.2.2.2.2.2.2.2.2.2.1 zg_3_4_379.2.2.2.2.2.2.2.2.2.2.2.2.2.2.2.2.2.2.1 rfl, rfl⟩
theorem zd_3_4_398 : zz_D zy_makeTile_3_4 398 (.aload_n 0) 1 399 := ⟨zq_42 zg_3_4_379.2.2.2.2.2.2.2.2.2.2.2.2.2.2.2.2.2.2.2.1, rfl⟩
theorem zd_3_4_399 : zz_D zy_makeTile_3_4 399 (.getfield 76) 3 402 := ⟨zq_180 zg_3_4_379.2.2.2.2.2.2.2.2.2.2.2.2.2.2.2.2.2.2.2.2.1 zg_3_4_379.2.2.2.2.2.2.2.2.2.2.2.2.2.2.2.2.2.2.2.2.2.1 zg_3_4_379.2.2.2.2.2.2.2.2.2.2.2.2.2.2.2.2.2.2.2.2.2.2 rfl, rfl⟩
theorem zg_3_4_402 : zq_at zy_makeTile_3_4.2.1 402 182 ∧ zq_at zy_makeTile_3_4.2.1 403 0 ∧ zq_at zy_makeTile_3_4.2.1 404 147 := by decide +kernel
theorem zd_3_4_402 : zz_D zy_makeTile_3_4 402 (.invokevirtual 147) 3 405 := ⟨zq_182 zg_3_4_402.1 zg_3_4_402.2.1 zg_3_4_402.2.2 rfl, rfl⟩
theorem zg_4_15_0 : zq_at zy_cellAt_4_15.2.1 0 42 ∧ zq_at zy_cellAt_4_15.2.1 1 180 ∧ zq_at zy_cellAt_4_15.2.1 2 0 ∧ zq_at zy_cellAt_4_15.2.1 3 48 ∧ zq_at zy_cellAt_4_15.2.1 4 27 ∧ zq_at zy_cellAt_4_15.2.1 5 42 ∧ zq_at zy_cellAt_4_15.2.1 6 180 ∧ zq_at zy_cellAt_4_15.2.1 7 0 ∧ zq_at zy_cellAt_4_15.2.1 8 57 ∧ zq_at zy_cellAt_4_15.2.1 9 104 ∧ zq_at zy_cellAt_4_15.2.1 10 28 ∧ zq_at zy_cellAt_4_15.2.1 11 96 ∧ zq_at zy_cellAt_4_15.2.1 12 42 ∧ zq_at zy_cellAt_4_15.2.1 13 180 ∧ zq_at zy_cellAt_4_15.2.1 14 0 ∧ zq_at zy_cellAt_4_15.2.1 15 60 ∧ zq_at zy_cellAt_4_15.2.1 16 104 ∧ zq_at zy_cellAt_4_15.2.1 17 96 ∧ zq_at zy_cellAt_4_15.2.1 18 29 ∧ zq_at zy_cellAt_4_15.2.1 19 96 ∧ zq_at zy_cellAt_4_15.2.1 20 172 := by decide +kernel
theorem zd_4_15_0 : zz_D zy_cellAt_4_15 0 (.aload_n 0) 1 1 := ⟨zq_42 zg_4_15_0.1, rfl⟩
theorem zd_4_15_1 : zz_D zy_cellAt_4_15 1 (.getfield 48) 3 4 := ⟨zq_180 zg_4_15_0.2.1 zg_4_15_0.2.2.1 zg_4_15_0.2.2.2.1 rfl, rfl⟩
theorem zd_4_15_4 : zz_D zy_cellAt_4_15 4 (.iload_n 1) 1 5 := ⟨zq_27 zg_4_15_0.2.2.2.2.1, rfl⟩
theorem zd_4_15_5 : zz_D zy_cellAt_4_15 5 (.aload_n 0) 1 6 := ⟨zq_42 zg_4_15_0.2.2.2.2.2.1, rfl⟩
theorem zd_4_15_6 : zz_D zy_cellAt_4_15 6 (.getfield 57) 3 9 := ⟨zq_180 zg_4_15_0.2.2.2.2.2.2.1 zg_4_15_0.2.2.2.2.2.2.2.1 zg_4_15_0.2.2.2.2.2.2.2.2.1 rfl, rfl⟩
theorem zd_4_15_9 : zz_D zy_cellAt_4_15 9 (.imul) 1 10 := ⟨zq_104 zg_4_15_0.2.2.2.2.2.2.2.2.2.1, rfl⟩
theorem zd_4_15_10 : zz_D zy_cellAt_4_15 10 (.iload_n 2) 1 11 := ⟨zq_28 zg_4_15_0.2.2.2.2.2.2.2.2.2.2.1, rfl⟩
theorem zd_4_15_11 : zz_D zy_cellAt_4_15 11 (.iadd) 1 12 := ⟨zq_96 zg_4_15_0.2.2.2.2.2.2.2.2.2.2.2.1, rfl⟩
theorem zd_4_15_12 : zz_D zy_cellAt_4_15 12 (.aload_n 0) 1 13 := ⟨zq_42 zg_4_15_0.2.2.2.2.2.2.2.2.2.2.2.2.1, rfl⟩
theorem zd_4_15_13 : zz_D zy_cellAt_4_15 13 (.getfield 60) 3 16 := ⟨zq_180 zg_4_15_0.2.2.2.2.2.2.2.2.2.2.2.2.2.1 zg_4_15_0.2.2.2.2.2.2.2.2.2.2.2.2.2.2.1 zg_4_15_0.2.2.2.2.2.2.2.2.2.2.2.2.2.2.2.1 rfl, rfl⟩
theorem zd_4_15_16 : zz_D zy_cellAt_4_15 16 (.imul) 1 17 := ⟨zq_104 zg_4_15_0.2.2.2.2.2.2.2.2.2.2.2.2.2.2.2.2.1, rfl⟩
theorem zd_4_15_17 : zz_D zy_cellAt_4_15 17 (.iadd) 1 18 := ⟨zq_96 zg_4_15_0.2.2.2.2.2.2.2.2.2.2.2.2.2.2.2.2.2.1, rfl⟩
theorem zd_4_15_18 : zz_D zy_cellAt_4_15 18 (.iload_n 3) 1 19 := ⟨zq_29 zg_4_15_0.2.2.2.2.2.2.2.2.2.2.2.2.2.2.2.2.2.2.1, rfl⟩
theorem zd_4_15_19 : zz_D zy_cellAt_4_15 19 (.iadd) 1 20 := ⟨zq_96 zg_4_15_0.2.2.2.2.2.2.2.2.2.2.2.2.2.2.2.2.2.2.2.1, rfl⟩
theorem zd_4_15_20 : zz_D zy_cellAt_4_15 20 (.ireturn) 1 21 := ⟨zq_172 zg_4_15_0.2.2.2.2.2.2.2.2.2.2.2.2.2.2.2.2.2.2.2.2, rfl⟩
-- TensorForge$Layer cellAt (III)I
abbrev zr_cellAt_4_15 : Room := { frames := 0, cells := 0, slots := 0, locals := 0 }
def zp_cellAt_4_15 (t : Int) (p0 : Int) (p1 : Int) (p2 : Int) (S0 : zz_S) : Int → zz_S → Prop := fun r S => S0 = S ∧ ((-2147483648) ≤ r ∧ r ≤ 2147483647)
theorem zc_cellAt_4_15 {g : mm_G} {l : Launch} (t : Int) (p0 : Int) (p1 : Int) (p2 : Int) (S0 : zz_S) (n : Nat) (hn : zz_end ≤ n) (G_S0 : zz_G S0) (ht : 0 ≤ t ∧ t ≤ 23) (hp0 : (-2147483648) ≤ p0 ∧ p0 ≤ 2147483647) (hp1 : (-2147483648) ≤ p1 ∧ p1 ≤ 2147483647) (hp2 : (-2147483648) ≤ p2 ∧ p2 ≤ 2147483647) : mm_Met g l zy_cellAt_4_15 zr_cellAt_4_15 [.ref (zz_rf 6 t), zi p0, zi p1, zi p2] (zz_M S0 n) n (zz_QI n (zp_cellAt_4_15 t p0 p1 p2 S0)) := by
  refine zz_enter (by decide) (Nat.le_of_ble_eq_true rfl) (zz_less (ls1 := [some (.ref (zz_rf 6 t)), some (zi p0), some (zi p1), some (zi p2)]) ⟨rfl, ⟨rfl, ⟨rfl, ⟨rfl, trivial⟩⟩⟩⟩ ?_)
  have b_t := zz_rf6 (z := t) (by omega)
  refine zz_aload_n (x := zz_rf 6 t) rfl zd_4_15_0 ?_
  have g1 := zz_G.r G_S0 (zz_rf 6 t) 13 (-2147483648) 2147483647 (zR_k6_13 (by omega)) (zB_k6 (by omega))
  refine zz_geti (z := S0 (zz_rf 6 t) 13) zd_4_15_1 zf_Layer_48 (zT_k6 (by omega)) rfl (zN_k6 hn (by omega)) rfl ?_
  refine zz_iload_n (x := p0) rfl zd_4_15_4 ?_
  refine zz_aload_n (x := zz_rf 6 t) rfl zd_4_15_5 ?_
  have g2 := zz_G.r G_S0 (zz_rf 6 t) 11 (-2147483648) 2147483647 (zR_k6_11 (by omega)) (zB_k6 (by omega))
  refine zz_geti (z := S0 (zz_rf 6 t) 11) zd_4_15_6 zf_Layer_57 (zT_k6 (by omega)) rfl (zN_k6 hn (by omega)) rfl ?_
  refine zz_imul zd_4_15_9 ?_
  refine zz_nrm (fun v3 hv3 ev3 => ?_)
  refine zz_iload_n (x := p1) rfl zd_4_15_10 ?_
  refine zz_iadd zd_4_15_11 ?_
  refine zz_nrm (fun v4 hv4 ev4 => ?_)
  refine zz_aload_n (x := zz_rf 6 t) rfl zd_4_15_12 ?_
  have g5 := zz_G.r G_S0 (zz_rf 6 t) 12 (-2147483648) 2147483647 (zR_k6_12 (by omega)) (zB_k6 (by omega))
  refine zz_geti (z := S0 (zz_rf 6 t) 12) zd_4_15_13 zf_Layer_60 (zT_k6 (by omega)) rfl (zN_k6 hn (by omega)) rfl ?_
  refine zz_imul zd_4_15_16 ?_
  refine zz_nrm (fun v6 hv6 ev6 => ?_)
  refine zz_iadd zd_4_15_17 ?_
  refine zz_nrm (fun v7 hv7 ev7 => ?_)
  refine zz_iload_n (x := p2) rfl zd_4_15_18 ?_
  refine zz_iadd zd_4_15_19 ?_
  refine zz_nrm (fun v8 hv8 ev8 => ?_)
  exact zz_iret zd_4_15_20 rfl (Nat.zero_le _) (Nat.zero_le _) ⟨_, _, rfl, rfl, by omega⟩
theorem zk_Compiler_147 : mm_Vl "TensorForge$Compiler" 147 2 3 zy_cellAt_4_15 := ⟨zyw_cellAt_4_15, (R_Layer, F_Layer, 15), rfl, mm_tb_1 1458 (by decide +kernel) rfl, mm_tb_1 867 (by decide +kernel) rfl, mm_tb_1 868 (by decide +kernel) rfl⟩
theorem zf_Compiler_109 : mm_Fl "TensorForge$Compiler" 109 9 14 .int false := ⟨R_Compiler, F_Compiler, 17, t_Compiler, rfl, i_Compiler, by decide, mm_tb_1 389 (by decide +kernel) rfl, rfl, t_Compiler_ok, n_Compiler, rfl, by decide +kernel⟩
theorem zf_Compiler_112 : mm_Fl "TensorForge$Compiler" 112 9 15 .int false := ⟨R_Compiler, F_Compiler, 17, t_Compiler, rfl, i_Compiler, by decide, mm_tb_1 390 (by decide +kernel) rfl, rfl, t_Compiler_ok, n_Compiler, rfl, by decide +kernel⟩
theorem zf_Compiler_115 : mm_Fl "TensorForge$Compiler" 115 9 16 .int false := ⟨R_Compiler, F_Compiler, 17, t_Compiler, rfl, i_Compiler, by decide, mm_tb_1 391 (by decide +kernel) rfl, rfl, t_Compiler_ok, n_Compiler, rfl, by decide +kernel⟩
abbrev zy_makeGroup_3_5 : mm_Y := (⟨"TensorForge$Compiler", "makeGroup", "(ZZ)V"⟩, prog_3_method_5_code, 6, none)
theorem zyw_makeGroup_3_5 : mm_Yw zy_makeGroup_3_5 2 := ⟨mm_tb_1 1423 (by decide +kernel) rfl, mm_tb_1 10 (by decide +kernel) rfl, ⟨by decide, by decide⟩, by decide +kernel⟩
abbrev zy_loadPlaces_3_10 : mm_Y := (⟨"TensorForge$Compiler", "loadPlaces", "(IIII)V"⟩, prog_3_method_10_code, 5, none)
theorem zyw_loadPlaces_3_10 : mm_Yw zy_loadPlaces_3_10 4 := ⟨mm_tb_1 1462 (by decide +kernel) rfl, mm_tb_1 10 (by decide +kernel) rfl, ⟨by decide, by decide⟩, by decide +kernel⟩
abbrev zy_groupHalf_3_14 : mm_Y := (⟨"TensorForge$Compiler", "groupHalf", "()I"⟩, prog_3_method_14_code, 1, (some .int))
theorem zyw_groupHalf_3_14 : mm_Yw zy_groupHalf_3_14 0 := ⟨mm_tb_1 1444 (by decide +kernel) rfl, mm_tb_1 10 (by decide +kernel) rfl, ⟨by decide, by decide⟩, by decide +kernel⟩
theorem zg_3_4_405 : zq_at zy_makeTile_3_4.2.1 405 184 ∧ zq_at zy_makeTile_3_4.2.1 406 0 ∧ zq_at zy_makeTile_3_4.2.1 407 132 ∧ zq_at zy_makeTile_3_4.2.1 408 129 ∧ zq_at zy_makeTile_3_4.2.1 409 16 ∧ zq_at zy_makeTile_3_4.2.1 410 10 ∧ zq_at zy_makeTile_3_4.2.1 411 42 ∧ zq_at zy_makeTile_3_4.2.1 412 180 ∧ zq_at zy_makeTile_3_4.2.1 413 0 ∧ zq_at zy_makeTile_3_4.2.1 414 51 ∧ zq_at zy_makeTile_3_4.2.1 415 180 ∧ zq_at zy_makeTile_3_4.2.1 416 0 ∧ zq_at zy_makeTile_3_4.2.1 417 79 ∧ zq_at zy_makeTile_3_4.2.1 418 184 ∧ zq_at zy_makeTile_3_4.2.1 419 0 ∧ zq_at zy_makeTile_3_4.2.1 420 132 ∧ zq_at zy_makeTile_3_4.2.1 421 129 ∧ zq_at zy_makeTile_3_4.2.1 422 4 ∧ zq_at zy_makeTile_3_4.2.1 423 184 ∧ zq_at zy_makeTile_3_4.2.1 424 0 ∧ zq_at zy_makeTile_3_4.2.1 425 139 ∧ zq_at zy_makeTile_3_4.2.1 426 129 ∧ zq_at zy_makeTile_3_4.2.1 427 6 := by decide +kernel
theorem zd_3_4_405 : zz_D zy_makeTile_3_4 405 (.invokestatic 132) 3 408 := ⟨zq_184 zg_3_4_405.1 zg_3_4_405.2.1 zg_3_4_405.2.2.1 rfl, rfl⟩
theorem zd_3_4_408 : zz_D zy_makeTile_3_4 408 (.lor) 1 409 := ⟨zq_129 zg_3_4_405.2.2.2.1, rfl⟩
theorem zd_3_4_409 : zz_D zy_makeTile_3_4 409 (.bipush 10) 2 411 := ⟨zq_16 zg_3_4_405.2.2.2.2.1 zg_3_4_405.2.2.2.2.2.1 (by decide), rfl⟩
theorem zd_3_4_411 : zz_D zy_makeTile_3_4 411 (.aload_n 0) 1 412 := ⟨zq_42 zg_3_4_405.2.2.2.2.2.2.1, rfl⟩
theorem zd_3_4_412 : zz_D zy_makeTile_3_4 412 (.getfield 51) 3 415 := ⟨zq_180 zg_3_4_405.2.2.2.2.2.2.2.1 zg_3_4_405.2.2.2.2.2.2.2.2.1 zg_3_4_405.2.2.2.2.2.2.2.2.2.1 rfl, rfl⟩
theorem zd_3_4_415 : zz_D zy_makeTile_3_4 415 (.getfield 79) 3 418 := ⟨zq_180 zg_3_4_405.2.2.2.2.2.2.2.2.2.2.1 zg_3_4_405.2.2.2.2.2.2.2.2.2.2.2.1 zg_3_4_405.2.2.2.2.2.2.2.2.2.2.2.2.1 rfl, rfl⟩
theorem zd_3_4_418 : zz_D zy_makeTile_3_4 418 (.invokestatic 132) 3 421 := ⟨zq_184 zg_3_4_405.2.2.2.2.2.2.2.2.2.2.2.2.2.1 zg_3_4_405.2.2.2.2.2.2.2.2.2.2.2.2.2.2.1 zg_3_4_405.2.2.2.2.2.2.2.2.2.2.2.2.2.2.2.1 rfl, rfl⟩
theorem zd_3_4_421 : zz_D zy_makeTile_3_4 421 (.lor) 1 422 := ⟨zq_129 zg_3_4_405.2.2.2.2.2.2.2.2.2.2.2.2.2.2.2.2.1, rfl⟩
theorem zd_3_4_422 : zz_D zy_makeTile_3_4 422 (.iconst 1) 1 423 := ⟨zq_4 zg_3_4_405.2.2.2.2.2.2.2.2.2.2.2.2.2.2.2.2.2.1, rfl⟩
theorem zd_3_4_423 : zz_D zy_makeTile_3_4 423 (.invokestatic 139) 3 426 := ⟨zq_184 zg_3_4_405.2.2.2.2.2.2.2.2.2.2.2.2.2.2.2.2.2.2.1 zg_3_4_405.2.2.2.2.2.2.2.2.2.2.2.2.2.2.2.2.2.2.2.1 zg_3_4_405.2.2.2.2.2.2.2.2.2.2.2.2.2.2.2.2.2.2.2.2.1 rfl, rfl⟩
theorem zd_3_4_426 : zz_D zy_makeTile_3_4 426 (.lor) 1 427 := ⟨zq_129 zg_3_4_405.2.2.2.2.2.2.2.2.2.2.2.2.2.2.2.2.2.2.2.2.2.1, rfl⟩
theorem zd_3_4_427 : zz_D zy_makeTile_3_4 427 (.iconst 3) 1 428 := ⟨zq_6 zg_3_4_405.2.2.2.2.2.2.2.2.2.2.2.2.2.2.2.2.2.2.2.2.2.2, rfl⟩
theorem zg_3_4_428 : zq_at zy_makeTile_3_4.2.1 428 184 ∧ zq_at zy_makeTile_3_4.2.1 429 0 ∧ zq_at zy_makeTile_3_4.2.1 430 139 ∧ zq_at zy_makeTile_3_4.2.1 431 129 ∧ zq_at zy_makeTile_3_4.2.1 432 182 ∧ zq_at zy_makeTile_3_4.2.1 433 0 ∧ zq_at zy_makeTile_3_4.2.1 434 143 ∧ zq_at zy_makeTile_3_4.2.1 435 42 ∧ zq_at zy_makeTile_3_4.2.1 436 89 ∧ zq_at zy_makeTile_3_4.2.1 437 180 ∧ zq_at zy_makeTile_3_4.2.1 438 0 ∧ zq_at zy_makeTile_3_4.2.1 439 70 ∧ zq_at zy_makeTile_3_4.2.1 440 4 ∧ zq_at zy_makeTile_3_4.2.1 441 96 ∧ zq_at zy_makeTile_3_4.2.1 442 181 ∧ zq_at zy_makeTile_3_4.2.1 443 0 ∧ zq_at zy_makeTile_3_4.2.1 444 70 ∧ zq_at zy_makeTile_3_4.2.1 445 177 ∧ zq_at zy_makeTile_3_4.2.1 348 22 ∧ zq_at zy_makeTile_3_4.2.1 349 8 ∧ zq_at zy_makeTile_3_4.2.1 350 5 ∧ zq_at zy_makeTile_3_4.2.1 351 184 ∧ zq_at zy_makeTile_3_4.2.1 352 0 ∧ zq_at zy_makeTile_3_4.2.1 353 139 := by decide +kernel
theorem zd_3_4_428 : zz_D zy_makeTile_3_4 428 (.invokestatic 139) 3 431 := ⟨zq_184 zg_3_4_428.1 zg_3_4_428.2.1 zg_3_4_428.2.2.1 rfl, rfl⟩
theorem zd_3_4_431 : zz_D zy_makeTile_3_4 431 (.lor) 1 432 := ⟨zq_129 zg_3_4_428.2.2.2.1, rfl⟩
theorem zd_3_4_432 : zz_D zy_makeTile_3_4 432 (.invokevirtual 143) 3 435 := ⟨zq_182 zg_3_4_428.2.2.2.2.1 zg_3_4_428.2.2.2.2.2.1 zg_3_4_428.2.2.2.2.2.2.1 rfl, rfl⟩
theorem zd_3_4_435 : zz_D zy_makeTile_3_4 435 (.aload_n 0) 1 436 := ⟨zq_42 zg_3_4_428.2.2.2.2.2.2.2.1, rfl⟩
theorem zd_3_4_436 : zz_D zy_makeTile_3_4 436 (.dup) 1 437 := ⟨zq_89 zg_3_4_428.2.2.2.2.2.2.2.2.1, rfl⟩
theorem zd_3_4_437 : zz_D zy_makeTile_3_4 437 (.getfield 70) 3 440 := ⟨zq_180 zg_3_4_428.2.2.2.2.2.2.2.2.2.1 zg_3_4_428.2.2.2.2.2.2.2.2.2.2.1 zg_3_4_428.2.2.2.2.2.2.2.2.2.2.2.1 rfl, rfl⟩
theorem zd_3_4_440 : zz_D zy_makeTile_3_4 440 (.iconst 1) 1 441 := ⟨zq_4 zg_3_4_428.2.2.2.2.2.2.2.2.2.2.2.2.1, rfl⟩
theorem zd_3_4_441 : zz_D zy_makeTile_3_4 441 (.iadd) 1 442 := ⟨zq_96 zg_3_4_428.2.2.2.2.2.2.2.2.2.2.2.2.2.1, rfl⟩
theorem zd_3_4_442 : zz_D zy_makeTile_3_4 442 (.putfield 70) 3 445 := ⟨zq_181 zg_3_4_428.2.2.2.2.2.2.2.2.2.2.2.2.2.2.1 zg_3_4_428.2.2.2.2.2.2.2.2.2.2.2.2.2.2.2.1 zg_3_4_428.2.2.2.2.2.2.2.2.2.2.2.2.2.2.2.2.1 rfl, rfl⟩
theorem zd_3_4_445 : zz_D zy_makeTile_3_4 445 (.return_) 1 446 := ⟨zq_177 zg_3_4_428.2.2.2.2.2.2.2.2.2.2.2.2.2.2.2.2.2.1, rfl⟩
theorem zd_3_4_348 : zz_D zy_makeTile_3_4 348 (.lload 8) 2 350 := ⟨zq_22 zg_3_4_428.2.2.2.2.2.2.2.2.2.2.2.2.2.2.2.2.2.2.1 zg_3_4_428.2.2.2.2.2.2.2.2.2.2.2.2.2.2.2.2.2.2.2.1, rfl⟩
theorem zd_3_4_350 : zz_D zy_makeTile_3_4 350 (.iconst 2) 1 351 := ⟨zq_5 zg_3_4_428.2.2.2.2.2.2.2.2.2.2.2.2.2.2.2.2.2.2.2.2.1, rfl⟩
theorem zd_3_4_351 : zz_D zy_makeTile_3_4 351 (.invokestatic 139) 3 354 := ⟨zq_184 zg_3_4_428.2.2.2.2.2.2.2.2.2.2.2.2.2.2.2.2.2.2.2.2.2.1 zg_3_4_428.2.2.2.2.2.2.2.2.2.2.2.2.2.2.2.2.2.2.2.2.2.2.1 zg_3_4_428.2.2.2.2.2.2.2.2.2.2.2.2.2.2.2.2.2.2.2.2.2.2.2 rfl, rfl⟩
theorem zg_3_4_354 : zq_at zy_makeTile_3_4.2.1 354 129 ∧ zq_at zy_makeTile_3_4.2.1 355 167 ∧ zq_at zy_makeTile_3_4.2.1 356 0 ∧ zq_at zy_makeTile_3_4.2.1 357 5 ∧ zq_at zy_makeTile_3_4.2.1 103 42 ∧ zq_at zy_makeTile_3_4.2.1 104 3 ∧ zq_at zy_makeTile_3_4.2.1 105 181 ∧ zq_at zy_makeTile_3_4.2.1 106 0 ∧ zq_at zy_makeTile_3_4.2.1 107 109 ∧ zq_at zy_makeTile_3_4.2.1 108 42 ∧ zq_at zy_makeTile_3_4.2.1 109 180 ∧ zq_at zy_makeTile_3_4.2.1 110 0 ∧ zq_at zy_makeTile_3_4.2.1 111 109 ∧ zq_at zy_makeTile_3_4.2.1 112 21 ∧ zq_at zy_makeTile_3_4.2.1 113 4 ∧ zq_at zy_makeTile_3_4.2.1 114 162 ∧ zq_at zy_makeTile_3_4.2.1 115 0 ∧ zq_at zy_makeTile_3_4.2.1 116 152 ∧ zq_at zy_makeTile_3_4.2.1 266 42 ∧ zq_at zy_makeTile_3_4.2.1 267 89 ∧ zq_at zy_makeTile_3_4.2.1 268 180 ∧ zq_at zy_makeTile_3_4.2.1 269 0 ∧ zq_at zy_makeTile_3_4.2.1 270 106 ∧ zq_at zy_makeTile_3_4.2.1 271 4 := by decide +kernel
theorem zd_3_4_354 : zz_D zy_makeTile_3_4 354 (.lor) 1 355 := ⟨zq_129 zg_3_4_354.1, rfl⟩
theorem zd_3_4_355 : zz_B zy_makeTile_3_4 355 Instr.goto 360 358 := ⟨5, zq_167 zg_3_4_354.2.1 zg_3_4_354.2.2.1 zg_3_4_354.2.2.2.1 (by decide), rfl, rfl⟩
theorem zd_3_4_103 : zz_D zy_makeTile_3_4 103 (.aload_n 0) 1 104 := ⟨zq_42 zg_3_4_354.2.2.2.2.1, rfl⟩
theorem zd_3_4_104 : zz_D zy_makeTile_3_4 104 (.iconst 0) 1 105 := ⟨zq_3 zg_3_4_354.2.2.2.2.2.1, rfl⟩
theorem zd_3_4_105 : zz_D zy_makeTile_3_4 105 (.putfield 109) 3 108 := ⟨zq_181 zg_3_4_354.2.2.2.2.2.2.1 zg_3_4_354.2.2.2.2.2.2.2.1 zg_3_4_354.2.2.2.2.2.2.2.2.1 rfl, rfl⟩
theorem zd_3_4_108 : zz_D zy_makeTile_3_4 108 (.aload_n 0) 1 109 := ⟨zq_42 zg_3_4_354.2.2.2.2.2.2.2.2.2.1, rfl⟩
theorem zd_3_4_109 : zz_D zy_makeTile_3_4 109 (.getfield 109) 3 112 := ⟨zq_180 zg_3_4_354.2.2.2.2.2.2.2.2.2.2.1 zg_3_4_354.2.2.2.2.2.2.2.2.2.2.2.1 zg_3_4_354.2.2.2.2.2.2.2.2.2.2.2.2.1 rfl, rfl⟩
theorem zd_3_4_112 : zz_D zy_makeTile_3_4 112 (.iload 4) 2 114 := ⟨zq_21 zg_3_4_354.2.2.2.2.2.2.2.2.2.2.2.2.2.1 zg_3_4_354.2.2.2.2.2.2.2.2.2.2.2.2.2.2.1, rfl⟩
theorem zd_3_4_114 : zz_B zy_makeTile_3_4 114 (Instr.if_icmp .ge) 266 117 := ⟨152, zq_162 zg_3_4_354.2.2.2.2.2.2.2.2.2.2.2.2.2.2.2.1 zg_3_4_354.2.2.2.2.2.2.2.2.2.2.2.2.2.2.2.2.1 zg_3_4_354.2.2.2.2.2.2.2.2.2.2.2.2.2.2.2.2.2.1 (by decide), rfl, rfl⟩
theorem zd_3_4_266 : zz_D zy_makeTile_3_4 266 (.aload_n 0) 1 267 := ⟨zq_42 zg_3_4_354.2.2.2.2.2.2.2.2.2.2.2.2.2.2.2.2.2.2.1, rfl⟩
theorem zd_3_4_267 : zz_D zy_makeTile_3_4 267 (.dup) 1 268 := ⟨zq_89 zg_3_4_354.2.2.2.2.2.2.2.2.2.2.2.2.2.2.2.2.2.2.2.1, rfl⟩
theorem zd_3_4_268 : zz_D zy_makeTile_3_4 268 (.getfield 106) 3 271 := ⟨zq_180 zg_3_4_354.2.2.2.2.2.2.2.2.2.2.2.2.2.2.2.2.2.2.2.2.1 zg_3_4_354.2.2.2.2.2.2.2.2.2.2.2.2.2.2.2.2.2.2.2.2.2.1 zg_3_4_354.2.2.2.2.2.2.2.2.2.2.2.2.2.2.2.2.2.2.2.2.2.2.1 rfl, rfl⟩
theorem zd_3_4_271 : zz_D zy_makeTile_3_4 271 (.iconst 1) 1 272 := ⟨zq_4 zg_3_4_354.2.2.2.2.2.2.2.2.2.2.2.2.2.2.2.2.2.2.2.2.2.2.2, rfl⟩
theorem zg_3_4_272 : zq_at zy_makeTile_3_4.2.1 272 96 ∧ zq_at zy_makeTile_3_4.2.1 273 181 ∧ zq_at zy_makeTile_3_4.2.1 274 0 ∧ zq_at zy_makeTile_3_4.2.1 275 106 ∧ zq_at zy_makeTile_3_4.2.1 276 167 ∧ zq_at zy_makeTile_3_4.2.1 277 255 ∧ zq_at zy_makeTile_3_4.2.1 278 75 ∧ zq_at zy_makeTile_3_4.2.1 117 42 ∧ zq_at zy_makeTile_3_4.2.1 118 3 ∧ zq_at zy_makeTile_3_4.2.1 119 181 ∧ zq_at zy_makeTile_3_4.2.1 120 0 ∧ zq_at zy_makeTile_3_4.2.1 121 112 ∧ zq_at zy_makeTile_3_4.2.1 122 42 ∧ zq_at zy_makeTile_3_4.2.1 123 180 ∧ zq_at zy_makeTile_3_4.2.1 124 0 ∧ zq_at zy_makeTile_3_4.2.1 125 112 ∧ zq_at zy_makeTile_3_4.2.1 126 21 ∧ zq_at zy_makeTile_3_4.2.1 127 5 ∧ zq_at zy_makeTile_3_4.2.1 128 162 ∧ zq_at zy_makeTile_3_4.2.1 129 0 ∧ zq_at zy_makeTile_3_4.2.1 130 125 ∧ zq_at zy_makeTile_3_4.2.1 253 42 ∧ zq_at zy_makeTile_3_4.2.1 254 89 := by decide +kernel
theorem zd_3_4_272 : zz_D zy_makeTile_3_4 272 (.iadd) 1 273 := ⟨zq_96 zg_3_4_272.1, rfl⟩
theorem zd_3_4_273 : zz_D zy_makeTile_3_4 273 (.putfield 106) 3 276 := ⟨zq_181 zg_3_4_272.2.1 zg_3_4_272.2.2.1 zg_3_4_272.2.2.2.1 rfl, rfl⟩
theorem zd_3_4_276 : zz_B zy_makeTile_3_4 276 Instr.goto 95 279 := ⟨(-181), zq_167 zg_3_4_272.2.2.2.2.1 zg_3_4_272.2.2.2.2.2.1 zg_3_4_272.2.2.2.2.2.2.1 (by decide), rfl, rfl⟩
theorem zd_3_4_117 : zz_D zy_makeTile_3_4 117 (.aload_n 0) 1 118 := ⟨zq_42 zg_3_4_272.2.2.2.2.2.2.2.1, rfl⟩
theorem zd_3_4_118 : zz_D zy_makeTile_3_4 118 (.iconst 0) 1 119 := ⟨zq_3 zg_3_4_272.2.2.2.2.2.2.2.2.1, rfl⟩
theorem zd_3_4_119 : zz_D zy_makeTile_3_4 119 (.putfield 112) 3 122 := ⟨zq_181 zg_3_4_272.2.2.2.2.2.2.2.2.2.1 zg_3_4_272.2.2.2.2.2.2.2.2.2.2.1 zg_3_4_272.2.2.2.2.2.2.2.2.2.2.2.1 rfl, rfl⟩
theorem zd_3_4_122 : zz_D zy_makeTile_3_4 122 (.aload_n 0) 1 123 := ⟨zq_42 zg_3_4_272.2.2.2.2.2.2.2.2.2.2.2.2.1, rfl⟩
theorem zd_3_4_123 : zz_D zy_makeTile_3_4 123 (.getfield 112) 3 126 := ⟨zq_180 zg_3_4_272.2.2.2.2.2.2.2.2.2.2.2.2.2.1 zg_3_4_272.2.2.2.2.2.2.2.2.2.2.2.2.2.2.1 zg_3_4_272.2.2.2.2.2.2.2.2.2.2.2.2.2.2.2.1 rfl, rfl⟩
theorem zd_3_4_126 : zz_D zy_makeTile_3_4 126 (.iload 5) 2 128 := ⟨zq_21 zg_3_4_272.2.2.2.2.2.2.2.2.2.2.2.2.2.2.2.2.1 zg_3_4_272.2.2.2.2.2.2.2.2.2.2.2.2.2.2.2.2.2.1, rfl⟩
theorem zd_3_4_128 : zz_B zy_makeTile_3_4 128 (Instr.if_icmp .ge) 253 131 := ⟨125, zq_162 zg_3_4_272.2.2.2.2.2.2.2.2.2.2.2.2.2.2.2.2.2.2.1 zg_3_4_272.2.2.2.2.2.2.2.2.2.2.2.2.2.2.2.2.2.2.2.1 zg_3_4_272.2.2.2.2.2.2.2.2.2.2.2.2.2.2.2.2.2.2.2.2.1 (by decide), rfl, rfl⟩
theorem zd_3_4_253 : zz_D zy_makeTile_3_4 253 (.aload_n 0) 1 254 := ⟨zq_42 zg_3_4_272.2.2.2.2.2.2.2.2.2.2.2.2.2.2.2.2.2.2.2.2.2.1, rfl⟩
theorem zd_3_4_254 : zz_D zy_makeTile_3_4 254 (.dup) 1 255 := ⟨zq_89 zg_3_4_272.2.2.2.2.2.2.2.2.2.2.2.2.2.2.2.2.2.2.2.2.2.2, rfl⟩
theorem zg_3_4_255 : zq_at zy_makeTile_3_4.2.1 255 180 ∧ zq_at zy_makeTile_3_4.2.1 256 0 ∧ zq_at zy_makeTile_3_4.2.1 257 109 ∧ zq_at zy_makeTile_3_4.2.1 258 4 ∧ zq_at zy_makeTile_3_4.2.1 259 96 ∧ zq_at zy_makeTile_3_4.2.1 260 181 ∧ zq_at zy_makeTile_3_4.2.1 261 0 ∧ zq_at zy_makeTile_3_4.2.1 262 109 ∧ zq_at zy_makeTile_3_4.2.1 263 167 ∧ zq_at zy_makeTile_3_4.2.1 264 255 ∧ zq_at zy_makeTile_3_4.2.1 265 101 ∧ zq_at zy_makeTile_3_4.2.1 131 42 ∧ zq_at zy_makeTile_3_4.2.1 132 27 ∧ zq_at zy_makeTile_3_4.2.1 133 153 ∧ zq_at zy_makeTile_3_4.2.1 134 0 ∧ zq_at zy_makeTile_3_4.2.1 135 25 ∧ zq_at zy_makeTile_3_4.2.1 158 42 ∧ zq_at zy_makeTile_3_4.2.1 159 180 ∧ zq_at zy_makeTile_3_4.2.1 160 0 ∧ zq_at zy_makeTile_3_4.2.1 161 82 ∧ zq_at zy_makeTile_3_4.2.1 162 181 ∧ zq_at zy_makeTile_3_4.2.1 163 0 ∧ zq_at zy_makeTile_3_4.2.1 164 115 ∧ zq_at zy_makeTile_3_4.2.1 165 42 := by decide +kernel
theorem zd_3_4_255 : zz_D zy_makeTile_3_4 255 (.getfield 109) 3 258 := ⟨zq_180 zg_3_4_255.1 zg_3_4_255.2.1 zg_3_4_255.2.2.1 rfl, rfl⟩
theorem zd_3_4_258 : zz_D zy_makeTile_3_4 258 (.iconst 1) 1 259 := ⟨zq_4 zg_3_4_255.2.2.2.1, rfl⟩
theorem zd_3_4_259 : zz_D zy_makeTile_3_4 259 (.iadd) 1 260 := ⟨zq_96 zg_3_4_255.2.2.2.2.1, rfl⟩
theorem zd_3_4_260 : zz_D zy_makeTile_3_4 260 (.putfield 109) 3 263 := ⟨zq_181 zg_3_4_255.2.2.2.2.2.1 zg_3_4_255.2.2.2.2.2.2.1 zg_3_4_255.2.2.2.2.2.2.2.1 rfl, rfl⟩
theorem zd_3_4_263 : zz_B zy_makeTile_3_4 263 Instr.goto 108 266 := ⟨(-155), zq_167 zg_3_4_255.2.2.2.2.2.2.2.2.1 zg_3_4_255.2.2.2.2.2.2.2.2.2.1 zg_3_4_255.2.2.2.2.2.2.2.2.2.2.1 (by decide), rfl, rfl⟩
theorem zd_3_4_131 : zz_D zy_makeTile_3_4 131 (.aload_n 0) 1 132 := ⟨zq_42 zg_3_4_255.2.2.2.2.2.2.2.2.2.2.2.1, rfl⟩
theorem zd_3_4_132 : zz_D zy_makeTile_3_4 132 (.iload_n 1) 1 133 := ⟨zq_27 zg_3_4_255.2.2.2.2.2.2.2.2.2.2.2.2.1, rfl⟩
theorem zd_3_4_133 : zz_B zy_makeTile_3_4 133 (Instr.ifCond .eq) 158 136 := ⟨25, zq_153 zg_3_4_255.2.2.2.2.2.2.2.2.2.2.2.2.2.1 zg_3_4_255.2.2.2.2.2.2.2.2.2.2.2.2.2.2.1 zg_3_4_255.2.2.2.2.2.2.2.2.2.2.2.2.2.2.2.1 (by decide), rfl, rfl⟩
theorem zd_3_4_158 : zz_D zy_makeTile_3_4 158 (.aload_n 0) 1 159 := ⟨zq_42 zg_3_4_255.2.2.2.2.2.2.2.2.2.2.2.2.2.2.2.2.1, rfl⟩
theorem zd_3_4_159 : zz_D zy_makeTile_3_4 159 (.getfield 82) 3 162 := ⟨zq_180 zg_3_4_255.2.2.2.2.2.2.2.2.2.2.2.2.2.2.2.2.2.1 zg_3_4_255.2.2.2.2.2.2.2.2.2.2.2.2.2.2.2.2.2.2.1 zg_3_4_255.2.2.2.2.2.2.2.2.2.2.2.2.2.2.2.2.2.2.2.1 rfl, rfl⟩
theorem zd_3_4_162 : zz_D zy_makeTile_3_4 162 (.putfield 115) 3 165 := ⟨zq_181 zg_3_4_255.2.2.2.2.2.2.2.2.2.2.2.2.2.2.2.2.2.2.2.2.1 zg_3_4_255.2.2.2.2.2.2.2.2.2.2.2.2.2.2.2.2.2.2.2.2.2.1 zg_3_4_255.2.2.2.2.2.2.2.2.2.2.2.2.2.2.2.2.2.2.2.2.2.2.1 rfl, rfl⟩
theorem zd_3_4_165 : zz_D zy_makeTile_3_4 165 (.aload_n 0) 1 166 := ⟨zq_42 zg_3_4_255.2.2.2.2.2.2.2.2.2.2.2.2.2.2.2.2.2.2.2.2.2.2.2, rfl⟩
theorem zg_3_4_166 : zq_at zy_makeTile_3_4.2.1 166 180 ∧ zq_at zy_makeTile_3_4.2.1 167 0 ∧ zq_at zy_makeTile_3_4.2.1 168 106 ∧ zq_at zy_makeTile_3_4.2.1 169 29 ∧ zq_at zy_makeTile_3_4.2.1 170 4 ∧ zq_at zy_makeTile_3_4.2.1 171 100 ∧ zq_at zy_makeTile_3_4.2.1 172 160 ∧ zq_at zy_makeTile_3_4.2.1 173 0 ∧ zq_at zy_makeTile_3_4.2.1 174 32 ∧ zq_at zy_makeTile_3_4.2.1 204 3 ∧ zq_at zy_makeTile_3_4.2.1 205 54 ∧ zq_at zy_makeTile_3_4.2.1 206 7 ∧ zq_at zy_makeTile_3_4.2.1 207 42 ∧ zq_at zy_makeTile_3_4.2.1 208 42 ∧ zq_at zy_makeTile_3_4.2.1 209 180 ∧ zq_at zy_makeTile_3_4.2.1 210 0 ∧ zq_at zy_makeTile_3_4.2.1 211 73 ∧ zq_at zy_makeTile_3_4.2.1 212 21 ∧ zq_at zy_makeTile_3_4.2.1 213 6 ∧ zq_at zy_makeTile_3_4.2.1 214 160 ∧ zq_at zy_makeTile_3_4.2.1 215 0 ∧ zq_at zy_makeTile_3_4.2.1 216 7 ∧ zq_at zy_makeTile_3_4.2.1 221 3 := by decide +kernel
theorem zd_3_4_166 : zz_D zy_makeTile_3_4 166 (.getfield 106) 3 169 := ⟨zq_180 zg_3_4_166.1 zg_3_4_166.2.1 zg_3_4_166.2.2.1 rfl, rfl⟩
theorem zd_3_4_169 : zz_D zy_makeTile_3_4 169 (.iload_n 3) 1 170 := ⟨zq_29 zg_3_4_166.2.2.2.1, rfl⟩
theorem zd_3_4_170 : zz_D zy_makeTile_3_4 170 (.iconst 1) 1 171 := ⟨zq_4 zg_3_4_166.2.2.2.2.1, rfl⟩
theorem zd_3_4_171 : zz_D zy_makeTile_3_4 171 (.isub) 1 172 := ⟨zq_100 zg_3_4_166.2.2.2.2.2.1, rfl⟩
theorem zd_3_4_172 : zz_B zy_makeTile_3_4 172 (Instr.if_icmp .ne) 204 175 := ⟨32, zq_160 zg_3_4_166.2.2.2.2.2.2.1 zg_3_4_166.2.2.2.2.2.2.2.1 zg_3_4_166.2.2.2.2.2.2.2.2.1 (by decide), rfl, rfl⟩
theorem zd_3_4_204 : zz_D zy_makeTile_3_4 204 (.iconst 0) 1 205 := ⟨zq_3 zg_3_4_166.2.2.2.2.2.2.2.2.2.1, rfl⟩
theorem zd_3_4_205 : zz_D zy_makeTile_3_4 205 (.istore 7) 2 207 := ⟨zq_54 zg_3_4_166.2.2.2.2.2.2.2.2.2.2.1 zg_3_4_166.2.2.2.2.2.2.2.2.2.2.2.1, rfl⟩
theorem zd_3_4_207 : zz_D zy_makeTile_3_4 207 (.aload_n 0) 1 208 := ⟨zq_42 zg_3_4_166.2.2.2.2.2.2.2.2.2.2.2.2.1, rfl⟩
theorem zd_3_4_208 : zz_D zy_makeTile_3_4 208 (.aload_n 0) 1 209 := ⟨zq_42 zg_3_4_166.2.2.2.2.2.2.2.2.2.2.2.2.2.1, rfl⟩
theorem zd_3_4_209 : zz_D zy_makeTile_3_4 209 (.getfield 73) 3 212 := ⟨zq_180 zg_3_4_166.2.2.2.2.2.2.2.2.2.2.2.2.2.2.1 zg_3_4_166.2.2.2.2.2.2.2.2.2.2.2.2.2.2.2.1 zg_3_4_166.2.2.2.2.2.2.2.2.2.2.2.2.2.2.2.2.1 rfl, rfl⟩
theorem zd_3_4_212 : zz_D zy_makeTile_3_4 212 (.iload 6) 2 214 := ⟨zq_21 zg_3_4_166.2.2.2.2.2.2.2.2.2.2.2.2.2.2.2.2.2.1 zg_3_4_166.2.2.2.2.2.2.2.2.2.2.2.2.2.2.2.2.2.2.1, rfl⟩
theorem zd_3_4_214 : zz_B zy_makeTile_3_4 214 (Instr.if_icmp .ne) 221 217 := ⟨7, zq_160 zg_3_4_166.2.2.2.2.2.2.2.2.2.2.2.2.2.2.2.2.2.2.2.1 zg_3_4_166.2.2.2.2.2.2.2.2.2.2.2.2.2.2.2.2.2.2.2.2.1 zg_3_4_166.2.2.2.2.2.2.2.2.2.2.2.2.2.2.2.2.2.2.2.2.2.1 (by decide), rfl, rfl⟩
theorem zd_3_4_221 : zz_D zy_makeTile_3_4 221 (.iconst 0) 1 222 := ⟨zq_3 zg_3_4_166.2.2.2.2.2.2.2.2.2.2.2.2.2.2.2.2.2.2.2.2.2.2, rfl⟩
theorem zg_3_4_222 : zq_at zy_makeTile_3_4.2.1 222 21 ∧ zq_at zy_makeTile_3_4.2.1 223 7 ∧ zq_at zy_makeTile_3_4.2.1 224 182 ∧ zq_at zy_makeTile_3_4.2.1 225 0 ∧ zq_at zy_makeTile_3_4.2.1 226 118 := by decide +kernel
theorem zd_3_4_222 : zz_D zy_makeTile_3_4 222 (.iload 7) 2 224 := ⟨zq_21 zg_3_4_222.1 zg_3_4_222.2.1, rfl⟩
theorem zd_3_4_224 : zz_D zy_makeTile_3_4 224 (.invokevirtual 118) 3 227 := ⟨zq_182 zg_3_4_222.2.2.1 zg_3_4_222.2.2.2.1 zg_3_4_222.2.2.2.2 rfl, rfl⟩
theorem zg_3_5_0 : zq_at zy_makeGroup_3_5.2.1 0 42 ∧ zq_at zy_makeGroup_3_5.2.1 1 180 ∧ zq_at zy_makeGroup_3_5.2.1 2 0 ∧ zq_at zy_makeGroup_3_5.2.1 3 15 ∧ zq_at zy_makeGroup_3_5.2.1 4 62 ∧ zq_at zy_makeGroup_3_5.2.1 5 42 ∧ zq_at zy_makeGroup_3_5.2.1 6 180 ∧ zq_at zy_makeGroup_3_5.2.1 7 0 ∧ zq_at zy_makeGroup_3_5.2.1 8 51 ∧ zq_at zy_makeGroup_3_5.2.1 9 180 ∧ zq_at zy_makeGroup_3_5.2.1 10 0 ∧ zq_at zy_makeGroup_3_5.2.1 11 61 ∧ zq_at zy_makeGroup_3_5.2.1 12 4 ∧ zq_at zy_makeGroup_3_5.2.1 13 160 ∧ zq_at zy_makeGroup_3_5.2.1 14 0 ∧ zq_at zy_makeGroup_3_5.2.1 15 19 ∧ zq_at zy_makeGroup_3_5.2.1 32 42 ∧ zq_at zy_makeGroup_3_5.2.1 33 180 ∧ zq_at zy_makeGroup_3_5.2.1 34 0 ∧ zq_at zy_makeGroup_3_5.2.1 35 51 ∧ zq_at zy_makeGroup_3_5.2.1 36 180 ∧ zq_at zy_makeGroup_3_5.2.1 37 0 ∧ zq_at zy_makeGroup_3_5.2.1 38 61 ∧ zq_at zy_makeGroup_3_5.2.1 39 5 := by decide +kernel
theorem zd_3_5_0 : zz_D zy_makeGroup_3_5 0 (.aload_n 0) 1 1 := ⟨zq_42 zg_3_5_0.1, rfl⟩
theorem zd_3_5_1 : zz_D zy_makeGroup_3_5 1 (.getfield 15) 3 4 := ⟨zq_180 zg_3_5_0.2.1 zg_3_5_0.2.2.1 zg_3_5_0.2.2.2.1 rfl, rfl⟩
theorem zd_3_5_4 : zz_D zy_makeGroup_3_5 4 (.istore_n 3) 1 5 := ⟨zq_62 zg_3_5_0.2.2.2.2.1, rfl⟩
theorem zd_3_5_5 : zz_D zy_makeGroup_3_5 5 (.aload_n 0) 1 6 := ⟨zq_42 zg_3_5_0.2.2.2.2.2.1, rfl⟩
theorem zd_3_5_6 : zz_D zy_makeGroup_3_5 6 (.getfield 51) 3 9 := ⟨zq_180 zg_3_5_0.2.2.2.2.2.2.1 zg_3_5_0.2.2.2.2.2.2.2.1 zg_3_5_0.2.2.2.2.2.2.2.2.1 rfl, rfl⟩
theorem zd_3_5_9 : zz_D zy_makeGroup_3_5 9 (.getfield 61) 3 12 := ⟨zq_180 zg_3_5_0.2.2.2.2.2.2.2.2.2.1 zg_3_5_0.2.2.2.2.2.2.2.2.2.2.1 zg_3_5_0.2.2.2.2.2.2.2.2.2.2.2.1 rfl, rfl⟩
theorem zd_3_5_12 : zz_D zy_makeGroup_3_5 12 (.iconst 1) 1 13 := ⟨zq_4 zg_3_5_0.2.2.2.2.2.2.2.2.2.2.2.2.1, rfl⟩
theorem zd_3_5_13 : zz_B zy_makeGroup_3_5 13 (Instr.if_icmp .ne) 32 16 := ⟨19, zq_160 zg_3_5_0.2.2.2.2.2.2.2.2.2.2.2.2.2.1 zg_3_5_0.2.2.2.2.2.2.2.2.2.2.2.2.2.2.1 zg_3_5_0.2.2.2.2.2.2.2.2.2.2.2.2.2.2.2.1 (by decide), rfl, rfl⟩
theorem zd_3_5_32 : zz_D zy_makeGroup_3_5 32 (.aload_n 0) 1 33 := ⟨zq_42 zg_3_5_0.2.2.2.2.2.2.2.2.2.2.2.2.2.2.2.2.1, rfl⟩
theorem zd_3_5_33 : zz_D zy_makeGroup_3_5 33 (.getfield 51) 3 36 := ⟨zq_180 zg_3_5_0.2.2.2.2.2.2.2.2.2.2.2.2.2.2.2.2.2.1 zg_3_5_0.2.2.2.2.2.2.2.2.2.2.2.2.2.2.2.2.2.2.1 zg_3_5_0.2.2.2.2.2.2.2.2.2.2.2.2.2.2.2.2.2.2.2.1 rfl, rfl⟩
theorem zd_3_5_36 : zz_D zy_makeGroup_3_5 36 (.getfield 61) 3 39 := ⟨zq_180 zg_3_5_0.2.2.2.2.2.2.2.2.2.2.2.2.2.2.2.2.2.2.2.2.1 zg_3_5_0.2.2.2.2.2.2.2.2.2.2.2.2.2.2.2.2.2.2.2.2.2.1 zg_3_5_0.2.2.2.2.2.2.2.2.2.2.2.2.2.2.2.2.2.2.2.2.2.2.1 rfl, rfl⟩
theorem zd_3_5_39 : zz_D zy_makeGroup_3_5 39 (.iconst 2) 1 40 := ⟨zq_5 zg_3_5_0.2.2.2.2.2.2.2.2.2.2.2.2.2.2.2.2.2.2.2.2.2.2.2, rfl⟩
theorem zg_3_5_40 : zq_at zy_makeGroup_3_5.2.1 40 160 ∧ zq_at zy_makeGroup_3_5.2.1 41 0 ∧ zq_at zy_makeGroup_3_5.2.1 42 14 ∧ zq_at zy_makeGroup_3_5.2.1 54 42 ∧ zq_at zy_makeGroup_3_5.2.1 55 180 ∧ zq_at zy_makeGroup_3_5.2.1 56 0 ∧ zq_at zy_makeGroup_3_5.2.1 57 109 ∧ zq_at zy_makeGroup_3_5.2.1 58 154 ∧ zq_at zy_makeGroup_3_5.2.1 59 0 ∧ zq_at zy_makeGroup_3_5.2.1 60 10 ∧ zq_at zy_makeGroup_3_5.2.1 68 42 ∧ zq_at zy_makeGroup_3_5.2.1 69 180 ∧ zq_at zy_makeGroup_3_5.2.1 70 0 ∧ zq_at zy_makeGroup_3_5.2.1 71 58 ∧ zq_at zy_makeGroup_3_5.2.1 72 58 ∧ zq_at zy_makeGroup_3_5.2.1 73 4 ∧ zq_at zy_makeGroup_3_5.2.1 74 42 ∧ zq_at zy_makeGroup_3_5.2.1 75 3 ∧ zq_at zy_makeGroup_3_5.2.1 76 42 ∧ zq_at zy_makeGroup_3_5.2.1 77 180 ∧ zq_at zy_makeGroup_3_5.2.1 78 0 ∧ zq_at zy_makeGroup_3_5.2.1 79 91 ∧ zq_at zy_makeGroup_3_5.2.1 80 25 ∧ zq_at zy_makeGroup_3_5.2.1 81 4 := by decide +kernel
theorem zd_3_5_40 : zz_B zy_makeGroup_3_5 40 (Instr.if_icmp .ne) 54 43 := ⟨14, zq_160 zg_3_5_40.1 zg_3_5_40.2.1 zg_3_5_40.2.2.1 (by decide), rfl, rfl⟩
theorem zd_3_5_54 : zz_D zy_makeGroup_3_5 54 (.aload_n 0) 1 55 := ⟨zq_42 zg_3_5_40.2.2.2.1, rfl⟩
theorem zd_3_5_55 : zz_D zy_makeGroup_3_5 55 (.getfield 109) 3 58 := ⟨zq_180 zg_3_5_40.2.2.2.2.1 zg_3_5_40.2.2.2.2.2.1 zg_3_5_40.2.2.2.2.2.2.1 rfl, rfl⟩
theorem zd_3_5_58 : zz_B zy_makeGroup_3_5 58 (Instr.ifCond .ne) 68 61 := ⟨10, zq_154 zg_3_5_40.2.2.2.2.2.2.2.1 zg_3_5_40.2.2.2.2.2.2.2.2.1 zg_3_5_40.2.2.2.2.2.2.2.2.2.1 (by decide), rfl, rfl⟩
theorem zd_3_5_68 : zz_D zy_makeGroup_3_5 68 (.aload_n 0) 1 69 := ⟨zq_42 zg_3_5_40.2.2.2.2.2.2.2.2.2.2.1, rfl⟩
theorem zd_3_5_69 : zz_D zy_makeGroup_3_5 69 (.getfield 58) 3 72 := ⟨zq_180 zg_3_5_40.2.2.2.2.2.2.2.2.2.2.2.1 zg_3_5_40.2.2.2.2.2.2.2.2.2.2.2.2.1 zg_3_5_40.2.2.2.2.2.2.2.2.2.2.2.2.2.1 rfl, rfl⟩
theorem zd_3_5_72 : zz_D zy_makeGroup_3_5 72 (.astore 4) 2 74 := ⟨zq_58 zg_3_5_40.2.2.2.2.2.2.2.2.2.2.2.2.2.2.1 zg_3_5_40.2.2.2.2.2.2.2.2.2.2.2.2.2.2.2.1, rfl⟩
theorem zd_3_5_74 : zz_D zy_makeGroup_3_5 74 (.aload_n 0) 1 75 := ⟨zq_42 zg_3_5_40.2.2.2.2.2.2.2.2.2.2.2.2.2.2.2.2.1, rfl⟩
theorem zd_3_5_75 : zz_D zy_makeGroup_3_5 75 (.iconst 0) 1 76 := ⟨zq_3 zg_3_5_40.2.2.2.2.2.2.2.2.2.2.2.2.2.2.2.2.2.1, rfl⟩
theorem zd_3_5_76 : zz_D zy_makeGroup_3_5 76 (.aload_n 0) 1 77 := ⟨zq_42 zg_3_5_40.2.2.2.2.2.2.2.2.2.2.2.2.2.2.2.2.2.2.1, rfl⟩
theorem zd_3_5_77 : zz_D zy_makeGroup_3_5 77 (.getfield 91) 3 80 := ⟨zq_180 zg_3_5_40.2.2.2.2.2.2.2.2.2.2.2.2.2.2.2.2.2.2.2.1 zg_3_5_40.2.2.2.2.2.2.2.2.2.2.2.2.2.2.2.2.2.2.2.2.1 zg_3_5_40.2.2.2.2.2.2.2.2.2.2.2.2.2.2.2.2.2.2.2.2.2.1 rfl, rfl⟩
theorem zd_3_5_80 : zz_D zy_makeGroup_3_5 80 (.aload 4) 2 82 := ⟨zq_25 zg_3_5_40.2.2.2.2.2.2.2.2.2.2.2.2.2.2.2.2.2.2.2.2.2.2.1 zg_3_5_40.2.2.2.2.2.2.2.2.2.2.2.2.2.2.2.2.2.2.2.2.2.2.2, rfl⟩
theorem zg_3_5_82 : zq_at zy_makeGroup_3_5.2.1 82 3 ∧ zq_at zy_makeGroup_3_5.2.1 83 42 ∧ zq_at zy_makeGroup_3_5.2.1 84 180 ∧ zq_at zy_makeGroup_3_5.2.1 85 0 ∧ zq_at zy_makeGroup_3_5.2.1 86 88 ∧ zq_at zy_makeGroup_3_5.2.1 87 42 ∧ zq_at zy_makeGroup_3_5.2.1 88 180 ∧ zq_at zy_makeGroup_3_5.2.1 89 0 ∧ zq_at zy_makeGroup_3_5.2.1 90 76 ∧ zq_at zy_makeGroup_3_5.2.1 91 182 ∧ zq_at zy_makeGroup_3_5.2.1 92 0 ∧ zq_at zy_makeGroup_3_5.2.1 93 147 ∧ zq_at zy_makeGroup_3_5.2.1 94 25 ∧ zq_at zy_makeGroup_3_5.2.1 95 4 ∧ zq_at zy_makeGroup_3_5.2.1 96 180 ∧ zq_at zy_makeGroup_3_5.2.1 97 0 ∧ zq_at zy_makeGroup_3_5.2.1 98 79 ∧ zq_at zy_makeGroup_3_5.2.1 99 182 ∧ zq_at zy_makeGroup_3_5.2.1 100 0 ∧ zq_at zy_makeGroup_3_5.2.1 101 159 := by decide +kernel
theorem zd_3_5_82 : zz_D zy_makeGroup_3_5 82 (.iconst 0) 1 83 := ⟨zq_3 zg_3_5_82.1, rfl⟩
theorem zd_3_5_83 : zz_D zy_makeGroup_3_5 83 (.aload_n 0) 1 84 := ⟨zq_42 zg_3_5_82.2.1, rfl⟩
theorem zd_3_5_84 : zz_D zy_makeGroup_3_5 84 (.getfield 88) 3 87 := ⟨zq_180 zg_3_5_82.2.2.1 zg_3_5_82.2.2.2.1 zg_3_5_82.2.2.2.2.1 rfl, rfl⟩
theorem zd_3_5_87 : zz_D zy_makeGroup_3_5 87 (.aload_n 0) 1 88 := ⟨zq_42 zg_3_5_82.2.2.2.2.2.1, rfl⟩
theorem zd_3_5_88 : zz_D zy_makeGroup_3_5 88 (.getfield 76) 3 91 := ⟨zq_180 zg_3_5_82.2.2.2.2.2.2.1 zg_3_5_82.2.2.2.2.2.2.2.1 zg_3_5_82.2.2.2.2.2.2.2.2.1 rfl, rfl⟩
theorem zd_3_5_91 : zz_D zy_makeGroup_3_5 91 (.invokevirtual 147) 3 94 := ⟨zq_182 zg_3_5_82.2.2.2.2.2.2.2.2.2.1 zg_3_5_82.2.2.2.2.2.2.2.2.2.2.1 zg_3_5_82.2.2.2.2.2.2.2.2.2.2.2.1 rfl, rfl⟩
theorem zd_3_5_94 : zz_D zy_makeGroup_3_5 94 (.aload 4) 2 96 := ⟨zq_25 zg_3_5_82.2.2.2.2.2.2.2.2.2.2.2.2.1 zg_3_5_82.2.2.2.2.2.2.2.2.2.2.2.2.2.1, rfl⟩
theorem zd_3_5_96 : zz_D zy_makeGroup_3_5 96 (.getfield 79) 3 99 := ⟨zq_180 zg_3_5_82.2.2.2.2.2.2.2.2.2.2.2.2.2.2.1 zg_3_5_82.2.2.2.2.2.2.2.2.2.2.2.2.2.2.2.1 zg_3_5_82.2.2.2.2.2.2.2.2.2.2.2.2.2.2.2.2.1 rfl, rfl⟩
theorem zd_3_5_99 : zz_D zy_makeGroup_3_5 99 (.invokevirtual 159) 3 102 := ⟨zq_182 zg_3_5_82.2.2.2.2.2.2.2.2.2.2.2.2.2.2.2.2.2.1 zg_3_5_82.2.2.2.2.2.2.2.2.2.2.2.2.2.2.2.2.2.2.1 zg_3_5_82.2.2.2.2.2.2.2.2.2.2.2.2.2.2.2.2.2.2.2 rfl, rfl⟩
theorem zg_3_10_0 : zq_at zy_loadPlaces_3_10.2.1 0 28 ∧ zq_at zy_loadPlaces_3_10.2.1 1 27 ∧ zq_at zy_loadPlaces_3_10.2.1 2 164 ∧ zq_at zy_loadPlaces_3_10.2.1 3 0 ∧ zq_at zy_loadPlaces_3_10.2.1 4 49 ∧ zq_at zy_loadPlaces_3_10.2.1 51 177 ∧ zq_at zy_loadPlaces_3_10.2.1 5 42 ∧ zq_at zy_loadPlaces_3_10.2.1 6 4 ∧ zq_at zy_loadPlaces_3_10.2.1 7 28 ∧ zq_at zy_loadPlaces_3_10.2.1 8 27 ∧ zq_at zy_loadPlaces_3_10.2.1 9 100 ∧ zq_at zy_loadPlaces_3_10.2.1 10 42 ∧ zq_at zy_loadPlaces_3_10.2.1 11 180 ∧ zq_at zy_loadPlaces_3_10.2.1 12 0 ∧ zq_at zy_loadPlaces_3_10.2.1 13 115 ∧ zq_at zy_loadPlaces_3_10.2.1 14 184 ∧ zq_at zy_loadPlaces_3_10.2.1 15 0 ∧ zq_at zy_loadPlaces_3_10.2.1 16 128 ∧ zq_at zy_loadPlaces_3_10.2.1 17 16 ∧ zq_at zy_loadPlaces_3_10.2.1 18 8 ∧ zq_at zy_loadPlaces_3_10.2.1 19 42 ∧ zq_at zy_loadPlaces_3_10.2.1 20 182 ∧ zq_at zy_loadPlaces_3_10.2.1 21 0 ∧ zq_at zy_loadPlaces_3_10.2.1 22 175 := by decide +kernel
theorem zd_3_10_0 : zz_D zy_loadPlaces_3_10 0 (.iload_n 2) 1 1 := ⟨zq_28 zg_3_10_0.1, rfl⟩
theorem zd_3_10_1 : zz_D zy_loadPlaces_3_10 1 (.iload_n 1) 1 2 := ⟨zq_27 zg_3_10_0.2.1, rfl⟩
theorem zd_3_10_2 : zz_B zy_loadPlaces_3_10 2 (Instr.if_icmp .le) 51 5 := ⟨49, zq_164 zg_3_10_0.2.2.1 zg_3_10_0.2.2.2.1 zg_3_10_0.2.2.2.2.1 (by decide), rfl, rfl⟩
theorem zd_3_10_51 : zz_D zy_loadPlaces_3_10 51 (.return_) 1 52 := ⟨zq_177 zg_3_10_0.2.2.2.2.2.1, rfl⟩
theorem zd_3_10_5 : zz_D zy_loadPlaces_3_10 5 (.aload_n 0) 1 6 := ⟨zq_42 zg_3_10_0.2.2.2.2.2.2.1, rfl⟩
theorem zd_3_10_6 : zz_D zy_loadPlaces_3_10 6 (.iconst 1) 1 7 := ⟨zq_4 zg_3_10_0.2.2.2.2.2.2.2.1, rfl⟩
theorem zd_3_10_7 : zz_D zy_loadPlaces_3_10 7 (.iload_n 2) 1 8 := ⟨zq_28 zg_3_10_0.2.2.2.2.2.2.2.2.1, rfl⟩
theorem zd_3_10_8 : zz_D zy_loadPlaces_3_10 8 (.iload_n 1) 1 9 := ⟨zq_27 zg_3_10_0.2.2.2.2.2.2.2.2.2.1, rfl⟩
theorem zd_3_10_9 : zz_D zy_loadPlaces_3_10 9 (.isub) 1 10 := ⟨zq_100 zg_3_10_0.2.2.2.2.2.2.2.2.2.2.1, rfl⟩
theorem zd_3_10_10 : zz_D zy_loadPlaces_3_10 10 (.aload_n 0) 1 11 := ⟨zq_42 zg_3_10_0.2.2.2.2.2.2.2.2.2.2.2.1, rfl⟩
theorem zd_3_10_11 : zz_D zy_loadPlaces_3_10 11 (.getfield 115) 3 14 := ⟨zq_180 zg_3_10_0.2.2.2.2.2.2.2.2.2.2.2.2.1 zg_3_10_0.2.2.2.2.2.2.2.2.2.2.2.2.2.1 zg_3_10_0.2.2.2.2.2.2.2.2.2.2.2.2.2.2.1 rfl, rfl⟩
theorem zd_3_10_14 : zz_D zy_loadPlaces_3_10 14 (.invokestatic 128) 3 17 := ⟨zq_184 zg_3_10_0.2.2.2.2.2.2.2.2.2.2.2.2.2.2.2.1 zg_3_10_0.2.2.2.2.2.2.2.2.2.2.2.2.2.2.2.2.1 zg_3_10_0.2.2.2.2.2.2.2.2.2.2.2.2.2.2.2.2.2.1 rfl, rfl⟩
theorem zd_3_10_17 : zz_D zy_loadPlaces_3_10 17 (.bipush 8) 2 19 := ⟨zq_16 zg_3_10_0.2.2.2.2.2.2.2.2.2.2.2.2.2.2.2.2.2.2.1 zg_3_10_0.2.2.2.2.2.2.2.2.2.2.2.2.2.2.2.2.2.2.2.1 (by decide), rfl⟩
theorem zd_3_10_19 : zz_D zy_loadPlaces_3_10 19 (.aload_n 0) 1 20 := ⟨zq_42 zg_3_10_0.2.2.2.2.2.2.2.2.2.2.2.2.2.2.2.2.2.2.2.2.1, rfl⟩
theorem zd_3_10_20 : zz_D zy_loadPlaces_3_10 20 (.invokevirtual 175) 3 23 := ⟨zq_182 zg_3_10_0.2.2.2.2.2.2.2.2.2.2.2.2.2.2.2.2.2.2.2.2.2.1 zg_3_10_0.2.2.2.2.2.2.2.2.2.2.2.2.2.2.2.2.2.2.2.2.2.2.1 zg_3_10_0.2.2.2.2.2.2.2.2.2.2.2.2.2.2.2.2.2.2.2.2.2.2.2 rfl, rfl⟩
theorem zg_3_14_0 : zq_at zy_groupHalf_3_14.2.1 0 17 ∧ zq_at zy_groupHalf_3_14.2.1 1 1 ∧ zq_at zy_groupHalf_3_14.2.1 2 0 ∧ zq_at zy_groupHalf_3_14.2.1 3 42 ∧ zq_at zy_groupHalf_3_14.2.1 4 180 ∧ zq_at zy_groupHalf_3_14.2.1 5 0 ∧ zq_at zy_groupHalf_3_14.2.1 6 73 ∧ zq_at zy_groupHalf_3_14.2.1 7 4 ∧ zq_at zy_groupHalf_3_14.2.1 8 126 ∧ zq_at zy_groupHalf_3_14.2.1 9 104 ∧ zq_at zy_groupHalf_3_14.2.1 10 172 := by decide +kernel
theorem zd_3_14_0 : zz_D zy_groupHalf_3_14 0 (.sipush 256) 3 3 := ⟨zq_17 zg_3_14_0.1 zg_3_14_0.2.1 zg_3_14_0.2.2.1 (by decide), rfl⟩
theorem zd_3_14_3 : zz_D zy_groupHalf_3_14 3 (.aload_n 0) 1 4 := ⟨zq_42 zg_3_14_0.2.2.2.1, rfl⟩
theorem zd_3_14_4 : zz_D zy_groupHalf_3_14 4 (.getfield 73) 3 7 := ⟨zq_180 zg_3_14_0.2.2.2.2.1 zg_3_14_0.2.2.2.2.2.1 zg_3_14_0.2.2.2.2.2.2.1 rfl, rfl⟩
theorem zd_3_14_7 : zz_D zy_groupHalf_3_14 7 (.iconst 1) 1 8 := ⟨zq_4 zg_3_14_0.2.2.2.2.2.2.2.1, rfl⟩
theorem zd_3_14_8 : zz_D zy_groupHalf_3_14 8 (.iand) 1 9 := ⟨zq_126 zg_3_14_0.2.2.2.2.2.2.2.2.1, rfl⟩
theorem zd_3_14_9 : zz_D zy_groupHalf_3_14 9 (.imul) 1 10 := ⟨zq_104 zg_3_14_0.2.2.2.2.2.2.2.2.2.1, rfl⟩
theorem zd_3_14_10 : zz_D zy_groupHalf_3_14 10 (.ireturn) 1 11 := ⟨zq_172 zg_3_14_0.2.2.2.2.2.2.2.2.2.2, rfl⟩
-- TensorForge$Compiler groupHalf ()I
abbrev zr_groupHalf_3_14 : Room := { frames := 0, cells := 0, slots := 0, locals := 0 }
def zp_groupHalf_3_14  (S0 : zz_S) : Int → zz_S → Prop := fun r S => S0 = S ∧ ((-2147483648) ≤ r ∧ r ≤ 2147483647)
theorem zc_groupHalf_3_14 {g : mm_G} {l : Launch}  (S0 : zz_S) (n : Nat) (hn : zz_end ≤ n) (G_S0 : zz_G S0)  : mm_Met g l zy_groupHalf_3_14 zr_groupHalf_3_14 [.ref 1076] (zz_M S0 n) n (zz_QI n (zp_groupHalf_3_14  S0)) := by
  refine zz_enter (by decide) (Nat.le_of_ble_eq_true rfl) (zz_less (ls1 := [some (.ref 1076)]) ⟨rfl, trivial⟩ ?_)
  refine zz_sipush (by decide) zd_3_14_0 ?_
  refine zz_aload_n (x := 1076) rfl zd_3_14_3 ?_
  have g1 := zz_G.r G_S0 1076 12 (-2147483648) 2147483647 rfl rfl
  refine zz_geti (z := S0 1076 12) zd_3_14_4 zf_Compiler_73 zT_1076 rfl (zz_ltn hn rfl) rfl ?_
  refine zz_iconst zd_3_14_7 ?_
  refine zz_iand (by omega) (by omega) zd_3_14_8 (fun v2 hv2 av2 bv2 ev2 => ?_)
  refine zz_imul zd_3_14_9 ?_
  exact zz_iret zd_3_14_10 rfl (Nat.zero_le _) (Nat.zero_le _) ⟨_, _, rfl, rfl, by omega⟩
theorem zk_Compiler_175 : mm_Vl "TensorForge$Compiler" 175 9 0 zy_groupHalf_3_14 := ⟨zyw_groupHalf_3_14, (R_Compiler, F_Compiler, 17), rfl, mm_tb_1 1441 (by decide +kernel) rfl, mm_tb_1 1443 (by decide +kernel) rfl, mm_tb_s 68 (by decide +kernel) rfl⟩
theorem zg_3_10_23 : zq_at zy_loadPlaces_3_10.2.1 23 27 ∧ zq_at zy_loadPlaces_3_10.2.1 24 42 ∧ zq_at zy_loadPlaces_3_10.2.1 25 180 ∧ zq_at zy_loadPlaces_3_10.2.1 26 0 ∧ zq_at zy_loadPlaces_3_10.2.1 27 21 ∧ zq_at zy_loadPlaces_3_10.2.1 28 104 ∧ zq_at zy_loadPlaces_3_10.2.1 29 96 ∧ zq_at zy_loadPlaces_3_10.2.1 30 184 ∧ zq_at zy_loadPlaces_3_10.2.1 31 0 ∧ zq_at zy_loadPlaces_3_10.2.1 32 132 ∧ zq_at zy_loadPlaces_3_10.2.1 33 129 ∧ zq_at zy_loadPlaces_3_10.2.1 34 8 ∧ zq_at zy_loadPlaces_3_10.2.1 35 29 ∧ zq_at zy_loadPlaces_3_10.2.1 36 184 ∧ zq_at zy_loadPlaces_3_10.2.1 37 0 ∧ zq_at zy_loadPlaces_3_10.2.1 38 132 ∧ zq_at zy_loadPlaces_3_10.2.1 39 129 ∧ zq_at zy_loadPlaces_3_10.2.1 40 16 ∧ zq_at zy_loadPlaces_3_10.2.1 41 10 ∧ zq_at zy_loadPlaces_3_10.2.1 42 21 ∧ zq_at zy_loadPlaces_3_10.2.1 43 4 ∧ zq_at zy_loadPlaces_3_10.2.1 44 184 ∧ zq_at zy_loadPlaces_3_10.2.1 45 0 ∧ zq_at zy_loadPlaces_3_10.2.1 46 132 := by decide +kernel
theorem zd_3_10_23 : zz_D zy_loadPlaces_3_10 23 (.iload_n 1) 1 24 := ⟨zq_27 zg_3_10_23.1, rfl⟩
theorem zd_3_10_24 : zz_D zy_loadPlaces_3_10 24 (.aload_n 0) 1 25 := ⟨zq_42 zg_3_10_23.2.1, rfl⟩
theorem zd_3_10_25 : zz_D zy_loadPlaces_3_10 25 (.getfield 21) 3 28 := ⟨zq_180 zg_3_10_23.2.2.1 zg_3_10_23.2.2.2.1 zg_3_10_23.2.2.2.2.1 rfl, rfl⟩
theorem zd_3_10_28 : zz_D zy_loadPlaces_3_10 28 (.imul) 1 29 := ⟨zq_104 zg_3_10_23.2.2.2.2.2.1, rfl⟩
theorem zd_3_10_29 : zz_D zy_loadPlaces_3_10 29 (.iadd) 1 30 := ⟨zq_96 zg_3_10_23.2.2.2.2.2.2.1, rfl⟩
theorem zd_3_10_30 : zz_D zy_loadPlaces_3_10 30 (.invokestatic 132) 3 33 := ⟨zq_184 zg_3_10_23.2.2.2.2.2.2.2.1 zg_3_10_23.2.2.2.2.2.2.2.2.1 zg_3_10_23.2.2.2.2.2.2.2.2.2.1 rfl, rfl⟩
theorem zd_3_10_33 : zz_D zy_loadPlaces_3_10 33 (.lor) 1 34 := ⟨zq_129 zg_3_10_23.2.2.2.2.2.2.2.2.2.2.1, rfl⟩
theorem zd_3_10_34 : zz_D zy_loadPlaces_3_10 34 (.iconst 5) 1 35 := ⟨zq_8 zg_3_10_23.2.2.2.2.2.2.2.2.2.2.2.1, rfl⟩
theorem zd_3_10_35 : zz_D zy_loadPlaces_3_10 35 (.iload_n 3) 1 36 := ⟨zq_29 zg_3_10_23.2.2.2.2.2.2.2.2.2.2.2.2.1, rfl⟩
theorem zd_3_10_36 : zz_D zy_loadPlaces_3_10 36 (.invokestatic 132) 3 39 := ⟨zq_184 zg_3_10_23.2.2.2.2.2.2.2.2.2.2.2.2.2.1 zg_3_10_23.2.2.2.2.2.2.2.2.2.2.2.2.2.2.1 zg_3_10_23.2.2.2.2.2.2.2.2.2.2.2.2.2.2.2.1 rfl, rfl⟩
theorem zd_3_10_39 : zz_D zy_loadPlaces_3_10 39 (.lor) 1 40 := ⟨zq_129 zg_3_10_23.2.2.2.2.2.2.2.2.2.2.2.2.2.2.2.2.1, rfl⟩
theorem zd_3_10_40 : zz_D zy_loadPlaces_3_10 40 (.bipush 10) 2 42 := ⟨zq_16 zg_3_10_23.2.2.2.2.2.2.2.2.2.2.2.2.2.2.2.2.2.1 zg_3_10_23.2.2.2.2.2.2.2.2.2.2.2.2.2.2.2.2.2.2.1 (by decide), rfl⟩
theorem zd_3_10_42 : zz_D zy_loadPlaces_3_10 42 (.iload 4) 2 44 := ⟨zq_21 zg_3_10_23.2.2.2.2.2.2.2.2.2.2.2.2.2.2.2.2.2.2.2.1 zg_3_10_23.2.2.2.2.2.2.2.2.2.2.2.2.2.2.2.2.2.2.2.2.1, rfl⟩
theorem zd_3_10_44 : zz_D zy_loadPlaces_3_10 44 (.invokestatic 132) 3 47 := ⟨zq_184 zg_3_10_23.2.2.2.2.2.2.2.2.2.2.2.2.2.2.2.2.2.2.2.2.2.1 zg_3_10_23.2.2.2.2.2.2.2.2.2.2.2.2.2.2.2.2.2.2.2.2.2.2.1 zg_3_10_23.2.2.2.2.2.2.2.2.2.2.2.2.2.2.2.2.2.2.2.2.2.2.2 rfl, rfl⟩
theorem zg_3_10_47 : zq_at zy_loadPlaces_3_10.2.1 47 129 ∧ zq_at zy_loadPlaces_3_10.2.1 48 182 ∧ zq_at zy_loadPlaces_3_10.2.1 49 0 ∧ zq_at zy_loadPlaces_3_10.2.1 50 143 := by decide +kernel
theorem zd_3_10_47 : zz_D zy_loadPlaces_3_10 47 (.lor) 1 48 := ⟨zq_129 zg_3_10_47.1, rfl⟩
theorem zd_3_10_48 : zz_D zy_loadPlaces_3_10 48 (.invokevirtual 143) 3 51 := ⟨zq_182 zg_3_10_47.2.1 zg_3_10_47.2.2.1 zg_3_10_47.2.2.2 rfl, rfl⟩
-- TensorForge$Compiler loadPlaces (IIII)V
abbrev zr_loadPlaces_3_10 : Room := { frames := 1, cells := 0, slots := 0, locals := 16 }
def zp_loadPlaces_3_10 (p0 : Int) (p1 : Int) (p2 : Int) (p3 : Int) (S0 : zz_S) : zz_S → Prop := fun S => zz_G S ∧ zz_fr [(1076, 1)] [] (fun a i => a = zz_rf 4 (S0 1076 0)) S0 S ∧ (S0 1076 1 ≤ S 1076 1 ∧ S 1076 1 ≤ S0 1076 1 + 1)
theorem zc_loadPlaces_3_10 {g : mm_G} {l : Launch} (p0 : Int) (p1 : Int) (p2 : Int) (p3 : Int) (S0 : zz_S) (n : Nat) (hn : zz_end ≤ n) (G_S0 : zz_G S0) (hp0 : (-2147483648) ≤ p0 ∧ p0 ≤ 2147483647) (hp1 : (-2147483648) ≤ p1 ∧ p1 ≤ 2147483647) (hp2 : (-2147483648) ≤ p2 ∧ p2 ≤ 2147483647) (hp3 : (-2147483648) ≤ p3 ∧ p3 ≤ 2147483647) (hq : S0 1076 1 ≤ 980000) (hl : 0 ≤ S0 1076 3 ∧ 0 ≤ S0 1076 4 ∧ 0 ≤ S0 1076 5) : mm_Met g l zy_loadPlaces_3_10 zr_loadPlaces_3_10 [.ref 1076, zi p0, zi p1, zi p2, zi p3] (zz_M S0 n) n (zz_QV n (zp_loadPlaces_3_10 p0 p1 p2 p3 S0)) := by
  refine zz_enter (by decide) (Nat.le_of_ble_eq_true rfl) (zz_less (ls1 := [some (.ref 1076), some (zi p0), some (zi p1), some (zi p2), some (zi p3)]) ⟨rfl, ⟨rfl, ⟨rfl, ⟨rfl, ⟨rfl, trivial⟩⟩⟩⟩⟩ ?_)
  have F_S0 : zz_fr [(1076, 1)] [] (fun a i => a = zz_rf 4 (S0 1076 0)) S0 S0 := zz_fr.refl
  refine zz_iload_n (x := p1) rfl zd_3_10_0 ?_
  refine zz_iload_n (x := p0) rfl zd_3_10_1 ?_
  refine zz_icmp_le (by omega) (by omega) zd_3_10_2 (fun c1 => ?_) (fun c1 => ?_)
  · have g2 := zz_G.r G_S0 1076 1 0 1000000 rfl rfl
    exact zz_vret zd_3_10_51 rfl (Nat.zero_le _) (Nat.zero_le _) ⟨_, rfl, G_S0, F_S0, by omega⟩
  · refine zz_aload_n (x := 1076) rfl zd_3_10_5 ?_
    refine zz_iconst zd_3_10_6 ?_
    refine zz_iload_n (x := p1) rfl zd_3_10_7 ?_
    refine zz_iload_n (x := p0) rfl zd_3_10_8 ?_
    refine zz_isub zd_3_10_9 ?_
    refine zz_nrm (fun v3 hv3 ev3 => ?_)
    refine zz_aload_n (x := 1076) rfl zd_3_10_10 ?_
    have g4 := zz_G.r G_S0 1076 16 (-2147483648) 2147483647 rfl rfl
    refine zz_geti (z := S0 1076 16) zd_3_10_11 zf_Compiler_115 zT_1076 rfl (zz_ltn hn rfl) rfl ?_
    refine zz_callSJ [zi 1, zi v3, zi (S0 1076 16)] zd_3_10_14 zk_Compiler_128 rfl rfl ⟨Nat.le_of_ble_eq_true rfl, Nat.le_of_ble_eq_true rfl⟩ ⟨rfl, rfl⟩ (Nat.zero_le _) (Nat.zero_le _) (zc_shaped_12_6 1 v3 (S0 1076 16) S0 n hn G_S0 (by omega) (by omega) (by omega)) (fun v6 S5 hP => ?_)
    obtain ⟨rfl, o7⟩ := hP
    refine zz_bipush (by decide) zd_3_10_17 ?_
    refine zz_aload_n (x := 1076) rfl zd_3_10_19 ?_
    refine zz_callVI [] zd_3_10_20 zk_Compiler_175 zT_1076 (zz_ltn hn rfl) rfl rfl ⟨Nat.le_of_ble_eq_true rfl, Nat.le_of_ble_eq_true rfl⟩ ⟨rfl, rfl⟩ (Nat.zero_le _) (Nat.zero_le _) (zc_groupHalf_3_14  S0 n hn G_S0 ) (fun v9 S8 hP => ?_)
    obtain ⟨rfl, o10⟩ := hP
    refine zz_iload_n (x := p0) rfl zd_3_10_23 ?_
    refine zz_aload_n (x := 1076) rfl zd_3_10_24 ?_
    have g11 := zz_G.r G_S0 1076 2 2 8 rfl rfl
    refine zz_geti (z := S0 1076 2) zd_3_10_25 zf_Compiler_21 zT_1076 rfl (zz_ltn hn rfl) rfl ?_
    refine zz_imul zd_3_10_28 ?_
    refine zz_nrm (fun v12 hv12 ev12 => ?_)
    refine zz_iadd zd_3_10_29 ?_
    refine zz_nrm (fun v13 hv13 ev13 => ?_)
    refine zz_callSJ [zi 8, zi v13] zd_3_10_30 zk_Compiler_132 rfl rfl ⟨Nat.le_of_ble_eq_true rfl, Nat.le_of_ble_eq_true rfl⟩ ⟨rfl, rfl⟩ (Nat.zero_le _) (Nat.zero_le _) (zc_bits_12_4 8 v13 S0 n hn G_S0 (by omega) (by omega)) (fun v15 S14 hP => ?_)
    obtain ⟨rfl, o16⟩ := hP
    refine zz_lor zd_3_10_33 (fun v17 hv17 ev17 => ?_)
    refine zz_iconst zd_3_10_34 ?_
    refine zz_iload_n (x := p2) rfl zd_3_10_35 ?_
    refine zz_callSJ [zi 5, zi p2] zd_3_10_36 zk_Compiler_132 rfl rfl ⟨Nat.le_of_ble_eq_true rfl, Nat.le_of_ble_eq_true rfl⟩ ⟨rfl, rfl⟩ (Nat.zero_le _) (Nat.zero_le _) (zc_bits_12_4 5 p2 S0 n hn G_S0 (by omega) (by omega)) (fun v19 S18 hP => ?_)
    obtain ⟨rfl, o20⟩ := hP
    refine zz_lor zd_3_10_39 (fun v21 hv21 ev21 => ?_)
    refine zz_bipush (by decide) zd_3_10_40 ?_
    refine zz_iload (x := p3) rfl zd_3_10_42 ?_
    refine zz_callSJ [zi 10, zi p3] zd_3_10_44 zk_Compiler_132 rfl rfl ⟨Nat.le_of_ble_eq_true rfl, Nat.le_of_ble_eq_true rfl⟩ ⟨rfl, rfl⟩ (Nat.zero_le _) (Nat.zero_le _) (zc_bits_12_4 10 p3 S0 n hn G_S0 (by omega) (by omega)) (fun v23 S22 hP => ?_)
    obtain ⟨rfl, o24⟩ := hP
    refine zz_lor zd_3_10_47 (fun v25 hv25 ev25 => ?_)
    have g26 := zz_G.r G_S0 1076 1 0 1000000 rfl rfl
    refine zz_callVV [zl v25] zd_3_10_48 zk_Compiler_143 zT_1076 (zz_ltn hn rfl) rfl rfl ⟨Nat.le_of_ble_eq_true rfl, Nat.le_of_ble_eq_true rfl⟩ ⟨rfl, rfl⟩ (Nat.zero_le _) (Nat.zero_le _) (zc_emit_3_15 v25 S0 n hn G_S0 (by omega) (by omega)) (fun S27 hP => ?_)
    obtain ⟨G_S27, fS27, o29⟩ := hP
    have g30 := zz_G.r G_S0 1076 0 0 1 rfl rfl
    have F_S27 := zz_fr.trans F_S0 fS27 rfl (fun a i h => Or.inr (Or.inr (h)))
    have b31 := zz_rf4 (z := (S0 1076 0)) (by omega)
    have g32 := zz_G.r G_S27 1076 1 0 1000000 rfl rfl
    exact zz_vret zd_3_10_51 rfl (Nat.zero_le _) (Nat.zero_le _) ⟨_, rfl, G_S27, F_S27, by omega⟩
theorem zk_Compiler_159 : mm_Vl "TensorForge$Compiler" 159 9 4 zy_loadPlaces_3_10 := ⟨zyw_loadPlaces_3_10, (R_Compiler, F_Compiler, 17), rfl, mm_tb_1 1459 (by decide +kernel) rfl, mm_tb_1 1461 (by decide +kernel) rfl, mm_tb_s 72 (by decide +kernel) rfl⟩
abbrev zy_mark_3_16 : mm_Y := (⟨"TensorForge$Compiler", "mark", "(II)V"⟩, prog_3_method_16_code, 3, none)
theorem zyw_mark_3_16 : mm_Yw zy_mark_3_16 2 := ⟨mm_tb_1 1466 (by decide +kernel) rfl, mm_tb_1 10 (by decide +kernel) rfl, ⟨by decide, by decide⟩, by decide +kernel⟩
theorem zg_3_5_102 : zq_at zy_makeGroup_3_5.2.1 102 42 ∧ zq_at zy_makeGroup_3_5.2.1 103 180 ∧ zq_at zy_makeGroup_3_5.2.1 104 0 ∧ zq_at zy_makeGroup_3_5.2.1 105 73 ∧ zq_at zy_makeGroup_3_5.2.1 106 4 ∧ zq_at zy_makeGroup_3_5.2.1 107 164 ∧ zq_at zy_makeGroup_3_5.2.1 108 0 ∧ zq_at zy_makeGroup_3_5.2.1 109 9 ∧ zq_at zy_makeGroup_3_5.2.1 116 42 ∧ zq_at zy_makeGroup_3_5.2.1 117 42 ∧ zq_at zy_makeGroup_3_5.2.1 118 180 ∧ zq_at zy_makeGroup_3_5.2.1 119 0 ∧ zq_at zy_makeGroup_3_5.2.1 120 15 ∧ zq_at zy_makeGroup_3_5.2.1 121 4 ∧ zq_at zy_makeGroup_3_5.2.1 122 100 ∧ zq_at zy_makeGroup_3_5.2.1 123 7 ∧ zq_at zy_makeGroup_3_5.2.1 124 182 ∧ zq_at zy_makeGroup_3_5.2.1 125 0 ∧ zq_at zy_makeGroup_3_5.2.1 126 163 := by decide +kernel
theorem zd_3_5_102 : zz_D zy_makeGroup_3_5 102 (.aload_n 0) 1 103 := ⟨zq_42 zg_3_5_102.1, rfl⟩
theorem zd_3_5_103 : zz_D zy_makeGroup_3_5 103 (.getfield 73) 3 106 := ⟨zq_180 zg_3_5_102.2.1 zg_3_5_102.2.2.1 zg_3_5_102.2.2.2.1 rfl, rfl⟩
theorem zd_3_5_106 : zz_D zy_makeGroup_3_5 106 (.iconst 1) 1 107 := ⟨zq_4 zg_3_5_102.2.2.2.2.1, rfl⟩
theorem zd_3_5_107 : zz_B zy_makeGroup_3_5 107 (Instr.if_icmp .le) 116 110 := ⟨9, zq_164 zg_3_5_102.2.2.2.2.2.1 zg_3_5_102.2.2.2.2.2.2.1 zg_3_5_102.2.2.2.2.2.2.2.1 (by decide), rfl, rfl⟩
theorem zd_3_5_116 : zz_D zy_makeGroup_3_5 116 (.aload_n 0) 1 117 := ⟨zq_42 zg_3_5_102.2.2.2.2.2.2.2.2.1, rfl⟩
theorem zd_3_5_117 : zz_D zy_makeGroup_3_5 117 (.aload_n 0) 1 118 := ⟨zq_42 zg_3_5_102.2.2.2.2.2.2.2.2.2.1, rfl⟩
theorem zd_3_5_118 : zz_D zy_makeGroup_3_5 118 (.getfield 15) 3 121 := ⟨zq_180 zg_3_5_102.2.2.2.2.2.2.2.2.2.2.1 zg_3_5_102.2.2.2.2.2.2.2.2.2.2.2.1 zg_3_5_102.2.2.2.2.2.2.2.2.2.2.2.2.1 rfl, rfl⟩
theorem zd_3_5_121 : zz_D zy_makeGroup_3_5 121 (.iconst 1) 1 122 := ⟨zq_4 zg_3_5_102.2.2.2.2.2.2.2.2.2.2.2.2.2.1, rfl⟩
theorem zd_3_5_122 : zz_D zy_makeGroup_3_5 122 (.isub) 1 123 := ⟨zq_100 zg_3_5_102.2.2.2.2.2.2.2.2.2.2.2.2.2.2.1, rfl⟩
theorem zd_3_5_123 : zz_D zy_makeGroup_3_5 123 (.iconst 4) 1 124 := ⟨zq_7 zg_3_5_102.2.2.2.2.2.2.2.2.2.2.2.2.2.2.2.1, rfl⟩
theorem zd_3_5_124 : zz_D zy_makeGroup_3_5 124 (.invokevirtual 163) 3 127 := ⟨zq_182 zg_3_5_102.2.2.2.2.2.2.2.2.2.2.2.2.2.2.2.2.1 zg_3_5_102.2.2.2.2.2.2.2.2.2.2.2.2.2.2.2.2.2.1 zg_3_5_102.2.2.2.2.2.2.2.2.2.2.2.2.2.2.2.2.2.2 rfl, rfl⟩
theorem zg_3_16_0 : zq_at zy_mark_3_16.2.1 0 27 ∧ zq_at zy_mark_3_16.2.1 1 155 ∧ zq_at zy_mark_3_16.2.1 2 0 ∧ zq_at zy_mark_3_16.2.1 3 32 ∧ zq_at zy_mark_3_16.2.1 33 177 ∧ zq_at zy_mark_3_16.2.1 4 27 ∧ zq_at zy_mark_3_16.2.1 5 17 ∧ zq_at zy_mark_3_16.2.1 6 2 ∧ zq_at zy_mark_3_16.2.1 7 88 ∧ zq_at zy_mark_3_16.2.1 8 162 ∧ zq_at zy_mark_3_16.2.1 9 0 ∧ zq_at zy_mark_3_16.2.1 10 25 ∧ zq_at zy_mark_3_16.2.1 11 27 ∧ zq_at zy_mark_3_16.2.1 12 42 ∧ zq_at zy_mark_3_16.2.1 13 180 ∧ zq_at zy_mark_3_16.2.1 14 0 ∧ zq_at zy_mark_3_16.2.1 15 9 ∧ zq_at zy_mark_3_16.2.1 16 190 ∧ zq_at zy_mark_3_16.2.1 17 162 ∧ zq_at zy_mark_3_16.2.1 18 0 ∧ zq_at zy_mark_3_16.2.1 19 16 ∧ zq_at zy_mark_3_16.2.1 20 42 := by decide +kernel
theorem zd_3_16_0 : zz_D zy_mark_3_16 0 (.iload_n 1) 1 1 := ⟨zq_27 zg_3_16_0.1, rfl⟩
theorem zd_3_16_1 : zz_B zy_mark_3_16 1 (Instr.ifCond .lt) 33 4 := ⟨32, zq_155 zg_3_16_0.2.1 zg_3_16_0.2.2.1 zg_3_16_0.2.2.2.1 (by decide), rfl, rfl⟩
theorem zd_3_16_33 : zz_D zy_mark_3_16 33 (.return_) 1 34 := ⟨zq_177 zg_3_16_0.2.2.2.2.1, rfl⟩
theorem zd_3_16_4 : zz_D zy_mark_3_16 4 (.iload_n 1) 1 5 := ⟨zq_27 zg_3_16_0.2.2.2.2.2.1, rfl⟩
theorem zd_3_16_5 : zz_D zy_mark_3_16 5 (.sipush 600) 3 8 := ⟨zq_17 zg_3_16_0.2.2.2.2.2.2.1 zg_3_16_0.2.2.2.2.2.2.2.1 zg_3_16_0.2.2.2.2.2.2.2.2.1 (by decide), rfl⟩
theorem zd_3_16_8 : zz_B zy_mark_3_16 8 (Instr.if_icmp .ge) 33 11 := ⟨25, zq_162 zg_3_16_0.2.2.2.2.2.2.2.2.2.1 zg_3_16_0.2.2.2.2.2.2.2.2.2.2.1 zg_3_16_0.2.2.2.2.2.2.2.2.2.2.2.1 (by decide), rfl, rfl⟩
theorem zd_3_16_11 : zz_D zy_mark_3_16 11 (.iload_n 1) 1 12 := ⟨zq_27 zg_3_16_0.2.2.2.2.2.2.2.2.2.2.2.2.1, rfl⟩
theorem zd_3_16_12 : zz_D zy_mark_3_16 12 (.aload_n 0) 1 13 := ⟨zq_42 zg_3_16_0.2.2.2.2.2.2.2.2.2.2.2.2.2.1, rfl⟩
theorem zd_3_16_13 : zz_D zy_mark_3_16 13 (.getfield 9) 3 16 := ⟨zq_180 zg_3_16_0.2.2.2.2.2.2.2.2.2.2.2.2.2.2.1 zg_3_16_0.2.2.2.2.2.2.2.2.2.2.2.2.2.2.2.1 zg_3_16_0.2.2.2.2.2.2.2.2.2.2.2.2.2.2.2.2.1 rfl, rfl⟩
theorem zd_3_16_16 : zz_D zy_mark_3_16 16 (.arraylength) 1 17 := ⟨zq_190 zg_3_16_0.2.2.2.2.2.2.2.2.2.2.2.2.2.2.2.2.2.1, rfl⟩
theorem zd_3_16_17 : zz_B zy_mark_3_16 17 (Instr.if_icmp .ge) 33 20 := ⟨16, zq_162 zg_3_16_0.2.2.2.2.2.2.2.2.2.2.2.2.2.2.2.2.2.2.1 zg_3_16_0.2.2.2.2.2.2.2.2.2.2.2.2.2.2.2.2.2.2.2.1 zg_3_16_0.2.2.2.2.2.2.2.2.2.2.2.2.2.2.2.2.2.2.2.2.1 (by decide), rfl, rfl⟩
theorem zd_3_16_20 : zz_D zy_mark_3_16 20 (.aload_n 0) 1 21 := ⟨zq_42 zg_3_16_0.2.2.2.2.2.2.2.2.2.2.2.2.2.2.2.2.2.2.2.2.2, rfl⟩
theorem zg_3_16_21 : zq_at zy_mark_3_16.2.1 21 180 ∧ zq_at zy_mark_3_16.2.1 22 0 ∧ zq_at zy_mark_3_16.2.1 23 9 ∧ zq_at zy_mark_3_16.2.1 24 27 ∧ zq_at zy_mark_3_16.2.1 25 92 ∧ zq_at zy_mark_3_16.2.1 26 47 ∧ zq_at zy_mark_3_16.2.1 27 28 ∧ zq_at zy_mark_3_16.2.1 28 184 ∧ zq_at zy_mark_3_16.2.1 29 0 ∧ zq_at zy_mark_3_16.2.1 30 139 ∧ zq_at zy_mark_3_16.2.1 31 129 ∧ zq_at zy_mark_3_16.2.1 32 80 := by decide +kernel
theorem zd_3_16_21 : zz_D zy_mark_3_16 21 (.getfield 9) 3 24 := ⟨zq_180 zg_3_16_21.1 zg_3_16_21.2.1 zg_3_16_21.2.2.1 rfl, rfl⟩
theorem zd_3_16_24 : zz_D zy_mark_3_16 24 (.iload_n 1) 1 25 := ⟨zq_27 zg_3_16_21.2.2.2.1, rfl⟩
theorem zd_3_16_25 : zz_D zy_mark_3_16 25 (.dup2) 1 26 := ⟨zq_92 zg_3_16_21.2.2.2.2.1, rfl⟩
theorem zd_3_16_26 : zz_D zy_mark_3_16 26 (.laload) 1 27 := ⟨zq_47 zg_3_16_21.2.2.2.2.2.1, rfl⟩
theorem zd_3_16_27 : zz_D zy_mark_3_16 27 (.iload_n 2) 1 28 := ⟨zq_28 zg_3_16_21.2.2.2.2.2.2.1, rfl⟩
theorem zd_3_16_28 : zz_D zy_mark_3_16 28 (.invokestatic 139) 3 31 := ⟨zq_184 zg_3_16_21.2.2.2.2.2.2.2.1 zg_3_16_21.2.2.2.2.2.2.2.2.1 zg_3_16_21.2.2.2.2.2.2.2.2.2.1 rfl, rfl⟩
theorem zd_3_16_31 : zz_D zy_mark_3_16 31 (.lor) 1 32 := ⟨zq_129 zg_3_16_21.2.2.2.2.2.2.2.2.2.2.1, rfl⟩
theorem zd_3_16_32 : zz_D zy_mark_3_16 32 (.lastore) 1 33 := ⟨zq_80 zg_3_16_21.2.2.2.2.2.2.2.2.2.2.2, rfl⟩
-- TensorForge$Compiler mark (II)V
abbrev zr_mark_3_16 : Room := { frames := 2, cells := 0, slots := 0, locals := 29 }
def zp_mark_3_16 (p0 : Int) (p1 : Int) (S0 : zz_S) : zz_S → Prop := fun S => zz_G S ∧ zz_fr [] [] (fun a i => a = zz_rf 4 (S0 1076 0)) S0 S
theorem zc_mark_3_16 {g : mm_G} {l : Launch} (p0 : Int) (p1 : Int) (S0 : zz_S) (n : Nat) (hn : zz_end ≤ n) (G_S0 : zz_G S0) (hp0 : (-2147483648) ≤ p0 ∧ p0 ≤ 2147483647) (hp1 : (-2147483648) ≤ p1 ∧ p1 ≤ 2147483647) : mm_Met g l zy_mark_3_16 zr_mark_3_16 [.ref 1076, zi p0, zi p1] (zz_M S0 n) n (zz_QV n (zp_mark_3_16 p0 p1 S0)) := by
  refine zz_enter (by decide) (Nat.le_of_ble_eq_true rfl) (zz_less (ls1 := [some (.ref 1076), some (zi p0), some (zi p1)]) ⟨rfl, ⟨rfl, ⟨rfl, trivial⟩⟩⟩ ?_)
  have F_S0 : zz_fr [] [] (fun a i => a = zz_rf 4 (S0 1076 0)) S0 S0 := zz_fr.refl
  refine zz_iload_n (x := p0) rfl zd_3_16_0 ?_
  refine zz_if_lt (by omega) zd_3_16_1 (fun c1 => ?_) (fun c1 => ?_)
  · exact zz_vret zd_3_16_33 rfl (Nat.zero_le _) (Nat.zero_le _) ⟨_, rfl, G_S0, F_S0⟩
  · refine zz_iload_n (x := p0) rfl zd_3_16_4 ?_
    refine zz_sipush (by decide) zd_3_16_5 ?_
    refine zz_icmp_ge (by omega) (by omega) zd_3_16_8 (fun c2 => ?_) (fun c2 => ?_)
    · exact zz_vret zd_3_16_33 rfl (Nat.zero_le _) (Nat.zero_le _) ⟨_, rfl, G_S0, F_S0⟩
    · refine zz_iload_n (x := p0) rfl zd_3_16_11 ?_
      refine zz_aload_n (x := 1076) rfl zd_3_16_12 ?_
      have g3 := zz_G.r G_S0 1076 0 0 1 rfl rfl
      refine zz_getr (kd := 2) (z := S0 1076 0) zd_3_16_13 zf_Compiler_9 zT_1076 rfl (zz_ltn hn rfl) rfl (by omega) (zz_rf 4 (S0 1076 0)) rfl ?_
      refine zz_alen zd_3_16_16 (zT_k4 (by omega)) rfl (zN_k4 hn (by omega)) ?_
      refine zz_icmp_ge (by omega) (by omega) zd_3_16_17 (fun c4 => ?_) (fun c4 => ?_)
      · exfalso; omega
      · refine zz_aload_n (x := 1076) rfl zd_3_16_20 ?_
        refine zz_getr (kd := 2) (z := S0 1076 0) zd_3_16_21 zf_Compiler_9 zT_1076 rfl (zz_ltn hn rfl) rfl (by omega) (zz_rf 4 (S0 1076 0)) rfl ?_
        refine zz_iload_n (x := p0) rfl zd_3_16_24 ?_
        refine zz_dup2_11 rfl rfl zd_3_16_25 ?_
        have g5 := zz_G.r G_S0 (zz_rf 4 (S0 1076 0)) p0.toNat (-9223372036854775808) 9223372036854775807 (zR_k4 (by omega)) (zB_k4 (by omega))
        refine zz_lald (z := S0 (zz_rf 4 (S0 1076 0)) p0.toNat) zd_3_16_26 (zT_k4 (by omega)) rfl (zN_k4 hn (by omega)) (by decide) (by omega) rfl ?_
        refine zz_iload_n (x := p1) rfl zd_3_16_27 ?_
        refine zz_callSJ [zi p1] zd_3_16_28 zk_Compiler_139 rfl rfl ⟨Nat.le_of_ble_eq_true rfl, Nat.le_of_ble_eq_true rfl⟩ ⟨rfl, rfl⟩ (Nat.zero_le _) (Nat.zero_le _) (zc_flag_12_5 p1 S0 n hn G_S0 (by omega)) (fun v7 S6 hP => ?_)
        obtain ⟨rfl, o8⟩ := hP
        refine zz_lor zd_3_16_31 (fun v9 hv9 ev9 => ?_)
        refine zz_last zd_3_16_32 (zT_k4 (by omega)) rfl (zN_k4 hn (by omega)) (by decide) (by omega) (fun S10 qS10 => ?_)
        have G_S10 := zz_G.put G_S0 qS10 (-9223372036854775808) 9223372036854775807 (zR_k4 (by omega)) (by omega)
        have F_S10 := zz_fr.putv F_S0 qS10 (rfl)
        exact zz_vret zd_3_16_33 rfl (Nat.zero_le _) (Nat.zero_le _) ⟨_, rfl, G_S10, F_S10⟩
theorem zk_Compiler_163 : mm_Vl "TensorForge$Compiler" 163 9 2 zy_mark_3_16 := ⟨zyw_mark_3_16, (R_Compiler, F_Compiler, 17), rfl, mm_tb_1 1463 (by decide +kernel) rfl, mm_tb_1 1465 (by decide +kernel) rfl, mm_tb_s 73 (by decide +kernel) rfl⟩
abbrev zy_workOf_3_11 : mm_Y := (⟨"TensorForge$Compiler", "workOf", "(Z)J"⟩, prog_3_method_11_code, 3, (some .long))
theorem zyw_workOf_3_11 : mm_Yw zy_workOf_3_11 1 := ⟨mm_tb_1 1474 (by decide +kernel) rfl, mm_tb_1 10 (by decide +kernel) rfl, ⟨by decide, by decide⟩, by decide +kernel⟩
theorem zg_3_5_127 : zq_at zy_makeGroup_3_5.2.1 127 42 ∧ zq_at zy_makeGroup_3_5.2.1 128 27 ∧ zq_at zy_makeGroup_3_5.2.1 129 182 ∧ zq_at zy_makeGroup_3_5.2.1 130 0 ∧ zq_at zy_makeGroup_3_5.2.1 131 167 := by decide +kernel
theorem zd_3_5_127 : zz_D zy_makeGroup_3_5 127 (.aload_n 0) 1 128 := ⟨zq_42 zg_3_5_127.1, rfl⟩
theorem zd_3_5_128 : zz_D zy_makeGroup_3_5 128 (.iload_n 1) 1 129 := ⟨zq_27 zg_3_5_127.2.1, rfl⟩
theorem zd_3_5_129 : zz_D zy_makeGroup_3_5 129 (.invokevirtual 167) 3 132 := ⟨zq_182 zg_3_5_127.2.2.1 zg_3_5_127.2.2.2.1 zg_3_5_127.2.2.2.2 rfl, rfl⟩
theorem zg_3_11_0 : zq_at zy_workOf_3_11.2.1 0 42 ∧ zq_at zy_workOf_3_11.2.1 1 180 ∧ zq_at zy_workOf_3_11.2.1 2 0 ∧ zq_at zy_workOf_3_11.2.1 3 51 ∧ zq_at zy_workOf_3_11.2.1 4 180 ∧ zq_at zy_workOf_3_11.2.1 5 0 ∧ zq_at zy_workOf_3_11.2.1 6 61 ∧ zq_at zy_workOf_3_11.2.1 7 4 ∧ zq_at zy_workOf_3_11.2.1 8 160 ∧ zq_at zy_workOf_3_11.2.1 9 0 ∧ zq_at zy_workOf_3_11.2.1 10 60 ∧ zq_at zy_workOf_3_11.2.1 68 42 ∧ zq_at zy_workOf_3_11.2.1 69 180 ∧ zq_at zy_workOf_3_11.2.1 70 0 ∧ zq_at zy_workOf_3_11.2.1 71 51 ∧ zq_at zy_workOf_3_11.2.1 72 180 ∧ zq_at zy_workOf_3_11.2.1 73 0 ∧ zq_at zy_workOf_3_11.2.1 74 61 ∧ zq_at zy_workOf_3_11.2.1 75 5 ∧ zq_at zy_workOf_3_11.2.1 76 160 ∧ zq_at zy_workOf_3_11.2.1 77 0 ∧ zq_at zy_workOf_3_11.2.1 78 7 ∧ zq_at zy_workOf_3_11.2.1 83 4 ∧ zq_at zy_workOf_3_11.2.1 84 61 := by decide +kernel
theorem zd_3_11_0 : zz_D zy_workOf_3_11 0 (.aload_n 0) 1 1 := ⟨zq_42 zg_3_11_0.1, rfl⟩
theorem zd_3_11_1 : zz_D zy_workOf_3_11 1 (.getfield 51) 3 4 := ⟨zq_180 zg_3_11_0.2.1 zg_3_11_0.2.2.1 zg_3_11_0.2.2.2.1 rfl, rfl⟩
theorem zd_3_11_4 : zz_D zy_workOf_3_11 4 (.getfield 61) 3 7 := ⟨zq_180 zg_3_11_0.2.2.2.2.1 zg_3_11_0.2.2.2.2.2.1 zg_3_11_0.2.2.2.2.2.2.1 rfl, rfl⟩
theorem zd_3_11_7 : zz_D zy_workOf_3_11 7 (.iconst 1) 1 8 := ⟨zq_4 zg_3_11_0.2.2.2.2.2.2.2.1, rfl⟩
theorem zd_3_11_8 : zz_B zy_workOf_3_11 8 (Instr.if_icmp .ne) 68 11 := ⟨60, zq_160 zg_3_11_0.2.2.2.2.2.2.2.2.1 zg_3_11_0.2.2.2.2.2.2.2.2.2.1 zg_3_11_0.2.2.2.2.2.2.2.2.2.2.1 (by decide), rfl, rfl⟩
theorem zd_3_11_68 : zz_D zy_workOf_3_11 68 (.aload_n 0) 1 69 := ⟨zq_42 zg_3_11_0.2.2.2.2.2.2.2.2.2.2.2.1, rfl⟩
theorem zd_3_11_69 : zz_D zy_workOf_3_11 69 (.getfield 51) 3 72 := ⟨zq_180 zg_3_11_0.2.2.2.2.2.2.2.2.2.2.2.2.1 zg_3_11_0.2.2.2.2.2.2.2.2.2.2.2.2.2.1 zg_3_11_0.2.2.2.2.2.2.2.2.2.2.2.2.2.2.1 rfl, rfl⟩
theorem zd_3_11_72 : zz_D zy_workOf_3_11 72 (.getfield 61) 3 75 := ⟨zq_180 zg_3_11_0.2.2.2.2.2.2.2.2.2.2.2.2.2.2.2.1 zg_3_11_0.2.2.2.2.2.2.2.2.2.2.2.2.2.2.2.2.1 zg_3_11_0.2.2.2.2.2.2.2.2.2.2.2.2.2.2.2.2.2.1 rfl, rfl⟩
theorem zd_3_11_75 : zz_D zy_workOf_3_11 75 (.iconst 2) 1 76 := ⟨zq_5 zg_3_11_0.2.2.2.2.2.2.2.2.2.2.2.2.2.2.2.2.2.2.1, rfl⟩
theorem zd_3_11_76 : zz_B zy_workOf_3_11 76 (Instr.if_icmp .ne) 83 79 := ⟨7, zq_160 zg_3_11_0.2.2.2.2.2.2.2.2.2.2.2.2.2.2.2.2.2.2.2.1 zg_3_11_0.2.2.2.2.2.2.2.2.2.2.2.2.2.2.2.2.2.2.2.2.1 zg_3_11_0.2.2.2.2.2.2.2.2.2.2.2.2.2.2.2.2.2.2.2.2.2.1 (by decide), rfl, rfl⟩
theorem zd_3_11_83 : zz_D zy_workOf_3_11 83 (.iconst 1) 1 84 := ⟨zq_4 zg_3_11_0.2.2.2.2.2.2.2.2.2.2.2.2.2.2.2.2.2.2.2.2.2.2.1, rfl⟩
theorem zd_3_11_84 : zz_D zy_workOf_3_11 84 (.istore_n 2) 1 85 := ⟨zq_61 zg_3_11_0.2.2.2.2.2.2.2.2.2.2.2.2.2.2.2.2.2.2.2.2.2.2.2, rfl⟩
theorem zg_3_11_85 : zq_at zy_workOf_3_11.2.1 85 16 ∧ zq_at zy_workOf_3_11.2.1 86 6 ∧ zq_at zy_workOf_3_11.2.1 87 42 ∧ zq_at zy_workOf_3_11.2.1 88 180 ∧ zq_at zy_workOf_3_11.2.1 89 0 ∧ zq_at zy_workOf_3_11.2.1 90 91 ∧ zq_at zy_workOf_3_11.2.1 91 42 ∧ zq_at zy_workOf_3_11.2.1 92 180 ∧ zq_at zy_workOf_3_11.2.1 93 0 ∧ zq_at zy_workOf_3_11.2.1 94 82 ∧ zq_at zy_workOf_3_11.2.1 95 184 ∧ zq_at zy_workOf_3_11.2.1 96 0 ∧ zq_at zy_workOf_3_11.2.1 97 128 ∧ zq_at zy_workOf_3_11.2.1 98 16 ∧ zq_at zy_workOf_3_11.2.1 99 8 ∧ zq_at zy_workOf_3_11.2.1 100 42 ∧ zq_at zy_workOf_3_11.2.1 101 182 ∧ zq_at zy_workOf_3_11.2.1 102 0 ∧ zq_at zy_workOf_3_11.2.1 103 175 ∧ zq_at zy_workOf_3_11.2.1 104 184 ∧ zq_at zy_workOf_3_11.2.1 105 0 ∧ zq_at zy_workOf_3_11.2.1 106 132 ∧ zq_at zy_workOf_3_11.2.1 107 129 := by decide +kernel
theorem zd_3_11_85 : zz_D zy_workOf_3_11 85 (.bipush 6) 2 87 := ⟨zq_16 zg_3_11_85.1 zg_3_11_85.2.1 (by decide), rfl⟩
theorem zd_3_11_87 : zz_D zy_workOf_3_11 87 (.aload_n 0) 1 88 := ⟨zq_42 zg_3_11_85.2.2.1, rfl⟩
theorem zd_3_11_88 : zz_D zy_workOf_3_11 88 (.getfield 91) 3 91 := ⟨zq_180 zg_3_11_85.2.2.2.1 zg_3_11_85.2.2.2.2.1 zg_3_11_85.2.2.2.2.2.1 rfl, rfl⟩
theorem zd_3_11_91 : zz_D zy_workOf_3_11 91 (.aload_n 0) 1 92 := ⟨zq_42 zg_3_11_85.2.2.2.2.2.2.1, rfl⟩
theorem zd_3_11_92 : zz_D zy_workOf_3_11 92 (.getfield 82) 3 95 := ⟨zq_180 zg_3_11_85.2.2.2.2.2.2.2.1 zg_3_11_85.2.2.2.2.2.2.2.2.1 zg_3_11_85.2.2.2.2.2.2.2.2.2.1 rfl, rfl⟩
theorem zd_3_11_95 : zz_D zy_workOf_3_11 95 (.invokestatic 128) 3 98 := ⟨zq_184 zg_3_11_85.2.2.2.2.2.2.2.2.2.2.1 zg_3_11_85.2.2.2.2.2.2.2.2.2.2.2.1 zg_3_11_85.2.2.2.2.2.2.2.2.2.2.2.2.1 rfl, rfl⟩
theorem zd_3_11_98 : zz_D zy_workOf_3_11 98 (.bipush 8) 2 100 := ⟨zq_16 zg_3_11_85.2.2.2.2.2.2.2.2.2.2.2.2.2.1 zg_3_11_85.2.2.2.2.2.2.2.2.2.2.2.2.2.2.1 (by decide), rfl⟩
theorem zd_3_11_100 : zz_D zy_workOf_3_11 100 (.aload_n 0) 1 101 := ⟨zq_42 zg_3_11_85.2.2.2.2.2.2.2.2.2.2.2.2.2.2.2.1, rfl⟩
theorem zd_3_11_101 : zz_D zy_workOf_3_11 101 (.invokevirtual 175) 3 104 := ⟨zq_182 zg_3_11_85.2.2.2.2.2.2.2.2.2.2.2.2.2.2.2.2.1 zg_3_11_85.2.2.2.2.2.2.2.2.2.2.2.2.2.2.2.2.2.1 zg_3_11_85.2.2.2.2.2.2.2.2.2.2.2.2.2.2.2.2.2.2.1 rfl, rfl⟩
theorem zd_3_11_104 : zz_D zy_workOf_3_11 104 (.invokestatic 132) 3 107 := ⟨zq_184 zg_3_11_85.2.2.2.2.2.2.2.2.2.2.2.2.2.2.2.2.2.2.2.1 zg_3_11_85.2.2.2.2.2.2.2.2.2.2.2.2.2.2.2.2.2.2.2.2.1 zg_3_11_85.2.2.2.2.2.2.2.2.2.2.2.2.2.2.2.2.2.2.2.2.2.1 rfl, rfl⟩
theorem zd_3_11_107 : zz_D zy_workOf_3_11 107 (.lor) 1 108 := ⟨zq_129 zg_3_11_85.2.2.2.2.2.2.2.2.2.2.2.2.2.2.2.2.2.2.2.2.2.2, rfl⟩
theorem zg_3_11_108 : zq_at zy_workOf_3_11.2.1 108 16 ∧ zq_at zy_workOf_3_11.2.1 109 9 ∧ zq_at zy_workOf_3_11.2.1 110 42 ∧ zq_at zy_workOf_3_11.2.1 111 182 ∧ zq_at zy_workOf_3_11.2.1 112 0 ∧ zq_at zy_workOf_3_11.2.1 113 122 ∧ zq_at zy_workOf_3_11.2.1 114 184 ∧ zq_at zy_workOf_3_11.2.1 115 0 ∧ zq_at zy_workOf_3_11.2.1 116 132 ∧ zq_at zy_workOf_3_11.2.1 117 129 ∧ zq_at zy_workOf_3_11.2.1 118 16 ∧ zq_at zy_workOf_3_11.2.1 119 11 ∧ zq_at zy_workOf_3_11.2.1 120 27 ∧ zq_at zy_workOf_3_11.2.1 121 153 ∧ zq_at zy_workOf_3_11.2.1 122 0 ∧ zq_at zy_workOf_3_11.2.1 123 7 ∧ zq_at zy_workOf_3_11.2.1 128 28 ∧ zq_at zy_workOf_3_11.2.1 129 184 ∧ zq_at zy_workOf_3_11.2.1 130 0 ∧ zq_at zy_workOf_3_11.2.1 131 132 ∧ zq_at zy_workOf_3_11.2.1 132 129 ∧ zq_at zy_workOf_3_11.2.1 133 173 ∧ zq_at zy_workOf_3_11.2.1 124 3 := by decide +kernel
theorem zd_3_11_108 : zz_D zy_workOf_3_11 108 (.bipush 9) 2 110 := ⟨zq_16 zg_3_11_108.1 zg_3_11_108.2.1 (by decide), rfl⟩
theorem zd_3_11_110 : zz_D zy_workOf_3_11 110 (.aload_n 0) 1 111 := ⟨zq_42 zg_3_11_108.2.2.1, rfl⟩
theorem zd_3_11_111 : zz_D zy_workOf_3_11 111 (.invokevirtual 122) 3 114 := ⟨zq_182 zg_3_11_108.2.2.2.1 zg_3_11_108.2.2.2.2.1 zg_3_11_108.2.2.2.2.2.1 rfl, rfl⟩
theorem zd_3_11_114 : zz_D zy_workOf_3_11 114 (.invokestatic 132) 3 117 := ⟨zq_184 zg_3_11_108.2.2.2.2.2.2.1 zg_3_11_108.2.2.2.2.2.2.2.1 zg_3_11_108.2.2.2.2.2.2.2.2.1 rfl, rfl⟩
theorem zd_3_11_117 : zz_D zy_workOf_3_11 117 (.lor) 1 118 := ⟨zq_129 zg_3_11_108.2.2.2.2.2.2.2.2.2.1, rfl⟩
theorem zd_3_11_118 : zz_D zy_workOf_3_11 118 (.bipush 11) 2 120 := ⟨zq_16 zg_3_11_108.2.2.2.2.2.2.2.2.2.2.1 zg_3_11_108.2.2.2.2.2.2.2.2.2.2.2.1 (by decide), rfl⟩
theorem zd_3_11_120 : zz_D zy_workOf_3_11 120 (.iload_n 1) 1 121 := ⟨zq_27 zg_3_11_108.2.2.2.2.2.2.2.2.2.2.2.2.1, rfl⟩
theorem zd_3_11_121 : zz_B zy_workOf_3_11 121 (Instr.ifCond .eq) 128 124 := ⟨7, zq_153 zg_3_11_108.2.2.2.2.2.2.2.2.2.2.2.2.2.1 zg_3_11_108.2.2.2.2.2.2.2.2.2.2.2.2.2.2.1 zg_3_11_108.2.2.2.2.2.2.2.2.2.2.2.2.2.2.2.1 (by decide), rfl, rfl⟩
theorem zd_3_11_128 : zz_D zy_workOf_3_11 128 (.iload_n 2) 1 129 := ⟨zq_28 zg_3_11_108.2.2.2.2.2.2.2.2.2.2.2.2.2.2.2.2.1, rfl⟩
theorem zd_3_11_129 : zz_D zy_workOf_3_11 129 (.invokestatic 132) 3 132 := ⟨zq_184 zg_3_11_108.2.2.2.2.2.2.2.2.2.2.2.2.2.2.2.2.2.1 zg_3_11_108.2.2.2.2.2.2.2.2.2.2.2.2.2.2.2.2.2.2.1 zg_3_11_108.2.2.2.2.2.2.2.2.2.2.2.2.2.2.2.2.2.2.2.1 rfl, rfl⟩
theorem zd_3_11_132 : zz_D zy_workOf_3_11 132 (.lor) 1 133 := ⟨zq_129 zg_3_11_108.2.2.2.2.2.2.2.2.2.2.2.2.2.2.2.2.2.2.2.2.1, rfl⟩
theorem zd_3_11_133 : zz_D zy_workOf_3_11 133 (.lreturn) 1 134 := ⟨zq_173 zg_3_11_108.2.2.2.2.2.2.2.2.2.2.2.2.2.2.2.2.2.2.2.2.2.1, rfl⟩
theorem zd_3_11_124 : zz_D zy_workOf_3_11 124 (.iconst 0) 1 125 := ⟨zq_3 zg_3_11_108.2.2.2.2.2.2.2.2.2.2.2.2.2.2.2.2.2.2.2.2.2.2, rfl⟩
theorem zg_3_11_125 : zq_at zy_workOf_3_11.2.1 125 167 ∧ zq_at zy_workOf_3_11.2.1 126 0 ∧ zq_at zy_workOf_3_11.2.1 127 4 ∧ zq_at zy_workOf_3_11.2.1 79 5 ∧ zq_at zy_workOf_3_11.2.1 80 167 ∧ zq_at zy_workOf_3_11.2.1 81 0 ∧ zq_at zy_workOf_3_11.2.1 82 4 ∧ zq_at zy_workOf_3_11.2.1 11 8 ∧ zq_at zy_workOf_3_11.2.1 12 42 ∧ zq_at zy_workOf_3_11.2.1 13 180 ∧ zq_at zy_workOf_3_11.2.1 14 0 ∧ zq_at zy_workOf_3_11.2.1 15 91 ∧ zq_at zy_workOf_3_11.2.1 16 42 ∧ zq_at zy_workOf_3_11.2.1 17 180 ∧ zq_at zy_workOf_3_11.2.1 18 0 ∧ zq_at zy_workOf_3_11.2.1 19 82 ∧ zq_at zy_workOf_3_11.2.1 20 184 ∧ zq_at zy_workOf_3_11.2.1 21 0 ∧ zq_at zy_workOf_3_11.2.1 22 128 ∧ zq_at zy_workOf_3_11.2.1 23 16 ∧ zq_at zy_workOf_3_11.2.1 24 8 ∧ zq_at zy_workOf_3_11.2.1 25 42 := by decide +kernel
theorem zd_3_11_125 : zz_B zy_workOf_3_11 125 Instr.goto 129 128 := ⟨4, zq_167 zg_3_11_125.1 zg_3_11_125.2.1 zg_3_11_125.2.2.1 (by decide), rfl, rfl⟩
theorem zd_3_11_79 : zz_D zy_workOf_3_11 79 (.iconst 2) 1 80 := ⟨zq_5 zg_3_11_125.2.2.2.1, rfl⟩
theorem zd_3_11_80 : zz_B zy_workOf_3_11 80 Instr.goto 84 83 := ⟨4, zq_167 zg_3_11_125.2.2.2.2.1 zg_3_11_125.2.2.2.2.2.1 zg_3_11_125.2.2.2.2.2.2.1 (by decide), rfl, rfl⟩
theorem zd_3_11_11 : zz_D zy_workOf_3_11 11 (.iconst 5) 1 12 := ⟨zq_8 zg_3_11_125.2.2.2.2.2.2.2.1, rfl⟩
theorem zd_3_11_12 : zz_D zy_workOf_3_11 12 (.aload_n 0) 1 13 := ⟨zq_42 zg_3_11_125.2.2.2.2.2.2.2.2.1, rfl⟩
theorem zd_3_11_13 : zz_D zy_workOf_3_11 13 (.getfield 91) 3 16 := ⟨zq_180 zg_3_11_125.2.2.2.2.2.2.2.2.2.1 zg_3_11_125.2.2.2.2.2.2.2.2.2.2.1 zg_3_11_125.2.2.2.2.2.2.2.2.2.2.2.1 rfl, rfl⟩
theorem zd_3_11_16 : zz_D zy_workOf_3_11 16 (.aload_n 0) 1 17 := ⟨zq_42 zg_3_11_125.2.2.2.2.2.2.2.2.2.2.2.2.1, rfl⟩
theorem zd_3_11_17 : zz_D zy_workOf_3_11 17 (.getfield 82) 3 20 := ⟨zq_180 zg_3_11_125.2.2.2.2.2.2.2.2.2.2.2.2.2.1 zg_3_11_125.2.2.2.2.2.2.2.2.2.2.2.2.2.2.1 zg_3_11_125.2.2.2.2.2.2.2.2.2.2.2.2.2.2.2.1 rfl, rfl⟩
theorem zd_3_11_20 : zz_D zy_workOf_3_11 20 (.invokestatic 128) 3 23 := ⟨zq_184 zg_3_11_125.2.2.2.2.2.2.2.2.2.2.2.2.2.2.2.2.1 zg_3_11_125.2.2.2.2.2.2.2.2.2.2.2.2.2.2.2.2.2.1 zg_3_11_125.2.2.2.2.2.2.2.2.2.2.2.2.2.2.2.2.2.2.1 rfl, rfl⟩
theorem zd_3_11_23 : zz_D zy_workOf_3_11 23 (.bipush 8) 2 25 := ⟨zq_16 zg_3_11_125.2.2.2.2.2.2.2.2.2.2.2.2.2.2.2.2.2.2.2.1 zg_3_11_125.2.2.2.2.2.2.2.2.2.2.2.2.2.2.2.2.2.2.2.2.1 (by decide), rfl⟩
theorem zd_3_11_25 : zz_D zy_workOf_3_11 25 (.aload_n 0) 1 26 := ⟨zq_42 zg_3_11_125.2.2.2.2.2.2.2.2.2.2.2.2.2.2.2.2.2.2.2.2.2, rfl⟩
theorem zg_3_11_26 : zq_at zy_workOf_3_11.2.1 26 182 ∧ zq_at zy_workOf_3_11.2.1 27 0 ∧ zq_at zy_workOf_3_11.2.1 28 175 ∧ zq_at zy_workOf_3_11.2.1 29 184 ∧ zq_at zy_workOf_3_11.2.1 30 0 ∧ zq_at zy_workOf_3_11.2.1 31 132 ∧ zq_at zy_workOf_3_11.2.1 32 129 ∧ zq_at zy_workOf_3_11.2.1 33 16 ∧ zq_at zy_workOf_3_11.2.1 34 10 ∧ zq_at zy_workOf_3_11.2.1 35 42 ∧ zq_at zy_workOf_3_11.2.1 36 182 ∧ zq_at zy_workOf_3_11.2.1 37 0 ∧ zq_at zy_workOf_3_11.2.1 38 175 ∧ zq_at zy_workOf_3_11.2.1 39 184 ∧ zq_at zy_workOf_3_11.2.1 40 0 ∧ zq_at zy_workOf_3_11.2.1 41 132 ∧ zq_at zy_workOf_3_11.2.1 42 129 ∧ zq_at zy_workOf_3_11.2.1 43 16 ∧ zq_at zy_workOf_3_11.2.1 44 9 ∧ zq_at zy_workOf_3_11.2.1 45 42 ∧ zq_at zy_workOf_3_11.2.1 46 182 ∧ zq_at zy_workOf_3_11.2.1 47 0 ∧ zq_at zy_workOf_3_11.2.1 48 122 := by decide +kernel
theorem zd_3_11_26 : zz_D zy_workOf_3_11 26 (.invokevirtual 175) 3 29 := ⟨zq_182 zg_3_11_26.1 zg_3_11_26.2.1 zg_3_11_26.2.2.1 rfl, rfl⟩
theorem zd_3_11_29 : zz_D zy_workOf_3_11 29 (.invokestatic 132) 3 32 := ⟨zq_184 zg_3_11_26.2.2.2.1 zg_3_11_26.2.2.2.2.1 zg_3_11_26.2.2.2.2.2.1 rfl, rfl⟩
theorem zd_3_11_32 : zz_D zy_workOf_3_11 32 (.lor) 1 33 := ⟨zq_129 zg_3_11_26.2.2.2.2.2.2.1, rfl⟩
theorem zd_3_11_33 : zz_D zy_workOf_3_11 33 (.bipush 10) 2 35 := ⟨zq_16 zg_3_11_26.2.2.2.2.2.2.2.1 zg_3_11_26.2.2.2.2.2.2.2.2.1 (by decide), rfl⟩
theorem zd_3_11_35 : zz_D zy_workOf_3_11 35 (.aload_n 0) 1 36 := ⟨zq_42 zg_3_11_26.2.2.2.2.2.2.2.2.2.1, rfl⟩
theorem zd_3_11_36 : zz_D zy_workOf_3_11 36 (.invokevirtual 175) 3 39 := ⟨zq_182 zg_3_11_26.2.2.2.2.2.2.2.2.2.2.1 zg_3_11_26.2.2.2.2.2.2.2.2.2.2.2.1 zg_3_11_26.2.2.2.2.2.2.2.2.2.2.2.2.1 rfl, rfl⟩
theorem zd_3_11_39 : zz_D zy_workOf_3_11 39 (.invokestatic 132) 3 42 := ⟨zq_184 zg_3_11_26.2.2.2.2.2.2.2.2.2.2.2.2.2.1 zg_3_11_26.2.2.2.2.2.2.2.2.2.2.2.2.2.2.1 zg_3_11_26.2.2.2.2.2.2.2.2.2.2.2.2.2.2.2.1 rfl, rfl⟩
theorem zd_3_11_42 : zz_D zy_workOf_3_11 42 (.lor) 1 43 := ⟨zq_129 zg_3_11_26.2.2.2.2.2.2.2.2.2.2.2.2.2.2.2.2.1, rfl⟩
theorem zd_3_11_43 : zz_D zy_workOf_3_11 43 (.bipush 9) 2 45 := ⟨zq_16 zg_3_11_26.2.2.2.2.2.2.2.2.2.2.2.2.2.2.2.2.2.1 zg_3_11_26.2.2.2.2.2.2.2.2.2.2.2.2.2.2.2.2.2.2.1 (by decide), rfl⟩
theorem zd_3_11_45 : zz_D zy_workOf_3_11 45 (.aload_n 0) 1 46 := ⟨zq_42 zg_3_11_26.2.2.2.2.2.2.2.2.2.2.2.2.2.2.2.2.2.2.2.1, rfl⟩
theorem zd_3_11_46 : zz_D zy_workOf_3_11 46 (.invokevirtual 122) 3 49 := ⟨zq_182 zg_3_11_26.2.2.2.2.2.2.2.2.2.2.2.2.2.2.2.2.2.2.2.2.1 zg_3_11_26.2.2.2.2.2.2.2.2.2.2.2.2.2.2.2.2.2.2.2.2.2.1 zg_3_11_26.2.2.2.2.2.2.2.2.2.2.2.2.2.2.2.2.2.2.2.2.2.2 rfl, rfl⟩
theorem zg_3_11_49 : zq_at zy_workOf_3_11.2.1 49 184 ∧ zq_at zy_workOf_3_11.2.1 50 0 ∧ zq_at zy_workOf_3_11.2.1 51 132 ∧ zq_at zy_workOf_3_11.2.1 52 129 ∧ zq_at zy_workOf_3_11.2.1 53 16 ∧ zq_at zy_workOf_3_11.2.1 54 11 ∧ zq_at zy_workOf_3_11.2.1 55 5 ∧ zq_at zy_workOf_3_11.2.1 56 42 ∧ zq_at zy_workOf_3_11.2.1 57 180 ∧ zq_at zy_workOf_3_11.2.1 58 0 ∧ zq_at zy_workOf_3_11.2.1 59 115 ∧ zq_at zy_workOf_3_11.2.1 60 104 ∧ zq_at zy_workOf_3_11.2.1 61 4 ∧ zq_at zy_workOf_3_11.2.1 62 96 ∧ zq_at zy_workOf_3_11.2.1 63 184 ∧ zq_at zy_workOf_3_11.2.1 64 0 ∧ zq_at zy_workOf_3_11.2.1 65 132 ∧ zq_at zy_workOf_3_11.2.1 66 129 ∧ zq_at zy_workOf_3_11.2.1 67 173 := by decide +kernel
theorem zd_3_11_49 : zz_D zy_workOf_3_11 49 (.invokestatic 132) 3 52 := ⟨zq_184 zg_3_11_49.1 zg_3_11_49.2.1 zg_3_11_49.2.2.1 rfl, rfl⟩
theorem zd_3_11_52 : zz_D zy_workOf_3_11 52 (.lor) 1 53 := ⟨zq_129 zg_3_11_49.2.2.2.1, rfl⟩
theorem zd_3_11_53 : zz_D zy_workOf_3_11 53 (.bipush 11) 2 55 := ⟨zq_16 zg_3_11_49.2.2.2.2.1 zg_3_11_49.2.2.2.2.2.1 (by decide), rfl⟩
theorem zd_3_11_55 : zz_D zy_workOf_3_11 55 (.iconst 2) 1 56 := ⟨zq_5 zg_3_11_49.2.2.2.2.2.2.1, rfl⟩
theorem zd_3_11_56 : zz_D zy_workOf_3_11 56 (.aload_n 0) 1 57 := ⟨zq_42 zg_3_11_49.2.2.2.2.2.2.2.1, rfl⟩
theorem zd_3_11_57 : zz_D zy_workOf_3_11 57 (.getfield 115) 3 60 := ⟨zq_180 zg_3_11_49.2.2.2.2.2.2.2.2.1 zg_3_11_49.2.2.2.2.2.2.2.2.2.1 zg_3_11_49.2.2.2.2.2.2.2.2.2.2.1 rfl, rfl⟩
theorem zd_3_11_60 : zz_D zy_workOf_3_11 60 (.imul) 1 61 := ⟨zq_104 zg_3_11_49.2.2.2.2.2.2.2.2.2.2.2.1, rfl⟩
theorem zd_3_11_61 : zz_D zy_workOf_3_11 61 (.iconst 1) 1 62 := ⟨zq_4 zg_3_11_49.2.2.2.2.2.2.2.2.2.2.2.2.1, rfl⟩
theorem zd_3_11_62 : zz_D zy_workOf_3_11 62 (.iadd) 1 63 := ⟨zq_96 zg_3_11_49.2.2.2.2.2.2.2.2.2.2.2.2.2.1, rfl⟩
theorem zd_3_11_63 : zz_D zy_workOf_3_11 63 (.invokestatic 132) 3 66 := ⟨zq_184 zg_3_11_49.2.2.2.2.2.2.2.2.2.2.2.2.2.2.1 zg_3_11_49.2.2.2.2.2.2.2.2.2.2.2.2.2.2.2.1 zg_3_11_49.2.2.2.2.2.2.2.2.2.2.2.2.2.2.2.2.1 rfl, rfl⟩
theorem zd_3_11_66 : zz_D zy_workOf_3_11 66 (.lor) 1 67 := ⟨zq_129 zg_3_11_49.2.2.2.2.2.2.2.2.2.2.2.2.2.2.2.2.2.1, rfl⟩
theorem zd_3_11_67 : zz_D zy_workOf_3_11 67 (.lreturn) 1 68 := ⟨zq_173 zg_3_11_49.2.2.2.2.2.2.2.2.2.2.2.2.2.2.2.2.2.2, rfl⟩
-- TensorForge$Compiler workOf (Z)J
abbrev zr_workOf_3_11 : Room := { frames := 1, cells := 0, slots := 0, locals := 15 }
def zp_workOf_3_11 (p0 : Int) (S0 : zz_S) : Int → zz_S → Prop := fun r S => S0 = S ∧ ((-9223372036854775808) ≤ r ∧ r ≤ 9223372036854775807)
theorem zc_workOf_3_11 {g : mm_G} {l : Launch} (p0 : Int) (S0 : zz_S) (n : Nat) (hn : zz_end ≤ n) (G_S0 : zz_G S0) (hp0 : 0 ≤ p0 ∧ p0 ≤ 1) (hl : 0 ≤ S0 1076 3 ∧ 0 ≤ S0 1076 4 ∧ 0 ≤ S0 1076 5) : mm_Met g l zy_workOf_3_11 zr_workOf_3_11 [.ref 1076, zi p0] (zz_M S0 n) n (zz_QJ n (zp_workOf_3_11 p0 S0)) := by
  refine zz_enter (by decide) (Nat.le_of_ble_eq_true rfl) (zz_less (ls1 := [some (.ref 1076), some (zi p0)]) ⟨rfl, ⟨rfl, trivial⟩⟩ ?_)
  refine zz_aload_n (x := 1076) rfl zd_3_11_0 ?_
  have g1 := zz_G.r G_S0 1076 3 (-1) 23 rfl rfl
  refine zz_getr (kd := 4) (z := S0 1076 3) zd_3_11_1 zf_Compiler_51 zT_1076 rfl (zz_ltn hn rfl) rfl (by omega) (zz_rf 6 (S0 1076 3)) rfl ?_
  have g2 := zz_G.r G_S0 (zz_rf 6 (S0 1076 3)) 0 (-2147483648) 2147483647 (zR_k6_0 (by omega)) (zB_k6 (by omega))
  refine zz_geti (z := S0 (zz_rf 6 (S0 1076 3)) 0) zd_3_11_4 zf_Compiler_61 (zT_k6 (by omega)) rfl (zN_k6 hn (by omega)) rfl ?_
  refine zz_iconst zd_3_11_7 ?_
  refine zz_icmp_ne (by omega) (by omega) zd_3_11_8 (fun c3 => ?_) (fun c3 => ?_)
  · refine zz_aload_n (x := 1076) rfl zd_3_11_68 ?_
    refine zz_getr (kd := 4) (z := S0 1076 3) zd_3_11_69 zf_Compiler_51 zT_1076 rfl (zz_ltn hn rfl) rfl (by omega) (zz_rf 6 (S0 1076 3)) rfl ?_
    refine zz_geti (z := S0 (zz_rf 6 (S0 1076 3)) 0) zd_3_11_72 zf_Compiler_61 (zT_k6 (by omega)) rfl (zN_k6 hn (by omega)) rfl ?_
    refine zz_iconst zd_3_11_75 ?_
    refine zz_icmp_ne (by omega) (by omega) zd_3_11_76 (fun c4 => ?_) (fun c4 => ?_)
    · refine zz_iconst zd_3_11_83 ?_
      refine zz_istore_n [some (.ref 1076), some (zi p0), some (zi 1)] zd_3_11_84 (by decide) rfl ?_
      refine zz_bipush (by decide) zd_3_11_85 ?_
      refine zz_aload_n (x := 1076) rfl zd_3_11_87 ?_
      have g5 := zz_G.r G_S0 1076 11 (-2147483648) 2147483647 rfl rfl
      refine zz_geti (z := S0 1076 11) zd_3_11_88 zf_Compiler_91 zT_1076 rfl (zz_ltn hn rfl) rfl ?_
      refine zz_aload_n (x := 1076) rfl zd_3_11_91 ?_
      have g6 := zz_G.r G_S0 1076 8 (-2147483648) 2147483647 rfl rfl
      refine zz_geti (z := S0 1076 8) zd_3_11_92 zf_Compiler_82 zT_1076 rfl (zz_ltn hn rfl) rfl ?_
      refine zz_callSJ [zi 6, zi (S0 1076 11), zi (S0 1076 8)] zd_3_11_95 zk_Compiler_128 rfl rfl ⟨Nat.le_of_ble_eq_true rfl, Nat.le_of_ble_eq_true rfl⟩ ⟨rfl, rfl⟩ (Nat.zero_le _) (Nat.zero_le _) (zc_shaped_12_6 6 (S0 1076 11) (S0 1076 8) S0 n hn G_S0 (by omega) (by omega) (by omega)) (fun v8 S7 hP => ?_)
      obtain ⟨rfl, o9⟩ := hP
      refine zz_bipush (by decide) zd_3_11_98 ?_
      refine zz_aload_n (x := 1076) rfl zd_3_11_100 ?_
      refine zz_callVI [] zd_3_11_101 zk_Compiler_175 zT_1076 (zz_ltn hn rfl) rfl rfl ⟨Nat.le_of_ble_eq_true rfl, Nat.le_of_ble_eq_true rfl⟩ ⟨rfl, rfl⟩ (Nat.zero_le _) (Nat.zero_le _) (zc_groupHalf_3_14  S0 n hn G_S0 ) (fun v11 S10 hP => ?_)
      obtain ⟨rfl, o12⟩ := hP
      refine zz_callSJ [zi 8, zi v11] zd_3_11_104 zk_Compiler_132 rfl rfl ⟨Nat.le_of_ble_eq_true rfl, Nat.le_of_ble_eq_true rfl⟩ ⟨rfl, rfl⟩ (Nat.zero_le _) (Nat.zero_le _) (zc_bits_12_4 8 v11 S0 n hn G_S0 (by omega) (by omega)) (fun v14 S13 hP => ?_)
      obtain ⟨rfl, o15⟩ := hP
      refine zz_lor zd_3_11_107 (fun v16 hv16 ev16 => ?_)
      refine zz_bipush (by decide) zd_3_11_108 ?_
      refine zz_aload_n (x := 1076) rfl zd_3_11_110 ?_
      refine zz_callVI [] zd_3_11_111 zk_Compiler_122 zT_1076 (zz_ltn hn rfl) rfl rfl ⟨Nat.le_of_ble_eq_true rfl, Nat.le_of_ble_eq_true rfl⟩ ⟨rfl, rfl⟩ (Nat.zero_le _) (Nat.zero_le _) (zc_tileHalf_3_13  S0 n hn G_S0 ) (fun v18 S17 hP => ?_)
      obtain ⟨rfl, o19⟩ := hP
      refine zz_callSJ [zi 9, zi v18] zd_3_11_114 zk_Compiler_132 rfl rfl ⟨Nat.le_of_ble_eq_true rfl, Nat.le_of_ble_eq_true rfl⟩ ⟨rfl, rfl⟩ (Nat.zero_le _) (Nat.zero_le _) (zc_bits_12_4 9 v18 S0 n hn G_S0 (by omega) (by omega)) (fun v21 S20 hP => ?_)
      obtain ⟨rfl, o22⟩ := hP
      refine zz_lor zd_3_11_117 (fun v23 hv23 ev23 => ?_)
      refine zz_bipush (by decide) zd_3_11_118 ?_
      refine zz_iload_n (x := p0) rfl zd_3_11_120 ?_
      refine zz_if_eq (by omega) zd_3_11_121 (fun c24 => ?_) (fun c24 => ?_)
      · refine zz_iload_n (x := 1) rfl zd_3_11_128 ?_
        refine zz_callSJ [zi 11, zi 1] zd_3_11_129 zk_Compiler_132 rfl rfl ⟨Nat.le_of_ble_eq_true rfl, Nat.le_of_ble_eq_true rfl⟩ ⟨rfl, rfl⟩ (Nat.zero_le _) (Nat.zero_le _) (zc_bits_12_4 11 1 S0 n hn G_S0 (by omega) (by omega)) (fun v26 S25 hP => ?_)
        obtain ⟨rfl, o27⟩ := hP
        refine zz_lor zd_3_11_132 (fun v28 hv28 ev28 => ?_)
        exact zz_lret zd_3_11_133 rfl (Nat.zero_le _) (Nat.zero_le _) ⟨_, _, rfl, rfl, by omega⟩
      · refine zz_iconst zd_3_11_124 ?_
        refine zz_goto zd_3_11_125 ?_
        refine zz_callSJ [zi 11, zi 0] zd_3_11_129 zk_Compiler_132 rfl rfl ⟨Nat.le_of_ble_eq_true rfl, Nat.le_of_ble_eq_true rfl⟩ ⟨rfl, rfl⟩ (Nat.zero_le _) (Nat.zero_le _) (zc_bits_12_4 11 0 S0 n hn G_S0 (by omega) (by omega)) (fun v30 S29 hP => ?_)
        obtain ⟨rfl, o31⟩ := hP
        refine zz_lor zd_3_11_132 (fun v32 hv32 ev32 => ?_)
        exact zz_lret zd_3_11_133 rfl (Nat.zero_le _) (Nat.zero_le _) ⟨_, _, rfl, rfl, by omega⟩
    · refine zz_iconst zd_3_11_79 ?_
      refine zz_goto zd_3_11_80 ?_
      refine zz_istore_n [some (.ref 1076), some (zi p0), some (zi 2)] zd_3_11_84 (by decide) rfl ?_
      refine zz_bipush (by decide) zd_3_11_85 ?_
      refine zz_aload_n (x := 1076) rfl zd_3_11_87 ?_
      have g33 := zz_G.r G_S0 1076 11 (-2147483648) 2147483647 rfl rfl
      refine zz_geti (z := S0 1076 11) zd_3_11_88 zf_Compiler_91 zT_1076 rfl (zz_ltn hn rfl) rfl ?_
      refine zz_aload_n (x := 1076) rfl zd_3_11_91 ?_
      have g34 := zz_G.r G_S0 1076 8 (-2147483648) 2147483647 rfl rfl
      refine zz_geti (z := S0 1076 8) zd_3_11_92 zf_Compiler_82 zT_1076 rfl (zz_ltn hn rfl) rfl ?_
      refine zz_callSJ [zi 6, zi (S0 1076 11), zi (S0 1076 8)] zd_3_11_95 zk_Compiler_128 rfl rfl ⟨Nat.le_of_ble_eq_true rfl, Nat.le_of_ble_eq_true rfl⟩ ⟨rfl, rfl⟩ (Nat.zero_le _) (Nat.zero_le _) (zc_shaped_12_6 6 (S0 1076 11) (S0 1076 8) S0 n hn G_S0 (by omega) (by omega) (by omega)) (fun v36 S35 hP => ?_)
      obtain ⟨rfl, o37⟩ := hP
      refine zz_bipush (by decide) zd_3_11_98 ?_
      refine zz_aload_n (x := 1076) rfl zd_3_11_100 ?_
      refine zz_callVI [] zd_3_11_101 zk_Compiler_175 zT_1076 (zz_ltn hn rfl) rfl rfl ⟨Nat.le_of_ble_eq_true rfl, Nat.le_of_ble_eq_true rfl⟩ ⟨rfl, rfl⟩ (Nat.zero_le _) (Nat.zero_le _) (zc_groupHalf_3_14  S0 n hn G_S0 ) (fun v39 S38 hP => ?_)
      obtain ⟨rfl, o40⟩ := hP
      refine zz_callSJ [zi 8, zi v39] zd_3_11_104 zk_Compiler_132 rfl rfl ⟨Nat.le_of_ble_eq_true rfl, Nat.le_of_ble_eq_true rfl⟩ ⟨rfl, rfl⟩ (Nat.zero_le _) (Nat.zero_le _) (zc_bits_12_4 8 v39 S0 n hn G_S0 (by omega) (by omega)) (fun v42 S41 hP => ?_)
      obtain ⟨rfl, o43⟩ := hP
      refine zz_lor zd_3_11_107 (fun v44 hv44 ev44 => ?_)
      refine zz_bipush (by decide) zd_3_11_108 ?_
      refine zz_aload_n (x := 1076) rfl zd_3_11_110 ?_
      refine zz_callVI [] zd_3_11_111 zk_Compiler_122 zT_1076 (zz_ltn hn rfl) rfl rfl ⟨Nat.le_of_ble_eq_true rfl, Nat.le_of_ble_eq_true rfl⟩ ⟨rfl, rfl⟩ (Nat.zero_le _) (Nat.zero_le _) (zc_tileHalf_3_13  S0 n hn G_S0 ) (fun v46 S45 hP => ?_)
      obtain ⟨rfl, o47⟩ := hP
      refine zz_callSJ [zi 9, zi v46] zd_3_11_114 zk_Compiler_132 rfl rfl ⟨Nat.le_of_ble_eq_true rfl, Nat.le_of_ble_eq_true rfl⟩ ⟨rfl, rfl⟩ (Nat.zero_le _) (Nat.zero_le _) (zc_bits_12_4 9 v46 S0 n hn G_S0 (by omega) (by omega)) (fun v49 S48 hP => ?_)
      obtain ⟨rfl, o50⟩ := hP
      refine zz_lor zd_3_11_117 (fun v51 hv51 ev51 => ?_)
      refine zz_bipush (by decide) zd_3_11_118 ?_
      refine zz_iload_n (x := p0) rfl zd_3_11_120 ?_
      refine zz_if_eq (by omega) zd_3_11_121 (fun c52 => ?_) (fun c52 => ?_)
      · refine zz_iload_n (x := 2) rfl zd_3_11_128 ?_
        refine zz_callSJ [zi 11, zi 2] zd_3_11_129 zk_Compiler_132 rfl rfl ⟨Nat.le_of_ble_eq_true rfl, Nat.le_of_ble_eq_true rfl⟩ ⟨rfl, rfl⟩ (Nat.zero_le _) (Nat.zero_le _) (zc_bits_12_4 11 2 S0 n hn G_S0 (by omega) (by omega)) (fun v54 S53 hP => ?_)
        obtain ⟨rfl, o55⟩ := hP
        refine zz_lor zd_3_11_132 (fun v56 hv56 ev56 => ?_)
        exact zz_lret zd_3_11_133 rfl (Nat.zero_le _) (Nat.zero_le _) ⟨_, _, rfl, rfl, by omega⟩
      · refine zz_iconst zd_3_11_124 ?_
        refine zz_goto zd_3_11_125 ?_
        refine zz_callSJ [zi 11, zi 0] zd_3_11_129 zk_Compiler_132 rfl rfl ⟨Nat.le_of_ble_eq_true rfl, Nat.le_of_ble_eq_true rfl⟩ ⟨rfl, rfl⟩ (Nat.zero_le _) (Nat.zero_le _) (zc_bits_12_4 11 0 S0 n hn G_S0 (by omega) (by omega)) (fun v58 S57 hP => ?_)
        obtain ⟨rfl, o59⟩ := hP
        refine zz_lor zd_3_11_132 (fun v60 hv60 ev60 => ?_)
        exact zz_lret zd_3_11_133 rfl (Nat.zero_le _) (Nat.zero_le _) ⟨_, _, rfl, rfl, by omega⟩
  · refine zz_iconst zd_3_11_11 ?_
    refine zz_aload_n (x := 1076) rfl zd_3_11_12 ?_
    have g61 := zz_G.r G_S0 1076 11 (-2147483648) 2147483647 rfl rfl
    refine zz_geti (z := S0 1076 11) zd_3_11_13 zf_Compiler_91 zT_1076 rfl (zz_ltn hn rfl) rfl ?_
    refine zz_aload_n (x := 1076) rfl zd_3_11_16 ?_
    have g62 := zz_G.r G_S0 1076 8 (-2147483648) 2147483647 rfl rfl
    refine zz_geti (z := S0 1076 8) zd_3_11_17 zf_Compiler_82 zT_1076 rfl (zz_ltn hn rfl) rfl ?_
    refine zz_callSJ [zi 5, zi (S0 1076 11), zi (S0 1076 8)] zd_3_11_20 zk_Compiler_128 rfl rfl ⟨Nat.le_of_ble_eq_true rfl, Nat.le_of_ble_eq_true rfl⟩ ⟨rfl, rfl⟩ (Nat.zero_le _) (Nat.zero_le _) (zc_shaped_12_6 5 (S0 1076 11) (S0 1076 8) S0 n hn G_S0 (by omega) (by omega) (by omega)) (fun v64 S63 hP => ?_)
    obtain ⟨rfl, o65⟩ := hP
    refine zz_bipush (by decide) zd_3_11_23 ?_
    refine zz_aload_n (x := 1076) rfl zd_3_11_25 ?_
    refine zz_callVI [] zd_3_11_26 zk_Compiler_175 zT_1076 (zz_ltn hn rfl) rfl rfl ⟨Nat.le_of_ble_eq_true rfl, Nat.le_of_ble_eq_true rfl⟩ ⟨rfl, rfl⟩ (Nat.zero_le _) (Nat.zero_le _) (zc_groupHalf_3_14  S0 n hn G_S0 ) (fun v67 S66 hP => ?_)
    obtain ⟨rfl, o68⟩ := hP
    refine zz_callSJ [zi 8, zi v67] zd_3_11_29 zk_Compiler_132 rfl rfl ⟨Nat.le_of_ble_eq_true rfl, Nat.le_of_ble_eq_true rfl⟩ ⟨rfl, rfl⟩ (Nat.zero_le _) (Nat.zero_le _) (zc_bits_12_4 8 v67 S0 n hn G_S0 (by omega) (by omega)) (fun v70 S69 hP => ?_)
    obtain ⟨rfl, o71⟩ := hP
    refine zz_lor zd_3_11_32 (fun v72 hv72 ev72 => ?_)
    refine zz_bipush (by decide) zd_3_11_33 ?_
    refine zz_aload_n (x := 1076) rfl zd_3_11_35 ?_
    refine zz_callVI [] zd_3_11_36 zk_Compiler_175 zT_1076 (zz_ltn hn rfl) rfl rfl ⟨Nat.le_of_ble_eq_true rfl, Nat.le_of_ble_eq_true rfl⟩ ⟨rfl, rfl⟩ (Nat.zero_le _) (Nat.zero_le _) (zc_groupHalf_3_14  S0 n hn G_S0 ) (fun v74 S73 hP => ?_)
    obtain ⟨rfl, o75⟩ := hP
    refine zz_callSJ [zi 10, zi v74] zd_3_11_39 zk_Compiler_132 rfl rfl ⟨Nat.le_of_ble_eq_true rfl, Nat.le_of_ble_eq_true rfl⟩ ⟨rfl, rfl⟩ (Nat.zero_le _) (Nat.zero_le _) (zc_bits_12_4 10 v74 S0 n hn G_S0 (by omega) (by omega)) (fun v77 S76 hP => ?_)
    obtain ⟨rfl, o78⟩ := hP
    refine zz_lor zd_3_11_42 (fun v79 hv79 ev79 => ?_)
    refine zz_bipush (by decide) zd_3_11_43 ?_
    refine zz_aload_n (x := 1076) rfl zd_3_11_45 ?_
    refine zz_callVI [] zd_3_11_46 zk_Compiler_122 zT_1076 (zz_ltn hn rfl) rfl rfl ⟨Nat.le_of_ble_eq_true rfl, Nat.le_of_ble_eq_true rfl⟩ ⟨rfl, rfl⟩ (Nat.zero_le _) (Nat.zero_le _) (zc_tileHalf_3_13  S0 n hn G_S0 ) (fun v81 S80 hP => ?_)
    obtain ⟨rfl, o82⟩ := hP
    refine zz_callSJ [zi 9, zi v81] zd_3_11_49 zk_Compiler_132 rfl rfl ⟨Nat.le_of_ble_eq_true rfl, Nat.le_of_ble_eq_true rfl⟩ ⟨rfl, rfl⟩ (Nat.zero_le _) (Nat.zero_le _) (zc_bits_12_4 9 v81 S0 n hn G_S0 (by omega) (by omega)) (fun v84 S83 hP => ?_)
    obtain ⟨rfl, o85⟩ := hP
    refine zz_lor zd_3_11_52 (fun v86 hv86 ev86 => ?_)
    refine zz_bipush (by decide) zd_3_11_53 ?_
    refine zz_iconst zd_3_11_55 ?_
    refine zz_aload_n (x := 1076) rfl zd_3_11_56 ?_
    have g87 := zz_G.r G_S0 1076 16 (-2147483648) 2147483647 rfl rfl
    refine zz_geti (z := S0 1076 16) zd_3_11_57 zf_Compiler_115 zT_1076 rfl (zz_ltn hn rfl) rfl ?_
    refine zz_imul zd_3_11_60 ?_
    refine zz_nrm (fun v88 hv88 ev88 => ?_)
    refine zz_iconst zd_3_11_61 ?_
    refine zz_iadd zd_3_11_62 ?_
    refine zz_nrm (fun v89 hv89 ev89 => ?_)
    refine zz_callSJ [zi 11, zi v89] zd_3_11_63 zk_Compiler_132 rfl rfl ⟨Nat.le_of_ble_eq_true rfl, Nat.le_of_ble_eq_true rfl⟩ ⟨rfl, rfl⟩ (Nat.zero_le _) (Nat.zero_le _) (zc_bits_12_4 11 v89 S0 n hn G_S0 (by omega) (by omega)) (fun v91 S90 hP => ?_)
    obtain ⟨rfl, o92⟩ := hP
    refine zz_lor zd_3_11_66 (fun v93 hv93 ev93 => ?_)
    exact zz_lret zd_3_11_67 rfl (Nat.zero_le _) (Nat.zero_le _) ⟨_, _, rfl, rfl, by omega⟩
theorem zk_Compiler_167 : mm_Vl "TensorForge$Compiler" 167 9 1 zy_workOf_3_11 := ⟨zyw_workOf_3_11, (R_Compiler, F_Compiler, 17), rfl, mm_tb_1 1471 (by decide +kernel) rfl, mm_tb_1 1473 (by decide +kernel) rfl, mm_tb_s 74 (by decide +kernel) rfl⟩
abbrev zy_loadMet_3_7 : mm_Y := (⟨"TensorForge$Compiler", "loadMet", "(I)V"⟩, prog_3_method_7_code, 5, none)
theorem zyw_loadMet_3_7 : mm_Yw zy_loadMet_3_7 1 := ⟨mm_tb_1 1449 (by decide +kernel) rfl, mm_tb_1 10 (by decide +kernel) rfl, ⟨by decide, by decide⟩, by decide +kernel⟩
theorem zf_Compiler_182 : mm_Fl "TensorForge$Compiler" 182 2 5 .int false := ⟨R_Layer, F_Layer, 15, t_Layer, rfl, i_Layer, by decide, mm_tb_1 76 (by decide +kernel) rfl, rfl, t_Layer_ok, n_Layer, rfl, by decide +kernel⟩
theorem zf_Compiler_185 : mm_Fl "TensorForge$Compiler" 185 2 6 .int false := ⟨R_Layer, F_Layer, 15, t_Layer, rfl, i_Layer, by decide, mm_tb_1 81 (by decide +kernel) rfl, rfl, t_Layer_ok, n_Layer, rfl, by decide +kernel⟩
abbrev zy_clearPlaces_3_9 : mm_Y := (⟨"TensorForge$Compiler", "clearPlaces", "(II)V"⟩, prog_3_method_9_code, 3, none)
theorem zyw_clearPlaces_3_9 : mm_Yw zy_clearPlaces_3_9 2 := ⟨mm_tb_1 1453 (by decide +kernel) rfl, mm_tb_1 10 (by decide +kernel) rfl, ⟨by decide, by decide⟩, by decide +kernel⟩
theorem zg_3_5_132 : zq_at zy_makeGroup_3_5.2.1 132 4 ∧ zq_at zy_makeGroup_3_5.2.1 133 184 ∧ zq_at zy_makeGroup_3_5.2.1 134 0 ∧ zq_at zy_makeGroup_3_5.2.1 135 139 ∧ zq_at zy_makeGroup_3_5.2.1 136 129 ∧ zq_at zy_makeGroup_3_5.2.1 137 55 ∧ zq_at zy_makeGroup_3_5.2.1 138 4 ∧ zq_at zy_makeGroup_3_5.2.1 139 42 ∧ zq_at zy_makeGroup_3_5.2.1 140 28 ∧ zq_at zy_makeGroup_3_5.2.1 141 153 ∧ zq_at zy_makeGroup_3_5.2.1 142 0 ∧ zq_at zy_makeGroup_3_5.2.1 143 8 ∧ zq_at zy_makeGroup_3_5.2.1 149 22 ∧ zq_at zy_makeGroup_3_5.2.1 150 4 ∧ zq_at zy_makeGroup_3_5.2.1 151 6 ∧ zq_at zy_makeGroup_3_5.2.1 152 184 ∧ zq_at zy_makeGroup_3_5.2.1 153 0 ∧ zq_at zy_makeGroup_3_5.2.1 154 139 ∧ zq_at zy_makeGroup_3_5.2.1 155 129 ∧ zq_at zy_makeGroup_3_5.2.1 156 182 ∧ zq_at zy_makeGroup_3_5.2.1 157 0 ∧ zq_at zy_makeGroup_3_5.2.1 158 143 ∧ zq_at zy_makeGroup_3_5.2.1 159 177 := by decide +kernel
theorem zd_3_5_132 : zz_D zy_makeGroup_3_5 132 (.iconst 1) 1 133 := ⟨zq_4 zg_3_5_132.1, rfl⟩
theorem zd_3_5_133 : zz_D zy_makeGroup_3_5 133 (.invokestatic 139) 3 136 := ⟨zq_184 zg_3_5_132.2.1 zg_3_5_132.2.2.1 zg_3_5_132.2.2.2.1 rfl, rfl⟩
theorem zd_3_5_136 : zz_D zy_makeGroup_3_5 136 (.lor) 1 137 := ⟨zq_129 zg_3_5_132.2.2.2.2.1, rfl⟩
theorem zd_3_5_137 : zz_D zy_makeGroup_3_5 137 (.lstore 4) 2 139 := ⟨zq_55 zg_3_5_132.2.2.2.2.2.1 zg_3_5_132.2.2.2.2.2.2.1, rfl⟩
theorem zd_3_5_139 : zz_D zy_makeGroup_3_5 139 (.aload_n 0) 1 140 := ⟨zq_42 zg_3_5_132.2.2.2.2.2.2.2.1, rfl⟩
theorem zd_3_5_140 : zz_D zy_makeGroup_3_5 140 (.iload_n 2) 1 141 := ⟨zq_28 zg_3_5_132.2.2.2.2.2.2.2.2.1, rfl⟩
theorem zd_3_5_141 : zz_B zy_makeGroup_3_5 141 (Instr.ifCond .eq) 149 144 := ⟨8, zq_153 zg_3_5_132.2.2.2.2.2.2.2.2.2.1 zg_3_5_132.2.2.2.2.2.2.2.2.2.2.1 zg_3_5_132.2.2.2.2.2.2.2.2.2.2.2.1 (by decide), rfl, rfl⟩
theorem zd_3_5_149 : zz_D zy_makeGroup_3_5 149 (.lload 4) 2 151 := ⟨zq_22 zg_3_5_132.2.2.2.2.2.2.2.2.2.2.2.2.1 zg_3_5_132.2.2.2.2.2.2.2.2.2.2.2.2.2.1, rfl⟩
theorem zd_3_5_151 : zz_D zy_makeGroup_3_5 151 (.iconst 3) 1 152 := ⟨zq_6 zg_3_5_132.2.2.2.2.2.2.2.2.2.2.2.2.2.2.1, rfl⟩
theorem zd_3_5_152 : zz_D zy_makeGroup_3_5 152 (.invokestatic 139) 3 155 := ⟨zq_184 zg_3_5_132.2.2.2.2.2.2.2.2.2.2.2.2.2.2.2.1 zg_3_5_132.2.2.2.2.2.2.2.2.2.2.2.2.2.2.2.2.1 zg_3_5_132.2.2.2.2.2.2.2.2.2.2.2.2.2.2.2.2.2.1 rfl, rfl⟩
theorem zd_3_5_155 : zz_D zy_makeGroup_3_5 155 (.lor) 1 156 := ⟨zq_129 zg_3_5_132.2.2.2.2.2.2.2.2.2.2.2.2.2.2.2.2.2.2.1, rfl⟩
theorem zd_3_5_156 : zz_D zy_makeGroup_3_5 156 (.invokevirtual 143) 3 159 := ⟨zq_182 zg_3_5_132.2.2.2.2.2.2.2.2.2.2.2.2.2.2.2.2.2.2.2.1 zg_3_5_132.2.2.2.2.2.2.2.2.2.2.2.2.2.2.2.2.2.2.2.2.1 zg_3_5_132.2.2.2.2.2.2.2.2.2.2.2.2.2.2.2.2.2.2.2.2.2.1 rfl, rfl⟩
theorem zd_3_5_159 : zz_D zy_makeGroup_3_5 159 (.return_) 1 160 := ⟨zq_177 zg_3_5_132.2.2.2.2.2.2.2.2.2.2.2.2.2.2.2.2.2.2.2.2.2.2, rfl⟩
theorem zg_3_5_144 : zq_at zy_makeGroup_3_5.2.1 144 22 ∧ zq_at zy_makeGroup_3_5.2.1 145 4 ∧ zq_at zy_makeGroup_3_5.2.1 146 167 ∧ zq_at zy_makeGroup_3_5.2.1 147 0 ∧ zq_at zy_makeGroup_3_5.2.1 148 10 ∧ zq_at zy_makeGroup_3_5.2.1 110 42 ∧ zq_at zy_makeGroup_3_5.2.1 111 29 ∧ zq_at zy_makeGroup_3_5.2.1 112 5 ∧ zq_at zy_makeGroup_3_5.2.1 113 182 ∧ zq_at zy_makeGroup_3_5.2.1 114 0 ∧ zq_at zy_makeGroup_3_5.2.1 115 163 ∧ zq_at zy_makeGroup_3_5.2.1 61 42 ∧ zq_at zy_makeGroup_3_5.2.1 62 180 ∧ zq_at zy_makeGroup_3_5.2.1 63 0 ∧ zq_at zy_makeGroup_3_5.2.1 64 55 ∧ zq_at zy_makeGroup_3_5.2.1 65 167 ∧ zq_at zy_makeGroup_3_5.2.1 66 0 ∧ zq_at zy_makeGroup_3_5.2.1 67 7 ∧ zq_at zy_makeGroup_3_5.2.1 43 42 ∧ zq_at zy_makeGroup_3_5.2.1 44 42 ∧ zq_at zy_makeGroup_3_5.2.1 45 180 ∧ zq_at zy_makeGroup_3_5.2.1 46 0 ∧ zq_at zy_makeGroup_3_5.2.1 47 76 := by decide +kernel
theorem zd_3_5_144 : zz_D zy_makeGroup_3_5 144 (.lload 4) 2 146 := ⟨zq_22 zg_3_5_144.1 zg_3_5_144.2.1, rfl⟩
theorem zd_3_5_146 : zz_B zy_makeGroup_3_5 146 Instr.goto 156 149 := ⟨10, zq_167 zg_3_5_144.2.2.1 zg_3_5_144.2.2.2.1 zg_3_5_144.2.2.2.2.1 (by decide), rfl, rfl⟩
theorem zd_3_5_110 : zz_D zy_makeGroup_3_5 110 (.aload_n 0) 1 111 := ⟨zq_42 zg_3_5_144.2.2.2.2.2.1, rfl⟩
theorem zd_3_5_111 : zz_D zy_makeGroup_3_5 111 (.iload_n 3) 1 112 := ⟨zq_29 zg_3_5_144.2.2.2.2.2.2.1, rfl⟩
theorem zd_3_5_112 : zz_D zy_makeGroup_3_5 112 (.iconst 2) 1 113 := ⟨zq_5 zg_3_5_144.2.2.2.2.2.2.2.1, rfl⟩
theorem zd_3_5_113 : zz_D zy_makeGroup_3_5 113 (.invokevirtual 163) 3 116 := ⟨zq_182 zg_3_5_144.2.2.2.2.2.2.2.2.1 zg_3_5_144.2.2.2.2.2.2.2.2.2.1 zg_3_5_144.2.2.2.2.2.2.2.2.2.2.1 rfl, rfl⟩
theorem zd_3_5_61 : zz_D zy_makeGroup_3_5 61 (.aload_n 0) 1 62 := ⟨zq_42 zg_3_5_144.2.2.2.2.2.2.2.2.2.2.2.1, rfl⟩
theorem zd_3_5_62 : zz_D zy_makeGroup_3_5 62 (.getfield 55) 3 65 := ⟨zq_180 zg_3_5_144.2.2.2.2.2.2.2.2.2.2.2.2.1 zg_3_5_144.2.2.2.2.2.2.2.2.2.2.2.2.2.1 zg_3_5_144.2.2.2.2.2.2.2.2.2.2.2.2.2.2.1 rfl, rfl⟩
theorem zd_3_5_65 : zz_B zy_makeGroup_3_5 65 Instr.goto 72 68 := ⟨7, zq_167 zg_3_5_144.2.2.2.2.2.2.2.2.2.2.2.2.2.2.2.1 zg_3_5_144.2.2.2.2.2.2.2.2.2.2.2.2.2.2.2.2.1 zg_3_5_144.2.2.2.2.2.2.2.2.2.2.2.2.2.2.2.2.2.1 (by decide), rfl, rfl⟩
theorem zd_3_5_43 : zz_D zy_makeGroup_3_5 43 (.aload_n 0) 1 44 := ⟨zq_42 zg_3_5_144.2.2.2.2.2.2.2.2.2.2.2.2.2.2.2.2.2.2.1, rfl⟩
theorem zd_3_5_44 : zz_D zy_makeGroup_3_5 44 (.aload_n 0) 1 45 := ⟨zq_42 zg_3_5_144.2.2.2.2.2.2.2.2.2.2.2.2.2.2.2.2.2.2.2.1, rfl⟩
theorem zd_3_5_45 : zz_D zy_makeGroup_3_5 45 (.getfield 76) 3 48 := ⟨zq_180 zg_3_5_144.2.2.2.2.2.2.2.2.2.2.2.2.2.2.2.2.2.2.2.2.1 zg_3_5_144.2.2.2.2.2.2.2.2.2.2.2.2.2.2.2.2.2.2.2.2.2.1 zg_3_5_144.2.2.2.2.2.2.2.2.2.2.2.2.2.2.2.2.2.2.2.2.2.2 rfl, rfl⟩
theorem zg_3_5_48 : zq_at zy_makeGroup_3_5.2.1 48 182 ∧ zq_at zy_makeGroup_3_5.2.1 49 0 ∧ zq_at zy_makeGroup_3_5.2.1 50 155 := by decide +kernel
theorem zd_3_5_48 : zz_D zy_makeGroup_3_5 48 (.invokevirtual 155) 3 51 := ⟨zq_182 zg_3_5_48.1 zg_3_5_48.2.1 zg_3_5_48.2.2 rfl, rfl⟩
theorem zg_3_7_0 : zq_at zy_loadMet_3_7.2.1 0 42 ∧ zq_at zy_loadMet_3_7.2.1 1 180 ∧ zq_at zy_loadMet_3_7.2.1 2 0 ∧ zq_at zy_loadMet_3_7.2.1 3 51 ∧ zq_at zy_loadMet_3_7.2.1 4 180 ∧ zq_at zy_loadMet_3_7.2.1 5 0 ∧ zq_at zy_loadMet_3_7.2.1 6 182 ∧ zq_at zy_loadMet_3_7.2.1 7 42 ∧ zq_at zy_loadMet_3_7.2.1 8 180 ∧ zq_at zy_loadMet_3_7.2.1 9 0 ∧ zq_at zy_loadMet_3_7.2.1 10 85 ∧ zq_at zy_loadMet_3_7.2.1 11 104 ∧ zq_at zy_loadMet_3_7.2.1 12 42 ∧ zq_at zy_loadMet_3_7.2.1 13 180 ∧ zq_at zy_loadMet_3_7.2.1 14 0 ∧ zq_at zy_loadMet_3_7.2.1 15 106 ∧ zq_at zy_loadMet_3_7.2.1 16 96 ∧ zq_at zy_loadMet_3_7.2.1 17 42 ∧ zq_at zy_loadMet_3_7.2.1 18 180 ∧ zq_at zy_loadMet_3_7.2.1 19 0 ∧ zq_at zy_loadMet_3_7.2.1 20 51 ∧ zq_at zy_loadMet_3_7.2.1 21 180 ∧ zq_at zy_loadMet_3_7.2.1 22 0 ∧ zq_at zy_loadMet_3_7.2.1 23 185 := by decide +kernel
theorem zd_3_7_0 : zz_D zy_loadMet_3_7 0 (.aload_n 0) 1 1 := ⟨zq_42 zg_3_7_0.1, rfl⟩
theorem zd_3_7_1 : zz_D zy_loadMet_3_7 1 (.getfield 51) 3 4 := ⟨zq_180 zg_3_7_0.2.1 zg_3_7_0.2.2.1 zg_3_7_0.2.2.2.1 rfl, rfl⟩
theorem zd_3_7_4 : zz_D zy_loadMet_3_7 4 (.getfield 182) 3 7 := ⟨zq_180 zg_3_7_0.2.2.2.2.1 zg_3_7_0.2.2.2.2.2.1 zg_3_7_0.2.2.2.2.2.2.1 rfl, rfl⟩
theorem zd_3_7_7 : zz_D zy_loadMet_3_7 7 (.aload_n 0) 1 8 := ⟨zq_42 zg_3_7_0.2.2.2.2.2.2.2.1, rfl⟩
theorem zd_3_7_8 : zz_D zy_loadMet_3_7 8 (.getfield 85) 3 11 := ⟨zq_180 zg_3_7_0.2.2.2.2.2.2.2.2.1 zg_3_7_0.2.2.2.2.2.2.2.2.2.1 zg_3_7_0.2.2.2.2.2.2.2.2.2.2.1 rfl, rfl⟩
theorem zd_3_7_11 : zz_D zy_loadMet_3_7 11 (.imul) 1 12 := ⟨zq_104 zg_3_7_0.2.2.2.2.2.2.2.2.2.2.2.1, rfl⟩
theorem zd_3_7_12 : zz_D zy_loadMet_3_7 12 (.aload_n 0) 1 13 := ⟨zq_42 zg_3_7_0.2.2.2.2.2.2.2.2.2.2.2.2.1, rfl⟩
theorem zd_3_7_13 : zz_D zy_loadMet_3_7 13 (.getfield 106) 3 16 := ⟨zq_180 zg_3_7_0.2.2.2.2.2.2.2.2.2.2.2.2.2.1 zg_3_7_0.2.2.2.2.2.2.2.2.2.2.2.2.2.2.1 zg_3_7_0.2.2.2.2.2.2.2.2.2.2.2.2.2.2.2.1 rfl, rfl⟩
theorem zd_3_7_16 : zz_D zy_loadMet_3_7 16 (.iadd) 1 17 := ⟨zq_96 zg_3_7_0.2.2.2.2.2.2.2.2.2.2.2.2.2.2.2.2.1, rfl⟩
theorem zd_3_7_17 : zz_D zy_loadMet_3_7 17 (.aload_n 0) 1 18 := ⟨zq_42 zg_3_7_0.2.2.2.2.2.2.2.2.2.2.2.2.2.2.2.2.2.1, rfl⟩
theorem zd_3_7_18 : zz_D zy_loadMet_3_7 18 (.getfield 51) 3 21 := ⟨zq_180 zg_3_7_0.2.2.2.2.2.2.2.2.2.2.2.2.2.2.2.2.2.2.1 zg_3_7_0.2.2.2.2.2.2.2.2.2.2.2.2.2.2.2.2.2.2.2.1 zg_3_7_0.2.2.2.2.2.2.2.2.2.2.2.2.2.2.2.2.2.2.2.2.1 rfl, rfl⟩
theorem zd_3_7_21 : zz_D zy_loadMet_3_7 21 (.getfield 185) 3 24 := ⟨zq_180 zg_3_7_0.2.2.2.2.2.2.2.2.2.2.2.2.2.2.2.2.2.2.2.2.2.1 zg_3_7_0.2.2.2.2.2.2.2.2.2.2.2.2.2.2.2.2.2.2.2.2.2.2.1 zg_3_7_0.2.2.2.2.2.2.2.2.2.2.2.2.2.2.2.2.2.2.2.2.2.2.2 rfl, rfl⟩
theorem zg_3_7_24 : zq_at zy_loadMet_3_7.2.1 24 100 ∧ zq_at zy_loadMet_3_7.2.1 25 61 ∧ zq_at zy_loadMet_3_7.2.1 26 28 ∧ zq_at zy_loadMet_3_7.2.1 27 155 ∧ zq_at zy_loadMet_3_7.2.1 28 0 ∧ zq_at zy_loadMet_3_7.2.1 29 14 ∧ zq_at zy_loadMet_3_7.2.1 41 42 ∧ zq_at zy_loadMet_3_7.2.1 42 3 ∧ zq_at zy_loadMet_3_7.2.1 43 42 ∧ zq_at zy_loadMet_3_7.2.1 44 180 ∧ zq_at zy_loadMet_3_7.2.1 45 0 ∧ zq_at zy_loadMet_3_7.2.1 46 91 ∧ zq_at zy_loadMet_3_7.2.1 47 182 ∧ zq_at zy_loadMet_3_7.2.1 48 0 ∧ zq_at zy_loadMet_3_7.2.1 49 188 := by decide +kernel
theorem zd_3_7_24 : zz_D zy_loadMet_3_7 24 (.isub) 1 25 := ⟨zq_100 zg_3_7_24.1, rfl⟩
theorem zd_3_7_25 : zz_D zy_loadMet_3_7 25 (.istore_n 2) 1 26 := ⟨zq_61 zg_3_7_24.2.1, rfl⟩
theorem zd_3_7_26 : zz_D zy_loadMet_3_7 26 (.iload_n 2) 1 27 := ⟨zq_28 zg_3_7_24.2.2.1, rfl⟩
theorem zd_3_7_27 : zz_B zy_loadMet_3_7 27 (Instr.ifCond .lt) 41 30 := ⟨14, zq_155 zg_3_7_24.2.2.2.1 zg_3_7_24.2.2.2.2.1 zg_3_7_24.2.2.2.2.2.1 (by decide), rfl, rfl⟩
theorem zd_3_7_41 : zz_D zy_loadMet_3_7 41 (.aload_n 0) 1 42 := ⟨zq_42 zg_3_7_24.2.2.2.2.2.2.1, rfl⟩
theorem zd_3_7_42 : zz_D zy_loadMet_3_7 42 (.iconst 0) 1 43 := ⟨zq_3 zg_3_7_24.2.2.2.2.2.2.2.1, rfl⟩
theorem zd_3_7_43 : zz_D zy_loadMet_3_7 43 (.aload_n 0) 1 44 := ⟨zq_42 zg_3_7_24.2.2.2.2.2.2.2.2.1, rfl⟩
theorem zd_3_7_44 : zz_D zy_loadMet_3_7 44 (.getfield 91) 3 47 := ⟨zq_180 zg_3_7_24.2.2.2.2.2.2.2.2.2.1 zg_3_7_24.2.2.2.2.2.2.2.2.2.2.1 zg_3_7_24.2.2.2.2.2.2.2.2.2.2.2.1 rfl, rfl⟩
theorem zd_3_7_47 : zz_D zy_loadMet_3_7 47 (.invokevirtual 188) 3 50 := ⟨zq_182 zg_3_7_24.2.2.2.2.2.2.2.2.2.2.2.2.1 zg_3_7_24.2.2.2.2.2.2.2.2.2.2.2.2.2.1 zg_3_7_24.2.2.2.2.2.2.2.2.2.2.2.2.2.2 rfl, rfl⟩
theorem zg_3_9_0 : zq_at zy_clearPlaces_3_9.2.1 0 28 ∧ zq_at zy_clearPlaces_3_9.2.1 1 27 ∧ zq_at zy_clearPlaces_3_9.2.1 2 164 ∧ zq_at zy_clearPlaces_3_9.2.1 3 0 ∧ zq_at zy_clearPlaces_3_9.2.1 4 35 ∧ zq_at zy_clearPlaces_3_9.2.1 37 177 ∧ zq_at zy_clearPlaces_3_9.2.1 5 42 ∧ zq_at zy_clearPlaces_3_9.2.1 6 6 ∧ zq_at zy_clearPlaces_3_9.2.1 7 28 ∧ zq_at zy_clearPlaces_3_9.2.1 8 27 ∧ zq_at zy_clearPlaces_3_9.2.1 9 100 ∧ zq_at zy_clearPlaces_3_9.2.1 10 42 ∧ zq_at zy_clearPlaces_3_9.2.1 11 180 ∧ zq_at zy_clearPlaces_3_9.2.1 12 0 ∧ zq_at zy_clearPlaces_3_9.2.1 13 115 ∧ zq_at zy_clearPlaces_3_9.2.1 14 184 ∧ zq_at zy_clearPlaces_3_9.2.1 15 0 ∧ zq_at zy_clearPlaces_3_9.2.1 16 128 ∧ zq_at zy_clearPlaces_3_9.2.1 17 16 ∧ zq_at zy_clearPlaces_3_9.2.1 18 8 ∧ zq_at zy_clearPlaces_3_9.2.1 19 42 ∧ zq_at zy_clearPlaces_3_9.2.1 20 182 ∧ zq_at zy_clearPlaces_3_9.2.1 21 0 ∧ zq_at zy_clearPlaces_3_9.2.1 22 175 := by decide +kernel
theorem zd_3_9_0 : zz_D zy_clearPlaces_3_9 0 (.iload_n 2) 1 1 := ⟨zq_28 zg_3_9_0.1, rfl⟩
theorem zd_3_9_1 : zz_D zy_clearPlaces_3_9 1 (.iload_n 1) 1 2 := ⟨zq_27 zg_3_9_0.2.1, rfl⟩
theorem zd_3_9_2 : zz_B zy_clearPlaces_3_9 2 (Instr.if_icmp .le) 37 5 := ⟨35, zq_164 zg_3_9_0.2.2.1 zg_3_9_0.2.2.2.1 zg_3_9_0.2.2.2.2.1 (by decide), rfl, rfl⟩
theorem zd_3_9_37 : zz_D zy_clearPlaces_3_9 37 (.return_) 1 38 := ⟨zq_177 zg_3_9_0.2.2.2.2.2.1, rfl⟩
theorem zd_3_9_5 : zz_D zy_clearPlaces_3_9 5 (.aload_n 0) 1 6 := ⟨zq_42 zg_3_9_0.2.2.2.2.2.2.1, rfl⟩
theorem zd_3_9_6 : zz_D zy_clearPlaces_3_9 6 (.iconst 3) 1 7 := ⟨zq_6 zg_3_9_0.2.2.2.2.2.2.2.1, rfl⟩
theorem zd_3_9_7 : zz_D zy_clearPlaces_3_9 7 (.iload_n 2) 1 8 := ⟨zq_28 zg_3_9_0.2.2.2.2.2.2.2.2.1, rfl⟩
theorem zd_3_9_8 : zz_D zy_clearPlaces_3_9 8 (.iload_n 1) 1 9 := ⟨zq_27 zg_3_9_0.2.2.2.2.2.2.2.2.2.1, rfl⟩
theorem zd_3_9_9 : zz_D zy_clearPlaces_3_9 9 (.isub) 1 10 := ⟨zq_100 zg_3_9_0.2.2.2.2.2.2.2.2.2.2.1, rfl⟩
theorem zd_3_9_10 : zz_D zy_clearPlaces_3_9 10 (.aload_n 0) 1 11 := ⟨zq_42 zg_3_9_0.2.2.2.2.2.2.2.2.2.2.2.1, rfl⟩
theorem zd_3_9_11 : zz_D zy_clearPlaces_3_9 11 (.getfield 115) 3 14 := ⟨zq_180 zg_3_9_0.2.2.2.2.2.2.2.2.2.2.2.2.1 zg_3_9_0.2.2.2.2.2.2.2.2.2.2.2.2.2.1 zg_3_9_0.2.2.2.2.2.2.2.2.2.2.2.2.2.2.1 rfl, rfl⟩
theorem zd_3_9_14 : zz_D zy_clearPlaces_3_9 14 (.invokestatic 128) 3 17 := ⟨zq_184 zg_3_9_0.2.2.2.2.2.2.2.2.2.2.2.2.2.2.2.1 zg_3_9_0.2.2.2.2.2.2.2.2.2.2.2.2.2.2.2.2.1 zg_3_9_0.2.2.2.2.2.2.2.2.2.2.2.2.2.2.2.2.2.1 rfl, rfl⟩
theorem zd_3_9_17 : zz_D zy_clearPlaces_3_9 17 (.bipush 8) 2 19 := ⟨zq_16 zg_3_9_0.2.2.2.2.2.2.2.2.2.2.2.2.2.2.2.2.2.2.1 zg_3_9_0.2.2.2.2.2.2.2.2.2.2.2.2.2.2.2.2.2.2.2.1 (by decide), rfl⟩
theorem zd_3_9_19 : zz_D zy_clearPlaces_3_9 19 (.aload_n 0) 1 20 := ⟨zq_42 zg_3_9_0.2.2.2.2.2.2.2.2.2.2.2.2.2.2.2.2.2.2.2.2.1, rfl⟩
theorem zd_3_9_20 : zz_D zy_clearPlaces_3_9 20 (.invokevirtual 175) 3 23 := ⟨zq_182 zg_3_9_0.2.2.2.2.2.2.2.2.2.2.2.2.2.2.2.2.2.2.2.2.2.1 zg_3_9_0.2.2.2.2.2.2.2.2.2.2.2.2.2.2.2.2.2.2.2.2.2.2.1 zg_3_9_0.2.2.2.2.2.2.2.2.2.2.2.2.2.2.2.2.2.2.2.2.2.2.2 rfl, rfl⟩
theorem zg_3_9_23 : zq_at zy_clearPlaces_3_9.2.1 23 27 ∧ zq_at zy_clearPlaces_3_9.2.1 24 42 ∧ zq_at zy_clearPlaces_3_9.2.1 25 180 ∧ zq_at zy_clearPlaces_3_9.2.1 26 0 ∧ zq_at zy_clearPlaces_3_9.2.1 27 21 ∧ zq_at zy_clearPlaces_3_9.2.1 28 104 ∧ zq_at zy_clearPlaces_3_9.2.1 29 96 ∧ zq_at zy_clearPlaces_3_9.2.1 30 184 ∧ zq_at zy_clearPlaces_3_9.2.1 31 0 ∧ zq_at zy_clearPlaces_3_9.2.1 32 132 ∧ zq_at zy_clearPlaces_3_9.2.1 33 129 ∧ zq_at zy_clearPlaces_3_9.2.1 34 182 ∧ zq_at zy_clearPlaces_3_9.2.1 35 0 ∧ zq_at zy_clearPlaces_3_9.2.1 36 143 := by decide +kernel
theorem zd_3_9_23 : zz_D zy_clearPlaces_3_9 23 (.iload_n 1) 1 24 := ⟨zq_27 zg_3_9_23.1, rfl⟩
theorem zd_3_9_24 : zz_D zy_clearPlaces_3_9 24 (.aload_n 0) 1 25 := ⟨zq_42 zg_3_9_23.2.1, rfl⟩
theorem zd_3_9_25 : zz_D zy_clearPlaces_3_9 25 (.getfield 21) 3 28 := ⟨zq_180 zg_3_9_23.2.2.1 zg_3_9_23.2.2.2.1 zg_3_9_23.2.2.2.2.1 rfl, rfl⟩
theorem zd_3_9_28 : zz_D zy_clearPlaces_3_9 28 (.imul) 1 29 := ⟨zq_104 zg_3_9_23.2.2.2.2.2.1, rfl⟩
theorem zd_3_9_29 : zz_D zy_clearPlaces_3_9 29 (.iadd) 1 30 := ⟨zq_96 zg_3_9_23.2.2.2.2.2.2.1, rfl⟩
theorem zd_3_9_30 : zz_D zy_clearPlaces_3_9 30 (.invokestatic 132) 3 33 := ⟨zq_184 zg_3_9_23.2.2.2.2.2.2.2.1 zg_3_9_23.2.2.2.2.2.2.2.2.1 zg_3_9_23.2.2.2.2.2.2.2.2.2.1 rfl, rfl⟩
theorem zd_3_9_33 : zz_D zy_clearPlaces_3_9 33 (.lor) 1 34 := ⟨zq_129 zg_3_9_23.2.2.2.2.2.2.2.2.2.2.1, rfl⟩
theorem zd_3_9_34 : zz_D zy_clearPlaces_3_9 34 (.invokevirtual 143) 3 37 := ⟨zq_182 zg_3_9_23.2.2.2.2.2.2.2.2.2.2.2.1 zg_3_9_23.2.2.2.2.2.2.2.2.2.2.2.2.1 zg_3_9_23.2.2.2.2.2.2.2.2.2.2.2.2.2 rfl, rfl⟩

theorem zb_init_14_1_c1079_1080_8 {g : mm_G} {l : Launch} (S0 S102 : zz_S) (G_S102 : zz_Gm [1120, 1119, 1118, 1117, 1116, 1115, 1114, 1113, 1112, 1111, 1110, 1109, 1108, 1107, 1106, 1105, 1104, 1103, 1102, 1101, 1100, 1099, 1098, 1097, 1096, 1095, 1094, 1093, 1092, 1091, 1090, 1089, 1088, 1087, 1086, 1085, 1084, 1083, 1082, 1081, 1080, 1079] [] S102) (F_S102 : zz_fr [(1079, 36), (1102, 0), (1103, 0), (1104, 0), (1105, 0), (1105, 1)] [1079, 1080, 1081, 1082, 1083, 1084, 1085, 1086, 1087, 1088, 1089, 1090, 1091, 1092, 1093, 1094, 1095, 1096, 1097, 1098, 1099, 1100, 1101, 1102, 1103, 1104, 1105, 1106, 1107, 1108, 1109, 1110, 1111, 1112, 1113, 1114, 1115, 1116, 1117, 1118, 1119, 1120] (fun _ _ => False) S0 S102) (w_1079_1 : S102 1079 1 = 2) (w_1079_28 : S102 1079 28 = S0 1079 28) (w_1100_1 : S102 1100 1 = 20328611) (w_1100_2 : S102 1100 2 = 21080810679) (w_1100_3 : S102 1100 3 = 18912643) (w_1100_4 : S102 1100 4 = 636595) (w_1100_5 : S102 1100 5 = 872425337517) (w_1100_6 : S102 1100 6 = 5847987683) (w_1100_7 : S102 1100 7 = 788088878) (w_1100_8 : S102 1100 8 = 5848723) : zz_E g l zy_init_14_1 zr_init_14_1_c1079_1080 (zz_QV 1121 (zp_init_14_1_c1079_1080 S0)) S102 1121 433 [some (.ref 1079)] [] 41 11941 := by
  refine zz_aload_n (x := 1079) rfl zd_14_1_433 ?_
  have g103 := G_S102 1079 29 (by decide +kernel) (by decide +kernel)
  refine zz_getr (kd := 0) (z := 1100) zd_14_1_434 zf_Md_79 zT_1079 rfl (by decide) (Int.le_antisymm g103.2 g103.1) (by decide) 1100 rfl ?_
  refine zz_bipush (by decide) zd_14_1_437 ?_
  refine zz_ldc2 (z := 664631) zq_Md_161 (by decide) zd_14_1_439 ?_
  refine zz_last zd_14_1_442 zT_1100 rfl (by decide) (by decide) (by decide) (fun S104 qS104 => ?_)
  have G_S104 := zz_Gm.put [] G_S102 qS104 0 1099511627775 rfl (by decide) (by decide +kernel)
  have F_S104 := zz_fr.putc F_S102 qS104 (by decide +kernel)
  refine zz_aload_n (x := 1079) rfl zd_14_1_443 ?_
  have g105 := G_S104 1079 29 (by decide +kernel) (by decide +kernel)
  refine zz_getr (kd := 0) (z := 1100) zd_14_1_444 zf_Md_79 zT_1079 rfl (by decide) (Int.le_antisymm g105.2 g105.1) (by decide) 1100 rfl ?_
  refine zz_bipush (by decide) zd_14_1_447 ?_
  refine zz_ldc2 (z := 641) zq_Md_163 (by decide) zd_14_1_449 ?_
  refine zz_last zd_14_1_452 zT_1100 rfl (by decide) (by decide) (by decide) (fun S106 qS106 => ?_)
  have G_S106 := zz_Gm.put [] G_S104 qS106 0 1099511627775 rfl (by decide) (by decide +kernel)
  have F_S106 := zz_fr.putc F_S104 qS106 (by decide +kernel)
  refine zz_aload_n (x := 1079) rfl zd_14_1_453 ?_
  have g107 := G_S106 1079 29 (by decide +kernel) (by decide +kernel)
  refine zz_getr (kd := 0) (z := 1100) zd_14_1_454 zf_Md_79 zT_1079 rfl (by decide) (Int.le_antisymm g107.2 g107.1) (by decide) 1100 rfl ?_
  refine zz_bipush (by decide) zd_14_1_457 ?_
  refine zz_ldc2 (z := 802) zq_Md_165 (by decide) zd_14_1_459 ?_
  refine zz_last zd_14_1_462 zT_1100 rfl (by decide) (by decide) (by decide) (fun S108 qS108 => ?_)
  have G_S108 := zz_Gm.put [] G_S106 qS108 0 1099511627775 rfl (by decide) (by decide +kernel)
  have F_S108 := zz_fr.putc F_S106 qS108 (by decide +kernel)
  refine zz_aload_n (x := 1079) rfl zd_14_1_463 ?_
  have g109 := G_S108 1079 29 (by decide +kernel) (by decide +kernel)
  refine zz_getr (kd := 0) (z := 1100) zd_14_1_464 zf_Md_79 zT_1079 rfl (by decide) (Int.le_antisymm g109.2 g109.1) (by decide) 1100 rfl ?_
  refine zz_bipush (by decide) zd_14_1_467 ?_
  refine zz_ldc2 (z := 24) zq_Md_167 (by decide) zd_14_1_469 ?_
  refine zz_last zd_14_1_472 zT_1100 rfl (by decide) (by decide) (by decide) (fun S110 qS110 => ?_)
  have G_S110 := zz_Gm.put [] G_S108 qS110 0 1099511627775 rfl (by decide) (by decide +kernel)
  have F_S110 := zz_fr.putc F_S108 qS110 (by decide +kernel)
  refine zz_aload_n (x := 1079) rfl zd_14_1_473 ?_
  have g111 := G_S110 1079 29 (by decide +kernel) (by decide +kernel)
  refine zz_getr (kd := 0) (z := 1100) zd_14_1_474 zf_Md_79 zT_1079 rfl (by decide) (Int.le_antisymm g111.2 g111.1) (by decide) 1100 rfl ?_
  refine zz_bipush (by decide) zd_14_1_477 ?_
  refine zz_lconst (z := 1) (by decide) zd_14_1_479 ?_
  refine zz_last zd_14_1_480 zT_1100 rfl (by decide) (by decide) (by decide) (fun S112 qS112 => ?_)
  have G_S112 := zz_Gm.put [] G_S110 qS112 0 1099511627775 rfl (by decide) (by decide +kernel)
  have F_S112 := zz_fr.putc F_S110 qS112 (by decide +kernel)
  refine zz_aload_n (x := 1079) rfl zd_14_1_481 ?_
  have g113 := G_S112 1079 29 (by decide +kernel) (by decide +kernel)
  refine zz_getr (kd := 0) (z := 1100) zd_14_1_482 zf_Md_79 zT_1079 rfl (by decide) (Int.le_antisymm g113.2 g113.1) (by decide) 1100 rfl ?_
  refine zz_bipush (by decide) zd_14_1_485 ?_
  refine zz_ldc2 (z := 2) zq_Md_169 (by decide) zd_14_1_487 ?_
  refine zz_last zd_14_1_490 zT_1100 rfl (by decide) (by decide) (by decide) (fun S114 qS114 => ?_)
  have G_S114 := zz_Gm.put [] G_S112 qS114 0 1099511627775 rfl (by decide) (by decide +kernel)
  have F_S114 := zz_fr.putc F_S112 qS114 (by decide +kernel)
  refine zz_aload_n (x := 1079) rfl zd_14_1_491 ?_
  have g115 := G_S114 1079 29 (by decide +kernel) (by decide +kernel)
  refine zz_getr (kd := 0) (z := 1100) zd_14_1_492 zf_Md_79 zT_1079 rfl (by decide) (Int.le_antisymm g115.2 g115.1) (by decide) 1100 rfl ?_
  refine zz_bipush (by decide) zd_14_1_495 ?_
  refine zz_ldc2 (z := 530067) zq_Md_171 (by decide) zd_14_1_497 ?_
  refine zz_last zd_14_1_500 zT_1100 rfl (by decide) (by decide) (by decide) (fun S116 qS116 => ?_)
  have G_S116 := zz_Gm.put [] G_S114 qS116 0 1099511627775 rfl (by decide) (by decide +kernel)
  have F_S116 := zz_fr.putc F_S114 qS116 (by decide +kernel)
  refine zz_aload_n (x := 1079) rfl zd_14_1_501 ?_
  have g117 := G_S116 1079 29 (by decide +kernel) (by decide +kernel)
  refine zz_getr (kd := 0) (z := 1100) zd_14_1_502 zf_Md_79 zT_1079 rfl (by decide) (Int.le_antisymm g117.2 g117.1) (by decide) 1100 rfl ?_
  refine zz_bipush (by decide) zd_14_1_505 ?_
  refine zz_ldc2 (z := 14) zq_Md_173 (by decide) zd_14_1_507 ?_
  refine zz_last zd_14_1_510 zT_1100 rfl (by decide) (by decide) (by decide) (fun S118 qS118 => ?_)
  have G_S118 := zz_Gm.put [] G_S116 qS118 0 1099511627775 rfl (by decide) (by decide +kernel)
  have F_S118 := zz_fr.putc F_S116 qS118 (by decide +kernel)
  refine zz_aload_n (x := 1079) rfl zd_14_1_511 ?_
  have g119 := G_S118 1079 29 (by decide +kernel) (by decide +kernel)
  refine zz_getr (kd := 0) (z := 1100) zd_14_1_512 zf_Md_79 zT_1079 rfl (by decide) (Int.le_antisymm g119.2 g119.1) (by decide) 1100 rfl ?_
  refine zz_bipush (by decide) zd_14_1_515 ?_
  refine zz_ldc2 (z := 16880) zq_Md_175 (by decide) zd_14_1_517 ?_
  refine zz_last zd_14_1_520 zT_1100 rfl (by decide) (by decide) (by decide) (fun S120 qS120 => ?_)
  have G_S120 := zz_Gm.put [] G_S118 qS120 0 1099511627775 rfl (by decide) (by decide +kernel)
  have F_S120 := zz_fr.putc F_S118 qS120 (by decide +kernel)
  refine zz_aload_n (x := 1079) rfl zd_14_1_521 ?_
  have g121 := G_S120 1079 29 (by decide +kernel) (by decide +kernel)
  refine zz_getr (kd := 0) (z := 1100) zd_14_1_522 zf_Md_79 zT_1079 rfl (by decide) (Int.le_antisymm g121.2 g121.1) (by decide) 1100 rfl ?_
  refine zz_bipush (by decide) zd_14_1_525 ?_
  refine zz_ldc2 (z := 282288) zq_Md_177 (by decide) zd_14_1_527 ?_
  refine zz_last zd_14_1_530 zT_1100 rfl (by decide) (by decide) (by decide) (fun S122 qS122 => ?_)
  have G_S122 := zz_Gm.put [] G_S120 qS122 0 1099511627775 rfl (by decide) (by decide +kernel)
  have F_S122 := zz_fr.putc F_S120 qS122 (by decide +kernel)
  refine zz_aload_n (x := 1079) rfl zd_14_1_531 ?_
  have g123 := G_S122 1079 29 (by decide +kernel) (by decide +kernel)
  refine zz_getr (kd := 0) (z := 1100) zd_14_1_532 zf_Md_79 zT_1079 rfl (by decide) (Int.le_antisymm g123.2 g123.1) (by decide) 1100 rfl ?_
  refine zz_bipush (by decide) zd_14_1_535 ?_
  refine zz_ldc2 (z := 187144354) zq_Md_179 (by decide) zd_14_1_537 ?_
  refine zz_last zd_14_1_540 zT_1100 rfl (by decide) (by decide) (by decide) (fun S124 qS124 => ?_)
  have G_S124 := zz_Gm.put [] G_S122 qS124 0 1099511627775 rfl (by decide) (by decide +kernel)
  have F_S124 := zz_fr.putc F_S122 qS124 (by decide +kernel)
  refine zz_aload_n (x := 1079) rfl zd_14_1_541 ?_
  have g125 := G_S124 1079 29 (by decide +kernel) (by decide +kernel)
  refine zz_getr (kd := 0) (z := 1100) zd_14_1_542 zf_Md_79 zT_1079 rfl (by decide) (Int.le_antisymm g125.2 g125.1) (by decide) 1100 rfl ?_
  refine zz_bipush (by decide) zd_14_1_545 ?_
  refine zz_ldc2 (z := 149201058) zq_Md_181 (by decide) zd_14_1_547 ?_
  refine zz_last zd_14_1_550 zT_1100 rfl (by decide) (by decide) (by decide) (fun S126 qS126 => ?_)
  have G_S126 := zz_Gm.put [] G_S124 qS126 0 1099511627775 rfl (by decide) (by decide +kernel)
  have F_S126 := zz_fr.putc F_S124 qS126 (by decide +kernel)
  refine zz_aload_n (x := 1079) rfl zd_14_1_551 ?_
  refine zz_iconst zd_14_1_552 ?_
  refine zz_iconst zd_14_1_553 ?_
  refine zz_iconst zd_14_1_554 ?_
  refine zz_callVV [zi 1, zi 1, zi 1] zd_14_1_555 zk_Md_183 zT_1079 (by decide) rfl rfl ⟨Nat.le_of_ble_eq_true rfl, Nat.le_of_ble_eq_true rfl⟩ ⟨rfl, rfl⟩ (Nat.le_of_ble_eq_true rfl) (Nat.le_of_ble_eq_true rfl) (zc_form_14_5_c1079_1121 S126 (zz_Gm.sub (C1 := [1079, 1102, 1103, 1104, 1105]) (X1 := []) G_S126 (by decide +kernel) (by decide +kernel))) (fun S127 hP => ?_)
  obtain ⟨gS127, fS127, o128, o129⟩ := hP
  have F_S127 := zz_fr.trans F_S126 fS127 (by decide +kernel) zz_nv
  have G_S127 := zz_Gm.call [] G_S126 fS127 gS127 (by decide +kernel) (by decide +kernel) (by decide +kernel) (by decide +kernel)
  have g130 := trivial
  have g131 := trivial
  have g132 := trivial
  have g133 := trivial
  have g134 := trivial
  have e135 : S127 1079 1 = 2 := (zz_rc fS127 rfl rfl (fun h => h) (zz_ro qS126 (fun h => absurd h.1 (by decide)) (zz_ro qS124 (fun h => absurd h.1 (by decide)) (zz_ro qS122 (fun h => absurd h.1 (by decide)) (zz_ro qS120 (fun h => absurd h.1 (by decide)) (zz_ro qS118 (fun h => absurd h.1 (by decide)) (zz_ro qS116 (fun h => absurd h.1 (by decide)) (zz_ro qS114 (fun h => absurd h.1 (by decide)) (zz_ro qS112 (fun h => absurd h.1 (by decide)) (zz_ro qS110 (fun h => absurd h.1 (by decide)) (zz_ro qS108 (fun h => absurd h.1 (by decide)) (zz_ro qS106 (fun h => absurd h.1 (by decide)) (zz_ro qS104 (fun h => absurd h.1 (by decide)) w_1079_1)))))))))))))
  have e136 : S127 1079 28 = S0 1079 28 := (zz_rc fS127 rfl rfl (fun h => h) (zz_ro qS126 (fun h => absurd h.1 (by decide)) (zz_ro qS124 (fun h => absurd h.1 (by decide)) (zz_ro qS122 (fun h => absurd h.1 (by decide)) (zz_ro qS120 (fun h => absurd h.1 (by decide)) (zz_ro qS118 (fun h => absurd h.1 (by decide)) (zz_ro qS116 (fun h => absurd h.1 (by decide)) (zz_ro qS114 (fun h => absurd h.1 (by decide)) (zz_ro qS112 (fun h => absurd h.1 (by decide)) (zz_ro qS110 (fun h => absurd h.1 (by decide)) (zz_ro qS108 (fun h => absurd h.1 (by decide)) (zz_ro qS106 (fun h => absurd h.1 (by decide)) (zz_ro qS104 (fun h => absurd h.1 (by decide)) w_1079_28)))))))))))))
  have e137 : S127 1100 1 = 20328611 := (zz_rc fS127 rfl rfl (fun h => h) (zz_ro qS126 (fun h => absurd h.2 (by decide)) (zz_ro qS124 (fun h => absurd h.2 (by decide)) (zz_ro qS122 (fun h => absurd h.2 (by decide)) (zz_ro qS120 (fun h => absurd h.2 (by decide)) (zz_ro qS118 (fun h => absurd h.2 (by decide)) (zz_ro qS116 (fun h => absurd h.2 (by decide)) (zz_ro qS114 (fun h => absurd h.2 (by decide)) (zz_ro qS112 (fun h => absurd h.2 (by decide)) (zz_ro qS110 (fun h => absurd h.2 (by decide)) (zz_ro qS108 (fun h => absurd h.2 (by decide)) (zz_ro qS106 (fun h => absurd h.2 (by decide)) (zz_ro qS104 (fun h => absurd h.2 (by decide)) w_1100_1)))))))))))))
  have e138 : S127 1100 2 = 21080810679 := (zz_rc fS127 rfl rfl (fun h => h) (zz_ro qS126 (fun h => absurd h.2 (by decide)) (zz_ro qS124 (fun h => absurd h.2 (by decide)) (zz_ro qS122 (fun h => absurd h.2 (by decide)) (zz_ro qS120 (fun h => absurd h.2 (by decide)) (zz_ro qS118 (fun h => absurd h.2 (by decide)) (zz_ro qS116 (fun h => absurd h.2 (by decide)) (zz_ro qS114 (fun h => absurd h.2 (by decide)) (zz_ro qS112 (fun h => absurd h.2 (by decide)) (zz_ro qS110 (fun h => absurd h.2 (by decide)) (zz_ro qS108 (fun h => absurd h.2 (by decide)) (zz_ro qS106 (fun h => absurd h.2 (by decide)) (zz_ro qS104 (fun h => absurd h.2 (by decide)) w_1100_2)))))))))))))
  have e139 : S127 1100 3 = 18912643 := (zz_rc fS127 rfl rfl (fun h => h) (zz_ro qS126 (fun h => absurd h.2 (by decide)) (zz_ro qS124 (fun h => absurd h.2 (by decide)) (zz_ro qS122 (fun h => absurd h.2 (by decide)) (zz_ro qS120 (fun h => absurd h.2 (by decide)) (zz_ro qS118 (fun h => absurd h.2 (by decide)) (zz_ro qS116 (fun h => absurd h.2 (by decide)) (zz_ro qS114 (fun h => absurd h.2 (by decide)) (zz_ro qS112 (fun h => absurd h.2 (by decide)) (zz_ro qS110 (fun h => absurd h.2 (by decide)) (zz_ro qS108 (fun h => absurd h.2 (by decide)) (zz_ro qS106 (fun h => absurd h.2 (by decide)) (zz_ro qS104 (fun h => absurd h.2 (by decide)) w_1100_3)))))))))))))
  have e140 : S127 1100 4 = 636595 := (zz_rc fS127 rfl rfl (fun h => h) (zz_ro qS126 (fun h => absurd h.2 (by decide)) (zz_ro qS124 (fun h => absurd h.2 (by decide)) (zz_ro qS122 (fun h => absurd h.2 (by decide)) (zz_ro qS120 (fun h => absurd h.2 (by decide)) (zz_ro qS118 (fun h => absurd h.2 (by decide)) (zz_ro qS116 (fun h => absurd h.2 (by decide)) (zz_ro qS114 (fun h => absurd h.2 (by decide)) (zz_ro qS112 (fun h => absurd h.2 (by decide)) (zz_ro qS110 (fun h => absurd h.2 (by decide)) (zz_ro qS108 (fun h => absurd h.2 (by decide)) (zz_ro qS106 (fun h => absurd h.2 (by decide)) (zz_ro qS104 (fun h => absurd h.2 (by decide)) w_1100_4)))))))))))))
  have e141 : S127 1100 5 = 872425337517 := (zz_rc fS127 rfl rfl (fun h => h) (zz_ro qS126 (fun h => absurd h.2 (by decide)) (zz_ro qS124 (fun h => absurd h.2 (by decide)) (zz_ro qS122 (fun h => absurd h.2 (by decide)) (zz_ro qS120 (fun h => absurd h.2 (by decide)) (zz_ro qS118 (fun h => absurd h.2 (by decide)) (zz_ro qS116 (fun h => absurd h.2 (by decide)) (zz_ro qS114 (fun h => absurd h.2 (by decide)) (zz_ro qS112 (fun h => absurd h.2 (by decide)) (zz_ro qS110 (fun h => absurd h.2 (by decide)) (zz_ro qS108 (fun h => absurd h.2 (by decide)) (zz_ro qS106 (fun h => absurd h.2 (by decide)) (zz_ro qS104 (fun h => absurd h.2 (by decide)) w_1100_5)))))))))))))
  have e142 : S127 1100 6 = 5847987683 := (zz_rc fS127 rfl rfl (fun h => h) (zz_ro qS126 (fun h => absurd h.2 (by decide)) (zz_ro qS124 (fun h => absurd h.2 (by decide)) (zz_ro qS122 (fun h => absurd h.2 (by decide)) (zz_ro qS120 (fun h => absurd h.2 (by decide)) (zz_ro qS118 (fun h => absurd h.2 (by decide)) (zz_ro qS116 (fun h => absurd h.2 (by decide)) (zz_ro qS114 (fun h => absurd h.2 (by decide)) (zz_ro qS112 (fun h => absurd h.2 (by decide)) (zz_ro qS110 (fun h => absurd h.2 (by decide)) (zz_ro qS108 (fun h => absurd h.2 (by decide)) (zz_ro qS106 (fun h => absurd h.2 (by decide)) (zz_ro qS104 (fun h => absurd h.2 (by decide)) w_1100_6)))))))))))))
  have e143 : S127 1100 7 = 788088878 := (zz_rc fS127 rfl rfl (fun h => h) (zz_ro qS126 (fun h => absurd h.2 (by decide)) (zz_ro qS124 (fun h => absurd h.2 (by decide)) (zz_ro qS122 (fun h => absurd h.2 (by decide)) (zz_ro qS120 (fun h => absurd h.2 (by decide)) (zz_ro qS118 (fun h => absurd h.2 (by decide)) (zz_ro qS116 (fun h => absurd h.2 (by decide)) (zz_ro qS114 (fun h => absurd h.2 (by decide)) (zz_ro qS112 (fun h => absurd h.2 (by decide)) (zz_ro qS110 (fun h => absurd h.2 (by decide)) (zz_ro qS108 (fun h => absurd h.2 (by decide)) (zz_ro qS106 (fun h => absurd h.2 (by decide)) (zz_ro qS104 (fun h => absurd h.2 (by decide)) w_1100_7)))))))))))))
  have e144 : S127 1100 8 = 5848723 := (zz_rc fS127 rfl rfl (fun h => h) (zz_ro qS126 (fun h => absurd h.2 (by decide)) (zz_ro qS124 (fun h => absurd h.2 (by decide)) (zz_ro qS122 (fun h => absurd h.2 (by decide)) (zz_ro qS120 (fun h => absurd h.2 (by decide)) (zz_ro qS118 (fun h => absurd h.2 (by decide)) (zz_ro qS116 (fun h => absurd h.2 (by decide)) (zz_ro qS114 (fun h => absurd h.2 (by decide)) (zz_ro qS112 (fun h => absurd h.2 (by decide)) (zz_ro qS110 (fun h => absurd h.2 (by decide)) (zz_ro qS108 (fun h => absurd h.2 (by decide)) (zz_ro qS106 (fun h => absurd h.2 (by decide)) (zz_ro qS104 (fun h => absurd h.2 (by decide)) w_1100_8)))))))))))))
  have e145 : S127 1100 9 = 664631 := (zz_rc fS127 rfl rfl (fun h => h) (zz_ro qS126 (fun h => absurd h.2 (by decide)) (zz_ro qS124 (fun h => absurd h.2 (by decide)) (zz_ro qS122 (fun h => absurd h.2 (by decide)) (zz_ro qS120 (fun h => absurd h.2 (by decide)) (zz_ro qS118 (fun h => absurd h.2 (by decide)) (zz_ro qS116 (fun h => absurd h.2 (by decide)) (zz_ro qS114 (fun h => absurd h.2 (by decide)) (zz_ro qS112 (fun h => absurd h.2 (by decide)) (zz_ro qS110 (fun h => absurd h.2 (by decide)) (zz_ro qS108 (fun h => absurd h.2 (by decide)) (zz_ro qS106 (fun h => absurd h.2 (by decide)) (zz_rs qS104)))))))))))))
  have e146 : S127 1100 10 = 641 := (zz_rc fS127 rfl rfl (fun h => h) (zz_ro qS126 (fun h => absurd h.2 (by decide)) (zz_ro qS124 (fun h => absurd h.2 (by decide)) (zz_ro qS122 (fun h => absurd h.2 (by decide)) (zz_ro qS120 (fun h => absurd h.2 (by decide)) (zz_ro qS118 (fun h => absurd h.2 (by decide)) (zz_ro qS116 (fun h => absurd h.2 (by decide)) (zz_ro qS114 (fun h => absurd h.2 (by decide)) (zz_ro qS112 (fun h => absurd h.2 (by decide)) (zz_ro qS110 (fun h => absurd h.2 (by decide)) (zz_ro qS108 (fun h => absurd h.2 (by decide)) (zz_rs qS106))))))))))))
  have e147 : S127 1100 11 = 802 := (zz_rc fS127 rfl rfl (fun h => h) (zz_ro qS126 (fun h => absurd h.2 (by decide)) (zz_ro qS124 (fun h => absurd h.2 (by decide)) (zz_ro qS122 (fun h => absurd h.2 (by decide)) (zz_ro qS120 (fun h => absurd h.2 (by decide)) (zz_ro qS118 (fun h => absurd h.2 (by decide)) (zz_ro qS116 (fun h => absurd h.2 (by decide)) (zz_ro qS114 (fun h => absurd h.2 (by decide)) (zz_ro qS112 (fun h => absurd h.2 (by decide)) (zz_ro qS110 (fun h => absurd h.2 (by decide)) (zz_rs qS108)))))))))))
  have e148 : S127 1100 12 = 24 := (zz_rc fS127 rfl rfl (fun h => h) (zz_ro qS126 (fun h => absurd h.2 (by decide)) (zz_ro qS124 (fun h => absurd h.2 (by decide)) (zz_ro qS122 (fun h => absurd h.2 (by decide)) (zz_ro qS120 (fun h => absurd h.2 (by decide)) (zz_ro qS118 (fun h => absurd h.2 (by decide)) (zz_ro qS116 (fun h => absurd h.2 (by decide)) (zz_ro qS114 (fun h => absurd h.2 (by decide)) (zz_ro qS112 (fun h => absurd h.2 (by decide)) (zz_rs qS110))))))))))
  have e149 : S127 1100 13 = 1 := (zz_rc fS127 rfl rfl (fun h => h) (zz_ro qS126 (fun h => absurd h.2 (by decide)) (zz_ro qS124 (fun h => absurd h.2 (by decide)) (zz_ro qS122 (fun h => absurd h.2 (by decide)) (zz_ro qS120 (fun h => absurd h.2 (by decide)) (zz_ro qS118 (fun h => absurd h.2 (by decide)) (zz_ro qS116 (fun h => absurd h.2 (by decide)) (zz_ro qS114 (fun h => absurd h.2 (by decide)) (zz_rs qS112)))))))))
  have e150 : S127 1100 14 = 2 := (zz_rc fS127 rfl rfl (fun h => h) (zz_ro qS126 (fun h => absurd h.2 (by decide)) (zz_ro qS124 (fun h => absurd h.2 (by decide)) (zz_ro qS122 (fun h => absurd h.2 (by decide)) (zz_ro qS120 (fun h => absurd h.2 (by decide)) (zz_ro qS118 (fun h => absurd h.2 (by decide)) (zz_ro qS116 (fun h => absurd h.2 (by decide)) (zz_rs qS114))))))))
  have e151 : S127 1100 15 = 530067 := (zz_rc fS127 rfl rfl (fun h => h) (zz_ro qS126 (fun h => absurd h.2 (by decide)) (zz_ro qS124 (fun h => absurd h.2 (by decide)) (zz_ro qS122 (fun h => absurd h.2 (by decide)) (zz_ro qS120 (fun h => absurd h.2 (by decide)) (zz_ro qS118 (fun h => absurd h.2 (by decide)) (zz_rs qS116)))))))
  have e152 : S127 1100 16 = 14 := (zz_rc fS127 rfl rfl (fun h => h) (zz_ro qS126 (fun h => absurd h.2 (by decide)) (zz_ro qS124 (fun h => absurd h.2 (by decide)) (zz_ro qS122 (fun h => absurd h.2 (by decide)) (zz_ro qS120 (fun h => absurd h.2 (by decide)) (zz_rs qS118))))))
  have e153 : S127 1100 17 = 16880 := (zz_rc fS127 rfl rfl (fun h => h) (zz_ro qS126 (fun h => absurd h.2 (by decide)) (zz_ro qS124 (fun h => absurd h.2 (by decide)) (zz_ro qS122 (fun h => absurd h.2 (by decide)) (zz_rs qS120)))))
  have e154 : S127 1100 18 = 282288 := (zz_rc fS127 rfl rfl (fun h => h) (zz_ro qS126 (fun h => absurd h.2 (by decide)) (zz_ro qS124 (fun h => absurd h.2 (by decide)) (zz_rs qS122))))
  have e155 : S127 1100 19 = 187144354 := (zz_rc fS127 rfl rfl (fun h => h) (zz_ro qS126 (fun h => absurd h.2 (by decide)) (zz_rs qS124)))
  have e156 : S127 1100 20 = 149201058 := (zz_rc fS127 rfl rfl (fun h => h) (zz_rs qS126))
  have e157 : S127 1105 1 = 1 := o129
  exact zz_vret zd_14_1_558 rfl (Nat.le_of_ble_eq_true rfl) (Nat.le_of_ble_eq_true rfl) ⟨_, rfl, G_S127, F_S127, by omega, by omega, by omega, by omega, by omega, by omega, by omega, by omega, by omega, by omega, by omega, by omega, by omega, by omega, by omega, by omega, by omega, by omega, by omega, by omega, by omega, by omega, by omega, by omega⟩
theorem zb_init_14_1_c1079_1080_7 {g : mm_G} {l : Launch} (S0 S88 : zz_S) (G_S88 : zz_Gm [1120, 1119, 1118, 1117, 1116, 1115, 1114, 1113, 1112, 1111, 1110, 1109, 1108, 1107, 1106, 1105, 1104, 1103, 1102, 1101, 1100, 1099, 1098, 1097, 1096, 1095, 1094, 1093, 1092, 1091, 1090, 1089, 1088, 1087, 1086, 1085, 1084, 1083, 1082, 1081, 1080, 1079] [] S88) (F_S88 : zz_fr [(1079, 36), (1102, 0), (1103, 0), (1104, 0), (1105, 0), (1105, 1)] [1079, 1080, 1081, 1082, 1083, 1084, 1085, 1086, 1087, 1088, 1089, 1090, 1091, 1092, 1093, 1094, 1095, 1096, 1097, 1098, 1099, 1100, 1101, 1102, 1103, 1104, 1105, 1106, 1107, 1108, 1109, 1110, 1111, 1112, 1113, 1114, 1115, 1116, 1117, 1118, 1119, 1120] (fun _ _ => False) S0 S88) (w_1079_1 : S88 1079 1 = 2) (w_1079_28 : S88 1079 28 = S0 1079 28) (w_1100_1 : S88 1100 1 = 20328611) : zz_E g l zy_init_14_1 zr_init_14_1_c1079_1080 (zz_QV 1121 (zp_init_14_1_c1079_1080 S0)) S88 1121 367 [some (.ref 1079)] [] 41 11941 := by
  refine zz_aload_n (x := 1079) rfl zd_14_1_367 ?_
  have g89 := G_S88 1079 29 (by decide +kernel) (by decide +kernel)
  refine zz_getr (kd := 0) (z := 1100) zd_14_1_368 zf_Md_79 zT_1079 rfl (by decide) (Int.le_antisymm g89.2 g89.1) (by decide) 1100 rfl ?_
  refine zz_iconst zd_14_1_371 ?_
  refine zz_ldc2 (z := 21080810679) zq_Md_147 (by decide) zd_14_1_372 ?_
  refine zz_last zd_14_1_375 zT_1100 rfl (by decide) (by decide) (by decide) (fun S90 qS90 => ?_)
  have G_S90 := zz_Gm.put [] G_S88 qS90 0 1099511627775 rfl (by decide) (by decide +kernel)
  have F_S90 := zz_fr.putc F_S88 qS90 (by decide +kernel)
  refine zz_aload_n (x := 1079) rfl zd_14_1_376 ?_
  have g91 := G_S90 1079 29 (by decide +kernel) (by decide +kernel)
  refine zz_getr (kd := 0) (z := 1100) zd_14_1_377 zf_Md_79 zT_1079 rfl (by decide) (Int.le_antisymm g91.2 g91.1) (by decide) 1100 rfl ?_
  refine zz_iconst zd_14_1_380 ?_
  refine zz_ldc2 (z := 18912643) zq_Md_149 (by decide) zd_14_1_381 ?_
  refine zz_last zd_14_1_384 zT_1100 rfl (by decide) (by decide) (by decide) (fun S92 qS92 => ?_)
  have G_S92 := zz_Gm.put [] G_S90 qS92 0 1099511627775 rfl (by decide) (by decide +kernel)
  have F_S92 := zz_fr.putc F_S90 qS92 (by decide +kernel)
  refine zz_aload_n (x := 1079) rfl zd_14_1_385 ?_
  have g93 := G_S92 1079 29 (by decide +kernel) (by decide +kernel)
  refine zz_getr (kd := 0) (z := 1100) zd_14_1_386 zf_Md_79 zT_1079 rfl (by decide) (Int.le_antisymm g93.2 g93.1) (by decide) 1100 rfl ?_
  refine zz_iconst zd_14_1_389 ?_
  refine zz_ldc2 (z := 636595) zq_Md_151 (by decide) zd_14_1_390 ?_
  refine zz_last zd_14_1_393 zT_1100 rfl (by decide) (by decide) (by decide) (fun S94 qS94 => ?_)
  have G_S94 := zz_Gm.put [] G_S92 qS94 0 1099511627775 rfl (by decide) (by decide +kernel)
  have F_S94 := zz_fr.putc F_S92 qS94 (by decide +kernel)
  refine zz_aload_n (x := 1079) rfl zd_14_1_394 ?_
  have g95 := G_S94 1079 29 (by decide +kernel) (by decide +kernel)
  refine zz_getr (kd := 0) (z := 1100) zd_14_1_395 zf_Md_79 zT_1079 rfl (by decide) (Int.le_antisymm g95.2 g95.1) (by decide) 1100 rfl ?_
  refine zz_iconst zd_14_1_398 ?_
  refine zz_ldc2 (z := 872425337517) zq_Md_153 (by decide) zd_14_1_399 ?_
  refine zz_last zd_14_1_402 zT_1100 rfl (by decide) (by decide) (by decide) (fun S96 qS96 => ?_)
  have G_S96 := zz_Gm.put [] G_S94 qS96 0 1099511627775 rfl (by decide) (by decide +kernel)
  have F_S96 := zz_fr.putc F_S94 qS96 (by decide +kernel)
  refine zz_aload_n (x := 1079) rfl zd_14_1_403 ?_
  have g97 := G_S96 1079 29 (by decide +kernel) (by decide +kernel)
  refine zz_getr (kd := 0) (z := 1100) zd_14_1_404 zf_Md_79 zT_1079 rfl (by decide) (Int.le_antisymm g97.2 g97.1) (by decide) 1100 rfl ?_
  refine zz_bipush (by decide) zd_14_1_407 ?_
  refine zz_ldc2 (z := 5847987683) zq_Md_155 (by decide) zd_14_1_409 ?_
  refine zz_last zd_14_1_412 zT_1100 rfl (by decide) (by decide) (by decide) (fun S98 qS98 => ?_)
  have G_S98 := zz_Gm.put [] G_S96 qS98 0 1099511627775 rfl (by decide) (by decide +kernel)
  have F_S98 := zz_fr.putc F_S96 qS98 (by decide +kernel)
  refine zz_aload_n (x := 1079) rfl zd_14_1_413 ?_
  have g99 := G_S98 1079 29 (by decide +kernel) (by decide +kernel)
  refine zz_getr (kd := 0) (z := 1100) zd_14_1_414 zf_Md_79 zT_1079 rfl (by decide) (Int.le_antisymm g99.2 g99.1) (by decide) 1100 rfl ?_
  refine zz_bipush (by decide) zd_14_1_417 ?_
  refine zz_ldc2 (z := 788088878) zq_Md_157 (by decide) zd_14_1_419 ?_
  refine zz_last zd_14_1_422 zT_1100 rfl (by decide) (by decide) (by decide) (fun S100 qS100 => ?_)
  have G_S100 := zz_Gm.put [] G_S98 qS100 0 1099511627775 rfl (by decide) (by decide +kernel)
  have F_S100 := zz_fr.putc F_S98 qS100 (by decide +kernel)
  refine zz_aload_n (x := 1079) rfl zd_14_1_423 ?_
  have g101 := G_S100 1079 29 (by decide +kernel) (by decide +kernel)
  refine zz_getr (kd := 0) (z := 1100) zd_14_1_424 zf_Md_79 zT_1079 rfl (by decide) (Int.le_antisymm g101.2 g101.1) (by decide) 1100 rfl ?_
  refine zz_bipush (by decide) zd_14_1_427 ?_
  refine zz_ldc2 (z := 5848723) zq_Md_159 (by decide) zd_14_1_429 ?_
  refine zz_last zd_14_1_432 zT_1100 rfl (by decide) (by decide) (by decide) (fun S102 qS102 => ?_)
  have G_S102 := zz_Gm.put [] G_S100 qS102 0 1099511627775 rfl (by decide) (by decide +kernel)
  have F_S102 := zz_fr.putc F_S100 qS102 (by decide +kernel)
  have w_1079_1 : S102 1079 1 = 2 := (zz_ro qS102 (fun h => absurd h.1 (by decide)) (zz_ro qS100 (fun h => absurd h.1 (by decide)) (zz_ro qS98 (fun h => absurd h.1 (by decide)) (zz_ro qS96 (fun h => absurd h.1 (by decide)) (zz_ro qS94 (fun h => absurd h.1 (by decide)) (zz_ro qS92 (fun h => absurd h.1 (by decide)) (zz_ro qS90 (fun h => absurd h.1 (by decide)) w_1079_1)))))))
  have w_1079_28 : S102 1079 28 = S0 1079 28 := (zz_ro qS102 (fun h => absurd h.1 (by decide)) (zz_ro qS100 (fun h => absurd h.1 (by decide)) (zz_ro qS98 (fun h => absurd h.1 (by decide)) (zz_ro qS96 (fun h => absurd h.1 (by decide)) (zz_ro qS94 (fun h => absurd h.1 (by decide)) (zz_ro qS92 (fun h => absurd h.1 (by decide)) (zz_ro qS90 (fun h => absurd h.1 (by decide)) w_1079_28)))))))
  have w_1100_1 : S102 1100 1 = 20328611 := (zz_ro qS102 (fun h => absurd h.2 (by decide)) (zz_ro qS100 (fun h => absurd h.2 (by decide)) (zz_ro qS98 (fun h => absurd h.2 (by decide)) (zz_ro qS96 (fun h => absurd h.2 (by decide)) (zz_ro qS94 (fun h => absurd h.2 (by decide)) (zz_ro qS92 (fun h => absurd h.2 (by decide)) (zz_ro qS90 (fun h => absurd h.2 (by decide)) w_1100_1)))))))
  have w_1100_2 : S102 1100 2 = 21080810679 := (zz_ro qS102 (fun h => absurd h.2 (by decide)) (zz_ro qS100 (fun h => absurd h.2 (by decide)) (zz_ro qS98 (fun h => absurd h.2 (by decide)) (zz_ro qS96 (fun h => absurd h.2 (by decide)) (zz_ro qS94 (fun h => absurd h.2 (by decide)) (zz_ro qS92 (fun h => absurd h.2 (by decide)) (zz_rs qS90)))))))
  have w_1100_3 : S102 1100 3 = 18912643 := (zz_ro qS102 (fun h => absurd h.2 (by decide)) (zz_ro qS100 (fun h => absurd h.2 (by decide)) (zz_ro qS98 (fun h => absurd h.2 (by decide)) (zz_ro qS96 (fun h => absurd h.2 (by decide)) (zz_ro qS94 (fun h => absurd h.2 (by decide)) (zz_rs qS92))))))
  have w_1100_4 : S102 1100 4 = 636595 := (zz_ro qS102 (fun h => absurd h.2 (by decide)) (zz_ro qS100 (fun h => absurd h.2 (by decide)) (zz_ro qS98 (fun h => absurd h.2 (by decide)) (zz_ro qS96 (fun h => absurd h.2 (by decide)) (zz_rs qS94)))))
  have w_1100_5 : S102 1100 5 = 872425337517 := (zz_ro qS102 (fun h => absurd h.2 (by decide)) (zz_ro qS100 (fun h => absurd h.2 (by decide)) (zz_ro qS98 (fun h => absurd h.2 (by decide)) (zz_rs qS96))))
  have w_1100_6 : S102 1100 6 = 5847987683 := (zz_ro qS102 (fun h => absurd h.2 (by decide)) (zz_ro qS100 (fun h => absurd h.2 (by decide)) (zz_rs qS98)))
  have w_1100_7 : S102 1100 7 = 788088878 := (zz_ro qS102 (fun h => absurd h.2 (by decide)) (zz_rs qS100))
  have w_1100_8 : S102 1100 8 = 5848723 := (zz_rs qS102)
  exact zb_init_14_1_c1079_1080_8 S0 S102 G_S102 F_S102 w_1079_1 w_1079_28 w_1100_1 w_1100_2 w_1100_3 w_1100_4 w_1100_5 w_1100_6 w_1100_7 w_1100_8
theorem zb_init_14_1_c1079_1080_6 {g : mm_G} {l : Launch} (S0 S76 : zz_S) (G_S76 : zz_Gm [1115, 1114, 1113, 1112, 1111, 1110, 1109, 1108, 1107, 1106, 1105, 1104, 1103, 1102, 1101, 1100, 1099, 1098, 1097, 1096, 1095, 1094, 1093, 1092, 1091, 1090, 1089, 1088, 1087, 1086, 1085, 1084, 1083, 1082, 1081, 1080, 1079] zX_96 S76) (F_S76 : zz_fr [(1079, 36), (1102, 0), (1103, 0), (1104, 0), (1105, 0), (1105, 1)] [1079, 1080, 1081, 1082, 1083, 1084, 1085, 1086, 1087, 1088, 1089, 1090, 1091, 1092, 1093, 1094, 1095, 1096, 1097, 1098, 1099, 1100, 1101, 1102, 1103, 1104, 1105, 1106, 1107, 1108, 1109, 1110, 1111, 1112, 1113, 1114, 1115, 1116, 1117, 1118, 1119, 1120] (fun _ _ => False) S0 S76) (w_1079_1 : S76 1079 1 = 2) (w_1079_28 : S76 1079 28 = S0 1079 28) : zz_E g l zy_init_14_1 zr_init_14_1_c1079_1080 (zz_QV 1121 (zp_init_14_1_c1079_1080 S0)) S76 1116 317 [some (.ref 1079)] [] 36 11753 := by
  refine zz_aload_n (x := 1079) rfl zd_14_1_317 ?_
  refine zz_bipush (by decide) zd_14_1_318 ?_
  refine zz_newa (z := 10) (fun _ => 0) zd_14_1_320 zT_1116 rfl (mm_tb_1 183 (by decide +kernel) rfl) rfl (by decide) (by decide) (fun _ => rfl) (fun _ => rfl) (fun _ h => by cases h) (Nat.le_of_ble_eq_true rfl) (Nat.le_of_ble_eq_true rfl) (fun S77 qS77 => ?_)
  have G_S77 := zz_Gm.nwa zX_96 G_S76 qS77 (by decide +kernel) (fun i _ => ⟨(by decide : ((-2147483648) : Int) ≤ 0), (by decide : (0 : Int) ≤ 2147483647)⟩)
  have F_S77 := zz_fr.nw F_S76 qS77 (by decide +kernel)
  refine zz_setn (n1 := 1117) (k1 := 37) (j1 := 11763) rfl rfl rfl ?_
  refine zz_putrF (kd := 0) 1116 zd_14_1_322 zf_Md_130 zT_1079 rfl (by decide) (by decide) rfl (fun _ => rfl) (fun _ => rfl) rfl (fun q h => by cases h; rfl) (fun S78 qS78 => ?_)
  have G_S78 := zz_Gm.put zX_97 G_S77 qS78 1116 1116 rfl (by decide) (by decide +kernel)
  have F_S78 := zz_fr.putc F_S77 qS78 (by decide +kernel)
  refine zz_aload_n (x := 1079) rfl zd_14_1_325 ?_
  refine zz_bipush (by decide) zd_14_1_326 ?_
  refine zz_newa (z := 11) (fun _ => 0) zd_14_1_328 zT_1117 rfl (mm_tb_1 181 (by decide +kernel) rfl) rfl (by decide) (by decide) (fun _ => rfl) (fun _ => rfl) (fun _ h => by cases h) (Nat.le_of_ble_eq_true rfl) (Nat.le_of_ble_eq_true rfl) (fun S79 qS79 => ?_)
  have G_S79 := zz_Gm.nwa zX_97 G_S78 qS79 (by decide +kernel) (fun i _ => ⟨(by decide : ((-9223372036854775808) : Int) ≤ 0), (by decide : (0 : Int) ≤ 9223372036854775807)⟩)
  have F_S79 := zz_fr.nw F_S78 qS79 (by decide +kernel)
  refine zz_setn (n1 := 1118) (k1 := 38) (j1 := 11774) rfl rfl rfl ?_
  refine zz_putrF (kd := 0) 1117 zd_14_1_330 zf_Md_133 zT_1079 rfl (by decide) (by decide) rfl (fun _ => rfl) (fun _ => rfl) rfl (fun q h => by cases h; rfl) (fun S80 qS80 => ?_)
  have G_S80 := zz_Gm.put zX_98 G_S79 qS80 1117 1117 rfl (by decide) (by decide +kernel)
  have F_S80 := zz_fr.putc F_S79 qS80 (by decide +kernel)
  refine zz_aload_n (x := 1079) rfl zd_14_1_333 ?_
  refine zz_bipush (by decide) zd_14_1_334 ?_
  refine zz_newa (z := 8) (fun _ => 0) zd_14_1_336 zT_1118 rfl (mm_tb_1 183 (by decide +kernel) rfl) rfl (by decide) (by decide) (fun _ => rfl) (fun _ => rfl) (fun _ h => by cases h) (Nat.le_of_ble_eq_true rfl) (Nat.le_of_ble_eq_true rfl) (fun S81 qS81 => ?_)
  have G_S81 := zz_Gm.nwa zX_98 G_S80 qS81 (by decide +kernel) (fun i _ => ⟨(by decide : (0 : Int) ≤ 0), (by decide : (0 : Int) ≤ 9999)⟩)
  have F_S81 := zz_fr.nw F_S80 qS81 (by decide +kernel)
  refine zz_setn (n1 := 1119) (k1 := 39) (j1 := 11782) rfl rfl rfl ?_
  refine zz_putrF (kd := 0) 1118 zd_14_1_338 zf_Md_136 zT_1079 rfl (by decide) (by decide) rfl (fun _ => rfl) (fun _ => rfl) rfl (fun q h => by cases h; rfl) (fun S82 qS82 => ?_)
  have G_S82 := zz_Gm.put [(1079, 67), (1079, 68)] G_S81 qS82 1118 1118 rfl (by decide) (by decide +kernel)
  have F_S82 := zz_fr.putc F_S81 qS82 (by decide +kernel)
  refine zz_aload_n (x := 1079) rfl zd_14_1_341 ?_
  refine zz_sipush (by decide) zd_14_1_342 ?_
  refine zz_newa (z := 147) (fun _ => 0) zd_14_1_345 zT_1119 rfl (mm_tb_1 183 (by decide +kernel) rfl) rfl (by decide) (by decide) (fun _ => rfl) (fun _ => rfl) (fun _ h => by cases h) (Nat.le_of_ble_eq_true rfl) (Nat.le_of_ble_eq_true rfl) (fun S83 qS83 => ?_)
  have G_S83 := zz_Gm.nwa [(1079, 67), (1079, 68)] G_S82 qS83 (by decide +kernel) (fun i _ => ⟨(by decide : (0 : Int) ≤ 0), zz_kr1119 i⟩)
  have F_S83 := zz_fr.nw F_S82 qS83 (by decide +kernel)
  refine zz_setn (n1 := 1120) (k1 := 40) (j1 := 11929) rfl rfl rfl ?_
  refine zz_putrF (kd := 0) 1119 zd_14_1_347 zf_Md_139 zT_1079 rfl (by decide) (by decide) rfl (fun _ => rfl) (fun _ => rfl) rfl (fun q h => by cases h; rfl) (fun S84 qS84 => ?_)
  have G_S84 := zz_Gm.put [(1079, 68)] G_S83 qS84 1119 1119 rfl (by decide) (by decide +kernel)
  have F_S84 := zz_fr.putc F_S83 qS84 (by decide +kernel)
  refine zz_aload_n (x := 1079) rfl zd_14_1_350 ?_
  refine zz_bipush (by decide) zd_14_1_351 ?_
  refine zz_newa (z := 12) (fun _ => 0) zd_14_1_353 zT_1120 rfl (mm_tb_1 183 (by decide +kernel) rfl) rfl (by decide) (by decide) (fun _ => rfl) (fun _ => rfl) (fun _ h => by cases h) (Nat.le_of_ble_eq_true rfl) (Nat.le_of_ble_eq_true rfl) (fun S85 qS85 => ?_)
  have G_S85 := zz_Gm.nwa [(1079, 68)] G_S84 qS85 (by decide +kernel) (fun i _ => ⟨(by decide : (0 : Int) ≤ 0), (by show (0 : Int) ≤ if i = 0 then 0 else 10000000; (repeat' split) <;> decide)⟩)
  have F_S85 := zz_fr.nw F_S84 qS85 (by decide +kernel)
  refine zz_setn (n1 := 1121) (k1 := 41) (j1 := 11941) rfl rfl rfl ?_
  refine zz_putrF (kd := 0) 1120 zd_14_1_355 zf_Md_142 zT_1079 rfl (by decide) (by decide) rfl (fun _ => rfl) (fun _ => rfl) rfl (fun q h => by cases h; rfl) (fun S86 qS86 => ?_)
  have G_S86 := zz_Gm.put [] G_S85 qS86 1120 1120 rfl (by decide) (by decide +kernel)
  have F_S86 := zz_fr.putc F_S85 qS86 (by decide +kernel)
  refine zz_aload_n (x := 1079) rfl zd_14_1_358 ?_
  have g87 := G_S86 1079 29 (by decide +kernel) (by decide +kernel)
  refine zz_getr (kd := 0) (z := 1100) zd_14_1_359 zf_Md_79 zT_1079 rfl (by decide) (Int.le_antisymm g87.2 g87.1) (by decide) 1100 rfl ?_
  refine zz_iconst zd_14_1_362 ?_
  refine zz_ldc2 (z := 20328611) zq_Md_145 (by decide) zd_14_1_363 ?_
  refine zz_last zd_14_1_366 zT_1100 rfl (by decide) (by decide) (by decide) (fun S88 qS88 => ?_)
  have G_S88 := zz_Gm.put [] G_S86 qS88 0 1099511627775 rfl (by decide) (by decide +kernel)
  have F_S88 := zz_fr.putc F_S86 qS88 (by decide +kernel)
  have w_1079_1 : S88 1079 1 = 2 := (zz_ro qS88 (fun h => absurd h.1 (by decide)) (zz_ro qS86 (fun h => absurd h.2 (by decide)) (zz_nwo qS85 (by decide) (zz_ro qS84 (fun h => absurd h.2 (by decide)) (zz_nwo qS83 (by decide) (zz_ro qS82 (fun h => absurd h.2 (by decide)) (zz_nwo qS81 (by decide) (zz_ro qS80 (fun h => absurd h.2 (by decide)) (zz_nwo qS79 (by decide) (zz_ro qS78 (fun h => absurd h.2 (by decide)) (zz_nwo qS77 (by decide) w_1079_1)))))))))))
  have w_1079_28 : S88 1079 28 = S0 1079 28 := (zz_ro qS88 (fun h => absurd h.1 (by decide)) (zz_ro qS86 (fun h => absurd h.2 (by decide)) (zz_nwo qS85 (by decide) (zz_ro qS84 (fun h => absurd h.2 (by decide)) (zz_nwo qS83 (by decide) (zz_ro qS82 (fun h => absurd h.2 (by decide)) (zz_nwo qS81 (by decide) (zz_ro qS80 (fun h => absurd h.2 (by decide)) (zz_nwo qS79 (by decide) (zz_ro qS78 (fun h => absurd h.2 (by decide)) (zz_nwo qS77 (by decide) w_1079_28)))))))))))
  have w_1100_1 : S88 1100 1 = 20328611 := (zz_rs qS88)
  exact zb_init_14_1_c1079_1080_7 S0 S88 G_S88 F_S88 w_1079_1 w_1079_28 w_1100_1
theorem zb_init_14_1_c1079_1080_5 {g : mm_G} {l : Launch} (S0 S64 : zz_S) (G_S64 : zz_Gm [1109, 1108, 1107, 1106, 1105, 1104, 1103, 1102, 1101, 1100, 1099, 1098, 1097, 1096, 1095, 1094, 1093, 1092, 1091, 1090, 1089, 1088, 1087, 1086, 1085, 1084, 1083, 1082, 1081, 1080, 1079] zX_90 S64) (F_S64 : zz_fr [(1079, 36), (1102, 0), (1103, 0), (1104, 0), (1105, 0), (1105, 1)] [1079, 1080, 1081, 1082, 1083, 1084, 1085, 1086, 1087, 1088, 1089, 1090, 1091, 1092, 1093, 1094, 1095, 1096, 1097, 1098, 1099, 1100, 1101, 1102, 1103, 1104, 1105, 1106, 1107, 1108, 1109, 1110, 1111, 1112, 1113, 1114, 1115, 1116, 1117, 1118, 1119, 1120] (fun _ _ => False) S0 S64) (w_1079_1 : S64 1079 1 = 2) (w_1079_28 : S64 1079 28 = S0 1079 28) : zz_E g l zy_init_14_1 zr_init_14_1_c1079_1080 (zz_QV 1121 (zp_init_14_1_c1079_1080 S0)) S64 1110 269 [some (.ref 1079)] [] 30 11693 := by
  refine zz_aload_n (x := 1079) rfl zd_14_1_269 ?_
  refine zz_bipush (by decide) zd_14_1_270 ?_
  refine zz_newa (z := 10) (fun _ => 0) zd_14_1_272 zT_1110 rfl (mm_tb_1 183 (by decide +kernel) rfl) rfl (by decide) (by decide) (fun _ => rfl) (fun _ => rfl) (fun _ h => by cases h) (Nat.le_of_ble_eq_true rfl) (Nat.le_of_ble_eq_true rfl) (fun S65 qS65 => ?_)
  have G_S65 := zz_Gm.nwa zX_90 G_S64 qS65 (by decide +kernel) (fun i _ => ⟨(by decide : (0 : Int) ≤ 0), (by decide : (0 : Int) ≤ 3)⟩)
  have F_S65 := zz_fr.nw F_S64 qS65 (by decide +kernel)
  refine zz_setn (n1 := 1111) (k1 := 31) (j1 := 11703) rfl rfl rfl ?_
  refine zz_putrF (kd := 0) 1110 zd_14_1_274 zf_Md_112 zT_1079 rfl (by decide) (by decide) rfl (fun _ => rfl) (fun _ => rfl) rfl (fun q h => by cases h; rfl) (fun S66 qS66 => ?_)
  have G_S66 := zz_Gm.put zX_91 G_S65 qS66 1110 1110 rfl (by decide) (by decide +kernel)
  have F_S66 := zz_fr.putc F_S65 qS66 (by decide +kernel)
  refine zz_aload_n (x := 1079) rfl zd_14_1_277 ?_
  refine zz_bipush (by decide) zd_14_1_278 ?_
  refine zz_newa (z := 10) (fun _ => 0) zd_14_1_280 zT_1111 rfl (mm_tb_1 183 (by decide +kernel) rfl) rfl (by decide) (by decide) (fun _ => rfl) (fun _ => rfl) (fun _ h => by cases h) (Nat.le_of_ble_eq_true rfl) (Nat.le_of_ble_eq_true rfl) (fun S67 qS67 => ?_)
  have G_S67 := zz_Gm.nwa zX_91 G_S66 qS67 (by decide +kernel) (fun i _ => ⟨(by decide : (0 : Int) ≤ 0), (by decide : (0 : Int) ≤ 3)⟩)
  have F_S67 := zz_fr.nw F_S66 qS67 (by decide +kernel)
  refine zz_setn (n1 := 1112) (k1 := 32) (j1 := 11713) rfl rfl rfl ?_
  refine zz_putrF (kd := 0) 1111 zd_14_1_282 zf_Md_115 zT_1079 rfl (by decide) (by decide) rfl (fun _ => rfl) (fun _ => rfl) rfl (fun q h => by cases h; rfl) (fun S68 qS68 => ?_)
  have G_S68 := zz_Gm.put zX_92 G_S67 qS68 1111 1111 rfl (by decide) (by decide +kernel)
  have F_S68 := zz_fr.putc F_S67 qS68 (by decide +kernel)
  refine zz_aload_n (x := 1079) rfl zd_14_1_285 ?_
  refine zz_bipush (by decide) zd_14_1_286 ?_
  refine zz_newa (z := 10) (fun _ => 0) zd_14_1_288 zT_1112 rfl (mm_tb_1 183 (by decide +kernel) rfl) rfl (by decide) (by decide) (fun _ => rfl) (fun _ => rfl) (fun _ h => by cases h) (Nat.le_of_ble_eq_true rfl) (Nat.le_of_ble_eq_true rfl) (fun S69 qS69 => ?_)
  have G_S69 := zz_Gm.nwa zX_92 G_S68 qS69 (by decide +kernel) (fun i _ => ⟨(by decide : (0 : Int) ≤ 0), (by decide : (0 : Int) ≤ 1)⟩)
  have F_S69 := zz_fr.nw F_S68 qS69 (by decide +kernel)
  refine zz_setn (n1 := 1113) (k1 := 33) (j1 := 11723) rfl rfl rfl ?_
  refine zz_putrF (kd := 0) 1112 zd_14_1_290 zf_Md_118 zT_1079 rfl (by decide) (by decide) rfl (fun _ => rfl) (fun _ => rfl) rfl (fun q h => by cases h; rfl) (fun S70 qS70 => ?_)
  have G_S70 := zz_Gm.put zX_93 G_S69 qS70 1112 1112 rfl (by decide) (by decide +kernel)
  have F_S70 := zz_fr.putc F_S69 qS70 (by decide +kernel)
  refine zz_aload_n (x := 1079) rfl zd_14_1_293 ?_
  refine zz_bipush (by decide) zd_14_1_294 ?_
  refine zz_newa (z := 10) (fun _ => 0) zd_14_1_296 zT_1113 rfl (mm_tb_1 183 (by decide +kernel) rfl) rfl (by decide) (by decide) (fun _ => rfl) (fun _ => rfl) (fun _ h => by cases h) (Nat.le_of_ble_eq_true rfl) (Nat.le_of_ble_eq_true rfl) (fun S71 qS71 => ?_)
  have G_S71 := zz_Gm.nwa zX_93 G_S70 qS71 (by decide +kernel) (fun i _ => ⟨(by decide : (0 : Int) ≤ 0), (by decide : (0 : Int) ≤ 31)⟩)
  have F_S71 := zz_fr.nw F_S70 qS71 (by decide +kernel)
  refine zz_setn (n1 := 1114) (k1 := 34) (j1 := 11733) rfl rfl rfl ?_
  refine zz_putrF (kd := 0) 1113 zd_14_1_298 zf_Md_121 zT_1079 rfl (by decide) (by decide) rfl (fun _ => rfl) (fun _ => rfl) rfl (fun q h => by cases h; rfl) (fun S72 qS72 => ?_)
  have G_S72 := zz_Gm.put zX_94 G_S71 qS72 1113 1113 rfl (by decide) (by decide +kernel)
  have F_S72 := zz_fr.putc F_S71 qS72 (by decide +kernel)
  refine zz_aload_n (x := 1079) rfl zd_14_1_301 ?_
  refine zz_bipush (by decide) zd_14_1_302 ?_
  refine zz_newa (z := 10) (fun _ => 0) zd_14_1_304 zT_1114 rfl (mm_tb_1 183 (by decide +kernel) rfl) rfl (by decide) (by decide) (fun _ => rfl) (fun _ => rfl) (fun _ h => by cases h) (Nat.le_of_ble_eq_true rfl) (Nat.le_of_ble_eq_true rfl) (fun S73 qS73 => ?_)
  have G_S73 := zz_Gm.nwa zX_94 G_S72 qS73 (by decide +kernel) (fun i _ => ⟨(by decide : (0 : Int) ≤ 0), (by decide : (0 : Int) ≤ 4096)⟩)
  have F_S73 := zz_fr.nw F_S72 qS73 (by decide +kernel)
  refine zz_setn (n1 := 1115) (k1 := 35) (j1 := 11743) rfl rfl rfl ?_
  refine zz_putrF (kd := 0) 1114 zd_14_1_306 zf_Md_124 zT_1079 rfl (by decide) (by decide) rfl (fun _ => rfl) (fun _ => rfl) rfl (fun q h => by cases h; rfl) (fun S74 qS74 => ?_)
  have G_S74 := zz_Gm.put zX_95 G_S73 qS74 1114 1114 rfl (by decide) (by decide +kernel)
  have F_S74 := zz_fr.putc F_S73 qS74 (by decide +kernel)
  refine zz_aload_n (x := 1079) rfl zd_14_1_309 ?_
  refine zz_bipush (by decide) zd_14_1_310 ?_
  refine zz_newa (z := 10) (fun _ => 0) zd_14_1_312 zT_1115 rfl (mm_tb_1 183 (by decide +kernel) rfl) rfl (by decide) (by decide) (fun _ => rfl) (fun _ => rfl) (fun _ h => by cases h) (Nat.le_of_ble_eq_true rfl) (Nat.le_of_ble_eq_true rfl) (fun S75 qS75 => ?_)
  have G_S75 := zz_Gm.nwa zX_95 G_S74 qS75 (by decide +kernel) (fun i _ => ⟨(by decide : ((-2147483648) : Int) ≤ 0), (by decide : (0 : Int) ≤ 2147483647)⟩)
  have F_S75 := zz_fr.nw F_S74 qS75 (by decide +kernel)
  refine zz_setn (n1 := 1116) (k1 := 36) (j1 := 11753) rfl rfl rfl ?_
  refine zz_putrF (kd := 0) 1115 zd_14_1_314 zf_Md_127 zT_1079 rfl (by decide) (by decide) rfl (fun _ => rfl) (fun _ => rfl) rfl (fun q h => by cases h; rfl) (fun S76 qS76 => ?_)
  have G_S76 := zz_Gm.put zX_96 G_S75 qS76 1115 1115 rfl (by decide) (by decide +kernel)
  have F_S76 := zz_fr.putc F_S75 qS76 (by decide +kernel)
  have w_1079_1 : S76 1079 1 = 2 := (zz_ro qS76 (fun h => absurd h.2 (by decide)) (zz_nwo qS75 (by decide) (zz_ro qS74 (fun h => absurd h.2 (by decide)) (zz_nwo qS73 (by decide) (zz_ro qS72 (fun h => absurd h.2 (by decide)) (zz_nwo qS71 (by decide) (zz_ro qS70 (fun h => absurd h.2 (by decide)) (zz_nwo qS69 (by decide) (zz_ro qS68 (fun h => absurd h.2 (by decide)) (zz_nwo qS67 (by decide) (zz_ro qS66 (fun h => absurd h.2 (by decide)) (zz_nwo qS65 (by decide) w_1079_1))))))))))))
  have w_1079_28 : S76 1079 28 = S0 1079 28 := (zz_ro qS76 (fun h => absurd h.2 (by decide)) (zz_nwo qS75 (by decide) (zz_ro qS74 (fun h => absurd h.2 (by decide)) (zz_nwo qS73 (by decide) (zz_ro qS72 (fun h => absurd h.2 (by decide)) (zz_nwo qS71 (by decide) (zz_ro qS70 (fun h => absurd h.2 (by decide)) (zz_nwo qS69 (by decide) (zz_ro qS68 (fun h => absurd h.2 (by decide)) (zz_nwo qS67 (by decide) (zz_ro qS66 (fun h => absurd h.2 (by decide)) (zz_nwo qS65 (by decide) w_1079_28))))))))))))
  exact zb_init_14_1_c1079_1080_6 S0 S76 G_S76 F_S76 w_1079_1 w_1079_28
theorem zb_init_14_1_c1079_1080_4 {g : mm_G} {l : Launch} (S0 S52 : zz_S) (G_S52 : zz_Gm [1103, 1102, 1101, 1100, 1099, 1098, 1097, 1096, 1095, 1094, 1093, 1092, 1091, 1090, 1089, 1088, 1087, 1086, 1085, 1084, 1083, 1082, 1081, 1080, 1079] zX_84 S52) (F_S52 : zz_fr [(1079, 36), (1102, 0), (1103, 0), (1104, 0), (1105, 0), (1105, 1)] [1079, 1080, 1081, 1082, 1083, 1084, 1085, 1086, 1087, 1088, 1089, 1090, 1091, 1092, 1093, 1094, 1095, 1096, 1097, 1098, 1099, 1100, 1101, 1102, 1103, 1104, 1105, 1106, 1107, 1108, 1109, 1110, 1111, 1112, 1113, 1114, 1115, 1116, 1117, 1118, 1119, 1120] (fun _ _ => False) S0 S52) (w_1079_1 : S52 1079 1 = 2) (w_1079_28 : S52 1079 28 = S0 1079 28) : zz_E g l zy_init_14_1 zr_init_14_1_c1079_1080 (zz_QV 1121 (zp_init_14_1_c1079_1080 S0)) S52 1104 221 [some (.ref 1079)] [] 24 11630 := by
  refine zz_aload_n (x := 1079) rfl zd_14_1_221 ?_
  refine zz_bipush (by decide) zd_14_1_222 ?_
  refine zz_newa (z := 11) (fun _ => 0) zd_14_1_224 zT_1104 rfl (mm_tb_1 183 (by decide +kernel) rfl) rfl (by decide) (by decide) (fun _ => rfl) (fun _ => rfl) (fun _ h => by cases h) (Nat.le_of_ble_eq_true rfl) (Nat.le_of_ble_eq_true rfl) (fun S53 qS53 => ?_)
  have G_S53 := zz_Gm.nwa zX_84 G_S52 qS53 (by decide +kernel) (fun i _ => ⟨(by decide : (0 : Int) ≤ 0), (by decide : (0 : Int) ≤ 63)⟩)
  have F_S53 := zz_fr.nw F_S52 qS53 (by decide +kernel)
  refine zz_setn (n1 := 1105) (k1 := 25) (j1 := 11641) rfl rfl rfl ?_
  refine zz_putrF (kd := 0) 1104 zd_14_1_226 zf_Md_94 zT_1079 rfl (by decide) (by decide) rfl (fun _ => rfl) (fun _ => rfl) rfl (fun q h => by cases h; rfl) (fun S54 qS54 => ?_)
  have G_S54 := zz_Gm.put zX_85 G_S53 qS54 1104 1104 rfl (by decide) (by decide +kernel)
  have F_S54 := zz_fr.putc F_S53 qS54 (by decide +kernel)
  refine zz_aload_n (x := 1079) rfl zd_14_1_229 ?_
  refine zz_bipush (by decide) zd_14_1_230 ?_
  refine zz_newa (z := 12) (fun _ => 0) zd_14_1_232 zT_1105 rfl (mm_tb_1 183 (by decide +kernel) rfl) rfl (by decide) (by decide) (fun _ => rfl) (fun _ => rfl) (fun _ h => by cases h) (Nat.le_of_ble_eq_true rfl) (Nat.le_of_ble_eq_true rfl) (fun S55 qS55 => ?_)
  have G_S55 := zz_Gm.nwa zX_85 G_S54 qS55 (by decide +kernel) (fun i _ => ⟨(by decide : (0 : Int) ≤ 0), (by show (0 : Int) ≤ if i = 0 then 0 else 10000000; (repeat' split) <;> decide)⟩)
  have F_S55 := zz_fr.nw F_S54 qS55 (by decide +kernel)
  refine zz_setn (n1 := 1106) (k1 := 26) (j1 := 11653) rfl rfl rfl ?_
  refine zz_putrF (kd := 0) 1105 zd_14_1_234 zf_Md_97 zT_1079 rfl (by decide) (by decide) rfl (fun _ => rfl) (fun _ => rfl) rfl (fun q h => by cases h; rfl) (fun S56 qS56 => ?_)
  have G_S56 := zz_Gm.put zX_86 G_S55 qS56 1105 1105 rfl (by decide) (by decide +kernel)
  have F_S56 := zz_fr.putc F_S55 qS56 (by decide +kernel)
  refine zz_aload_n (x := 1079) rfl zd_14_1_237 ?_
  refine zz_bipush (by decide) zd_14_1_238 ?_
  refine zz_newa (z := 10) (fun _ => 0) zd_14_1_240 zT_1106 rfl (mm_tb_1 183 (by decide +kernel) rfl) rfl (by decide) (by decide) (fun _ => rfl) (fun _ => rfl) (fun _ h => by cases h) (Nat.le_of_ble_eq_true rfl) (Nat.le_of_ble_eq_true rfl) (fun S57 qS57 => ?_)
  have G_S57 := zz_Gm.nwa zX_86 G_S56 qS57 (by decide +kernel) (fun i _ => ⟨(by decide : (0 : Int) ≤ 0), (by decide : (0 : Int) ≤ 2)⟩)
  have F_S57 := zz_fr.nw F_S56 qS57 (by decide +kernel)
  refine zz_setn (n1 := 1107) (k1 := 27) (j1 := 11663) rfl rfl rfl ?_
  refine zz_putrF (kd := 0) 1106 zd_14_1_242 zf_Md_100 zT_1079 rfl (by decide) (by decide) rfl (fun _ => rfl) (fun _ => rfl) rfl (fun q h => by cases h; rfl) (fun S58 qS58 => ?_)
  have G_S58 := zz_Gm.put zX_87 G_S57 qS58 1106 1106 rfl (by decide) (by decide +kernel)
  have F_S58 := zz_fr.putc F_S57 qS58 (by decide +kernel)
  refine zz_aload_n (x := 1079) rfl zd_14_1_245 ?_
  refine zz_bipush (by decide) zd_14_1_246 ?_
  refine zz_newa (z := 10) (fun _ => 0) zd_14_1_248 zT_1107 rfl (mm_tb_1 183 (by decide +kernel) rfl) rfl (by decide) (by decide) (fun _ => rfl) (fun _ => rfl) (fun _ h => by cases h) (Nat.le_of_ble_eq_true rfl) (Nat.le_of_ble_eq_true rfl) (fun S59 qS59 => ?_)
  have G_S59 := zz_Gm.nwa zX_87 G_S58 qS59 (by decide +kernel) (fun i _ => ⟨(by decide : (0 : Int) ≤ 0), (by decide : (0 : Int) ≤ 10)⟩)
  have F_S59 := zz_fr.nw F_S58 qS59 (by decide +kernel)
  refine zz_setn (n1 := 1108) (k1 := 28) (j1 := 11673) rfl rfl rfl ?_
  refine zz_putrF (kd := 0) 1107 zd_14_1_250 zf_Md_103 zT_1079 rfl (by decide) (by decide) rfl (fun _ => rfl) (fun _ => rfl) rfl (fun q h => by cases h; rfl) (fun S60 qS60 => ?_)
  have G_S60 := zz_Gm.put zX_88 G_S59 qS60 1107 1107 rfl (by decide) (by decide +kernel)
  have F_S60 := zz_fr.putc F_S59 qS60 (by decide +kernel)
  refine zz_aload_n (x := 1079) rfl zd_14_1_253 ?_
  refine zz_bipush (by decide) zd_14_1_254 ?_
  refine zz_newa (z := 10) (fun _ => 0) zd_14_1_256 zT_1108 rfl (mm_tb_1 183 (by decide +kernel) rfl) rfl (by decide) (by decide) (fun _ => rfl) (fun _ => rfl) (fun _ h => by cases h) (Nat.le_of_ble_eq_true rfl) (Nat.le_of_ble_eq_true rfl) (fun S61 qS61 => ?_)
  have G_S61 := zz_Gm.nwa zX_88 G_S60 qS61 (by decide +kernel) (fun i _ => ⟨(by decide : (0 : Int) ≤ 0), (by decide : (0 : Int) ≤ 10)⟩)
  have F_S61 := zz_fr.nw F_S60 qS61 (by decide +kernel)
  refine zz_setn (n1 := 1109) (k1 := 29) (j1 := 11683) rfl rfl rfl ?_
  refine zz_putrF (kd := 0) 1108 zd_14_1_258 zf_Md_106 zT_1079 rfl (by decide) (by decide) rfl (fun _ => rfl) (fun _ => rfl) rfl (fun q h => by cases h; rfl) (fun S62 qS62 => ?_)
  have G_S62 := zz_Gm.put zX_89 G_S61 qS62 1108 1108 rfl (by decide) (by decide +kernel)
  have F_S62 := zz_fr.putc F_S61 qS62 (by decide +kernel)
  refine zz_aload_n (x := 1079) rfl zd_14_1_261 ?_
  refine zz_bipush (by decide) zd_14_1_262 ?_
  refine zz_newa (z := 10) (fun _ => 0) zd_14_1_264 zT_1109 rfl (mm_tb_1 183 (by decide +kernel) rfl) rfl (by decide) (by decide) (fun _ => rfl) (fun _ => rfl) (fun _ h => by cases h) (Nat.le_of_ble_eq_true rfl) (Nat.le_of_ble_eq_true rfl) (fun S63 qS63 => ?_)
  have G_S63 := zz_Gm.nwa zX_89 G_S62 qS63 (by decide +kernel) (fun i _ => ⟨(by decide : (0 : Int) ≤ 0), (by decide : (0 : Int) ≤ 3)⟩)
  have F_S63 := zz_fr.nw F_S62 qS63 (by decide +kernel)
  refine zz_setn (n1 := 1110) (k1 := 30) (j1 := 11693) rfl rfl rfl ?_
  refine zz_putrF (kd := 0) 1109 zd_14_1_266 zf_Md_109 zT_1079 rfl (by decide) (by decide) rfl (fun _ => rfl) (fun _ => rfl) rfl (fun q h => by cases h; rfl) (fun S64 qS64 => ?_)
  have G_S64 := zz_Gm.put zX_90 G_S63 qS64 1109 1109 rfl (by decide) (by decide +kernel)
  have F_S64 := zz_fr.putc F_S63 qS64 (by decide +kernel)
  have w_1079_1 : S64 1079 1 = 2 := (zz_ro qS64 (fun h => absurd h.2 (by decide)) (zz_nwo qS63 (by decide) (zz_ro qS62 (fun h => absurd h.2 (by decide)) (zz_nwo qS61 (by decide) (zz_ro qS60 (fun h => absurd h.2 (by decide)) (zz_nwo qS59 (by decide) (zz_ro qS58 (fun h => absurd h.2 (by decide)) (zz_nwo qS57 (by decide) (zz_ro qS56 (fun h => absurd h.2 (by decide)) (zz_nwo qS55 (by decide) (zz_ro qS54 (fun h => absurd h.2 (by decide)) (zz_nwo qS53 (by decide) w_1079_1))))))))))))
  have w_1079_28 : S64 1079 28 = S0 1079 28 := (zz_ro qS64 (fun h => absurd h.2 (by decide)) (zz_nwo qS63 (by decide) (zz_ro qS62 (fun h => absurd h.2 (by decide)) (zz_nwo qS61 (by decide) (zz_ro qS60 (fun h => absurd h.2 (by decide)) (zz_nwo qS59 (by decide) (zz_ro qS58 (fun h => absurd h.2 (by decide)) (zz_nwo qS57 (by decide) (zz_ro qS56 (fun h => absurd h.2 (by decide)) (zz_nwo qS55 (by decide) (zz_ro qS54 (fun h => absurd h.2 (by decide)) (zz_nwo qS53 (by decide) w_1079_28))))))))))))
  exact zb_init_14_1_c1079_1080_5 S0 S64 G_S64 F_S64 w_1079_1 w_1079_28

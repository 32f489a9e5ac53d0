abbrev zy_hasTokens_14_35 : mm_Y := (⟨"TensorForgeModel", "hasTokens", "(I)Z"⟩, prog_14_method_35_code, 2, (some .boolean))
theorem zyw_hasTokens_14_35 : mm_Yw zy_hasTokens_14_35 1 := ⟨mm_tb_1 1953 (by decide +kernel) rfl, mm_tb_1 12 (by decide +kernel) rfl, ⟨by decide, by decide⟩, by decide +kernel⟩
theorem zd_14_35_0 : zz_D zy_hasTokens_14_35 0 (.aload_n 0) 1 1 := ⟨by decide +kernel, rfl⟩
theorem zd_14_35_1 : zz_D zy_hasTokens_14_35 1 (.aload_n 0) 1 2 := ⟨by decide +kernel, rfl⟩
theorem zd_14_35_2 : zz_D zy_hasTokens_14_35 2 (.getfield 29) 3 5 := ⟨by decide +kernel, rfl⟩
theorem zd_14_35_5 : zz_D zy_hasTokens_14_35 5 (.aload_n 0) 1 6 := ⟨by decide +kernel, rfl⟩
theorem zd_14_35_6 : zz_D zy_hasTokens_14_35 6 (.getfield 73) 3 9 := ⟨by decide +kernel, rfl⟩
theorem zd_14_35_9 : zz_D zy_hasTokens_14_35 9 (.iload_n 1) 1 10 := ⟨by decide +kernel, rfl⟩
theorem zd_14_35_10 : zz_D zy_hasTokens_14_35 10 (.iaload) 1 11 := ⟨by decide +kernel, rfl⟩
theorem zd_14_35_11 : zz_D zy_hasTokens_14_35 11 (.laload) 1 12 := ⟨by decide +kernel, rfl⟩
theorem zd_14_35_12 : zz_D zy_hasTokens_14_35 12 (.invokevirtual 234) 3 15 := ⟨by decide +kernel, rfl⟩
theorem zd_14_35_15 : zz_D zy_hasTokens_14_35 15 (.aload_n 0) 1 16 := ⟨by decide +kernel, rfl⟩
theorem zd_14_35_16 : zz_D zy_hasTokens_14_35 16 (.getfield 51) 3 19 := ⟨by decide +kernel, rfl⟩
theorem zd_14_35_19 : zz_D zy_hasTokens_14_35 19 (.iload_n 1) 1 20 := ⟨by decide +kernel, rfl⟩
theorem zd_14_35_20 : zz_D zy_hasTokens_14_35 20 (.iconst 0) 1 21 := ⟨by decide +kernel, rfl⟩
theorem zd_14_35_21 : zz_D zy_hasTokens_14_35 21 (.invokestatic 275) 3 24 := ⟨by decide +kernel, rfl⟩
theorem zk_Md_275 : mm_Sl "TensorForgeModel" 275 2 zy_popped_14_31 := ⟨zyw_popped_14_31, mm_tb_1 1954 (by decide +kernel) rfl, mm_tb_1 1955 (by decide +kernel) rfl⟩
theorem zd_14_35_24 : zz_D zy_hasTokens_14_35 24 (.iaload) 1 25 := ⟨by decide +kernel, rfl⟩
theorem zd_14_35_25 : zz_D zy_hasTokens_14_35 25 (.aload_n 0) 1 26 := ⟨by decide +kernel, rfl⟩
theorem zd_14_35_26 : zz_D zy_hasTokens_14_35 26 (.getfield 36) 3 29 := ⟨by decide +kernel, rfl⟩
theorem zd_14_35_29 : zz_D zy_hasTokens_14_35 29 (.iconst 1) 1 30 := ⟨by decide +kernel, rfl⟩
theorem zd_14_35_30 : zz_D zy_hasTokens_14_35 30 (.iaload) 1 31 := ⟨by decide +kernel, rfl⟩
theorem zd_14_35_31 : zz_B zy_hasTokens_14_35 31 (Instr.if_icmp .lt) 57 34 := ⟨26, by decide +kernel, rfl, rfl⟩
theorem zd_14_35_57 : zz_D zy_hasTokens_14_35 57 (.iconst 0) 1 58 := ⟨by decide +kernel, rfl⟩
theorem zd_14_35_58 : zz_D zy_hasTokens_14_35 58 (.ireturn) 1 59 := ⟨by decide +kernel, rfl⟩
theorem zd_14_35_34 : zz_D zy_hasTokens_14_35 34 (.aload_n 0) 1 35 := ⟨by decide +kernel, rfl⟩
theorem zd_14_35_35 : zz_D zy_hasTokens_14_35 35 (.getfield 51) 3 38 := ⟨by decide +kernel, rfl⟩
theorem zd_14_35_38 : zz_D zy_hasTokens_14_35 38 (.iload_n 1) 1 39 := ⟨by decide +kernel, rfl⟩
theorem zd_14_35_39 : zz_D zy_hasTokens_14_35 39 (.iconst 1) 1 40 := ⟨by decide +kernel, rfl⟩
theorem zd_14_35_40 : zz_D zy_hasTokens_14_35 40 (.invokestatic 275) 3 43 := ⟨by decide +kernel, rfl⟩
theorem zd_14_35_43 : zz_D zy_hasTokens_14_35 43 (.iaload) 1 44 := ⟨by decide +kernel, rfl⟩
theorem zd_14_35_44 : zz_D zy_hasTokens_14_35 44 (.aload_n 0) 1 45 := ⟨by decide +kernel, rfl⟩
theorem zd_14_35_45 : zz_D zy_hasTokens_14_35 45 (.getfield 36) 3 48 := ⟨by decide +kernel, rfl⟩
theorem zd_14_35_48 : zz_D zy_hasTokens_14_35 48 (.iconst 2) 1 49 := ⟨by decide +kernel, rfl⟩
theorem zd_14_35_49 : zz_D zy_hasTokens_14_35 49 (.iaload) 1 50 := ⟨by decide +kernel, rfl⟩
theorem zd_14_35_50 : zz_B zy_hasTokens_14_35 50 (Instr.if_icmp .lt) 57 53 := ⟨7, by decide +kernel, rfl, rfl⟩
theorem zd_14_35_53 : zz_D zy_hasTokens_14_35 53 (.iconst 1) 1 54 := ⟨by decide +kernel, rfl⟩
theorem zd_14_35_54 : zz_B zy_hasTokens_14_35 54 Instr.goto 58 57 := ⟨4, by decide +kernel, rfl, rfl⟩
-- TensorForgeModel hasTokens (I)Z
abbrev zr_hasTokens_14_35 : Room := { frames := 3, cells := 0, slots := 0, locals := 49 }
def zp_hasTokens_14_35 (p0 : Int) (S0 : zz_S) : Int → zz_S → Prop := fun r S => zz_G S ∧ zz_fr [] [1087] (fun _ _ => False) S0 S ∧ (0 ≤ r ∧ r ≤ 1)
theorem zc_hasTokens_14_35 {g : mm_G} {l : Launch} (p0 : Int) (S0 : zz_S) (n : Nat) (hn : zz_end ≤ n) (G_S0 : zz_G S0) (hp0 : 0 ≤ p0 ∧ p0 ≤ 2) (hq : 0 ≤ S0 1098 p0.toNat ∧ S0 1098 p0.toNat ≤ 600) : mm_Met g l zy_hasTokens_14_35 zr_hasTokens_14_35 [.ref 1079, zi p0] (zz_M S0 n) n (zz_QI n (zp_hasTokens_14_35 p0 S0)) := by
  refine zz_enter (by decide) (Nat.le_of_ble_eq_true rfl) (zz_less (ls1 := [some (.ref 1079), some (zi p0)]) ⟨rfl, ⟨rfl, trivial⟩⟩ ?_)
  have F_S0 : zz_fr [] [1087] (fun _ _ => False) S0 S0 := zz_fr.refl
  refine zz_aload_n (x := 1079) rfl zd_14_35_0 ?_
  refine zz_aload_n (x := 1079) rfl zd_14_35_1 ?_
  refine zz_getr (kd := 0) (z := 1085) zd_14_35_2 zf_Md_29 zT_1079 rfl (zz_ltn hn rfl) (zz_G.eq G_S0 1079 8 1085 rfl rfl) (by decide) 1085 rfl ?_
  refine zz_aload_n (x := 1079) rfl zd_14_35_5 ?_
  refine zz_getr (kd := 0) (z := 1098) zd_14_35_6 zf_Md_73 zT_1079 rfl (zz_ltn hn rfl) (zz_G.eq G_S0 1079 26 1098 rfl rfl) (by decide) 1098 rfl ?_
  refine zz_iload_n (x := p0) rfl zd_14_35_9 ?_
  have g1 := zz_G.r G_S0 1098 p0.toNat (-1) 601 rfl rfl
  refine zz_iald (z := S0 1098 p0.toNat) zd_14_35_10 zT_1098 rfl (zz_ltn hn rfl) (by decide) (by omega) rfl ?_
  have g2 := zz_G.r G_S0 1085 ((S0 1098 p0.toNat).toNat) (-9223372036854775808) 9223372036854775807 rfl rfl
  refine zz_lald (z := S0 1085 ((S0 1098 p0.toNat).toNat)) zd_14_35_11 zT_1085 rfl (zz_ltn hn rfl) (by decide) (by omega) rfl ?_
  refine zz_callVV [zl (S0 1085 ((S0 1098 p0.toNat).toNat))] zd_14_35_12 zk_Md_234 zT_1079 (zz_ltn hn rfl) rfl rfl ⟨Nat.le_of_ble_eq_true rfl, Nat.le_of_ble_eq_true rfl⟩ ⟨rfl, rfl⟩ (Nat.zero_le _) (Nat.zero_le _) (zc_take_14_18 (S0 1085 ((S0 1098 p0.toNat).toNat)) S0 n hn G_S0 (by omega)) (fun S3 hP => ?_)
  obtain ⟨G_S3, fS3⟩ := hP
  have F_S3 := zz_fr.trans F_S0 fS3 rfl zz_nv
  refine zz_aload_n (x := 1079) rfl zd_14_35_15 ?_
  refine zz_getr (kd := 0) (z := 1091) zd_14_35_16 zf_Md_51 zT_1079 rfl (zz_ltn hn rfl) (zz_G.eq G_S3 1079 18 1091 rfl rfl) (by decide) 1091 rfl ?_
  refine zz_iload_n (x := p0) rfl zd_14_35_19 ?_
  refine zz_iconst zd_14_35_20 ?_
  refine zz_callSI [zi p0, zi 0] zd_14_35_21 zk_Md_275 rfl rfl ⟨Nat.le_of_ble_eq_true rfl, Nat.le_of_ble_eq_true rfl⟩ ⟨rfl, rfl⟩ (Nat.zero_le _) (Nat.zero_le _) (zc_popped_14_31 p0 0 S3 n hn G_S3 (by omega) (by omega)) (fun v6 S5 hP => ?_)
  obtain ⟨rfl, o7⟩ := hP
  have g8 := zz_G.r G_S0 1091 v6.toNat (-2147483648) 2147483647 rfl rfl
  refine zz_iald (z := S0 1091 v6.toNat) zd_14_35_24 zT_1091 rfl (zz_ltn hn rfl) (by decide) (by omega) (zz_rc fS3 (zz_nc1 rfl) rfl (fun h => h) rfl) ?_
  refine zz_aload_n (x := 1079) rfl zd_14_35_25 ?_
  refine zz_getr (kd := 0) (z := 1087) zd_14_35_26 zf_Md_36 zT_1079 rfl (zz_ltn hn rfl) (zz_G.eq G_S3 1079 11 1087 rfl rfl) (by decide) 1087 rfl ?_
  refine zz_iconst zd_14_35_29 ?_
  have g9 := zz_G.r G_S3 1087 1 (-2147483648) 2147483647 rfl rfl
  refine zz_iald (z := S3 1087 1) zd_14_35_30 zT_1087 rfl (zz_ltn hn rfl) (by decide) (by decide) rfl ?_
  refine zz_icmp_lt (by omega) (by omega) zd_14_35_31 (fun c10 => ?_) (fun c10 => ?_)
  · refine zz_iconst zd_14_35_57 ?_
    exact zz_zret zd_14_35_58 rfl (by omega) (Nat.zero_le _) (Nat.zero_le _) ⟨_, _, rfl, G_S3, F_S3, by omega⟩
  · refine zz_aload_n (x := 1079) rfl zd_14_35_34 ?_
    refine zz_getr (kd := 0) (z := 1091) zd_14_35_35 zf_Md_51 zT_1079 rfl (zz_ltn hn rfl) (zz_G.eq G_S3 1079 18 1091 rfl rfl) (by decide) 1091 rfl ?_
    refine zz_iload_n (x := p0) rfl zd_14_35_38 ?_
    refine zz_iconst zd_14_35_39 ?_
    refine zz_callSI [zi p0, zi 1] zd_14_35_40 zk_Md_275 rfl rfl ⟨Nat.le_of_ble_eq_true rfl, Nat.le_of_ble_eq_true rfl⟩ ⟨rfl, rfl⟩ (Nat.zero_le _) (Nat.zero_le _) (zc_popped_14_31 p0 1 S3 n hn G_S3 (by omega) (by omega)) (fun v12 S11 hP => ?_)
    obtain ⟨rfl, o13⟩ := hP
    have g14 := zz_G.r G_S0 1091 v12.toNat (-2147483648) 2147483647 rfl rfl
    refine zz_iald (z := S0 1091 v12.toNat) zd_14_35_43 zT_1091 rfl (zz_ltn hn rfl) (by decide) (by omega) (zz_rc fS3 (zz_nc1 rfl) rfl (fun h => h) rfl) ?_
    refine zz_aload_n (x := 1079) rfl zd_14_35_44 ?_
    refine zz_getr (kd := 0) (z := 1087) zd_14_35_45 zf_Md_36 zT_1079 rfl (zz_ltn hn rfl) (zz_G.eq G_S3 1079 11 1087 rfl rfl) (by decide) 1087 rfl ?_
    refine zz_iconst zd_14_35_48 ?_
    have g15 := zz_G.r G_S3 1087 2 (-2147483648) 2147483647 rfl rfl
    refine zz_iald (z := S3 1087 2) zd_14_35_49 zT_1087 rfl (zz_ltn hn rfl) (by decide) (by decide) rfl ?_
    refine zz_icmp_lt (by omega) (by omega) zd_14_35_50 (fun c16 => ?_) (fun c16 => ?_)
    · refine zz_iconst zd_14_35_57 ?_
      exact zz_zret zd_14_35_58 rfl (by omega) (Nat.zero_le _) (Nat.zero_le _) ⟨_, _, rfl, G_S3, F_S3, by omega⟩
    · refine zz_iconst zd_14_35_53 ?_
      refine zz_goto zd_14_35_54 ?_
      exact zz_zret zd_14_35_58 rfl (by omega) (Nat.zero_le _) (Nat.zero_le _) ⟨_, _, rfl, G_S3, F_S3, by omega⟩
abbrev zy_races_14_37 : mm_Y := (⟨"TensorForgeModel", "races", "(II)Z"⟩, prog_14_method_37_code, 7, (some .boolean))
theorem zyw_races_14_37 : mm_Yw zy_races_14_37 2 := ⟨mm_tb_1 1960 (by decide +kernel) rfl, mm_tb_1 12 (by decide +kernel) rfl, ⟨by decide, by decide⟩, by decide +kernel⟩
theorem zd_14_37_0 : zz_D zy_races_14_37 0 (.aload_n 0) 1 1 := ⟨by decide +kernel, rfl⟩
theorem zd_14_37_1 : zz_D zy_races_14_37 1 (.aload_n 0) 1 2 := ⟨by decide +kernel, rfl⟩
theorem zd_14_37_2 : zz_D zy_races_14_37 2 (.getfield 29) 3 5 := ⟨by decide +kernel, rfl⟩
theorem zd_14_37_5 : zz_D zy_races_14_37 5 (.iload_n 1) 1 6 := ⟨by decide +kernel, rfl⟩
theorem zd_14_37_6 : zz_D zy_races_14_37 6 (.laload) 1 7 := ⟨by decide +kernel, rfl⟩
theorem zd_14_37_7 : zz_D zy_races_14_37 7 (.invokevirtual 234) 3 10 := ⟨by decide +kernel, rfl⟩
theorem zd_14_37_10 : zz_D zy_races_14_37 10 (.aload_n 0) 1 11 := ⟨by decide +kernel, rfl⟩
theorem zd_14_37_11 : zz_D zy_races_14_37 11 (.invokevirtual 247) 3 14 := ⟨by decide +kernel, rfl⟩
theorem zd_14_37_14 : zz_D zy_races_14_37 14 (.iconst 0) 1 15 := ⟨by decide +kernel, rfl⟩
theorem zd_14_37_15 : zz_D zy_races_14_37 15 (.istore_n 3) 1 16 := ⟨by decide +kernel, rfl⟩
theorem zd_14_37_16 : zz_D zy_races_14_37 16 (.iload_n 3) 1 17 := ⟨by decide +kernel, rfl⟩
theorem zd_14_37_17 : zz_D zy_races_14_37 17 (.bipush 10) 2 19 := ⟨by decide +kernel, rfl⟩
theorem zd_14_37_19 : zz_B zy_races_14_37 19 (Instr.if_icmp .ge) 52 22 := ⟨33, by decide +kernel, rfl, rfl⟩
theorem zd_14_37_22 : zz_D zy_races_14_37 22 (.aload_n 0) 1 23 := ⟨by decide +kernel, rfl⟩
theorem zd_14_37_23 : zz_D zy_races_14_37 23 (.getfield 127) 3 26 := ⟨by decide +kernel, rfl⟩
theorem zf_Md_127 : mm_Fl "TensorForgeModel" 127 11 58 (.array .int) true := ⟨R_Md, F_Md, 69, t_Md, rfl, i_Md, by decide, mm_tb_1 1669 (by decide +kernel) rfl, rfl, t_Md_ok, n_Md, rfl, by decide +kernel⟩
theorem zd_14_37_26 : zz_D zy_races_14_37 26 (.iload_n 3) 1 27 := ⟨by decide +kernel, rfl⟩
theorem zd_14_37_27 : zz_D zy_races_14_37 27 (.aload_n 0) 1 28 := ⟨by decide +kernel, rfl⟩
theorem zd_14_37_28 : zz_D zy_races_14_37 28 (.getfield 39) 3 31 := ⟨by decide +kernel, rfl⟩
theorem zd_14_37_31 : zz_D zy_races_14_37 31 (.iload_n 3) 1 32 := ⟨by decide +kernel, rfl⟩
theorem zd_14_37_32 : zz_D zy_races_14_37 32 (.iaload) 1 33 := ⟨by decide +kernel, rfl⟩
theorem zd_14_37_33 : zz_D zy_races_14_37 33 (.iastore) 1 34 := ⟨by decide +kernel, rfl⟩
theorem zd_14_37_34 : zz_D zy_races_14_37 34 (.aload_n 0) 1 35 := ⟨by decide +kernel, rfl⟩
theorem zd_14_37_35 : zz_D zy_races_14_37 35 (.getfield 130) 3 38 := ⟨by decide +kernel, rfl⟩
theorem zf_Md_130 : mm_Fl "TensorForgeModel" 130 11 59 (.array .int) true := ⟨R_Md, F_Md, 69, t_Md, rfl, i_Md, by decide, mm_tb_1 1670 (by decide +kernel) rfl, rfl, t_Md_ok, n_Md, rfl, by decide +kernel⟩
theorem zd_14_37_38 : zz_D zy_races_14_37 38 (.iload_n 3) 1 39 := ⟨by decide +kernel, rfl⟩
theorem zd_14_37_39 : zz_D zy_races_14_37 39 (.aload_n 0) 1 40 := ⟨by decide +kernel, rfl⟩
theorem zd_14_37_40 : zz_D zy_races_14_37 40 (.getfield 42) 3 43 := ⟨by decide +kernel, rfl⟩
theorem zd_14_37_43 : zz_D zy_races_14_37 43 (.iload_n 3) 1 44 := ⟨by decide +kernel, rfl⟩
theorem zd_14_37_44 : zz_D zy_races_14_37 44 (.iaload) 1 45 := ⟨by decide +kernel, rfl⟩
theorem zd_14_37_45 : zz_D zy_races_14_37 45 (.iastore) 1 46 := ⟨by decide +kernel, rfl⟩
theorem zd_14_37_46 : zz_D zy_races_14_37 46 (.iinc 3 1) 3 49 := ⟨by decide +kernel, rfl⟩
theorem zd_14_37_49 : zz_B zy_races_14_37 49 Instr.goto 16 52 := ⟨(-33), by decide +kernel, rfl, rfl⟩
theorem zd_14_37_52 : zz_D zy_races_14_37 52 (.iconst 0) 1 53 := ⟨by decide +kernel, rfl⟩
theorem zd_14_37_53 : zz_D zy_races_14_37 53 (.istore_n 3) 1 54 := ⟨by decide +kernel, rfl⟩
theorem zd_14_37_54 : zz_D zy_races_14_37 54 (.iconst 0) 1 55 := ⟨by decide +kernel, rfl⟩
theorem zd_14_37_55 : zz_D zy_races_14_37 55 (.istore 4) 2 57 := ⟨by decide +kernel, rfl⟩
theorem zd_14_37_57 : zz_D zy_races_14_37 57 (.iload 4) 2 59 := ⟨by decide +kernel, rfl⟩
theorem zd_14_37_59 : zz_D zy_races_14_37 59 (.iconst 3) 1 60 := ⟨by decide +kernel, rfl⟩
theorem zd_14_37_60 : zz_B zy_races_14_37 60 (Instr.if_icmp .ge) 182 63 := ⟨122, by decide +kernel, rfl, rfl⟩
theorem zd_14_37_63 : zz_D zy_races_14_37 63 (.aload_n 0) 1 64 := ⟨by decide +kernel, rfl⟩
theorem zd_14_37_64 : zz_D zy_races_14_37 64 (.getfield 70) 3 67 := ⟨by decide +kernel, rfl⟩
theorem zd_14_37_67 : zz_D zy_races_14_37 67 (.iload 4) 2 69 := ⟨by decide +kernel, rfl⟩
theorem zd_14_37_69 : zz_D zy_races_14_37 69 (.iaload) 1 70 := ⟨by decide +kernel, rfl⟩
theorem zd_14_37_70 : zz_D zy_races_14_37 70 (.istore 5) 2 72 := ⟨by decide +kernel, rfl⟩
theorem zd_14_37_72 : zz_D zy_races_14_37 72 (.iload 5) 2 74 := ⟨by decide +kernel, rfl⟩
theorem zd_14_37_74 : zz_B zy_races_14_37 74 (Instr.ifCond .lt) 176 77 := ⟨102, by decide +kernel, rfl, rfl⟩
theorem zd_14_37_176 : zz_D zy_races_14_37 176 (.iinc 4 1) 3 179 := ⟨by decide +kernel, rfl⟩
theorem zd_14_37_179 : zz_B zy_races_14_37 179 Instr.goto 57 182 := ⟨(-122), by decide +kernel, rfl, rfl⟩
theorem zd_14_37_77 : zz_D zy_races_14_37 77 (.aload_n 0) 1 78 := ⟨by decide +kernel, rfl⟩
theorem zd_14_37_78 : zz_D zy_races_14_37 78 (.getfield 60) 3 81 := ⟨by decide +kernel, rfl⟩
theorem zd_14_37_81 : zz_D zy_races_14_37 81 (.iload 5) 2 83 := ⟨by decide +kernel, rfl⟩
theorem zd_14_37_83 : zz_D zy_races_14_37 83 (.iaload) 1 84 := ⟨by decide +kernel, rfl⟩
theorem zd_14_37_84 : zz_D zy_races_14_37 84 (.iload_n 2) 1 85 := ⟨by decide +kernel, rfl⟩
theorem zd_14_37_85 : zz_B zy_races_14_37 85 (Instr.if_icmp .le) 176 88 := ⟨91, by decide +kernel, rfl, rfl⟩
theorem zd_14_37_88 : zz_D zy_races_14_37 88 (.aload_n 0) 1 89 := ⟨by decide +kernel, rfl⟩
theorem zd_14_37_89 : zz_D zy_races_14_37 89 (.aload_n 0) 1 90 := ⟨by decide +kernel, rfl⟩
theorem zd_14_37_90 : zz_D zy_races_14_37 90 (.getfield 29) 3 93 := ⟨by decide +kernel, rfl⟩
theorem zd_14_37_93 : zz_D zy_races_14_37 93 (.iload 5) 2 95 := ⟨by decide +kernel, rfl⟩
theorem zd_14_37_95 : zz_D zy_races_14_37 95 (.laload) 1 96 := ⟨by decide +kernel, rfl⟩
theorem zd_14_37_96 : zz_D zy_races_14_37 96 (.invokevirtual 234) 3 99 := ⟨by decide +kernel, rfl⟩
theorem zd_14_37_99 : zz_D zy_races_14_37 99 (.aload_n 0) 1 100 := ⟨by decide +kernel, rfl⟩
theorem zd_14_37_100 : zz_D zy_races_14_37 100 (.invokevirtual 247) 3 103 := ⟨by decide +kernel, rfl⟩
theorem zd_14_37_103 : zz_D zy_races_14_37 103 (.iconst 0) 1 104 := ⟨by decide +kernel, rfl⟩
theorem zd_14_37_104 : zz_D zy_races_14_37 104 (.istore 6) 2 106 := ⟨by decide +kernel, rfl⟩
theorem zd_14_37_106 : zz_D zy_races_14_37 106 (.iload 6) 2 108 := ⟨by decide +kernel, rfl⟩
theorem zd_14_37_108 : zz_D zy_races_14_37 108 (.iconst 5) 1 109 := ⟨by decide +kernel, rfl⟩
theorem zd_14_37_109 : zz_B zy_races_14_37 109 (Instr.if_icmp .ge) 176 112 := ⟨67, by decide +kernel, rfl, rfl⟩
theorem zd_14_37_112 : zz_D zy_races_14_37 112 (.iload_n 3) 1 113 := ⟨by decide +kernel, rfl⟩
theorem zd_14_37_113 : zz_B zy_races_14_37 113 (Instr.ifCond .ne) 164 116 := ⟨51, by decide +kernel, rfl, rfl⟩
theorem zd_14_37_116 : zz_D zy_races_14_37 116 (.aload_n 0) 1 117 := ⟨by decide +kernel, rfl⟩
theorem zd_14_37_117 : zz_D zy_races_14_37 117 (.getfield 127) 3 120 := ⟨by decide +kernel, rfl⟩
theorem zd_14_37_120 : zz_D zy_races_14_37 120 (.aload_n 0) 1 121 := ⟨by decide +kernel, rfl⟩
theorem zd_14_37_121 : zz_D zy_races_14_37 121 (.getfield 42) 3 124 := ⟨by decide +kernel, rfl⟩
theorem zd_14_37_124 : zz_D zy_races_14_37 124 (.iload 6) 2 126 := ⟨by decide +kernel, rfl⟩
theorem zd_14_37_126 : zz_D zy_races_14_37 126 (.invokestatic 278) 3 129 := ⟨by decide +kernel, rfl⟩
abbrev zy_meet_14_36 : mm_Y := (⟨"TensorForgeModel", "meet", "([I[II)Z"⟩, prog_14_method_36_code, 3, (some .boolean))
theorem zyw_meet_14_36 : mm_Yw zy_meet_14_36 3 := ⟨mm_tb_1 1963 (by decide +kernel) rfl, mm_tb_1 12 (by decide +kernel) rfl, ⟨by decide, by decide⟩, by decide +kernel⟩
theorem zd_14_36_0 : zz_D zy_meet_14_36 0 (.aload_n 0) 1 1 := ⟨by decide +kernel, rfl⟩
theorem zd_14_36_1 : zz_D zy_meet_14_36 1 (.iconst 2) 1 2 := ⟨by decide +kernel, rfl⟩
theorem zd_14_36_2 : zz_D zy_meet_14_36 2 (.iload_n 2) 1 3 := ⟨by decide +kernel, rfl⟩
theorem zd_14_36_3 : zz_D zy_meet_14_36 3 (.imul) 1 4 := ⟨by decide +kernel, rfl⟩
theorem zd_14_36_4 : zz_D zy_meet_14_36 4 (.iaload) 1 5 := ⟨by decide +kernel, rfl⟩
theorem zd_14_36_5 : zz_D zy_meet_14_36 5 (.aload_n 1) 1 6 := ⟨by decide +kernel, rfl⟩
theorem zd_14_36_6 : zz_D zy_meet_14_36 6 (.iconst 2) 1 7 := ⟨by decide +kernel, rfl⟩
theorem zd_14_36_7 : zz_D zy_meet_14_36 7 (.iload_n 2) 1 8 := ⟨by decide +kernel, rfl⟩
theorem zd_14_36_8 : zz_D zy_meet_14_36 8 (.imul) 1 9 := ⟨by decide +kernel, rfl⟩
theorem zd_14_36_9 : zz_D zy_meet_14_36 9 (.iconst 1) 1 10 := ⟨by decide +kernel, rfl⟩
theorem zd_14_36_10 : zz_D zy_meet_14_36 10 (.iadd) 1 11 := ⟨by decide +kernel, rfl⟩
theorem zd_14_36_11 : zz_D zy_meet_14_36 11 (.iaload) 1 12 := ⟨by decide +kernel, rfl⟩
theorem zd_14_36_12 : zz_B zy_meet_14_36 12 (Instr.if_icmp .gt) 64 15 := ⟨52, by decide +kernel, rfl, rfl⟩
theorem zd_14_36_64 : zz_D zy_meet_14_36 64 (.iconst 0) 1 65 := ⟨by decide +kernel, rfl⟩
theorem zd_14_36_65 : zz_D zy_meet_14_36 65 (.ireturn) 1 66 := ⟨by decide +kernel, rfl⟩
theorem zd_14_36_15 : zz_D zy_meet_14_36 15 (.aload_n 1) 1 16 := ⟨by decide +kernel, rfl⟩
theorem zd_14_36_16 : zz_D zy_meet_14_36 16 (.iconst 2) 1 17 := ⟨by decide +kernel, rfl⟩
theorem zd_14_36_17 : zz_D zy_meet_14_36 17 (.iload_n 2) 1 18 := ⟨by decide +kernel, rfl⟩
theorem zd_14_36_18 : zz_D zy_meet_14_36 18 (.imul) 1 19 := ⟨by decide +kernel, rfl⟩
theorem zd_14_36_19 : zz_D zy_meet_14_36 19 (.iaload) 1 20 := ⟨by decide +kernel, rfl⟩
theorem zd_14_36_20 : zz_D zy_meet_14_36 20 (.aload_n 0) 1 21 := ⟨by decide +kernel, rfl⟩
theorem zd_14_36_21 : zz_D zy_meet_14_36 21 (.iconst 2) 1 22 := ⟨by decide +kernel, rfl⟩
theorem zd_14_36_22 : zz_D zy_meet_14_36 22 (.iload_n 2) 1 23 := ⟨by decide +kernel, rfl⟩
theorem zd_14_36_23 : zz_D zy_meet_14_36 23 (.imul) 1 24 := ⟨by decide +kernel, rfl⟩
theorem zd_14_36_24 : zz_D zy_meet_14_36 24 (.iconst 1) 1 25 := ⟨by decide +kernel, rfl⟩
theorem zd_14_36_25 : zz_D zy_meet_14_36 25 (.iadd) 1 26 := ⟨by decide +kernel, rfl⟩
theorem zd_14_36_26 : zz_D zy_meet_14_36 26 (.iaload) 1 27 := ⟨by decide +kernel, rfl⟩
theorem zd_14_36_27 : zz_B zy_meet_14_36 27 (Instr.if_icmp .gt) 64 30 := ⟨37, by decide +kernel, rfl, rfl⟩
theorem zd_14_36_30 : zz_D zy_meet_14_36 30 (.aload_n 0) 1 31 := ⟨by decide +kernel, rfl⟩
theorem zd_14_36_31 : zz_D zy_meet_14_36 31 (.iconst 2) 1 32 := ⟨by decide +kernel, rfl⟩
theorem zd_14_36_32 : zz_D zy_meet_14_36 32 (.iload_n 2) 1 33 := ⟨by decide +kernel, rfl⟩
theorem zd_14_36_33 : zz_D zy_meet_14_36 33 (.imul) 1 34 := ⟨by decide +kernel, rfl⟩
theorem zd_14_36_34 : zz_D zy_meet_14_36 34 (.iaload) 1 35 := ⟨by decide +kernel, rfl⟩
theorem zd_14_36_35 : zz_D zy_meet_14_36 35 (.aload_n 0) 1 36 := ⟨by decide +kernel, rfl⟩
theorem zd_14_36_36 : zz_D zy_meet_14_36 36 (.iconst 2) 1 37 := ⟨by decide +kernel, rfl⟩
theorem zd_14_36_37 : zz_D zy_meet_14_36 37 (.iload_n 2) 1 38 := ⟨by decide +kernel, rfl⟩
theorem zd_14_36_38 : zz_D zy_meet_14_36 38 (.imul) 1 39 := ⟨by decide +kernel, rfl⟩
theorem zd_14_36_39 : zz_D zy_meet_14_36 39 (.iconst 1) 1 40 := ⟨by decide +kernel, rfl⟩
theorem zd_14_36_40 : zz_D zy_meet_14_36 40 (.iadd) 1 41 := ⟨by decide +kernel, rfl⟩
theorem zd_14_36_41 : zz_D zy_meet_14_36 41 (.iaload) 1 42 := ⟨by decide +kernel, rfl⟩
theorem zd_14_36_42 : zz_B zy_meet_14_36 42 (Instr.if_icmp .gt) 64 45 := ⟨22, by decide +kernel, rfl, rfl⟩
theorem zd_14_36_45 : zz_D zy_meet_14_36 45 (.aload_n 1) 1 46 := ⟨by decide +kernel, rfl⟩
theorem zd_14_36_46 : zz_D zy_meet_14_36 46 (.iconst 2) 1 47 := ⟨by decide +kernel, rfl⟩
theorem zd_14_36_47 : zz_D zy_meet_14_36 47 (.iload_n 2) 1 48 := ⟨by decide +kernel, rfl⟩
theorem zd_14_36_48 : zz_D zy_meet_14_36 48 (.imul) 1 49 := ⟨by decide +kernel, rfl⟩
theorem zd_14_36_49 : zz_D zy_meet_14_36 49 (.iaload) 1 50 := ⟨by decide +kernel, rfl⟩
theorem zd_14_36_50 : zz_D zy_meet_14_36 50 (.aload_n 1) 1 51 := ⟨by decide +kernel, rfl⟩
theorem zd_14_36_51 : zz_D zy_meet_14_36 51 (.iconst 2) 1 52 := ⟨by decide +kernel, rfl⟩
theorem zd_14_36_52 : zz_D zy_meet_14_36 52 (.iload_n 2) 1 53 := ⟨by decide +kernel, rfl⟩
theorem zd_14_36_53 : zz_D zy_meet_14_36 53 (.imul) 1 54 := ⟨by decide +kernel, rfl⟩
theorem zd_14_36_54 : zz_D zy_meet_14_36 54 (.iconst 1) 1 55 := ⟨by decide +kernel, rfl⟩
theorem zd_14_36_55 : zz_D zy_meet_14_36 55 (.iadd) 1 56 := ⟨by decide +kernel, rfl⟩
theorem zd_14_36_56 : zz_D zy_meet_14_36 56 (.iaload) 1 57 := ⟨by decide +kernel, rfl⟩
theorem zd_14_36_57 : zz_B zy_meet_14_36 57 (Instr.if_icmp .gt) 64 60 := ⟨7, by decide +kernel, rfl, rfl⟩
theorem zd_14_36_60 : zz_D zy_meet_14_36 60 (.iconst 1) 1 61 := ⟨by decide +kernel, rfl⟩
theorem zd_14_36_61 : zz_B zy_meet_14_36 61 Instr.goto 65 64 := ⟨4, by decide +kernel, rfl, rfl⟩
-- TensorForgeModel meet ([I[II)Z
abbrev zr_meet_14_36_1115_1089 : Room := { frames := 0, cells := 0, slots := 0, locals := 0 }
def zp_meet_14_36_1115_1089 (p2 : Int) (S0 : zz_S) : Int → zz_S → Prop := fun r S => S0 = S ∧ (0 ≤ r ∧ r ≤ 1)
theorem zc_meet_14_36_1115_1089 {g : mm_G} {l : Launch} (p2 : Int) (S0 : zz_S) (n : Nat) (hn : zz_end ≤ n) (G_S0 : zz_G S0) (hp2 : 0 ≤ p2 ∧ p2 ≤ 4) : mm_Met g l zy_meet_14_36 zr_meet_14_36_1115_1089 [.ref 1115, .ref 1089, zi p2] (zz_M S0 n) n (zz_QI n (zp_meet_14_36_1115_1089 p2 S0)) := by
  refine zz_enter (by decide) (Nat.le_of_ble_eq_true rfl) (zz_less (ls1 := [some (.ref 1115), some (.ref 1089), some (zi p2)]) ⟨rfl, ⟨rfl, ⟨rfl, trivial⟩⟩⟩ ?_)
  refine zz_aload_n (x := 1115) rfl zd_14_36_0 ?_
  refine zz_iconst zd_14_36_1 ?_
  refine zz_iload_n (x := p2) rfl zd_14_36_2 ?_
  refine zz_imul zd_14_36_3 ?_
  have g1 := zz_G.r G_S0 1115 ((2 * p2).toNat) (-2147483648) 2147483647 rfl rfl
  refine zz_iald (z := S0 1115 ((2 * p2).toNat)) zd_14_36_4 zT_1115 rfl (zz_ltn hn rfl) (by decide) (by omega) rfl ?_
  refine zz_aload_n (x := 1089) rfl zd_14_36_5 ?_
  refine zz_iconst zd_14_36_6 ?_
  refine zz_iload_n (x := p2) rfl zd_14_36_7 ?_
  refine zz_imul zd_14_36_8 ?_
  refine zz_iconst zd_14_36_9 ?_
  refine zz_iadd zd_14_36_10 ?_
  have g2 := zz_G.r G_S0 1089 (((2 * p2) + 1).toNat) (-2147483648) 2147483647 rfl rfl
  refine zz_iald (z := S0 1089 (((2 * p2) + 1).toNat)) zd_14_36_11 zT_1089 rfl (zz_ltn hn rfl) (by decide) (by omega) rfl ?_
  refine zz_icmp_gt (by omega) (by omega) zd_14_36_12 (fun c3 => ?_) (fun c3 => ?_)
  · refine zz_iconst zd_14_36_64 ?_
    exact zz_zret zd_14_36_65 rfl (by omega) (Nat.zero_le _) (Nat.zero_le _) ⟨_, _, rfl, rfl, by omega⟩
  · refine zz_aload_n (x := 1089) rfl zd_14_36_15 ?_
    refine zz_iconst zd_14_36_16 ?_
    refine zz_iload_n (x := p2) rfl zd_14_36_17 ?_
    refine zz_imul zd_14_36_18 ?_
    have g4 := zz_G.r G_S0 1089 ((2 * p2).toNat) (-2147483648) 2147483647 rfl rfl
    refine zz_iald (z := S0 1089 ((2 * p2).toNat)) zd_14_36_19 zT_1089 rfl (zz_ltn hn rfl) (by decide) (by omega) rfl ?_
    refine zz_aload_n (x := 1115) rfl zd_14_36_20 ?_
    refine zz_iconst zd_14_36_21 ?_
    refine zz_iload_n (x := p2) rfl zd_14_36_22 ?_
    refine zz_imul zd_14_36_23 ?_
    refine zz_iconst zd_14_36_24 ?_
    refine zz_iadd zd_14_36_25 ?_
    have g5 := zz_G.r G_S0 1115 (((2 * p2) + 1).toNat) (-2147483648) 2147483647 rfl rfl
    refine zz_iald (z := S0 1115 (((2 * p2) + 1).toNat)) zd_14_36_26 zT_1115 rfl (zz_ltn hn rfl) (by decide) (by omega) rfl ?_
    refine zz_icmp_gt (by omega) (by omega) zd_14_36_27 (fun c6 => ?_) (fun c6 => ?_)
    · refine zz_iconst zd_14_36_64 ?_
      exact zz_zret zd_14_36_65 rfl (by omega) (Nat.zero_le _) (Nat.zero_le _) ⟨_, _, rfl, rfl, by omega⟩
    · refine zz_aload_n (x := 1115) rfl zd_14_36_30 ?_
      refine zz_iconst zd_14_36_31 ?_
      refine zz_iload_n (x := p2) rfl zd_14_36_32 ?_
      refine zz_imul zd_14_36_33 ?_
      refine zz_iald (z := S0 1115 ((2 * p2).toNat)) zd_14_36_34 zT_1115 rfl (zz_ltn hn rfl) (by decide) (by omega) rfl ?_
      refine zz_aload_n (x := 1115) rfl zd_14_36_35 ?_
      refine zz_iconst zd_14_36_36 ?_
      refine zz_iload_n (x := p2) rfl zd_14_36_37 ?_
      refine zz_imul zd_14_36_38 ?_
      refine zz_iconst zd_14_36_39 ?_
      refine zz_iadd zd_14_36_40 ?_
      refine zz_iald (z := S0 1115 (((2 * p2) + 1).toNat)) zd_14_36_41 zT_1115 rfl (zz_ltn hn rfl) (by decide) (by omega) rfl ?_
      refine zz_icmp_gt (by omega) (by omega) zd_14_36_42 (fun c7 => ?_) (fun c7 => ?_)
      · refine zz_iconst zd_14_36_64 ?_
        exact zz_zret zd_14_36_65 rfl (by omega) (Nat.zero_le _) (Nat.zero_le _) ⟨_, _, rfl, rfl, by omega⟩
      · refine zz_aload_n (x := 1089) rfl zd_14_36_45 ?_
        refine zz_iconst zd_14_36_46 ?_
        refine zz_iload_n (x := p2) rfl zd_14_36_47 ?_
        refine zz_imul zd_14_36_48 ?_
        refine zz_iald (z := S0 1089 ((2 * p2).toNat)) zd_14_36_49 zT_1089 rfl (zz_ltn hn rfl) (by decide) (by omega) rfl ?_
        refine zz_aload_n (x := 1089) rfl zd_14_36_50 ?_
        refine zz_iconst zd_14_36_51 ?_
        refine zz_iload_n (x := p2) rfl zd_14_36_52 ?_
        refine zz_imul zd_14_36_53 ?_
        refine zz_iconst zd_14_36_54 ?_
        refine zz_iadd zd_14_36_55 ?_
        refine zz_iald (z := S0 1089 (((2 * p2) + 1).toNat)) zd_14_36_56 zT_1089 rfl (zz_ltn hn rfl) (by decide) (by omega) rfl ?_
        refine zz_icmp_gt (by omega) (by omega) zd_14_36_57 (fun c8 => ?_) (fun c8 => ?_)
        · refine zz_iconst zd_14_36_64 ?_
          exact zz_zret zd_14_36_65 rfl (by omega) (Nat.zero_le _) (Nat.zero_le _) ⟨_, _, rfl, rfl, by omega⟩
        · refine zz_iconst zd_14_36_60 ?_
          refine zz_goto zd_14_36_61 ?_
          exact zz_zret zd_14_36_65 rfl (by omega) (Nat.zero_le _) (Nat.zero_le _) ⟨_, _, rfl, rfl, by omega⟩
theorem zk_Md_278 : mm_Sl "TensorForgeModel" 278 3 zy_meet_14_36 := ⟨zyw_meet_14_36, mm_tb_1 1961 (by decide +kernel) rfl, mm_tb_1 1962 (by decide +kernel) rfl⟩
theorem zd_14_37_129 : zz_B zy_races_14_37 129 (Instr.ifCond .ne) 164 132 := ⟨35, by decide +kernel, rfl, rfl⟩
theorem zd_14_37_132 : zz_D zy_races_14_37 132 (.aload_n 0) 1 133 := ⟨by decide +kernel, rfl⟩
theorem zd_14_37_133 : zz_D zy_races_14_37 133 (.getfield 130) 3 136 := ⟨by decide +kernel, rfl⟩
theorem zd_14_37_136 : zz_D zy_races_14_37 136 (.aload_n 0) 1 137 := ⟨by decide +kernel, rfl⟩
theorem zd_14_37_137 : zz_D zy_races_14_37 137 (.getfield 42) 3 140 := ⟨by decide +kernel, rfl⟩
theorem zd_14_37_140 : zz_D zy_races_14_37 140 (.iload 6) 2 142 := ⟨by decide +kernel, rfl⟩
theorem zd_14_37_142 : zz_D zy_races_14_37 142 (.invokestatic 278) 3 145 := ⟨by decide +kernel, rfl⟩
-- TensorForgeModel meet ([I[II)Z
abbrev zr_meet_14_36_1116_1089 : Room := { frames := 0, cells := 0, slots := 0, locals := 0 }
def zp_meet_14_36_1116_1089 (p2 : Int) (S0 : zz_S) : Int → zz_S → Prop := fun r S => S0 = S ∧ (0 ≤ r ∧ r ≤ 1)
theorem zc_meet_14_36_1116_1089 {g : mm_G} {l : Launch} (p2 : Int) (S0 : zz_S) (n : Nat) (hn : zz_end ≤ n) (G_S0 : zz_G S0) (hp2 : 0 ≤ p2 ∧ p2 ≤ 4) : mm_Met g l zy_meet_14_36 zr_meet_14_36_1116_1089 [.ref 1116, .ref 1089, zi p2] (zz_M S0 n) n (zz_QI n (zp_meet_14_36_1116_1089 p2 S0)) := by
  refine zz_enter (by decide) (Nat.le_of_ble_eq_true rfl) (zz_less (ls1 := [some (.ref 1116), some (.ref 1089), some (zi p2)]) ⟨rfl, ⟨rfl, ⟨rfl, trivial⟩⟩⟩ ?_)
  refine zz_aload_n (x := 1116) rfl zd_14_36_0 ?_
  refine zz_iconst zd_14_36_1 ?_
  refine zz_iload_n (x := p2) rfl zd_14_36_2 ?_
  refine zz_imul zd_14_36_3 ?_
  have g1 := zz_G.r G_S0 1116 ((2 * p2).toNat) (-2147483648) 2147483647 rfl rfl
  refine zz_iald (z := S0 1116 ((2 * p2).toNat)) zd_14_36_4 zT_1116 rfl (zz_ltn hn rfl) (by decide) (by omega) rfl ?_
  refine zz_aload_n (x := 1089) rfl zd_14_36_5 ?_
  refine zz_iconst zd_14_36_6 ?_
  refine zz_iload_n (x := p2) rfl zd_14_36_7 ?_
  refine zz_imul zd_14_36_8 ?_
  refine zz_iconst zd_14_36_9 ?_
  refine zz_iadd zd_14_36_10 ?_
  have g2 := zz_G.r G_S0 1089 (((2 * p2) + 1).toNat) (-2147483648) 2147483647 rfl rfl
  refine zz_iald (z := S0 1089 (((2 * p2) + 1).toNat)) zd_14_36_11 zT_1089 rfl (zz_ltn hn rfl) (by decide) (by omega) rfl ?_
  refine zz_icmp_gt (by omega) (by omega) zd_14_36_12 (fun c3 => ?_) (fun c3 => ?_)
  · refine zz_iconst zd_14_36_64 ?_
    exact zz_zret zd_14_36_65 rfl (by omega) (Nat.zero_le _) (Nat.zero_le _) ⟨_, _, rfl, rfl, by omega⟩
  · refine zz_aload_n (x := 1089) rfl zd_14_36_15 ?_
    refine zz_iconst zd_14_36_16 ?_
    refine zz_iload_n (x := p2) rfl zd_14_36_17 ?_
    refine zz_imul zd_14_36_18 ?_
    have g4 := zz_G.r G_S0 1089 ((2 * p2).toNat) (-2147483648) 2147483647 rfl rfl
    refine zz_iald (z := S0 1089 ((2 * p2).toNat)) zd_14_36_19 zT_1089 rfl (zz_ltn hn rfl) (by decide) (by omega) rfl ?_
    refine zz_aload_n (x := 1116) rfl zd_14_36_20 ?_
    refine zz_iconst zd_14_36_21 ?_
    refine zz_iload_n (x := p2) rfl zd_14_36_22 ?_
    refine zz_imul zd_14_36_23 ?_
    refine zz_iconst zd_14_36_24 ?_
    refine zz_iadd zd_14_36_25 ?_
    have g5 := zz_G.r G_S0 1116 (((2 * p2) + 1).toNat) (-2147483648) 2147483647 rfl rfl
    refine zz_iald (z := S0 1116 (((2 * p2) + 1).toNat)) zd_14_36_26 zT_1116 rfl (zz_ltn hn rfl) (by decide) (by omega) rfl ?_
    refine zz_icmp_gt (by omega) (by omega) zd_14_36_27 (fun c6 => ?_) (fun c6 => ?_)
    · refine zz_iconst zd_14_36_64 ?_
      exact zz_zret zd_14_36_65 rfl (by omega) (Nat.zero_le _) (Nat.zero_le _) ⟨_, _, rfl, rfl, by omega⟩
    · refine zz_aload_n (x := 1116) rfl zd_14_36_30 ?_
      refine zz_iconst zd_14_36_31 ?_
      refine zz_iload_n (x := p2) rfl zd_14_36_32 ?_
      refine zz_imul zd_14_36_33 ?_
      refine zz_iald (z := S0 1116 ((2 * p2).toNat)) zd_14_36_34 zT_1116 rfl (zz_ltn hn rfl) (by decide) (by omega) rfl ?_
      refine zz_aload_n (x := 1116) rfl zd_14_36_35 ?_
      refine zz_iconst zd_14_36_36 ?_
      refine zz_iload_n (x := p2) rfl zd_14_36_37 ?_
      refine zz_imul zd_14_36_38 ?_
      refine zz_iconst zd_14_36_39 ?_
      refine zz_iadd zd_14_36_40 ?_
      refine zz_iald (z := S0 1116 (((2 * p2) + 1).toNat)) zd_14_36_41 zT_1116 rfl (zz_ltn hn rfl) (by decide) (by omega) rfl ?_
      refine zz_icmp_gt (by omega) (by omega) zd_14_36_42 (fun c7 => ?_) (fun c7 => ?_)
      · refine zz_iconst zd_14_36_64 ?_
        exact zz_zret zd_14_36_65 rfl (by omega) (Nat.zero_le _) (Nat.zero_le _) ⟨_, _, rfl, rfl, by omega⟩
      · refine zz_aload_n (x := 1089) rfl zd_14_36_45 ?_
        refine zz_iconst zd_14_36_46 ?_
        refine zz_iload_n (x := p2) rfl zd_14_36_47 ?_
        refine zz_imul zd_14_36_48 ?_
        refine zz_iald (z := S0 1089 ((2 * p2).toNat)) zd_14_36_49 zT_1089 rfl (zz_ltn hn rfl) (by decide) (by omega) rfl ?_
        refine zz_aload_n (x := 1089) rfl zd_14_36_50 ?_
        refine zz_iconst zd_14_36_51 ?_
        refine zz_iload_n (x := p2) rfl zd_14_36_52 ?_
        refine zz_imul zd_14_36_53 ?_
        refine zz_iconst zd_14_36_54 ?_
        refine zz_iadd zd_14_36_55 ?_
        refine zz_iald (z := S0 1089 (((2 * p2) + 1).toNat)) zd_14_36_56 zT_1089 rfl (zz_ltn hn rfl) (by decide) (by omega) rfl ?_
        refine zz_icmp_gt (by omega) (by omega) zd_14_36_57 (fun c8 => ?_) (fun c8 => ?_)
        · refine zz_iconst zd_14_36_64 ?_
          exact zz_zret zd_14_36_65 rfl (by omega) (Nat.zero_le _) (Nat.zero_le _) ⟨_, _, rfl, rfl, by omega⟩
        · refine zz_iconst zd_14_36_60 ?_
          refine zz_goto zd_14_36_61 ?_
          exact zz_zret zd_14_36_65 rfl (by omega) (Nat.zero_le _) (Nat.zero_le _) ⟨_, _, rfl, rfl, by omega⟩
theorem zd_14_37_145 : zz_B zy_races_14_37 145 (Instr.ifCond .ne) 164 148 := ⟨19, by decide +kernel, rfl, rfl⟩
theorem zd_14_37_148 : zz_D zy_races_14_37 148 (.aload_n 0) 1 149 := ⟨by decide +kernel, rfl⟩
theorem zd_14_37_149 : zz_D zy_races_14_37 149 (.getfield 130) 3 152 := ⟨by decide +kernel, rfl⟩
theorem zd_14_37_152 : zz_D zy_races_14_37 152 (.aload_n 0) 1 153 := ⟨by decide +kernel, rfl⟩
theorem zd_14_37_153 : zz_D zy_races_14_37 153 (.getfield 39) 3 156 := ⟨by decide +kernel, rfl⟩
theorem zd_14_37_156 : zz_D zy_races_14_37 156 (.iload 6) 2 158 := ⟨by decide +kernel, rfl⟩
theorem zd_14_37_158 : zz_D zy_races_14_37 158 (.invokestatic 278) 3 161 := ⟨by decide +kernel, rfl⟩
-- TensorForgeModel meet ([I[II)Z
abbrev zr_meet_14_36_1116_1088 : Room := { frames := 0, cells := 0, slots := 0, locals := 0 }
def zp_meet_14_36_1116_1088 (p2 : Int) (S0 : zz_S) : Int → zz_S → Prop := fun r S => S0 = S ∧ (0 ≤ r ∧ r ≤ 1)
theorem zc_meet_14_36_1116_1088 {g : mm_G} {l : Launch} (p2 : Int) (S0 : zz_S) (n : Nat) (hn : zz_end ≤ n) (G_S0 : zz_G S0) (hp2 : 0 ≤ p2 ∧ p2 ≤ 4) : mm_Met g l zy_meet_14_36 zr_meet_14_36_1116_1088 [.ref 1116, .ref 1088, zi p2] (zz_M S0 n) n (zz_QI n (zp_meet_14_36_1116_1088 p2 S0)) := by
  refine zz_enter (by decide) (Nat.le_of_ble_eq_true rfl) (zz_less (ls1 := [some (.ref 1116), some (.ref 1088), some (zi p2)]) ⟨rfl, ⟨rfl, ⟨rfl, trivial⟩⟩⟩ ?_)
  refine zz_aload_n (x := 1116) rfl zd_14_36_0 ?_
  refine zz_iconst zd_14_36_1 ?_
  refine zz_iload_n (x := p2) rfl zd_14_36_2 ?_
  refine zz_imul zd_14_36_3 ?_
  have g1 := zz_G.r G_S0 1116 ((2 * p2).toNat) (-2147483648) 2147483647 rfl rfl
  refine zz_iald (z := S0 1116 ((2 * p2).toNat)) zd_14_36_4 zT_1116 rfl (zz_ltn hn rfl) (by decide) (by omega) rfl ?_
  refine zz_aload_n (x := 1088) rfl zd_14_36_5 ?_
  refine zz_iconst zd_14_36_6 ?_
  refine zz_iload_n (x := p2) rfl zd_14_36_7 ?_
  refine zz_imul zd_14_36_8 ?_
  refine zz_iconst zd_14_36_9 ?_
  refine zz_iadd zd_14_36_10 ?_
  have g2 := zz_G.r G_S0 1088 (((2 * p2) + 1).toNat) (-2147483648) 2147483647 rfl rfl
  refine zz_iald (z := S0 1088 (((2 * p2) + 1).toNat)) zd_14_36_11 zT_1088 rfl (zz_ltn hn rfl) (by decide) (by omega) rfl ?_
  refine zz_icmp_gt (by omega) (by omega) zd_14_36_12 (fun c3 => ?_) (fun c3 => ?_)
  · refine zz_iconst zd_14_36_64 ?_
    exact zz_zret zd_14_36_65 rfl (by omega) (Nat.zero_le _) (Nat.zero_le _) ⟨_, _, rfl, rfl, by omega⟩
  · refine zz_aload_n (x := 1088) rfl zd_14_36_15 ?_
    refine zz_iconst zd_14_36_16 ?_
    refine zz_iload_n (x := p2) rfl zd_14_36_17 ?_
    refine zz_imul zd_14_36_18 ?_
    have g4 := zz_G.r G_S0 1088 ((2 * p2).toNat) (-2147483648) 2147483647 rfl rfl
    refine zz_iald (z := S0 1088 ((2 * p2).toNat)) zd_14_36_19 zT_1088 rfl (zz_ltn hn rfl) (by decide) (by omega) rfl ?_
    refine zz_aload_n (x := 1116) rfl zd_14_36_20 ?_
    refine zz_iconst zd_14_36_21 ?_
    refine zz_iload_n (x := p2) rfl zd_14_36_22 ?_
    refine zz_imul zd_14_36_23 ?_
    refine zz_iconst zd_14_36_24 ?_
    refine zz_iadd zd_14_36_25 ?_
    have g5 := zz_G.r G_S0 1116 (((2 * p2) + 1).toNat) (-2147483648) 2147483647 rfl rfl
    refine zz_iald (z := S0 1116 (((2 * p2) + 1).toNat)) zd_14_36_26 zT_1116 rfl (zz_ltn hn rfl) (by decide) (by omega) rfl ?_
    refine zz_icmp_gt (by omega) (by omega) zd_14_36_27 (fun c6 => ?_) (fun c6 => ?_)
    · refine zz_iconst zd_14_36_64 ?_
      exact zz_zret zd_14_36_65 rfl (by omega) (Nat.zero_le _) (Nat.zero_le _) ⟨_, _, rfl, rfl, by omega⟩
    · refine zz_aload_n (x := 1116) rfl zd_14_36_30 ?_
      refine zz_iconst zd_14_36_31 ?_
      refine zz_iload_n (x := p2) rfl zd_14_36_32 ?_
      refine zz_imul zd_14_36_33 ?_
      refine zz_iald (z := S0 1116 ((2 * p2).toNat)) zd_14_36_34 zT_1116 rfl (zz_ltn hn rfl) (by decide) (by omega) rfl ?_
      refine zz_aload_n (x := 1116) rfl zd_14_36_35 ?_
      refine zz_iconst zd_14_36_36 ?_
      refine zz_iload_n (x := p2) rfl zd_14_36_37 ?_
      refine zz_imul zd_14_36_38 ?_
      refine zz_iconst zd_14_36_39 ?_
      refine zz_iadd zd_14_36_40 ?_
      refine zz_iald (z := S0 1116 (((2 * p2) + 1).toNat)) zd_14_36_41 zT_1116 rfl (zz_ltn hn rfl) (by decide) (by omega) rfl ?_
      refine zz_icmp_gt (by omega) (by omega) zd_14_36_42 (fun c7 => ?_) (fun c7 => ?_)
      · refine zz_iconst zd_14_36_64 ?_
        exact zz_zret zd_14_36_65 rfl (by omega) (Nat.zero_le _) (Nat.zero_le _) ⟨_, _, rfl, rfl, by omega⟩
      · refine zz_aload_n (x := 1088) rfl zd_14_36_45 ?_
        refine zz_iconst zd_14_36_46 ?_
        refine zz_iload_n (x := p2) rfl zd_14_36_47 ?_
        refine zz_imul zd_14_36_48 ?_
        refine zz_iald (z := S0 1088 ((2 * p2).toNat)) zd_14_36_49 zT_1088 rfl (zz_ltn hn rfl) (by decide) (by omega) rfl ?_
        refine zz_aload_n (x := 1088) rfl zd_14_36_50 ?_
        refine zz_iconst zd_14_36_51 ?_
        refine zz_iload_n (x := p2) rfl zd_14_36_52 ?_
        refine zz_imul zd_14_36_53 ?_
        refine zz_iconst zd_14_36_54 ?_
        refine zz_iadd zd_14_36_55 ?_
        refine zz_iald (z := S0 1088 (((2 * p2) + 1).toNat)) zd_14_36_56 zT_1088 rfl (zz_ltn hn rfl) (by decide) (by omega) rfl ?_
        refine zz_icmp_gt (by omega) (by omega) zd_14_36_57 (fun c8 => ?_) (fun c8 => ?_)
        · refine zz_iconst zd_14_36_64 ?_
          exact zz_zret zd_14_36_65 rfl (by omega) (Nat.zero_le _) (Nat.zero_le _) ⟨_, _, rfl, rfl, by omega⟩
        · refine zz_iconst zd_14_36_60 ?_
          refine zz_goto zd_14_36_61 ?_
          exact zz_zret zd_14_36_65 rfl (by omega) (Nat.zero_le _) (Nat.zero_le _) ⟨_, _, rfl, rfl, by omega⟩
theorem zd_14_37_161 : zz_B zy_races_14_37 161 (Instr.ifCond .eq) 168 164 := ⟨7, by decide +kernel, rfl, rfl⟩
theorem zd_14_37_168 : zz_D zy_races_14_37 168 (.iconst 0) 1 169 := ⟨by decide +kernel, rfl⟩
theorem zd_14_37_169 : zz_D zy_races_14_37 169 (.istore_n 3) 1 170 := ⟨by decide +kernel, rfl⟩
theorem zd_14_37_170 : zz_D zy_races_14_37 170 (.iinc 6 1) 3 173 := ⟨by decide +kernel, rfl⟩
theorem zd_14_37_173 : zz_B zy_races_14_37 173 Instr.goto 106 176 := ⟨(-67), by decide +kernel, rfl, rfl⟩
theorem zd_14_37_164 : zz_D zy_races_14_37 164 (.iconst 1) 1 165 := ⟨by decide +kernel, rfl⟩
theorem zd_14_37_165 : zz_B zy_races_14_37 165 Instr.goto 169 168 := ⟨4, by decide +kernel, rfl, rfl⟩
theorem zd_14_37_182 : zz_D zy_races_14_37 182 (.aload_n 0) 1 183 := ⟨by decide +kernel, rfl⟩
theorem zd_14_37_183 : zz_D zy_races_14_37 183 (.aload_n 0) 1 184 := ⟨by decide +kernel, rfl⟩
theorem zd_14_37_184 : zz_D zy_races_14_37 184 (.getfield 29) 3 187 := ⟨by decide +kernel, rfl⟩
theorem zd_14_37_187 : zz_D zy_races_14_37 187 (.iload_n 1) 1 188 := ⟨by decide +kernel, rfl⟩
theorem zd_14_37_188 : zz_D zy_races_14_37 188 (.laload) 1 189 := ⟨by decide +kernel, rfl⟩
theorem zd_14_37_189 : zz_D zy_races_14_37 189 (.invokevirtual 234) 3 192 := ⟨by decide +kernel, rfl⟩
theorem zd_14_37_192 : zz_D zy_races_14_37 192 (.iload_n 3) 1 193 := ⟨by decide +kernel, rfl⟩
theorem zd_14_37_193 : zz_D zy_races_14_37 193 (.ireturn) 1 194 := ⟨by decide +kernel, rfl⟩
-- TensorForgeModel races (II)Z
abbrev zr_races_14_37 : Room := { frames := 3, cells := 0, slots := 0, locals := 49 }
def zp_races_14_37 (p0 : Int) (p1 : Int) (S0 : zz_S) : Int → zz_S → Prop := fun r S => zz_G S ∧ zz_fr [] [1087, 1088, 1089, 1115, 1116] (fun _ _ => False) S0 S ∧ (0 ≤ r ∧ r ≤ 1)
theorem zb_races_14_37_16 {g : mm_G} {l : Launch} (p0 : Int) (p1 : Int) (S0 : zz_S) (n : Nat) (hn : zz_end ≤ n) (G_S0 : zz_G S0) (hp0 : 0 ≤ p0 ∧ p0 ≤ 600) (hp1 : (-2147483648) ≤ p1 ∧ p1 ≤ 2147483647) (x3 : Int) (S : zz_S) (G_S : zz_G S) (F_S : zz_fr [] [1087, 1088, 1089, 1115, 1116] (fun _ _ => False) S0 S) (i16_0 : 0 ≤ x3 ∧ x3 ≤ 10) (R : Nat) (hR : (51539607552 + (10 - x3).toNat) * 1099511627776 + 1099511627775 = R) (k16 : ∀ (x3 : Int) (S : zz_S), zz_G S → zz_fr [] [1087, 1088, 1089, 1115, 1116] (fun _ _ => False) S0 S → (0 ≤ x3 ∧ x3 ≤ 10) → (51539607552 + (10 - x3).toNat) * 1099511627776 + 1099511627775 < R → zz_E g l zy_races_14_37 zr_races_14_37 (zz_QI n (zp_races_14_37 p0 p1 S0)) S n 16 [some (.ref 1079), some (zi p0), some (zi p1), some (zi x3)] [] 0 0) (k57 : ∀ (x3 : Int) (x4 : Int) (S : zz_S), zz_G S → zz_fr [] [1087, 1088, 1089, 1115, 1116] (fun _ _ => False) S0 S → (0 ≤ x3 ∧ x3 ≤ 1) → (0 ≤ x4 ∧ x4 ≤ 3) → (34359738368 + (3 - x4).toNat) * 1099511627776 + 1099511627775 < R → zz_E g l zy_races_14_37 zr_races_14_37 (zz_QI n (zp_races_14_37 p0 p1 S0)) S n 57 [some (.ref 1079), some (zi p0), some (zi p1), some (zi x3), some (zi x4)] [] 0 0) : zz_E g l zy_races_14_37 zr_races_14_37 (zz_QI n (zp_races_14_37 p0 p1 S0)) S n 16 [some (.ref 1079), some (zi p0), some (zi p1), some (zi x3)] [] 0 0 := by
  refine zz_iload_n (x := x3) rfl zd_14_37_16 ?_
  refine zz_bipush (by decide) zd_14_37_17 ?_
  refine zz_icmp_ge (by omega) (by omega) zd_14_37_19 (fun c6 => ?_) (fun c6 => ?_)
  · refine zz_iconst zd_14_37_52 ?_
    refine zz_istore_n [some (.ref 1079), some (zi p0), some (zi p1), some (zi 0)] zd_14_37_53 (by decide) rfl ?_
    refine zz_iconst zd_14_37_54 ?_
    refine zz_istore [some (.ref 1079), some (zi p0), some (zi p1), some (zi 0), some (zi 0)] zd_14_37_55 (by decide) rfl ?_
    refine zz_less (ls1 := [some (.ref 1079), some (zi p0), some (zi p1), some (zi 0), some (zi 0)]) ⟨rfl, ⟨rfl, ⟨rfl, ⟨rfl, ⟨rfl, trivial⟩⟩⟩⟩⟩ ?_
    exact k57 0 0 S G_S F_S (by omega) (by omega) (by omega)
  · refine zz_aload_n (x := 1079) rfl zd_14_37_22 ?_
    refine zz_getr (kd := 0) (z := 1115) zd_14_37_23 zf_Md_127 zT_1079 rfl (zz_ltn hn rfl) (zz_G.eq G_S 1079 58 1115 rfl rfl) (by decide) 1115 rfl ?_
    refine zz_iload_n (x := x3) rfl zd_14_37_26 ?_
    refine zz_aload_n (x := 1079) rfl zd_14_37_27 ?_
    refine zz_getr (kd := 0) (z := 1088) zd_14_37_28 zf_Md_39 zT_1079 rfl (zz_ltn hn rfl) (zz_G.eq G_S 1079 12 1088 rfl rfl) (by decide) 1088 rfl ?_
    refine zz_iload_n (x := x3) rfl zd_14_37_31 ?_
    have g7 := zz_G.r G_S 1088 x3.toNat (-2147483648) 2147483647 rfl rfl
    refine zz_iald (z := S 1088 x3.toNat) zd_14_37_32 zT_1088 rfl (zz_ltn hn rfl) (by decide) (by omega) rfl ?_
    refine zz_iast zd_14_37_33 zT_1115 rfl (zz_ltn hn rfl) (by decide) (by omega) (fun S8 qS8 => ?_)
    have G_S8 := zz_G.put G_S qS8 (-2147483648) 2147483647 rfl (by omega)
    have F_S8 := zz_fr.putc F_S qS8 rfl
    refine zz_aload_n (x := 1079) rfl zd_14_37_34 ?_
    refine zz_getr (kd := 0) (z := 1116) zd_14_37_35 zf_Md_130 zT_1079 rfl (zz_ltn hn rfl) (zz_G.eq G_S8 1079 59 1116 rfl rfl) (by decide) 1116 rfl ?_
    refine zz_iload_n (x := x3) rfl zd_14_37_38 ?_
    refine zz_aload_n (x := 1079) rfl zd_14_37_39 ?_
    refine zz_getr (kd := 0) (z := 1089) zd_14_37_40 zf_Md_42 zT_1079 rfl (zz_ltn hn rfl) (zz_G.eq G_S8 1079 13 1089 rfl rfl) (by decide) 1089 rfl ?_
    refine zz_iload_n (x := x3) rfl zd_14_37_43 ?_
    have g9 := zz_G.r G_S 1089 x3.toNat (-2147483648) 2147483647 rfl rfl
    refine zz_iald (z := S 1089 x3.toNat) zd_14_37_44 zT_1089 rfl (zz_ltn hn rfl) (by decide) (by omega) (zz_ro qS8 (fun h => absurd h.1 (by decide)) rfl) ?_
    refine zz_iast zd_14_37_45 zT_1116 rfl (zz_ltn hn rfl) (by decide) (by omega) (fun S10 qS10 => ?_)
    have G_S10 := zz_G.put G_S8 qS10 (-2147483648) 2147483647 rfl (by omega)
    have F_S10 := zz_fr.putc F_S8 qS10 rfl
    refine zz_iinc [some (.ref 1079), some (zi p0), some (zi p1), some (zi (x3 + 1))] zd_14_37_46 rfl rfl ?_
    refine zz_goto zd_14_37_49 ?_
    refine zz_less (ls1 := [some (.ref 1079), some (zi p0), some (zi p1), some (zi (x3 + 1))]) ⟨rfl, ⟨rfl, ⟨rfl, ⟨rfl, trivial⟩⟩⟩⟩ ?_
    exact k16 (x3 + 1) S10 G_S10 F_S10 (by omega) (by omega)
theorem zb_races_14_37_57 {g : mm_G} {l : Launch} (p0 : Int) (p1 : Int) (S0 : zz_S) (n : Nat) (hn : zz_end ≤ n) (G_S0 : zz_G S0) (hp0 : 0 ≤ p0 ∧ p0 ≤ 600) (hp1 : (-2147483648) ≤ p1 ∧ p1 ≤ 2147483647) (x3 : Int) (x4 : Int) (S : zz_S) (G_S : zz_G S) (F_S : zz_fr [] [1087, 1088, 1089, 1115, 1116] (fun _ _ => False) S0 S) (i57_0 : 0 ≤ x3 ∧ x3 ≤ 1) (i57_1 : 0 ≤ x4 ∧ x4 ≤ 3) (R : Nat) (hR : (34359738368 + (3 - x4).toNat) * 1099511627776 + 1099511627775 = R) (k57 : ∀ (x3 : Int) (x4 : Int) (S : zz_S), zz_G S → zz_fr [] [1087, 1088, 1089, 1115, 1116] (fun _ _ => False) S0 S → (0 ≤ x3 ∧ x3 ≤ 1) → (0 ≤ x4 ∧ x4 ≤ 3) → (34359738368 + (3 - x4).toNat) * 1099511627776 + 1099511627775 < R → zz_E g l zy_races_14_37 zr_races_14_37 (zz_QI n (zp_races_14_37 p0 p1 S0)) S n 57 [some (.ref 1079), some (zi p0), some (zi p1), some (zi x3), some (zi x4)] [] 0 0) (k106 : ∀ (x3 : Int) (x4 : Int) (x6 : Int) (S : zz_S), zz_G S → zz_fr [] [1087, 1088, 1089, 1115, 1116] (fun _ _ => False) S0 S → (0 ≤ x3 ∧ x3 ≤ 1) → (0 ≤ x4 ∧ x4 ≤ 2) → (0 ≤ x6 ∧ x6 ≤ 5) → (0 ≤ x4 ∧ x4 ≤ 3) → (x4 < 3) → ((-2147483648) ≤ p1 ∧ p1 ≤ 2147483646) → (34359738368 + (3 - x4).toNat) * 1099511627776 + (17179869184 + (5 - x6).toNat) < R → zz_E g l zy_races_14_37 zr_races_14_37 (zz_QI n (zp_races_14_37 p0 p1 S0)) S n 106 [some (.ref 1079), some (zi p0), some (zi p1), some (zi x3), some (zi x4), none, some (zi x6)] [] 0 0) : zz_E g l zy_races_14_37 zr_races_14_37 (zz_QI n (zp_races_14_37 p0 p1 S0)) S n 57 [some (.ref 1079), some (zi p0), some (zi p1), some (zi x3), some (zi x4)] [] 0 0 := by
  refine zz_iload (x := x4) rfl zd_14_37_57 ?_
  refine zz_iconst zd_14_37_59 ?_
  refine zz_icmp_ge (by omega) (by omega) zd_14_37_60 (fun c11 => ?_) (fun c11 => ?_)
  · refine zz_aload_n (x := 1079) rfl zd_14_37_182 ?_
    refine zz_aload_n (x := 1079) rfl zd_14_37_183 ?_
    refine zz_getr (kd := 0) (z := 1085) zd_14_37_184 zf_Md_29 zT_1079 rfl (zz_ltn hn rfl) (zz_G.eq G_S 1079 8 1085 rfl rfl) (by decide) 1085 rfl ?_
    refine zz_iload_n (x := p0) rfl zd_14_37_187 ?_
    have g12 := zz_G.r G_S0 1085 p0.toNat (-9223372036854775808) 9223372036854775807 rfl rfl
    refine zz_lald (z := S0 1085 p0.toNat) zd_14_37_188 zT_1085 rfl (zz_ltn hn rfl) (by decide) (by omega) (zz_rc F_S (zz_nc1 rfl) rfl (fun h => h) rfl) ?_
    refine zz_callVV [zl (S0 1085 p0.toNat)] zd_14_37_189 zk_Md_234 zT_1079 (zz_ltn hn rfl) rfl rfl ⟨Nat.le_of_ble_eq_true rfl, Nat.le_of_ble_eq_true rfl⟩ ⟨rfl, rfl⟩ (Nat.zero_le _) (Nat.zero_le _) (zc_take_14_18 (S0 1085 p0.toNat) S n hn G_S (by omega)) (fun S13 hP => ?_)
    obtain ⟨G_S13, fS13⟩ := hP
    have F_S13 := zz_fr.trans F_S fS13 rfl zz_nv
    refine zz_iload_n (x := x3) rfl zd_14_37_192 ?_
    exact zz_zret zd_14_37_193 rfl (by omega) (Nat.zero_le _) (Nat.zero_le _) ⟨_, _, rfl, G_S13, F_S13, by omega⟩
  · refine zz_aload_n (x := 1079) rfl zd_14_37_63 ?_
    refine zz_getr (kd := 0) (z := 1097) zd_14_37_64 zf_Md_70 zT_1079 rfl (zz_ltn hn rfl) (zz_G.eq G_S 1079 25 1097 rfl rfl) (by decide) 1097 rfl ?_
    refine zz_iload (x := x4) rfl zd_14_37_67 ?_
    have g15 := zz_G.r G_S0 1097 x4.toNat (-1) 600 rfl rfl
    refine zz_iald (z := S0 1097 x4.toNat) zd_14_37_69 zT_1097 rfl (zz_ltn hn rfl) (by decide) (by omega) (zz_rc F_S (zz_nc1 rfl) rfl (fun h => h) rfl) ?_
    refine zz_istore [some (.ref 1079), some (zi p0), some (zi p1), some (zi x3), some (zi x4), some (zi (S0 1097 x4.toNat))] zd_14_37_70 (by decide) rfl ?_
    refine zz_iload (x := S0 1097 x4.toNat) rfl zd_14_37_72 ?_
    refine zz_if_lt (by omega) zd_14_37_74 (fun c16 => ?_) (fun c16 => ?_)
    · refine zz_iinc [some (.ref 1079), some (zi p0), some (zi p1), some (zi x3), some (zi (x4 + 1)), some (zi (S0 1097 x4.toNat))] zd_14_37_176 rfl rfl ?_
      refine zz_goto zd_14_37_179 ?_
      refine zz_less (ls1 := [some (.ref 1079), some (zi p0), some (zi p1), some (zi x3), some (zi (x4 + 1))]) ⟨rfl, ⟨rfl, ⟨rfl, ⟨rfl, ⟨rfl, trivial⟩⟩⟩⟩⟩ ?_
      exact k57 x3 (x4 + 1) S G_S F_S (by omega) (by omega) (by omega)
    · refine zz_aload_n (x := 1079) rfl zd_14_37_77 ?_
      refine zz_getr (kd := 0) (z := 1094) zd_14_37_78 zf_Md_60 zT_1079 rfl (zz_ltn hn rfl) (zz_G.eq G_S 1079 22 1094 rfl rfl) (by decide) 1094 rfl ?_
      refine zz_iload (x := S0 1097 x4.toNat) rfl zd_14_37_81 ?_
      have g17 := zz_G.r G_S0 1094 ((S0 1097 x4.toNat).toNat) (-2147483648) 2147483647 rfl rfl
      refine zz_iald (z := S0 1094 ((S0 1097 x4.toNat).toNat)) zd_14_37_83 zT_1094 rfl (zz_ltn hn rfl) (by decide) (by omega) (zz_rc F_S (zz_nc1 rfl) rfl (fun h => h) rfl) ?_
      refine zz_iload_n (x := p1) rfl zd_14_37_84 ?_
      refine zz_icmp_le (by omega) (by omega) zd_14_37_85 (fun c18 => ?_) (fun c18 => ?_)
      · refine zz_iinc [some (.ref 1079), some (zi p0), some (zi p1), some (zi x3), some (zi (x4 + 1)), some (zi (S0 1097 x4.toNat))] zd_14_37_176 rfl rfl ?_
        refine zz_goto zd_14_37_179 ?_
        refine zz_less (ls1 := [some (.ref 1079), some (zi p0), some (zi p1), some (zi x3), some (zi (x4 + 1))]) ⟨rfl, ⟨rfl, ⟨rfl, ⟨rfl, ⟨rfl, trivial⟩⟩⟩⟩⟩ ?_
        exact k57 x3 (x4 + 1) S G_S F_S (by omega) (by omega) (by omega)
      · refine zz_aload_n (x := 1079) rfl zd_14_37_88 ?_
        refine zz_aload_n (x := 1079) rfl zd_14_37_89 ?_
        refine zz_getr (kd := 0) (z := 1085) zd_14_37_90 zf_Md_29 zT_1079 rfl (zz_ltn hn rfl) (zz_G.eq G_S 1079 8 1085 rfl rfl) (by decide) 1085 rfl ?_
        refine zz_iload (x := S0 1097 x4.toNat) rfl zd_14_37_93 ?_
        have g19 := zz_G.r G_S0 1085 ((S0 1097 x4.toNat).toNat) (-9223372036854775808) 9223372036854775807 rfl rfl
        refine zz_lald (z := S0 1085 ((S0 1097 x4.toNat).toNat)) zd_14_37_95 zT_1085 rfl (zz_ltn hn rfl) (by decide) (by omega) (zz_rc F_S (zz_nc1 rfl) rfl (fun h => h) rfl) ?_
        refine zz_callVV [zl (S0 1085 ((S0 1097 x4.toNat).toNat))] zd_14_37_96 zk_Md_234 zT_1079 (zz_ltn hn rfl) rfl rfl ⟨Nat.le_of_ble_eq_true rfl, Nat.le_of_ble_eq_true rfl⟩ ⟨rfl, rfl⟩ (Nat.zero_le _) (Nat.zero_le _) (zc_take_14_18 (S0 1085 ((S0 1097 x4.toNat).toNat)) S n hn G_S (by omega)) (fun S20 hP => ?_)
        obtain ⟨G_S20, fS20⟩ := hP
        have F_S20 := zz_fr.trans F_S fS20 rfl zz_nv
        refine zz_aload_n (x := 1079) rfl zd_14_37_99 ?_
        refine zz_callVV [] zd_14_37_100 zk_Md_247 zT_1079 (zz_ltn hn rfl) rfl rfl ⟨Nat.le_of_ble_eq_true rfl, Nat.le_of_ble_eq_true rfl⟩ ⟨rfl, rfl⟩ (Nat.zero_le _) (Nat.zero_le _) (zc_reaches_14_22  S20 n hn G_S20 ) (fun S22 hP => ?_)
        obtain ⟨G_S22, fS22⟩ := hP
        have F_S22 := zz_fr.trans F_S20 fS22 rfl zz_nv
        refine zz_iconst zd_14_37_103 ?_
        refine zz_istore [some (.ref 1079), some (zi p0), some (zi p1), some (zi x3), some (zi x4), some (zi (S0 1097 x4.toNat)), some (zi 0)] zd_14_37_104 (by decide) rfl ?_
        refine zz_less (ls1 := [some (.ref 1079), some (zi p0), some (zi p1), some (zi x3), some (zi x4), none, some (zi 0)]) ⟨rfl, ⟨rfl, ⟨rfl, ⟨rfl, ⟨rfl, ⟨rfl, trivial⟩⟩⟩⟩⟩⟩ ?_
        exact k106 x3 x4 0 S22 G_S22 F_S22 (by omega) (by omega) (by omega) (by omega) (by omega) (by omega) (by omega)
theorem zb_races_14_37_106 {g : mm_G} {l : Launch} (p0 : Int) (p1 : Int) (S0 : zz_S) (n : Nat) (hn : zz_end ≤ n) (G_S0 : zz_G S0) (hp0 : 0 ≤ p0 ∧ p0 ≤ 600) (hp1 : (-2147483648) ≤ p1 ∧ p1 ≤ 2147483647) (x3 : Int) (x4 : Int) (x6 : Int) (S : zz_S) (G_S : zz_G S) (F_S : zz_fr [] [1087, 1088, 1089, 1115, 1116] (fun _ _ => False) S0 S) (i106_0 : 0 ≤ x3 ∧ x3 ≤ 1) (i106_1 : 0 ≤ x4 ∧ x4 ≤ 2) (i106_2 : 0 ≤ x6 ∧ x6 ≤ 5) (i106_3 : 0 ≤ x4 ∧ x4 ≤ 3) (i106_4 : x4 < 3) (i106_5 : (-2147483648) ≤ p1 ∧ p1 ≤ 2147483646) (R : Nat) (hR : (34359738368 + (3 - x4).toNat) * 1099511627776 + (17179869184 + (5 - x6).toNat) = R) (k57 : ∀ (x3 : Int) (x4 : Int) (S : zz_S), zz_G S → zz_fr [] [1087, 1088, 1089, 1115, 1116] (fun _ _ => False) S0 S → (0 ≤ x3 ∧ x3 ≤ 1) → (0 ≤ x4 ∧ x4 ≤ 3) → (34359738368 + (3 - x4).toNat) * 1099511627776 + 1099511627775 < R → zz_E g l zy_races_14_37 zr_races_14_37 (zz_QI n (zp_races_14_37 p0 p1 S0)) S n 57 [some (.ref 1079), some (zi p0), some (zi p1), some (zi x3), some (zi x4)] [] 0 0) (k106 : ∀ (x3 : Int) (x4 : Int) (x6 : Int) (S : zz_S), zz_G S → zz_fr [] [1087, 1088, 1089, 1115, 1116] (fun _ _ => False) S0 S → (0 ≤ x3 ∧ x3 ≤ 1) → (0 ≤ x4 ∧ x4 ≤ 2) → (0 ≤ x6 ∧ x6 ≤ 5) → (0 ≤ x4 ∧ x4 ≤ 3) → (x4 < 3) → ((-2147483648) ≤ p1 ∧ p1 ≤ 2147483646) → (34359738368 + (3 - x4).toNat) * 1099511627776 + (17179869184 + (5 - x6).toNat) < R → zz_E g l zy_races_14_37 zr_races_14_37 (zz_QI n (zp_races_14_37 p0 p1 S0)) S n 106 [some (.ref 1079), some (zi p0), some (zi p1), some (zi x3), some (zi x4), none, some (zi x6)] [] 0 0) : zz_E g l zy_races_14_37 zr_races_14_37 (zz_QI n (zp_races_14_37 p0 p1 S0)) S n 106 [some (.ref 1079), some (zi p0), some (zi p1), some (zi x3), some (zi x4), none, some (zi x6)] [] 0 0 := by
  refine zz_iload (x := x6) rfl zd_14_37_106 ?_
  refine zz_iconst zd_14_37_108 ?_
  refine zz_icmp_ge (by omega) (by omega) zd_14_37_109 (fun c24 => ?_) (fun c24 => ?_)
  · refine zz_iinc [some (.ref 1079), some (zi p0), some (zi p1), some (zi x3), some (zi (x4 + 1)), none, some (zi x6)] zd_14_37_176 rfl rfl ?_
    refine zz_goto zd_14_37_179 ?_
    refine zz_less (ls1 := [some (.ref 1079), some (zi p0), some (zi p1), some (zi x3), some (zi (x4 + 1))]) ⟨rfl, ⟨rfl, ⟨rfl, ⟨rfl, ⟨rfl, trivial⟩⟩⟩⟩⟩ ?_
    exact k57 x3 (x4 + 1) S G_S F_S (by omega) (by omega) (by omega)
  · refine zz_iload_n (x := x3) rfl zd_14_37_112 ?_
    refine zz_if_ne (by omega) zd_14_37_113 (fun c25 => ?_) (fun c25 => ?_)
    · refine zz_iconst zd_14_37_164 ?_
      refine zz_goto zd_14_37_165 ?_
      refine zz_istore_n [some (.ref 1079), some (zi p0), some (zi p1), some (zi 1), some (zi x4), none, some (zi x6)] zd_14_37_169 (by decide) rfl ?_
      refine zz_iinc [some (.ref 1079), some (zi p0), some (zi p1), some (zi 1), some (zi x4), none, some (zi (x6 + 1))] zd_14_37_170 rfl rfl ?_
      refine zz_goto zd_14_37_173 ?_
      refine zz_less (ls1 := [some (.ref 1079), some (zi p0), some (zi p1), some (zi 1), some (zi x4), none, some (zi (x6 + 1))]) ⟨rfl, ⟨rfl, ⟨rfl, ⟨rfl, ⟨rfl, ⟨rfl, trivial⟩⟩⟩⟩⟩⟩ ?_
      exact k106 1 x4 (x6 + 1) S G_S F_S (by omega) (by omega) (by omega) (by omega) (by omega) (by omega) (by omega)
    · refine zz_aload_n (x := 1079) rfl zd_14_37_116 ?_
      refine zz_getr (kd := 0) (z := 1115) zd_14_37_117 zf_Md_127 zT_1079 rfl (zz_ltn hn rfl) (zz_G.eq G_S 1079 58 1115 rfl rfl) (by decide) 1115 rfl ?_
      refine zz_aload_n (x := 1079) rfl zd_14_37_120 ?_
      refine zz_getr (kd := 0) (z := 1089) zd_14_37_121 zf_Md_42 zT_1079 rfl (zz_ltn hn rfl) (zz_G.eq G_S 1079 13 1089 rfl rfl) (by decide) 1089 rfl ?_
      refine zz_iload (x := x6) rfl zd_14_37_124 ?_
      refine zz_callSI [.ref 1115, .ref 1089, zi x6] zd_14_37_126 zk_Md_278 rfl rfl ⟨Nat.le_of_ble_eq_true rfl, Nat.le_of_ble_eq_true rfl⟩ ⟨rfl, rfl⟩ (Nat.zero_le _) (Nat.zero_le _) (zc_meet_14_36_1115_1089 x6 S n hn G_S (by omega)) (fun v27 S26 hP => ?_)
      obtain ⟨rfl, o28⟩ := hP
      rcases (by omega : v27 = 0 ∨ v27 = 1) with rfl | rfl
      · refine zz_if_ne (by omega) zd_14_37_129 (fun c29 => ?_) (fun c29 => ?_)
        · exfalso; omega
        · refine zz_aload_n (x := 1079) rfl zd_14_37_132 ?_
          refine zz_getr (kd := 0) (z := 1116) zd_14_37_133 zf_Md_130 zT_1079 rfl (zz_ltn hn rfl) (zz_G.eq G_S 1079 59 1116 rfl rfl) (by decide) 1116 rfl ?_
          refine zz_aload_n (x := 1079) rfl zd_14_37_136 ?_
          refine zz_getr (kd := 0) (z := 1089) zd_14_37_137 zf_Md_42 zT_1079 rfl (zz_ltn hn rfl) (zz_G.eq G_S 1079 13 1089 rfl rfl) (by decide) 1089 rfl ?_
          refine zz_iload (x := x6) rfl zd_14_37_140 ?_
          refine zz_callSI [.ref 1116, .ref 1089, zi x6] zd_14_37_142 zk_Md_278 rfl rfl ⟨Nat.le_of_ble_eq_true rfl, Nat.le_of_ble_eq_true rfl⟩ ⟨rfl, rfl⟩ (Nat.zero_le _) (Nat.zero_le _) (zc_meet_14_36_1116_1089 x6 S n hn G_S (by omega)) (fun v31 S30 hP => ?_)
          obtain ⟨rfl, o32⟩ := hP
          rcases (by omega : v31 = 0 ∨ v31 = 1) with rfl | rfl
          · refine zz_if_ne (by omega) zd_14_37_145 (fun c33 => ?_) (fun c33 => ?_)
            · exfalso; omega
            · refine zz_aload_n (x := 1079) rfl zd_14_37_148 ?_
              refine zz_getr (kd := 0) (z := 1116) zd_14_37_149 zf_Md_130 zT_1079 rfl (zz_ltn hn rfl) (zz_G.eq G_S 1079 59 1116 rfl rfl) (by decide) 1116 rfl ?_
              refine zz_aload_n (x := 1079) rfl zd_14_37_152 ?_
              refine zz_getr (kd := 0) (z := 1088) zd_14_37_153 zf_Md_39 zT_1079 rfl (zz_ltn hn rfl) (zz_G.eq G_S 1079 12 1088 rfl rfl) (by decide) 1088 rfl ?_
              refine zz_iload (x := x6) rfl zd_14_37_156 ?_
              refine zz_callSI [.ref 1116, .ref 1088, zi x6] zd_14_37_158 zk_Md_278 rfl rfl ⟨Nat.le_of_ble_eq_true rfl, Nat.le_of_ble_eq_true rfl⟩ ⟨rfl, rfl⟩ (Nat.zero_le _) (Nat.zero_le _) (zc_meet_14_36_1116_1088 x6 S n hn G_S (by omega)) (fun v35 S34 hP => ?_)
              obtain ⟨rfl, o36⟩ := hP
              rcases (by omega : v35 = 0 ∨ v35 = 1) with rfl | rfl
              · refine zz_if_eq (by omega) zd_14_37_161 (fun c37 => ?_) (fun c37 => ?_)
                · refine zz_iconst zd_14_37_168 ?_
                  refine zz_istore_n [some (.ref 1079), some (zi p0), some (zi p1), some (zi 0), some (zi x4), none, some (zi x6)] zd_14_37_169 (by decide) rfl ?_
                  refine zz_iinc [some (.ref 1079), some (zi p0), some (zi p1), some (zi 0), some (zi x4), none, some (zi (x6 + 1))] zd_14_37_170 rfl rfl ?_
                  refine zz_goto zd_14_37_173 ?_
                  refine zz_less (ls1 := [some (.ref 1079), some (zi p0), some (zi p1), some (zi 0), some (zi x4), none, some (zi (x6 + 1))]) ⟨rfl, ⟨rfl, ⟨rfl, ⟨rfl, ⟨rfl, ⟨rfl, trivial⟩⟩⟩⟩⟩⟩ ?_
                  exact k106 0 x4 (x6 + 1) S G_S F_S (by omega) (by omega) (by omega) (by omega) (by omega) (by omega) (by omega)
                · exfalso; omega
              · refine zz_if_eq (by omega) zd_14_37_161 (fun c38 => ?_) (fun c38 => ?_)
                · exfalso; omega
                · refine zz_iconst zd_14_37_164 ?_
                  refine zz_goto zd_14_37_165 ?_
                  refine zz_istore_n [some (.ref 1079), some (zi p0), some (zi p1), some (zi 1), some (zi x4), none, some (zi x6)] zd_14_37_169 (by decide) rfl ?_
                  refine zz_iinc [some (.ref 1079), some (zi p0), some (zi p1), some (zi 1), some (zi x4), none, some (zi (x6 + 1))] zd_14_37_170 rfl rfl ?_
                  refine zz_goto zd_14_37_173 ?_
                  refine zz_less (ls1 := [some (.ref 1079), some (zi p0), some (zi p1), some (zi 1), some (zi x4), none, some (zi (x6 + 1))]) ⟨rfl, ⟨rfl, ⟨rfl, ⟨rfl, ⟨rfl, ⟨rfl, trivial⟩⟩⟩⟩⟩⟩ ?_
                  exact k106 1 x4 (x6 + 1) S G_S F_S (by omega) (by omega) (by omega) (by omega) (by omega) (by omega) (by omega)
          · refine zz_if_ne (by omega) zd_14_37_145 (fun c39 => ?_) (fun c39 => ?_)
            · refine zz_iconst zd_14_37_164 ?_
              refine zz_goto zd_14_37_165 ?_
              refine zz_istore_n [some (.ref 1079), some (zi p0), some (zi p1), some (zi 1), some (zi x4), none, some (zi x6)] zd_14_37_169 (by decide) rfl ?_
              refine zz_iinc [some (.ref 1079), some (zi p0), some (zi p1), some (zi 1), some (zi x4), none, some (zi (x6 + 1))] zd_14_37_170 rfl rfl ?_
              refine zz_goto zd_14_37_173 ?_
              refine zz_less (ls1 := [some (.ref 1079), some (zi p0), some (zi p1), some (zi 1), some (zi x4), none, some (zi (x6 + 1))]) ⟨rfl, ⟨rfl, ⟨rfl, ⟨rfl, ⟨rfl, ⟨rfl, trivial⟩⟩⟩⟩⟩⟩ ?_
              exact k106 1 x4 (x6 + 1) S G_S F_S (by omega) (by omega) (by omega) (by omega) (by omega) (by omega) (by omega)
            · exfalso; omega
      · refine zz_if_ne (by omega) zd_14_37_129 (fun c40 => ?_) (fun c40 => ?_)
        · refine zz_iconst zd_14_37_164 ?_
          refine zz_goto zd_14_37_165 ?_
          refine zz_istore_n [some (.ref 1079), some (zi p0), some (zi p1), some (zi 1), some (zi x4), none, some (zi x6)] zd_14_37_169 (by decide) rfl ?_
          refine zz_iinc [some (.ref 1079), some (zi p0), some (zi p1), some (zi 1), some (zi x4), none, some (zi (x6 + 1))] zd_14_37_170 rfl rfl ?_
          refine zz_goto zd_14_37_173 ?_
          refine zz_less (ls1 := [some (.ref 1079), some (zi p0), some (zi p1), some (zi 1), some (zi x4), none, some (zi (x6 + 1))]) ⟨rfl, ⟨rfl, ⟨rfl, ⟨rfl, ⟨rfl, ⟨rfl, trivial⟩⟩⟩⟩⟩⟩ ?_
          exact k106 1 x4 (x6 + 1) S G_S F_S (by omega) (by omega) (by omega) (by omega) (by omega) (by omega) (by omega)
        · exfalso; omega
theorem zi_races_14_37 {g : mm_G} {l : Launch} (p0 : Int) (p1 : Int) (S0 : zz_S) (n : Nat) (hn : zz_end ≤ n) (G_S0 : zz_G S0) (hp0 : 0 ≤ p0 ∧ p0 ≤ 600) (hp1 : (-2147483648) ≤ p1 ∧ p1 ≤ 2147483647) : ∀ N : Nat, (∀ (x3 : Int) (S : zz_S), zz_G S → zz_fr [] [1087, 1088, 1089, 1115, 1116] (fun _ _ => False) S0 S → (0 ≤ x3 ∧ x3 ≤ 10) → (51539607552 + (10 - x3).toNat) * 1099511627776 + 1099511627775 < N → zz_E g l zy_races_14_37 zr_races_14_37 (zz_QI n (zp_races_14_37 p0 p1 S0)) S n 16 [some (.ref 1079), some (zi p0), some (zi p1), some (zi x3)] [] 0 0) ∧ (∀ (x3 : Int) (x4 : Int) (S : zz_S), zz_G S → zz_fr [] [1087, 1088, 1089, 1115, 1116] (fun _ _ => False) S0 S → (0 ≤ x3 ∧ x3 ≤ 1) → (0 ≤ x4 ∧ x4 ≤ 3) → (34359738368 + (3 - x4).toNat) * 1099511627776 + 1099511627775 < N → zz_E g l zy_races_14_37 zr_races_14_37 (zz_QI n (zp_races_14_37 p0 p1 S0)) S n 57 [some (.ref 1079), some (zi p0), some (zi p1), some (zi x3), some (zi x4)] [] 0 0) ∧ (∀ (x3 : Int) (x4 : Int) (x6 : Int) (S : zz_S), zz_G S → zz_fr [] [1087, 1088, 1089, 1115, 1116] (fun _ _ => False) S0 S → (0 ≤ x3 ∧ x3 ≤ 1) → (0 ≤ x4 ∧ x4 ≤ 2) → (0 ≤ x6 ∧ x6 ≤ 5) → (0 ≤ x4 ∧ x4 ≤ 3) → (x4 < 3) → ((-2147483648) ≤ p1 ∧ p1 ≤ 2147483646) → (34359738368 + (3 - x4).toNat) * 1099511627776 + (17179869184 + (5 - x6).toNat) < N → zz_E g l zy_races_14_37 zr_races_14_37 (zz_QI n (zp_races_14_37 p0 p1 S0)) S n 106 [some (.ref 1079), some (zi p0), some (zi p1), some (zi x3), some (zi x4), none, some (zi x6)] [] 0 0) := by
  intro N
  induction N with
  | zero => exact ⟨fun x3 S _ _ _ h => absurd h (Nat.not_lt_zero _), fun x3 x4 S _ _ _ _ h => absurd h (Nat.not_lt_zero _), fun x3 x4 x6 S _ _ _ _ _ _ _ _ h => absurd h (Nat.not_lt_zero _)⟩
  | succ N ih =>
    exact ⟨fun x3 S a b j0 hR => zb_races_14_37_16 p0 p1 S0 n hn G_S0 hp0 hp1 x3 S a b j0 _ rfl (fun x3 S a b j0 h => ih.1 x3 S a b j0 (Nat.lt_of_lt_of_le h (Nat.le_of_lt_succ hR))) (fun x3 x4 S a b j0 j1 h => ih.2.1 x3 x4 S a b j0 j1 (Nat.lt_of_lt_of_le h (Nat.le_of_lt_succ hR))),
      fun x3 x4 S a b j0 j1 hR => zb_races_14_37_57 p0 p1 S0 n hn G_S0 hp0 hp1 x3 x4 S a b j0 j1 _ rfl (fun x3 x4 S a b j0 j1 h => ih.2.1 x3 x4 S a b j0 j1 (Nat.lt_of_lt_of_le h (Nat.le_of_lt_succ hR))) (fun x3 x4 x6 S a b j0 j1 j2 j3 j4 j5 h => ih.2.2 x3 x4 x6 S a b j0 j1 j2 j3 j4 j5 (Nat.lt_of_lt_of_le h (Nat.le_of_lt_succ hR))),
      fun x3 x4 x6 S a b j0 j1 j2 j3 j4 j5 hR => zb_races_14_37_106 p0 p1 S0 n hn G_S0 hp0 hp1 x3 x4 x6 S a b j0 j1 j2 j3 j4 j5 _ rfl (fun x3 x4 S a b j0 j1 h => ih.2.1 x3 x4 S a b j0 j1 (Nat.lt_of_lt_of_le h (Nat.le_of_lt_succ hR))) (fun x3 x4 x6 S a b j0 j1 j2 j3 j4 j5 h => ih.2.2 x3 x4 x6 S a b j0 j1 j2 j3 j4 j5 (Nat.lt_of_lt_of_le h (Nat.le_of_lt_succ hR)))⟩
theorem zc_races_14_37 {g : mm_G} {l : Launch} (p0 : Int) (p1 : Int) (S0 : zz_S) (n : Nat) (hn : zz_end ≤ n) (G_S0 : zz_G S0) (hp0 : 0 ≤ p0 ∧ p0 ≤ 600) (hp1 : (-2147483648) ≤ p1 ∧ p1 ≤ 2147483647) : mm_Met g l zy_races_14_37 zr_races_14_37 [.ref 1079, zi p0, zi p1] (zz_M S0 n) n (zz_QI n (zp_races_14_37 p0 p1 S0)) := by
  refine zz_enter (by decide) (Nat.le_of_ble_eq_true rfl) (zz_less (ls1 := [some (.ref 1079), some (zi p0), some (zi p1)]) ⟨rfl, ⟨rfl, ⟨rfl, trivial⟩⟩⟩ ?_)
  have F_S0 : zz_fr [] [1087, 1088, 1089, 1115, 1116] (fun _ _ => False) S0 S0 := zz_fr.refl
  have k16 : ∀ (x3 : Int) (S : zz_S), zz_G S → zz_fr [] [1087, 1088, 1089, 1115, 1116] (fun _ _ => False) S0 S → (0 ≤ x3 ∧ x3 ≤ 10) → zz_E g l zy_races_14_37 zr_races_14_37 (zz_QI n (zp_races_14_37 p0 p1 S0)) S n 16 [some (.ref 1079), some (zi p0), some (zi p1), some (zi x3)] [] 0 0 := fun x3 S a b j0 => (zi_races_14_37 (g := g) (l := l) p0 p1 S0 n hn G_S0 hp0 hp1 _).1 x3 S a b j0 (Nat.lt_succ_self _)
  refine zz_aload_n (x := 1079) rfl zd_14_37_0 ?_
  refine zz_aload_n (x := 1079) rfl zd_14_37_1 ?_
  refine zz_getr (kd := 0) (z := 1085) zd_14_37_2 zf_Md_29 zT_1079 rfl (zz_ltn hn rfl) (zz_G.eq G_S0 1079 8 1085 rfl rfl) (by decide) 1085 rfl ?_
  refine zz_iload_n (x := p0) rfl zd_14_37_5 ?_
  have g1 := zz_G.r G_S0 1085 p0.toNat (-9223372036854775808) 9223372036854775807 rfl rfl
  refine zz_lald (z := S0 1085 p0.toNat) zd_14_37_6 zT_1085 rfl (zz_ltn hn rfl) (by decide) (by omega) rfl ?_
  refine zz_callVV [zl (S0 1085 p0.toNat)] zd_14_37_7 zk_Md_234 zT_1079 (zz_ltn hn rfl) rfl rfl ⟨Nat.le_of_ble_eq_true rfl, Nat.le_of_ble_eq_true rfl⟩ ⟨rfl, rfl⟩ (Nat.zero_le _) (Nat.zero_le _) (zc_take_14_18 (S0 1085 p0.toNat) S0 n hn G_S0 (by omega)) (fun S2 hP => ?_)
  obtain ⟨G_S2, fS2⟩ := hP
  have F_S2 := zz_fr.trans F_S0 fS2 rfl zz_nv
  refine zz_aload_n (x := 1079) rfl zd_14_37_10 ?_
  refine zz_callVV [] zd_14_37_11 zk_Md_247 zT_1079 (zz_ltn hn rfl) rfl rfl ⟨Nat.le_of_ble_eq_true rfl, Nat.le_of_ble_eq_true rfl⟩ ⟨rfl, rfl⟩ (Nat.zero_le _) (Nat.zero_le _) (zc_reaches_14_22  S2 n hn G_S2 ) (fun S4 hP => ?_)
  obtain ⟨G_S4, fS4⟩ := hP
  have F_S4 := zz_fr.trans F_S2 fS4 rfl zz_nv
  refine zz_iconst zd_14_37_14 ?_
  refine zz_istore_n [some (.ref 1079), some (zi p0), some (zi p1), some (zi 0)] zd_14_37_15 (by decide) rfl ?_
  refine zz_less (ls1 := [some (.ref 1079), some (zi p0), some (zi p1), some (zi 0)]) ⟨rfl, ⟨rfl, ⟨rfl, ⟨rfl, trivial⟩⟩⟩⟩ ?_
  exact k16 0 S4 G_S4 F_S4 (by omega)
abbrev zy_isBusy_14_39 : mm_Y := (⟨"TensorForgeModel", "isBusy", "(II)Z"⟩, prog_14_method_39_code, 3, (some .boolean))
theorem zyw_isBusy_14_39 : mm_Yw zy_isBusy_14_39 2 := ⟨mm_tb_1 1949 (by decide +kernel) rfl, mm_tb_1 12 (by decide +kernel) rfl, ⟨by decide, by decide⟩, by decide +kernel⟩
theorem zd_14_39_0 : zz_D zy_isBusy_14_39 0 (.aload_n 0) 1 1 := ⟨by decide +kernel, rfl⟩
theorem zd_14_39_1 : zz_D zy_isBusy_14_39 1 (.getfield 70) 3 4 := ⟨by decide +kernel, rfl⟩
theorem zd_14_39_4 : zz_D zy_isBusy_14_39 4 (.iload_n 1) 1 5 := ⟨by decide +kernel, rfl⟩
theorem zd_14_39_5 : zz_D zy_isBusy_14_39 5 (.iaload) 1 6 := ⟨by decide +kernel, rfl⟩
theorem zd_14_39_6 : zz_B zy_isBusy_14_39 6 (Instr.ifCond .lt) 28 9 := ⟨22, by decide +kernel, rfl, rfl⟩
theorem zd_14_39_28 : zz_D zy_isBusy_14_39 28 (.iconst 0) 1 29 := ⟨by decide +kernel, rfl⟩
theorem zd_14_39_29 : zz_D zy_isBusy_14_39 29 (.ireturn) 1 30 := ⟨by decide +kernel, rfl⟩
theorem zd_14_39_9 : zz_D zy_isBusy_14_39 9 (.aload_n 0) 1 10 := ⟨by decide +kernel, rfl⟩
theorem zd_14_39_10 : zz_D zy_isBusy_14_39 10 (.getfield 60) 3 13 := ⟨by decide +kernel, rfl⟩
theorem zd_14_39_13 : zz_D zy_isBusy_14_39 13 (.aload_n 0) 1 14 := ⟨by decide +kernel, rfl⟩
theorem zd_14_39_14 : zz_D zy_isBusy_14_39 14 (.getfield 70) 3 17 := ⟨by decide +kernel, rfl⟩
theorem zd_14_39_17 : zz_D zy_isBusy_14_39 17 (.iload_n 1) 1 18 := ⟨by decide +kernel, rfl⟩
theorem zd_14_39_18 : zz_D zy_isBusy_14_39 18 (.iaload) 1 19 := ⟨by decide +kernel, rfl⟩
theorem zd_14_39_19 : zz_D zy_isBusy_14_39 19 (.iaload) 1 20 := ⟨by decide +kernel, rfl⟩
theorem zd_14_39_20 : zz_D zy_isBusy_14_39 20 (.iload_n 2) 1 21 := ⟨by decide +kernel, rfl⟩
theorem zd_14_39_21 : zz_B zy_isBusy_14_39 21 (Instr.if_icmp .le) 28 24 := ⟨7, by decide +kernel, rfl, rfl⟩
theorem zd_14_39_24 : zz_D zy_isBusy_14_39 24 (.iconst 1) 1 25 := ⟨by decide +kernel, rfl⟩
theorem zd_14_39_25 : zz_B zy_isBusy_14_39 25 Instr.goto 29 28 := ⟨4, by decide +kernel, rfl, rfl⟩
-- TensorForgeModel isBusy (II)Z
abbrev zr_isBusy_14_39 : Room := { frames := 0, cells := 0, slots := 0, locals := 0 }
def zp_isBusy_14_39 (p0 : Int) (p1 : Int) (S0 : zz_S) : Int → zz_S → Prop := fun r S => S0 = S ∧ (0 ≤ r ∧ r ≤ 1)
theorem zc_isBusy_14_39 {g : mm_G} {l : Launch} (p0 : Int) (p1 : Int) (S0 : zz_S) (n : Nat) (hn : zz_end ≤ n) (G_S0 : zz_G S0) (hp0 : 0 ≤ p0 ∧ p0 ≤ 2) (hp1 : (-2147483648) ≤ p1 ∧ p1 ≤ 2147483647) : mm_Met g l zy_isBusy_14_39 zr_isBusy_14_39 [.ref 1079, zi p0, zi p1] (zz_M S0 n) n (zz_QI n (zp_isBusy_14_39 p0 p1 S0)) := by
  refine zz_enter (by decide) (Nat.le_of_ble_eq_true rfl) (zz_less (ls1 := [some (.ref 1079), some (zi p0), some (zi p1)]) ⟨rfl, ⟨rfl, ⟨rfl, trivial⟩⟩⟩ ?_)
  refine zz_aload_n (x := 1079) rfl zd_14_39_0 ?_
  refine zz_getr (kd := 0) (z := 1097) zd_14_39_1 zf_Md_70 zT_1079 rfl (zz_ltn hn rfl) (zz_G.eq G_S0 1079 25 1097 rfl rfl) (by decide) 1097 rfl ?_
  refine zz_iload_n (x := p0) rfl zd_14_39_4 ?_
  have g1 := zz_G.r G_S0 1097 p0.toNat (-1) 600 rfl rfl
  refine zz_iald (z := S0 1097 p0.toNat) zd_14_39_5 zT_1097 rfl (zz_ltn hn rfl) (by decide) (by omega) rfl ?_
  refine zz_if_lt (by omega) zd_14_39_6 (fun c2 => ?_) (fun c2 => ?_)
  · refine zz_iconst zd_14_39_28 ?_
    exact zz_zret zd_14_39_29 rfl (by omega) (Nat.zero_le _) (Nat.zero_le _) ⟨_, _, rfl, rfl, by omega⟩
  · refine zz_aload_n (x := 1079) rfl zd_14_39_9 ?_
    refine zz_getr (kd := 0) (z := 1094) zd_14_39_10 zf_Md_60 zT_1079 rfl (zz_ltn hn rfl) (zz_G.eq G_S0 1079 22 1094 rfl rfl) (by decide) 1094 rfl ?_
    refine zz_aload_n (x := 1079) rfl zd_14_39_13 ?_
    refine zz_getr (kd := 0) (z := 1097) zd_14_39_14 zf_Md_70 zT_1079 rfl (zz_ltn hn rfl) (zz_G.eq G_S0 1079 25 1097 rfl rfl) (by decide) 1097 rfl ?_
    refine zz_iload_n (x := p0) rfl zd_14_39_17 ?_
    refine zz_iald (z := S0 1097 p0.toNat) zd_14_39_18 zT_1097 rfl (zz_ltn hn rfl) (by decide) (by omega) rfl ?_
    have g3 := zz_G.r G_S0 1094 ((S0 1097 p0.toNat).toNat) (-2147483648) 2147483647 rfl rfl
    refine zz_iald (z := S0 1094 ((S0 1097 p0.toNat).toNat)) zd_14_39_19 zT_1094 rfl (zz_ltn hn rfl) (by decide) (by omega) rfl ?_
    refine zz_iload_n (x := p1) rfl zd_14_39_20 ?_
    refine zz_icmp_le (by omega) (by omega) zd_14_39_21 (fun c4 => ?_) (fun c4 => ?_)
    · refine zz_iconst zd_14_39_28 ?_
      exact zz_zret zd_14_39_29 rfl (by omega) (Nat.zero_le _) (Nat.zero_le _) ⟨_, _, rfl, rfl, by omega⟩
    · refine zz_iconst zd_14_39_24 ?_
      refine zz_goto zd_14_39_25 ?_
      exact zz_zret zd_14_39_29 rfl (by omega) (Nat.zero_le _) (Nat.zero_le _) ⟨_, _, rfl, rfl, by omega⟩
abbrev zy_startRun_14_40 : mm_Y := (⟨"TensorForgeModel", "startRun", "()V"⟩, prog_14_method_40_code, 2, none)
theorem zyw_startRun_14_40 : mm_Yw zy_startRun_14_40 0 := ⟨mm_tb_1 1926 (by decide +kernel) rfl, mm_tb_1 12 (by decide +kernel) rfl, ⟨by decide, by decide⟩, by decide +kernel⟩
theorem zd_14_40_0 : zz_D zy_startRun_14_40 0 (.aload_n 0) 1 1 := ⟨by decide +kernel, rfl⟩
theorem zd_14_40_1 : zz_D zy_startRun_14_40 1 (.aload_n 0) 1 2 := ⟨by decide +kernel, rfl⟩
theorem zd_14_40_2 : zz_D zy_startRun_14_40 2 (.getfield 224) 3 5 := ⟨by decide +kernel, rfl⟩
theorem zd_14_40_5 : zz_D zy_startRun_14_40 5 (.putfield 272) 3 8 := ⟨by decide +kernel, rfl⟩
theorem zd_14_40_8 : zz_D zy_startRun_14_40 8 (.aload_n 0) 1 9 := ⟨by decide +kernel, rfl⟩
theorem zd_14_40_9 : zz_D zy_startRun_14_40 9 (.iconst 0) 1 10 := ⟨by decide +kernel, rfl⟩
theorem zd_14_40_10 : zz_D zy_startRun_14_40 10 (.putfield 292) 3 13 := ⟨by decide +kernel, rfl⟩
theorem zf_Md_292 : mm_Fl "TensorForgeModel" 292 11 16 .int false := ⟨R_Md, F_Md, 69, t_Md, rfl, i_Md, by decide, mm_tb_1 1627 (by decide +kernel) rfl, rfl, t_Md_ok, n_Md, rfl, by decide +kernel⟩
theorem zd_14_40_13 : zz_D zy_startRun_14_40 13 (.aload_n 0) 1 14 := ⟨by decide +kernel, rfl⟩
theorem zd_14_40_14 : zz_D zy_startRun_14_40 14 (.iconst (-1)) 1 15 := ⟨by decide +kernel, rfl⟩
theorem zd_14_40_15 : zz_D zy_startRun_14_40 15 (.putfield 45) 3 18 := ⟨by decide +kernel, rfl⟩
theorem zf_Md_45 : mm_Fl "TensorForgeModel" 45 11 15 .int false := ⟨R_Md, F_Md, 69, t_Md, rfl, i_Md, by decide, mm_tb_1 1626 (by decide +kernel) rfl, rfl, t_Md_ok, n_Md, rfl, by decide +kernel⟩
theorem zd_14_40_18 : zz_D zy_startRun_14_40 18 (.iconst 0) 1 19 := ⟨by decide +kernel, rfl⟩
theorem zd_14_40_19 : zz_D zy_startRun_14_40 19 (.istore_n 1) 1 20 := ⟨by decide +kernel, rfl⟩
theorem zd_14_40_20 : zz_D zy_startRun_14_40 20 (.iload_n 1) 1 21 := ⟨by decide +kernel, rfl⟩
theorem zd_14_40_21 : zz_D zy_startRun_14_40 21 (.iconst 4) 1 22 := ⟨by decide +kernel, rfl⟩
theorem zd_14_40_22 : zz_B zy_startRun_14_40 22 (Instr.if_icmp .ge) 38 25 := ⟨16, by decide +kernel, rfl, rfl⟩
theorem zd_14_40_25 : zz_D zy_startRun_14_40 25 (.aload_n 0) 1 26 := ⟨by decide +kernel, rfl⟩
theorem zd_14_40_26 : zz_D zy_startRun_14_40 26 (.getfield 51) 3 29 := ⟨by decide +kernel, rfl⟩
theorem zd_14_40_29 : zz_D zy_startRun_14_40 29 (.iload_n 1) 1 30 := ⟨by decide +kernel, rfl⟩
theorem zd_14_40_30 : zz_D zy_startRun_14_40 30 (.iconst 0) 1 31 := ⟨by decide +kernel, rfl⟩
theorem zd_14_40_31 : zz_D zy_startRun_14_40 31 (.iastore) 1 32 := ⟨by decide +kernel, rfl⟩
theorem zd_14_40_32 : zz_D zy_startRun_14_40 32 (.iinc 1 1) 3 35 := ⟨by decide +kernel, rfl⟩
theorem zd_14_40_35 : zz_B zy_startRun_14_40 35 Instr.goto 20 38 := ⟨(-15), by decide +kernel, rfl, rfl⟩
theorem zd_14_40_38 : zz_D zy_startRun_14_40 38 (.iconst 0) 1 39 := ⟨by decide +kernel, rfl⟩
theorem zd_14_40_39 : zz_D zy_startRun_14_40 39 (.istore_n 1) 1 40 := ⟨by decide +kernel, rfl⟩
theorem zd_14_40_40 : zz_D zy_startRun_14_40 40 (.iload_n 1) 1 41 := ⟨by decide +kernel, rfl⟩
theorem zd_14_40_41 : zz_D zy_startRun_14_40 41 (.aload_n 0) 1 42 := ⟨by decide +kernel, rfl⟩
theorem zd_14_40_42 : zz_D zy_startRun_14_40 42 (.getfield 272) 3 45 := ⟨by decide +kernel, rfl⟩
theorem zd_14_40_45 : zz_B zy_startRun_14_40 45 (Instr.if_icmp .ge) 134 48 := ⟨89, by decide +kernel, rfl, rfl⟩
theorem zd_14_40_134 : zz_D zy_startRun_14_40 134 (.iconst 0) 1 135 := ⟨by decide +kernel, rfl⟩
theorem zd_14_40_135 : zz_D zy_startRun_14_40 135 (.istore_n 1) 1 136 := ⟨by decide +kernel, rfl⟩
theorem zd_14_40_48 : zz_D zy_startRun_14_40 48 (.aload_n 0) 1 49 := ⟨by decide +kernel, rfl⟩
theorem zd_14_40_49 : zz_D zy_startRun_14_40 49 (.aload_n 0) 1 50 := ⟨by decide +kernel, rfl⟩
theorem zd_14_40_50 : zz_D zy_startRun_14_40 50 (.getfield 29) 3 53 := ⟨by decide +kernel, rfl⟩
theorem zd_14_40_53 : zz_D zy_startRun_14_40 53 (.iload_n 1) 1 54 := ⟨by decide +kernel, rfl⟩
theorem zd_14_40_54 : zz_D zy_startRun_14_40 54 (.laload) 1 55 := ⟨by decide +kernel, rfl⟩
theorem zd_14_40_55 : zz_D zy_startRun_14_40 55 (.invokevirtual 234) 3 58 := ⟨by decide +kernel, rfl⟩
theorem zd_14_40_58 : zz_D zy_startRun_14_40 58 (.aload_n 0) 1 59 := ⟨by decide +kernel, rfl⟩
theorem zd_14_40_59 : zz_D zy_startRun_14_40 59 (.getfield 54) 3 62 := ⟨by decide +kernel, rfl⟩
theorem zd_14_40_62 : zz_D zy_startRun_14_40 62 (.iload_n 1) 1 63 := ⟨by decide +kernel, rfl⟩
theorem zd_14_40_63 : zz_D zy_startRun_14_40 63 (.aload_n 0) 1 64 := ⟨by decide +kernel, rfl⟩
theorem zd_14_40_64 : zz_D zy_startRun_14_40 64 (.invokevirtual 243) 3 67 := ⟨by decide +kernel, rfl⟩
theorem zd_14_40_67 : zz_D zy_startRun_14_40 67 (.iastore) 1 68 := ⟨by decide +kernel, rfl⟩
theorem zd_14_40_68 : zz_D zy_startRun_14_40 68 (.aload_n 0) 1 69 := ⟨by decide +kernel, rfl⟩
theorem zd_14_40_69 : zz_D zy_startRun_14_40 69 (.getfield 67) 3 72 := ⟨by decide +kernel, rfl⟩
theorem zf_Md_67 : mm_Fl "TensorForgeModel" 67 11 24 (.array .int) true := ⟨R_Md, F_Md, 69, t_Md, rfl, i_Md, by decide, mm_tb_1 1635 (by decide +kernel) rfl, rfl, t_Md_ok, n_Md, rfl, by decide +kernel⟩
theorem zd_14_40_72 : zz_D zy_startRun_14_40 72 (.iload_n 1) 1 73 := ⟨by decide +kernel, rfl⟩
theorem zd_14_40_73 : zz_D zy_startRun_14_40 73 (.aload_n 0) 1 74 := ⟨by decide +kernel, rfl⟩
theorem zd_14_40_74 : zz_D zy_startRun_14_40 74 (.getfield 36) 3 77 := ⟨by decide +kernel, rfl⟩
theorem zd_14_40_77 : zz_D zy_startRun_14_40 77 (.iconst 1) 1 78 := ⟨by decide +kernel, rfl⟩
theorem zd_14_40_78 : zz_D zy_startRun_14_40 78 (.iaload) 1 79 := ⟨by decide +kernel, rfl⟩
theorem zd_14_40_79 : zz_D zy_startRun_14_40 79 (.aload_n 0) 1 80 := ⟨by decide +kernel, rfl⟩
theorem zd_14_40_80 : zz_D zy_startRun_14_40 80 (.getfield 36) 3 83 := ⟨by decide +kernel, rfl⟩
theorem zd_14_40_83 : zz_D zy_startRun_14_40 83 (.iconst 2) 1 84 := ⟨by decide +kernel, rfl⟩
theorem zd_14_40_84 : zz_D zy_startRun_14_40 84 (.iaload) 1 85 := ⟨by decide +kernel, rfl⟩
theorem zd_14_40_85 : zz_D zy_startRun_14_40 85 (.iconst 1) 1 86 := ⟨by decide +kernel, rfl⟩
theorem zd_14_40_86 : zz_D zy_startRun_14_40 86 (.ishl) 1 87 := ⟨by decide +kernel, rfl⟩
theorem zd_14_40_87 : zz_D zy_startRun_14_40 87 (.ior) 1 88 := ⟨by decide +kernel, rfl⟩
theorem zd_14_40_88 : zz_D zy_startRun_14_40 88 (.aload_n 0) 1 89 := ⟨by decide +kernel, rfl⟩
theorem zd_14_40_89 : zz_D zy_startRun_14_40 89 (.getfield 36) 3 92 := ⟨by decide +kernel, rfl⟩
theorem zd_14_40_92 : zz_D zy_startRun_14_40 92 (.iconst 3) 1 93 := ⟨by decide +kernel, rfl⟩
theorem zd_14_40_93 : zz_D zy_startRun_14_40 93 (.iaload) 1 94 := ⟨by decide +kernel, rfl⟩
theorem zd_14_40_94 : zz_D zy_startRun_14_40 94 (.iconst 2) 1 95 := ⟨by decide +kernel, rfl⟩
theorem zd_14_40_95 : zz_D zy_startRun_14_40 95 (.ishl) 1 96 := ⟨by decide +kernel, rfl⟩
theorem zd_14_40_96 : zz_D zy_startRun_14_40 96 (.ior) 1 97 := ⟨by decide +kernel, rfl⟩
theorem zd_14_40_97 : zz_D zy_startRun_14_40 97 (.aload_n 0) 1 98 := ⟨by decide +kernel, rfl⟩
theorem zd_14_40_98 : zz_D zy_startRun_14_40 98 (.getfield 36) 3 101 := ⟨by decide +kernel, rfl⟩
theorem zd_14_40_101 : zz_D zy_startRun_14_40 101 (.iconst 4) 1 102 := ⟨by decide +kernel, rfl⟩
theorem zd_14_40_102 : zz_D zy_startRun_14_40 102 (.iaload) 1 103 := ⟨by decide +kernel, rfl⟩
theorem zd_14_40_103 : zz_D zy_startRun_14_40 103 (.iconst 3) 1 104 := ⟨by decide +kernel, rfl⟩
theorem zd_14_40_104 : zz_D zy_startRun_14_40 104 (.ishl) 1 105 := ⟨by decide +kernel, rfl⟩
theorem zd_14_40_105 : zz_D zy_startRun_14_40 105 (.ior) 1 106 := ⟨by decide +kernel, rfl⟩
theorem zd_14_40_106 : zz_D zy_startRun_14_40 106 (.iastore) 1 107 := ⟨by decide +kernel, rfl⟩
theorem zd_14_40_107 : zz_D zy_startRun_14_40 107 (.aload_n 0) 1 108 := ⟨by decide +kernel, rfl⟩
theorem zd_14_40_108 : zz_D zy_startRun_14_40 108 (.getfield 57) 3 111 := ⟨by decide +kernel, rfl⟩
theorem zf_Md_57 : mm_Fl "TensorForgeModel" 57 11 21 (.array .int) true := ⟨R_Md, F_Md, 69, t_Md, rfl, i_Md, by decide, mm_tb_1 1632 (by decide +kernel) rfl, rfl, t_Md_ok, n_Md, rfl, by decide +kernel⟩
theorem zd_14_40_111 : zz_D zy_startRun_14_40 111 (.iload_n 1) 1 112 := ⟨by decide +kernel, rfl⟩
theorem zd_14_40_112 : zz_D zy_startRun_14_40 112 (.iconst (-1)) 1 113 := ⟨by decide +kernel, rfl⟩
theorem zd_14_40_113 : zz_D zy_startRun_14_40 113 (.iastore) 1 114 := ⟨by decide +kernel, rfl⟩
theorem zd_14_40_114 : zz_D zy_startRun_14_40 114 (.aload_n 0) 1 115 := ⟨by decide +kernel, rfl⟩
theorem zd_14_40_115 : zz_D zy_startRun_14_40 115 (.getfield 60) 3 118 := ⟨by decide +kernel, rfl⟩
theorem zd_14_40_118 : zz_D zy_startRun_14_40 118 (.iload_n 1) 1 119 := ⟨by decide +kernel, rfl⟩
theorem zd_14_40_119 : zz_D zy_startRun_14_40 119 (.iconst (-1)) 1 120 := ⟨by decide +kernel, rfl⟩
theorem zd_14_40_120 : zz_D zy_startRun_14_40 120 (.iastore) 1 121 := ⟨by decide +kernel, rfl⟩
theorem zd_14_40_121 : zz_D zy_startRun_14_40 121 (.aload_n 0) 1 122 := ⟨by decide +kernel, rfl⟩
theorem zd_14_40_122 : zz_D zy_startRun_14_40 122 (.getfield 63) 3 125 := ⟨by decide +kernel, rfl⟩
theorem zd_14_40_125 : zz_D zy_startRun_14_40 125 (.iload_n 1) 1 126 := ⟨by decide +kernel, rfl⟩
theorem zd_14_40_126 : zz_D zy_startRun_14_40 126 (.iconst 0) 1 127 := ⟨by decide +kernel, rfl⟩
theorem zd_14_40_127 : zz_D zy_startRun_14_40 127 (.bastore) 1 128 := ⟨by decide +kernel, rfl⟩
theorem zd_14_40_128 : zz_D zy_startRun_14_40 128 (.iinc 1 1) 3 131 := ⟨by decide +kernel, rfl⟩
theorem zd_14_40_131 : zz_B zy_startRun_14_40 131 Instr.goto 40 134 := ⟨(-91), by decide +kernel, rfl, rfl⟩
theorem zd_14_40_136 : zz_D zy_startRun_14_40 136 (.iload_n 1) 1 137 := ⟨by decide +kernel, rfl⟩
theorem zd_14_40_137 : zz_D zy_startRun_14_40 137 (.iconst 3) 1 138 := ⟨by decide +kernel, rfl⟩
theorem zd_14_40_138 : zz_B zy_startRun_14_40 138 (Instr.if_icmp .ge) 173 141 := ⟨35, by decide +kernel, rfl, rfl⟩
theorem zd_14_40_141 : zz_D zy_startRun_14_40 141 (.aload_n 0) 1 142 := ⟨by decide +kernel, rfl⟩
theorem zd_14_40_142 : zz_D zy_startRun_14_40 142 (.getfield 48) 3 145 := ⟨by decide +kernel, rfl⟩
theorem zf_Md_48 : mm_Fl "TensorForgeModel" 48 11 17 (.array .int) true := ⟨R_Md, F_Md, 69, t_Md, rfl, i_Md, by decide, mm_tb_1 1628 (by decide +kernel) rfl, rfl, t_Md_ok, n_Md, rfl, by decide +kernel⟩
theorem zd_14_40_145 : zz_D zy_startRun_14_40 145 (.iload_n 1) 1 146 := ⟨by decide +kernel, rfl⟩
theorem zd_14_40_146 : zz_D zy_startRun_14_40 146 (.iconst 0) 1 147 := ⟨by decide +kernel, rfl⟩
theorem zd_14_40_147 : zz_D zy_startRun_14_40 147 (.iastore) 1 148 := ⟨by decide +kernel, rfl⟩
theorem zd_14_40_148 : zz_D zy_startRun_14_40 148 (.aload_n 0) 1 149 := ⟨by decide +kernel, rfl⟩
theorem zd_14_40_149 : zz_D zy_startRun_14_40 149 (.getfield 70) 3 152 := ⟨by decide +kernel, rfl⟩
theorem zd_14_40_152 : zz_D zy_startRun_14_40 152 (.iload_n 1) 1 153 := ⟨by decide +kernel, rfl⟩
theorem zd_14_40_153 : zz_D zy_startRun_14_40 153 (.iconst (-1)) 1 154 := ⟨by decide +kernel, rfl⟩
theorem zd_14_40_154 : zz_D zy_startRun_14_40 154 (.iastore) 1 155 := ⟨by decide +kernel, rfl⟩
theorem zd_14_40_155 : zz_D zy_startRun_14_40 155 (.aload_n 0) 1 156 := ⟨by decide +kernel, rfl⟩
theorem zd_14_40_156 : zz_D zy_startRun_14_40 156 (.getfield 73) 3 159 := ⟨by decide +kernel, rfl⟩
theorem zd_14_40_159 : zz_D zy_startRun_14_40 159 (.iload_n 1) 1 160 := ⟨by decide +kernel, rfl⟩
theorem zd_14_40_160 : zz_D zy_startRun_14_40 160 (.iconst (-1)) 1 161 := ⟨by decide +kernel, rfl⟩
theorem zd_14_40_161 : zz_D zy_startRun_14_40 161 (.iastore) 1 162 := ⟨by decide +kernel, rfl⟩
theorem zd_14_40_162 : zz_D zy_startRun_14_40 162 (.aload_n 0) 1 163 := ⟨by decide +kernel, rfl⟩
theorem zd_14_40_163 : zz_D zy_startRun_14_40 163 (.iload_n 1) 1 164 := ⟨by decide +kernel, rfl⟩
theorem zd_14_40_164 : zz_D zy_startRun_14_40 164 (.invokevirtual 288) 3 167 := ⟨by decide +kernel, rfl⟩
theorem zk_Md_288 : mm_Vl "TensorForgeModel" 288 11 1 zy_findNext_14_34 := ⟨zyw_findNext_14_34, (R_Md, F_Md, 69), rfl, mm_tb_1 1927 (by decide +kernel) rfl, mm_tb_1 1929 (by decide +kernel) rfl, mm_tb_s 96 (by decide +kernel) rfl⟩
theorem zd_14_40_167 : zz_D zy_startRun_14_40 167 (.iinc 1 1) 3 170 := ⟨by decide +kernel, rfl⟩
theorem zd_14_40_170 : zz_B zy_startRun_14_40 170 Instr.goto 136 173 := ⟨(-34), by decide +kernel, rfl, rfl⟩
theorem zd_14_40_173 : zz_D zy_startRun_14_40 173 (.return_) 1 174 := ⟨by decide +kernel, rfl⟩
-- TensorForgeModel startRun ()V
abbrev zr_startRun_14_40 : Room := { frames := 3, cells := 0, slots := 0, locals := 49 }
def zp_startRun_14_40  (S0 : zz_S) : zz_S → Prop := fun S => zz_G S ∧ zz_fr [(1079, 15), (1079, 16), (1079, 19)] [1087, 1090, 1091, 1092, 1093, 1094, 1095, 1096, 1097, 1098] (fun _ _ => False) S0 S
theorem zb_startRun_14_40_20 {g : mm_G} {l : Launch}  (S0 : zz_S) (n : Nat) (hn : zz_end ≤ n) (G_S0 : zz_G S0)  (x1 : Int) (S : zz_S) (G_S : zz_G S) (F_S : zz_fr [(1079, 15), (1079, 16), (1079, 19)] [1087, 1090, 1091, 1092, 1093, 1094, 1095, 1096, 1097, 1098] (fun _ _ => False) S0 S) (i20_0 : 0 ≤ x1 ∧ x1 ≤ 4) (R : Nat) (hR : (51539607552 + (4 - x1).toNat) = R) (k20 : ∀ (x1 : Int) (S : zz_S), zz_G S → zz_fr [(1079, 15), (1079, 16), (1079, 19)] [1087, 1090, 1091, 1092, 1093, 1094, 1095, 1096, 1097, 1098] (fun _ _ => False) S0 S → (0 ≤ x1 ∧ x1 ≤ 4) → (51539607552 + (4 - x1).toNat) < R → zz_E g l zy_startRun_14_40 zr_startRun_14_40 (zz_QV n (zp_startRun_14_40  S0)) S n 20 [some (.ref 1079), some (zi x1)] [] 0 0) (k40 : ∀ (x1 : Int) (S : zz_S), zz_G S → zz_fr [(1079, 15), (1079, 16), (1079, 19)] [1087, 1090, 1091, 1092, 1093, 1094, 1095, 1096, 1097, 1098] (fun _ _ => False) S0 S → (0 ≤ x1 ∧ x1 ≤ 600) → (34359738368 + (S 1079 19 - x1).toNat) < R → zz_E g l zy_startRun_14_40 zr_startRun_14_40 (zz_QV n (zp_startRun_14_40  S0)) S n 40 [some (.ref 1079), some (zi x1)] [] 0 0) : zz_E g l zy_startRun_14_40 zr_startRun_14_40 (zz_QV n (zp_startRun_14_40  S0)) S n 20 [some (.ref 1079), some (zi x1)] [] 0 0 := by
  refine zz_iload_n (x := x1) rfl zd_14_40_20 ?_
  refine zz_iconst zd_14_40_21 ?_
  refine zz_icmp_ge (by omega) (by omega) zd_14_40_22 (fun c5 => ?_) (fun c5 => ?_)
  · refine zz_iconst zd_14_40_38 ?_
    refine zz_istore_n [some (.ref 1079), some (zi 0)] zd_14_40_39 (by decide) rfl ?_
    have g6 := zz_G.r G_S 1079 19 (-1) 600 rfl rfl
    refine zz_less (ls1 := [some (.ref 1079), some (zi 0)]) ⟨rfl, ⟨rfl, trivial⟩⟩ ?_
    exact k40 0 S G_S F_S (by omega) (by omega)
  · refine zz_aload_n (x := 1079) rfl zd_14_40_25 ?_
    refine zz_getr (kd := 0) (z := 1091) zd_14_40_26 zf_Md_51 zT_1079 rfl (zz_ltn hn rfl) (zz_G.eq G_S 1079 18 1091 rfl rfl) (by decide) 1091 rfl ?_
    refine zz_iload_n (x := x1) rfl zd_14_40_29 ?_
    refine zz_iconst zd_14_40_30 ?_
    refine zz_iast zd_14_40_31 zT_1091 rfl (zz_ltn hn rfl) (by decide) (by omega) (fun S7 qS7 => ?_)
    have G_S7 := zz_G.put G_S qS7 (-2147483648) 2147483647 rfl (by omega)
    have F_S7 := zz_fr.putc F_S qS7 rfl
    refine zz_iinc [some (.ref 1079), some (zi (x1 + 1))] zd_14_40_32 rfl rfl ?_
    refine zz_goto zd_14_40_35 ?_
    refine zz_less (ls1 := [some (.ref 1079), some (zi (x1 + 1))]) ⟨rfl, ⟨rfl, trivial⟩⟩ ?_
    exact k20 (x1 + 1) S7 G_S7 F_S7 (by omega) (by omega)
theorem zb_startRun_14_40_40 {g : mm_G} {l : Launch}  (S0 : zz_S) (n : Nat) (hn : zz_end ≤ n) (G_S0 : zz_G S0)  (x1 : Int) (S : zz_S) (G_S : zz_G S) (F_S : zz_fr [(1079, 15), (1079, 16), (1079, 19)] [1087, 1090, 1091, 1092, 1093, 1094, 1095, 1096, 1097, 1098] (fun _ _ => False) S0 S) (i40_0 : 0 ≤ x1 ∧ x1 ≤ 600) (R : Nat) (hR : (34359738368 + (S 1079 19 - x1).toNat) = R) (k40 : ∀ (x1 : Int) (S : zz_S), zz_G S → zz_fr [(1079, 15), (1079, 16), (1079, 19)] [1087, 1090, 1091, 1092, 1093, 1094, 1095, 1096, 1097, 1098] (fun _ _ => False) S0 S → (0 ≤ x1 ∧ x1 ≤ 600) → (34359738368 + (S 1079 19 - x1).toNat) < R → zz_E g l zy_startRun_14_40 zr_startRun_14_40 (zz_QV n (zp_startRun_14_40  S0)) S n 40 [some (.ref 1079), some (zi x1)] [] 0 0) (k136 : ∀ (x1 : Int) (S : zz_S), zz_G S → zz_fr [(1079, 15), (1079, 16), (1079, 19)] [1087, 1090, 1091, 1092, 1093, 1094, 1095, 1096, 1097, 1098] (fun _ _ => False) S0 S → (0 ≤ x1 ∧ x1 ≤ 3) → (17179869184 + (3 - x1).toNat) < R → zz_E g l zy_startRun_14_40 zr_startRun_14_40 (zz_QV n (zp_startRun_14_40  S0)) S n 136 [some (.ref 1079), some (zi x1)] [] 0 0) : zz_E g l zy_startRun_14_40 zr_startRun_14_40 (zz_QV n (zp_startRun_14_40  S0)) S n 40 [some (.ref 1079), some (zi x1)] [] 0 0 := by
  refine zz_iload_n (x := x1) rfl zd_14_40_40 ?_
  refine zz_aload_n (x := 1079) rfl zd_14_40_41 ?_
  have g8 := zz_G.r G_S 1079 19 (-1) 600 rfl rfl
  refine zz_geti (z := S 1079 19) zd_14_40_42 zf_Md_272 zT_1079 rfl (zz_ltn hn rfl) rfl ?_
  refine zz_icmp_ge (by omega) (by omega) zd_14_40_45 (fun c9 => ?_) (fun c9 => ?_)
  · refine zz_iconst zd_14_40_134 ?_
    refine zz_istore_n [some (.ref 1079), some (zi 0)] zd_14_40_135 (by decide) rfl ?_
    refine zz_less (ls1 := [some (.ref 1079), some (zi 0)]) ⟨rfl, ⟨rfl, trivial⟩⟩ ?_
    exact k136 0 S G_S F_S (by omega) (by omega)
  · refine zz_aload_n (x := 1079) rfl zd_14_40_48 ?_
    refine zz_aload_n (x := 1079) rfl zd_14_40_49 ?_
    refine zz_getr (kd := 0) (z := 1085) zd_14_40_50 zf_Md_29 zT_1079 rfl (zz_ltn hn rfl) (zz_G.eq G_S 1079 8 1085 rfl rfl) (by decide) 1085 rfl ?_
    refine zz_iload_n (x := x1) rfl zd_14_40_53 ?_
    have g10 := zz_G.r G_S0 1085 x1.toNat (-9223372036854775808) 9223372036854775807 rfl rfl
    refine zz_lald (z := S0 1085 x1.toNat) zd_14_40_54 zT_1085 rfl (zz_ltn hn rfl) (by decide) (by omega) (zz_rc F_S (zz_nc1 rfl) rfl (fun h => h) rfl) ?_
    refine zz_callVV [zl (S0 1085 x1.toNat)] zd_14_40_55 zk_Md_234 zT_1079 (zz_ltn hn rfl) rfl rfl ⟨Nat.le_of_ble_eq_true rfl, Nat.le_of_ble_eq_true rfl⟩ ⟨rfl, rfl⟩ (Nat.zero_le _) (Nat.zero_le _) (zc_take_14_18 (S0 1085 x1.toNat) S n hn G_S (by omega)) (fun S11 hP => ?_)
    obtain ⟨G_S11, fS11⟩ := hP
    have F_S11 := zz_fr.trans F_S fS11 rfl zz_nv
    refine zz_aload_n (x := 1079) rfl zd_14_40_58 ?_
    refine zz_getr (kd := 0) (z := 1092) zd_14_40_59 zf_Md_54 zT_1079 rfl (zz_ltn hn rfl) (zz_G.eq G_S11 1079 20 1092 rfl rfl) (by decide) 1092 rfl ?_
    refine zz_iload_n (x := x1) rfl zd_14_40_62 ?_
    refine zz_aload_n (x := 1079) rfl zd_14_40_63 ?_
    refine zz_callVI [] zd_14_40_64 zk_Md_243 zT_1079 (zz_ltn hn rfl) rfl rfl ⟨Nat.le_of_ble_eq_true rfl, Nat.le_of_ble_eq_true rfl⟩ ⟨rfl, rfl⟩ (Nat.zero_le _) (Nat.zero_le _) (zc_unit_14_19  S11 n hn G_S11 ) (fun v14 S13 hP => ?_)
    obtain ⟨rfl, o15⟩ := hP
    refine zz_iast zd_14_40_67 zT_1092 rfl (zz_ltn hn rfl) (by decide) (by omega) (fun S16 qS16 => ?_)
    have G_S16 := zz_G.put G_S11 qS16 (-2147483648) 2147483647 rfl (by omega)
    have F_S16 := zz_fr.putc F_S11 qS16 rfl
    refine zz_aload_n (x := 1079) rfl zd_14_40_68 ?_
    refine zz_getr (kd := 0) (z := 1096) zd_14_40_69 zf_Md_67 zT_1079 rfl (zz_ltn hn rfl) (zz_G.eq G_S16 1079 24 1096 rfl rfl) (by decide) 1096 rfl ?_
    refine zz_iload_n (x := x1) rfl zd_14_40_72 ?_
    refine zz_aload_n (x := 1079) rfl zd_14_40_73 ?_
    refine zz_getr (kd := 0) (z := 1087) zd_14_40_74 zf_Md_36 zT_1079 rfl (zz_ltn hn rfl) (zz_G.eq G_S16 1079 11 1087 rfl rfl) (by decide) 1087 rfl ?_
    refine zz_iconst zd_14_40_77 ?_
    have g17 := zz_G.r G_S11 1087 1 (-2147483648) 2147483647 rfl rfl
    refine zz_iald (z := S11 1087 1) zd_14_40_78 zT_1087 rfl (zz_ltn hn rfl) (by decide) (by decide) (zz_ro qS16 (fun h => absurd h.1 (by decide)) rfl) ?_
    refine zz_aload_n (x := 1079) rfl zd_14_40_79 ?_
    refine zz_getr (kd := 0) (z := 1087) zd_14_40_80 zf_Md_36 zT_1079 rfl (zz_ltn hn rfl) (zz_G.eq G_S16 1079 11 1087 rfl rfl) (by decide) 1087 rfl ?_
    refine zz_iconst zd_14_40_83 ?_
    have g18 := zz_G.r G_S11 1087 2 (-2147483648) 2147483647 rfl rfl
    refine zz_iald (z := S11 1087 2) zd_14_40_84 zT_1087 rfl (zz_ltn hn rfl) (by decide) (by decide) (zz_ro qS16 (fun h => absurd h.1 (by decide)) rfl) ?_
    refine zz_iconst zd_14_40_85 ?_
    refine zz_ishl zd_14_40_86 (fun v19 hv19 ev19 => ?_)
    refine zz_ior (by omega) (by omega) zd_14_40_87 (fun v20 hv20 av20 ev20 => ?_)
    refine zz_aload_n (x := 1079) rfl zd_14_40_88 ?_
    refine zz_getr (kd := 0) (z := 1087) zd_14_40_89 zf_Md_36 zT_1079 rfl (zz_ltn hn rfl) (zz_G.eq G_S16 1079 11 1087 rfl rfl) (by decide) 1087 rfl ?_
    refine zz_iconst zd_14_40_92 ?_
    have g21 := zz_G.r G_S11 1087 3 (-2147483648) 2147483647 rfl rfl
    refine zz_iald (z := S11 1087 3) zd_14_40_93 zT_1087 rfl (zz_ltn hn rfl) (by decide) (by decide) (zz_ro qS16 (fun h => absurd h.1 (by decide)) rfl) ?_
    refine zz_iconst zd_14_40_94 ?_
    refine zz_ishl zd_14_40_95 (fun v22 hv22 ev22 => ?_)
    refine zz_ior (by omega) (by omega) zd_14_40_96 (fun v23 hv23 av23 ev23 => ?_)
    refine zz_aload_n (x := 1079) rfl zd_14_40_97 ?_
    refine zz_getr (kd := 0) (z := 1087) zd_14_40_98 zf_Md_36 zT_1079 rfl (zz_ltn hn rfl) (zz_G.eq G_S16 1079 11 1087 rfl rfl) (by decide) 1087 rfl ?_
    refine zz_iconst zd_14_40_101 ?_
    have g24 := zz_G.r G_S11 1087 4 (-2147483648) 2147483647 rfl rfl
    refine zz_iald (z := S11 1087 4) zd_14_40_102 zT_1087 rfl (zz_ltn hn rfl) (by decide) (by decide) (zz_ro qS16 (fun h => absurd h.1 (by decide)) rfl) ?_
    refine zz_iconst zd_14_40_103 ?_
    refine zz_ishl zd_14_40_104 (fun v25 hv25 ev25 => ?_)
    refine zz_ior (by omega) (by omega) zd_14_40_105 (fun v26 hv26 av26 ev26 => ?_)
    refine zz_iast zd_14_40_106 zT_1096 rfl (zz_ltn hn rfl) (by decide) (by omega) (fun S27 qS27 => ?_)
    have G_S27 := zz_G.put G_S16 qS27 (-2147483648) 2147483647 rfl (by omega)
    have F_S27 := zz_fr.putc F_S16 qS27 rfl
    refine zz_aload_n (x := 1079) rfl zd_14_40_107 ?_
    refine zz_getr (kd := 0) (z := 1093) zd_14_40_108 zf_Md_57 zT_1079 rfl (zz_ltn hn rfl) (zz_G.eq G_S27 1079 21 1093 rfl rfl) (by decide) 1093 rfl ?_
    refine zz_iload_n (x := x1) rfl zd_14_40_111 ?_
    refine zz_iconst zd_14_40_112 ?_
    refine zz_iast zd_14_40_113 zT_1093 rfl (zz_ltn hn rfl) (by decide) (by omega) (fun S28 qS28 => ?_)
    have G_S28 := zz_G.put G_S27 qS28 (-2147483648) 2147483647 rfl (by omega)
    have F_S28 := zz_fr.putc F_S27 qS28 rfl
    refine zz_aload_n (x := 1079) rfl zd_14_40_114 ?_
    refine zz_getr (kd := 0) (z := 1094) zd_14_40_115 zf_Md_60 zT_1079 rfl (zz_ltn hn rfl) (zz_G.eq G_S28 1079 22 1094 rfl rfl) (by decide) 1094 rfl ?_
    refine zz_iload_n (x := x1) rfl zd_14_40_118 ?_
    refine zz_iconst zd_14_40_119 ?_
    refine zz_iast zd_14_40_120 zT_1094 rfl (zz_ltn hn rfl) (by decide) (by omega) (fun S29 qS29 => ?_)
    have G_S29 := zz_G.put G_S28 qS29 (-2147483648) 2147483647 rfl (by omega)
    have F_S29 := zz_fr.putc F_S28 qS29 rfl
    refine zz_aload_n (x := 1079) rfl zd_14_40_121 ?_
    refine zz_getr (kd := 0) (z := 1095) zd_14_40_122 zf_Md_63 zT_1079 rfl (zz_ltn hn rfl) (zz_G.eq G_S29 1079 23 1095 rfl rfl) (by decide) 1095 rfl ?_
    refine zz_iload_n (x := x1) rfl zd_14_40_125 ?_
    refine zz_iconst zd_14_40_126 ?_
    refine zz_zast zd_14_40_127 zT_1095 rfl (zz_ltn hn rfl) (by decide) (by omega) (by omega) (fun S30 qS30 => ?_)
    have G_S30 := zz_G.put G_S29 qS30 0 1 rfl (by omega)
    have F_S30 := zz_fr.putc F_S29 qS30 rfl
    refine zz_iinc [some (.ref 1079), some (zi (x1 + 1))] zd_14_40_128 rfl rfl ?_
    refine zz_goto zd_14_40_131 ?_
    have e31 : S30 1079 19 = S 1079 19 := (zz_ro qS30 (fun h => absurd h.1 (by decide)) (zz_ro qS29 (fun h => absurd h.1 (by decide)) (zz_ro qS28 (fun h => absurd h.1 (by decide)) (zz_ro qS27 (fun h => absurd h.1 (by decide)) (zz_ro qS16 (fun h => absurd h.1 (by decide)) (zz_rc fS11 rfl rfl (fun h => h) rfl))))))
    refine zz_less (ls1 := [some (.ref 1079), some (zi (x1 + 1))]) ⟨rfl, ⟨rfl, trivial⟩⟩ ?_
    exact k40 (x1 + 1) S30 G_S30 F_S30 (by omega) (by omega)
theorem zb_startRun_14_40_136 {g : mm_G} {l : Launch}  (S0 : zz_S) (n : Nat) (hn : zz_end ≤ n) (G_S0 : zz_G S0)  (x1 : Int) (S : zz_S) (G_S : zz_G S) (F_S : zz_fr [(1079, 15), (1079, 16), (1079, 19)] [1087, 1090, 1091, 1092, 1093, 1094, 1095, 1096, 1097, 1098] (fun _ _ => False) S0 S) (i136_0 : 0 ≤ x1 ∧ x1 ≤ 3) (R : Nat) (hR : (17179869184 + (3 - x1).toNat) = R) (k136 : ∀ (x1 : Int) (S : zz_S), zz_G S → zz_fr [(1079, 15), (1079, 16), (1079, 19)] [1087, 1090, 1091, 1092, 1093, 1094, 1095, 1096, 1097, 1098] (fun _ _ => False) S0 S → (0 ≤ x1 ∧ x1 ≤ 3) → (17179869184 + (3 - x1).toNat) < R → zz_E g l zy_startRun_14_40 zr_startRun_14_40 (zz_QV n (zp_startRun_14_40  S0)) S n 136 [some (.ref 1079), some (zi x1)] [] 0 0) : zz_E g l zy_startRun_14_40 zr_startRun_14_40 (zz_QV n (zp_startRun_14_40  S0)) S n 136 [some (.ref 1079), some (zi x1)] [] 0 0 := by
  refine zz_iload_n (x := x1) rfl zd_14_40_136 ?_
  refine zz_iconst zd_14_40_137 ?_
  refine zz_icmp_ge (by omega) (by omega) zd_14_40_138 (fun c32 => ?_) (fun c32 => ?_)
  · exact zz_vret zd_14_40_173 rfl (Nat.zero_le _) (Nat.zero_le _) ⟨_, rfl, G_S, F_S⟩
  · refine zz_aload_n (x := 1079) rfl zd_14_40_141 ?_
    refine zz_getr (kd := 0) (z := 1090) zd_14_40_142 zf_Md_48 zT_1079 rfl (zz_ltn hn rfl) (zz_G.eq G_S 1079 17 1090 rfl rfl) (by decide) 1090 rfl ?_
    refine zz_iload_n (x := x1) rfl zd_14_40_145 ?_
    refine zz_iconst zd_14_40_146 ?_
    refine zz_iast zd_14_40_147 zT_1090 rfl (zz_ltn hn rfl) (by decide) (by omega) (fun S33 qS33 => ?_)
    have G_S33 := zz_G.put G_S qS33 (-2147483648) 2147483647 rfl (by omega)
    have F_S33 := zz_fr.putc F_S qS33 rfl
    refine zz_aload_n (x := 1079) rfl zd_14_40_148 ?_
    refine zz_getr (kd := 0) (z := 1097) zd_14_40_149 zf_Md_70 zT_1079 rfl (zz_ltn hn rfl) (zz_G.eq G_S33 1079 25 1097 rfl rfl) (by decide) 1097 rfl ?_
    refine zz_iload_n (x := x1) rfl zd_14_40_152 ?_
    refine zz_iconst zd_14_40_153 ?_
    refine zz_iast zd_14_40_154 zT_1097 rfl (zz_ltn hn rfl) (by decide) (by omega) (fun S34 qS34 => ?_)
    have G_S34 := zz_G.put G_S33 qS34 (-1) 600 rfl (by omega)
    have F_S34 := zz_fr.putc F_S33 qS34 rfl
    refine zz_aload_n (x := 1079) rfl zd_14_40_155 ?_
    refine zz_getr (kd := 0) (z := 1098) zd_14_40_156 zf_Md_73 zT_1079 rfl (zz_ltn hn rfl) (zz_G.eq G_S34 1079 26 1098 rfl rfl) (by decide) 1098 rfl ?_
    refine zz_iload_n (x := x1) rfl zd_14_40_159 ?_
    refine zz_iconst zd_14_40_160 ?_
    refine zz_iast zd_14_40_161 zT_1098 rfl (zz_ltn hn rfl) (by decide) (by omega) (fun S35 qS35 => ?_)
    have G_S35 := zz_G.put G_S34 qS35 (-1) 601 rfl (by omega)
    have F_S35 := zz_fr.putc F_S34 qS35 rfl
    refine zz_aload_n (x := 1079) rfl zd_14_40_162 ?_
    refine zz_iload_n (x := x1) rfl zd_14_40_163 ?_
    have e36 : S35 1098 x1.toNat = (-1) := (zz_rs qS35)
    refine zz_callVV [zi x1] zd_14_40_164 zk_Md_288 zT_1079 (zz_ltn hn rfl) rfl rfl ⟨Nat.le_of_ble_eq_true rfl, Nat.le_of_ble_eq_true rfl⟩ ⟨rfl, rfl⟩ (Nat.zero_le _) (Nat.zero_le _) (zc_findNext_14_34 x1 S35 n hn G_S35 (by omega) (by omega)) (fun S37 hP => ?_)
    obtain ⟨G_S37, fS37, o39⟩ := hP
    have F_S37 := zz_fr.trans F_S35 fS37 rfl zz_nv
    refine zz_iinc [some (.ref 1079), some (zi (x1 + 1))] zd_14_40_167 rfl rfl ?_
    refine zz_goto zd_14_40_170 ?_
    refine zz_less (ls1 := [some (.ref 1079), some (zi (x1 + 1))]) ⟨rfl, ⟨rfl, trivial⟩⟩ ?_
    exact k136 (x1 + 1) S37 G_S37 F_S37 (by omega) (by omega)
theorem zi_startRun_14_40 {g : mm_G} {l : Launch}  (S0 : zz_S) (n : Nat) (hn : zz_end ≤ n) (G_S0 : zz_G S0)  : ∀ N : Nat, (∀ (x1 : Int) (S : zz_S), zz_G S → zz_fr [(1079, 15), (1079, 16), (1079, 19)] [1087, 1090, 1091, 1092, 1093, 1094, 1095, 1096, 1097, 1098] (fun _ _ => False) S0 S → (0 ≤ x1 ∧ x1 ≤ 4) → (51539607552 + (4 - x1).toNat) < N → zz_E g l zy_startRun_14_40 zr_startRun_14_40 (zz_QV n (zp_startRun_14_40  S0)) S n 20 [some (.ref 1079), some (zi x1)] [] 0 0) ∧ (∀ (x1 : Int) (S : zz_S), zz_G S → zz_fr [(1079, 15), (1079, 16), (1079, 19)] [1087, 1090, 1091, 1092, 1093, 1094, 1095, 1096, 1097, 1098] (fun _ _ => False) S0 S → (0 ≤ x1 ∧ x1 ≤ 600) → (34359738368 + (S 1079 19 - x1).toNat) < N → zz_E g l zy_startRun_14_40 zr_startRun_14_40 (zz_QV n (zp_startRun_14_40  S0)) S n 40 [some (.ref 1079), some (zi x1)] [] 0 0) ∧ (∀ (x1 : Int) (S : zz_S), zz_G S → zz_fr [(1079, 15), (1079, 16), (1079, 19)] [1087, 1090, 1091, 1092, 1093, 1094, 1095, 1096, 1097, 1098] (fun _ _ => False) S0 S → (0 ≤ x1 ∧ x1 ≤ 3) → (17179869184 + (3 - x1).toNat) < N → zz_E g l zy_startRun_14_40 zr_startRun_14_40 (zz_QV n (zp_startRun_14_40  S0)) S n 136 [some (.ref 1079), some (zi x1)] [] 0 0) := by
  intro N
  induction N with
  | zero => exact ⟨fun x1 S _ _ _ h => absurd h (Nat.not_lt_zero _), fun x1 S _ _ _ h => absurd h (Nat.not_lt_zero _), fun x1 S _ _ _ h => absurd h (Nat.not_lt_zero _)⟩
  | succ N ih =>
    exact ⟨fun x1 S a b j0 hR => zb_startRun_14_40_20  S0 n hn G_S0  x1 S a b j0 _ rfl (fun x1 S a b j0 h => ih.1 x1 S a b j0 (Nat.lt_of_lt_of_le h (Nat.le_of_lt_succ hR))) (fun x1 S a b j0 h => ih.2.1 x1 S a b j0 (Nat.lt_of_lt_of_le h (Nat.le_of_lt_succ hR))),
      fun x1 S a b j0 hR => zb_startRun_14_40_40  S0 n hn G_S0  x1 S a b j0 _ rfl (fun x1 S a b j0 h => ih.2.1 x1 S a b j0 (Nat.lt_of_lt_of_le h (Nat.le_of_lt_succ hR))) (fun x1 S a b j0 h => ih.2.2 x1 S a b j0 (Nat.lt_of_lt_of_le h (Nat.le_of_lt_succ hR))),
      fun x1 S a b j0 hR => zb_startRun_14_40_136  S0 n hn G_S0  x1 S a b j0 _ rfl (fun x1 S a b j0 h => ih.2.2 x1 S a b j0 (Nat.lt_of_lt_of_le h (Nat.le_of_lt_succ hR)))⟩
theorem zc_startRun_14_40 {g : mm_G} {l : Launch}  (S0 : zz_S) (n : Nat) (hn : zz_end ≤ n) (G_S0 : zz_G S0)  : mm_Met g l zy_startRun_14_40 zr_startRun_14_40 [.ref 1079] (zz_M S0 n) n (zz_QV n (zp_startRun_14_40  S0)) := by
  refine zz_enter (by decide) (Nat.le_of_ble_eq_true rfl) (zz_less (ls1 := [some (.ref 1079)]) ⟨rfl, trivial⟩ ?_)
  have F_S0 : zz_fr [(1079, 15), (1079, 16), (1079, 19)] [1087, 1090, 1091, 1092, 1093, 1094, 1095, 1096, 1097, 1098] (fun _ _ => False) S0 S0 := zz_fr.refl
  have k20 : ∀ (x1 : Int) (S : zz_S), zz_G S → zz_fr [(1079, 15), (1079, 16), (1079, 19)] [1087, 1090, 1091, 1092, 1093, 1094, 1095, 1096, 1097, 1098] (fun _ _ => False) S0 S → (0 ≤ x1 ∧ x1 ≤ 4) → zz_E g l zy_startRun_14_40 zr_startRun_14_40 (zz_QV n (zp_startRun_14_40  S0)) S n 20 [some (.ref 1079), some (zi x1)] [] 0 0 := fun x1 S a b j0 => (zi_startRun_14_40 (g := g) (l := l)  S0 n hn G_S0  _).1 x1 S a b j0 (Nat.lt_succ_self _)
  refine zz_aload_n (x := 1079) rfl zd_14_40_0 ?_
  refine zz_aload_n (x := 1079) rfl zd_14_40_1 ?_
  have g1 := zz_G.r G_S0 1079 7 0 600 rfl rfl
  refine zz_geti (z := S0 1079 7) zd_14_40_2 zf_Md_224 zT_1079 rfl (zz_ltn hn rfl) rfl ?_
  refine zz_puti zd_14_40_5 zf_Md_272 zT_1079 rfl (zz_ltn hn rfl) (fun S2 qS2 => ?_)
  have G_S2 := zz_G.put G_S0 qS2 (-1) 600 rfl (by omega)
  have F_S2 := zz_fr.puts F_S0 qS2 rfl
  refine zz_aload_n (x := 1079) rfl zd_14_40_8 ?_
  refine zz_iconst zd_14_40_9 ?_
  refine zz_puti zd_14_40_10 zf_Md_292 zT_1079 rfl (zz_ltn hn rfl) (fun S3 qS3 => ?_)
  have G_S3 := zz_G.put G_S2 qS3 (-2147483648) 2147483647 rfl (by omega)
  have F_S3 := zz_fr.puts F_S2 qS3 rfl
  refine zz_aload_n (x := 1079) rfl zd_14_40_13 ?_
  refine zz_iconst zd_14_40_14 ?_
  refine zz_puti zd_14_40_15 zf_Md_45 zT_1079 rfl (zz_ltn hn rfl) (fun S4 qS4 => ?_)
  have G_S4 := zz_G.put G_S3 qS4 (-1) 600 rfl (by omega)
  have F_S4 := zz_fr.puts F_S3 qS4 rfl
  refine zz_iconst zd_14_40_18 ?_
  refine zz_istore_n [some (.ref 1079), some (zi 0)] zd_14_40_19 (by decide) rfl ?_
  refine zz_less (ls1 := [some (.ref 1079), some (zi 0)]) ⟨rfl, ⟨rfl, trivial⟩⟩ ?_
  exact k20 0 S4 G_S4 F_S4 (by omega)
abbrev zy_firstIllegal_14_41 : mm_Y := (⟨"TensorForgeModel", "firstIllegal", "()I"⟩, prog_14_method_41_code, 3, (some .int))
theorem zyw_firstIllegal_14_41 : mm_Yw zy_firstIllegal_14_41 0 := ⟨mm_tb_1 1922 (by decide +kernel) rfl, mm_tb_1 12 (by decide +kernel) rfl, ⟨by decide, by decide⟩, by decide +kernel⟩
theorem zd_14_41_0 : zz_D zy_firstIllegal_14_41 0 (.iconst (-1)) 1 1 := ⟨by decide +kernel, rfl⟩
theorem zd_14_41_1 : zz_D zy_firstIllegal_14_41 1 (.istore_n 1) 1 2 := ⟨by decide +kernel, rfl⟩
theorem zd_14_41_2 : zz_D zy_firstIllegal_14_41 2 (.aload_n 0) 1 3 := ⟨by decide +kernel, rfl⟩
theorem zd_14_41_3 : zz_D zy_firstIllegal_14_41 3 (.getfield 224) 3 6 := ⟨by decide +kernel, rfl⟩
theorem zd_14_41_6 : zz_D zy_firstIllegal_14_41 6 (.iconst 1) 1 7 := ⟨by decide +kernel, rfl⟩
theorem zd_14_41_7 : zz_D zy_firstIllegal_14_41 7 (.isub) 1 8 := ⟨by decide +kernel, rfl⟩
theorem zd_14_41_8 : zz_D zy_firstIllegal_14_41 8 (.istore_n 2) 1 9 := ⟨by decide +kernel, rfl⟩
theorem zd_14_41_9 : zz_D zy_firstIllegal_14_41 9 (.iload_n 2) 1 10 := ⟨by decide +kernel, rfl⟩
theorem zd_14_41_10 : zz_B zy_firstIllegal_14_41 10 (Instr.ifCond .lt) 38 13 := ⟨28, by decide +kernel, rfl, rfl⟩
theorem zd_14_41_38 : zz_D zy_firstIllegal_14_41 38 (.iload_n 1) 1 39 := ⟨by decide +kernel, rfl⟩
theorem zd_14_41_39 : zz_D zy_firstIllegal_14_41 39 (.ireturn) 1 40 := ⟨by decide +kernel, rfl⟩
theorem zd_14_41_13 : zz_D zy_firstIllegal_14_41 13 (.aload_n 0) 1 14 := ⟨by decide +kernel, rfl⟩
theorem zd_14_41_14 : zz_D zy_firstIllegal_14_41 14 (.aload_n 0) 1 15 := ⟨by decide +kernel, rfl⟩
theorem zd_14_41_15 : zz_D zy_firstIllegal_14_41 15 (.getfield 29) 3 18 := ⟨by decide +kernel, rfl⟩
theorem zd_14_41_18 : zz_D zy_firstIllegal_14_41 18 (.iload_n 2) 1 19 := ⟨by decide +kernel, rfl⟩
theorem zd_14_41_19 : zz_D zy_firstIllegal_14_41 19 (.laload) 1 20 := ⟨by decide +kernel, rfl⟩
theorem zd_14_41_20 : zz_D zy_firstIllegal_14_41 20 (.invokevirtual 250) 3 23 := ⟨by decide +kernel, rfl⟩
theorem zd_14_41_23 : zz_B zy_firstIllegal_14_41 23 (Instr.ifCond .eq) 30 26 := ⟨7, by decide +kernel, rfl, rfl⟩
theorem zd_14_41_30 : zz_D zy_firstIllegal_14_41 30 (.iload_n 1) 1 31 := ⟨by decide +kernel, rfl⟩
theorem zd_14_41_31 : zz_D zy_firstIllegal_14_41 31 (.istore_n 1) 1 32 := ⟨by decide +kernel, rfl⟩
theorem zd_14_41_32 : zz_D zy_firstIllegal_14_41 32 (.iinc 2 (-1)) 3 35 := ⟨by decide +kernel, rfl⟩
theorem zd_14_41_35 : zz_B zy_firstIllegal_14_41 35 Instr.goto 9 38 := ⟨(-26), by decide +kernel, rfl, rfl⟩
theorem zd_14_41_26 : zz_D zy_firstIllegal_14_41 26 (.iload_n 2) 1 27 := ⟨by decide +kernel, rfl⟩
theorem zd_14_41_27 : zz_B zy_firstIllegal_14_41 27 Instr.goto 31 30 := ⟨4, by decide +kernel, rfl, rfl⟩
-- TensorForgeModel firstIllegal ()I
abbrev zr_firstIllegal_14_41 : Room := { frames := 4, cells := 0, slots := 0, locals := 67 }
def zp_firstIllegal_14_41  (S0 : zz_S) : Int → zz_S → Prop := fun r S => zz_G S ∧ zz_fr [] [1087, 1088, 1089] (fun _ _ => False) S0 S ∧ ((-2147483648) ≤ r ∧ r ≤ 2147483647)
theorem zb_firstIllegal_14_41_9 {g : mm_G} {l : Launch}  (S0 : zz_S) (n : Nat) (hn : zz_end ≤ n) (G_S0 : zz_G S0)  (x1 : Int) (x2 : Int) (S : zz_S) (G_S : zz_G S) (F_S : zz_fr [] [1087, 1088, 1089] (fun _ _ => False) S0 S) (i9_0 : (-1) ≤ x1 ∧ x1 ≤ 599) (i9_1 : (-1) ≤ x2 ∧ x2 ≤ 599) (R : Nat) (hR : (x2 + 1).toNat = R) (k9 : ∀ (x1 : Int) (x2 : Int) (S : zz_S), zz_G S → zz_fr [] [1087, 1088, 1089] (fun _ _ => False) S0 S → ((-1) ≤ x1 ∧ x1 ≤ 599) → ((-1) ≤ x2 ∧ x2 ≤ 599) → (x2 + 1).toNat < R → zz_E g l zy_firstIllegal_14_41 zr_firstIllegal_14_41 (zz_QI n (zp_firstIllegal_14_41  S0)) S n 9 [some (.ref 1079), some (zi x1), some (zi x2)] [] 0 0) : zz_E g l zy_firstIllegal_14_41 zr_firstIllegal_14_41 (zz_QI n (zp_firstIllegal_14_41  S0)) S n 9 [some (.ref 1079), some (zi x1), some (zi x2)] [] 0 0 := by
  refine zz_iload_n (x := x2) rfl zd_14_41_9 ?_
  refine zz_if_lt (by omega) zd_14_41_10 (fun c2 => ?_) (fun c2 => ?_)
  · refine zz_iload_n (x := x1) rfl zd_14_41_38 ?_
    exact zz_iret zd_14_41_39 rfl (Nat.zero_le _) (Nat.zero_le _) ⟨_, _, rfl, G_S, F_S, by omega⟩
  · refine zz_aload_n (x := 1079) rfl zd_14_41_13 ?_
    refine zz_aload_n (x := 1079) rfl zd_14_41_14 ?_
    refine zz_getr (kd := 0) (z := 1085) zd_14_41_15 zf_Md_29 zT_1079 rfl (zz_ltn hn rfl) (zz_G.eq G_S 1079 8 1085 rfl rfl) (by decide) 1085 rfl ?_
    refine zz_iload_n (x := x2) rfl zd_14_41_18 ?_
    have g3 := zz_G.r G_S0 1085 x2.toNat (-9223372036854775808) 9223372036854775807 rfl rfl
    refine zz_lald (z := S0 1085 x2.toNat) zd_14_41_19 zT_1085 rfl (zz_ltn hn rfl) (by decide) (by omega) (zz_rc F_S (zz_nc1 rfl) rfl (fun h => h) rfl) ?_
    refine zz_callVI [zl (S0 1085 x2.toNat)] zd_14_41_20 zk_Md_250 zT_1079 (zz_ltn hn rfl) rfl rfl ⟨Nat.le_of_ble_eq_true rfl, Nat.le_of_ble_eq_true rfl⟩ ⟨rfl, rfl⟩ (Nat.zero_le _) (Nat.zero_le _) (zc_isIllegal_14_24 (S0 1085 x2.toNat) S n hn G_S (by omega)) (fun v5 S4 hP => ?_)
    obtain ⟨G_S4, fS4, o6⟩ := hP
    have F_S4 := zz_fr.trans F_S fS4 rfl zz_nv
    rcases (by omega : v5 = 0 ∨ v5 = 1) with rfl | rfl
    · refine zz_if_eq (by omega) zd_14_41_23 (fun c7 => ?_) (fun c7 => ?_)
      · refine zz_iload_n (x := x1) rfl zd_14_41_30 ?_
        refine zz_istore_n [some (.ref 1079), some (zi x1), some (zi x2)] zd_14_41_31 (by decide) rfl ?_
        refine zz_iinc [some (.ref 1079), some (zi x1), some (zi (x2 + (-1)))] zd_14_41_32 rfl rfl ?_
        refine zz_goto zd_14_41_35 ?_
        refine zz_less (ls1 := [some (.ref 1079), some (zi x1), some (zi (x2 + (-1)))]) ⟨rfl, ⟨rfl, ⟨rfl, trivial⟩⟩⟩ ?_
        exact k9 x1 (x2 + (-1)) S4 G_S4 F_S4 (by omega) (by omega) (by omega)
      · exfalso; omega
    · refine zz_if_eq (by omega) zd_14_41_23 (fun c8 => ?_) (fun c8 => ?_)
      · exfalso; omega
      · refine zz_iload_n (x := x2) rfl zd_14_41_26 ?_
        refine zz_goto zd_14_41_27 ?_
        refine zz_istore_n [some (.ref 1079), some (zi x2), some (zi x2)] zd_14_41_31 (by decide) rfl ?_
        refine zz_iinc [some (.ref 1079), some (zi x2), some (zi (x2 + (-1)))] zd_14_41_32 rfl rfl ?_
        refine zz_goto zd_14_41_35 ?_
        refine zz_less (ls1 := [some (.ref 1079), some (zi x2), some (zi (x2 + (-1)))]) ⟨rfl, ⟨rfl, ⟨rfl, trivial⟩⟩⟩ ?_
        exact k9 x2 (x2 + (-1)) S4 G_S4 F_S4 (by omega) (by omega) (by omega)
theorem zi_firstIllegal_14_41 {g : mm_G} {l : Launch}  (S0 : zz_S) (n : Nat) (hn : zz_end ≤ n) (G_S0 : zz_G S0)  : ∀ N : Nat, (∀ (x1 : Int) (x2 : Int) (S : zz_S), zz_G S → zz_fr [] [1087, 1088, 1089] (fun _ _ => False) S0 S → ((-1) ≤ x1 ∧ x1 ≤ 599) → ((-1) ≤ x2 ∧ x2 ≤ 599) → (x2 + 1).toNat < N → zz_E g l zy_firstIllegal_14_41 zr_firstIllegal_14_41 (zz_QI n (zp_firstIllegal_14_41  S0)) S n 9 [some (.ref 1079), some (zi x1), some (zi x2)] [] 0 0) := by
  intro N
  induction N with
  | zero => exact fun x1 x2 S _ _ _ _ h => absurd h (Nat.not_lt_zero _)
  | succ N ih =>
    exact fun x1 x2 S a b j0 j1 hR => zb_firstIllegal_14_41_9  S0 n hn G_S0  x1 x2 S a b j0 j1 _ rfl (fun x1 x2 S a b j0 j1 h => ih x1 x2 S a b j0 j1 (Nat.lt_of_lt_of_le h (Nat.le_of_lt_succ hR)))
theorem zc_firstIllegal_14_41 {g : mm_G} {l : Launch}  (S0 : zz_S) (n : Nat) (hn : zz_end ≤ n) (G_S0 : zz_G S0)  : mm_Met g l zy_firstIllegal_14_41 zr_firstIllegal_14_41 [.ref 1079] (zz_M S0 n) n (zz_QI n (zp_firstIllegal_14_41  S0)) := by
  refine zz_enter (by decide) (Nat.le_of_ble_eq_true rfl) (zz_less (ls1 := [some (.ref 1079)]) ⟨rfl, trivial⟩ ?_)
  have F_S0 : zz_fr [] [1087, 1088, 1089] (fun _ _ => False) S0 S0 := zz_fr.refl
  have k9 : ∀ (x1 : Int) (x2 : Int) (S : zz_S), zz_G S → zz_fr [] [1087, 1088, 1089] (fun _ _ => False) S0 S → ((-1) ≤ x1 ∧ x1 ≤ 599) → ((-1) ≤ x2 ∧ x2 ≤ 599) → zz_E g l zy_firstIllegal_14_41 zr_firstIllegal_14_41 (zz_QI n (zp_firstIllegal_14_41  S0)) S n 9 [some (.ref 1079), some (zi x1), some (zi x2)] [] 0 0 := fun x1 x2 S a b j0 j1 => (zi_firstIllegal_14_41 (g := g) (l := l)  S0 n hn G_S0  _) x1 x2 S a b j0 j1 (Nat.lt_succ_self _)
  refine zz_iconst zd_14_41_0 ?_
  refine zz_istore_n [some (.ref 1079), some (zi (-1))] zd_14_41_1 (by decide) rfl ?_
  refine zz_aload_n (x := 1079) rfl zd_14_41_2 ?_
  have g1 := zz_G.r G_S0 1079 7 0 600 rfl rfl
  refine zz_geti (z := S0 1079 7) zd_14_41_3 zf_Md_224 zT_1079 rfl (zz_ltn hn rfl) rfl ?_
  refine zz_iconst zd_14_41_6 ?_
  refine zz_isub zd_14_41_7 ?_
  refine zz_istore_n [some (.ref 1079), some (zi (-1)), some (zi ((S0 1079 7) - 1))] zd_14_41_8 (by decide) rfl ?_
  refine zz_less (ls1 := [some (.ref 1079), some (zi (-1)), some (zi ((S0 1079 7) - 1))]) ⟨rfl, ⟨rfl, ⟨rfl, trivial⟩⟩⟩ ?_
  exact k9 (-1) ((S0 1079 7) - 1) S0 G_S0 F_S0 (by omega) (by omega)
abbrev zy_stop_14_42 : mm_Y := (⟨"TensorForgeModel", "stop", "(III)I"⟩, prog_14_method_42_code, 4, (some .int))
theorem zyw_stop_14_42 : mm_Yw zy_stop_14_42 3 := ⟨mm_tb_1 1934 (by decide +kernel) rfl, mm_tb_1 12 (by decide +kernel) rfl, ⟨by decide, by decide⟩, by decide +kernel⟩
theorem zd_14_42_0 : zz_D zy_stop_14_42 0 (.aload_n 0) 1 1 := ⟨by decide +kernel, rfl⟩
theorem zd_14_42_1 : zz_D zy_stop_14_42 1 (.iload_n 1) 1 2 := ⟨by decide +kernel, rfl⟩
theorem zd_14_42_2 : zz_D zy_stop_14_42 2 (.putfield 295) 3 5 := ⟨by decide +kernel, rfl⟩
theorem zf_Md_295 : mm_Fl "TensorForgeModel" 295 11 14 .int false := ⟨R_Md, F_Md, 69, t_Md, rfl, i_Md, by decide, mm_tb_1 1625 (by decide +kernel) rfl, rfl, t_Md_ok, n_Md, rfl, by decide +kernel⟩
theorem zd_14_42_5 : zz_D zy_stop_14_42 5 (.aload_n 0) 1 6 := ⟨by decide +kernel, rfl⟩
theorem zd_14_42_6 : zz_D zy_stop_14_42 6 (.iload_n 2) 1 7 := ⟨by decide +kernel, rfl⟩
theorem zd_14_42_7 : zz_D zy_stop_14_42 7 (.putfield 45) 3 10 := ⟨by decide +kernel, rfl⟩
theorem zd_14_42_10 : zz_D zy_stop_14_42 10 (.aload_n 0) 1 11 := ⟨by decide +kernel, rfl⟩
theorem zd_14_42_11 : zz_D zy_stop_14_42 11 (.iload_n 3) 1 12 := ⟨by decide +kernel, rfl⟩
theorem zd_14_42_12 : zz_D zy_stop_14_42 12 (.putfield 292) 3 15 := ⟨by decide +kernel, rfl⟩
theorem zd_14_42_15 : zz_D zy_stop_14_42 15 (.iload_n 1) 1 16 := ⟨by decide +kernel, rfl⟩
theorem zd_14_42_16 : zz_D zy_stop_14_42 16 (.ireturn) 1 17 := ⟨by decide +kernel, rfl⟩
-- TensorForgeModel stop (III)I
abbrev zr_stop_14_42 : Room := { frames := 0, cells := 0, slots := 0, locals := 0 }
def zp_stop_14_42 (p0 : Int) (p1 : Int) (p2 : Int) (S0 : zz_S) : Int → zz_S → Prop := fun r S => zz_G S ∧ zz_fr [(1079, 14), (1079, 15), (1079, 16)] [] (fun _ _ => False) S0 S ∧ (0 ≤ r ∧ r ≤ 4) ∧ (r = p0)
theorem zc_stop_14_42 {g : mm_G} {l : Launch} (p0 : Int) (p1 : Int) (p2 : Int) (S0 : zz_S) (n : Nat) (hn : zz_end ≤ n) (G_S0 : zz_G S0) (hp0 : 0 ≤ p0 ∧ p0 ≤ 4) (hp1 : (-1) ≤ p1 ∧ p1 ≤ 600) (hp2 : (-2147483648) ≤ p2 ∧ p2 ≤ 2147483647) : mm_Met g l zy_stop_14_42 zr_stop_14_42 [.ref 1079, zi p0, zi p1, zi p2] (zz_M S0 n) n (zz_QI n (zp_stop_14_42 p0 p1 p2 S0)) := by
  refine zz_enter (by decide) (Nat.le_of_ble_eq_true rfl) (zz_less (ls1 := [some (.ref 1079), some (zi p0), some (zi p1), some (zi p2)]) ⟨rfl, ⟨rfl, ⟨rfl, ⟨rfl, trivial⟩⟩⟩⟩ ?_)
  have F_S0 : zz_fr [(1079, 14), (1079, 15), (1079, 16)] [] (fun _ _ => False) S0 S0 := zz_fr.refl
  refine zz_aload_n (x := 1079) rfl zd_14_42_0 ?_
  refine zz_iload_n (x := p0) rfl zd_14_42_1 ?_
  refine zz_puti zd_14_42_2 zf_Md_295 zT_1079 rfl (zz_ltn hn rfl) (fun S1 qS1 => ?_)
  have G_S1 := zz_G.put G_S0 qS1 0 4 rfl (by omega)
  have F_S1 := zz_fr.puts F_S0 qS1 rfl
  refine zz_aload_n (x := 1079) rfl zd_14_42_5 ?_
  refine zz_iload_n (x := p1) rfl zd_14_42_6 ?_
  refine zz_puti zd_14_42_7 zf_Md_45 zT_1079 rfl (zz_ltn hn rfl) (fun S2 qS2 => ?_)
  have G_S2 := zz_G.put G_S1 qS2 (-1) 600 rfl (by omega)
  have F_S2 := zz_fr.puts F_S1 qS2 rfl
  refine zz_aload_n (x := 1079) rfl zd_14_42_10 ?_
  refine zz_iload_n (x := p2) rfl zd_14_42_11 ?_
  refine zz_puti zd_14_42_12 zf_Md_292 zT_1079 rfl (zz_ltn hn rfl) (fun S3 qS3 => ?_)
  have G_S3 := zz_G.put G_S2 qS3 (-2147483648) 2147483647 rfl (by omega)
  have F_S3 := zz_fr.puts F_S2 qS3 rfl
  refine zz_iload_n (x := p0) rfl zd_14_42_15 ?_
  exact zz_iret zd_14_42_16 rfl (Nat.zero_le _) (Nat.zero_le _) ⟨_, _, rfl, G_S3, F_S3, by omega, by omega⟩
abbrev zy_stopped_14_45 : mm_Y := (⟨"TensorForgeModel", "stopped", "(I)I"⟩, prog_14_method_45_code, 2, (some .int))
theorem zyw_stopped_14_45 : mm_Yw zy_stopped_14_45 1 := ⟨mm_tb_1 1992 (by decide +kernel) rfl, mm_tb_1 12 (by decide +kernel) rfl, ⟨by decide, by decide⟩, by decide +kernel⟩
theorem zd_14_45_0 : zz_D zy_stopped_14_45 0 (.aload_n 0) 1 1 := ⟨by decide +kernel, rfl⟩
theorem zd_14_45_1 : zz_D zy_stopped_14_45 1 (.iload_n 1) 1 2 := ⟨by decide +kernel, rfl⟩
theorem zd_14_45_2 : zz_D zy_stopped_14_45 2 (.i2l) 1 3 := ⟨by decide +kernel, rfl⟩
theorem zd_14_45_3 : zz_D zy_stopped_14_45 3 (.lconst 0) 1 4 := ⟨by decide +kernel, rfl⟩
theorem zd_14_45_4 : zz_D zy_stopped_14_45 4 (.ldc2_w 238) 3 7 := ⟨by decide +kernel, rfl⟩
theorem zd_14_45_7 : zz_D zy_stopped_14_45 7 (.invokestatic 192) 3 10 := ⟨by decide +kernel, rfl⟩
theorem zd_14_45_10 : zz_B zy_stopped_14_45 10 (Instr.ifCond .ne) 17 13 := ⟨7, by decide +kernel, rfl, rfl⟩
theorem zd_14_45_13 : zz_D zy_stopped_14_45 13 (.iconst 1) 1 14 := ⟨by decide +kernel, rfl⟩
theorem zd_14_45_14 : zz_B zy_stopped_14_45 14 Instr.goto 18 17 := ⟨4, by decide +kernel, rfl, rfl⟩
theorem zd_14_45_18 : zz_D zy_stopped_14_45 18 (.iconst 0) 1 19 := ⟨by decide +kernel, rfl⟩
theorem zd_14_45_19 : zz_D zy_stopped_14_45 19 (.iconst 0) 1 20 := ⟨by decide +kernel, rfl⟩
theorem zd_14_45_20 : zz_D zy_stopped_14_45 20 (.invokevirtual 196) 3 23 := ⟨by decide +kernel, rfl⟩
theorem zd_14_45_23 : zz_B zy_stopped_14_45 23 (Instr.ifCond .eq) 28 26 := ⟨5, by decide +kernel, rfl, rfl⟩
theorem zd_14_45_26 : zz_D zy_stopped_14_45 26 (.iconst 0) 1 27 := ⟨by decide +kernel, rfl⟩
theorem zd_14_45_27 : zz_D zy_stopped_14_45 27 (.ireturn) 1 28 := ⟨by decide +kernel, rfl⟩
theorem zd_14_45_17 : zz_D zy_stopped_14_45 17 (.iconst 0) 1 18 := ⟨by decide +kernel, rfl⟩
theorem zd_14_45_28 : zz_D zy_stopped_14_45 28 (.iload_n 1) 1 29 := ⟨by decide +kernel, rfl⟩
theorem zd_14_45_29 : zz_B zy_stopped_14_45 29 (Instr.ifCond .ne) 39 32 := ⟨10, by decide +kernel, rfl, rfl⟩
theorem zd_14_45_39 : zz_D zy_stopped_14_45 39 (.iload_n 1) 1 40 := ⟨by decide +kernel, rfl⟩
theorem zd_14_45_40 : zz_D zy_stopped_14_45 40 (.iconst 1) 1 41 := ⟨by decide +kernel, rfl⟩
theorem zd_14_45_41 : zz_B zy_stopped_14_45 41 (Instr.if_icmp .ne) 51 44 := ⟨10, by decide +kernel, rfl, rfl⟩
theorem zd_14_45_51 : zz_D zy_stopped_14_45 51 (.iload_n 1) 1 52 := ⟨by decide +kernel, rfl⟩
theorem zd_14_45_52 : zz_D zy_stopped_14_45 52 (.iconst 2) 1 53 := ⟨by decide +kernel, rfl⟩
theorem zd_14_45_53 : zz_B zy_stopped_14_45 53 (Instr.if_icmp .ne) 63 56 := ⟨10, by decide +kernel, rfl, rfl⟩
theorem zd_14_45_63 : zz_D zy_stopped_14_45 63 (.iload_n 1) 1 64 := ⟨by decide +kernel, rfl⟩
theorem zd_14_45_64 : zz_D zy_stopped_14_45 64 (.bipush 6) 2 66 := ⟨by decide +kernel, rfl⟩
theorem zd_14_45_66 : zz_B zy_stopped_14_45 66 (Instr.if_icmp .ge) 80 69 := ⟨14, by decide +kernel, rfl, rfl⟩
theorem zd_14_45_80 : zz_D zy_stopped_14_45 80 (.aload_n 0) 1 81 := ⟨by decide +kernel, rfl⟩
theorem zd_14_45_81 : zz_D zy_stopped_14_45 81 (.getfield 51) 3 84 := ⟨by decide +kernel, rfl⟩
theorem zd_14_45_84 : zz_D zy_stopped_14_45 84 (.iload_n 1) 1 85 := ⟨by decide +kernel, rfl⟩
theorem zd_14_45_85 : zz_D zy_stopped_14_45 85 (.bipush 6) 2 87 := ⟨by decide +kernel, rfl⟩
theorem zd_14_45_87 : zz_D zy_stopped_14_45 87 (.isub) 1 88 := ⟨by decide +kernel, rfl⟩
theorem zd_14_45_88 : zz_D zy_stopped_14_45 88 (.iaload) 1 89 := ⟨by decide +kernel, rfl⟩
theorem zd_14_45_89 : zz_D zy_stopped_14_45 89 (.ireturn) 1 90 := ⟨by decide +kernel, rfl⟩
theorem zd_14_45_69 : zz_D zy_stopped_14_45 69 (.aload_n 0) 1 70 := ⟨by decide +kernel, rfl⟩
theorem zd_14_45_70 : zz_D zy_stopped_14_45 70 (.getfield 48) 3 73 := ⟨by decide +kernel, rfl⟩
theorem zd_14_45_73 : zz_D zy_stopped_14_45 73 (.iload_n 1) 1 74 := ⟨by decide +kernel, rfl⟩
theorem zd_14_45_74 : zz_D zy_stopped_14_45 74 (.iconst 3) 1 75 := ⟨by decide +kernel, rfl⟩
theorem zd_14_45_75 : zz_D zy_stopped_14_45 75 (.isub) 1 76 := ⟨by decide +kernel, rfl⟩
theorem zd_14_45_76 : zz_D zy_stopped_14_45 76 (.iaload) 1 77 := ⟨by decide +kernel, rfl⟩
theorem zd_14_45_77 : zz_B zy_stopped_14_45 77 Instr.goto 89 80 := ⟨12, by decide +kernel, rfl, rfl⟩
theorem zd_14_45_56 : zz_D zy_stopped_14_45 56 (.aload_n 0) 1 57 := ⟨by decide +kernel, rfl⟩
theorem zd_14_45_57 : zz_D zy_stopped_14_45 57 (.getfield 292) 3 60 := ⟨by decide +kernel, rfl⟩
theorem zd_14_45_60 : zz_B zy_stopped_14_45 60 Instr.goto 89 63 := ⟨29, by decide +kernel, rfl, rfl⟩
theorem zd_14_45_44 : zz_D zy_stopped_14_45 44 (.aload_n 0) 1 45 := ⟨by decide +kernel, rfl⟩
theorem zd_14_45_45 : zz_D zy_stopped_14_45 45 (.getfield 45) 3 48 := ⟨by decide +kernel, rfl⟩
theorem zd_14_45_48 : zz_B zy_stopped_14_45 48 Instr.goto 89 51 := ⟨41, by decide +kernel, rfl, rfl⟩
theorem zd_14_45_32 : zz_D zy_stopped_14_45 32 (.aload_n 0) 1 33 := ⟨by decide +kernel, rfl⟩
theorem zd_14_45_33 : zz_D zy_stopped_14_45 33 (.getfield 295) 3 36 := ⟨by decide +kernel, rfl⟩
theorem zd_14_45_36 : zz_B zy_stopped_14_45 36 Instr.goto 89 39 := ⟨53, by decide +kernel, rfl, rfl⟩
-- TensorForgeModel stopped (I)I
abbrev zr_stopped_14_45 : Room := { frames := 1, cells := 0, slots := 0, locals := 18 }
def zp_stopped_14_45 (p0 : Int) (S0 : zz_S) : Int → zz_S → Prop := fun r S => zz_G S ∧ zz_fr [(1079, 0)] [] (fun _ _ => False) S0 S ∧ ((-2147483648) ≤ r ∧ r ≤ 2147483647)
theorem zc_stopped_14_45 {g : mm_G} {l : Launch} (p0 : Int) (S0 : zz_S) (n : Nat) (hn : zz_end ≤ n) (G_S0 : zz_G S0) (hp0 : (-2147483648) ≤ p0 ∧ p0 ≤ 2147483647) : mm_Met g l zy_stopped_14_45 zr_stopped_14_45 [.ref 1079, zi p0] (zz_M S0 n) n (zz_QI n (zp_stopped_14_45 p0 S0)) := by
  refine zz_enter (by decide) (Nat.le_of_ble_eq_true rfl) (zz_less (ls1 := [some (.ref 1079), some (zi p0)]) ⟨rfl, ⟨rfl, trivial⟩⟩ ?_)
  have F_S0 : zz_fr [(1079, 0)] [] (fun _ _ => False) S0 S0 := zz_fr.refl
  refine zz_aload_n (x := 1079) rfl zd_14_45_0 ?_
  refine zz_iload_n (x := p0) rfl zd_14_45_1 ?_
  refine zz_i2l (by omega) zd_14_45_2 ?_
  refine zz_lconst (z := 0) (by decide) zd_14_45_3 ?_
  refine zz_ldc2 (z := 9) zq_Md_238 (by decide) zd_14_45_4 ?_
  refine zz_callSI [zl p0, zl 0, zl 9] zd_14_45_7 zk_Md_192 rfl rfl ⟨Nat.le_of_ble_eq_true rfl, Nat.le_of_ble_eq_true rfl⟩ ⟨rfl, rfl⟩ (Nat.zero_le _) (Nat.zero_le _) (zc_in_14_4 p0 0 9 S0 n hn G_S0 (by omega) (by omega) (by omega)) (fun v2 S1 hP => ?_)
  obtain ⟨rfl, o3, o4⟩ := hP
  rcases (by omega : v2 = 0 ∨ v2 = 1) with rfl | rfl
  · refine zz_if_ne (by omega) zd_14_45_10 (fun c5 => ?_) (fun c5 => ?_)
    · exfalso; omega
    · refine zz_iconst zd_14_45_13 ?_
      refine zz_goto zd_14_45_14 ?_
      refine zz_iconst zd_14_45_18 ?_
      refine zz_iconst zd_14_45_19 ?_
      refine zz_callVI [zi 1, zi 0, zi 0] zd_14_45_20 zk_Md_196 zT_1079 (zz_ltn hn rfl) rfl rfl ⟨Nat.le_of_ble_eq_true rfl, Nat.le_of_ble_eq_true rfl⟩ ⟨rfl, rfl⟩ (Nat.zero_le _) (Nat.zero_le _) (zc_refuse_14_3 1 0 0 S0 n hn G_S0 (by omega) (by omega) (by omega)) (fun v7 S6 hP => ?_)
      obtain ⟨G_S6, fS6, o8, o9⟩ := hP
      have F_S6 := zz_fr.trans F_S0 fS6 rfl zz_nv
      rcases (by omega : v7 = 0 ∨ v7 = 1) with rfl | rfl
      · exfalso; omega
      · have e10 : S6 1079 0 = 1 := by omega
        refine zz_if_eq (by omega) zd_14_45_23 (fun c11 => ?_) (fun c11 => ?_)
        · exfalso; omega
        · refine zz_iconst zd_14_45_26 ?_
          exact zz_iret zd_14_45_27 rfl (Nat.zero_le _) (Nat.zero_le _) ⟨_, _, rfl, G_S6, F_S6, by omega⟩
  · refine zz_if_ne (by omega) zd_14_45_10 (fun c12 => ?_) (fun c12 => ?_)
    · refine zz_iconst zd_14_45_17 ?_
      refine zz_iconst zd_14_45_18 ?_
      refine zz_iconst zd_14_45_19 ?_
      refine zz_callVI [zi 0, zi 0, zi 0] zd_14_45_20 zk_Md_196 zT_1079 (zz_ltn hn rfl) rfl rfl ⟨Nat.le_of_ble_eq_true rfl, Nat.le_of_ble_eq_true rfl⟩ ⟨rfl, rfl⟩ (Nat.zero_le _) (Nat.zero_le _) (zc_refuse_14_3 0 0 0 S0 n hn G_S0 (by omega) (by omega) (by omega)) (fun v14 S13 hP => ?_)
      obtain ⟨G_S13, fS13, o15, o16⟩ := hP
      have F_S13 := zz_fr.trans F_S0 fS13 rfl zz_nv
      rcases (by omega : v14 = 0 ∨ v14 = 1) with rfl | rfl
      · have e17 : S13 1079 0 = 0 := by omega
        refine zz_if_eq (by omega) zd_14_45_23 (fun c18 => ?_) (fun c18 => ?_)
        · refine zz_iload_n (x := p0) rfl zd_14_45_28 ?_
          refine zz_if_ne (by omega) zd_14_45_29 (fun c19 => ?_) (fun c19 => ?_)
          · refine zz_iload_n (x := p0) rfl zd_14_45_39 ?_
            refine zz_iconst zd_14_45_40 ?_
            refine zz_icmp_ne (by omega) (by omega) zd_14_45_41 (fun c20 => ?_) (fun c20 => ?_)
            · refine zz_iload_n (x := p0) rfl zd_14_45_51 ?_
              refine zz_iconst zd_14_45_52 ?_
              refine zz_icmp_ne (by omega) (by omega) zd_14_45_53 (fun c21 => ?_) (fun c21 => ?_)
              · refine zz_iload_n (x := p0) rfl zd_14_45_63 ?_
                refine zz_bipush (by decide) zd_14_45_64 ?_
                refine zz_icmp_ge (by omega) (by omega) zd_14_45_66 (fun c22 => ?_) (fun c22 => ?_)
                · refine zz_aload_n (x := 1079) rfl zd_14_45_80 ?_
                  refine zz_getr (kd := 0) (z := 1091) zd_14_45_81 zf_Md_51 zT_1079 rfl (zz_ltn hn rfl) (zz_G.eq G_S13 1079 18 1091 rfl rfl) (by decide) 1091 rfl ?_
                  refine zz_iload_n (x := p0) rfl zd_14_45_84 ?_
                  refine zz_bipush (by decide) zd_14_45_85 ?_
                  refine zz_isub zd_14_45_87 ?_
                  have g23 := zz_G.r G_S0 1091 ((p0 - 6).toNat) (-2147483648) 2147483647 rfl rfl
                  refine zz_iald (z := S0 1091 ((p0 - 6).toNat)) zd_14_45_88 zT_1091 rfl (zz_ltn hn rfl) (by decide) (by omega) (zz_rc fS13 (zz_nc1 rfl) rfl (fun h => h) rfl) ?_
                  exact zz_iret zd_14_45_89 rfl (Nat.zero_le _) (Nat.zero_le _) ⟨_, _, rfl, G_S13, F_S13, by omega⟩
                · refine zz_aload_n (x := 1079) rfl zd_14_45_69 ?_
                  refine zz_getr (kd := 0) (z := 1090) zd_14_45_70 zf_Md_48 zT_1079 rfl (zz_ltn hn rfl) (zz_G.eq G_S13 1079 17 1090 rfl rfl) (by decide) 1090 rfl ?_
                  refine zz_iload_n (x := p0) rfl zd_14_45_73 ?_
                  refine zz_iconst zd_14_45_74 ?_
                  refine zz_isub zd_14_45_75 ?_
                  have g24 := zz_G.r G_S0 1090 ((p0 - 3).toNat) (-2147483648) 2147483647 rfl rfl
                  refine zz_iald (z := S0 1090 ((p0 - 3).toNat)) zd_14_45_76 zT_1090 rfl (zz_ltn hn rfl) (by decide) (by omega) (zz_rc fS13 (zz_nc1 rfl) rfl (fun h => h) rfl) ?_
                  refine zz_goto zd_14_45_77 ?_
                  exact zz_iret zd_14_45_89 rfl (Nat.zero_le _) (Nat.zero_le _) ⟨_, _, rfl, G_S13, F_S13, by omega⟩
              · refine zz_aload_n (x := 1079) rfl zd_14_45_56 ?_
                have g25 := zz_G.r G_S0 1079 16 (-2147483648) 2147483647 rfl rfl
                refine zz_geti (z := S0 1079 16) zd_14_45_57 zf_Md_292 zT_1079 rfl (zz_ltn hn rfl) (zz_rc fS13 rfl rfl (fun h => h) rfl) ?_
                refine zz_goto zd_14_45_60 ?_
                exact zz_iret zd_14_45_89 rfl (Nat.zero_le _) (Nat.zero_le _) ⟨_, _, rfl, G_S13, F_S13, by omega⟩
            · refine zz_aload_n (x := 1079) rfl zd_14_45_44 ?_
              have g26 := zz_G.r G_S0 1079 15 (-1) 600 rfl rfl
              refine zz_geti (z := S0 1079 15) zd_14_45_45 zf_Md_45 zT_1079 rfl (zz_ltn hn rfl) (zz_rc fS13 rfl rfl (fun h => h) rfl) ?_
              refine zz_goto zd_14_45_48 ?_
              exact zz_iret zd_14_45_89 rfl (Nat.zero_le _) (Nat.zero_le _) ⟨_, _, rfl, G_S13, F_S13, by omega⟩
          · refine zz_aload_n (x := 1079) rfl zd_14_45_32 ?_
            have g27 := zz_G.r G_S0 1079 14 0 4 rfl rfl
            refine zz_geti (z := S0 1079 14) zd_14_45_33 zf_Md_295 zT_1079 rfl (zz_ltn hn rfl) (zz_rc fS13 rfl rfl (fun h => h) rfl) ?_
            refine zz_goto zd_14_45_36 ?_
            exact zz_iret zd_14_45_89 rfl (Nat.zero_le _) (Nat.zero_le _) ⟨_, _, rfl, G_S13, F_S13, by omega⟩
        · exfalso; omega
      · exfalso; omega
    · exfalso; omega
abbrev zy_instruction_14_46 : mm_Y := (⟨"TensorForgeModel", "instruction", "(II)I"⟩, prog_14_method_46_code, 5, (some .int))
theorem zyw_instruction_14_46 : mm_Yw zy_instruction_14_46 2 := ⟨mm_tb_1 1996 (by decide +kernel) rfl, mm_tb_1 12 (by decide +kernel) rfl, ⟨by decide, by decide⟩, by decide +kernel⟩
theorem zd_14_46_0 : zz_D zy_instruction_14_46 0 (.aload_n 0) 1 1 := ⟨by decide +kernel, rfl⟩
theorem zd_14_46_1 : zz_D zy_instruction_14_46 1 (.getfield 295) 3 4 := ⟨by decide +kernel, rfl⟩
theorem zd_14_46_4 : zz_B zy_instruction_14_46 4 (Instr.ifCond .le) 19 7 := ⟨15, by decide +kernel, rfl, rfl⟩
theorem zd_14_46_19 : zz_D zy_instruction_14_46 19 (.iconst 0) 1 20 := ⟨by decide +kernel, rfl⟩
theorem zd_14_46_20 : zz_D zy_instruction_14_46 20 (.istore_n 3) 1 21 := ⟨by decide +kernel, rfl⟩
theorem zd_14_46_21 : zz_D zy_instruction_14_46 21 (.iload_n 3) 1 22 := ⟨by decide +kernel, rfl⟩
theorem zd_14_46_22 : zz_B zy_instruction_14_46 22 (Instr.ifCond .eq) 45 25 := ⟨23, by decide +kernel, rfl, rfl⟩
theorem zd_14_46_45 : zz_D zy_instruction_14_46 45 (.iconst 0) 1 46 := ⟨by decide +kernel, rfl⟩
theorem zd_14_46_46 : zz_D zy_instruction_14_46 46 (.istore 4) 2 48 := ⟨by decide +kernel, rfl⟩
theorem zd_14_46_48 : zz_D zy_instruction_14_46 48 (.aload_n 0) 1 49 := ⟨by decide +kernel, rfl⟩
theorem zd_14_46_49 : zz_D zy_instruction_14_46 49 (.iload_n 3) 1 50 := ⟨by decide +kernel, rfl⟩
theorem zd_14_46_50 : zz_B zy_instruction_14_46 50 (Instr.ifCond .ne) 57 53 := ⟨7, by decide +kernel, rfl, rfl⟩
theorem zd_14_46_53 : zz_D zy_instruction_14_46 53 (.iconst 1) 1 54 := ⟨by decide +kernel, rfl⟩
theorem zd_14_46_54 : zz_B zy_instruction_14_46 54 Instr.goto 58 57 := ⟨4, by decide +kernel, rfl, rfl⟩
theorem zd_14_46_58 : zz_D zy_instruction_14_46 58 (.iload_n 3) 1 59 := ⟨by decide +kernel, rfl⟩
theorem zd_14_46_59 : zz_B zy_instruction_14_46 59 (Instr.ifCond .eq) 71 62 := ⟨12, by decide +kernel, rfl, rfl⟩
theorem zd_14_46_71 : zz_D zy_instruction_14_46 71 (.iconst 0) 1 72 := ⟨by decide +kernel, rfl⟩
theorem zd_14_46_72 : zz_D zy_instruction_14_46 72 (.iload 4) 2 74 := ⟨by decide +kernel, rfl⟩
theorem zd_14_46_74 : zz_B zy_instruction_14_46 74 (Instr.ifCond .eq) 93 77 := ⟨19, by decide +kernel, rfl, rfl⟩
theorem zd_14_46_93 : zz_D zy_instruction_14_46 93 (.iconst 0) 1 94 := ⟨by decide +kernel, rfl⟩
theorem zd_14_46_94 : zz_D zy_instruction_14_46 94 (.invokevirtual 196) 3 97 := ⟨by decide +kernel, rfl⟩
theorem zd_14_46_97 : zz_B zy_instruction_14_46 97 (Instr.ifCond .eq) 102 100 := ⟨5, by decide +kernel, rfl, rfl⟩
theorem zd_14_46_100 : zz_D zy_instruction_14_46 100 (.iconst 0) 1 101 := ⟨by decide +kernel, rfl⟩
theorem zd_14_46_101 : zz_D zy_instruction_14_46 101 (.ireturn) 1 102 := ⟨by decide +kernel, rfl⟩
theorem zd_14_46_7 : zz_D zy_instruction_14_46 7 (.aload_n 0) 1 8 := ⟨by decide +kernel, rfl⟩
theorem zd_14_46_8 : zz_D zy_instruction_14_46 8 (.getfield 295) 3 11 := ⟨by decide +kernel, rfl⟩
theorem zd_14_46_11 : zz_D zy_instruction_14_46 11 (.iconst 2) 1 12 := ⟨by decide +kernel, rfl⟩
theorem zd_14_46_12 : zz_B zy_instruction_14_46 12 (Instr.if_icmp .eq) 19 15 := ⟨7, by decide +kernel, rfl, rfl⟩
theorem zd_14_46_15 : zz_D zy_instruction_14_46 15 (.iconst 1) 1 16 := ⟨by decide +kernel, rfl⟩
theorem zd_14_46_16 : zz_B zy_instruction_14_46 16 Instr.goto 20 19 := ⟨4, by decide +kernel, rfl, rfl⟩
theorem zd_14_46_25 : zz_D zy_instruction_14_46 25 (.iload_n 1) 1 26 := ⟨by decide +kernel, rfl⟩
theorem zd_14_46_26 : zz_D zy_instruction_14_46 26 (.i2l) 1 27 := ⟨by decide +kernel, rfl⟩
theorem zd_14_46_27 : zz_D zy_instruction_14_46 27 (.lconst 0) 1 28 := ⟨by decide +kernel, rfl⟩
theorem zd_14_46_28 : zz_D zy_instruction_14_46 28 (.aload_n 0) 1 29 := ⟨by decide +kernel, rfl⟩
theorem zd_14_46_29 : zz_D zy_instruction_14_46 29 (.getfield 272) 3 32 := ⟨by decide +kernel, rfl⟩
theorem zd_14_46_32 : zz_D zy_instruction_14_46 32 (.iconst 1) 1 33 := ⟨by decide +kernel, rfl⟩
theorem zd_14_46_33 : zz_D zy_instruction_14_46 33 (.isub) 1 34 := ⟨by decide +kernel, rfl⟩
theorem zd_14_46_34 : zz_D zy_instruction_14_46 34 (.i2l) 1 35 := ⟨by decide +kernel, rfl⟩
theorem zd_14_46_35 : zz_D zy_instruction_14_46 35 (.invokestatic 192) 3 38 := ⟨by decide +kernel, rfl⟩
theorem zd_14_46_38 : zz_B zy_instruction_14_46 38 (Instr.ifCond .eq) 45 41 := ⟨7, by decide +kernel, rfl, rfl⟩
theorem zd_14_46_57 : zz_D zy_instruction_14_46 57 (.iconst 0) 1 58 := ⟨by decide +kernel, rfl⟩
theorem zd_14_46_62 : zz_D zy_instruction_14_46 62 (.iload 4) 2 64 := ⟨by decide +kernel, rfl⟩
theorem zd_14_46_64 : zz_B zy_instruction_14_46 64 (Instr.ifCond .ne) 71 67 := ⟨7, by decide +kernel, rfl, rfl⟩
theorem zd_14_46_67 : zz_D zy_instruction_14_46 67 (.iconst 1) 1 68 := ⟨by decide +kernel, rfl⟩
theorem zd_14_46_68 : zz_B zy_instruction_14_46 68 Instr.goto 72 71 := ⟨4, by decide +kernel, rfl, rfl⟩
theorem zd_14_46_41 : zz_D zy_instruction_14_46 41 (.iconst 1) 1 42 := ⟨by decide +kernel, rfl⟩
theorem zd_14_46_42 : zz_B zy_instruction_14_46 42 Instr.goto 46 45 := ⟨4, by decide +kernel, rfl, rfl⟩
theorem zd_14_46_77 : zz_D zy_instruction_14_46 77 (.iload_n 2) 1 78 := ⟨by decide +kernel, rfl⟩
theorem zd_14_46_78 : zz_D zy_instruction_14_46 78 (.i2l) 1 79 := ⟨by decide +kernel, rfl⟩
theorem zd_14_46_79 : zz_D zy_instruction_14_46 79 (.lconst 0) 1 80 := ⟨by decide +kernel, rfl⟩
theorem zd_14_46_80 : zz_D zy_instruction_14_46 80 (.ldc2_w 169) 3 83 := ⟨by decide +kernel, rfl⟩
theorem zd_14_46_83 : zz_D zy_instruction_14_46 83 (.invokestatic 192) 3 86 := ⟨by decide +kernel, rfl⟩
theorem zd_14_46_86 : zz_B zy_instruction_14_46 86 (Instr.ifCond .ne) 93 89 := ⟨7, by decide +kernel, rfl, rfl⟩
theorem zd_14_46_89 : zz_D zy_instruction_14_46 89 (.iconst 1) 1 90 := ⟨by decide +kernel, rfl⟩
theorem zd_14_46_90 : zz_B zy_instruction_14_46 90 Instr.goto 94 93 := ⟨4, by decide +kernel, rfl, rfl⟩
theorem zd_14_46_102 : zz_D zy_instruction_14_46 102 (.iload_n 2) 1 103 := ⟨by decide +kernel, rfl⟩
theorem zd_14_46_103 : zz_B zy_instruction_14_46 103 (Instr.ifCond .ne) 115 106 := ⟨12, by decide +kernel, rfl, rfl⟩
theorem zd_14_46_115 : zz_D zy_instruction_14_46 115 (.iload_n 2) 1 116 := ⟨by decide +kernel, rfl⟩
theorem zd_14_46_116 : zz_D zy_instruction_14_46 116 (.iconst 1) 1 117 := ⟨by decide +kernel, rfl⟩
theorem zd_14_46_117 : zz_B zy_instruction_14_46 117 (Instr.if_icmp .ne) 129 120 := ⟨12, by decide +kernel, rfl, rfl⟩
theorem zd_14_46_129 : zz_D zy_instruction_14_46 129 (.aload_n 0) 1 130 := ⟨by decide +kernel, rfl⟩
theorem zd_14_46_130 : zz_D zy_instruction_14_46 130 (.getfield 60) 3 133 := ⟨by decide +kernel, rfl⟩
theorem zd_14_46_133 : zz_D zy_instruction_14_46 133 (.iload_n 1) 1 134 := ⟨by decide +kernel, rfl⟩
theorem zd_14_46_134 : zz_D zy_instruction_14_46 134 (.iaload) 1 135 := ⟨by decide +kernel, rfl⟩
theorem zd_14_46_135 : zz_D zy_instruction_14_46 135 (.ireturn) 1 136 := ⟨by decide +kernel, rfl⟩
theorem zd_14_46_120 : zz_D zy_instruction_14_46 120 (.aload_n 0) 1 121 := ⟨by decide +kernel, rfl⟩
theorem zd_14_46_121 : zz_D zy_instruction_14_46 121 (.getfield 57) 3 124 := ⟨by decide +kernel, rfl⟩
theorem zd_14_46_124 : zz_D zy_instruction_14_46 124 (.iload_n 1) 1 125 := ⟨by decide +kernel, rfl⟩
theorem zd_14_46_125 : zz_D zy_instruction_14_46 125 (.iaload) 1 126 := ⟨by decide +kernel, rfl⟩
theorem zd_14_46_126 : zz_B zy_instruction_14_46 126 Instr.goto 135 129 := ⟨9, by decide +kernel, rfl, rfl⟩
theorem zd_14_46_106 : zz_D zy_instruction_14_46 106 (.aload_n 0) 1 107 := ⟨by decide +kernel, rfl⟩
theorem zd_14_46_107 : zz_D zy_instruction_14_46 107 (.getfield 54) 3 110 := ⟨by decide +kernel, rfl⟩
theorem zd_14_46_110 : zz_D zy_instruction_14_46 110 (.iload_n 1) 1 111 := ⟨by decide +kernel, rfl⟩
theorem zd_14_46_111 : zz_D zy_instruction_14_46 111 (.iaload) 1 112 := ⟨by decide +kernel, rfl⟩
theorem zd_14_46_112 : zz_B zy_instruction_14_46 112 Instr.goto 135 115 := ⟨23, by decide +kernel, rfl, rfl⟩
-- TensorForgeModel instruction (II)I
abbrev zr_instruction_14_46 : Room := { frames := 1, cells := 0, slots := 0, locals := 20 }
def zp_instruction_14_46 (p0 : Int) (p1 : Int) (S0 : zz_S) : Int → zz_S → Prop := fun r S => zz_G S ∧ zz_fr [(1079, 0)] [] (fun _ _ => False) S0 S ∧ ((-2147483648) ≤ r ∧ r ≤ 2147483647)
theorem zc_instruction_14_46 {g : mm_G} {l : Launch} (p0 : Int) (p1 : Int) (S0 : zz_S) (n : Nat) (hn : zz_end ≤ n) (G_S0 : zz_G S0) (hp0 : (-2147483648) ≤ p0 ∧ p0 ≤ 2147483647) (hp1 : (-2147483648) ≤ p1 ∧ p1 ≤ 2147483647) : mm_Met g l zy_instruction_14_46 zr_instruction_14_46 [.ref 1079, zi p0, zi p1] (zz_M S0 n) n (zz_QI n (zp_instruction_14_46 p0 p1 S0)) := by
  refine zz_enter (by decide) (Nat.le_of_ble_eq_true rfl) (zz_less (ls1 := [some (.ref 1079), some (zi p0), some (zi p1)]) ⟨rfl, ⟨rfl, ⟨rfl, trivial⟩⟩⟩ ?_)
  have F_S0 : zz_fr [(1079, 0)] [] (fun _ _ => False) S0 S0 := zz_fr.refl
  refine zz_aload_n (x := 1079) rfl zd_14_46_0 ?_
  have g1 := zz_G.r G_S0 1079 14 0 4 rfl rfl
  refine zz_geti (z := S0 1079 14) zd_14_46_1 zf_Md_295 zT_1079 rfl (zz_ltn hn rfl) rfl ?_
  refine zz_if_le (by omega) zd_14_46_4 (fun c2 => ?_) (fun c2 => ?_)
  · refine zz_iconst zd_14_46_19 ?_
    refine zz_istore_n [some (.ref 1079), some (zi p0), some (zi p1), some (zi 0)] zd_14_46_20 (by decide) rfl ?_
    refine zz_iload_n (x := 0) rfl zd_14_46_21 ?_
    refine zz_if_eq (by omega) zd_14_46_22 (fun c3 => ?_) (fun c3 => ?_)
    · refine zz_iconst zd_14_46_45 ?_
      refine zz_istore [some (.ref 1079), some (zi p0), some (zi p1), some (zi 0), some (zi 0)] zd_14_46_46 (by decide) rfl ?_
      refine zz_aload_n (x := 1079) rfl zd_14_46_48 ?_
      refine zz_iload_n (x := 0) rfl zd_14_46_49 ?_
      refine zz_if_ne (by omega) zd_14_46_50 (fun c4 => ?_) (fun c4 => ?_)
      · exfalso; omega
      · refine zz_iconst zd_14_46_53 ?_
        refine zz_goto zd_14_46_54 ?_
        refine zz_iload_n (x := 0) rfl zd_14_46_58 ?_
        refine zz_if_eq (by omega) zd_14_46_59 (fun c5 => ?_) (fun c5 => ?_)
        · refine zz_iconst zd_14_46_71 ?_
          refine zz_iload (x := 0) rfl zd_14_46_72 ?_
          refine zz_if_eq (by omega) zd_14_46_74 (fun c6 => ?_) (fun c6 => ?_)
          · refine zz_iconst zd_14_46_93 ?_
            refine zz_callVI [zi 1, zi 0, zi 0] zd_14_46_94 zk_Md_196 zT_1079 (zz_ltn hn rfl) rfl rfl ⟨Nat.le_of_ble_eq_true rfl, Nat.le_of_ble_eq_true rfl⟩ ⟨rfl, rfl⟩ (Nat.zero_le _) (Nat.zero_le _) (zc_refuse_14_3 1 0 0 S0 n hn G_S0 (by omega) (by omega) (by omega)) (fun v8 S7 hP => ?_)
            obtain ⟨G_S7, fS7, o9, o10⟩ := hP
            have F_S7 := zz_fr.trans F_S0 fS7 rfl zz_nv
            rcases (by omega : v8 = 0 ∨ v8 = 1) with rfl | rfl
            · exfalso; omega
            · have e11 : S7 1079 0 = 1 := by omega
              refine zz_if_eq (by omega) zd_14_46_97 (fun c12 => ?_) (fun c12 => ?_)
              · exfalso; omega
              · refine zz_iconst zd_14_46_100 ?_
                exact zz_iret zd_14_46_101 rfl (Nat.zero_le _) (Nat.zero_le _) ⟨_, _, rfl, G_S7, F_S7, by omega⟩
          · exfalso; omega
        · exfalso; omega
    · exfalso; omega
  · refine zz_aload_n (x := 1079) rfl zd_14_46_7 ?_
    refine zz_geti (z := S0 1079 14) zd_14_46_8 zf_Md_295 zT_1079 rfl (zz_ltn hn rfl) rfl ?_
    refine zz_iconst zd_14_46_11 ?_
    refine zz_icmp_eq (by omega) (by omega) zd_14_46_12 (fun c13 => ?_) (fun c13 => ?_)
    · refine zz_iconst zd_14_46_19 ?_
      refine zz_istore_n [some (.ref 1079), some (zi p0), some (zi p1), some (zi 0)] zd_14_46_20 (by decide) rfl ?_
      refine zz_iload_n (x := 0) rfl zd_14_46_21 ?_
      refine zz_if_eq (by omega) zd_14_46_22 (fun c14 => ?_) (fun c14 => ?_)
      · refine zz_iconst zd_14_46_45 ?_
        refine zz_istore [some (.ref 1079), some (zi p0), some (zi p1), some (zi 0), some (zi 0)] zd_14_46_46 (by decide) rfl ?_
        refine zz_aload_n (x := 1079) rfl zd_14_46_48 ?_
        refine zz_iload_n (x := 0) rfl zd_14_46_49 ?_
        refine zz_if_ne (by omega) zd_14_46_50 (fun c15 => ?_) (fun c15 => ?_)
        · exfalso; omega
        · refine zz_iconst zd_14_46_53 ?_
          refine zz_goto zd_14_46_54 ?_
          refine zz_iload_n (x := 0) rfl zd_14_46_58 ?_
          refine zz_if_eq (by omega) zd_14_46_59 (fun c16 => ?_) (fun c16 => ?_)
          · refine zz_iconst zd_14_46_71 ?_
            refine zz_iload (x := 0) rfl zd_14_46_72 ?_
            refine zz_if_eq (by omega) zd_14_46_74 (fun c17 => ?_) (fun c17 => ?_)
            · refine zz_iconst zd_14_46_93 ?_
              refine zz_callVI [zi 1, zi 0, zi 0] zd_14_46_94 zk_Md_196 zT_1079 (zz_ltn hn rfl) rfl rfl ⟨Nat.le_of_ble_eq_true rfl, Nat.le_of_ble_eq_true rfl⟩ ⟨rfl, rfl⟩ (Nat.zero_le _) (Nat.zero_le _) (zc_refuse_14_3 1 0 0 S0 n hn G_S0 (by omega) (by omega) (by omega)) (fun v19 S18 hP => ?_)
              obtain ⟨G_S18, fS18, o20, o21⟩ := hP
              have F_S18 := zz_fr.trans F_S0 fS18 rfl zz_nv
              rcases (by omega : v19 = 0 ∨ v19 = 1) with rfl | rfl
              · exfalso; omega
              · have e22 : S18 1079 0 = 1 := by omega
                refine zz_if_eq (by omega) zd_14_46_97 (fun c23 => ?_) (fun c23 => ?_)
                · exfalso; omega
                · refine zz_iconst zd_14_46_100 ?_
                  exact zz_iret zd_14_46_101 rfl (Nat.zero_le _) (Nat.zero_le _) ⟨_, _, rfl, G_S18, F_S18, by omega⟩
            · exfalso; omega
          · exfalso; omega
      · exfalso; omega
    · refine zz_iconst zd_14_46_15 ?_
      refine zz_goto zd_14_46_16 ?_
      refine zz_istore_n [some (.ref 1079), some (zi p0), some (zi p1), some (zi 1)] zd_14_46_20 (by decide) rfl ?_
      refine zz_iload_n (x := 1) rfl zd_14_46_21 ?_
      refine zz_if_eq (by omega) zd_14_46_22 (fun c24 => ?_) (fun c24 => ?_)
      · exfalso; omega
      · refine zz_iload_n (x := p0) rfl zd_14_46_25 ?_
        refine zz_i2l (by omega) zd_14_46_26 ?_
        refine zz_lconst (z := 0) (by decide) zd_14_46_27 ?_
        refine zz_aload_n (x := 1079) rfl zd_14_46_28 ?_
        have g25 := zz_G.r G_S0 1079 19 (-1) 600 rfl rfl
        refine zz_geti (z := S0 1079 19) zd_14_46_29 zf_Md_272 zT_1079 rfl (zz_ltn hn rfl) rfl ?_
        refine zz_iconst zd_14_46_32 ?_
        refine zz_isub zd_14_46_33 ?_
        refine zz_i2l (by omega) zd_14_46_34 ?_
        refine zz_callSI [zl p0, zl 0, zl ((S0 1079 19) - 1)] zd_14_46_35 zk_Md_192 rfl rfl ⟨Nat.le_of_ble_eq_true rfl, Nat.le_of_ble_eq_true rfl⟩ ⟨rfl, rfl⟩ (Nat.zero_le _) (Nat.zero_le _) (zc_in_14_4 p0 0 ((S0 1079 19) - 1) S0 n hn G_S0 (by omega) (by omega) (by omega)) (fun v27 S26 hP => ?_)
        obtain ⟨rfl, o28, o29⟩ := hP
        rcases (by omega : v27 = 0 ∨ v27 = 1) with rfl | rfl
        · refine zz_if_eq (by omega) zd_14_46_38 (fun c30 => ?_) (fun c30 => ?_)
          · refine zz_iconst zd_14_46_45 ?_
            refine zz_istore [some (.ref 1079), some (zi p0), some (zi p1), some (zi 1), some (zi 0)] zd_14_46_46 (by decide) rfl ?_
            refine zz_aload_n (x := 1079) rfl zd_14_46_48 ?_
            refine zz_iload_n (x := 1) rfl zd_14_46_49 ?_
            refine zz_if_ne (by omega) zd_14_46_50 (fun c31 => ?_) (fun c31 => ?_)
            · refine zz_iconst zd_14_46_57 ?_
              refine zz_iload_n (x := 1) rfl zd_14_46_58 ?_
              refine zz_if_eq (by omega) zd_14_46_59 (fun c32 => ?_) (fun c32 => ?_)
              · exfalso; omega
              · refine zz_iload (x := 0) rfl zd_14_46_62 ?_
                refine zz_if_ne (by omega) zd_14_46_64 (fun c33 => ?_) (fun c33 => ?_)
                · exfalso; omega
                · refine zz_iconst zd_14_46_67 ?_
                  refine zz_goto zd_14_46_68 ?_
                  refine zz_iload (x := 0) rfl zd_14_46_72 ?_
                  refine zz_if_eq (by omega) zd_14_46_74 (fun c34 => ?_) (fun c34 => ?_)
                  · refine zz_iconst zd_14_46_93 ?_
                    refine zz_callVI [zi 0, zi 1, zi 0] zd_14_46_94 zk_Md_196 zT_1079 (zz_ltn hn rfl) rfl rfl ⟨Nat.le_of_ble_eq_true rfl, Nat.le_of_ble_eq_true rfl⟩ ⟨rfl, rfl⟩ (Nat.zero_le _) (Nat.zero_le _) (zc_refuse_14_3 0 1 0 S0 n hn G_S0 (by omega) (by omega) (by omega)) (fun v36 S35 hP => ?_)
                    obtain ⟨G_S35, fS35, o37, o38⟩ := hP
                    have F_S35 := zz_fr.trans F_S0 fS35 rfl zz_nv
                    rcases (by omega : v36 = 0 ∨ v36 = 1) with rfl | rfl
                    · exfalso; omega
                    · have e39 : S35 1079 0 = 2 := by omega
                      refine zz_if_eq (by omega) zd_14_46_97 (fun c40 => ?_) (fun c40 => ?_)
                      · exfalso; omega
                      · refine zz_iconst zd_14_46_100 ?_
                        exact zz_iret zd_14_46_101 rfl (Nat.zero_le _) (Nat.zero_le _) ⟨_, _, rfl, G_S35, F_S35, by omega⟩
                  · exfalso; omega
            · exfalso; omega
          · exfalso; omega
        · refine zz_if_eq (by omega) zd_14_46_38 (fun c41 => ?_) (fun c41 => ?_)
          · exfalso; omega
          · refine zz_iconst zd_14_46_41 ?_
            refine zz_goto zd_14_46_42 ?_
            refine zz_istore [some (.ref 1079), some (zi p0), some (zi p1), some (zi 1), some (zi 1)] zd_14_46_46 (by decide) rfl ?_
            refine zz_aload_n (x := 1079) rfl zd_14_46_48 ?_
            refine zz_iload_n (x := 1) rfl zd_14_46_49 ?_
            refine zz_if_ne (by omega) zd_14_46_50 (fun c42 => ?_) (fun c42 => ?_)
            · refine zz_iconst zd_14_46_57 ?_
              refine zz_iload_n (x := 1) rfl zd_14_46_58 ?_
              refine zz_if_eq (by omega) zd_14_46_59 (fun c43 => ?_) (fun c43 => ?_)
              · exfalso; omega
              · refine zz_iload (x := 1) rfl zd_14_46_62 ?_
                refine zz_if_ne (by omega) zd_14_46_64 (fun c44 => ?_) (fun c44 => ?_)
                · refine zz_iconst zd_14_46_71 ?_
                  refine zz_iload (x := 1) rfl zd_14_46_72 ?_
                  refine zz_if_eq (by omega) zd_14_46_74 (fun c45 => ?_) (fun c45 => ?_)
                  · exfalso; omega
                  · refine zz_iload_n (x := p1) rfl zd_14_46_77 ?_
                    refine zz_i2l (by omega) zd_14_46_78 ?_
                    refine zz_lconst (z := 0) (by decide) zd_14_46_79 ?_
                    refine zz_ldc2 (z := 2) zq_Md_169 (by decide) zd_14_46_80 ?_
                    refine zz_callSI [zl p1, zl 0, zl 2] zd_14_46_83 zk_Md_192 rfl rfl ⟨Nat.le_of_ble_eq_true rfl, Nat.le_of_ble_eq_true rfl⟩ ⟨rfl, rfl⟩ (Nat.zero_le _) (Nat.zero_le _) (zc_in_14_4 p1 0 2 S0 n hn G_S0 (by omega) (by omega) (by omega)) (fun v47 S46 hP => ?_)
                    obtain ⟨rfl, o48, o49⟩ := hP
                    rcases (by omega : v47 = 0 ∨ v47 = 1) with rfl | rfl
                    · refine zz_if_ne (by omega) zd_14_46_86 (fun c50 => ?_) (fun c50 => ?_)
                      · exfalso; omega
                      · refine zz_iconst zd_14_46_89 ?_
                        refine zz_goto zd_14_46_90 ?_
                        refine zz_callVI [zi 0, zi 0, zi 1] zd_14_46_94 zk_Md_196 zT_1079 (zz_ltn hn rfl) rfl rfl ⟨Nat.le_of_ble_eq_true rfl, Nat.le_of_ble_eq_true rfl⟩ ⟨rfl, rfl⟩ (Nat.zero_le _) (Nat.zero_le _) (zc_refuse_14_3 0 0 1 S0 n hn G_S0 (by omega) (by omega) (by omega)) (fun v52 S51 hP => ?_)
                        obtain ⟨G_S51, fS51, o53, o54⟩ := hP
                        have F_S51 := zz_fr.trans F_S0 fS51 rfl zz_nv
                        rcases (by omega : v52 = 0 ∨ v52 = 1) with rfl | rfl
                        · exfalso; omega
                        · have e55 : S51 1079 0 = 3 := by omega
                          refine zz_if_eq (by omega) zd_14_46_97 (fun c56 => ?_) (fun c56 => ?_)
                          · exfalso; omega
                          · refine zz_iconst zd_14_46_100 ?_
                            exact zz_iret zd_14_46_101 rfl (Nat.zero_le _) (Nat.zero_le _) ⟨_, _, rfl, G_S51, F_S51, by omega⟩
                    · refine zz_if_ne (by omega) zd_14_46_86 (fun c57 => ?_) (fun c57 => ?_)
                      · refine zz_iconst zd_14_46_93 ?_
                        refine zz_callVI [zi 0, zi 0, zi 0] zd_14_46_94 zk_Md_196 zT_1079 (zz_ltn hn rfl) rfl rfl ⟨Nat.le_of_ble_eq_true rfl, Nat.le_of_ble_eq_true rfl⟩ ⟨rfl, rfl⟩ (Nat.zero_le _) (Nat.zero_le _) (zc_refuse_14_3 0 0 0 S0 n hn G_S0 (by omega) (by omega) (by omega)) (fun v59 S58 hP => ?_)
                        obtain ⟨G_S58, fS58, o60, o61⟩ := hP
                        have F_S58 := zz_fr.trans F_S0 fS58 rfl zz_nv
                        rcases (by omega : v59 = 0 ∨ v59 = 1) with rfl | rfl
                        · have e62 : S58 1079 0 = 0 := by omega
                          refine zz_if_eq (by omega) zd_14_46_97 (fun c63 => ?_) (fun c63 => ?_)
                          · refine zz_iload_n (x := p1) rfl zd_14_46_102 ?_
                            refine zz_if_ne (by omega) zd_14_46_103 (fun c64 => ?_) (fun c64 => ?_)
                            · refine zz_iload_n (x := p1) rfl zd_14_46_115 ?_
                              refine zz_iconst zd_14_46_116 ?_
                              refine zz_icmp_ne (by omega) (by omega) zd_14_46_117 (fun c65 => ?_) (fun c65 => ?_)
                              · refine zz_aload_n (x := 1079) rfl zd_14_46_129 ?_
                                refine zz_getr (kd := 0) (z := 1094) zd_14_46_130 zf_Md_60 zT_1079 rfl (zz_ltn hn rfl) (zz_G.eq G_S58 1079 22 1094 rfl rfl) (by decide) 1094 rfl ?_
                                refine zz_iload_n (x := p0) rfl zd_14_46_133 ?_
                                have g66 := zz_G.r G_S0 1094 p0.toNat (-2147483648) 2147483647 rfl rfl
                                refine zz_iald (z := S0 1094 p0.toNat) zd_14_46_134 zT_1094 rfl (zz_ltn hn rfl) (by decide) (by omega) (zz_rc fS58 (zz_nc1 rfl) rfl (fun h => h) rfl) ?_
                                exact zz_iret zd_14_46_135 rfl (Nat.zero_le _) (Nat.zero_le _) ⟨_, _, rfl, G_S58, F_S58, by omega⟩
                              · refine zz_aload_n (x := 1079) rfl zd_14_46_120 ?_
                                refine zz_getr (kd := 0) (z := 1093) zd_14_46_121 zf_Md_57 zT_1079 rfl (zz_ltn hn rfl) (zz_G.eq G_S58 1079 21 1093 rfl rfl) (by decide) 1093 rfl ?_
                                refine zz_iload_n (x := p0) rfl zd_14_46_124 ?_
                                have g67 := zz_G.r G_S0 1093 p0.toNat (-2147483648) 2147483647 rfl rfl
                                refine zz_iald (z := S0 1093 p0.toNat) zd_14_46_125 zT_1093 rfl (zz_ltn hn rfl) (by decide) (by omega) (zz_rc fS58 (zz_nc1 rfl) rfl (fun h => h) rfl) ?_
                                refine zz_goto zd_14_46_126 ?_
                                exact zz_iret zd_14_46_135 rfl (Nat.zero_le _) (Nat.zero_le _) ⟨_, _, rfl, G_S58, F_S58, by omega⟩
                            · refine zz_aload_n (x := 1079) rfl zd_14_46_106 ?_
                              refine zz_getr (kd := 0) (z := 1092) zd_14_46_107 zf_Md_54 zT_1079 rfl (zz_ltn hn rfl) (zz_G.eq G_S58 1079 20 1092 rfl rfl) (by decide) 1092 rfl ?_
                              refine zz_iload_n (x := p0) rfl zd_14_46_110 ?_
                              have g68 := zz_G.r G_S0 1092 p0.toNat (-2147483648) 2147483647 rfl rfl
                              refine zz_iald (z := S0 1092 p0.toNat) zd_14_46_111 zT_1092 rfl (zz_ltn hn rfl) (by decide) (by omega) (zz_rc fS58 (zz_nc1 rfl) rfl (fun h => h) rfl) ?_
                              refine zz_goto zd_14_46_112 ?_
                              exact zz_iret zd_14_46_135 rfl (Nat.zero_le _) (Nat.zero_le _) ⟨_, _, rfl, G_S58, F_S58, by omega⟩
                          · exfalso; omega
                        · exfalso; omega
                      · exfalso; omega
                · exfalso; omega
            · exfalso; omega
abbrev zy_end_14_48 : mm_Y := (⟨"TensorForgeModel", "end", "(I)V"⟩, prog_14_method_48_code, 2, none)
theorem zyw_end_14_48 : mm_Yw zy_end_14_48 1 := ⟨mm_tb_1 2006 (by decide +kernel) rfl, mm_tb_1 12 (by decide +kernel) rfl, ⟨by decide, by decide⟩, by decide +kernel⟩
theorem zd_14_48_0 : zz_D zy_end_14_48 0 (.aload_n 0) 1 1 := ⟨by decide +kernel, rfl⟩
theorem zd_14_48_1 : zz_D zy_end_14_48 1 (.iload_n 1) 1 2 := ⟨by decide +kernel, rfl⟩
theorem zd_14_48_2 : zz_D zy_end_14_48 2 (.i2l) 1 3 := ⟨by decide +kernel, rfl⟩
theorem zd_14_48_3 : zz_D zy_end_14_48 3 (.lconst 0) 1 4 := ⟨by decide +kernel, rfl⟩
theorem zd_14_48_4 : zz_D zy_end_14_48 4 (.aload_n 0) 1 5 := ⟨by decide +kernel, rfl⟩
theorem zd_14_48_5 : zz_D zy_end_14_48 5 (.getfield 331) 3 8 := ⟨by decide +kernel, rfl⟩
theorem zf_Md_331 : mm_Fl "TensorForgeModel" 331 11 28 .int false := ⟨R_Md, F_Md, 69, t_Md, rfl, i_Md, by decide, mm_tb_1 1639 (by decide +kernel) rfl, rfl, t_Md_ok, n_Md, rfl, by decide +kernel⟩
theorem zd_14_48_8 : zz_D zy_end_14_48 8 (.i2l) 1 9 := ⟨by decide +kernel, rfl⟩
theorem zd_14_48_9 : zz_D zy_end_14_48 9 (.invokestatic 192) 3 12 := ⟨by decide +kernel, rfl⟩
theorem zd_14_48_12 : zz_B zy_end_14_48 12 (Instr.ifCond .ne) 19 15 := ⟨7, by decide +kernel, rfl, rfl⟩
theorem zd_14_48_15 : zz_D zy_end_14_48 15 (.iconst 1) 1 16 := ⟨by decide +kernel, rfl⟩
theorem zd_14_48_16 : zz_B zy_end_14_48 16 Instr.goto 20 19 := ⟨4, by decide +kernel, rfl, rfl⟩
theorem zd_14_48_20 : zz_D zy_end_14_48 20 (.iconst 0) 1 21 := ⟨by decide +kernel, rfl⟩
theorem zd_14_48_21 : zz_D zy_end_14_48 21 (.iconst 0) 1 22 := ⟨by decide +kernel, rfl⟩
theorem zd_14_48_22 : zz_D zy_end_14_48 22 (.invokevirtual 196) 3 25 := ⟨by decide +kernel, rfl⟩
theorem zd_14_48_25 : zz_B zy_end_14_48 25 (Instr.ifCond .ne) 33 28 := ⟨8, by decide +kernel, rfl, rfl⟩
theorem zd_14_48_33 : zz_D zy_end_14_48 33 (.return_) 1 34 := ⟨by decide +kernel, rfl⟩
theorem zd_14_48_19 : zz_D zy_end_14_48 19 (.iconst 0) 1 20 := ⟨by decide +kernel, rfl⟩
theorem zd_14_48_28 : zz_D zy_end_14_48 28 (.aload_n 0) 1 29 := ⟨by decide +kernel, rfl⟩
theorem zd_14_48_29 : zz_D zy_end_14_48 29 (.iload_n 1) 1 30 := ⟨by decide +kernel, rfl⟩
theorem zd_14_48_30 : zz_D zy_end_14_48 30 (.putfield 331) 3 33 := ⟨by decide +kernel, rfl⟩
-- TensorForgeModel end (I)V
abbrev zr_end_14_48 : Room := { frames := 1, cells := 0, slots := 0, locals := 18 }
def zp_end_14_48 (p0 : Int) (S0 : zz_S) : zz_S → Prop := fun S => zz_G S ∧ zz_fr [(1079, 0), (1079, 28)] [] (fun _ _ => False) S0 S
theorem zc_end_14_48 {g : mm_G} {l : Launch} (p0 : Int) (S0 : zz_S) (n : Nat) (hn : zz_end ≤ n) (G_S0 : zz_G S0) (hp0 : (-2147483648) ≤ p0 ∧ p0 ≤ 2147483647) : mm_Met g l zy_end_14_48 zr_end_14_48 [.ref 1079, zi p0] (zz_M S0 n) n (zz_QV n (zp_end_14_48 p0 S0)) := by
  refine zz_enter (by decide) (Nat.le_of_ble_eq_true rfl) (zz_less (ls1 := [some (.ref 1079), some (zi p0)]) ⟨rfl, ⟨rfl, trivial⟩⟩ ?_)
  have F_S0 : zz_fr [(1079, 0), (1079, 28)] [] (fun _ _ => False) S0 S0 := zz_fr.refl
  refine zz_aload_n (x := 1079) rfl zd_14_48_0 ?_
  refine zz_iload_n (x := p0) rfl zd_14_48_1 ?_
  refine zz_i2l (by omega) zd_14_48_2 ?_
  refine zz_lconst (z := 0) (by decide) zd_14_48_3 ?_
  refine zz_aload_n (x := 1079) rfl zd_14_48_4 ?_
  have g1 := zz_G.r G_S0 1079 28 0 1500 rfl rfl
  refine zz_geti (z := S0 1079 28) zd_14_48_5 zf_Md_331 zT_1079 rfl (zz_ltn hn rfl) rfl ?_
  refine zz_i2l (by omega) zd_14_48_8 ?_
  refine zz_callSI [zl p0, zl 0, zl (S0 1079 28)] zd_14_48_9 zk_Md_192 rfl rfl ⟨Nat.le_of_ble_eq_true rfl, Nat.le_of_ble_eq_true rfl⟩ ⟨rfl, rfl⟩ (Nat.zero_le _) (Nat.zero_le _) (zc_in_14_4 p0 0 (S0 1079 28) S0 n hn G_S0 (by omega) (by omega) (by omega)) (fun v3 S2 hP => ?_)
  obtain ⟨rfl, o4, o5⟩ := hP
  rcases (by omega : v3 = 0 ∨ v3 = 1) with rfl | rfl
  · refine zz_if_ne (by omega) zd_14_48_12 (fun c6 => ?_) (fun c6 => ?_)
    · exfalso; omega
    · refine zz_iconst zd_14_48_15 ?_
      refine zz_goto zd_14_48_16 ?_
      refine zz_iconst zd_14_48_20 ?_
      refine zz_iconst zd_14_48_21 ?_
      refine zz_callVI [zi 1, zi 0, zi 0] zd_14_48_22 zk_Md_196 zT_1079 (zz_ltn hn rfl) rfl rfl ⟨Nat.le_of_ble_eq_true rfl, Nat.le_of_ble_eq_true rfl⟩ ⟨rfl, rfl⟩ (Nat.zero_le _) (Nat.zero_le _) (zc_refuse_14_3 1 0 0 S0 n hn G_S0 (by omega) (by omega) (by omega)) (fun v8 S7 hP => ?_)
      obtain ⟨G_S7, fS7, o9, o10⟩ := hP
      have F_S7 := zz_fr.trans F_S0 fS7 rfl zz_nv
      rcases (by omega : v8 = 0 ∨ v8 = 1) with rfl | rfl
      · exfalso; omega
      · have e11 : S7 1079 0 = 1 := by omega
        refine zz_if_ne (by omega) zd_14_48_25 (fun c12 => ?_) (fun c12 => ?_)
        · exact zz_vret zd_14_48_33 rfl (Nat.zero_le _) (Nat.zero_le _) ⟨_, rfl, G_S7, F_S7⟩
        · exfalso; omega
  · refine zz_if_ne (by omega) zd_14_48_12 (fun c13 => ?_) (fun c13 => ?_)
    · refine zz_iconst zd_14_48_19 ?_
      refine zz_iconst zd_14_48_20 ?_
      refine zz_iconst zd_14_48_21 ?_
      refine zz_callVI [zi 0, zi 0, zi 0] zd_14_48_22 zk_Md_196 zT_1079 (zz_ltn hn rfl) rfl rfl ⟨Nat.le_of_ble_eq_true rfl, Nat.le_of_ble_eq_true rfl⟩ ⟨rfl, rfl⟩ (Nat.zero_le _) (Nat.zero_le _) (zc_refuse_14_3 0 0 0 S0 n hn G_S0 (by omega) (by omega) (by omega)) (fun v15 S14 hP => ?_)
      obtain ⟨G_S14, fS14, o16, o17⟩ := hP
      have F_S14 := zz_fr.trans F_S0 fS14 rfl zz_nv
      rcases (by omega : v15 = 0 ∨ v15 = 1) with rfl | rfl
      · have e18 : S14 1079 0 = 0 := by omega
        refine zz_if_ne (by omega) zd_14_48_25 (fun c19 => ?_) (fun c19 => ?_)
        · exfalso; omega
        · refine zz_aload_n (x := 1079) rfl zd_14_48_28 ?_
          refine zz_iload_n (x := p0) rfl zd_14_48_29 ?_
          refine zz_puti zd_14_48_30 zf_Md_331 zT_1079 rfl (zz_ltn hn rfl) (fun S20 qS20 => ?_)
          have G_S20 := zz_G.put G_S14 qS20 0 1500 rfl (by omega)
          have F_S20 := zz_fr.puts F_S14 qS20 rfl
          exact zz_vret zd_14_48_33 rfl (Nat.zero_le _) (Nat.zero_le _) ⟨_, rfl, G_S20, F_S20⟩
      · exfalso; omega
    · exfalso; omega
abbrev zy_advance_14_49 : mm_Y := (⟨"TensorForgeModel", "advance", "()V"⟩, prog_14_method_49_code, 4, none)
theorem zyw_advance_14_49 : mm_Yw zy_advance_14_49 0 := ⟨mm_tb_1 2018 (by decide +kernel) rfl, mm_tb_1 12 (by decide +kernel) rfl, ⟨by decide, by decide⟩, by decide +kernel⟩
theorem zd_14_49_0 : zz_D zy_advance_14_49 0 (.aload_n 0) 1 1 := ⟨by decide +kernel, rfl⟩
theorem zd_14_49_1 : zz_D zy_advance_14_49 1 (.getfield 334) 3 4 := ⟨by decide +kernel, rfl⟩
theorem zf_Md_334 : mm_Fl "TensorForgeModel" 334 11 32 .int false := ⟨R_Md, F_Md, 69, t_Md, rfl, i_Md, by decide, mm_tb_1 1643 (by decide +kernel) rfl, rfl, t_Md_ok, n_Md, rfl, by decide +kernel⟩
theorem zd_14_49_4 : zz_D zy_advance_14_49 4 (.aload_n 0) 1 5 := ⟨by decide +kernel, rfl⟩
theorem zd_14_49_5 : zz_D zy_advance_14_49 5 (.getfield 337) 3 8 := ⟨by decide +kernel, rfl⟩
theorem zf_Md_337 : mm_Fl "TensorForgeModel" 337 11 33 .int false := ⟨R_Md, F_Md, 69, t_Md, rfl, i_Md, by decide, mm_tb_1 1644 (by decide +kernel) rfl, rfl, t_Md_ok, n_Md, rfl, by decide +kernel⟩
theorem zd_14_49_8 : zz_B zy_advance_14_49 8 (Instr.if_icmp .ge) 38 11 := ⟨30, by decide +kernel, rfl, rfl⟩
theorem zd_14_49_38 : zz_D zy_advance_14_49 38 (.aload_n 0) 1 39 := ⟨by decide +kernel, rfl⟩
theorem zd_14_49_39 : zz_D zy_advance_14_49 39 (.getfield 334) 3 42 := ⟨by decide +kernel, rfl⟩
theorem zd_14_49_42 : zz_D zy_advance_14_49 42 (.istore_n 1) 1 43 := ⟨by decide +kernel, rfl⟩
theorem zd_14_49_43 : zz_D zy_advance_14_49 43 (.aload_n 0) 1 44 := ⟨by decide +kernel, rfl⟩
theorem zd_14_49_44 : zz_D zy_advance_14_49 44 (.getfield 334) 3 47 := ⟨by decide +kernel, rfl⟩
theorem zd_14_49_47 : zz_D zy_advance_14_49 47 (.aload_n 0) 1 48 := ⟨by decide +kernel, rfl⟩
theorem zd_14_49_48 : zz_D zy_advance_14_49 48 (.getfield 337) 3 51 := ⟨by decide +kernel, rfl⟩
theorem zd_14_49_51 : zz_B zy_advance_14_49 51 (Instr.if_icmp .ge) 66 54 := ⟨15, by decide +kernel, rfl, rfl⟩
theorem zd_14_49_66 : zz_D zy_advance_14_49 66 (.iconst 0) 1 67 := ⟨by decide +kernel, rfl⟩
theorem zd_14_49_67 : zz_D zy_advance_14_49 67 (.istore_n 2) 1 68 := ⟨by decide +kernel, rfl⟩
theorem zd_14_49_68 : zz_D zy_advance_14_49 68 (.iload_n 2) 1 69 := ⟨by decide +kernel, rfl⟩
theorem zd_14_49_69 : zz_D zy_advance_14_49 69 (.i2l) 1 70 := ⟨by decide +kernel, rfl⟩
theorem zd_14_49_70 : zz_D zy_advance_14_49 70 (.ldc2_w 340) 3 73 := ⟨by decide +kernel, rfl⟩
theorem zq_Md_340 : Cond.constantLong "TensorForgeModel" 340 (97 : Int64) ∈ mm_tb := mm_tb_1 2019 (by decide +kernel) rfl
theorem zd_14_49_73 : zz_D zy_advance_14_49 73 (.ldc2_w 342) 3 76 := ⟨by decide +kernel, rfl⟩
theorem zq_Md_342 : Cond.constantLong "TensorForgeModel" 342 (122 : Int64) ∈ mm_tb := mm_tb_1 2020 (by decide +kernel) rfl
theorem zd_14_49_76 : zz_D zy_advance_14_49 76 (.invokestatic 192) 3 79 := ⟨by decide +kernel, rfl⟩
theorem zd_14_49_79 : zz_B zy_advance_14_49 79 (Instr.ifCond .eq) 144 82 := ⟨65, by decide +kernel, rfl, rfl⟩
theorem zd_14_49_144 : zz_D zy_advance_14_49 144 (.iload_n 2) 1 145 := ⟨by decide +kernel, rfl⟩
theorem zd_14_49_145 : zz_D zy_advance_14_49 145 (.i2l) 1 146 := ⟨by decide +kernel, rfl⟩
theorem zd_14_49_146 : zz_D zy_advance_14_49 146 (.ldc2_w 350) 3 149 := ⟨by decide +kernel, rfl⟩
theorem zq_Md_350 : Cond.constantLong "TensorForgeModel" 350 (48 : Int64) ∈ mm_tb := mm_tb_1 2026 (by decide +kernel) rfl
theorem zd_14_49_149 : zz_D zy_advance_14_49 149 (.ldc2_w 352) 3 152 := ⟨by decide +kernel, rfl⟩
theorem zq_Md_352 : Cond.constantLong "TensorForgeModel" 352 (57 : Int64) ∈ mm_tb := mm_tb_1 2027 (by decide +kernel) rfl
theorem zd_14_49_152 : zz_D zy_advance_14_49 152 (.invokestatic 192) 3 155 := ⟨by decide +kernel, rfl⟩
theorem zd_14_49_155 : zz_B zy_advance_14_49 155 (Instr.ifCond .eq) 267 158 := ⟨112, by decide +kernel, rfl, rfl⟩
theorem zd_14_49_267 : zz_D zy_advance_14_49 267 (.aload_n 0) 1 268 := ⟨by decide +kernel, rfl⟩
theorem zd_14_49_268 : zz_D zy_advance_14_49 268 (.aload_n 0) 1 269 := ⟨by decide +kernel, rfl⟩
theorem zd_14_49_269 : zz_D zy_advance_14_49 269 (.getfield 334) 3 272 := ⟨by decide +kernel, rfl⟩
theorem zd_14_49_272 : zz_D zy_advance_14_49 272 (.aload_n 0) 1 273 := ⟨by decide +kernel, rfl⟩
theorem zd_14_49_273 : zz_D zy_advance_14_49 273 (.getfield 337) 3 276 := ⟨by decide +kernel, rfl⟩
theorem zd_14_49_276 : zz_B zy_advance_14_49 276 (Instr.if_icmp .ge) 284 279 := ⟨8, by decide +kernel, rfl, rfl⟩
theorem zd_14_49_284 : zz_D zy_advance_14_49 284 (.iconst 0) 1 285 := ⟨by decide +kernel, rfl⟩
theorem zd_14_49_285 : zz_D zy_advance_14_49 285 (.putfield 347) 3 288 := ⟨by decide +kernel, rfl⟩
theorem zf_Md_347 : mm_Fl "TensorForgeModel" 347 11 30 .int false := ⟨R_Md, F_Md, 69, t_Md, rfl, i_Md, by decide, mm_tb_1 1641 (by decide +kernel) rfl, rfl, t_Md_ok, n_Md, rfl, by decide +kernel⟩
theorem zd_14_49_288 : zz_D zy_advance_14_49 288 (.return_) 1 289 := ⟨by decide +kernel, rfl⟩
theorem zd_14_49_279 : zz_D zy_advance_14_49 279 (.bipush 101) 2 281 := ⟨by decide +kernel, rfl⟩
theorem zd_14_49_281 : zz_B zy_advance_14_49 281 Instr.goto 285 284 := ⟨4, by decide +kernel, rfl, rfl⟩
theorem zd_14_49_54 : zz_D zy_advance_14_49 54 (.aload_n 0) 1 55 := ⟨by decide +kernel, rfl⟩
theorem zd_14_49_55 : zz_D zy_advance_14_49 55 (.getfield 76) 3 58 := ⟨by decide +kernel, rfl⟩
theorem zf_Md_76 : mm_Fl "TensorForgeModel" 76 11 27 (.array .int) true := ⟨R_Md, F_Md, 69, t_Md, rfl, i_Md, by decide, mm_tb_1 1638 (by decide +kernel) rfl, rfl, t_Md_ok, n_Md, rfl, by decide +kernel⟩
theorem zd_14_49_58 : zz_D zy_advance_14_49 58 (.aload_n 0) 1 59 := ⟨by decide +kernel, rfl⟩
theorem zd_14_49_59 : zz_D zy_advance_14_49 59 (.getfield 334) 3 62 := ⟨by decide +kernel, rfl⟩
theorem zd_14_49_62 : zz_D zy_advance_14_49 62 (.iaload) 1 63 := ⟨by decide +kernel, rfl⟩
theorem zd_14_49_63 : zz_B zy_advance_14_49 63 Instr.goto 67 66 := ⟨4, by decide +kernel, rfl, rfl⟩
theorem zd_14_49_158 : zz_D zy_advance_14_49 158 (.iconst 0) 1 159 := ⟨by decide +kernel, rfl⟩
theorem zd_14_49_159 : zz_D zy_advance_14_49 159 (.istore_n 3) 1 160 := ⟨by decide +kernel, rfl⟩
theorem zd_14_49_11 : zz_D zy_advance_14_49 11 (.aload_n 0) 1 12 := ⟨by decide +kernel, rfl⟩
theorem zd_14_49_12 : zz_D zy_advance_14_49 12 (.getfield 76) 3 15 := ⟨by decide +kernel, rfl⟩
theorem zd_14_49_15 : zz_D zy_advance_14_49 15 (.aload_n 0) 1 16 := ⟨by decide +kernel, rfl⟩
theorem zd_14_49_16 : zz_D zy_advance_14_49 16 (.getfield 334) 3 19 := ⟨by decide +kernel, rfl⟩
theorem zd_14_49_19 : zz_D zy_advance_14_49 19 (.iaload) 1 20 := ⟨by decide +kernel, rfl⟩
theorem zd_14_49_20 : zz_D zy_advance_14_49 20 (.bipush 32) 2 22 := ⟨by decide +kernel, rfl⟩
theorem zd_14_49_22 : zz_B zy_advance_14_49 22 (Instr.if_icmp .ne) 38 25 := ⟨16, by decide +kernel, rfl, rfl⟩
theorem zd_14_49_25 : zz_D zy_advance_14_49 25 (.aload_n 0) 1 26 := ⟨by decide +kernel, rfl⟩
theorem zd_14_49_26 : zz_D zy_advance_14_49 26 (.dup) 1 27 := ⟨by decide +kernel, rfl⟩
theorem zd_14_49_27 : zz_D zy_advance_14_49 27 (.getfield 334) 3 30 := ⟨by decide +kernel, rfl⟩
theorem zd_14_49_30 : zz_D zy_advance_14_49 30 (.iconst 1) 1 31 := ⟨by decide +kernel, rfl⟩
theorem zd_14_49_31 : zz_D zy_advance_14_49 31 (.iadd) 1 32 := ⟨by decide +kernel, rfl⟩
theorem zd_14_49_32 : zz_D zy_advance_14_49 32 (.putfield 334) 3 35 := ⟨by decide +kernel, rfl⟩
theorem zd_14_49_35 : zz_B zy_advance_14_49 35 Instr.goto 0 38 := ⟨(-35), by decide +kernel, rfl, rfl⟩
theorem zd_14_49_160 : zz_D zy_advance_14_49 160 (.aload_n 0) 1 161 := ⟨by decide +kernel, rfl⟩
theorem zd_14_49_161 : zz_D zy_advance_14_49 161 (.getfield 334) 3 164 := ⟨by decide +kernel, rfl⟩
theorem zd_14_49_164 : zz_D zy_advance_14_49 164 (.aload_n 0) 1 165 := ⟨by decide +kernel, rfl⟩
theorem zd_14_49_165 : zz_D zy_advance_14_49 165 (.getfield 337) 3 168 := ⟨by decide +kernel, rfl⟩
theorem zd_14_49_168 : zz_B zy_advance_14_49 168 (Instr.if_icmp .ge) 238 171 := ⟨70, by decide +kernel, rfl, rfl⟩
theorem zd_14_49_238 : zz_D zy_advance_14_49 238 (.aload_n 0) 1 239 := ⟨by decide +kernel, rfl⟩
theorem zd_14_49_239 : zz_D zy_advance_14_49 239 (.aload_n 0) 1 240 := ⟨by decide +kernel, rfl⟩
theorem zd_14_49_240 : zz_D zy_advance_14_49 240 (.getfield 334) 3 243 := ⟨by decide +kernel, rfl⟩
theorem zd_14_49_243 : zz_D zy_advance_14_49 243 (.iload_n 1) 1 244 := ⟨by decide +kernel, rfl⟩
theorem zd_14_49_244 : zz_D zy_advance_14_49 244 (.isub) 1 245 := ⟨by decide +kernel, rfl⟩
theorem zd_14_49_245 : zz_D zy_advance_14_49 245 (.iconst 4) 1 246 := ⟨by decide +kernel, rfl⟩
theorem zd_14_49_246 : zz_B zy_advance_14_49 246 (Instr.if_icmp .le) 254 249 := ⟨8, by decide +kernel, rfl, rfl⟩
theorem zd_14_49_254 : zz_D zy_advance_14_49 254 (.bipush 100) 2 256 := ⟨by decide +kernel, rfl⟩
theorem zd_14_49_256 : zz_D zy_advance_14_49 256 (.putfield 347) 3 259 := ⟨by decide +kernel, rfl⟩
theorem zd_14_49_259 : zz_D zy_advance_14_49 259 (.aload_n 0) 1 260 := ⟨by decide +kernel, rfl⟩
theorem zd_14_49_260 : zz_D zy_advance_14_49 260 (.iload_n 3) 1 261 := ⟨by decide +kernel, rfl⟩
theorem zd_14_49_261 : zz_D zy_advance_14_49 261 (.putfield 354) 3 264 := ⟨by decide +kernel, rfl⟩
theorem zf_Md_354 : mm_Fl "TensorForgeModel" 354 11 31 .int false := ⟨R_Md, F_Md, 69, t_Md, rfl, i_Md, by decide, mm_tb_1 1642 (by decide +kernel) rfl, rfl, t_Md_ok, n_Md, rfl, by decide +kernel⟩
theorem zd_14_49_264 : zz_B zy_advance_14_49 264 Instr.goto 288 267 := ⟨24, by decide +kernel, rfl, rfl⟩
theorem zd_14_49_249 : zz_D zy_advance_14_49 249 (.bipush 101) 2 251 := ⟨by decide +kernel, rfl⟩
theorem zd_14_49_251 : zz_B zy_advance_14_49 251 Instr.goto 256 254 := ⟨5, by decide +kernel, rfl, rfl⟩
theorem zd_14_49_171 : zz_D zy_advance_14_49 171 (.aload_n 0) 1 172 := ⟨by decide +kernel, rfl⟩
theorem zd_14_49_172 : zz_D zy_advance_14_49 172 (.getfield 76) 3 175 := ⟨by decide +kernel, rfl⟩
theorem zd_14_49_175 : zz_D zy_advance_14_49 175 (.aload_n 0) 1 176 := ⟨by decide +kernel, rfl⟩
theorem zd_14_49_176 : zz_D zy_advance_14_49 176 (.getfield 334) 3 179 := ⟨by decide +kernel, rfl⟩
theorem zd_14_49_179 : zz_D zy_advance_14_49 179 (.iaload) 1 180 := ⟨by decide +kernel, rfl⟩
theorem zd_14_49_180 : zz_D zy_advance_14_49 180 (.i2l) 1 181 := ⟨by decide +kernel, rfl⟩
theorem zd_14_49_181 : zz_D zy_advance_14_49 181 (.ldc2_w 350) 3 184 := ⟨by decide +kernel, rfl⟩
theorem zd_14_49_184 : zz_D zy_advance_14_49 184 (.ldc2_w 352) 3 187 := ⟨by decide +kernel, rfl⟩
theorem zd_14_49_187 : zz_D zy_advance_14_49 187 (.invokestatic 192) 3 190 := ⟨by decide +kernel, rfl⟩
theorem zd_14_49_190 : zz_B zy_advance_14_49 190 (Instr.ifCond .eq) 238 193 := ⟨48, by decide +kernel, rfl, rfl⟩
theorem zd_14_49_193 : zz_D zy_advance_14_49 193 (.aload_n 0) 1 194 := ⟨by decide +kernel, rfl⟩
theorem zd_14_49_194 : zz_D zy_advance_14_49 194 (.getfield 334) 3 197 := ⟨by decide +kernel, rfl⟩
theorem zd_14_49_197 : zz_D zy_advance_14_49 197 (.iload_n 1) 1 198 := ⟨by decide +kernel, rfl⟩
theorem zd_14_49_198 : zz_D zy_advance_14_49 198 (.isub) 1 199 := ⟨by decide +kernel, rfl⟩
theorem zd_14_49_199 : zz_D zy_advance_14_49 199 (.iconst 4) 1 200 := ⟨by decide +kernel, rfl⟩
theorem zd_14_49_200 : zz_B zy_advance_14_49 200 (Instr.if_icmp .ge) 223 203 := ⟨23, by decide +kernel, rfl, rfl⟩
theorem zd_14_49_223 : zz_D zy_advance_14_49 223 (.iload_n 3) 1 224 := ⟨by decide +kernel, rfl⟩
theorem zd_14_49_224 : zz_D zy_advance_14_49 224 (.istore_n 3) 1 225 := ⟨by decide +kernel, rfl⟩
theorem zd_14_49_225 : zz_D zy_advance_14_49 225 (.aload_n 0) 1 226 := ⟨by decide +kernel, rfl⟩
theorem zd_14_49_226 : zz_D zy_advance_14_49 226 (.dup) 1 227 := ⟨by decide +kernel, rfl⟩
theorem zd_14_49_227 : zz_D zy_advance_14_49 227 (.getfield 334) 3 230 := ⟨by decide +kernel, rfl⟩
theorem zd_14_49_230 : zz_D zy_advance_14_49 230 (.iconst 1) 1 231 := ⟨by decide +kernel, rfl⟩
theorem zd_14_49_231 : zz_D zy_advance_14_49 231 (.iadd) 1 232 := ⟨by decide +kernel, rfl⟩
theorem zd_14_49_232 : zz_D zy_advance_14_49 232 (.putfield 334) 3 235 := ⟨by decide +kernel, rfl⟩
theorem zd_14_49_235 : zz_B zy_advance_14_49 235 Instr.goto 160 238 := ⟨(-75), by decide +kernel, rfl, rfl⟩
theorem zd_14_49_203 : zz_D zy_advance_14_49 203 (.bipush 10) 2 205 := ⟨by decide +kernel, rfl⟩
theorem zd_14_49_205 : zz_D zy_advance_14_49 205 (.iload_n 3) 1 206 := ⟨by decide +kernel, rfl⟩
theorem zd_14_49_206 : zz_D zy_advance_14_49 206 (.imul) 1 207 := ⟨by decide +kernel, rfl⟩
theorem zd_14_49_207 : zz_D zy_advance_14_49 207 (.aload_n 0) 1 208 := ⟨by decide +kernel, rfl⟩
theorem zd_14_49_208 : zz_D zy_advance_14_49 208 (.getfield 76) 3 211 := ⟨by decide +kernel, rfl⟩
theorem zd_14_49_211 : zz_D zy_advance_14_49 211 (.aload_n 0) 1 212 := ⟨by decide +kernel, rfl⟩
theorem zd_14_49_212 : zz_D zy_advance_14_49 212 (.getfield 334) 3 215 := ⟨by decide +kernel, rfl⟩
theorem zd_14_49_215 : zz_D zy_advance_14_49 215 (.iaload) 1 216 := ⟨by decide +kernel, rfl⟩
theorem zd_14_49_216 : zz_D zy_advance_14_49 216 (.iadd) 1 217 := ⟨by decide +kernel, rfl⟩
theorem zd_14_49_217 : zz_D zy_advance_14_49 217 (.bipush 48) 2 219 := ⟨by decide +kernel, rfl⟩
theorem zd_14_49_219 : zz_D zy_advance_14_49 219 (.isub) 1 220 := ⟨by decide +kernel, rfl⟩
theorem zd_14_49_220 : zz_B zy_advance_14_49 220 Instr.goto 224 223 := ⟨4, by decide +kernel, rfl, rfl⟩
theorem zd_14_49_82 : zz_D zy_advance_14_49 82 (.aload_n 0) 1 83 := ⟨by decide +kernel, rfl⟩
theorem zd_14_49_83 : zz_D zy_advance_14_49 83 (.getfield 334) 3 86 := ⟨by decide +kernel, rfl⟩
theorem zd_14_49_86 : zz_D zy_advance_14_49 86 (.aload_n 0) 1 87 := ⟨by decide +kernel, rfl⟩
theorem zd_14_49_87 : zz_D zy_advance_14_49 87 (.getfield 337) 3 90 := ⟨by decide +kernel, rfl⟩
theorem zd_14_49_90 : zz_B zy_advance_14_49 90 (Instr.if_icmp .ge) 128 93 := ⟨38, by decide +kernel, rfl, rfl⟩
theorem zd_14_49_128 : zz_D zy_advance_14_49 128 (.aload_n 0) 1 129 := ⟨by decide +kernel, rfl⟩
theorem zd_14_49_129 : zz_D zy_advance_14_49 129 (.aload_n 0) 1 130 := ⟨by decide +kernel, rfl⟩
theorem zd_14_49_130 : zz_D zy_advance_14_49 130 (.iload_n 1) 1 131 := ⟨by decide +kernel, rfl⟩
theorem zd_14_49_131 : zz_D zy_advance_14_49 131 (.aload_n 0) 1 132 := ⟨by decide +kernel, rfl⟩
theorem zd_14_49_132 : zz_D zy_advance_14_49 132 (.getfield 334) 3 135 := ⟨by decide +kernel, rfl⟩
theorem zd_14_49_135 : zz_D zy_advance_14_49 135 (.invokevirtual 344) 3 138 := ⟨by decide +kernel, rfl⟩
abbrev zy_wordAt_14_50 : mm_Y := (⟨"TensorForgeModel", "wordAt", "(II)I"⟩, prog_14_method_50_code, 8, (some .int))
theorem zyw_wordAt_14_50 : mm_Yw zy_wordAt_14_50 2 := ⟨mm_tb_1 2024 (by decide +kernel) rfl, mm_tb_1 12 (by decide +kernel) rfl, ⟨by decide, by decide⟩, by decide +kernel⟩
theorem zd_14_50_0 : zz_D zy_wordAt_14_50 0 (.bipush 101) 2 2 := ⟨by decide +kernel, rfl⟩
theorem zd_14_50_2 : zz_D zy_wordAt_14_50 2 (.istore_n 3) 1 3 := ⟨by decide +kernel, rfl⟩
theorem zd_14_50_3 : zz_D zy_wordAt_14_50 3 (.iconst 1) 1 4 := ⟨by decide +kernel, rfl⟩
theorem zd_14_50_4 : zz_D zy_wordAt_14_50 4 (.istore 4) 2 6 := ⟨by decide +kernel, rfl⟩
theorem zd_14_50_6 : zz_D zy_wordAt_14_50 6 (.iload 4) 2 8 := ⟨by decide +kernel, rfl⟩
theorem zd_14_50_8 : zz_D zy_wordAt_14_50 8 (.bipush 21) 2 10 := ⟨by decide +kernel, rfl⟩
theorem zd_14_50_10 : zz_B zy_wordAt_14_50 10 (Instr.if_icmp .ge) 96 13 := ⟨86, by decide +kernel, rfl, rfl⟩
theorem zd_14_50_13 : zz_D zy_wordAt_14_50 13 (.iload_n 1) 1 14 := ⟨by decide +kernel, rfl⟩
theorem zd_14_50_14 : zz_D zy_wordAt_14_50 14 (.istore 5) 2 16 := ⟨by decide +kernel, rfl⟩
theorem zd_14_50_16 : zz_D zy_wordAt_14_50 16 (.aload_n 0) 1 17 := ⟨by decide +kernel, rfl⟩
theorem zd_14_50_17 : zz_D zy_wordAt_14_50 17 (.getfield 79) 3 20 := ⟨by decide +kernel, rfl⟩
theorem zf_Md_79 : mm_Fl "TensorForgeModel" 79 11 29 (.array .long) true := ⟨R_Md, F_Md, 69, t_Md, rfl, i_Md, by decide, mm_tb_1 1640 (by decide +kernel) rfl, rfl, t_Md_ok, n_Md, rfl, by decide +kernel⟩
theorem zd_14_50_20 : zz_D zy_wordAt_14_50 20 (.iload 4) 2 22 := ⟨by decide +kernel, rfl⟩
theorem zd_14_50_22 : zz_D zy_wordAt_14_50 22 (.laload) 1 23 := ⟨by decide +kernel, rfl⟩
theorem zd_14_50_23 : zz_D zy_wordAt_14_50 23 (.lstore 6) 2 25 := ⟨by decide +kernel, rfl⟩
theorem zd_14_50_25 : zz_D zy_wordAt_14_50 25 (.iload 5) 2 27 := ⟨by decide +kernel, rfl⟩
theorem zd_14_50_27 : zz_D zy_wordAt_14_50 27 (.iload_n 2) 1 28 := ⟨by decide +kernel, rfl⟩
theorem zd_14_50_28 : zz_B zy_wordAt_14_50 28 (Instr.if_icmp .ge) 70 31 := ⟨42, by decide +kernel, rfl, rfl⟩
theorem zd_14_50_70 : zz_D zy_wordAt_14_50 70 (.iload 5) 2 72 := ⟨by decide +kernel, rfl⟩
theorem zd_14_50_72 : zz_D zy_wordAt_14_50 72 (.iload_n 2) 1 73 := ⟨by decide +kernel, rfl⟩
theorem zd_14_50_73 : zz_B zy_wordAt_14_50 73 (Instr.if_icmp .ne) 88 76 := ⟨15, by decide +kernel, rfl, rfl⟩
theorem zd_14_50_88 : zz_D zy_wordAt_14_50 88 (.iload_n 3) 1 89 := ⟨by decide +kernel, rfl⟩
theorem zd_14_50_89 : zz_D zy_wordAt_14_50 89 (.istore_n 3) 1 90 := ⟨by decide +kernel, rfl⟩
theorem zd_14_50_90 : zz_D zy_wordAt_14_50 90 (.iinc 4 1) 3 93 := ⟨by decide +kernel, rfl⟩
theorem zd_14_50_93 : zz_B zy_wordAt_14_50 93 Instr.goto 6 96 := ⟨(-87), by decide +kernel, rfl, rfl⟩
theorem zd_14_50_76 : zz_D zy_wordAt_14_50 76 (.lload 6) 2 78 := ⟨by decide +kernel, rfl⟩
theorem zd_14_50_78 : zz_D zy_wordAt_14_50 78 (.lconst 0) 1 79 := ⟨by decide +kernel, rfl⟩
theorem zd_14_50_79 : zz_D zy_wordAt_14_50 79 (.lcmp) 1 80 := ⟨by decide +kernel, rfl⟩
theorem zd_14_50_80 : zz_B zy_wordAt_14_50 80 (Instr.ifCond .ne) 88 83 := ⟨8, by decide +kernel, rfl, rfl⟩
theorem zd_14_50_83 : zz_D zy_wordAt_14_50 83 (.iload 4) 2 85 := ⟨by decide +kernel, rfl⟩
theorem zd_14_50_85 : zz_B zy_wordAt_14_50 85 Instr.goto 89 88 := ⟨4, by decide +kernel, rfl, rfl⟩
theorem zd_14_50_31 : zz_D zy_wordAt_14_50 31 (.lload 6) 2 33 := ⟨by decide +kernel, rfl⟩
theorem zd_14_50_33 : zz_D zy_wordAt_14_50 33 (.lconst 0) 1 34 := ⟨by decide +kernel, rfl⟩
theorem zd_14_50_34 : zz_D zy_wordAt_14_50 34 (.lcmp) 1 35 := ⟨by decide +kernel, rfl⟩
theorem zd_14_50_35 : zz_B zy_wordAt_14_50 35 (Instr.ifCond .le) 70 38 := ⟨35, by decide +kernel, rfl, rfl⟩
theorem zd_14_50_38 : zz_D zy_wordAt_14_50 38 (.aload_n 0) 1 39 := ⟨by decide +kernel, rfl⟩
theorem zd_14_50_39 : zz_D zy_wordAt_14_50 39 (.getfield 76) 3 42 := ⟨by decide +kernel, rfl⟩
theorem zd_14_50_42 : zz_D zy_wordAt_14_50 42 (.iload 5) 2 44 := ⟨by decide +kernel, rfl⟩
theorem zd_14_50_44 : zz_D zy_wordAt_14_50 44 (.iaload) 1 45 := ⟨by decide +kernel, rfl⟩
theorem zd_14_50_45 : zz_D zy_wordAt_14_50 45 (.bipush 96) 2 47 := ⟨by decide +kernel, rfl⟩
theorem zd_14_50_47 : zz_D zy_wordAt_14_50 47 (.lload 6) 2 49 := ⟨by decide +kernel, rfl⟩
theorem zd_14_50_49 : zz_D zy_wordAt_14_50 49 (.ldc2_w 357) 3 52 := ⟨by decide +kernel, rfl⟩
theorem zq_Md_357 : Cond.constantLong "TensorForgeModel" 357 (31 : Int64) ∈ mm_tb := mm_tb_1 2025 (by decide +kernel) rfl
theorem zd_14_50_52 : zz_D zy_wordAt_14_50 52 (.land) 1 53 := ⟨by decide +kernel, rfl⟩
theorem zd_14_50_53 : zz_D zy_wordAt_14_50 53 (.l2i) 1 54 := ⟨by decide +kernel, rfl⟩
theorem zd_14_50_54 : zz_D zy_wordAt_14_50 54 (.iadd) 1 55 := ⟨by decide +kernel, rfl⟩
theorem zd_14_50_55 : zz_B zy_wordAt_14_50 55 (Instr.if_icmp .ne) 70 58 := ⟨15, by decide +kernel, rfl, rfl⟩
theorem zd_14_50_58 : zz_D zy_wordAt_14_50 58 (.iinc 5 1) 3 61 := ⟨by decide +kernel, rfl⟩
theorem zd_14_50_61 : zz_D zy_wordAt_14_50 61 (.lload 6) 2 63 := ⟨by decide +kernel, rfl⟩
theorem zd_14_50_63 : zz_D zy_wordAt_14_50 63 (.iconst 5) 1 64 := ⟨by decide +kernel, rfl⟩
theorem zd_14_50_64 : zz_D zy_wordAt_14_50 64 (.lshr) 1 65 := ⟨by decide +kernel, rfl⟩
theorem zd_14_50_65 : zz_D zy_wordAt_14_50 65 (.lstore 6) 2 67 := ⟨by decide +kernel, rfl⟩
theorem zd_14_50_67 : zz_B zy_wordAt_14_50 67 Instr.goto 25 70 := ⟨(-42), by decide +kernel, rfl, rfl⟩
theorem zd_14_50_96 : zz_D zy_wordAt_14_50 96 (.iload_n 3) 1 97 := ⟨by decide +kernel, rfl⟩
theorem zd_14_50_97 : zz_D zy_wordAt_14_50 97 (.ireturn) 1 98 := ⟨by decide +kernel, rfl⟩
-- TensorForgeModel wordAt (II)I
abbrev zr_wordAt_14_50 : Room := { frames := 0, cells := 0, slots := 0, locals := 0 }
def zp_wordAt_14_50 (p0 : Int) (p1 : Int) (S0 : zz_S) : Int → zz_S → Prop := fun r S => S0 = S ∧ (1 ≤ r ∧ r ≤ 101) ∧ (r = 101 ∨ r ≤ 20)
theorem zb_wordAt_14_50_6 {g : mm_G} {l : Launch} (p0 : Int) (p1 : Int) (S0 : zz_S) (n : Nat) (hn : zz_end ≤ n) (G_S0 : zz_G S0) (hp0 : 0 ≤ p0 ∧ p0 ≤ 1500) (hp1 : 0 ≤ p1 ∧ p1 ≤ 1500) (x3 : Int) (x4 : Int) (S : zz_S) (G_S : zz_G S) (F_S : zz_fr [] [] (fun _ _ => False) S0 S) (i6_0 : 1 ≤ x3 ∧ x3 ≤ 101) (i6_1 : 1 ≤ x4 ∧ x4 ≤ 25) (i6_2 : x3 = 101 ∨ x3 ≤ 20) (R : Nat) (hR : (34359738368 + (21 - x4).toNat) * 1099511627776 + 1099511627775 = R) (k25 : ∀ (x3 : Int) (x4 : Int) (x5 : Int) (x6 : Int) (S : zz_S), zz_G S → zz_fr [] [] (fun _ _ => False) S0 S → (1 ≤ x3 ∧ x3 ≤ 101) → (1 ≤ x4 ∧ x4 ≤ 24) → (0 ≤ x5 ∧ x5 ≤ 1500) → (0 ≤ x6 ∧ x6 ≤ 1099511627775) → (1 ≤ x4 ∧ x4 ≤ 25) → (x3 = 101 ∨ x3 ≤ 20) → (x4 < 21) → (x3 = 101 ∨ x3 ≤ 20) → (34359738368 + (21 - x4).toNat) * 1099511627776 + (17179869184 + (p1 - x5).toNat) < R → zz_E g l zy_wordAt_14_50 zr_wordAt_14_50 (zz_QI n (zp_wordAt_14_50 p0 p1 S0)) S n 25 [some (.ref 1079), some (zi p0), some (zi p1), some (zi x3), some (zi x4), some (zi x5), some (zl x6)] [] 0 0) : zz_E g l zy_wordAt_14_50 zr_wordAt_14_50 (zz_QI n (zp_wordAt_14_50 p0 p1 S0)) S n 6 [some (.ref 1079), some (zi p0), some (zi p1), some (zi x3), some (zi x4)] [] 0 0 := by
  refine zz_iload (x := x4) rfl zd_14_50_6 ?_
  refine zz_bipush (by decide) zd_14_50_8 ?_
  refine zz_icmp_ge (by omega) (by omega) zd_14_50_10 (fun c1 => ?_) (fun c1 => ?_)
  · refine zz_iload_n (x := x3) rfl zd_14_50_96 ?_
    exact zz_iret zd_14_50_97 rfl (Nat.zero_le _) (Nat.zero_le _) ⟨_, _, rfl, zz_fr.eq F_S, by omega, by omega⟩
  · refine zz_iload_n (x := p0) rfl zd_14_50_13 ?_
    refine zz_istore [some (.ref 1079), some (zi p0), some (zi p1), some (zi x3), some (zi x4), some (zi p0)] zd_14_50_14 (by decide) rfl ?_
    refine zz_aload_n (x := 1079) rfl zd_14_50_16 ?_
    refine zz_getr (kd := 0) (z := 1100) zd_14_50_17 zf_Md_79 zT_1079 rfl (zz_ltn hn rfl) (zz_G.eq G_S 1079 29 1100 rfl rfl) (by decide) 1100 rfl ?_
    refine zz_iload (x := x4) rfl zd_14_50_20 ?_
    have g2 := zz_G.r G_S0 1100 x4.toNat 0 1099511627775 rfl rfl
    refine zz_lald (z := S0 1100 x4.toNat) zd_14_50_22 zT_1100 rfl (zz_ltn hn rfl) (by decide) (by omega) (zz_rc F_S (zz_nc1 rfl) rfl (fun h => h) rfl) ?_
    refine zz_lstore [some (.ref 1079), some (zi p0), some (zi p1), some (zi x3), some (zi x4), some (zi p0), some (zl (S0 1100 x4.toNat)), none] zd_14_50_23 (by decide) rfl ?_
    refine zz_less (ls1 := [some (.ref 1079), some (zi p0), some (zi p1), some (zi x3), some (zi x4), some (zi p0), some (zl (S0 1100 x4.toNat))]) ⟨rfl, ⟨rfl, ⟨rfl, ⟨rfl, ⟨rfl, ⟨rfl, ⟨rfl, trivial⟩⟩⟩⟩⟩⟩⟩ ?_
    exact k25 x3 x4 p0 (S0 1100 x4.toNat) S G_S F_S (by omega) (by omega) (by omega) (by omega) (by omega) (by omega) (by omega) (by omega) (by omega)
theorem zb_wordAt_14_50_25 {g : mm_G} {l : Launch} (p0 : Int) (p1 : Int) (S0 : zz_S) (n : Nat) (hn : zz_end ≤ n) (G_S0 : zz_G S0) (hp0 : 0 ≤ p0 ∧ p0 ≤ 1500) (hp1 : 0 ≤ p1 ∧ p1 ≤ 1500) (x3 : Int) (x4 : Int) (x5 : Int) (x6 : Int) (S : zz_S) (G_S : zz_G S) (F_S : zz_fr [] [] (fun _ _ => False) S0 S) (i25_0 : 1 ≤ x3 ∧ x3 ≤ 101) (i25_1 : 1 ≤ x4 ∧ x4 ≤ 24) (i25_2 : 0 ≤ x5 ∧ x5 ≤ 1500) (i25_3 : 0 ≤ x6 ∧ x6 ≤ 1099511627775) (i25_4 : 1 ≤ x4 ∧ x4 ≤ 25) (i25_5 : x3 = 101 ∨ x3 ≤ 20) (i25_6 : x4 < 21) (i25_7 : x3 = 101 ∨ x3 ≤ 20) (R : Nat) (hR : (34359738368 + (21 - x4).toNat) * 1099511627776 + (17179869184 + (p1 - x5).toNat) = R) (k6 : ∀ (x3 : Int) (x4 : Int) (S : zz_S), zz_G S → zz_fr [] [] (fun _ _ => False) S0 S → (1 ≤ x3 ∧ x3 ≤ 101) → (1 ≤ x4 ∧ x4 ≤ 25) → (x3 = 101 ∨ x3 ≤ 20) → (34359738368 + (21 - x4).toNat) * 1099511627776 + 1099511627775 < R → zz_E g l zy_wordAt_14_50 zr_wordAt_14_50 (zz_QI n (zp_wordAt_14_50 p0 p1 S0)) S n 6 [some (.ref 1079), some (zi p0), some (zi p1), some (zi x3), some (zi x4)] [] 0 0) (k25 : ∀ (x3 : Int) (x4 : Int) (x5 : Int) (x6 : Int) (S : zz_S), zz_G S → zz_fr [] [] (fun _ _ => False) S0 S → (1 ≤ x3 ∧ x3 ≤ 101) → (1 ≤ x4 ∧ x4 ≤ 24) → (0 ≤ x5 ∧ x5 ≤ 1500) → (0 ≤ x6 ∧ x6 ≤ 1099511627775) → (1 ≤ x4 ∧ x4 ≤ 25) → (x3 = 101 ∨ x3 ≤ 20) → (x4 < 21) → (x3 = 101 ∨ x3 ≤ 20) → (34359738368 + (21 - x4).toNat) * 1099511627776 + (17179869184 + (p1 - x5).toNat) < R → zz_E g l zy_wordAt_14_50 zr_wordAt_14_50 (zz_QI n (zp_wordAt_14_50 p0 p1 S0)) S n 25 [some (.ref 1079), some (zi p0), some (zi p1), some (zi x3), some (zi x4), some (zi x5), some (zl x6)] [] 0 0) : zz_E g l zy_wordAt_14_50 zr_wordAt_14_50 (zz_QI n (zp_wordAt_14_50 p0 p1 S0)) S n 25 [some (.ref 1079), some (zi p0), some (zi p1), some (zi x3), some (zi x4), some (zi x5), some (zl x6)] [] 0 0 := by
  refine zz_iload (x := x5) rfl zd_14_50_25 ?_
  refine zz_iload_n (x := p1) rfl zd_14_50_27 ?_
  refine zz_icmp_ge (by omega) (by omega) zd_14_50_28 (fun c3 => ?_) (fun c3 => ?_)
  · refine zz_iload (x := x5) rfl zd_14_50_70 ?_
    refine zz_iload_n (x := p1) rfl zd_14_50_72 ?_
    refine zz_icmp_ne (by omega) (by omega) zd_14_50_73 (fun c4 => ?_) (fun c4 => ?_)
    · refine zz_iload_n (x := x3) rfl zd_14_50_88 ?_
      refine zz_istore_n [some (.ref 1079), some (zi p0), some (zi p1), some (zi x3), some (zi x4), some (zi x5), some (zl x6)] zd_14_50_89 (by decide) rfl ?_
      refine zz_iinc [some (.ref 1079), some (zi p0), some (zi p1), some (zi x3), some (zi (x4 + 1)), some (zi x5), some (zl x6)] zd_14_50_90 rfl rfl ?_
      refine zz_goto zd_14_50_93 ?_
      refine zz_less (ls1 := [some (.ref 1079), some (zi p0), some (zi p1), some (zi x3), some (zi (x4 + 1))]) ⟨rfl, ⟨rfl, ⟨rfl, ⟨rfl, ⟨rfl, trivial⟩⟩⟩⟩⟩ ?_
      exact k6 x3 (x4 + 1) S G_S F_S (by omega) (by omega) (by omega) (by omega)
    · refine zz_lload (x := x6) rfl zd_14_50_76 ?_
      refine zz_lconst (z := 0) (by decide) zd_14_50_78 ?_
      refine zz_lcmp (by omega) (by omega) zd_14_50_79 (fun v5 hv5 => ?_)
      refine zz_if_ne (by omega) zd_14_50_80 (fun c6 => ?_) (fun c6 => ?_)
      · refine zz_iload_n (x := x3) rfl zd_14_50_88 ?_
        refine zz_istore_n [some (.ref 1079), some (zi p0), some (zi p1), some (zi x3), some (zi x4), some (zi x5), some (zl x6)] zd_14_50_89 (by decide) rfl ?_
        refine zz_iinc [some (.ref 1079), some (zi p0), some (zi p1), some (zi x3), some (zi (x4 + 1)), some (zi x5), some (zl x6)] zd_14_50_90 rfl rfl ?_
        refine zz_goto zd_14_50_93 ?_
        refine zz_less (ls1 := [some (.ref 1079), some (zi p0), some (zi p1), some (zi x3), some (zi (x4 + 1))]) ⟨rfl, ⟨rfl, ⟨rfl, ⟨rfl, ⟨rfl, trivial⟩⟩⟩⟩⟩ ?_
        exact k6 x3 (x4 + 1) S G_S F_S (by omega) (by omega) (by omega) (by omega)
      · refine zz_iload (x := x4) rfl zd_14_50_83 ?_
        refine zz_goto zd_14_50_85 ?_
        refine zz_istore_n [some (.ref 1079), some (zi p0), some (zi p1), some (zi x4), some (zi x4), some (zi x5), some (zl x6)] zd_14_50_89 (by decide) rfl ?_
        refine zz_iinc [some (.ref 1079), some (zi p0), some (zi p1), some (zi x4), some (zi (x4 + 1)), some (zi x5), some (zl x6)] zd_14_50_90 rfl rfl ?_
        refine zz_goto zd_14_50_93 ?_
        refine zz_less (ls1 := [some (.ref 1079), some (zi p0), some (zi p1), some (zi x4), some (zi (x4 + 1))]) ⟨rfl, ⟨rfl, ⟨rfl, ⟨rfl, ⟨rfl, trivial⟩⟩⟩⟩⟩ ?_
        exact k6 x4 (x4 + 1) S G_S F_S (by omega) (by omega) (by omega) (by omega)
  · refine zz_lload (x := x6) rfl zd_14_50_31 ?_
    refine zz_lconst (z := 0) (by decide) zd_14_50_33 ?_
    refine zz_lcmp (by omega) (by omega) zd_14_50_34 (fun v7 hv7 => ?_)
    refine zz_if_le (by omega) zd_14_50_35 (fun c8 => ?_) (fun c8 => ?_)
    · refine zz_iload (x := x5) rfl zd_14_50_70 ?_
      refine zz_iload_n (x := p1) rfl zd_14_50_72 ?_
      refine zz_icmp_ne (by omega) (by omega) zd_14_50_73 (fun c9 => ?_) (fun c9 => ?_)
      · refine zz_iload_n (x := x3) rfl zd_14_50_88 ?_
        refine zz_istore_n [some (.ref 1079), some (zi p0), some (zi p1), some (zi x3), some (zi x4), some (zi x5), some (zl x6)] zd_14_50_89 (by decide) rfl ?_
        refine zz_iinc [some (.ref 1079), some (zi p0), some (zi p1), some (zi x3), some (zi (x4 + 1)), some (zi x5), some (zl x6)] zd_14_50_90 rfl rfl ?_
        refine zz_goto zd_14_50_93 ?_
        refine zz_less (ls1 := [some (.ref 1079), some (zi p0), some (zi p1), some (zi x3), some (zi (x4 + 1))]) ⟨rfl, ⟨rfl, ⟨rfl, ⟨rfl, ⟨rfl, trivial⟩⟩⟩⟩⟩ ?_
        exact k6 x3 (x4 + 1) S G_S F_S (by omega) (by omega) (by omega) (by omega)
      · refine zz_lload (x := x6) rfl zd_14_50_76 ?_
        refine zz_lconst (z := 0) (by decide) zd_14_50_78 ?_
        refine zz_lcmp (by omega) (by omega) zd_14_50_79 (fun v10 hv10 => ?_)
        refine zz_if_ne (by omega) zd_14_50_80 (fun c11 => ?_) (fun c11 => ?_)
        · refine zz_iload_n (x := x3) rfl zd_14_50_88 ?_
          refine zz_istore_n [some (.ref 1079), some (zi p0), some (zi p1), some (zi x3), some (zi x4), some (zi x5), some (zl x6)] zd_14_50_89 (by decide) rfl ?_
          refine zz_iinc [some (.ref 1079), some (zi p0), some (zi p1), some (zi x3), some (zi (x4 + 1)), some (zi x5), some (zl x6)] zd_14_50_90 rfl rfl ?_
          refine zz_goto zd_14_50_93 ?_
          refine zz_less (ls1 := [some (.ref 1079), some (zi p0), some (zi p1), some (zi x3), some (zi (x4 + 1))]) ⟨rfl, ⟨rfl, ⟨rfl, ⟨rfl, ⟨rfl, trivial⟩⟩⟩⟩⟩ ?_
          exact k6 x3 (x4 + 1) S G_S F_S (by omega) (by omega) (by omega) (by omega)
        · refine zz_iload (x := x4) rfl zd_14_50_83 ?_
          refine zz_goto zd_14_50_85 ?_
          refine zz_istore_n [some (.ref 1079), some (zi p0), some (zi p1), some (zi x4), some (zi x4), some (zi x5), some (zl x6)] zd_14_50_89 (by decide) rfl ?_
          refine zz_iinc [some (.ref 1079), some (zi p0), some (zi p1), some (zi x4), some (zi (x4 + 1)), some (zi x5), some (zl x6)] zd_14_50_90 rfl rfl ?_
          refine zz_goto zd_14_50_93 ?_
          refine zz_less (ls1 := [some (.ref 1079), some (zi p0), some (zi p1), some (zi x4), some (zi (x4 + 1))]) ⟨rfl, ⟨rfl, ⟨rfl, ⟨rfl, ⟨rfl, trivial⟩⟩⟩⟩⟩ ?_
          exact k6 x4 (x4 + 1) S G_S F_S (by omega) (by omega) (by omega) (by omega)
    · refine zz_aload_n (x := 1079) rfl zd_14_50_38 ?_
      refine zz_getr (kd := 0) (z := 1099) zd_14_50_39 zf_Md_76 zT_1079 rfl (zz_ltn hn rfl) (zz_G.eq G_S 1079 27 1099 rfl rfl) (by decide) 1099 rfl ?_
      refine zz_iload (x := x5) rfl zd_14_50_42 ?_
      have g12 := zz_G.r G_S0 1099 x5.toNat 0 255 rfl rfl
      refine zz_iald (z := S0 1099 x5.toNat) zd_14_50_44 zT_1099 rfl (zz_ltn hn rfl) (by decide) (by omega) (zz_rc F_S (zz_nc1 rfl) rfl (fun h => h) rfl) ?_
      refine zz_bipush (by decide) zd_14_50_45 ?_
      refine zz_lload (x := x6) rfl zd_14_50_47 ?_
      refine zz_ldc2 (z := 31) zq_Md_357 (by decide) zd_14_50_49 ?_
      refine zz_land zd_14_50_52 (fun v13 hv13 ev13 => ?_)
      have av13 := zz_band64 (by omega) (by omega) ev13
      refine zz_l2i (by omega) zd_14_50_53 (fun v14 hv14 av14 ev14 => ?_)
      refine zz_iadd zd_14_50_54 ?_
      refine zz_icmp_ne (by omega) (by omega) zd_14_50_55 (fun c15 => ?_) (fun c15 => ?_)
      · refine zz_iload (x := x5) rfl zd_14_50_70 ?_
        refine zz_iload_n (x := p1) rfl zd_14_50_72 ?_
        refine zz_icmp_ne (by omega) (by omega) zd_14_50_73 (fun c16 => ?_) (fun c16 => ?_)
        · refine zz_iload_n (x := x3) rfl zd_14_50_88 ?_
          refine zz_istore_n [some (.ref 1079), some (zi p0), some (zi p1), some (zi x3), some (zi x4), some (zi x5), some (zl x6)] zd_14_50_89 (by decide) rfl ?_
          refine zz_iinc [some (.ref 1079), some (zi p0), some (zi p1), some (zi x3), some (zi (x4 + 1)), some (zi x5), some (zl x6)] zd_14_50_90 rfl rfl ?_
          refine zz_goto zd_14_50_93 ?_
          refine zz_less (ls1 := [some (.ref 1079), some (zi p0), some (zi p1), some (zi x3), some (zi (x4 + 1))]) ⟨rfl, ⟨rfl, ⟨rfl, ⟨rfl, ⟨rfl, trivial⟩⟩⟩⟩⟩ ?_
          exact k6 x3 (x4 + 1) S G_S F_S (by omega) (by omega) (by omega) (by omega)
        · refine zz_lload (x := x6) rfl zd_14_50_76 ?_
          refine zz_lconst (z := 0) (by decide) zd_14_50_78 ?_
          refine zz_lcmp (by omega) (by omega) zd_14_50_79 (fun v17 hv17 => ?_)
          refine zz_if_ne (by omega) zd_14_50_80 (fun c18 => ?_) (fun c18 => ?_)
          · refine zz_iload_n (x := x3) rfl zd_14_50_88 ?_
            refine zz_istore_n [some (.ref 1079), some (zi p0), some (zi p1), some (zi x3), some (zi x4), some (zi x5), some (zl x6)] zd_14_50_89 (by decide) rfl ?_
            refine zz_iinc [some (.ref 1079), some (zi p0), some (zi p1), some (zi x3), some (zi (x4 + 1)), some (zi x5), some (zl x6)] zd_14_50_90 rfl rfl ?_
            refine zz_goto zd_14_50_93 ?_
            refine zz_less (ls1 := [some (.ref 1079), some (zi p0), some (zi p1), some (zi x3), some (zi (x4 + 1))]) ⟨rfl, ⟨rfl, ⟨rfl, ⟨rfl, ⟨rfl, trivial⟩⟩⟩⟩⟩ ?_
            exact k6 x3 (x4 + 1) S G_S F_S (by omega) (by omega) (by omega) (by omega)
          · refine zz_iload (x := x4) rfl zd_14_50_83 ?_
            refine zz_goto zd_14_50_85 ?_
            refine zz_istore_n [some (.ref 1079), some (zi p0), some (zi p1), some (zi x4), some (zi x4), some (zi x5), some (zl x6)] zd_14_50_89 (by decide) rfl ?_
            refine zz_iinc [some (.ref 1079), some (zi p0), some (zi p1), some (zi x4), some (zi (x4 + 1)), some (zi x5), some (zl x6)] zd_14_50_90 rfl rfl ?_
            refine zz_goto zd_14_50_93 ?_
            refine zz_less (ls1 := [some (.ref 1079), some (zi p0), some (zi p1), some (zi x4), some (zi (x4 + 1))]) ⟨rfl, ⟨rfl, ⟨rfl, ⟨rfl, ⟨rfl, trivial⟩⟩⟩⟩⟩ ?_
            exact k6 x4 (x4 + 1) S G_S F_S (by omega) (by omega) (by omega) (by omega)
      · refine zz_iinc [some (.ref 1079), some (zi p0), some (zi p1), some (zi x3), some (zi x4), some (zi (x5 + 1)), some (zl x6)] zd_14_50_58 rfl rfl ?_
        refine zz_lload (x := x6) rfl zd_14_50_61 ?_
        refine zz_iconst zd_14_50_63 ?_
        refine zz_lshr zd_14_50_64 (fun v19 hv19 ev19 => ?_)
        have av19 := zz_lsr5 (by omega) ev19
        refine zz_lstore [some (.ref 1079), some (zi p0), some (zi p1), some (zi x3), some (zi x4), some (zi (x5 + 1)), some (zl v19), none] zd_14_50_65 (by decide) rfl ?_
        refine zz_goto zd_14_50_67 ?_
        refine zz_less (ls1 := [some (.ref 1079), some (zi p0), some (zi p1), some (zi x3), some (zi x4), some (zi (x5 + 1)), some (zl v19)]) ⟨rfl, ⟨rfl, ⟨rfl, ⟨rfl, ⟨rfl, ⟨rfl, ⟨rfl, trivial⟩⟩⟩⟩⟩⟩⟩ ?_
        exact k25 x3 x4 (x5 + 1) v19 S G_S F_S (by omega) (by omega) (by omega) (by omega) (by omega) (by omega) (by omega) (by omega) (by omega)
theorem zi_wordAt_14_50 {g : mm_G} {l : Launch} (p0 : Int) (p1 : Int) (S0 : zz_S) (n : Nat) (hn : zz_end ≤ n) (G_S0 : zz_G S0) (hp0 : 0 ≤ p0 ∧ p0 ≤ 1500) (hp1 : 0 ≤ p1 ∧ p1 ≤ 1500) : ∀ N : Nat, (∀ (x3 : Int) (x4 : Int) (S : zz_S), zz_G S → zz_fr [] [] (fun _ _ => False) S0 S → (1 ≤ x3 ∧ x3 ≤ 101) → (1 ≤ x4 ∧ x4 ≤ 25) → (x3 = 101 ∨ x3 ≤ 20) → (34359738368 + (21 - x4).toNat) * 1099511627776 + 1099511627775 < N → zz_E g l zy_wordAt_14_50 zr_wordAt_14_50 (zz_QI n (zp_wordAt_14_50 p0 p1 S0)) S n 6 [some (.ref 1079), some (zi p0), some (zi p1), some (zi x3), some (zi x4)] [] 0 0) ∧ (∀ (x3 : Int) (x4 : Int) (x5 : Int) (x6 : Int) (S : zz_S), zz_G S → zz_fr [] [] (fun _ _ => False) S0 S → (1 ≤ x3 ∧ x3 ≤ 101) → (1 ≤ x4 ∧ x4 ≤ 24) → (0 ≤ x5 ∧ x5 ≤ 1500) → (0 ≤ x6 ∧ x6 ≤ 1099511627775) → (1 ≤ x4 ∧ x4 ≤ 25) → (x3 = 101 ∨ x3 ≤ 20) → (x4 < 21) → (x3 = 101 ∨ x3 ≤ 20) → (34359738368 + (21 - x4).toNat) * 1099511627776 + (17179869184 + (p1 - x5).toNat) < N → zz_E g l zy_wordAt_14_50 zr_wordAt_14_50 (zz_QI n (zp_wordAt_14_50 p0 p1 S0)) S n 25 [some (.ref 1079), some (zi p0), some (zi p1), some (zi x3), some (zi x4), some (zi x5), some (zl x6)] [] 0 0) := by
  intro N
  induction N with
  | zero => exact ⟨fun x3 x4 S _ _ _ _ _ h => absurd h (Nat.not_lt_zero _), fun x3 x4 x5 x6 S _ _ _ _ _ _ _ _ _ _ h => absurd h (Nat.not_lt_zero _)⟩
  | succ N ih =>
    exact ⟨fun x3 x4 S a b j0 j1 j2 hR => zb_wordAt_14_50_6 p0 p1 S0 n hn G_S0 hp0 hp1 x3 x4 S a b j0 j1 j2 _ rfl (fun x3 x4 x5 x6 S a b j0 j1 j2 j3 j4 j5 j6 j7 h => ih.2 x3 x4 x5 x6 S a b j0 j1 j2 j3 j4 j5 j6 j7 (Nat.lt_of_lt_of_le h (Nat.le_of_lt_succ hR))),
      fun x3 x4 x5 x6 S a b j0 j1 j2 j3 j4 j5 j6 j7 hR => zb_wordAt_14_50_25 p0 p1 S0 n hn G_S0 hp0 hp1 x3 x4 x5 x6 S a b j0 j1 j2 j3 j4 j5 j6 j7 _ rfl (fun x3 x4 S a b j0 j1 j2 h => ih.1 x3 x4 S a b j0 j1 j2 (Nat.lt_of_lt_of_le h (Nat.le_of_lt_succ hR))) (fun x3 x4 x5 x6 S a b j0 j1 j2 j3 j4 j5 j6 j7 h => ih.2 x3 x4 x5 x6 S a b j0 j1 j2 j3 j4 j5 j6 j7 (Nat.lt_of_lt_of_le h (Nat.le_of_lt_succ hR)))⟩
theorem zc_wordAt_14_50 {g : mm_G} {l : Launch} (p0 : Int) (p1 : Int) (S0 : zz_S) (n : Nat) (hn : zz_end ≤ n) (G_S0 : zz_G S0) (hp0 : 0 ≤ p0 ∧ p0 ≤ 1500) (hp1 : 0 ≤ p1 ∧ p1 ≤ 1500) : mm_Met g l zy_wordAt_14_50 zr_wordAt_14_50 [.ref 1079, zi p0, zi p1] (zz_M S0 n) n (zz_QI n (zp_wordAt_14_50 p0 p1 S0)) := by
  refine zz_enter (by decide) (Nat.le_of_ble_eq_true rfl) (zz_less (ls1 := [some (.ref 1079), some (zi p0), some (zi p1)]) ⟨rfl, ⟨rfl, ⟨rfl, trivial⟩⟩⟩ ?_)
  have F_S0 : zz_fr [] [] (fun _ _ => False) S0 S0 := zz_fr.refl
  have k6 : ∀ (x3 : Int) (x4 : Int) (S : zz_S), zz_G S → zz_fr [] [] (fun _ _ => False) S0 S → (1 ≤ x3 ∧ x3 ≤ 101) → (1 ≤ x4 ∧ x4 ≤ 25) → (x3 = 101 ∨ x3 ≤ 20) → zz_E g l zy_wordAt_14_50 zr_wordAt_14_50 (zz_QI n (zp_wordAt_14_50 p0 p1 S0)) S n 6 [some (.ref 1079), some (zi p0), some (zi p1), some (zi x3), some (zi x4)] [] 0 0 := fun x3 x4 S a b j0 j1 j2 => (zi_wordAt_14_50 (g := g) (l := l) p0 p1 S0 n hn G_S0 hp0 hp1 _).1 x3 x4 S a b j0 j1 j2 (Nat.lt_succ_self _)
  refine zz_bipush (by decide) zd_14_50_0 ?_
  refine zz_istore_n [some (.ref 1079), some (zi p0), some (zi p1), some (zi 101)] zd_14_50_2 (by decide) rfl ?_
  refine zz_iconst zd_14_50_3 ?_
  refine zz_istore [some (.ref 1079), some (zi p0), some (zi p1), some (zi 101), some (zi 1)] zd_14_50_4 (by decide) rfl ?_
  refine zz_less (ls1 := [some (.ref 1079), some (zi p0), some (zi p1), some (zi 101), some (zi 1)]) ⟨rfl, ⟨rfl, ⟨rfl, ⟨rfl, ⟨rfl, trivial⟩⟩⟩⟩⟩ ?_
  exact k6 101 1 S0 G_S0 F_S0 (by omega) (by omega) (by omega)
theorem zk_Md_344 : mm_Vl "TensorForgeModel" 344 11 2 zy_wordAt_14_50 := ⟨zyw_wordAt_14_50, (R_Md, F_Md, 69), rfl, mm_tb_1 2021 (by decide +kernel) rfl, mm_tb_1 2023 (by decide +kernel) rfl, mm_tb_s 110 (by decide +kernel) rfl⟩
theorem zd_14_49_138 : zz_D zy_advance_14_49 138 (.putfield 347) 3 141 := ⟨by decide +kernel, rfl⟩
theorem zd_14_49_141 : zz_B zy_advance_14_49 141 Instr.goto 288 144 := ⟨147, by decide +kernel, rfl, rfl⟩
theorem zd_14_49_93 : zz_D zy_advance_14_49 93 (.aload_n 0) 1 94 := ⟨by decide +kernel, rfl⟩
theorem zd_14_49_94 : zz_D zy_advance_14_49 94 (.getfield 76) 3 97 := ⟨by decide +kernel, rfl⟩
theorem zd_14_49_97 : zz_D zy_advance_14_49 97 (.aload_n 0) 1 98 := ⟨by decide +kernel, rfl⟩
theorem zd_14_49_98 : zz_D zy_advance_14_49 98 (.getfield 334) 3 101 := ⟨by decide +kernel, rfl⟩
theorem zd_14_49_101 : zz_D zy_advance_14_49 101 (.iaload) 1 102 := ⟨by decide +kernel, rfl⟩
theorem zd_14_49_102 : zz_D zy_advance_14_49 102 (.i2l) 1 103 := ⟨by decide +kernel, rfl⟩
theorem zd_14_49_103 : zz_D zy_advance_14_49 103 (.ldc2_w 340) 3 106 := ⟨by decide +kernel, rfl⟩
theorem zd_14_49_106 : zz_D zy_advance_14_49 106 (.ldc2_w 342) 3 109 := ⟨by decide +kernel, rfl⟩
theorem zd_14_49_109 : zz_D zy_advance_14_49 109 (.invokestatic 192) 3 112 := ⟨by decide +kernel, rfl⟩
theorem zd_14_49_112 : zz_B zy_advance_14_49 112 (Instr.ifCond .eq) 128 115 := ⟨16, by decide +kernel, rfl, rfl⟩
theorem zd_14_49_115 : zz_D zy_advance_14_49 115 (.aload_n 0) 1 116 := ⟨by decide +kernel, rfl⟩
theorem zd_14_49_116 : zz_D zy_advance_14_49 116 (.dup) 1 117 := ⟨by decide +kernel, rfl⟩
theorem zd_14_49_117 : zz_D zy_advance_14_49 117 (.getfield 334) 3 120 := ⟨by decide +kernel, rfl⟩
theorem zd_14_49_120 : zz_D zy_advance_14_49 120 (.iconst 1) 1 121 := ⟨by decide +kernel, rfl⟩
theorem zd_14_49_121 : zz_D zy_advance_14_49 121 (.iadd) 1 122 := ⟨by decide +kernel, rfl⟩
theorem zd_14_49_122 : zz_D zy_advance_14_49 122 (.putfield 334) 3 125 := ⟨by decide +kernel, rfl⟩
theorem zd_14_49_125 : zz_B zy_advance_14_49 125 Instr.goto 82 128 := ⟨(-43), by decide +kernel, rfl, rfl⟩
-- TensorForgeModel advance ()V
abbrev zr_advance_14_49 : Room := { frames := 1, cells := 0, slots := 0, locals := 20 }
def zp_advance_14_49  (S0 : zz_S) : zz_S → Prop := fun S => zz_G S ∧ zz_fr [(1079, 30), (1079, 31), (1079, 32)] [] (fun _ _ => False) S0 S ∧ (S 1079 32 ≥ S0 1079 32) ∧ ((S 1079 30 = 100 ∨ (1 ≤ S 1079 30 ∧ S 1079 30 ≤ 20)) → S 1079 32 > S0 1079 32) ∧ (S 1079 30 ≤ 101)
theorem zb_advance_14_49_0 {g : mm_G} {l : Launch}  (S0 : zz_S) (n : Nat) (hn : zz_end ≤ n) (G_S0 : zz_G S0)   (S : zz_S) (G_S : zz_G S) (F_S : zz_fr [(1079, 30), (1079, 31), (1079, 32)] [] (fun _ _ => False) S0 S) (i0_0 : S0 1079 32 < S0 1079 33) (i0_1 : S0 1099 ((S0 1079 32).toNat) = 32) (i0_2 : S 1079 32 ≥ S0 1079 32) (R : Nat) (hR : (51539607552 + (S0 1079 33 - S 1079 32).toNat) = R) (k0 : ∀  (S : zz_S), zz_G S → zz_fr [(1079, 30), (1079, 31), (1079, 32)] [] (fun _ _ => False) S0 S → (S0 1079 32 < S0 1079 33) → (S0 1099 ((S0 1079 32).toNat) = 32) → (S 1079 32 ≥ S0 1079 32) → (51539607552 + (S0 1079 33 - S 1079 32).toNat) < R → zz_E g l zy_advance_14_49 zr_advance_14_49 (zz_QV n (zp_advance_14_49  S0)) S n 0 [some (.ref 1079)] [] 0 0) (k82 : ∀ (x1 : Int) (S : zz_S), zz_G S → zz_fr [(1079, 30), (1079, 31), (1079, 32)] [] (fun _ _ => False) S0 S → (0 ≤ x1 ∧ x1 ≤ 1500) → (S0 1079 32 < S0 1079 33) → (x1 ≥ S0 1079 32) → (x1 < S 1079 32 ∨ (S 1079 32 = x1 ∧ x1 < S0 1079 33 ∧ 97 ≤ S0 1099 (S 1079 32).toNat ∧ S0 1099 (S 1079 32).toNat ≤ 122)) → (34359738368 + (S0 1079 33 - S 1079 32).toNat) < R → zz_E g l zy_advance_14_49 zr_advance_14_49 (zz_QV n (zp_advance_14_49  S0)) S n 82 [some (.ref 1079), some (zi x1)] [] 0 0) (k160 : ∀ (x1 : Int) (x3 : Int) (S : zz_S), zz_G S → zz_fr [(1079, 30), (1079, 31), (1079, 32)] [] (fun _ _ => False) S0 S → (0 ≤ x1 ∧ x1 ≤ 1500) → (0 ≤ x3 ∧ x3 ≤ 9999) → (S0 1079 32 < S0 1079 33) → (x1 ≥ S0 1079 32) → (x1 < S 1079 32 ∨ (S 1079 32 = x1 ∧ x1 < S0 1079 33 ∧ 48 ≤ S0 1099 (S 1079 32).toNat ∧ S0 1099 (S 1079 32).toNat ≤ 57)) → ((S 1079 32 = x1 ∧ x3 = 0) ∨ (S 1079 32 = x1 + 1 ∧ x3 ≤ 9) ∨ (S 1079 32 = x1 + 2 ∧ x3 ≤ 99) ∨ (S 1079 32 = x1 + 3 ∧ x3 ≤ 999) ∨ S 1079 32 ≥ x1 + 4) → (17179869184 + (S0 1079 33 - S 1079 32).toNat) < R → zz_E g l zy_advance_14_49 zr_advance_14_49 (zz_QV n (zp_advance_14_49  S0)) S n 160 [some (.ref 1079), some (zi x1), none, some (zi x3)] [] 0 0) : zz_E g l zy_advance_14_49 zr_advance_14_49 (zz_QV n (zp_advance_14_49  S0)) S n 0 [some (.ref 1079)] [] 0 0 := by
  refine zz_aload_n (x := 1079) rfl zd_14_49_0 ?_
  have g142 := zz_G.r G_S 1079 32 0 1500 rfl rfl
  refine zz_geti (z := S 1079 32) zd_14_49_1 zf_Md_334 zT_1079 rfl (zz_ltn hn rfl) rfl ?_
  refine zz_aload_n (x := 1079) rfl zd_14_49_4 ?_
  have g143 := zz_G.r G_S0 1079 33 0 1500 rfl rfl
  refine zz_geti (z := S0 1079 33) zd_14_49_5 zf_Md_337 zT_1079 rfl (zz_ltn hn rfl) (zz_rc F_S rfl rfl (fun h => h) rfl) ?_
  refine zz_icmp_ge (by omega) (by omega) zd_14_49_8 (fun c144 => ?_) (fun c144 => ?_)
  · refine zz_aload_n (x := 1079) rfl zd_14_49_38 ?_
    refine zz_geti (z := S 1079 32) zd_14_49_39 zf_Md_334 zT_1079 rfl (zz_ltn hn rfl) rfl ?_
    refine zz_istore_n [some (.ref 1079), some (zi (S 1079 32))] zd_14_49_42 (by decide) rfl ?_
    refine zz_aload_n (x := 1079) rfl zd_14_49_43 ?_
    refine zz_geti (z := S 1079 32) zd_14_49_44 zf_Md_334 zT_1079 rfl (zz_ltn hn rfl) rfl ?_
    refine zz_aload_n (x := 1079) rfl zd_14_49_47 ?_
    refine zz_geti (z := S0 1079 33) zd_14_49_48 zf_Md_337 zT_1079 rfl (zz_ltn hn rfl) (zz_rc F_S rfl rfl (fun h => h) rfl) ?_
    refine zz_icmp_ge (by omega) (by omega) zd_14_49_51 (fun c145 => ?_) (fun c145 => ?_)
    · refine zz_iconst zd_14_49_66 ?_
      refine zz_istore_n [some (.ref 1079), some (zi (S 1079 32)), some (zi 0)] zd_14_49_67 (by decide) rfl ?_
      refine zz_iload_n (x := 0) rfl zd_14_49_68 ?_
      refine zz_i2l (by omega) zd_14_49_69 ?_
      refine zz_ldc2 (z := 97) zq_Md_340 (by decide) zd_14_49_70 ?_
      refine zz_ldc2 (z := 122) zq_Md_342 (by decide) zd_14_49_73 ?_
      refine zz_callSI [zl 0, zl 97, zl 122] zd_14_49_76 zk_Md_192 rfl rfl ⟨Nat.le_of_ble_eq_true rfl, Nat.le_of_ble_eq_true rfl⟩ ⟨rfl, rfl⟩ (Nat.zero_le _) (Nat.zero_le _) (zc_in_14_4 0 97 122 S n hn G_S (by omega) (by omega) (by omega)) (fun v147 S146 hP => ?_)
      obtain ⟨rfl, o148, o149⟩ := hP
      rcases (by omega : v147 = 0 ∨ v147 = 1) with rfl | rfl
      · refine zz_if_eq (by omega) zd_14_49_79 (fun c150 => ?_) (fun c150 => ?_)
        · refine zz_iload_n (x := 0) rfl zd_14_49_144 ?_
          refine zz_i2l (by omega) zd_14_49_145 ?_
          refine zz_ldc2 (z := 48) zq_Md_350 (by decide) zd_14_49_146 ?_
          refine zz_ldc2 (z := 57) zq_Md_352 (by decide) zd_14_49_149 ?_
          refine zz_callSI [zl 0, zl 48, zl 57] zd_14_49_152 zk_Md_192 rfl rfl ⟨Nat.le_of_ble_eq_true rfl, Nat.le_of_ble_eq_true rfl⟩ ⟨rfl, rfl⟩ (Nat.zero_le _) (Nat.zero_le _) (zc_in_14_4 0 48 57 S n hn G_S (by omega) (by omega) (by omega)) (fun v152 S151 hP => ?_)
          obtain ⟨rfl, o153, o154⟩ := hP
          rcases (by omega : v152 = 0 ∨ v152 = 1) with rfl | rfl
          · refine zz_if_eq (by omega) zd_14_49_155 (fun c155 => ?_) (fun c155 => ?_)
            · refine zz_aload_n (x := 1079) rfl zd_14_49_267 ?_
              refine zz_aload_n (x := 1079) rfl zd_14_49_268 ?_
              refine zz_geti (z := S 1079 32) zd_14_49_269 zf_Md_334 zT_1079 rfl (zz_ltn hn rfl) rfl ?_
              refine zz_aload_n (x := 1079) rfl zd_14_49_272 ?_
              refine zz_geti (z := S0 1079 33) zd_14_49_273 zf_Md_337 zT_1079 rfl (zz_ltn hn rfl) (zz_rc F_S rfl rfl (fun h => h) rfl) ?_
              refine zz_icmp_ge (by omega) (by omega) zd_14_49_276 (fun c156 => ?_) (fun c156 => ?_)
              · refine zz_iconst zd_14_49_284 ?_
                refine zz_puti zd_14_49_285 zf_Md_347 zT_1079 rfl (zz_ltn hn rfl) (fun S157 qS157 => ?_)
                have G_S157 := zz_G.put G_S qS157 0 102 rfl (by omega)
                have F_S157 := zz_fr.puts F_S qS157 rfl
                have e158 : S157 1079 32 = S 1079 32 := (zz_ro qS157 (fun h => absurd h.2 (by decide)) rfl)
                have e159 : S157 1079 30 = 0 := (zz_rs qS157)
                exact zz_vret zd_14_49_288 rfl (Nat.zero_le _) (Nat.zero_le _) ⟨_, rfl, G_S157, F_S157, by omega, by omega, by omega⟩
              · refine zz_bipush (by decide) zd_14_49_279 ?_
                refine zz_goto zd_14_49_281 ?_
                refine zz_puti zd_14_49_285 zf_Md_347 zT_1079 rfl (zz_ltn hn rfl) (fun S160 qS160 => ?_)
                have G_S160 := zz_G.put G_S qS160 0 102 rfl (by omega)
                have F_S160 := zz_fr.puts F_S qS160 rfl
                have e161 : S160 1079 32 = S 1079 32 := (zz_ro qS160 (fun h => absurd h.2 (by decide)) rfl)
                have e162 : S160 1079 30 = 101 := (zz_rs qS160)
                exact zz_vret zd_14_49_288 rfl (Nat.zero_le _) (Nat.zero_le _) ⟨_, rfl, G_S160, F_S160, by omega, by omega, by omega⟩
            · exfalso; omega
          · exfalso; omega
        · exfalso; omega
      · exfalso; omega
    · refine zz_aload_n (x := 1079) rfl zd_14_49_54 ?_
      refine zz_getr (kd := 0) (z := 1099) zd_14_49_55 zf_Md_76 zT_1079 rfl (zz_ltn hn rfl) (zz_G.eq G_S 1079 27 1099 rfl rfl) (by decide) 1099 rfl ?_
      refine zz_aload_n (x := 1079) rfl zd_14_49_58 ?_
      refine zz_geti (z := S 1079 32) zd_14_49_59 zf_Md_334 zT_1079 rfl (zz_ltn hn rfl) rfl ?_
      have g163 := zz_G.r G_S0 1099 ((S 1079 32).toNat) 0 255 rfl rfl
      refine zz_iald (z := S0 1099 ((S 1079 32).toNat)) zd_14_49_62 zT_1099 rfl (zz_ltn hn rfl) (by decide) (by omega) (zz_rc F_S (zz_nc1 rfl) rfl (fun h => h) rfl) ?_
      refine zz_goto zd_14_49_63 ?_
      refine zz_istore_n [some (.ref 1079), some (zi (S 1079 32)), some (zi (S0 1099 ((S 1079 32).toNat)))] zd_14_49_67 (by decide) rfl ?_
      refine zz_iload_n (x := S0 1099 ((S 1079 32).toNat)) rfl zd_14_49_68 ?_
      refine zz_i2l (by omega) zd_14_49_69 ?_
      refine zz_ldc2 (z := 97) zq_Md_340 (by decide) zd_14_49_70 ?_
      refine zz_ldc2 (z := 122) zq_Md_342 (by decide) zd_14_49_73 ?_
      refine zz_callSI [zl (S0 1099 ((S 1079 32).toNat)), zl 97, zl 122] zd_14_49_76 zk_Md_192 rfl rfl ⟨Nat.le_of_ble_eq_true rfl, Nat.le_of_ble_eq_true rfl⟩ ⟨rfl, rfl⟩ (Nat.zero_le _) (Nat.zero_le _) (zc_in_14_4 (S0 1099 ((S 1079 32).toNat)) 97 122 S n hn G_S (by omega) (by omega) (by omega)) (fun v165 S164 hP => ?_)
      obtain ⟨rfl, o166, o167⟩ := hP
      rcases (by omega : v165 = 0 ∨ v165 = 1) with rfl | rfl
      · refine zz_if_eq (by omega) zd_14_49_79 (fun c168 => ?_) (fun c168 => ?_)
        · refine zz_iload_n (x := S0 1099 ((S 1079 32).toNat)) rfl zd_14_49_144 ?_
          refine zz_i2l (by omega) zd_14_49_145 ?_
          refine zz_ldc2 (z := 48) zq_Md_350 (by decide) zd_14_49_146 ?_
          refine zz_ldc2 (z := 57) zq_Md_352 (by decide) zd_14_49_149 ?_
          refine zz_callSI [zl (S0 1099 ((S 1079 32).toNat)), zl 48, zl 57] zd_14_49_152 zk_Md_192 rfl rfl ⟨Nat.le_of_ble_eq_true rfl, Nat.le_of_ble_eq_true rfl⟩ ⟨rfl, rfl⟩ (Nat.zero_le _) (Nat.zero_le _) (zc_in_14_4 (S0 1099 ((S 1079 32).toNat)) 48 57 S n hn G_S (by omega) (by omega) (by omega)) (fun v170 S169 hP => ?_)
          obtain ⟨rfl, o171, o172⟩ := hP
          rcases (by omega : v170 = 0 ∨ v170 = 1) with rfl | rfl
          · refine zz_if_eq (by omega) zd_14_49_155 (fun c173 => ?_) (fun c173 => ?_)
            · refine zz_aload_n (x := 1079) rfl zd_14_49_267 ?_
              refine zz_aload_n (x := 1079) rfl zd_14_49_268 ?_
              refine zz_geti (z := S 1079 32) zd_14_49_269 zf_Md_334 zT_1079 rfl (zz_ltn hn rfl) rfl ?_
              refine zz_aload_n (x := 1079) rfl zd_14_49_272 ?_
              refine zz_geti (z := S0 1079 33) zd_14_49_273 zf_Md_337 zT_1079 rfl (zz_ltn hn rfl) (zz_rc F_S rfl rfl (fun h => h) rfl) ?_
              refine zz_icmp_ge (by omega) (by omega) zd_14_49_276 (fun c174 => ?_) (fun c174 => ?_)
              · refine zz_iconst zd_14_49_284 ?_
                refine zz_puti zd_14_49_285 zf_Md_347 zT_1079 rfl (zz_ltn hn rfl) (fun S175 qS175 => ?_)
                have G_S175 := zz_G.put G_S qS175 0 102 rfl (by omega)
                have F_S175 := zz_fr.puts F_S qS175 rfl
                have e176 : S175 1079 32 = S 1079 32 := (zz_ro qS175 (fun h => absurd h.2 (by decide)) rfl)
                have e177 : S175 1079 30 = 0 := (zz_rs qS175)
                exact zz_vret zd_14_49_288 rfl (Nat.zero_le _) (Nat.zero_le _) ⟨_, rfl, G_S175, F_S175, by omega, by omega, by omega⟩
              · refine zz_bipush (by decide) zd_14_49_279 ?_
                refine zz_goto zd_14_49_281 ?_
                refine zz_puti zd_14_49_285 zf_Md_347 zT_1079 rfl (zz_ltn hn rfl) (fun S178 qS178 => ?_)
                have G_S178 := zz_G.put G_S qS178 0 102 rfl (by omega)
                have F_S178 := zz_fr.puts F_S qS178 rfl
                have e179 : S178 1079 32 = S 1079 32 := (zz_ro qS178 (fun h => absurd h.2 (by decide)) rfl)
                have e180 : S178 1079 30 = 101 := (zz_rs qS178)
                exact zz_vret zd_14_49_288 rfl (Nat.zero_le _) (Nat.zero_le _) ⟨_, rfl, G_S178, F_S178, by omega, by omega, by omega⟩
            · exfalso; omega
          · refine zz_if_eq (by omega) zd_14_49_155 (fun c181 => ?_) (fun c181 => ?_)
            · exfalso; omega
            · refine zz_iconst zd_14_49_158 ?_
              refine zz_istore_n [some (.ref 1079), some (zi (S 1079 32)), some (zi (S0 1099 ((S 1079 32).toNat))), some (zi 0)] zd_14_49_159 (by decide) rfl ?_
              refine zz_less (ls1 := [some (.ref 1079), some (zi (S 1079 32)), none, some (zi 0)]) ⟨rfl, ⟨rfl, ⟨rfl, trivial⟩⟩⟩ ?_
              exact k160 (S 1079 32) 0 S G_S F_S (by omega) (by omega) (by omega) (by omega) (by omega) (by omega) (by omega)
        · exfalso; omega
      · refine zz_if_eq (by omega) zd_14_49_79 (fun c182 => ?_) (fun c182 => ?_)
        · exfalso; omega
        · refine zz_less (ls1 := [some (.ref 1079), some (zi (S 1079 32))]) ⟨rfl, ⟨rfl, trivial⟩⟩ ?_
          exact k82 (S 1079 32) S G_S F_S (by omega) (by omega) (by omega) (by omega) (by omega)
  · refine zz_aload_n (x := 1079) rfl zd_14_49_11 ?_
    refine zz_getr (kd := 0) (z := 1099) zd_14_49_12 zf_Md_76 zT_1079 rfl (zz_ltn hn rfl) (zz_G.eq G_S 1079 27 1099 rfl rfl) (by decide) 1099 rfl ?_
    refine zz_aload_n (x := 1079) rfl zd_14_49_15 ?_
    refine zz_geti (z := S 1079 32) zd_14_49_16 zf_Md_334 zT_1079 rfl (zz_ltn hn rfl) rfl ?_
    have g183 := zz_G.r G_S0 1099 ((S 1079 32).toNat) 0 255 rfl rfl
    refine zz_iald (z := S0 1099 ((S 1079 32).toNat)) zd_14_49_19 zT_1099 rfl (zz_ltn hn rfl) (by decide) (by omega) (zz_rc F_S (zz_nc1 rfl) rfl (fun h => h) rfl) ?_
    refine zz_bipush (by decide) zd_14_49_20 ?_
    refine zz_icmp_ne (by omega) (by omega) zd_14_49_22 (fun c184 => ?_) (fun c184 => ?_)
    · refine zz_aload_n (x := 1079) rfl zd_14_49_38 ?_
      refine zz_geti (z := S 1079 32) zd_14_49_39 zf_Md_334 zT_1079 rfl (zz_ltn hn rfl) rfl ?_
      refine zz_istore_n [some (.ref 1079), some (zi (S 1079 32))] zd_14_49_42 (by decide) rfl ?_
      refine zz_aload_n (x := 1079) rfl zd_14_49_43 ?_
      refine zz_geti (z := S 1079 32) zd_14_49_44 zf_Md_334 zT_1079 rfl (zz_ltn hn rfl) rfl ?_
      refine zz_aload_n (x := 1079) rfl zd_14_49_47 ?_
      refine zz_geti (z := S0 1079 33) zd_14_49_48 zf_Md_337 zT_1079 rfl (zz_ltn hn rfl) (zz_rc F_S rfl rfl (fun h => h) rfl) ?_
      refine zz_icmp_ge (by omega) (by omega) zd_14_49_51 (fun c185 => ?_) (fun c185 => ?_)
      · refine zz_iconst zd_14_49_66 ?_
        refine zz_istore_n [some (.ref 1079), some (zi (S 1079 32)), some (zi 0)] zd_14_49_67 (by decide) rfl ?_
        refine zz_iload_n (x := 0) rfl zd_14_49_68 ?_
        refine zz_i2l (by omega) zd_14_49_69 ?_
        refine zz_ldc2 (z := 97) zq_Md_340 (by decide) zd_14_49_70 ?_
        refine zz_ldc2 (z := 122) zq_Md_342 (by decide) zd_14_49_73 ?_
        refine zz_callSI [zl 0, zl 97, zl 122] zd_14_49_76 zk_Md_192 rfl rfl ⟨Nat.le_of_ble_eq_true rfl, Nat.le_of_ble_eq_true rfl⟩ ⟨rfl, rfl⟩ (Nat.zero_le _) (Nat.zero_le _) (zc_in_14_4 0 97 122 S n hn G_S (by omega) (by omega) (by omega)) (fun v187 S186 hP => ?_)
        obtain ⟨rfl, o188, o189⟩ := hP
        rcases (by omega : v187 = 0 ∨ v187 = 1) with rfl | rfl
        · refine zz_if_eq (by omega) zd_14_49_79 (fun c190 => ?_) (fun c190 => ?_)
          · refine zz_iload_n (x := 0) rfl zd_14_49_144 ?_
            refine zz_i2l (by omega) zd_14_49_145 ?_
            refine zz_ldc2 (z := 48) zq_Md_350 (by decide) zd_14_49_146 ?_
            refine zz_ldc2 (z := 57) zq_Md_352 (by decide) zd_14_49_149 ?_
            refine zz_callSI [zl 0, zl 48, zl 57] zd_14_49_152 zk_Md_192 rfl rfl ⟨Nat.le_of_ble_eq_true rfl, Nat.le_of_ble_eq_true rfl⟩ ⟨rfl, rfl⟩ (Nat.zero_le _) (Nat.zero_le _) (zc_in_14_4 0 48 57 S n hn G_S (by omega) (by omega) (by omega)) (fun v192 S191 hP => ?_)
            obtain ⟨rfl, o193, o194⟩ := hP
            rcases (by omega : v192 = 0 ∨ v192 = 1) with rfl | rfl
            · refine zz_if_eq (by omega) zd_14_49_155 (fun c195 => ?_) (fun c195 => ?_)
              · refine zz_aload_n (x := 1079) rfl zd_14_49_267 ?_
                refine zz_aload_n (x := 1079) rfl zd_14_49_268 ?_
                refine zz_geti (z := S 1079 32) zd_14_49_269 zf_Md_334 zT_1079 rfl (zz_ltn hn rfl) rfl ?_
                refine zz_aload_n (x := 1079) rfl zd_14_49_272 ?_
                refine zz_geti (z := S0 1079 33) zd_14_49_273 zf_Md_337 zT_1079 rfl (zz_ltn hn rfl) (zz_rc F_S rfl rfl (fun h => h) rfl) ?_
                refine zz_icmp_ge (by omega) (by omega) zd_14_49_276 (fun c196 => ?_) (fun c196 => ?_)
                · refine zz_iconst zd_14_49_284 ?_
                  refine zz_puti zd_14_49_285 zf_Md_347 zT_1079 rfl (zz_ltn hn rfl) (fun S197 qS197 => ?_)
                  have G_S197 := zz_G.put G_S qS197 0 102 rfl (by omega)
                  have F_S197 := zz_fr.puts F_S qS197 rfl
                  have e198 : S197 1079 32 = S 1079 32 := (zz_ro qS197 (fun h => absurd h.2 (by decide)) rfl)
                  have e199 : S197 1079 30 = 0 := (zz_rs qS197)
                  exact zz_vret zd_14_49_288 rfl (Nat.zero_le _) (Nat.zero_le _) ⟨_, rfl, G_S197, F_S197, by omega, by omega, by omega⟩
                · refine zz_bipush (by decide) zd_14_49_279 ?_
                  refine zz_goto zd_14_49_281 ?_
                  refine zz_puti zd_14_49_285 zf_Md_347 zT_1079 rfl (zz_ltn hn rfl) (fun S200 qS200 => ?_)
                  have G_S200 := zz_G.put G_S qS200 0 102 rfl (by omega)
                  have F_S200 := zz_fr.puts F_S qS200 rfl
                  have e201 : S200 1079 32 = S 1079 32 := (zz_ro qS200 (fun h => absurd h.2 (by decide)) rfl)
                  have e202 : S200 1079 30 = 101 := (zz_rs qS200)
                  exact zz_vret zd_14_49_288 rfl (Nat.zero_le _) (Nat.zero_le _) ⟨_, rfl, G_S200, F_S200, by omega, by omega, by omega⟩
              · exfalso; omega
            · exfalso; omega
          · exfalso; omega
        · exfalso; omega
      · refine zz_aload_n (x := 1079) rfl zd_14_49_54 ?_
        refine zz_getr (kd := 0) (z := 1099) zd_14_49_55 zf_Md_76 zT_1079 rfl (zz_ltn hn rfl) (zz_G.eq G_S 1079 27 1099 rfl rfl) (by decide) 1099 rfl ?_
        refine zz_aload_n (x := 1079) rfl zd_14_49_58 ?_
        refine zz_geti (z := S 1079 32) zd_14_49_59 zf_Md_334 zT_1079 rfl (zz_ltn hn rfl) rfl ?_
        refine zz_iald (z := S0 1099 ((S 1079 32).toNat)) zd_14_49_62 zT_1099 rfl (zz_ltn hn rfl) (by decide) (by omega) (zz_rc F_S (zz_nc1 rfl) rfl (fun h => h) rfl) ?_
        refine zz_goto zd_14_49_63 ?_
        refine zz_istore_n [some (.ref 1079), some (zi (S 1079 32)), some (zi (S0 1099 ((S 1079 32).toNat)))] zd_14_49_67 (by decide) rfl ?_
        refine zz_iload_n (x := S0 1099 ((S 1079 32).toNat)) rfl zd_14_49_68 ?_
        refine zz_i2l (by omega) zd_14_49_69 ?_
        refine zz_ldc2 (z := 97) zq_Md_340 (by decide) zd_14_49_70 ?_
        refine zz_ldc2 (z := 122) zq_Md_342 (by decide) zd_14_49_73 ?_
        refine zz_callSI [zl (S0 1099 ((S 1079 32).toNat)), zl 97, zl 122] zd_14_49_76 zk_Md_192 rfl rfl ⟨Nat.le_of_ble_eq_true rfl, Nat.le_of_ble_eq_true rfl⟩ ⟨rfl, rfl⟩ (Nat.zero_le _) (Nat.zero_le _) (zc_in_14_4 (S0 1099 ((S 1079 32).toNat)) 97 122 S n hn G_S (by omega) (by omega) (by omega)) (fun v204 S203 hP => ?_)
        obtain ⟨rfl, o205, o206⟩ := hP
        rcases (by omega : v204 = 0 ∨ v204 = 1) with rfl | rfl
        · refine zz_if_eq (by omega) zd_14_49_79 (fun c207 => ?_) (fun c207 => ?_)
          · refine zz_iload_n (x := S0 1099 ((S 1079 32).toNat)) rfl zd_14_49_144 ?_
            refine zz_i2l (by omega) zd_14_49_145 ?_
            refine zz_ldc2 (z := 48) zq_Md_350 (by decide) zd_14_49_146 ?_
            refine zz_ldc2 (z := 57) zq_Md_352 (by decide) zd_14_49_149 ?_
            refine zz_callSI [zl (S0 1099 ((S 1079 32).toNat)), zl 48, zl 57] zd_14_49_152 zk_Md_192 rfl rfl ⟨Nat.le_of_ble_eq_true rfl, Nat.le_of_ble_eq_true rfl⟩ ⟨rfl, rfl⟩ (Nat.zero_le _) (Nat.zero_le _) (zc_in_14_4 (S0 1099 ((S 1079 32).toNat)) 48 57 S n hn G_S (by omega) (by omega) (by omega)) (fun v209 S208 hP => ?_)
            obtain ⟨rfl, o210, o211⟩ := hP
            rcases (by omega : v209 = 0 ∨ v209 = 1) with rfl | rfl
            · refine zz_if_eq (by omega) zd_14_49_155 (fun c212 => ?_) (fun c212 => ?_)
              · refine zz_aload_n (x := 1079) rfl zd_14_49_267 ?_
                refine zz_aload_n (x := 1079) rfl zd_14_49_268 ?_
                refine zz_geti (z := S 1079 32) zd_14_49_269 zf_Md_334 zT_1079 rfl (zz_ltn hn rfl) rfl ?_
                refine zz_aload_n (x := 1079) rfl zd_14_49_272 ?_
                refine zz_geti (z := S0 1079 33) zd_14_49_273 zf_Md_337 zT_1079 rfl (zz_ltn hn rfl) (zz_rc F_S rfl rfl (fun h => h) rfl) ?_
                refine zz_icmp_ge (by omega) (by omega) zd_14_49_276 (fun c213 => ?_) (fun c213 => ?_)
                · refine zz_iconst zd_14_49_284 ?_
                  refine zz_puti zd_14_49_285 zf_Md_347 zT_1079 rfl (zz_ltn hn rfl) (fun S214 qS214 => ?_)
                  have G_S214 := zz_G.put G_S qS214 0 102 rfl (by omega)
                  have F_S214 := zz_fr.puts F_S qS214 rfl
                  have e215 : S214 1079 32 = S 1079 32 := (zz_ro qS214 (fun h => absurd h.2 (by decide)) rfl)
                  have e216 : S214 1079 30 = 0 := (zz_rs qS214)
                  exact zz_vret zd_14_49_288 rfl (Nat.zero_le _) (Nat.zero_le _) ⟨_, rfl, G_S214, F_S214, by omega, by omega, by omega⟩
                · refine zz_bipush (by decide) zd_14_49_279 ?_
                  refine zz_goto zd_14_49_281 ?_
                  refine zz_puti zd_14_49_285 zf_Md_347 zT_1079 rfl (zz_ltn hn rfl) (fun S217 qS217 => ?_)
                  have G_S217 := zz_G.put G_S qS217 0 102 rfl (by omega)
                  have F_S217 := zz_fr.puts F_S qS217 rfl
                  have e218 : S217 1079 32 = S 1079 32 := (zz_ro qS217 (fun h => absurd h.2 (by decide)) rfl)
                  have e219 : S217 1079 30 = 101 := (zz_rs qS217)
                  exact zz_vret zd_14_49_288 rfl (Nat.zero_le _) (Nat.zero_le _) ⟨_, rfl, G_S217, F_S217, by omega, by omega, by omega⟩
              · exfalso; omega
            · refine zz_if_eq (by omega) zd_14_49_155 (fun c220 => ?_) (fun c220 => ?_)
              · exfalso; omega
              · refine zz_iconst zd_14_49_158 ?_
                refine zz_istore_n [some (.ref 1079), some (zi (S 1079 32)), some (zi (S0 1099 ((S 1079 32).toNat))), some (zi 0)] zd_14_49_159 (by decide) rfl ?_
                refine zz_less (ls1 := [some (.ref 1079), some (zi (S 1079 32)), none, some (zi 0)]) ⟨rfl, ⟨rfl, ⟨rfl, trivial⟩⟩⟩ ?_
                exact k160 (S 1079 32) 0 S G_S F_S (by omega) (by omega) (by omega) (by omega) (by omega) (by omega) (by omega)
          · exfalso; omega
        · refine zz_if_eq (by omega) zd_14_49_79 (fun c221 => ?_) (fun c221 => ?_)
          · exfalso; omega
          · refine zz_less (ls1 := [some (.ref 1079), some (zi (S 1079 32))]) ⟨rfl, ⟨rfl, trivial⟩⟩ ?_
            exact k82 (S 1079 32) S G_S F_S (by omega) (by omega) (by omega) (by omega) (by omega)
    · refine zz_aload_n (x := 1079) rfl zd_14_49_25 ?_
      refine zz_dup rfl zd_14_49_26 ?_
      refine zz_geti (z := S 1079 32) zd_14_49_27 zf_Md_334 zT_1079 rfl (zz_ltn hn rfl) rfl ?_
      refine zz_iconst zd_14_49_30 ?_
      refine zz_iadd zd_14_49_31 ?_
      refine zz_puti zd_14_49_32 zf_Md_334 zT_1079 rfl (zz_ltn hn rfl) (fun S222 qS222 => ?_)
      have G_S222 := zz_G.put G_S qS222 0 1500 rfl (by omega)
      have F_S222 := zz_fr.puts F_S qS222 rfl
      refine zz_goto zd_14_49_35 ?_
      have e223 : S222 1079 32 = (S 1079 32) + 1 := (zz_rs qS222)
      exact k0 S222 G_S222 F_S222 (by omega) (by omega) (by omega) (by omega)
theorem zb_advance_14_49_82 {g : mm_G} {l : Launch}  (S0 : zz_S) (n : Nat) (hn : zz_end ≤ n) (G_S0 : zz_G S0)  (x1 : Int) (S : zz_S) (G_S : zz_G S) (F_S : zz_fr [(1079, 30), (1079, 31), (1079, 32)] [] (fun _ _ => False) S0 S) (i82_0 : 0 ≤ x1 ∧ x1 ≤ 1500) (i82_1 : S0 1079 32 < S0 1079 33) (i82_2 : x1 ≥ S0 1079 32) (i82_3 : x1 < S 1079 32 ∨ (S 1079 32 = x1 ∧ x1 < S0 1079 33 ∧ 97 ≤ S0 1099 (S 1079 32).toNat ∧ S0 1099 (S 1079 32).toNat ≤ 122)) (R : Nat) (hR : (34359738368 + (S0 1079 33 - S 1079 32).toNat) = R) (k82 : ∀ (x1 : Int) (S : zz_S), zz_G S → zz_fr [(1079, 30), (1079, 31), (1079, 32)] [] (fun _ _ => False) S0 S → (0 ≤ x1 ∧ x1 ≤ 1500) → (S0 1079 32 < S0 1079 33) → (x1 ≥ S0 1079 32) → (x1 < S 1079 32 ∨ (S 1079 32 = x1 ∧ x1 < S0 1079 33 ∧ 97 ≤ S0 1099 (S 1079 32).toNat ∧ S0 1099 (S 1079 32).toNat ≤ 122)) → (34359738368 + (S0 1079 33 - S 1079 32).toNat) < R → zz_E g l zy_advance_14_49 zr_advance_14_49 (zz_QV n (zp_advance_14_49  S0)) S n 82 [some (.ref 1079), some (zi x1)] [] 0 0) : zz_E g l zy_advance_14_49 zr_advance_14_49 (zz_QV n (zp_advance_14_49  S0)) S n 82 [some (.ref 1079), some (zi x1)] [] 0 0 := by
  refine zz_aload_n (x := 1079) rfl zd_14_49_82 ?_
  have g116 := zz_G.r G_S 1079 32 0 1500 rfl rfl
  refine zz_geti (z := S 1079 32) zd_14_49_83 zf_Md_334 zT_1079 rfl (zz_ltn hn rfl) rfl ?_
  refine zz_aload_n (x := 1079) rfl zd_14_49_86 ?_
  have g117 := zz_G.r G_S0 1079 33 0 1500 rfl rfl
  refine zz_geti (z := S0 1079 33) zd_14_49_87 zf_Md_337 zT_1079 rfl (zz_ltn hn rfl) (zz_rc F_S rfl rfl (fun h => h) rfl) ?_
  refine zz_icmp_ge (by omega) (by omega) zd_14_49_90 (fun c118 => ?_) (fun c118 => ?_)
  · refine zz_aload_n (x := 1079) rfl zd_14_49_128 ?_
    refine zz_aload_n (x := 1079) rfl zd_14_49_129 ?_
    refine zz_iload_n (x := x1) rfl zd_14_49_130 ?_
    refine zz_aload_n (x := 1079) rfl zd_14_49_131 ?_
    refine zz_geti (z := S 1079 32) zd_14_49_132 zf_Md_334 zT_1079 rfl (zz_ltn hn rfl) rfl ?_
    refine zz_callVI [zi x1, zi (S 1079 32)] zd_14_49_135 zk_Md_344 zT_1079 (zz_ltn hn rfl) rfl rfl ⟨Nat.le_of_ble_eq_true rfl, Nat.le_of_ble_eq_true rfl⟩ ⟨rfl, rfl⟩ (Nat.zero_le _) (Nat.zero_le _) (zc_wordAt_14_50 x1 (S 1079 32) S n hn G_S (by omega) (by omega)) (fun v120 S119 hP => ?_)
    obtain ⟨rfl, o121, o122⟩ := hP
    refine zz_puti zd_14_49_138 zf_Md_347 zT_1079 rfl (zz_ltn hn rfl) (fun S123 qS123 => ?_)
    have G_S123 := zz_G.put G_S qS123 0 102 rfl (by omega)
    have F_S123 := zz_fr.puts F_S qS123 rfl
    refine zz_goto zd_14_49_141 ?_
    have e124 : S123 1079 32 = S 1079 32 := (zz_ro qS123 (fun h => absurd h.2 (by decide)) rfl)
    have e125 : S123 1079 30 = v120 := (zz_rs qS123)
    exact zz_vret zd_14_49_288 rfl (Nat.zero_le _) (Nat.zero_le _) ⟨_, rfl, G_S123, F_S123, by omega, by omega, by omega⟩
  · refine zz_aload_n (x := 1079) rfl zd_14_49_93 ?_
    refine zz_getr (kd := 0) (z := 1099) zd_14_49_94 zf_Md_76 zT_1079 rfl (zz_ltn hn rfl) (zz_G.eq G_S 1079 27 1099 rfl rfl) (by decide) 1099 rfl ?_
    refine zz_aload_n (x := 1079) rfl zd_14_49_97 ?_
    refine zz_geti (z := S 1079 32) zd_14_49_98 zf_Md_334 zT_1079 rfl (zz_ltn hn rfl) rfl ?_
    have g126 := zz_G.r G_S0 1099 ((S 1079 32).toNat) 0 255 rfl rfl
    refine zz_iald (z := S0 1099 ((S 1079 32).toNat)) zd_14_49_101 zT_1099 rfl (zz_ltn hn rfl) (by decide) (by omega) (zz_rc F_S (zz_nc1 rfl) rfl (fun h => h) rfl) ?_
    refine zz_i2l (by omega) zd_14_49_102 ?_
    refine zz_ldc2 (z := 97) zq_Md_340 (by decide) zd_14_49_103 ?_
    refine zz_ldc2 (z := 122) zq_Md_342 (by decide) zd_14_49_106 ?_
    refine zz_callSI [zl (S0 1099 ((S 1079 32).toNat)), zl 97, zl 122] zd_14_49_109 zk_Md_192 rfl rfl ⟨Nat.le_of_ble_eq_true rfl, Nat.le_of_ble_eq_true rfl⟩ ⟨rfl, rfl⟩ (Nat.zero_le _) (Nat.zero_le _) (zc_in_14_4 (S0 1099 ((S 1079 32).toNat)) 97 122 S n hn G_S (by omega) (by omega) (by omega)) (fun v128 S127 hP => ?_)
    obtain ⟨rfl, o129, o130⟩ := hP
    rcases (by omega : v128 = 0 ∨ v128 = 1) with rfl | rfl
    · refine zz_if_eq (by omega) zd_14_49_112 (fun c131 => ?_) (fun c131 => ?_)
      · refine zz_aload_n (x := 1079) rfl zd_14_49_128 ?_
        refine zz_aload_n (x := 1079) rfl zd_14_49_129 ?_
        refine zz_iload_n (x := x1) rfl zd_14_49_130 ?_
        refine zz_aload_n (x := 1079) rfl zd_14_49_131 ?_
        refine zz_geti (z := S 1079 32) zd_14_49_132 zf_Md_334 zT_1079 rfl (zz_ltn hn rfl) rfl ?_
        refine zz_callVI [zi x1, zi (S 1079 32)] zd_14_49_135 zk_Md_344 zT_1079 (zz_ltn hn rfl) rfl rfl ⟨Nat.le_of_ble_eq_true rfl, Nat.le_of_ble_eq_true rfl⟩ ⟨rfl, rfl⟩ (Nat.zero_le _) (Nat.zero_le _) (zc_wordAt_14_50 x1 (S 1079 32) S n hn G_S (by omega) (by omega)) (fun v133 S132 hP => ?_)
        obtain ⟨rfl, o134, o135⟩ := hP
        refine zz_puti zd_14_49_138 zf_Md_347 zT_1079 rfl (zz_ltn hn rfl) (fun S136 qS136 => ?_)
        have G_S136 := zz_G.put G_S qS136 0 102 rfl (by omega)
        have F_S136 := zz_fr.puts F_S qS136 rfl
        refine zz_goto zd_14_49_141 ?_
        have e137 : S136 1079 32 = S 1079 32 := (zz_ro qS136 (fun h => absurd h.2 (by decide)) rfl)
        have e138 : S136 1079 30 = v133 := (zz_rs qS136)
        exact zz_vret zd_14_49_288 rfl (Nat.zero_le _) (Nat.zero_le _) ⟨_, rfl, G_S136, F_S136, by omega, by omega, by omega⟩
      · exfalso; omega
    · refine zz_if_eq (by omega) zd_14_49_112 (fun c139 => ?_) (fun c139 => ?_)
      · exfalso; omega
      · refine zz_aload_n (x := 1079) rfl zd_14_49_115 ?_
        refine zz_dup rfl zd_14_49_116 ?_
        refine zz_geti (z := S 1079 32) zd_14_49_117 zf_Md_334 zT_1079 rfl (zz_ltn hn rfl) rfl ?_
        refine zz_iconst zd_14_49_120 ?_
        refine zz_iadd zd_14_49_121 ?_
        refine zz_puti zd_14_49_122 zf_Md_334 zT_1079 rfl (zz_ltn hn rfl) (fun S140 qS140 => ?_)
        have G_S140 := zz_G.put G_S qS140 0 1500 rfl (by omega)
        have F_S140 := zz_fr.puts F_S qS140 rfl
        refine zz_goto zd_14_49_125 ?_
        have e141 : S140 1079 32 = (S 1079 32) + 1 := (zz_rs qS140)
        exact k82 x1 S140 G_S140 F_S140 (by omega) (by omega) (by omega) (by omega) (by omega)
theorem zb_advance_14_49_160 {g : mm_G} {l : Launch}  (S0 : zz_S) (n : Nat) (hn : zz_end ≤ n) (G_S0 : zz_G S0)  (x1 : Int) (x3 : Int) (S : zz_S) (G_S : zz_G S) (F_S : zz_fr [(1079, 30), (1079, 31), (1079, 32)] [] (fun _ _ => False) S0 S) (i160_0 : 0 ≤ x1 ∧ x1 ≤ 1500) (i160_1 : 0 ≤ x3 ∧ x3 ≤ 9999) (i160_2 : S0 1079 32 < S0 1079 33) (i160_3 : x1 ≥ S0 1079 32) (i160_4 : x1 < S 1079 32 ∨ (S 1079 32 = x1 ∧ x1 < S0 1079 33 ∧ 48 ≤ S0 1099 (S 1079 32).toNat ∧ S0 1099 (S 1079 32).toNat ≤ 57)) (i160_5 : (S 1079 32 = x1 ∧ x3 = 0) ∨ (S 1079 32 = x1 + 1 ∧ x3 ≤ 9) ∨ (S 1079 32 = x1 + 2 ∧ x3 ≤ 99) ∨ (S 1079 32 = x1 + 3 ∧ x3 ≤ 999) ∨ S 1079 32 ≥ x1 + 4) (R : Nat) (hR : (17179869184 + (S0 1079 33 - S 1079 32).toNat) = R) (k160 : ∀ (x1 : Int) (x3 : Int) (S : zz_S), zz_G S → zz_fr [(1079, 30), (1079, 31), (1079, 32)] [] (fun _ _ => False) S0 S → (0 ≤ x1 ∧ x1 ≤ 1500) → (0 ≤ x3 ∧ x3 ≤ 9999) → (S0 1079 32 < S0 1079 33) → (x1 ≥ S0 1079 32) → (x1 < S 1079 32 ∨ (S 1079 32 = x1 ∧ x1 < S0 1079 33 ∧ 48 ≤ S0 1099 (S 1079 32).toNat ∧ S0 1099 (S 1079 32).toNat ≤ 57)) → ((S 1079 32 = x1 ∧ x3 = 0) ∨ (S 1079 32 = x1 + 1 ∧ x3 ≤ 9) ∨ (S 1079 32 = x1 + 2 ∧ x3 ≤ 99) ∨ (S 1079 32 = x1 + 3 ∧ x3 ≤ 999) ∨ S 1079 32 ≥ x1 + 4) → (17179869184 + (S0 1079 33 - S 1079 32).toNat) < R → zz_E g l zy_advance_14_49 zr_advance_14_49 (zz_QV n (zp_advance_14_49  S0)) S n 160 [some (.ref 1079), some (zi x1), none, some (zi x3)] [] 0 0) : zz_E g l zy_advance_14_49 zr_advance_14_49 (zz_QV n (zp_advance_14_49  S0)) S n 160 [some (.ref 1079), some (zi x1), none, some (zi x3)] [] 0 0 := by
  refine zz_aload_n (x := 1079) rfl zd_14_49_160 ?_
  have g83 := zz_G.r G_S 1079 32 0 1500 rfl rfl
  refine zz_geti (z := S 1079 32) zd_14_49_161 zf_Md_334 zT_1079 rfl (zz_ltn hn rfl) rfl ?_
  refine zz_aload_n (x := 1079) rfl zd_14_49_164 ?_
  have g84 := zz_G.r G_S0 1079 33 0 1500 rfl rfl
  refine zz_geti (z := S0 1079 33) zd_14_49_165 zf_Md_337 zT_1079 rfl (zz_ltn hn rfl) (zz_rc F_S rfl rfl (fun h => h) rfl) ?_
  refine zz_icmp_ge (by omega) (by omega) zd_14_49_168 (fun c85 => ?_) (fun c85 => ?_)
  · refine zz_aload_n (x := 1079) rfl zd_14_49_238 ?_
    refine zz_aload_n (x := 1079) rfl zd_14_49_239 ?_
    refine zz_geti (z := S 1079 32) zd_14_49_240 zf_Md_334 zT_1079 rfl (zz_ltn hn rfl) rfl ?_
    refine zz_iload_n (x := x1) rfl zd_14_49_243 ?_
    refine zz_isub zd_14_49_244 ?_
    refine zz_iconst zd_14_49_245 ?_
    refine zz_icmp_le (by omega) (by omega) zd_14_49_246 (fun c86 => ?_) (fun c86 => ?_)
    · refine zz_bipush (by decide) zd_14_49_254 ?_
      refine zz_puti zd_14_49_256 zf_Md_347 zT_1079 rfl (zz_ltn hn rfl) (fun S87 qS87 => ?_)
      have G_S87 := zz_G.put G_S qS87 0 102 rfl (by omega)
      have F_S87 := zz_fr.puts F_S qS87 rfl
      refine zz_aload_n (x := 1079) rfl zd_14_49_259 ?_
      refine zz_iload_n (x := x3) rfl zd_14_49_260 ?_
      refine zz_puti zd_14_49_261 zf_Md_354 zT_1079 rfl (zz_ltn hn rfl) (fun S88 qS88 => ?_)
      have G_S88 := zz_G.put G_S87 qS88 0 9999 rfl (by omega)
      have F_S88 := zz_fr.puts F_S87 qS88 rfl
      refine zz_goto zd_14_49_264 ?_
      have e89 : S88 1079 32 = S 1079 32 := (zz_ro qS88 (fun h => absurd h.2 (by decide)) (zz_ro qS87 (fun h => absurd h.2 (by decide)) rfl))
      have e90 : S88 1079 30 = 100 := (zz_ro qS88 (fun h => absurd h.2 (by decide)) (zz_rs qS87))
      exact zz_vret zd_14_49_288 rfl (Nat.zero_le _) (Nat.zero_le _) ⟨_, rfl, G_S88, F_S88, by omega, by omega, by omega⟩
    · refine zz_bipush (by decide) zd_14_49_249 ?_
      refine zz_goto zd_14_49_251 ?_
      refine zz_puti zd_14_49_256 zf_Md_347 zT_1079 rfl (zz_ltn hn rfl) (fun S91 qS91 => ?_)
      have G_S91 := zz_G.put G_S qS91 0 102 rfl (by omega)
      have F_S91 := zz_fr.puts F_S qS91 rfl
      refine zz_aload_n (x := 1079) rfl zd_14_49_259 ?_
      refine zz_iload_n (x := x3) rfl zd_14_49_260 ?_
      refine zz_puti zd_14_49_261 zf_Md_354 zT_1079 rfl (zz_ltn hn rfl) (fun S92 qS92 => ?_)
      have G_S92 := zz_G.put G_S91 qS92 0 9999 rfl (by omega)
      have F_S92 := zz_fr.puts F_S91 qS92 rfl
      refine zz_goto zd_14_49_264 ?_
      have e93 : S92 1079 32 = S 1079 32 := (zz_ro qS92 (fun h => absurd h.2 (by decide)) (zz_ro qS91 (fun h => absurd h.2 (by decide)) rfl))
      have e94 : S92 1079 30 = 101 := (zz_ro qS92 (fun h => absurd h.2 (by decide)) (zz_rs qS91))
      exact zz_vret zd_14_49_288 rfl (Nat.zero_le _) (Nat.zero_le _) ⟨_, rfl, G_S92, F_S92, by omega, by omega, by omega⟩
  · refine zz_aload_n (x := 1079) rfl zd_14_49_171 ?_
    refine zz_getr (kd := 0) (z := 1099) zd_14_49_172 zf_Md_76 zT_1079 rfl (zz_ltn hn rfl) (zz_G.eq G_S 1079 27 1099 rfl rfl) (by decide) 1099 rfl ?_
    refine zz_aload_n (x := 1079) rfl zd_14_49_175 ?_
    refine zz_geti (z := S 1079 32) zd_14_49_176 zf_Md_334 zT_1079 rfl (zz_ltn hn rfl) rfl ?_
    have g95 := zz_G.r G_S0 1099 ((S 1079 32).toNat) 0 255 rfl rfl
    refine zz_iald (z := S0 1099 ((S 1079 32).toNat)) zd_14_49_179 zT_1099 rfl (zz_ltn hn rfl) (by decide) (by omega) (zz_rc F_S (zz_nc1 rfl) rfl (fun h => h) rfl) ?_
    refine zz_i2l (by omega) zd_14_49_180 ?_
    refine zz_ldc2 (z := 48) zq_Md_350 (by decide) zd_14_49_181 ?_
    refine zz_ldc2 (z := 57) zq_Md_352 (by decide) zd_14_49_184 ?_
    refine zz_callSI [zl (S0 1099 ((S 1079 32).toNat)), zl 48, zl 57] zd_14_49_187 zk_Md_192 rfl rfl ⟨Nat.le_of_ble_eq_true rfl, Nat.le_of_ble_eq_true rfl⟩ ⟨rfl, rfl⟩ (Nat.zero_le _) (Nat.zero_le _) (zc_in_14_4 (S0 1099 ((S 1079 32).toNat)) 48 57 S n hn G_S (by omega) (by omega) (by omega)) (fun v97 S96 hP => ?_)
    obtain ⟨rfl, o98, o99⟩ := hP
    rcases (by omega : v97 = 0 ∨ v97 = 1) with rfl | rfl
    · refine zz_if_eq (by omega) zd_14_49_190 (fun c100 => ?_) (fun c100 => ?_)
      · refine zz_aload_n (x := 1079) rfl zd_14_49_238 ?_
        refine zz_aload_n (x := 1079) rfl zd_14_49_239 ?_
        refine zz_geti (z := S 1079 32) zd_14_49_240 zf_Md_334 zT_1079 rfl (zz_ltn hn rfl) rfl ?_
        refine zz_iload_n (x := x1) rfl zd_14_49_243 ?_
        refine zz_isub zd_14_49_244 ?_
        refine zz_iconst zd_14_49_245 ?_
        refine zz_icmp_le (by omega) (by omega) zd_14_49_246 (fun c101 => ?_) (fun c101 => ?_)
        · refine zz_bipush (by decide) zd_14_49_254 ?_
          refine zz_puti zd_14_49_256 zf_Md_347 zT_1079 rfl (zz_ltn hn rfl) (fun S102 qS102 => ?_)
          have G_S102 := zz_G.put G_S qS102 0 102 rfl (by omega)
          have F_S102 := zz_fr.puts F_S qS102 rfl
          refine zz_aload_n (x := 1079) rfl zd_14_49_259 ?_
          refine zz_iload_n (x := x3) rfl zd_14_49_260 ?_
          refine zz_puti zd_14_49_261 zf_Md_354 zT_1079 rfl (zz_ltn hn rfl) (fun S103 qS103 => ?_)
          have G_S103 := zz_G.put G_S102 qS103 0 9999 rfl (by omega)
          have F_S103 := zz_fr.puts F_S102 qS103 rfl
          refine zz_goto zd_14_49_264 ?_
          have e104 : S103 1079 32 = S 1079 32 := (zz_ro qS103 (fun h => absurd h.2 (by decide)) (zz_ro qS102 (fun h => absurd h.2 (by decide)) rfl))
          have e105 : S103 1079 30 = 100 := (zz_ro qS103 (fun h => absurd h.2 (by decide)) (zz_rs qS102))
          exact zz_vret zd_14_49_288 rfl (Nat.zero_le _) (Nat.zero_le _) ⟨_, rfl, G_S103, F_S103, by omega, by omega, by omega⟩
        · refine zz_bipush (by decide) zd_14_49_249 ?_
          refine zz_goto zd_14_49_251 ?_
          refine zz_puti zd_14_49_256 zf_Md_347 zT_1079 rfl (zz_ltn hn rfl) (fun S106 qS106 => ?_)
          have G_S106 := zz_G.put G_S qS106 0 102 rfl (by omega)
          have F_S106 := zz_fr.puts F_S qS106 rfl
          refine zz_aload_n (x := 1079) rfl zd_14_49_259 ?_
          refine zz_iload_n (x := x3) rfl zd_14_49_260 ?_
          refine zz_puti zd_14_49_261 zf_Md_354 zT_1079 rfl (zz_ltn hn rfl) (fun S107 qS107 => ?_)
          have G_S107 := zz_G.put G_S106 qS107 0 9999 rfl (by omega)
          have F_S107 := zz_fr.puts F_S106 qS107 rfl
          refine zz_goto zd_14_49_264 ?_
          have e108 : S107 1079 32 = S 1079 32 := (zz_ro qS107 (fun h => absurd h.2 (by decide)) (zz_ro qS106 (fun h => absurd h.2 (by decide)) rfl))
          have e109 : S107 1079 30 = 101 := (zz_ro qS107 (fun h => absurd h.2 (by decide)) (zz_rs qS106))
          exact zz_vret zd_14_49_288 rfl (Nat.zero_le _) (Nat.zero_le _) ⟨_, rfl, G_S107, F_S107, by omega, by omega, by omega⟩
      · exfalso; omega
    · refine zz_if_eq (by omega) zd_14_49_190 (fun c110 => ?_) (fun c110 => ?_)
      · exfalso; omega
      · refine zz_aload_n (x := 1079) rfl zd_14_49_193 ?_
        refine zz_geti (z := S 1079 32) zd_14_49_194 zf_Md_334 zT_1079 rfl (zz_ltn hn rfl) rfl ?_
        refine zz_iload_n (x := x1) rfl zd_14_49_197 ?_
        refine zz_isub zd_14_49_198 ?_
        refine zz_iconst zd_14_49_199 ?_
        refine zz_icmp_ge (by omega) (by omega) zd_14_49_200 (fun c111 => ?_) (fun c111 => ?_)
        · refine zz_iload_n (x := x3) rfl zd_14_49_223 ?_
          refine zz_istore_n [some (.ref 1079), some (zi x1), none, some (zi x3)] zd_14_49_224 (by decide) rfl ?_
          refine zz_aload_n (x := 1079) rfl zd_14_49_225 ?_
          refine zz_dup rfl zd_14_49_226 ?_
          refine zz_geti (z := S 1079 32) zd_14_49_227 zf_Md_334 zT_1079 rfl (zz_ltn hn rfl) rfl ?_
          refine zz_iconst zd_14_49_230 ?_
          refine zz_iadd zd_14_49_231 ?_
          refine zz_puti zd_14_49_232 zf_Md_334 zT_1079 rfl (zz_ltn hn rfl) (fun S112 qS112 => ?_)
          have G_S112 := zz_G.put G_S qS112 0 1500 rfl (by omega)
          have F_S112 := zz_fr.puts F_S qS112 rfl
          refine zz_goto zd_14_49_235 ?_
          have e113 : S112 1079 32 = (S 1079 32) + 1 := (zz_rs qS112)
          exact k160 x1 x3 S112 G_S112 F_S112 (by omega) (by omega) (by omega) (by omega) (by omega) (by omega) (by omega)
        · refine zz_bipush (by decide) zd_14_49_203 ?_
          refine zz_iload_n (x := x3) rfl zd_14_49_205 ?_
          refine zz_imul zd_14_49_206 ?_
          refine zz_aload_n (x := 1079) rfl zd_14_49_207 ?_
          refine zz_getr (kd := 0) (z := 1099) zd_14_49_208 zf_Md_76 zT_1079 rfl (zz_ltn hn rfl) (zz_G.eq G_S 1079 27 1099 rfl rfl) (by decide) 1099 rfl ?_
          refine zz_aload_n (x := 1079) rfl zd_14_49_211 ?_
          refine zz_geti (z := S 1079 32) zd_14_49_212 zf_Md_334 zT_1079 rfl (zz_ltn hn rfl) rfl ?_
          refine zz_iald (z := S0 1099 ((S 1079 32).toNat)) zd_14_49_215 zT_1099 rfl (zz_ltn hn rfl) (by decide) (by omega) (zz_rc F_S (zz_nc1 rfl) rfl (fun h => h) rfl) ?_
          refine zz_iadd zd_14_49_216 ?_
          refine zz_bipush (by decide) zd_14_49_217 ?_
          refine zz_isub zd_14_49_219 ?_
          refine zz_goto zd_14_49_220 ?_
          refine zz_istore_n [some (.ref 1079), some (zi x1), none, some (zi (((10 * x3) + (S0 1099 ((S 1079 32).toNat))) - 48))] zd_14_49_224 (by decide) rfl ?_
          refine zz_aload_n (x := 1079) rfl zd_14_49_225 ?_
          refine zz_dup rfl zd_14_49_226 ?_
          refine zz_geti (z := S 1079 32) zd_14_49_227 zf_Md_334 zT_1079 rfl (zz_ltn hn rfl) rfl ?_
          refine zz_iconst zd_14_49_230 ?_
          refine zz_iadd zd_14_49_231 ?_
          refine zz_puti zd_14_49_232 zf_Md_334 zT_1079 rfl (zz_ltn hn rfl) (fun S114 qS114 => ?_)
          have G_S114 := zz_G.put G_S qS114 0 1500 rfl (by omega)
          have F_S114 := zz_fr.puts F_S qS114 rfl
          refine zz_goto zd_14_49_235 ?_
          have e115 : S114 1079 32 = (S 1079 32) + 1 := (zz_rs qS114)
          refine zz_less (ls1 := [some (.ref 1079), some (zi x1), none, some (zi (((10 * x3) + (S0 1099 ((S 1079 32).toNat))) - 48))]) ⟨rfl, ⟨rfl, ⟨rfl, trivial⟩⟩⟩ ?_
          exact k160 x1 (((10 * x3) + (S0 1099 ((S 1079 32).toNat))) - 48) S114 G_S114 F_S114 (by omega) (by omega) (by omega) (by omega) (by omega) (by omega) (by omega)
theorem zi_advance_14_49 {g : mm_G} {l : Launch}  (S0 : zz_S) (n : Nat) (hn : zz_end ≤ n) (G_S0 : zz_G S0)  : ∀ N : Nat, (∀  (S : zz_S), zz_G S → zz_fr [(1079, 30), (1079, 31), (1079, 32)] [] (fun _ _ => False) S0 S → (S0 1079 32 < S0 1079 33) → (S0 1099 ((S0 1079 32).toNat) = 32) → (S 1079 32 ≥ S0 1079 32) → (51539607552 + (S0 1079 33 - S 1079 32).toNat) < N → zz_E g l zy_advance_14_49 zr_advance_14_49 (zz_QV n (zp_advance_14_49  S0)) S n 0 [some (.ref 1079)] [] 0 0) ∧ (∀ (x1 : Int) (S : zz_S), zz_G S → zz_fr [(1079, 30), (1079, 31), (1079, 32)] [] (fun _ _ => False) S0 S → (0 ≤ x1 ∧ x1 ≤ 1500) → (S0 1079 32 < S0 1079 33) → (x1 ≥ S0 1079 32) → (x1 < S 1079 32 ∨ (S 1079 32 = x1 ∧ x1 < S0 1079 33 ∧ 97 ≤ S0 1099 (S 1079 32).toNat ∧ S0 1099 (S 1079 32).toNat ≤ 122)) → (34359738368 + (S0 1079 33 - S 1079 32).toNat) < N → zz_E g l zy_advance_14_49 zr_advance_14_49 (zz_QV n (zp_advance_14_49  S0)) S n 82 [some (.ref 1079), some (zi x1)] [] 0 0) ∧ (∀ (x1 : Int) (x3 : Int) (S : zz_S), zz_G S → zz_fr [(1079, 30), (1079, 31), (1079, 32)] [] (fun _ _ => False) S0 S → (0 ≤ x1 ∧ x1 ≤ 1500) → (0 ≤ x3 ∧ x3 ≤ 9999) → (S0 1079 32 < S0 1079 33) → (x1 ≥ S0 1079 32) → (x1 < S 1079 32 ∨ (S 1079 32 = x1 ∧ x1 < S0 1079 33 ∧ 48 ≤ S0 1099 (S 1079 32).toNat ∧ S0 1099 (S 1079 32).toNat ≤ 57)) → ((S 1079 32 = x1 ∧ x3 = 0) ∨ (S 1079 32 = x1 + 1 ∧ x3 ≤ 9) ∨ (S 1079 32 = x1 + 2 ∧ x3 ≤ 99) ∨ (S 1079 32 = x1 + 3 ∧ x3 ≤ 999) ∨ S 1079 32 ≥ x1 + 4) → (17179869184 + (S0 1079 33 - S 1079 32).toNat) < N → zz_E g l zy_advance_14_49 zr_advance_14_49 (zz_QV n (zp_advance_14_49  S0)) S n 160 [some (.ref 1079), some (zi x1), none, some (zi x3)] [] 0 0) := by
  intro N
  induction N with
  | zero => exact ⟨fun  S _ _ _ _ _ h => absurd h (Nat.not_lt_zero _), fun x1 S _ _ _ _ _ _ h => absurd h (Nat.not_lt_zero _), fun x1 x3 S _ _ _ _ _ _ _ _ h => absurd h (Nat.not_lt_zero _)⟩
  | succ N ih =>
    exact ⟨fun  S a b j0 j1 j2 hR => zb_advance_14_49_0  S0 n hn G_S0   S a b j0 j1 j2 _ rfl (fun  S a b j0 j1 j2 h => ih.1  S a b j0 j1 j2 (Nat.lt_of_lt_of_le h (Nat.le_of_lt_succ hR))) (fun x1 S a b j0 j1 j2 j3 h => ih.2.1 x1 S a b j0 j1 j2 j3 (Nat.lt_of_lt_of_le h (Nat.le_of_lt_succ hR))) (fun x1 x3 S a b j0 j1 j2 j3 j4 j5 h => ih.2.2 x1 x3 S a b j0 j1 j2 j3 j4 j5 (Nat.lt_of_lt_of_le h (Nat.le_of_lt_succ hR))),
      fun x1 S a b j0 j1 j2 j3 hR => zb_advance_14_49_82  S0 n hn G_S0  x1 S a b j0 j1 j2 j3 _ rfl (fun x1 S a b j0 j1 j2 j3 h => ih.2.1 x1 S a b j0 j1 j2 j3 (Nat.lt_of_lt_of_le h (Nat.le_of_lt_succ hR))),
      fun x1 x3 S a b j0 j1 j2 j3 j4 j5 hR => zb_advance_14_49_160  S0 n hn G_S0  x1 x3 S a b j0 j1 j2 j3 j4 j5 _ rfl (fun x1 x3 S a b j0 j1 j2 j3 j4 j5 h => ih.2.2 x1 x3 S a b j0 j1 j2 j3 j4 j5 (Nat.lt_of_lt_of_le h (Nat.le_of_lt_succ hR)))⟩
theorem zc_advance_14_49 {g : mm_G} {l : Launch}  (S0 : zz_S) (n : Nat) (hn : zz_end ≤ n) (G_S0 : zz_G S0)  : mm_Met g l zy_advance_14_49 zr_advance_14_49 [.ref 1079] (zz_M S0 n) n (zz_QV n (zp_advance_14_49  S0)) := by
  refine zz_enter (by decide) (Nat.le_of_ble_eq_true rfl) (zz_less (ls1 := [some (.ref 1079)]) ⟨rfl, trivial⟩ ?_)
  have F_S0 : zz_fr [(1079, 30), (1079, 31), (1079, 32)] [] (fun _ _ => False) S0 S0 := zz_fr.refl
  have k0 : ∀  (S : zz_S), zz_G S → zz_fr [(1079, 30), (1079, 31), (1079, 32)] [] (fun _ _ => False) S0 S → (S0 1079 32 < S0 1079 33) → (S0 1099 ((S0 1079 32).toNat) = 32) → (S 1079 32 ≥ S0 1079 32) → zz_E g l zy_advance_14_49 zr_advance_14_49 (zz_QV n (zp_advance_14_49  S0)) S n 0 [some (.ref 1079)] [] 0 0 := fun  S a b j0 j1 j2 => (zi_advance_14_49 (g := g) (l := l)  S0 n hn G_S0  _).1  S a b j0 j1 j2 (Nat.lt_succ_self _)
  have k82 : ∀ (x1 : Int) (S : zz_S), zz_G S → zz_fr [(1079, 30), (1079, 31), (1079, 32)] [] (fun _ _ => False) S0 S → (0 ≤ x1 ∧ x1 ≤ 1500) → (S0 1079 32 < S0 1079 33) → (x1 ≥ S0 1079 32) → (x1 < S 1079 32 ∨ (S 1079 32 = x1 ∧ x1 < S0 1079 33 ∧ 97 ≤ S0 1099 (S 1079 32).toNat ∧ S0 1099 (S 1079 32).toNat ≤ 122)) → zz_E g l zy_advance_14_49 zr_advance_14_49 (zz_QV n (zp_advance_14_49  S0)) S n 82 [some (.ref 1079), some (zi x1)] [] 0 0 := fun x1 S a b j0 j1 j2 j3 => (zi_advance_14_49 (g := g) (l := l)  S0 n hn G_S0  _).2.1 x1 S a b j0 j1 j2 j3 (Nat.lt_succ_self _)
  have k160 : ∀ (x1 : Int) (x3 : Int) (S : zz_S), zz_G S → zz_fr [(1079, 30), (1079, 31), (1079, 32)] [] (fun _ _ => False) S0 S → (0 ≤ x1 ∧ x1 ≤ 1500) → (0 ≤ x3 ∧ x3 ≤ 9999) → (S0 1079 32 < S0 1079 33) → (x1 ≥ S0 1079 32) → (x1 < S 1079 32 ∨ (S 1079 32 = x1 ∧ x1 < S0 1079 33 ∧ 48 ≤ S0 1099 (S 1079 32).toNat ∧ S0 1099 (S 1079 32).toNat ≤ 57)) → ((S 1079 32 = x1 ∧ x3 = 0) ∨ (S 1079 32 = x1 + 1 ∧ x3 ≤ 9) ∨ (S 1079 32 = x1 + 2 ∧ x3 ≤ 99) ∨ (S 1079 32 = x1 + 3 ∧ x3 ≤ 999) ∨ S 1079 32 ≥ x1 + 4) → zz_E g l zy_advance_14_49 zr_advance_14_49 (zz_QV n (zp_advance_14_49  S0)) S n 160 [some (.ref 1079), some (zi x1), none, some (zi x3)] [] 0 0 := fun x1 x3 S a b j0 j1 j2 j3 j4 j5 => (zi_advance_14_49 (g := g) (l := l)  S0 n hn G_S0  _).2.2 x1 x3 S a b j0 j1 j2 j3 j4 j5 (Nat.lt_succ_self _)
  refine zz_aload_n (x := 1079) rfl zd_14_49_0 ?_
  have g1 := zz_G.r G_S0 1079 32 0 1500 rfl rfl
  refine zz_geti (z := S0 1079 32) zd_14_49_1 zf_Md_334 zT_1079 rfl (zz_ltn hn rfl) rfl ?_
  refine zz_aload_n (x := 1079) rfl zd_14_49_4 ?_
  have g2 := zz_G.r G_S0 1079 33 0 1500 rfl rfl
  refine zz_geti (z := S0 1079 33) zd_14_49_5 zf_Md_337 zT_1079 rfl (zz_ltn hn rfl) rfl ?_
  refine zz_icmp_ge (by omega) (by omega) zd_14_49_8 (fun c3 => ?_) (fun c3 => ?_)
  · refine zz_aload_n (x := 1079) rfl zd_14_49_38 ?_
    refine zz_geti (z := S0 1079 32) zd_14_49_39 zf_Md_334 zT_1079 rfl (zz_ltn hn rfl) rfl ?_
    refine zz_istore_n [some (.ref 1079), some (zi (S0 1079 32))] zd_14_49_42 (by decide) rfl ?_
    refine zz_aload_n (x := 1079) rfl zd_14_49_43 ?_
    refine zz_geti (z := S0 1079 32) zd_14_49_44 zf_Md_334 zT_1079 rfl (zz_ltn hn rfl) rfl ?_
    refine zz_aload_n (x := 1079) rfl zd_14_49_47 ?_
    refine zz_geti (z := S0 1079 33) zd_14_49_48 zf_Md_337 zT_1079 rfl (zz_ltn hn rfl) rfl ?_
    refine zz_icmp_ge (by omega) (by omega) zd_14_49_51 (fun c4 => ?_) (fun c4 => ?_)
    · refine zz_iconst zd_14_49_66 ?_
      refine zz_istore_n [some (.ref 1079), some (zi (S0 1079 32)), some (zi 0)] zd_14_49_67 (by decide) rfl ?_
      refine zz_iload_n (x := 0) rfl zd_14_49_68 ?_
      refine zz_i2l (by omega) zd_14_49_69 ?_
      refine zz_ldc2 (z := 97) zq_Md_340 (by decide) zd_14_49_70 ?_
      refine zz_ldc2 (z := 122) zq_Md_342 (by decide) zd_14_49_73 ?_
      refine zz_callSI [zl 0, zl 97, zl 122] zd_14_49_76 zk_Md_192 rfl rfl ⟨Nat.le_of_ble_eq_true rfl, Nat.le_of_ble_eq_true rfl⟩ ⟨rfl, rfl⟩ (Nat.zero_le _) (Nat.zero_le _) (zc_in_14_4 0 97 122 S0 n hn G_S0 (by omega) (by omega) (by omega)) (fun v6 S5 hP => ?_)
      obtain ⟨rfl, o7, o8⟩ := hP
      rcases (by omega : v6 = 0 ∨ v6 = 1) with rfl | rfl
      · refine zz_if_eq (by omega) zd_14_49_79 (fun c9 => ?_) (fun c9 => ?_)
        · refine zz_iload_n (x := 0) rfl zd_14_49_144 ?_
          refine zz_i2l (by omega) zd_14_49_145 ?_
          refine zz_ldc2 (z := 48) zq_Md_350 (by decide) zd_14_49_146 ?_
          refine zz_ldc2 (z := 57) zq_Md_352 (by decide) zd_14_49_149 ?_
          refine zz_callSI [zl 0, zl 48, zl 57] zd_14_49_152 zk_Md_192 rfl rfl ⟨Nat.le_of_ble_eq_true rfl, Nat.le_of_ble_eq_true rfl⟩ ⟨rfl, rfl⟩ (Nat.zero_le _) (Nat.zero_le _) (zc_in_14_4 0 48 57 S0 n hn G_S0 (by omega) (by omega) (by omega)) (fun v11 S10 hP => ?_)
          obtain ⟨rfl, o12, o13⟩ := hP
          rcases (by omega : v11 = 0 ∨ v11 = 1) with rfl | rfl
          · refine zz_if_eq (by omega) zd_14_49_155 (fun c14 => ?_) (fun c14 => ?_)
            · refine zz_aload_n (x := 1079) rfl zd_14_49_267 ?_
              refine zz_aload_n (x := 1079) rfl zd_14_49_268 ?_
              refine zz_geti (z := S0 1079 32) zd_14_49_269 zf_Md_334 zT_1079 rfl (zz_ltn hn rfl) rfl ?_
              refine zz_aload_n (x := 1079) rfl zd_14_49_272 ?_
              refine zz_geti (z := S0 1079 33) zd_14_49_273 zf_Md_337 zT_1079 rfl (zz_ltn hn rfl) rfl ?_
              refine zz_icmp_ge (by omega) (by omega) zd_14_49_276 (fun c15 => ?_) (fun c15 => ?_)
              · refine zz_iconst zd_14_49_284 ?_
                refine zz_puti zd_14_49_285 zf_Md_347 zT_1079 rfl (zz_ltn hn rfl) (fun S16 qS16 => ?_)
                have G_S16 := zz_G.put G_S0 qS16 0 102 rfl (by omega)
                have F_S16 := zz_fr.puts F_S0 qS16 rfl
                have e17 : S16 1079 32 = S0 1079 32 := (zz_ro qS16 (fun h => absurd h.2 (by decide)) rfl)
                have e18 : S16 1079 30 = 0 := (zz_rs qS16)
                exact zz_vret zd_14_49_288 rfl (Nat.zero_le _) (Nat.zero_le _) ⟨_, rfl, G_S16, F_S16, by omega, by omega, by omega⟩
              · refine zz_bipush (by decide) zd_14_49_279 ?_
                refine zz_goto zd_14_49_281 ?_
                refine zz_puti zd_14_49_285 zf_Md_347 zT_1079 rfl (zz_ltn hn rfl) (fun S19 qS19 => ?_)
                have G_S19 := zz_G.put G_S0 qS19 0 102 rfl (by omega)
                have F_S19 := zz_fr.puts F_S0 qS19 rfl
                have e20 : S19 1079 32 = S0 1079 32 := (zz_ro qS19 (fun h => absurd h.2 (by decide)) rfl)
                have e21 : S19 1079 30 = 101 := (zz_rs qS19)
                exact zz_vret zd_14_49_288 rfl (Nat.zero_le _) (Nat.zero_le _) ⟨_, rfl, G_S19, F_S19, by omega, by omega, by omega⟩
            · exfalso; omega
          · exfalso; omega
        · exfalso; omega
      · exfalso; omega
    · refine zz_aload_n (x := 1079) rfl zd_14_49_54 ?_
      refine zz_getr (kd := 0) (z := 1099) zd_14_49_55 zf_Md_76 zT_1079 rfl (zz_ltn hn rfl) (zz_G.eq G_S0 1079 27 1099 rfl rfl) (by decide) 1099 rfl ?_
      refine zz_aload_n (x := 1079) rfl zd_14_49_58 ?_
      refine zz_geti (z := S0 1079 32) zd_14_49_59 zf_Md_334 zT_1079 rfl (zz_ltn hn rfl) rfl ?_
      have g22 := zz_G.r G_S0 1099 ((S0 1079 32).toNat) 0 255 rfl rfl
      refine zz_iald (z := S0 1099 ((S0 1079 32).toNat)) zd_14_49_62 zT_1099 rfl (zz_ltn hn rfl) (by decide) (by omega) rfl ?_
      refine zz_goto zd_14_49_63 ?_
      refine zz_istore_n [some (.ref 1079), some (zi (S0 1079 32)), some (zi (S0 1099 ((S0 1079 32).toNat)))] zd_14_49_67 (by decide) rfl ?_
      refine zz_iload_n (x := S0 1099 ((S0 1079 32).toNat)) rfl zd_14_49_68 ?_
      refine zz_i2l (by omega) zd_14_49_69 ?_
      refine zz_ldc2 (z := 97) zq_Md_340 (by decide) zd_14_49_70 ?_
      refine zz_ldc2 (z := 122) zq_Md_342 (by decide) zd_14_49_73 ?_
      refine zz_callSI [zl (S0 1099 ((S0 1079 32).toNat)), zl 97, zl 122] zd_14_49_76 zk_Md_192 rfl rfl ⟨Nat.le_of_ble_eq_true rfl, Nat.le_of_ble_eq_true rfl⟩ ⟨rfl, rfl⟩ (Nat.zero_le _) (Nat.zero_le _) (zc_in_14_4 (S0 1099 ((S0 1079 32).toNat)) 97 122 S0 n hn G_S0 (by omega) (by omega) (by omega)) (fun v24 S23 hP => ?_)
      obtain ⟨rfl, o25, o26⟩ := hP
      rcases (by omega : v24 = 0 ∨ v24 = 1) with rfl | rfl
      · refine zz_if_eq (by omega) zd_14_49_79 (fun c27 => ?_) (fun c27 => ?_)
        · refine zz_iload_n (x := S0 1099 ((S0 1079 32).toNat)) rfl zd_14_49_144 ?_
          refine zz_i2l (by omega) zd_14_49_145 ?_
          refine zz_ldc2 (z := 48) zq_Md_350 (by decide) zd_14_49_146 ?_
          refine zz_ldc2 (z := 57) zq_Md_352 (by decide) zd_14_49_149 ?_
          refine zz_callSI [zl (S0 1099 ((S0 1079 32).toNat)), zl 48, zl 57] zd_14_49_152 zk_Md_192 rfl rfl ⟨Nat.le_of_ble_eq_true rfl, Nat.le_of_ble_eq_true rfl⟩ ⟨rfl, rfl⟩ (Nat.zero_le _) (Nat.zero_le _) (zc_in_14_4 (S0 1099 ((S0 1079 32).toNat)) 48 57 S0 n hn G_S0 (by omega) (by omega) (by omega)) (fun v29 S28 hP => ?_)
          obtain ⟨rfl, o30, o31⟩ := hP
          rcases (by omega : v29 = 0 ∨ v29 = 1) with rfl | rfl
          · refine zz_if_eq (by omega) zd_14_49_155 (fun c32 => ?_) (fun c32 => ?_)
            · refine zz_aload_n (x := 1079) rfl zd_14_49_267 ?_
              refine zz_aload_n (x := 1079) rfl zd_14_49_268 ?_
              refine zz_geti (z := S0 1079 32) zd_14_49_269 zf_Md_334 zT_1079 rfl (zz_ltn hn rfl) rfl ?_
              refine zz_aload_n (x := 1079) rfl zd_14_49_272 ?_
              refine zz_geti (z := S0 1079 33) zd_14_49_273 zf_Md_337 zT_1079 rfl (zz_ltn hn rfl) rfl ?_
              refine zz_icmp_ge (by omega) (by omega) zd_14_49_276 (fun c33 => ?_) (fun c33 => ?_)
              · refine zz_iconst zd_14_49_284 ?_
                refine zz_puti zd_14_49_285 zf_Md_347 zT_1079 rfl (zz_ltn hn rfl) (fun S34 qS34 => ?_)
                have G_S34 := zz_G.put G_S0 qS34 0 102 rfl (by omega)
                have F_S34 := zz_fr.puts F_S0 qS34 rfl
                have e35 : S34 1079 32 = S0 1079 32 := (zz_ro qS34 (fun h => absurd h.2 (by decide)) rfl)
                have e36 : S34 1079 30 = 0 := (zz_rs qS34)
                exact zz_vret zd_14_49_288 rfl (Nat.zero_le _) (Nat.zero_le _) ⟨_, rfl, G_S34, F_S34, by omega, by omega, by omega⟩
              · refine zz_bipush (by decide) zd_14_49_279 ?_
                refine zz_goto zd_14_49_281 ?_
                refine zz_puti zd_14_49_285 zf_Md_347 zT_1079 rfl (zz_ltn hn rfl) (fun S37 qS37 => ?_)
                have G_S37 := zz_G.put G_S0 qS37 0 102 rfl (by omega)
                have F_S37 := zz_fr.puts F_S0 qS37 rfl
                have e38 : S37 1079 32 = S0 1079 32 := (zz_ro qS37 (fun h => absurd h.2 (by decide)) rfl)
                have e39 : S37 1079 30 = 101 := (zz_rs qS37)
                exact zz_vret zd_14_49_288 rfl (Nat.zero_le _) (Nat.zero_le _) ⟨_, rfl, G_S37, F_S37, by omega, by omega, by omega⟩
            · exfalso; omega
          · refine zz_if_eq (by omega) zd_14_49_155 (fun c40 => ?_) (fun c40 => ?_)
            · exfalso; omega
            · refine zz_iconst zd_14_49_158 ?_
              refine zz_istore_n [some (.ref 1079), some (zi (S0 1079 32)), some (zi (S0 1099 ((S0 1079 32).toNat))), some (zi 0)] zd_14_49_159 (by decide) rfl ?_
              refine zz_less (ls1 := [some (.ref 1079), some (zi (S0 1079 32)), none, some (zi 0)]) ⟨rfl, ⟨rfl, ⟨rfl, trivial⟩⟩⟩ ?_
              exact k160 (S0 1079 32) 0 S0 G_S0 F_S0 (by omega) (by omega) (by omega) (by omega) (by omega) (by omega)
        · exfalso; omega
      · refine zz_if_eq (by omega) zd_14_49_79 (fun c41 => ?_) (fun c41 => ?_)
        · exfalso; omega
        · refine zz_less (ls1 := [some (.ref 1079), some (zi (S0 1079 32))]) ⟨rfl, ⟨rfl, trivial⟩⟩ ?_
          exact k82 (S0 1079 32) S0 G_S0 F_S0 (by omega) (by omega) (by omega) (by omega)
  · refine zz_aload_n (x := 1079) rfl zd_14_49_11 ?_
    refine zz_getr (kd := 0) (z := 1099) zd_14_49_12 zf_Md_76 zT_1079 rfl (zz_ltn hn rfl) (zz_G.eq G_S0 1079 27 1099 rfl rfl) (by decide) 1099 rfl ?_
    refine zz_aload_n (x := 1079) rfl zd_14_49_15 ?_
    refine zz_geti (z := S0 1079 32) zd_14_49_16 zf_Md_334 zT_1079 rfl (zz_ltn hn rfl) rfl ?_
    have g42 := zz_G.r G_S0 1099 ((S0 1079 32).toNat) 0 255 rfl rfl
    refine zz_iald (z := S0 1099 ((S0 1079 32).toNat)) zd_14_49_19 zT_1099 rfl (zz_ltn hn rfl) (by decide) (by omega) rfl ?_
    refine zz_bipush (by decide) zd_14_49_20 ?_
    refine zz_icmp_ne (by omega) (by omega) zd_14_49_22 (fun c43 => ?_) (fun c43 => ?_)
    · refine zz_aload_n (x := 1079) rfl zd_14_49_38 ?_
      refine zz_geti (z := S0 1079 32) zd_14_49_39 zf_Md_334 zT_1079 rfl (zz_ltn hn rfl) rfl ?_
      refine zz_istore_n [some (.ref 1079), some (zi (S0 1079 32))] zd_14_49_42 (by decide) rfl ?_
      refine zz_aload_n (x := 1079) rfl zd_14_49_43 ?_
      refine zz_geti (z := S0 1079 32) zd_14_49_44 zf_Md_334 zT_1079 rfl (zz_ltn hn rfl) rfl ?_
      refine zz_aload_n (x := 1079) rfl zd_14_49_47 ?_
      refine zz_geti (z := S0 1079 33) zd_14_49_48 zf_Md_337 zT_1079 rfl (zz_ltn hn rfl) rfl ?_
      refine zz_icmp_ge (by omega) (by omega) zd_14_49_51 (fun c44 => ?_) (fun c44 => ?_)
      · refine zz_iconst zd_14_49_66 ?_
        refine zz_istore_n [some (.ref 1079), some (zi (S0 1079 32)), some (zi 0)] zd_14_49_67 (by decide) rfl ?_
        refine zz_iload_n (x := 0) rfl zd_14_49_68 ?_
        refine zz_i2l (by omega) zd_14_49_69 ?_
        refine zz_ldc2 (z := 97) zq_Md_340 (by decide) zd_14_49_70 ?_
        refine zz_ldc2 (z := 122) zq_Md_342 (by decide) zd_14_49_73 ?_
        refine zz_callSI [zl 0, zl 97, zl 122] zd_14_49_76 zk_Md_192 rfl rfl ⟨Nat.le_of_ble_eq_true rfl, Nat.le_of_ble_eq_true rfl⟩ ⟨rfl, rfl⟩ (Nat.zero_le _) (Nat.zero_le _) (zc_in_14_4 0 97 122 S0 n hn G_S0 (by omega) (by omega) (by omega)) (fun v46 S45 hP => ?_)
        obtain ⟨rfl, o47, o48⟩ := hP
        rcases (by omega : v46 = 0 ∨ v46 = 1) with rfl | rfl
        · refine zz_if_eq (by omega) zd_14_49_79 (fun c49 => ?_) (fun c49 => ?_)
          · refine zz_iload_n (x := 0) rfl zd_14_49_144 ?_
            refine zz_i2l (by omega) zd_14_49_145 ?_
            refine zz_ldc2 (z := 48) zq_Md_350 (by decide) zd_14_49_146 ?_
            refine zz_ldc2 (z := 57) zq_Md_352 (by decide) zd_14_49_149 ?_
            refine zz_callSI [zl 0, zl 48, zl 57] zd_14_49_152 zk_Md_192 rfl rfl ⟨Nat.le_of_ble_eq_true rfl, Nat.le_of_ble_eq_true rfl⟩ ⟨rfl, rfl⟩ (Nat.zero_le _) (Nat.zero_le _) (zc_in_14_4 0 48 57 S0 n hn G_S0 (by omega) (by omega) (by omega)) (fun v51 S50 hP => ?_)
            obtain ⟨rfl, o52, o53⟩ := hP
            rcases (by omega : v51 = 0 ∨ v51 = 1) with rfl | rfl
            · refine zz_if_eq (by omega) zd_14_49_155 (fun c54 => ?_) (fun c54 => ?_)
              · refine zz_aload_n (x := 1079) rfl zd_14_49_267 ?_
                refine zz_aload_n (x := 1079) rfl zd_14_49_268 ?_
                refine zz_geti (z := S0 1079 32) zd_14_49_269 zf_Md_334 zT_1079 rfl (zz_ltn hn rfl) rfl ?_
                refine zz_aload_n (x := 1079) rfl zd_14_49_272 ?_
                refine zz_geti (z := S0 1079 33) zd_14_49_273 zf_Md_337 zT_1079 rfl (zz_ltn hn rfl) rfl ?_
                refine zz_icmp_ge (by omega) (by omega) zd_14_49_276 (fun c55 => ?_) (fun c55 => ?_)
                · refine zz_iconst zd_14_49_284 ?_
                  refine zz_puti zd_14_49_285 zf_Md_347 zT_1079 rfl (zz_ltn hn rfl) (fun S56 qS56 => ?_)
                  have G_S56 := zz_G.put G_S0 qS56 0 102 rfl (by omega)
                  have F_S56 := zz_fr.puts F_S0 qS56 rfl
                  have e57 : S56 1079 32 = S0 1079 32 := (zz_ro qS56 (fun h => absurd h.2 (by decide)) rfl)
                  have e58 : S56 1079 30 = 0 := (zz_rs qS56)
                  exact zz_vret zd_14_49_288 rfl (Nat.zero_le _) (Nat.zero_le _) ⟨_, rfl, G_S56, F_S56, by omega, by omega, by omega⟩
                · refine zz_bipush (by decide) zd_14_49_279 ?_
                  refine zz_goto zd_14_49_281 ?_
                  refine zz_puti zd_14_49_285 zf_Md_347 zT_1079 rfl (zz_ltn hn rfl) (fun S59 qS59 => ?_)
                  have G_S59 := zz_G.put G_S0 qS59 0 102 rfl (by omega)
                  have F_S59 := zz_fr.puts F_S0 qS59 rfl
                  have e60 : S59 1079 32 = S0 1079 32 := (zz_ro qS59 (fun h => absurd h.2 (by decide)) rfl)
                  have e61 : S59 1079 30 = 101 := (zz_rs qS59)
                  exact zz_vret zd_14_49_288 rfl (Nat.zero_le _) (Nat.zero_le _) ⟨_, rfl, G_S59, F_S59, by omega, by omega, by omega⟩
              · exfalso; omega
            · exfalso; omega
          · exfalso; omega
        · exfalso; omega
      · refine zz_aload_n (x := 1079) rfl zd_14_49_54 ?_
        refine zz_getr (kd := 0) (z := 1099) zd_14_49_55 zf_Md_76 zT_1079 rfl (zz_ltn hn rfl) (zz_G.eq G_S0 1079 27 1099 rfl rfl) (by decide) 1099 rfl ?_
        refine zz_aload_n (x := 1079) rfl zd_14_49_58 ?_
        refine zz_geti (z := S0 1079 32) zd_14_49_59 zf_Md_334 zT_1079 rfl (zz_ltn hn rfl) rfl ?_
        refine zz_iald (z := S0 1099 ((S0 1079 32).toNat)) zd_14_49_62 zT_1099 rfl (zz_ltn hn rfl) (by decide) (by omega) rfl ?_
        refine zz_goto zd_14_49_63 ?_
        refine zz_istore_n [some (.ref 1079), some (zi (S0 1079 32)), some (zi (S0 1099 ((S0 1079 32).toNat)))] zd_14_49_67 (by decide) rfl ?_
        refine zz_iload_n (x := S0 1099 ((S0 1079 32).toNat)) rfl zd_14_49_68 ?_
        refine zz_i2l (by omega) zd_14_49_69 ?_
        refine zz_ldc2 (z := 97) zq_Md_340 (by decide) zd_14_49_70 ?_
        refine zz_ldc2 (z := 122) zq_Md_342 (by decide) zd_14_49_73 ?_
        refine zz_callSI [zl (S0 1099 ((S0 1079 32).toNat)), zl 97, zl 122] zd_14_49_76 zk_Md_192 rfl rfl ⟨Nat.le_of_ble_eq_true rfl, Nat.le_of_ble_eq_true rfl⟩ ⟨rfl, rfl⟩ (Nat.zero_le _) (Nat.zero_le _) (zc_in_14_4 (S0 1099 ((S0 1079 32).toNat)) 97 122 S0 n hn G_S0 (by omega) (by omega) (by omega)) (fun v63 S62 hP => ?_)
        obtain ⟨rfl, o64, o65⟩ := hP
        rcases (by omega : v63 = 0 ∨ v63 = 1) with rfl | rfl
        · refine zz_if_eq (by omega) zd_14_49_79 (fun c66 => ?_) (fun c66 => ?_)
          · refine zz_iload_n (x := S0 1099 ((S0 1079 32).toNat)) rfl zd_14_49_144 ?_
            refine zz_i2l (by omega) zd_14_49_145 ?_
            refine zz_ldc2 (z := 48) zq_Md_350 (by decide) zd_14_49_146 ?_
            refine zz_ldc2 (z := 57) zq_Md_352 (by decide) zd_14_49_149 ?_
            refine zz_callSI [zl (S0 1099 ((S0 1079 32).toNat)), zl 48, zl 57] zd_14_49_152 zk_Md_192 rfl rfl ⟨Nat.le_of_ble_eq_true rfl, Nat.le_of_ble_eq_true rfl⟩ ⟨rfl, rfl⟩ (Nat.zero_le _) (Nat.zero_le _) (zc_in_14_4 (S0 1099 ((S0 1079 32).toNat)) 48 57 S0 n hn G_S0 (by omega) (by omega) (by omega)) (fun v68 S67 hP => ?_)
            obtain ⟨rfl, o69, o70⟩ := hP
            rcases (by omega : v68 = 0 ∨ v68 = 1) with rfl | rfl
            · refine zz_if_eq (by omega) zd_14_49_155 (fun c71 => ?_) (fun c71 => ?_)
              · refine zz_aload_n (x := 1079) rfl zd_14_49_267 ?_
                refine zz_aload_n (x := 1079) rfl zd_14_49_268 ?_
                refine zz_geti (z := S0 1079 32) zd_14_49_269 zf_Md_334 zT_1079 rfl (zz_ltn hn rfl) rfl ?_
                refine zz_aload_n (x := 1079) rfl zd_14_49_272 ?_
                refine zz_geti (z := S0 1079 33) zd_14_49_273 zf_Md_337 zT_1079 rfl (zz_ltn hn rfl) rfl ?_
                refine zz_icmp_ge (by omega) (by omega) zd_14_49_276 (fun c72 => ?_) (fun c72 => ?_)
                · refine zz_iconst zd_14_49_284 ?_
                  refine zz_puti zd_14_49_285 zf_Md_347 zT_1079 rfl (zz_ltn hn rfl) (fun S73 qS73 => ?_)
                  have G_S73 := zz_G.put G_S0 qS73 0 102 rfl (by omega)
                  have F_S73 := zz_fr.puts F_S0 qS73 rfl
                  have e74 : S73 1079 32 = S0 1079 32 := (zz_ro qS73 (fun h => absurd h.2 (by decide)) rfl)
                  have e75 : S73 1079 30 = 0 := (zz_rs qS73)
                  exact zz_vret zd_14_49_288 rfl (Nat.zero_le _) (Nat.zero_le _) ⟨_, rfl, G_S73, F_S73, by omega, by omega, by omega⟩
                · refine zz_bipush (by decide) zd_14_49_279 ?_
                  refine zz_goto zd_14_49_281 ?_
                  refine zz_puti zd_14_49_285 zf_Md_347 zT_1079 rfl (zz_ltn hn rfl) (fun S76 qS76 => ?_)
                  have G_S76 := zz_G.put G_S0 qS76 0 102 rfl (by omega)
                  have F_S76 := zz_fr.puts F_S0 qS76 rfl
                  have e77 : S76 1079 32 = S0 1079 32 := (zz_ro qS76 (fun h => absurd h.2 (by decide)) rfl)
                  have e78 : S76 1079 30 = 101 := (zz_rs qS76)
                  exact zz_vret zd_14_49_288 rfl (Nat.zero_le _) (Nat.zero_le _) ⟨_, rfl, G_S76, F_S76, by omega, by omega, by omega⟩
              · exfalso; omega
            · refine zz_if_eq (by omega) zd_14_49_155 (fun c79 => ?_) (fun c79 => ?_)
              · exfalso; omega
              · refine zz_iconst zd_14_49_158 ?_
                refine zz_istore_n [some (.ref 1079), some (zi (S0 1079 32)), some (zi (S0 1099 ((S0 1079 32).toNat))), some (zi 0)] zd_14_49_159 (by decide) rfl ?_
                refine zz_less (ls1 := [some (.ref 1079), some (zi (S0 1079 32)), none, some (zi 0)]) ⟨rfl, ⟨rfl, ⟨rfl, trivial⟩⟩⟩ ?_
                exact k160 (S0 1079 32) 0 S0 G_S0 F_S0 (by omega) (by omega) (by omega) (by omega) (by omega) (by omega)
          · exfalso; omega
        · refine zz_if_eq (by omega) zd_14_49_79 (fun c80 => ?_) (fun c80 => ?_)
          · exfalso; omega
          · refine zz_less (ls1 := [some (.ref 1079), some (zi (S0 1079 32))]) ⟨rfl, ⟨rfl, trivial⟩⟩ ?_
            exact k82 (S0 1079 32) S0 G_S0 F_S0 (by omega) (by omega) (by omega) (by omega)
    · refine zz_aload_n (x := 1079) rfl zd_14_49_25 ?_
      refine zz_dup rfl zd_14_49_26 ?_
      refine zz_geti (z := S0 1079 32) zd_14_49_27 zf_Md_334 zT_1079 rfl (zz_ltn hn rfl) rfl ?_
      refine zz_iconst zd_14_49_30 ?_
      refine zz_iadd zd_14_49_31 ?_
      refine zz_puti zd_14_49_32 zf_Md_334 zT_1079 rfl (zz_ltn hn rfl) (fun S81 qS81 => ?_)
      have G_S81 := zz_G.put G_S0 qS81 0 1500 rfl (by omega)
      have F_S81 := zz_fr.puts F_S0 qS81 rfl
      refine zz_goto zd_14_49_35 ?_
      have e82 : S81 1079 32 = (S0 1079 32) + 1 := (zz_rs qS81)
      exact k0 S81 G_S81 F_S81 (by omega) (by omega) (by omega)

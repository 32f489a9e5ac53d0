-- TensorForgeModel sayField (II)V
abbrev zr_sayField_14_60 : Room := { frames := 2, cells := 0, slots := 0, locals := 29 }
def zp_sayField_14_60 (p0 : Int) (p1 : Int) (S0 : zz_S) : zz_S → Prop := fun S => zz_G S ∧ zz_fr [(1079, 34)] [1101] (fun _ _ => False) S0 S ∧ (S 1079 34 ≤ S0 1079 34 + 14) ∧ (S 1079 34 ≥ S0 1079 34)
theorem zc_sayField_14_60 {g : mm_G} {l : Launch} (p0 : Int) (p1 : Int) (S0 : zz_S) (n : Nat) (hn : zz_end ≤ n) (G_S0 : zz_G S0) (hp0 : 0 ≤ p0 ∧ p0 ≤ 23) (hp1 : 0 ≤ p1 ∧ p1 ≤ 11) (hq : S0 1079 34 ≤ 180) : mm_Met g l zy_sayField_14_60 zr_sayField_14_60 [.ref 1079, zi p0, zi p1] (zz_M S0 n) n (zz_QV n (zp_sayField_14_60 p0 p1 S0)) := by
  refine zz_enter (by decide) (Nat.le_of_ble_eq_true rfl) (zz_less (ls1 := [some (.ref 1079), some (zi p0), some (zi p1)]) ⟨rfl, ⟨rfl, ⟨rfl, trivial⟩⟩⟩ ?_)
  have F_S0 : zz_fr [(1079, 34)] [1101] (fun _ _ => False) S0 S0 := zz_fr.refl
  refine zz_aload_n (x := 1079) rfl zd_14_60_0 ?_
  refine zz_getr (kd := 0) (z := 1087) zd_14_60_1 zf_Md_36 zT_1079 rfl (zz_ltn hn rfl) (zz_G.eq G_S0 1079 11 1087 rfl rfl) (by decide) 1087 rfl ?_
  refine zz_iload_n (x := p1) rfl zd_14_60_4 ?_
  have g1 := zz_G.r G_S0 1087 p1.toNat (-2147483648) 2147483647 rfl rfl
  refine zz_iald (z := S0 1087 p1.toNat) zd_14_60_5 zT_1087 rfl (zz_ltn hn rfl) (by decide) (by omega) rfl ?_
  refine zz_if_eq (by omega) zd_14_60_6 (fun c2 => ?_) (fun c2 => ?_)
  · have g3 := zz_G.r G_S0 1079 34 0 200 rfl rfl
    exact zz_vret zd_14_60_31 rfl (Nat.zero_le _) (Nat.zero_le _) ⟨_, rfl, G_S0, F_S0, by omega, by omega⟩
  · refine zz_aload_n (x := 1079) rfl zd_14_60_9 ?_
    refine zz_iload_n (x := p0) rfl zd_14_60_10 ?_
    have g4 := zz_G.r G_S0 1079 34 0 200 rfl rfl
    refine zz_callVV [zi p0] zd_14_60_11 zk_Md_393 zT_1079 (zz_ltn hn rfl) rfl rfl ⟨Nat.le_of_ble_eq_true rfl, Nat.le_of_ble_eq_true rfl⟩ ⟨rfl, rfl⟩ (Nat.zero_le _) (Nat.zero_le _) (zc_sayWord_14_58 p0 S0 n hn G_S0 (by omega) (by omega)) (fun S5 hP => ?_)
    obtain ⟨G_S5, fS5, o7, o8⟩ := hP
    have F_S5 := zz_fr.trans F_S0 fS5 rfl zz_nv
    refine zz_aload_n (x := 1079) rfl zd_14_60_14 ?_
    refine zz_ldc2 (z := 32) zq_Md_327 (by decide) zd_14_60_15 ?_
    have g9 := zz_G.r G_S5 1079 34 0 200 rfl rfl
    refine zz_callVV [zl 32] zd_14_60_18 zk_Md_388 zT_1079 (zz_ltn hn rfl) rfl rfl ⟨Nat.le_of_ble_eq_true rfl, Nat.le_of_ble_eq_true rfl⟩ ⟨rfl, rfl⟩ (Nat.zero_le _) (Nat.zero_le _) (zc_say_14_57 32 S5 n hn G_S5 (by omega) (by omega)) (fun S10 hP => ?_)
    obtain ⟨G_S10, fS10, o12⟩ := hP
    have F_S10 := zz_fr.trans F_S5 fS10 rfl zz_nv
    refine zz_aload_n (x := 1079) rfl zd_14_60_21 ?_
    refine zz_aload_n (x := 1079) rfl zd_14_60_22 ?_
    refine zz_getr (kd := 0) (z := 1087) zd_14_60_23 zf_Md_36 zT_1079 rfl (zz_ltn hn rfl) (zz_G.eq G_S10 1079 11 1087 rfl rfl) (by decide) 1087 rfl ?_
    refine zz_iload_n (x := p1) rfl zd_14_60_26 ?_
    refine zz_iald (z := S0 1087 p1.toNat) zd_14_60_27 zT_1087 rfl (zz_ltn hn rfl) (by decide) (by omega) (zz_rc fS10 (zz_nc1 rfl) rfl (fun h => h) (zz_rc fS5 (zz_nc1 rfl) rfl (fun h => h) rfl)) ?_
    have g13 := zz_G.r G_S10 1079 34 0 200 rfl rfl
    refine zz_callVV [zi (S0 1087 p1.toNat)] zd_14_60_28 zk_Md_396 zT_1079 (zz_ltn hn rfl) rfl rfl ⟨Nat.le_of_ble_eq_true rfl, Nat.le_of_ble_eq_true rfl⟩ ⟨rfl, rfl⟩ (Nat.zero_le _) (Nat.zero_le _) (zc_sayNumber_14_59 (S0 1087 p1.toNat) S10 n hn G_S10 (by omega) (by omega)) (fun S14 hP => ?_)
    obtain ⟨G_S14, fS14, o16, o17⟩ := hP
    have F_S14 := zz_fr.trans F_S10 fS14 rfl zz_nv
    have g18 := zz_G.r G_S14 1079 34 0 200 rfl rfl
    exact zz_vret zd_14_60_31 rfl (Nat.zero_le _) (Nat.zero_le _) ⟨_, rfl, G_S14, F_S14, by omega, by omega⟩
abbrev zy_sayFlag_14_61 : mm_Y := (⟨"TensorForgeModel", "sayFlag", "(I)V"⟩, prog_14_method_61_code, 2, none)
theorem zyw_sayFlag_14_61 : mm_Yw zy_sayFlag_14_61 1 := ⟨mm_tb_1 2071 (by decide +kernel) rfl, mm_tb_1 12 (by decide +kernel) rfl, ⟨by decide, by decide⟩, by decide +kernel⟩
theorem zd_14_61_0 : zz_D zy_sayFlag_14_61 0 (.aload_n 0) 1 1 := ⟨by decide +kernel, rfl⟩
theorem zd_14_61_1 : zz_D zy_sayFlag_14_61 1 (.getfield 36) 3 4 := ⟨by decide +kernel, rfl⟩
theorem zd_14_61_4 : zz_D zy_sayFlag_14_61 4 (.iload_n 1) 1 5 := ⟨by decide +kernel, rfl⟩
theorem zd_14_61_5 : zz_D zy_sayFlag_14_61 5 (.iaload) 1 6 := ⟨by decide +kernel, rfl⟩
theorem zd_14_61_6 : zz_B zy_sayFlag_14_61 6 (Instr.ifCond .eq) 43 9 := ⟨37, by decide +kernel, rfl, rfl⟩
theorem zd_14_61_43 : zz_D zy_sayFlag_14_61 43 (.return_) 1 44 := ⟨by decide +kernel, rfl⟩
theorem zd_14_61_9 : zz_D zy_sayFlag_14_61 9 (.aload_n 0) 1 10 := ⟨by decide +kernel, rfl⟩
theorem zd_14_61_10 : zz_D zy_sayFlag_14_61 10 (.iload_n 1) 1 11 := ⟨by decide +kernel, rfl⟩
theorem zd_14_61_11 : zz_D zy_sayFlag_14_61 11 (.iconst 3) 1 12 := ⟨by decide +kernel, rfl⟩
theorem zd_14_61_12 : zz_B zy_sayFlag_14_61 12 (Instr.if_icmp .ge) 20 15 := ⟨8, by decide +kernel, rfl, rfl⟩
theorem zd_14_61_20 : zz_D zy_sayFlag_14_61 20 (.bipush 18) 2 22 := ⟨by decide +kernel, rfl⟩
theorem zd_14_61_22 : zz_D zy_sayFlag_14_61 22 (.invokevirtual 393) 3 25 := ⟨by decide +kernel, rfl⟩
theorem zd_14_61_25 : zz_D zy_sayFlag_14_61 25 (.aload_n 0) 1 26 := ⟨by decide +kernel, rfl⟩
theorem zd_14_61_26 : zz_D zy_sayFlag_14_61 26 (.iload_n 1) 1 27 := ⟨by decide +kernel, rfl⟩
theorem zd_14_61_27 : zz_D zy_sayFlag_14_61 27 (.iconst 2) 1 28 := ⟨by decide +kernel, rfl⟩
theorem zd_14_61_28 : zz_D zy_sayFlag_14_61 28 (.irem) 1 29 := ⟨by decide +kernel, rfl⟩
theorem zd_14_61_29 : zz_D zy_sayFlag_14_61 29 (.iconst 1) 1 30 := ⟨by decide +kernel, rfl⟩
theorem zd_14_61_30 : zz_B zy_sayFlag_14_61 30 (Instr.if_icmp .ne) 38 33 := ⟨8, by decide +kernel, rfl, rfl⟩
theorem zd_14_61_38 : zz_D zy_sayFlag_14_61 38 (.bipush 20) 2 40 := ⟨by decide +kernel, rfl⟩
theorem zd_14_61_40 : zz_D zy_sayFlag_14_61 40 (.invokevirtual 393) 3 43 := ⟨by decide +kernel, rfl⟩
theorem zd_14_61_33 : zz_D zy_sayFlag_14_61 33 (.bipush 19) 2 35 := ⟨by decide +kernel, rfl⟩
theorem zd_14_61_35 : zz_B zy_sayFlag_14_61 35 Instr.goto 40 38 := ⟨5, by decide +kernel, rfl, rfl⟩
theorem zd_14_61_15 : zz_D zy_sayFlag_14_61 15 (.bipush 17) 2 17 := ⟨by decide +kernel, rfl⟩
theorem zd_14_61_17 : zz_B zy_sayFlag_14_61 17 Instr.goto 22 20 := ⟨5, by decide +kernel, rfl, rfl⟩
-- TensorForgeModel sayFlag (I)V
abbrev zr_sayFlag_14_61 : Room := { frames := 2, cells := 0, slots := 0, locals := 29 }
def zp_sayFlag_14_61 (p0 : Int) (S0 : zz_S) : zz_S → Prop := fun S => zz_G S ∧ zz_fr [(1079, 34)] [1101] (fun _ _ => False) S0 S ∧ (S 1079 34 ≤ S0 1079 34 + 18) ∧ (S 1079 34 ≥ S0 1079 34)
theorem zc_sayFlag_14_61 {g : mm_G} {l : Launch} (p0 : Int) (S0 : zz_S) (n : Nat) (hn : zz_end ≤ n) (G_S0 : zz_G S0) (hp0 : 0 ≤ p0 ∧ p0 ≤ 11) (hq : S0 1079 34 ≤ 180) : mm_Met g l zy_sayFlag_14_61 zr_sayFlag_14_61 [.ref 1079, zi p0] (zz_M S0 n) n (zz_QV n (zp_sayFlag_14_61 p0 S0)) := by
  refine zz_enter (by decide) (Nat.le_of_ble_eq_true rfl) (zz_less (ls1 := [some (.ref 1079), some (zi p0)]) ⟨rfl, ⟨rfl, trivial⟩⟩ ?_)
  have F_S0 : zz_fr [(1079, 34)] [1101] (fun _ _ => False) S0 S0 := zz_fr.refl
  refine zz_aload_n (x := 1079) rfl zd_14_61_0 ?_
  refine zz_getr (kd := 0) (z := 1087) zd_14_61_1 zf_Md_36 zT_1079 rfl (zz_ltn hn rfl) (zz_G.eq G_S0 1079 11 1087 rfl rfl) (by decide) 1087 rfl ?_
  refine zz_iload_n (x := p0) rfl zd_14_61_4 ?_
  have g1 := zz_G.r G_S0 1087 p0.toNat (-2147483648) 2147483647 rfl rfl
  refine zz_iald (z := S0 1087 p0.toNat) zd_14_61_5 zT_1087 rfl (zz_ltn hn rfl) (by decide) (by omega) rfl ?_
  refine zz_if_eq (by omega) zd_14_61_6 (fun c2 => ?_) (fun c2 => ?_)
  · have g3 := zz_G.r G_S0 1079 34 0 200 rfl rfl
    exact zz_vret zd_14_61_43 rfl (Nat.zero_le _) (Nat.zero_le _) ⟨_, rfl, G_S0, F_S0, by omega, by omega⟩
  · refine zz_aload_n (x := 1079) rfl zd_14_61_9 ?_
    refine zz_iload_n (x := p0) rfl zd_14_61_10 ?_
    refine zz_iconst zd_14_61_11 ?_
    refine zz_icmp_ge (by omega) (by omega) zd_14_61_12 (fun c4 => ?_) (fun c4 => ?_)
    · refine zz_bipush (by decide) zd_14_61_20 ?_
      have g5 := zz_G.r G_S0 1079 34 0 200 rfl rfl
      refine zz_callVV [zi 18] zd_14_61_22 zk_Md_393 zT_1079 (zz_ltn hn rfl) rfl rfl ⟨Nat.le_of_ble_eq_true rfl, Nat.le_of_ble_eq_true rfl⟩ ⟨rfl, rfl⟩ (Nat.zero_le _) (Nat.zero_le _) (zc_sayWord_14_58 18 S0 n hn G_S0 (by omega) (by omega)) (fun S6 hP => ?_)
      obtain ⟨G_S6, fS6, o8, o9⟩ := hP
      have F_S6 := zz_fr.trans F_S0 fS6 rfl zz_nv
      refine zz_aload_n (x := 1079) rfl zd_14_61_25 ?_
      refine zz_iload_n (x := p0) rfl zd_14_61_26 ?_
      refine zz_iconst zd_14_61_27 ?_
      refine zz_irem (by omega) (by omega) zd_14_61_28 (fun v10 hv10 av10 bv10 cv10 => ?_)
      refine zz_iconst zd_14_61_29 ?_
      refine zz_icmp_ne (by omega) (by omega) zd_14_61_30 (fun c11 => ?_) (fun c11 => ?_)
      · refine zz_bipush (by decide) zd_14_61_38 ?_
        have g12 := zz_G.r G_S6 1079 34 0 200 rfl rfl
        refine zz_callVV [zi 20] zd_14_61_40 zk_Md_393 zT_1079 (zz_ltn hn rfl) rfl rfl ⟨Nat.le_of_ble_eq_true rfl, Nat.le_of_ble_eq_true rfl⟩ ⟨rfl, rfl⟩ (Nat.zero_le _) (Nat.zero_le _) (zc_sayWord_14_58 20 S6 n hn G_S6 (by omega) (by omega)) (fun S13 hP => ?_)
        obtain ⟨G_S13, fS13, o15, o16⟩ := hP
        have F_S13 := zz_fr.trans F_S6 fS13 rfl zz_nv
        have g17 := zz_G.r G_S13 1079 34 0 200 rfl rfl
        exact zz_vret zd_14_61_43 rfl (Nat.zero_le _) (Nat.zero_le _) ⟨_, rfl, G_S13, F_S13, by omega, by omega⟩
      · refine zz_bipush (by decide) zd_14_61_33 ?_
        refine zz_goto zd_14_61_35 ?_
        have g18 := zz_G.r G_S6 1079 34 0 200 rfl rfl
        refine zz_callVV [zi 19] zd_14_61_40 zk_Md_393 zT_1079 (zz_ltn hn rfl) rfl rfl ⟨Nat.le_of_ble_eq_true rfl, Nat.le_of_ble_eq_true rfl⟩ ⟨rfl, rfl⟩ (Nat.zero_le _) (Nat.zero_le _) (zc_sayWord_14_58 19 S6 n hn G_S6 (by omega) (by omega)) (fun S19 hP => ?_)
        obtain ⟨G_S19, fS19, o21, o22⟩ := hP
        have F_S19 := zz_fr.trans F_S6 fS19 rfl zz_nv
        have g23 := zz_G.r G_S19 1079 34 0 200 rfl rfl
        exact zz_vret zd_14_61_43 rfl (Nat.zero_le _) (Nat.zero_le _) ⟨_, rfl, G_S19, F_S19, by omega, by omega⟩
    · refine zz_bipush (by decide) zd_14_61_15 ?_
      refine zz_goto zd_14_61_17 ?_
      have g24 := zz_G.r G_S0 1079 34 0 200 rfl rfl
      refine zz_callVV [zi 17] zd_14_61_22 zk_Md_393 zT_1079 (zz_ltn hn rfl) rfl rfl ⟨Nat.le_of_ble_eq_true rfl, Nat.le_of_ble_eq_true rfl⟩ ⟨rfl, rfl⟩ (Nat.zero_le _) (Nat.zero_le _) (zc_sayWord_14_58 17 S0 n hn G_S0 (by omega) (by omega)) (fun S25 hP => ?_)
      obtain ⟨G_S25, fS25, o27, o28⟩ := hP
      have F_S25 := zz_fr.trans F_S0 fS25 rfl zz_nv
      refine zz_aload_n (x := 1079) rfl zd_14_61_25 ?_
      refine zz_iload_n (x := p0) rfl zd_14_61_26 ?_
      refine zz_iconst zd_14_61_27 ?_
      refine zz_irem (by omega) (by omega) zd_14_61_28 (fun v29 hv29 av29 bv29 cv29 => ?_)
      refine zz_iconst zd_14_61_29 ?_
      refine zz_icmp_ne (by omega) (by omega) zd_14_61_30 (fun c30 => ?_) (fun c30 => ?_)
      · refine zz_bipush (by decide) zd_14_61_38 ?_
        have g31 := zz_G.r G_S25 1079 34 0 200 rfl rfl
        refine zz_callVV [zi 20] zd_14_61_40 zk_Md_393 zT_1079 (zz_ltn hn rfl) rfl rfl ⟨Nat.le_of_ble_eq_true rfl, Nat.le_of_ble_eq_true rfl⟩ ⟨rfl, rfl⟩ (Nat.zero_le _) (Nat.zero_le _) (zc_sayWord_14_58 20 S25 n hn G_S25 (by omega) (by omega)) (fun S32 hP => ?_)
        obtain ⟨G_S32, fS32, o34, o35⟩ := hP
        have F_S32 := zz_fr.trans F_S25 fS32 rfl zz_nv
        have g36 := zz_G.r G_S32 1079 34 0 200 rfl rfl
        exact zz_vret zd_14_61_43 rfl (Nat.zero_le _) (Nat.zero_le _) ⟨_, rfl, G_S32, F_S32, by omega, by omega⟩
      · refine zz_bipush (by decide) zd_14_61_33 ?_
        refine zz_goto zd_14_61_35 ?_
        have g37 := zz_G.r G_S25 1079 34 0 200 rfl rfl
        refine zz_callVV [zi 19] zd_14_61_40 zk_Md_393 zT_1079 (zz_ltn hn rfl) rfl rfl ⟨Nat.le_of_ble_eq_true rfl, Nat.le_of_ble_eq_true rfl⟩ ⟨rfl, rfl⟩ (Nat.zero_le _) (Nat.zero_le _) (zc_sayWord_14_58 19 S25 n hn G_S25 (by omega) (by omega)) (fun S38 hP => ?_)
        obtain ⟨G_S38, fS38, o40, o41⟩ := hP
        have F_S38 := zz_fr.trans F_S25 fS38 rfl zz_nv
        have g42 := zz_G.r G_S38 1079 34 0 200 rfl rfl
        exact zz_vret zd_14_61_43 rfl (Nat.zero_le _) (Nat.zero_le _) ⟨_, rfl, G_S38, F_S38, by omega, by omega⟩
abbrev zy_listing_14_62 : mm_Y := (⟨"TensorForgeModel", "listing", "(II)I"⟩, prog_14_method_62_code, 4, (some .int))
theorem zyw_listing_14_62 : mm_Yw zy_listing_14_62 2 := ⟨mm_tb_1 2049 (by decide +kernel) rfl, mm_tb_1 12 (by decide +kernel) rfl, ⟨by decide, by decide⟩, by decide +kernel⟩
theorem zd_14_62_0 : zz_D zy_listing_14_62 0 (.aload_n 0) 1 1 := ⟨by decide +kernel, rfl⟩
theorem zd_14_62_1 : zz_D zy_listing_14_62 1 (.iload_n 1) 1 2 := ⟨by decide +kernel, rfl⟩
theorem zd_14_62_2 : zz_D zy_listing_14_62 2 (.i2l) 1 3 := ⟨by decide +kernel, rfl⟩
theorem zd_14_62_3 : zz_D zy_listing_14_62 3 (.lconst 0) 1 4 := ⟨by decide +kernel, rfl⟩
theorem zd_14_62_4 : zz_D zy_listing_14_62 4 (.aload_n 0) 1 5 := ⟨by decide +kernel, rfl⟩
theorem zd_14_62_5 : zz_D zy_listing_14_62 5 (.getfield 224) 3 8 := ⟨by decide +kernel, rfl⟩
theorem zd_14_62_8 : zz_D zy_listing_14_62 8 (.iconst 1) 1 9 := ⟨by decide +kernel, rfl⟩
theorem zd_14_62_9 : zz_D zy_listing_14_62 9 (.isub) 1 10 := ⟨by decide +kernel, rfl⟩
theorem zd_14_62_10 : zz_D zy_listing_14_62 10 (.i2l) 1 11 := ⟨by decide +kernel, rfl⟩
theorem zd_14_62_11 : zz_D zy_listing_14_62 11 (.invokestatic 192) 3 14 := ⟨by decide +kernel, rfl⟩
theorem zd_14_62_14 : zz_B zy_listing_14_62 14 (Instr.ifCond .eq) 21 17 := ⟨7, by decide +kernel, rfl, rfl⟩
theorem zd_14_62_21 : zz_D zy_listing_14_62 21 (.iconst 1) 1 22 := ⟨by decide +kernel, rfl⟩
theorem zd_14_62_22 : zz_B zy_listing_14_62 22 Instr.goto 26 25 := ⟨4, by decide +kernel, rfl, rfl⟩
theorem zd_14_62_26 : zz_D zy_listing_14_62 26 (.iconst 0) 1 27 := ⟨by decide +kernel, rfl⟩
theorem zd_14_62_27 : zz_D zy_listing_14_62 27 (.iconst 0) 1 28 := ⟨by decide +kernel, rfl⟩
theorem zd_14_62_28 : zz_D zy_listing_14_62 28 (.invokevirtual 196) 3 31 := ⟨by decide +kernel, rfl⟩
theorem zd_14_62_31 : zz_B zy_listing_14_62 31 (Instr.ifCond .eq) 36 34 := ⟨5, by decide +kernel, rfl, rfl⟩
theorem zd_14_62_34 : zz_D zy_listing_14_62 34 (.iconst 0) 1 35 := ⟨by decide +kernel, rfl⟩
theorem zd_14_62_35 : zz_D zy_listing_14_62 35 (.ireturn) 1 36 := ⟨by decide +kernel, rfl⟩
theorem zd_14_62_17 : zz_D zy_listing_14_62 17 (.iload_n 2) 1 18 := ⟨by decide +kernel, rfl⟩
theorem zd_14_62_18 : zz_B zy_listing_14_62 18 (Instr.ifCond .ge) 25 21 := ⟨7, by decide +kernel, rfl, rfl⟩
theorem zd_14_62_25 : zz_D zy_listing_14_62 25 (.iconst 0) 1 26 := ⟨by decide +kernel, rfl⟩
theorem zd_14_62_36 : zz_D zy_listing_14_62 36 (.aload_n 0) 1 37 := ⟨by decide +kernel, rfl⟩
theorem zd_14_62_37 : zz_D zy_listing_14_62 37 (.aload_n 0) 1 38 := ⟨by decide +kernel, rfl⟩
theorem zd_14_62_38 : zz_D zy_listing_14_62 38 (.getfield 29) 3 41 := ⟨by decide +kernel, rfl⟩
theorem zd_14_62_41 : zz_D zy_listing_14_62 41 (.iload_n 1) 1 42 := ⟨by decide +kernel, rfl⟩
theorem zd_14_62_42 : zz_D zy_listing_14_62 42 (.laload) 1 43 := ⟨by decide +kernel, rfl⟩
theorem zd_14_62_43 : zz_D zy_listing_14_62 43 (.invokevirtual 234) 3 46 := ⟨by decide +kernel, rfl⟩
theorem zd_14_62_46 : zz_D zy_listing_14_62 46 (.aload_n 0) 1 47 := ⟨by decide +kernel, rfl⟩
theorem zd_14_62_47 : zz_D zy_listing_14_62 47 (.iconst 0) 1 48 := ⟨by decide +kernel, rfl⟩
theorem zd_14_62_48 : zz_D zy_listing_14_62 48 (.putfield 385) 3 51 := ⟨by decide +kernel, rfl⟩
theorem zd_14_62_51 : zz_D zy_listing_14_62 51 (.aload_n 0) 1 52 := ⟨by decide +kernel, rfl⟩
theorem zd_14_62_52 : zz_D zy_listing_14_62 52 (.getfield 36) 3 55 := ⟨by decide +kernel, rfl⟩
theorem zd_14_62_55 : zz_D zy_listing_14_62 55 (.iconst 0) 1 56 := ⟨by decide +kernel, rfl⟩
theorem zd_14_62_56 : zz_D zy_listing_14_62 56 (.iaload) 1 57 := ⟨by decide +kernel, rfl⟩
theorem zd_14_62_57 : zz_D zy_listing_14_62 57 (.i2l) 1 58 := ⟨by decide +kernel, rfl⟩
theorem zd_14_62_58 : zz_D zy_listing_14_62 58 (.lconst 1) 1 59 := ⟨by decide +kernel, rfl⟩
theorem zd_14_62_59 : zz_D zy_listing_14_62 59 (.ldc2_w 238) 3 62 := ⟨by decide +kernel, rfl⟩
theorem zd_14_62_62 : zz_D zy_listing_14_62 62 (.invokestatic 192) 3 65 := ⟨by decide +kernel, rfl⟩
theorem zd_14_62_65 : zz_B zy_listing_14_62 65 (Instr.ifCond .eq) 81 68 := ⟨16, by decide +kernel, rfl, rfl⟩
theorem zd_14_62_81 : zz_D zy_listing_14_62 81 (.aload_n 0) 1 82 := ⟨by decide +kernel, rfl⟩
theorem zd_14_62_82 : zz_D zy_listing_14_62 82 (.ldc2_w 399) 3 85 := ⟨by decide +kernel, rfl⟩
theorem zq_Md_399 : Cond.constantLong "TensorForgeModel" 399 (63 : Int64) ∈ mm_tb := mm_tb_1 2059 (by decide +kernel) rfl
theorem zd_14_62_85 : zz_D zy_listing_14_62 85 (.invokevirtual 388) 3 88 := ⟨by decide +kernel, rfl⟩
theorem zd_14_62_88 : zz_D zy_listing_14_62 88 (.aload_n 0) 1 89 := ⟨by decide +kernel, rfl⟩
theorem zd_14_62_89 : zz_D zy_listing_14_62 89 (.bipush 10) 2 91 := ⟨by decide +kernel, rfl⟩
theorem zd_14_62_91 : zz_D zy_listing_14_62 91 (.iconst 5) 1 92 := ⟨by decide +kernel, rfl⟩
theorem zd_14_62_92 : zz_D zy_listing_14_62 92 (.invokevirtual 401) 3 95 := ⟨by decide +kernel, rfl⟩
theorem zk_Md_401 : mm_Vl "TensorForgeModel" 401 11 2 zy_sayField_14_60 := ⟨zyw_sayField_14_60, (R_Md, F_Md, 69), rfl, mm_tb_1 2060 (by decide +kernel) rfl, mm_tb_1 2062 (by decide +kernel) rfl, mm_tb_s 117 (by decide +kernel) rfl⟩
theorem zd_14_62_95 : zz_D zy_listing_14_62 95 (.aload_n 0) 1 96 := ⟨by decide +kernel, rfl⟩
theorem zd_14_62_96 : zz_D zy_listing_14_62 96 (.getfield 36) 3 99 := ⟨by decide +kernel, rfl⟩
theorem zd_14_62_99 : zz_D zy_listing_14_62 99 (.bipush 6) 2 101 := ⟨by decide +kernel, rfl⟩
theorem zd_14_62_101 : zz_D zy_listing_14_62 101 (.iaload) 1 102 := ⟨by decide +kernel, rfl⟩
theorem zd_14_62_102 : zz_B zy_listing_14_62 102 (Instr.ifCond .ne) 115 105 := ⟨13, by decide +kernel, rfl, rfl⟩
theorem zd_14_62_115 : zz_D zy_listing_14_62 115 (.aload_n 0) 1 116 := ⟨by decide +kernel, rfl⟩
theorem zd_14_62_116 : zz_D zy_listing_14_62 116 (.bipush 11) 2 118 := ⟨by decide +kernel, rfl⟩
theorem zd_14_62_118 : zz_D zy_listing_14_62 118 (.invokevirtual 393) 3 121 := ⟨by decide +kernel, rfl⟩
theorem zd_14_62_121 : zz_D zy_listing_14_62 121 (.aload_n 0) 1 122 := ⟨by decide +kernel, rfl⟩
theorem zd_14_62_122 : zz_D zy_listing_14_62 122 (.ldc2_w 327) 3 125 := ⟨by decide +kernel, rfl⟩
theorem zd_14_62_125 : zz_D zy_listing_14_62 125 (.invokevirtual 388) 3 128 := ⟨by decide +kernel, rfl⟩
theorem zd_14_62_128 : zz_D zy_listing_14_62 128 (.aload_n 0) 1 129 := ⟨by decide +kernel, rfl⟩
theorem zd_14_62_129 : zz_D zy_listing_14_62 129 (.aload_n 0) 1 130 := ⟨by decide +kernel, rfl⟩
theorem zd_14_62_130 : zz_D zy_listing_14_62 130 (.getfield 36) 3 133 := ⟨by decide +kernel, rfl⟩
theorem zd_14_62_133 : zz_D zy_listing_14_62 133 (.bipush 6) 2 135 := ⟨by decide +kernel, rfl⟩
theorem zd_14_62_135 : zz_D zy_listing_14_62 135 (.iaload) 1 136 := ⟨by decide +kernel, rfl⟩
theorem zd_14_62_136 : zz_D zy_listing_14_62 136 (.invokevirtual 396) 3 139 := ⟨by decide +kernel, rfl⟩
theorem zd_14_62_139 : zz_D zy_listing_14_62 139 (.aload_n 0) 1 140 := ⟨by decide +kernel, rfl⟩
theorem zd_14_62_140 : zz_D zy_listing_14_62 140 (.bipush 12) 2 142 := ⟨by decide +kernel, rfl⟩
theorem zd_14_62_142 : zz_D zy_listing_14_62 142 (.invokevirtual 393) 3 145 := ⟨by decide +kernel, rfl⟩
theorem zd_14_62_145 : zz_D zy_listing_14_62 145 (.aload_n 0) 1 146 := ⟨by decide +kernel, rfl⟩
theorem zd_14_62_146 : zz_D zy_listing_14_62 146 (.ldc2_w 327) 3 149 := ⟨by decide +kernel, rfl⟩
theorem zd_14_62_149 : zz_D zy_listing_14_62 149 (.invokevirtual 388) 3 152 := ⟨by decide +kernel, rfl⟩
theorem zd_14_62_152 : zz_D zy_listing_14_62 152 (.aload_n 0) 1 153 := ⟨by decide +kernel, rfl⟩
theorem zd_14_62_153 : zz_D zy_listing_14_62 153 (.aload_n 0) 1 154 := ⟨by decide +kernel, rfl⟩
theorem zd_14_62_154 : zz_D zy_listing_14_62 154 (.getfield 36) 3 157 := ⟨by decide +kernel, rfl⟩
theorem zd_14_62_157 : zz_D zy_listing_14_62 157 (.bipush 7) 2 159 := ⟨by decide +kernel, rfl⟩
theorem zd_14_62_159 : zz_D zy_listing_14_62 159 (.iaload) 1 160 := ⟨by decide +kernel, rfl⟩
theorem zd_14_62_160 : zz_D zy_listing_14_62 160 (.invokevirtual 396) 3 163 := ⟨by decide +kernel, rfl⟩
theorem zd_14_62_163 : zz_D zy_listing_14_62 163 (.aload_n 0) 1 164 := ⟨by decide +kernel, rfl⟩
theorem zd_14_62_164 : zz_D zy_listing_14_62 164 (.bipush 13) 2 166 := ⟨by decide +kernel, rfl⟩
theorem zd_14_62_166 : zz_D zy_listing_14_62 166 (.bipush 8) 2 168 := ⟨by decide +kernel, rfl⟩
theorem zd_14_62_168 : zz_D zy_listing_14_62 168 (.invokevirtual 401) 3 171 := ⟨by decide +kernel, rfl⟩
theorem zd_14_62_171 : zz_D zy_listing_14_62 171 (.aload_n 0) 1 172 := ⟨by decide +kernel, rfl⟩
theorem zd_14_62_172 : zz_D zy_listing_14_62 172 (.bipush 14) 2 174 := ⟨by decide +kernel, rfl⟩
theorem zd_14_62_174 : zz_D zy_listing_14_62 174 (.bipush 9) 2 176 := ⟨by decide +kernel, rfl⟩
theorem zd_14_62_176 : zz_D zy_listing_14_62 176 (.invokevirtual 401) 3 179 := ⟨by decide +kernel, rfl⟩
theorem zd_14_62_179 : zz_D zy_listing_14_62 179 (.aload_n 0) 1 180 := ⟨by decide +kernel, rfl⟩
theorem zd_14_62_180 : zz_D zy_listing_14_62 180 (.bipush 15) 2 182 := ⟨by decide +kernel, rfl⟩
theorem zd_14_62_182 : zz_D zy_listing_14_62 182 (.bipush 10) 2 184 := ⟨by decide +kernel, rfl⟩
theorem zd_14_62_184 : zz_D zy_listing_14_62 184 (.invokevirtual 401) 3 187 := ⟨by decide +kernel, rfl⟩
theorem zd_14_62_187 : zz_D zy_listing_14_62 187 (.aload_n 0) 1 188 := ⟨by decide +kernel, rfl⟩
theorem zd_14_62_188 : zz_D zy_listing_14_62 188 (.bipush 16) 2 190 := ⟨by decide +kernel, rfl⟩
theorem zd_14_62_190 : zz_D zy_listing_14_62 190 (.bipush 11) 2 192 := ⟨by decide +kernel, rfl⟩
theorem zd_14_62_192 : zz_D zy_listing_14_62 192 (.invokevirtual 401) 3 195 := ⟨by decide +kernel, rfl⟩
theorem zd_14_62_195 : zz_D zy_listing_14_62 195 (.iconst 1) 1 196 := ⟨by decide +kernel, rfl⟩
theorem zd_14_62_196 : zz_D zy_listing_14_62 196 (.istore_n 3) 1 197 := ⟨by decide +kernel, rfl⟩
theorem zd_14_62_105 : zz_D zy_listing_14_62 105 (.aload_n 0) 1 106 := ⟨by decide +kernel, rfl⟩
theorem zd_14_62_106 : zz_D zy_listing_14_62 106 (.getfield 36) 3 109 := ⟨by decide +kernel, rfl⟩
theorem zd_14_62_109 : zz_D zy_listing_14_62 109 (.bipush 7) 2 111 := ⟨by decide +kernel, rfl⟩
theorem zd_14_62_111 : zz_D zy_listing_14_62 111 (.iaload) 1 112 := ⟨by decide +kernel, rfl⟩
theorem zd_14_62_112 : zz_B zy_listing_14_62 112 (Instr.ifCond .eq) 163 115 := ⟨51, by decide +kernel, rfl, rfl⟩
theorem zd_14_62_68 : zz_D zy_listing_14_62 68 (.aload_n 0) 1 69 := ⟨by decide +kernel, rfl⟩
theorem zd_14_62_69 : zz_D zy_listing_14_62 69 (.aload_n 0) 1 70 := ⟨by decide +kernel, rfl⟩
theorem zd_14_62_70 : zz_D zy_listing_14_62 70 (.getfield 36) 3 73 := ⟨by decide +kernel, rfl⟩
theorem zd_14_62_73 : zz_D zy_listing_14_62 73 (.iconst 0) 1 74 := ⟨by decide +kernel, rfl⟩
theorem zd_14_62_74 : zz_D zy_listing_14_62 74 (.iaload) 1 75 := ⟨by decide +kernel, rfl⟩
theorem zd_14_62_75 : zz_D zy_listing_14_62 75 (.invokevirtual 393) 3 78 := ⟨by decide +kernel, rfl⟩
theorem zd_14_62_78 : zz_B zy_listing_14_62 78 Instr.goto 88 81 := ⟨10, by decide +kernel, rfl, rfl⟩
theorem zd_14_62_197 : zz_D zy_listing_14_62 197 (.iload_n 3) 1 198 := ⟨by decide +kernel, rfl⟩
theorem zd_14_62_198 : zz_D zy_listing_14_62 198 (.iconst 5) 1 199 := ⟨by decide +kernel, rfl⟩
theorem zd_14_62_199 : zz_B zy_listing_14_62 199 (Instr.if_icmp .ge) 213 202 := ⟨14, by decide +kernel, rfl, rfl⟩
theorem zd_14_62_202 : zz_D zy_listing_14_62 202 (.aload_n 0) 1 203 := ⟨by decide +kernel, rfl⟩
theorem zd_14_62_203 : zz_D zy_listing_14_62 203 (.iload_n 3) 1 204 := ⟨by decide +kernel, rfl⟩
theorem zd_14_62_204 : zz_D zy_listing_14_62 204 (.invokevirtual 404) 3 207 := ⟨by decide +kernel, rfl⟩
theorem zk_Md_404 : mm_Vl "TensorForgeModel" 404 11 1 zy_sayFlag_14_61 := ⟨zyw_sayFlag_14_61, (R_Md, F_Md, 69), rfl, mm_tb_1 2068 (by decide +kernel) rfl, mm_tb_1 2070 (by decide +kernel) rfl, mm_tb_s 119 (by decide +kernel) rfl⟩
theorem zd_14_62_207 : zz_D zy_listing_14_62 207 (.iinc 3 1) 3 210 := ⟨by decide +kernel, rfl⟩
theorem zd_14_62_210 : zz_B zy_listing_14_62 210 Instr.goto 197 213 := ⟨(-13), by decide +kernel, rfl, rfl⟩
theorem zd_14_62_213 : zz_D zy_listing_14_62 213 (.aload_n 0) 1 214 := ⟨by decide +kernel, rfl⟩
theorem zd_14_62_214 : zz_D zy_listing_14_62 214 (.ldc2_w 407) 3 217 := ⟨by decide +kernel, rfl⟩
theorem zq_Md_407 : Cond.constantLong "TensorForgeModel" 407 (10 : Int64) ∈ mm_tb := mm_tb_1 2072 (by decide +kernel) rfl
theorem zd_14_62_217 : zz_D zy_listing_14_62 217 (.invokevirtual 388) 3 220 := ⟨by decide +kernel, rfl⟩
theorem zd_14_62_220 : zz_D zy_listing_14_62 220 (.iload_n 2) 1 221 := ⟨by decide +kernel, rfl⟩
theorem zd_14_62_221 : zz_D zy_listing_14_62 221 (.aload_n 0) 1 222 := ⟨by decide +kernel, rfl⟩
theorem zd_14_62_222 : zz_D zy_listing_14_62 222 (.getfield 385) 3 225 := ⟨by decide +kernel, rfl⟩
theorem zd_14_62_225 : zz_B zy_listing_14_62 225 (Instr.if_icmp .ge) 237 228 := ⟨12, by decide +kernel, rfl, rfl⟩
theorem zd_14_62_237 : zz_D zy_listing_14_62 237 (.iconst (-1)) 1 238 := ⟨by decide +kernel, rfl⟩
theorem zd_14_62_238 : zz_D zy_listing_14_62 238 (.ireturn) 1 239 := ⟨by decide +kernel, rfl⟩
theorem zd_14_62_228 : zz_D zy_listing_14_62 228 (.aload_n 0) 1 229 := ⟨by decide +kernel, rfl⟩
theorem zd_14_62_229 : zz_D zy_listing_14_62 229 (.getfield 82) 3 232 := ⟨by decide +kernel, rfl⟩
theorem zd_14_62_232 : zz_D zy_listing_14_62 232 (.iload_n 2) 1 233 := ⟨by decide +kernel, rfl⟩
theorem zd_14_62_233 : zz_D zy_listing_14_62 233 (.iaload) 1 234 := ⟨by decide +kernel, rfl⟩
theorem zd_14_62_234 : zz_B zy_listing_14_62 234 Instr.goto 238 237 := ⟨4, by decide +kernel, rfl, rfl⟩
-- TensorForgeModel listing (II)I
abbrev zr_listing_14_62 : Room := { frames := 3, cells := 0, slots := 0, locals := 49 }
def zp_listing_14_62 (p0 : Int) (p1 : Int) (S0 : zz_S) : Int → zz_S → Prop := fun r S => zz_G S ∧ zz_fr [(1079, 0), (1079, 34), (1087, 0), (1087, 1), (1087, 2), (1087, 3), (1087, 4), (1087, 5), (1087, 6), (1087, 7), (1087, 8), (1087, 9), (1087, 10), (1087, 11)] [1101] (fun _ _ => False) S0 S ∧ ((-2147483648) ≤ r ∧ r ≤ 2147483647)
theorem zb_listing_14_62_197 {g : mm_G} {l : Launch} (p0 : Int) (p1 : Int) (S0 : zz_S) (n : Nat) (hn : zz_end ≤ n) (G_S0 : zz_G S0) (hp0 : (-2147483648) ≤ p0 ∧ p0 ≤ 2147483647) (hp1 : (-2147483648) ≤ p1 ∧ p1 ≤ 2147483647) (x3 : Int) (S : zz_S) (G_S : zz_G S) (F_S : zz_fr [(1079, 0), (1079, 34), (1087, 0), (1087, 1), (1087, 2), (1087, 3), (1087, 4), (1087, 5), (1087, 6), (1087, 7), (1087, 8), (1087, 9), (1087, 10), (1087, 11)] [1101] (fun _ _ => False) S0 S) (i197_0 : 1 ≤ x3 ∧ x3 ≤ 5) (i197_1 : (1 = 1 ∧ 0 ≤ p0 ∧ p0 ≤ ((S0 1079 7) - 1)) ∨ (1 = 0 ∧ (p0 < 0 ∨ ((S0 1079 7) - 1) < p0))) (i197_2 : p1 ≥ 0) (i197_3 : 0 ≤ p0 ∧ p0 ≤ 599) (i197_4 : 0 ≤ p1 ∧ p1 ≤ 2147483647) (i197_5 : S 1079 34 ≤ 107 + 18 * (x3 - 1)) (R : Nat) (hR : (5 - x3).toNat = R) (k197 : ∀ (x3 : Int) (S : zz_S), zz_G S → zz_fr [(1079, 0), (1079, 34), (1087, 0), (1087, 1), (1087, 2), (1087, 3), (1087, 4), (1087, 5), (1087, 6), (1087, 7), (1087, 8), (1087, 9), (1087, 10), (1087, 11)] [1101] (fun _ _ => False) S0 S → (1 ≤ x3 ∧ x3 ≤ 5) → ((1 = 1 ∧ 0 ≤ p0 ∧ p0 ≤ ((S0 1079 7) - 1)) ∨ (1 = 0 ∧ (p0 < 0 ∨ ((S0 1079 7) - 1) < p0))) → (p1 ≥ 0) → (0 ≤ p0 ∧ p0 ≤ 599) → (0 ≤ p1 ∧ p1 ≤ 2147483647) → (S 1079 34 ≤ 107 + 18 * (x3 - 1)) → (5 - x3).toNat < R → zz_E g l zy_listing_14_62 zr_listing_14_62 (zz_QI n (zp_listing_14_62 p0 p1 S0)) S n 197 [some (.ref 1079), none, some (zi p1), some (zi x3)] [] 0 0) : zz_E g l zy_listing_14_62 zr_listing_14_62 (zz_QI n (zp_listing_14_62 p0 p1 S0)) S n 197 [some (.ref 1079), none, some (zi p1), some (zi x3)] [] 0 0 := by
  refine zz_iload_n (x := x3) rfl zd_14_62_197 ?_
  refine zz_iconst zd_14_62_198 ?_
  refine zz_icmp_ge (by omega) (by omega) zd_14_62_199 (fun c317 => ?_) (fun c317 => ?_)
  · refine zz_aload_n (x := 1079) rfl zd_14_62_213 ?_
    refine zz_ldc2 (z := 10) zq_Md_407 (by decide) zd_14_62_214 ?_
    have g318 := zz_G.r G_S 1079 34 0 200 rfl rfl
    refine zz_callVV [zl 10] zd_14_62_217 zk_Md_388 zT_1079 (zz_ltn hn rfl) rfl rfl ⟨Nat.le_of_ble_eq_true rfl, Nat.le_of_ble_eq_true rfl⟩ ⟨rfl, rfl⟩ (Nat.zero_le _) (Nat.zero_le _) (zc_say_14_57 10 S n hn G_S (by omega) (by omega)) (fun S319 hP => ?_)
    obtain ⟨G_S319, fS319, o321⟩ := hP
    have F_S319 := zz_fr.trans F_S fS319 rfl zz_nv
    refine zz_iload_n (x := p1) rfl zd_14_62_220 ?_
    refine zz_aload_n (x := 1079) rfl zd_14_62_221 ?_
    have g322 := zz_G.r G_S319 1079 34 0 200 rfl rfl
    refine zz_geti (z := S319 1079 34) zd_14_62_222 zf_Md_385 zT_1079 rfl (zz_ltn hn rfl) rfl ?_
    refine zz_icmp_ge (by omega) (by omega) zd_14_62_225 (fun c323 => ?_) (fun c323 => ?_)
    · refine zz_iconst zd_14_62_237 ?_
      exact zz_iret zd_14_62_238 rfl (Nat.zero_le _) (Nat.zero_le _) ⟨_, _, rfl, G_S319, F_S319, by omega⟩
    · refine zz_aload_n (x := 1079) rfl zd_14_62_228 ?_
      refine zz_getr (kd := 0) (z := 1101) zd_14_62_229 zf_Md_82 zT_1079 rfl (zz_ltn hn rfl) (zz_G.eq G_S319 1079 35 1101 rfl rfl) (by decide) 1101 rfl ?_
      refine zz_iload_n (x := p1) rfl zd_14_62_232 ?_
      have g324 := zz_G.r G_S319 1101 p1.toNat (-2147483648) 2147483647 rfl rfl
      refine zz_iald (z := S319 1101 p1.toNat) zd_14_62_233 zT_1101 rfl (zz_ltn hn rfl) (by decide) (by omega) rfl ?_
      refine zz_goto zd_14_62_234 ?_
      exact zz_iret zd_14_62_238 rfl (Nat.zero_le _) (Nat.zero_le _) ⟨_, _, rfl, G_S319, F_S319, by omega⟩
  · refine zz_aload_n (x := 1079) rfl zd_14_62_202 ?_
    refine zz_iload_n (x := x3) rfl zd_14_62_203 ?_
    have g325 := zz_G.r G_S 1079 34 0 200 rfl rfl
    refine zz_callVV [zi x3] zd_14_62_204 zk_Md_404 zT_1079 (zz_ltn hn rfl) rfl rfl ⟨Nat.le_of_ble_eq_true rfl, Nat.le_of_ble_eq_true rfl⟩ ⟨rfl, rfl⟩ (Nat.zero_le _) (Nat.zero_le _) (zc_sayFlag_14_61 x3 S n hn G_S (by omega) (by omega)) (fun S326 hP => ?_)
    obtain ⟨G_S326, fS326, o328, o329⟩ := hP
    have F_S326 := zz_fr.trans F_S fS326 rfl zz_nv
    refine zz_iinc [some (.ref 1079), none, some (zi p1), some (zi (x3 + 1))] zd_14_62_207 rfl rfl ?_
    refine zz_goto zd_14_62_210 ?_
    have g330 := zz_G.r G_S326 1079 34 0 200 rfl rfl
    refine zz_less (ls1 := [some (.ref 1079), none, some (zi p1), some (zi (x3 + 1))]) ⟨rfl, ⟨rfl, ⟨rfl, trivial⟩⟩⟩ ?_
    exact k197 (x3 + 1) S326 G_S326 F_S326 (by omega) (by omega) (by omega) (by omega) (by omega) (by omega) (by omega)
theorem zi_listing_14_62 {g : mm_G} {l : Launch} (p0 : Int) (p1 : Int) (S0 : zz_S) (n : Nat) (hn : zz_end ≤ n) (G_S0 : zz_G S0) (hp0 : (-2147483648) ≤ p0 ∧ p0 ≤ 2147483647) (hp1 : (-2147483648) ≤ p1 ∧ p1 ≤ 2147483647) : ∀ N : Nat, (∀ (x3 : Int) (S : zz_S), zz_G S → zz_fr [(1079, 0), (1079, 34), (1087, 0), (1087, 1), (1087, 2), (1087, 3), (1087, 4), (1087, 5), (1087, 6), (1087, 7), (1087, 8), (1087, 9), (1087, 10), (1087, 11)] [1101] (fun _ _ => False) S0 S → (1 ≤ x3 ∧ x3 ≤ 5) → ((1 = 1 ∧ 0 ≤ p0 ∧ p0 ≤ ((S0 1079 7) - 1)) ∨ (1 = 0 ∧ (p0 < 0 ∨ ((S0 1079 7) - 1) < p0))) → (p1 ≥ 0) → (0 ≤ p0 ∧ p0 ≤ 599) → (0 ≤ p1 ∧ p1 ≤ 2147483647) → (S 1079 34 ≤ 107 + 18 * (x3 - 1)) → (5 - x3).toNat < N → zz_E g l zy_listing_14_62 zr_listing_14_62 (zz_QI n (zp_listing_14_62 p0 p1 S0)) S n 197 [some (.ref 1079), none, some (zi p1), some (zi x3)] [] 0 0) := by
  intro N
  induction N with
  | zero => exact fun x3 S _ _ _ _ _ _ _ _ h => absurd h (Nat.not_lt_zero _)
  | succ N ih =>
    exact fun x3 S a b j0 j1 j2 j3 j4 j5 hR => zb_listing_14_62_197 p0 p1 S0 n hn G_S0 hp0 hp1 x3 S a b j0 j1 j2 j3 j4 j5 _ rfl (fun x3 S a b j0 j1 j2 j3 j4 j5 h => ih x3 S a b j0 j1 j2 j3 j4 j5 (Nat.lt_of_lt_of_le h (Nat.le_of_lt_succ hR)))
theorem zc_listing_14_62 {g : mm_G} {l : Launch} (p0 : Int) (p1 : Int) (S0 : zz_S) (n : Nat) (hn : zz_end ≤ n) (G_S0 : zz_G S0) (hp0 : (-2147483648) ≤ p0 ∧ p0 ≤ 2147483647) (hp1 : (-2147483648) ≤ p1 ∧ p1 ≤ 2147483647) : mm_Met g l zy_listing_14_62 zr_listing_14_62 [.ref 1079, zi p0, zi p1] (zz_M S0 n) n (zz_QI n (zp_listing_14_62 p0 p1 S0)) := by
  refine zz_enter (by decide) (Nat.le_of_ble_eq_true rfl) (zz_less (ls1 := [some (.ref 1079), some (zi p0), some (zi p1)]) ⟨rfl, ⟨rfl, ⟨rfl, trivial⟩⟩⟩ ?_)
  have F_S0 : zz_fr [(1079, 0), (1079, 34), (1087, 0), (1087, 1), (1087, 2), (1087, 3), (1087, 4), (1087, 5), (1087, 6), (1087, 7), (1087, 8), (1087, 9), (1087, 10), (1087, 11)] [1101] (fun _ _ => False) S0 S0 := zz_fr.refl
  have k197 : ∀ (x3 : Int) (S : zz_S), zz_G S → zz_fr [(1079, 0), (1079, 34), (1087, 0), (1087, 1), (1087, 2), (1087, 3), (1087, 4), (1087, 5), (1087, 6), (1087, 7), (1087, 8), (1087, 9), (1087, 10), (1087, 11)] [1101] (fun _ _ => False) S0 S → (1 ≤ x3 ∧ x3 ≤ 5) → ((1 = 1 ∧ 0 ≤ p0 ∧ p0 ≤ ((S0 1079 7) - 1)) ∨ (1 = 0 ∧ (p0 < 0 ∨ ((S0 1079 7) - 1) < p0))) → (p1 ≥ 0) → (0 ≤ p0 ∧ p0 ≤ 599) → (0 ≤ p1 ∧ p1 ≤ 2147483647) → (S 1079 34 ≤ 107 + 18 * (x3 - 1)) → zz_E g l zy_listing_14_62 zr_listing_14_62 (zz_QI n (zp_listing_14_62 p0 p1 S0)) S n 197 [some (.ref 1079), none, some (zi p1), some (zi x3)] [] 0 0 := fun x3 S a b j0 j1 j2 j3 j4 j5 => (zi_listing_14_62 (g := g) (l := l) p0 p1 S0 n hn G_S0 hp0 hp1 _) x3 S a b j0 j1 j2 j3 j4 j5 (Nat.lt_succ_self _)
  refine zz_aload_n (x := 1079) rfl zd_14_62_0 ?_
  refine zz_iload_n (x := p0) rfl zd_14_62_1 ?_
  refine zz_i2l (by omega) zd_14_62_2 ?_
  refine zz_lconst (z := 0) (by decide) zd_14_62_3 ?_
  refine zz_aload_n (x := 1079) rfl zd_14_62_4 ?_
  have g1 := zz_G.r G_S0 1079 7 0 600 rfl rfl
  refine zz_geti (z := S0 1079 7) zd_14_62_5 zf_Md_224 zT_1079 rfl (zz_ltn hn rfl) rfl ?_
  refine zz_iconst zd_14_62_8 ?_
  refine zz_isub zd_14_62_9 ?_
  refine zz_i2l (by omega) zd_14_62_10 ?_
  refine zz_callSI [zl p0, zl 0, zl ((S0 1079 7) - 1)] zd_14_62_11 zk_Md_192 rfl rfl ⟨Nat.le_of_ble_eq_true rfl, Nat.le_of_ble_eq_true rfl⟩ ⟨rfl, rfl⟩ (Nat.zero_le _) (Nat.zero_le _) (zc_in_14_4 p0 0 ((S0 1079 7) - 1) S0 n hn G_S0 (by omega) (by omega) (by omega)) (fun v3 S2 hP => ?_)
  obtain ⟨rfl, o4, o5⟩ := hP
  rcases (by omega : v3 = 0 ∨ v3 = 1) with rfl | rfl
  · refine zz_if_eq (by omega) zd_14_62_14 (fun c6 => ?_) (fun c6 => ?_)
    · refine zz_iconst zd_14_62_21 ?_
      refine zz_goto zd_14_62_22 ?_
      refine zz_iconst zd_14_62_26 ?_
      refine zz_iconst zd_14_62_27 ?_
      refine zz_callVI [zi 1, zi 0, zi 0] zd_14_62_28 zk_Md_196 zT_1079 (zz_ltn hn rfl) rfl rfl ⟨Nat.le_of_ble_eq_true rfl, Nat.le_of_ble_eq_true rfl⟩ ⟨rfl, rfl⟩ (Nat.zero_le _) (Nat.zero_le _) (zc_refuse_14_3 1 0 0 S0 n hn G_S0 (by omega) (by omega) (by omega)) (fun v8 S7 hP => ?_)
      obtain ⟨G_S7, fS7, o9, o10⟩ := hP
      have F_S7 := zz_fr.trans F_S0 fS7 rfl zz_nv
      rcases (by omega : v8 = 0 ∨ v8 = 1) with rfl | rfl
      · exfalso; omega
      · have e11 : S7 1079 0 = 1 := by omega
        refine zz_if_eq (by omega) zd_14_62_31 (fun c12 => ?_) (fun c12 => ?_)
        · exfalso; omega
        · refine zz_iconst zd_14_62_34 ?_
          exact zz_iret zd_14_62_35 rfl (Nat.zero_le _) (Nat.zero_le _) ⟨_, _, rfl, G_S7, F_S7, by omega⟩
    · exfalso; omega
  · refine zz_if_eq (by omega) zd_14_62_14 (fun c13 => ?_) (fun c13 => ?_)
    · exfalso; omega
    · refine zz_iload_n (x := p1) rfl zd_14_62_17 ?_
      refine zz_if_ge (by omega) zd_14_62_18 (fun c14 => ?_) (fun c14 => ?_)
      · refine zz_iconst zd_14_62_25 ?_
        refine zz_iconst zd_14_62_26 ?_
        refine zz_iconst zd_14_62_27 ?_
        refine zz_callVI [zi 0, zi 0, zi 0] zd_14_62_28 zk_Md_196 zT_1079 (zz_ltn hn rfl) rfl rfl ⟨Nat.le_of_ble_eq_true rfl, Nat.le_of_ble_eq_true rfl⟩ ⟨rfl, rfl⟩ (Nat.zero_le _) (Nat.zero_le _) (zc_refuse_14_3 0 0 0 S0 n hn G_S0 (by omega) (by omega) (by omega)) (fun v16 S15 hP => ?_)
        obtain ⟨G_S15, fS15, o17, o18⟩ := hP
        have F_S15 := zz_fr.trans F_S0 fS15 rfl zz_nv
        rcases (by omega : v16 = 0 ∨ v16 = 1) with rfl | rfl
        · have e19 : S15 1079 0 = 0 := by omega
          refine zz_if_eq (by omega) zd_14_62_31 (fun c20 => ?_) (fun c20 => ?_)
          · refine zz_aload_n (x := 1079) rfl zd_14_62_36 ?_
            refine zz_aload_n (x := 1079) rfl zd_14_62_37 ?_
            refine zz_getr (kd := 0) (z := 1085) zd_14_62_38 zf_Md_29 zT_1079 rfl (zz_ltn hn rfl) (zz_G.eq G_S15 1079 8 1085 rfl rfl) (by decide) 1085 rfl ?_
            refine zz_iload_n (x := p0) rfl zd_14_62_41 ?_
            have g21 := zz_G.r G_S0 1085 p0.toNat (-9223372036854775808) 9223372036854775807 rfl rfl
            refine zz_lald (z := S0 1085 p0.toNat) zd_14_62_42 zT_1085 rfl (zz_ltn hn rfl) (by decide) (by omega) (zz_rc fS15 (zz_nc1 rfl) rfl (fun h => h) rfl) ?_
            refine zz_callVV [zl (S0 1085 p0.toNat)] zd_14_62_43 zk_Md_234 zT_1079 (zz_ltn hn rfl) rfl rfl ⟨Nat.le_of_ble_eq_true rfl, Nat.le_of_ble_eq_true rfl⟩ ⟨rfl, rfl⟩ (Nat.zero_le _) (Nat.zero_le _) (zc_take_14_18 (S0 1085 p0.toNat) S15 n hn G_S15 (by omega)) (fun S22 hP => ?_)
            obtain ⟨G_S22, fS22, o24, o25, o26, o27, o28, o29, o30, o31, o32, o33, o34, o35⟩ := hP
            have F_S22 := zz_fr.trans F_S15 fS22 rfl zz_nv
            refine zz_aload_n (x := 1079) rfl zd_14_62_46 ?_
            refine zz_iconst zd_14_62_47 ?_
            refine zz_puti zd_14_62_48 zf_Md_385 zT_1079 rfl (zz_ltn hn rfl) (fun S36 qS36 => ?_)
            have G_S36 := zz_G.put G_S22 qS36 0 200 rfl (by omega)
            have F_S36 := zz_fr.puts F_S22 qS36 rfl
            refine zz_aload_n (x := 1079) rfl zd_14_62_51 ?_
            refine zz_getr (kd := 0) (z := 1087) zd_14_62_52 zf_Md_36 zT_1079 rfl (zz_ltn hn rfl) (zz_G.eq G_S36 1079 11 1087 rfl rfl) (by decide) 1087 rfl ?_
            refine zz_iconst zd_14_62_55 ?_
            have g37 := zz_G.r G_S22 1087 0 (-2147483648) 2147483647 rfl rfl
            refine zz_iald (z := S22 1087 0) zd_14_62_56 zT_1087 rfl (zz_ltn hn rfl) (by decide) (by decide) (zz_ro qS36 (fun h => absurd h.1 (by decide)) rfl) ?_
            refine zz_i2l (by omega) zd_14_62_57 ?_
            refine zz_lconst (z := 1) (by decide) zd_14_62_58 ?_
            refine zz_ldc2 (z := 9) zq_Md_238 (by decide) zd_14_62_59 ?_
            refine zz_callSI [zl (S22 1087 0), zl 1, zl 9] zd_14_62_62 zk_Md_192 rfl rfl ⟨Nat.le_of_ble_eq_true rfl, Nat.le_of_ble_eq_true rfl⟩ ⟨rfl, rfl⟩ (Nat.zero_le _) (Nat.zero_le _) (zc_in_14_4 (S22 1087 0) 1 9 S36 n hn G_S36 (by omega) (by omega) (by omega)) (fun v39 S38 hP => ?_)
            obtain ⟨rfl, o40, o41⟩ := hP
            rcases (by omega : v39 = 0 ∨ v39 = 1) with rfl | rfl
            · refine zz_if_eq (by omega) zd_14_62_65 (fun c42 => ?_) (fun c42 => ?_)
              · refine zz_aload_n (x := 1079) rfl zd_14_62_81 ?_
                refine zz_ldc2 (z := 63) zq_Md_399 (by decide) zd_14_62_82 ?_
                have e43 : S36 1079 34 = 0 := (zz_rs qS36)
                refine zz_callVV [zl 63] zd_14_62_85 zk_Md_388 zT_1079 (zz_ltn hn rfl) rfl rfl ⟨Nat.le_of_ble_eq_true rfl, Nat.le_of_ble_eq_true rfl⟩ ⟨rfl, rfl⟩ (Nat.zero_le _) (Nat.zero_le _) (zc_say_14_57 63 S36 n hn G_S36 (by omega) (by omega)) (fun S44 hP => ?_)
                obtain ⟨G_S44, fS44, o46⟩ := hP
                have F_S44 := zz_fr.trans F_S36 fS44 rfl zz_nv
                refine zz_aload_n (x := 1079) rfl zd_14_62_88 ?_
                refine zz_bipush (by decide) zd_14_62_89 ?_
                refine zz_iconst zd_14_62_91 ?_
                have g47 := zz_G.r G_S44 1079 34 0 200 rfl rfl
                refine zz_callVV [zi 10, zi 5] zd_14_62_92 zk_Md_401 zT_1079 (zz_ltn hn rfl) rfl rfl ⟨Nat.le_of_ble_eq_true rfl, Nat.le_of_ble_eq_true rfl⟩ ⟨rfl, rfl⟩ (Nat.zero_le _) (Nat.zero_le _) (zc_sayField_14_60 10 5 S44 n hn G_S44 (by omega) (by omega) (by omega)) (fun S48 hP => ?_)
                obtain ⟨G_S48, fS48, o50, o51⟩ := hP
                have F_S48 := zz_fr.trans F_S44 fS48 rfl zz_nv
                refine zz_aload_n (x := 1079) rfl zd_14_62_95 ?_
                refine zz_getr (kd := 0) (z := 1087) zd_14_62_96 zf_Md_36 zT_1079 rfl (zz_ltn hn rfl) (zz_G.eq G_S48 1079 11 1087 rfl rfl) (by decide) 1087 rfl ?_
                refine zz_bipush (by decide) zd_14_62_99 ?_
                have g52 := zz_G.r G_S22 1087 6 (-2147483648) 2147483647 rfl rfl
                refine zz_iald (z := S22 1087 6) zd_14_62_101 zT_1087 rfl (zz_ltn hn rfl) (by decide) (by decide) (zz_rc fS48 (zz_nc1 rfl) rfl (fun h => h) (zz_rc fS44 (zz_nc1 rfl) rfl (fun h => h) (zz_ro qS36 (fun h => absurd h.1 (by decide)) rfl))) ?_
                refine zz_if_ne (by omega) zd_14_62_102 (fun c53 => ?_) (fun c53 => ?_)
                · refine zz_aload_n (x := 1079) rfl zd_14_62_115 ?_
                  refine zz_bipush (by decide) zd_14_62_116 ?_
                  have g54 := zz_G.r G_S48 1079 34 0 200 rfl rfl
                  refine zz_callVV [zi 11] zd_14_62_118 zk_Md_393 zT_1079 (zz_ltn hn rfl) rfl rfl ⟨Nat.le_of_ble_eq_true rfl, Nat.le_of_ble_eq_true rfl⟩ ⟨rfl, rfl⟩ (Nat.zero_le _) (Nat.zero_le _) (zc_sayWord_14_58 11 S48 n hn G_S48 (by omega) (by omega)) (fun S55 hP => ?_)
                  obtain ⟨G_S55, fS55, o57, o58⟩ := hP
                  have F_S55 := zz_fr.trans F_S48 fS55 rfl zz_nv
                  refine zz_aload_n (x := 1079) rfl zd_14_62_121 ?_
                  refine zz_ldc2 (z := 32) zq_Md_327 (by decide) zd_14_62_122 ?_
                  have g59 := zz_G.r G_S55 1079 34 0 200 rfl rfl
                  refine zz_callVV [zl 32] zd_14_62_125 zk_Md_388 zT_1079 (zz_ltn hn rfl) rfl rfl ⟨Nat.le_of_ble_eq_true rfl, Nat.le_of_ble_eq_true rfl⟩ ⟨rfl, rfl⟩ (Nat.zero_le _) (Nat.zero_le _) (zc_say_14_57 32 S55 n hn G_S55 (by omega) (by omega)) (fun S60 hP => ?_)
                  obtain ⟨G_S60, fS60, o62⟩ := hP
                  have F_S60 := zz_fr.trans F_S55 fS60 rfl zz_nv
                  refine zz_aload_n (x := 1079) rfl zd_14_62_128 ?_
                  refine zz_aload_n (x := 1079) rfl zd_14_62_129 ?_
                  refine zz_getr (kd := 0) (z := 1087) zd_14_62_130 zf_Md_36 zT_1079 rfl (zz_ltn hn rfl) (zz_G.eq G_S60 1079 11 1087 rfl rfl) (by decide) 1087 rfl ?_
                  refine zz_bipush (by decide) zd_14_62_133 ?_
                  refine zz_iald (z := S22 1087 6) zd_14_62_135 zT_1087 rfl (zz_ltn hn rfl) (by decide) (by decide) (zz_rc fS60 (zz_nc1 rfl) rfl (fun h => h) (zz_rc fS55 (zz_nc1 rfl) rfl (fun h => h) (zz_rc fS48 (zz_nc1 rfl) rfl (fun h => h) (zz_rc fS44 (zz_nc1 rfl) rfl (fun h => h) (zz_ro qS36 (fun h => absurd h.1 (by decide)) rfl))))) ?_
                  have g63 := zz_G.r G_S60 1079 34 0 200 rfl rfl
                  refine zz_callVV [zi (S22 1087 6)] zd_14_62_136 zk_Md_396 zT_1079 (zz_ltn hn rfl) rfl rfl ⟨Nat.le_of_ble_eq_true rfl, Nat.le_of_ble_eq_true rfl⟩ ⟨rfl, rfl⟩ (Nat.zero_le _) (Nat.zero_le _) (zc_sayNumber_14_59 (S22 1087 6) S60 n hn G_S60 (by omega) (by omega)) (fun S64 hP => ?_)
                  obtain ⟨G_S64, fS64, o66, o67⟩ := hP
                  have F_S64 := zz_fr.trans F_S60 fS64 rfl zz_nv
                  refine zz_aload_n (x := 1079) rfl zd_14_62_139 ?_
                  refine zz_bipush (by decide) zd_14_62_140 ?_
                  have g68 := zz_G.r G_S64 1079 34 0 200 rfl rfl
                  refine zz_callVV [zi 12] zd_14_62_142 zk_Md_393 zT_1079 (zz_ltn hn rfl) rfl rfl ⟨Nat.le_of_ble_eq_true rfl, Nat.le_of_ble_eq_true rfl⟩ ⟨rfl, rfl⟩ (Nat.zero_le _) (Nat.zero_le _) (zc_sayWord_14_58 12 S64 n hn G_S64 (by omega) (by omega)) (fun S69 hP => ?_)
                  obtain ⟨G_S69, fS69, o71, o72⟩ := hP
                  have F_S69 := zz_fr.trans F_S64 fS69 rfl zz_nv
                  refine zz_aload_n (x := 1079) rfl zd_14_62_145 ?_
                  refine zz_ldc2 (z := 32) zq_Md_327 (by decide) zd_14_62_146 ?_
                  have g73 := zz_G.r G_S69 1079 34 0 200 rfl rfl
                  refine zz_callVV [zl 32] zd_14_62_149 zk_Md_388 zT_1079 (zz_ltn hn rfl) rfl rfl ⟨Nat.le_of_ble_eq_true rfl, Nat.le_of_ble_eq_true rfl⟩ ⟨rfl, rfl⟩ (Nat.zero_le _) (Nat.zero_le _) (zc_say_14_57 32 S69 n hn G_S69 (by omega) (by omega)) (fun S74 hP => ?_)
                  obtain ⟨G_S74, fS74, o76⟩ := hP
                  have F_S74 := zz_fr.trans F_S69 fS74 rfl zz_nv
                  refine zz_aload_n (x := 1079) rfl zd_14_62_152 ?_
                  refine zz_aload_n (x := 1079) rfl zd_14_62_153 ?_
                  refine zz_getr (kd := 0) (z := 1087) zd_14_62_154 zf_Md_36 zT_1079 rfl (zz_ltn hn rfl) (zz_G.eq G_S74 1079 11 1087 rfl rfl) (by decide) 1087 rfl ?_
                  refine zz_bipush (by decide) zd_14_62_157 ?_
                  have g77 := zz_G.r G_S22 1087 7 (-2147483648) 2147483647 rfl rfl
                  refine zz_iald (z := S22 1087 7) zd_14_62_159 zT_1087 rfl (zz_ltn hn rfl) (by decide) (by decide) (zz_rc fS74 (zz_nc1 rfl) rfl (fun h => h) (zz_rc fS69 (zz_nc1 rfl) rfl (fun h => h) (zz_rc fS64 (zz_nc1 rfl) rfl (fun h => h) (zz_rc fS60 (zz_nc1 rfl) rfl (fun h => h) (zz_rc fS55 (zz_nc1 rfl) rfl (fun h => h) (zz_rc fS48 (zz_nc1 rfl) rfl (fun h => h) (zz_rc fS44 (zz_nc1 rfl) rfl (fun h => h) (zz_ro qS36 (fun h => absurd h.1 (by decide)) rfl)))))))) ?_
                  have g78 := zz_G.r G_S74 1079 34 0 200 rfl rfl
                  refine zz_callVV [zi (S22 1087 7)] zd_14_62_160 zk_Md_396 zT_1079 (zz_ltn hn rfl) rfl rfl ⟨Nat.le_of_ble_eq_true rfl, Nat.le_of_ble_eq_true rfl⟩ ⟨rfl, rfl⟩ (Nat.zero_le _) (Nat.zero_le _) (zc_sayNumber_14_59 (S22 1087 7) S74 n hn G_S74 (by omega) (by omega)) (fun S79 hP => ?_)
                  obtain ⟨G_S79, fS79, o81, o82⟩ := hP
                  have F_S79 := zz_fr.trans F_S74 fS79 rfl zz_nv
                  refine zz_aload_n (x := 1079) rfl zd_14_62_163 ?_
                  refine zz_bipush (by decide) zd_14_62_164 ?_
                  refine zz_bipush (by decide) zd_14_62_166 ?_
                  have g83 := zz_G.r G_S79 1079 34 0 200 rfl rfl
                  refine zz_callVV [zi 13, zi 8] zd_14_62_168 zk_Md_401 zT_1079 (zz_ltn hn rfl) rfl rfl ⟨Nat.le_of_ble_eq_true rfl, Nat.le_of_ble_eq_true rfl⟩ ⟨rfl, rfl⟩ (Nat.zero_le _) (Nat.zero_le _) (zc_sayField_14_60 13 8 S79 n hn G_S79 (by omega) (by omega) (by omega)) (fun S84 hP => ?_)
                  obtain ⟨G_S84, fS84, o86, o87⟩ := hP
                  have F_S84 := zz_fr.trans F_S79 fS84 rfl zz_nv
                  refine zz_aload_n (x := 1079) rfl zd_14_62_171 ?_
                  refine zz_bipush (by decide) zd_14_62_172 ?_
                  refine zz_bipush (by decide) zd_14_62_174 ?_
                  have g88 := zz_G.r G_S84 1079 34 0 200 rfl rfl
                  refine zz_callVV [zi 14, zi 9] zd_14_62_176 zk_Md_401 zT_1079 (zz_ltn hn rfl) rfl rfl ⟨Nat.le_of_ble_eq_true rfl, Nat.le_of_ble_eq_true rfl⟩ ⟨rfl, rfl⟩ (Nat.zero_le _) (Nat.zero_le _) (zc_sayField_14_60 14 9 S84 n hn G_S84 (by omega) (by omega) (by omega)) (fun S89 hP => ?_)
                  obtain ⟨G_S89, fS89, o91, o92⟩ := hP
                  have F_S89 := zz_fr.trans F_S84 fS89 rfl zz_nv
                  refine zz_aload_n (x := 1079) rfl zd_14_62_179 ?_
                  refine zz_bipush (by decide) zd_14_62_180 ?_
                  refine zz_bipush (by decide) zd_14_62_182 ?_
                  have g93 := zz_G.r G_S89 1079 34 0 200 rfl rfl
                  refine zz_callVV [zi 15, zi 10] zd_14_62_184 zk_Md_401 zT_1079 (zz_ltn hn rfl) rfl rfl ⟨Nat.le_of_ble_eq_true rfl, Nat.le_of_ble_eq_true rfl⟩ ⟨rfl, rfl⟩ (Nat.zero_le _) (Nat.zero_le _) (zc_sayField_14_60 15 10 S89 n hn G_S89 (by omega) (by omega) (by omega)) (fun S94 hP => ?_)
                  obtain ⟨G_S94, fS94, o96, o97⟩ := hP
                  have F_S94 := zz_fr.trans F_S89 fS94 rfl zz_nv
                  refine zz_aload_n (x := 1079) rfl zd_14_62_187 ?_
                  refine zz_bipush (by decide) zd_14_62_188 ?_
                  refine zz_bipush (by decide) zd_14_62_190 ?_
                  have g98 := zz_G.r G_S94 1079 34 0 200 rfl rfl
                  refine zz_callVV [zi 16, zi 11] zd_14_62_192 zk_Md_401 zT_1079 (zz_ltn hn rfl) rfl rfl ⟨Nat.le_of_ble_eq_true rfl, Nat.le_of_ble_eq_true rfl⟩ ⟨rfl, rfl⟩ (Nat.zero_le _) (Nat.zero_le _) (zc_sayField_14_60 16 11 S94 n hn G_S94 (by omega) (by omega) (by omega)) (fun S99 hP => ?_)
                  obtain ⟨G_S99, fS99, o101, o102⟩ := hP
                  have F_S99 := zz_fr.trans F_S94 fS99 rfl zz_nv
                  refine zz_iconst zd_14_62_195 ?_
                  refine zz_istore_n [some (.ref 1079), some (zi p0), some (zi p1), some (zi 1)] zd_14_62_196 (by decide) rfl ?_
                  have g103 := zz_G.r G_S99 1079 34 0 200 rfl rfl
                  refine zz_less (ls1 := [some (.ref 1079), none, some (zi p1), some (zi 1)]) ⟨rfl, ⟨rfl, ⟨rfl, trivial⟩⟩⟩ ?_
                  exact k197 1 S99 G_S99 F_S99 (by omega) (by omega) (by omega) (by omega) (by omega) (by omega)
                · refine zz_aload_n (x := 1079) rfl zd_14_62_105 ?_
                  refine zz_getr (kd := 0) (z := 1087) zd_14_62_106 zf_Md_36 zT_1079 rfl (zz_ltn hn rfl) (zz_G.eq G_S48 1079 11 1087 rfl rfl) (by decide) 1087 rfl ?_
                  refine zz_bipush (by decide) zd_14_62_109 ?_
                  have g104 := zz_G.r G_S22 1087 7 (-2147483648) 2147483647 rfl rfl
                  refine zz_iald (z := S22 1087 7) zd_14_62_111 zT_1087 rfl (zz_ltn hn rfl) (by decide) (by decide) (zz_rc fS48 (zz_nc1 rfl) rfl (fun h => h) (zz_rc fS44 (zz_nc1 rfl) rfl (fun h => h) (zz_ro qS36 (fun h => absurd h.1 (by decide)) rfl))) ?_
                  refine zz_if_eq (by omega) zd_14_62_112 (fun c105 => ?_) (fun c105 => ?_)
                  · refine zz_aload_n (x := 1079) rfl zd_14_62_163 ?_
                    refine zz_bipush (by decide) zd_14_62_164 ?_
                    refine zz_bipush (by decide) zd_14_62_166 ?_
                    have g106 := zz_G.r G_S48 1079 34 0 200 rfl rfl
                    refine zz_callVV [zi 13, zi 8] zd_14_62_168 zk_Md_401 zT_1079 (zz_ltn hn rfl) rfl rfl ⟨Nat.le_of_ble_eq_true rfl, Nat.le_of_ble_eq_true rfl⟩ ⟨rfl, rfl⟩ (Nat.zero_le _) (Nat.zero_le _) (zc_sayField_14_60 13 8 S48 n hn G_S48 (by omega) (by omega) (by omega)) (fun S107 hP => ?_)
                    obtain ⟨G_S107, fS107, o109, o110⟩ := hP
                    have F_S107 := zz_fr.trans F_S48 fS107 rfl zz_nv
                    refine zz_aload_n (x := 1079) rfl zd_14_62_171 ?_
                    refine zz_bipush (by decide) zd_14_62_172 ?_
                    refine zz_bipush (by decide) zd_14_62_174 ?_
                    have g111 := zz_G.r G_S107 1079 34 0 200 rfl rfl
                    refine zz_callVV [zi 14, zi 9] zd_14_62_176 zk_Md_401 zT_1079 (zz_ltn hn rfl) rfl rfl ⟨Nat.le_of_ble_eq_true rfl, Nat.le_of_ble_eq_true rfl⟩ ⟨rfl, rfl⟩ (Nat.zero_le _) (Nat.zero_le _) (zc_sayField_14_60 14 9 S107 n hn G_S107 (by omega) (by omega) (by omega)) (fun S112 hP => ?_)
                    obtain ⟨G_S112, fS112, o114, o115⟩ := hP
                    have F_S112 := zz_fr.trans F_S107 fS112 rfl zz_nv
                    refine zz_aload_n (x := 1079) rfl zd_14_62_179 ?_
                    refine zz_bipush (by decide) zd_14_62_180 ?_
                    refine zz_bipush (by decide) zd_14_62_182 ?_
                    have g116 := zz_G.r G_S112 1079 34 0 200 rfl rfl
                    refine zz_callVV [zi 15, zi 10] zd_14_62_184 zk_Md_401 zT_1079 (zz_ltn hn rfl) rfl rfl ⟨Nat.le_of_ble_eq_true rfl, Nat.le_of_ble_eq_true rfl⟩ ⟨rfl, rfl⟩ (Nat.zero_le _) (Nat.zero_le _) (zc_sayField_14_60 15 10 S112 n hn G_S112 (by omega) (by omega) (by omega)) (fun S117 hP => ?_)
                    obtain ⟨G_S117, fS117, o119, o120⟩ := hP
                    have F_S117 := zz_fr.trans F_S112 fS117 rfl zz_nv
                    refine zz_aload_n (x := 1079) rfl zd_14_62_187 ?_
                    refine zz_bipush (by decide) zd_14_62_188 ?_
                    refine zz_bipush (by decide) zd_14_62_190 ?_
                    have g121 := zz_G.r G_S117 1079 34 0 200 rfl rfl
                    refine zz_callVV [zi 16, zi 11] zd_14_62_192 zk_Md_401 zT_1079 (zz_ltn hn rfl) rfl rfl ⟨Nat.le_of_ble_eq_true rfl, Nat.le_of_ble_eq_true rfl⟩ ⟨rfl, rfl⟩ (Nat.zero_le _) (Nat.zero_le _) (zc_sayField_14_60 16 11 S117 n hn G_S117 (by omega) (by omega) (by omega)) (fun S122 hP => ?_)
                    obtain ⟨G_S122, fS122, o124, o125⟩ := hP
                    have F_S122 := zz_fr.trans F_S117 fS122 rfl zz_nv
                    refine zz_iconst zd_14_62_195 ?_
                    refine zz_istore_n [some (.ref 1079), some (zi p0), some (zi p1), some (zi 1)] zd_14_62_196 (by decide) rfl ?_
                    have g126 := zz_G.r G_S122 1079 34 0 200 rfl rfl
                    refine zz_less (ls1 := [some (.ref 1079), none, some (zi p1), some (zi 1)]) ⟨rfl, ⟨rfl, ⟨rfl, trivial⟩⟩⟩ ?_
                    exact k197 1 S122 G_S122 F_S122 (by omega) (by omega) (by omega) (by omega) (by omega) (by omega)
                  · refine zz_aload_n (x := 1079) rfl zd_14_62_115 ?_
                    refine zz_bipush (by decide) zd_14_62_116 ?_
                    have g127 := zz_G.r G_S48 1079 34 0 200 rfl rfl
                    refine zz_callVV [zi 11] zd_14_62_118 zk_Md_393 zT_1079 (zz_ltn hn rfl) rfl rfl ⟨Nat.le_of_ble_eq_true rfl, Nat.le_of_ble_eq_true rfl⟩ ⟨rfl, rfl⟩ (Nat.zero_le _) (Nat.zero_le _) (zc_sayWord_14_58 11 S48 n hn G_S48 (by omega) (by omega)) (fun S128 hP => ?_)
                    obtain ⟨G_S128, fS128, o130, o131⟩ := hP
                    have F_S128 := zz_fr.trans F_S48 fS128 rfl zz_nv
                    refine zz_aload_n (x := 1079) rfl zd_14_62_121 ?_
                    refine zz_ldc2 (z := 32) zq_Md_327 (by decide) zd_14_62_122 ?_
                    have g132 := zz_G.r G_S128 1079 34 0 200 rfl rfl
                    refine zz_callVV [zl 32] zd_14_62_125 zk_Md_388 zT_1079 (zz_ltn hn rfl) rfl rfl ⟨Nat.le_of_ble_eq_true rfl, Nat.le_of_ble_eq_true rfl⟩ ⟨rfl, rfl⟩ (Nat.zero_le _) (Nat.zero_le _) (zc_say_14_57 32 S128 n hn G_S128 (by omega) (by omega)) (fun S133 hP => ?_)
                    obtain ⟨G_S133, fS133, o135⟩ := hP
                    have F_S133 := zz_fr.trans F_S128 fS133 rfl zz_nv
                    refine zz_aload_n (x := 1079) rfl zd_14_62_128 ?_
                    refine zz_aload_n (x := 1079) rfl zd_14_62_129 ?_
                    refine zz_getr (kd := 0) (z := 1087) zd_14_62_130 zf_Md_36 zT_1079 rfl (zz_ltn hn rfl) (zz_G.eq G_S133 1079 11 1087 rfl rfl) (by decide) 1087 rfl ?_
                    refine zz_bipush (by decide) zd_14_62_133 ?_
                    refine zz_iald (z := S22 1087 6) zd_14_62_135 zT_1087 rfl (zz_ltn hn rfl) (by decide) (by decide) (zz_rc fS133 (zz_nc1 rfl) rfl (fun h => h) (zz_rc fS128 (zz_nc1 rfl) rfl (fun h => h) (zz_rc fS48 (zz_nc1 rfl) rfl (fun h => h) (zz_rc fS44 (zz_nc1 rfl) rfl (fun h => h) (zz_ro qS36 (fun h => absurd h.1 (by decide)) rfl))))) ?_
                    have g136 := zz_G.r G_S133 1079 34 0 200 rfl rfl
                    refine zz_callVV [zi (S22 1087 6)] zd_14_62_136 zk_Md_396 zT_1079 (zz_ltn hn rfl) rfl rfl ⟨Nat.le_of_ble_eq_true rfl, Nat.le_of_ble_eq_true rfl⟩ ⟨rfl, rfl⟩ (Nat.zero_le _) (Nat.zero_le _) (zc_sayNumber_14_59 (S22 1087 6) S133 n hn G_S133 (by omega) (by omega)) (fun S137 hP => ?_)
                    obtain ⟨G_S137, fS137, o139, o140⟩ := hP
                    have F_S137 := zz_fr.trans F_S133 fS137 rfl zz_nv
                    refine zz_aload_n (x := 1079) rfl zd_14_62_139 ?_
                    refine zz_bipush (by decide) zd_14_62_140 ?_
                    have g141 := zz_G.r G_S137 1079 34 0 200 rfl rfl
                    refine zz_callVV [zi 12] zd_14_62_142 zk_Md_393 zT_1079 (zz_ltn hn rfl) rfl rfl ⟨Nat.le_of_ble_eq_true rfl, Nat.le_of_ble_eq_true rfl⟩ ⟨rfl, rfl⟩ (Nat.zero_le _) (Nat.zero_le _) (zc_sayWord_14_58 12 S137 n hn G_S137 (by omega) (by omega)) (fun S142 hP => ?_)
                    obtain ⟨G_S142, fS142, o144, o145⟩ := hP
                    have F_S142 := zz_fr.trans F_S137 fS142 rfl zz_nv
                    refine zz_aload_n (x := 1079) rfl zd_14_62_145 ?_
                    refine zz_ldc2 (z := 32) zq_Md_327 (by decide) zd_14_62_146 ?_
                    have g146 := zz_G.r G_S142 1079 34 0 200 rfl rfl
                    refine zz_callVV [zl 32] zd_14_62_149 zk_Md_388 zT_1079 (zz_ltn hn rfl) rfl rfl ⟨Nat.le_of_ble_eq_true rfl, Nat.le_of_ble_eq_true rfl⟩ ⟨rfl, rfl⟩ (Nat.zero_le _) (Nat.zero_le _) (zc_say_14_57 32 S142 n hn G_S142 (by omega) (by omega)) (fun S147 hP => ?_)
                    obtain ⟨G_S147, fS147, o149⟩ := hP
                    have F_S147 := zz_fr.trans F_S142 fS147 rfl zz_nv
                    refine zz_aload_n (x := 1079) rfl zd_14_62_152 ?_
                    refine zz_aload_n (x := 1079) rfl zd_14_62_153 ?_
                    refine zz_getr (kd := 0) (z := 1087) zd_14_62_154 zf_Md_36 zT_1079 rfl (zz_ltn hn rfl) (zz_G.eq G_S147 1079 11 1087 rfl rfl) (by decide) 1087 rfl ?_
                    refine zz_bipush (by decide) zd_14_62_157 ?_
                    refine zz_iald (z := S22 1087 7) zd_14_62_159 zT_1087 rfl (zz_ltn hn rfl) (by decide) (by decide) (zz_rc fS147 (zz_nc1 rfl) rfl (fun h => h) (zz_rc fS142 (zz_nc1 rfl) rfl (fun h => h) (zz_rc fS137 (zz_nc1 rfl) rfl (fun h => h) (zz_rc fS133 (zz_nc1 rfl) rfl (fun h => h) (zz_rc fS128 (zz_nc1 rfl) rfl (fun h => h) (zz_rc fS48 (zz_nc1 rfl) rfl (fun h => h) (zz_rc fS44 (zz_nc1 rfl) rfl (fun h => h) (zz_ro qS36 (fun h => absurd h.1 (by decide)) rfl)))))))) ?_
                    have g150 := zz_G.r G_S147 1079 34 0 200 rfl rfl
                    refine zz_callVV [zi (S22 1087 7)] zd_14_62_160 zk_Md_396 zT_1079 (zz_ltn hn rfl) rfl rfl ⟨Nat.le_of_ble_eq_true rfl, Nat.le_of_ble_eq_true rfl⟩ ⟨rfl, rfl⟩ (Nat.zero_le _) (Nat.zero_le _) (zc_sayNumber_14_59 (S22 1087 7) S147 n hn G_S147 (by omega) (by omega)) (fun S151 hP => ?_)
                    obtain ⟨G_S151, fS151, o153, o154⟩ := hP
                    have F_S151 := zz_fr.trans F_S147 fS151 rfl zz_nv
                    refine zz_aload_n (x := 1079) rfl zd_14_62_163 ?_
                    refine zz_bipush (by decide) zd_14_62_164 ?_
                    refine zz_bipush (by decide) zd_14_62_166 ?_
                    have g155 := zz_G.r G_S151 1079 34 0 200 rfl rfl
                    refine zz_callVV [zi 13, zi 8] zd_14_62_168 zk_Md_401 zT_1079 (zz_ltn hn rfl) rfl rfl ⟨Nat.le_of_ble_eq_true rfl, Nat.le_of_ble_eq_true rfl⟩ ⟨rfl, rfl⟩ (Nat.zero_le _) (Nat.zero_le _) (zc_sayField_14_60 13 8 S151 n hn G_S151 (by omega) (by omega) (by omega)) (fun S156 hP => ?_)
                    obtain ⟨G_S156, fS156, o158, o159⟩ := hP
                    have F_S156 := zz_fr.trans F_S151 fS156 rfl zz_nv
                    refine zz_aload_n (x := 1079) rfl zd_14_62_171 ?_
                    refine zz_bipush (by decide) zd_14_62_172 ?_
                    refine zz_bipush (by decide) zd_14_62_174 ?_
                    have g160 := zz_G.r G_S156 1079 34 0 200 rfl rfl
                    refine zz_callVV [zi 14, zi 9] zd_14_62_176 zk_Md_401 zT_1079 (zz_ltn hn rfl) rfl rfl ⟨Nat.le_of_ble_eq_true rfl, Nat.le_of_ble_eq_true rfl⟩ ⟨rfl, rfl⟩ (Nat.zero_le _) (Nat.zero_le _) (zc_sayField_14_60 14 9 S156 n hn G_S156 (by omega) (by omega) (by omega)) (fun S161 hP => ?_)
                    obtain ⟨G_S161, fS161, o163, o164⟩ := hP
                    have F_S161 := zz_fr.trans F_S156 fS161 rfl zz_nv
                    refine zz_aload_n (x := 1079) rfl zd_14_62_179 ?_
                    refine zz_bipush (by decide) zd_14_62_180 ?_
                    refine zz_bipush (by decide) zd_14_62_182 ?_
                    have g165 := zz_G.r G_S161 1079 34 0 200 rfl rfl
                    refine zz_callVV [zi 15, zi 10] zd_14_62_184 zk_Md_401 zT_1079 (zz_ltn hn rfl) rfl rfl ⟨Nat.le_of_ble_eq_true rfl, Nat.le_of_ble_eq_true rfl⟩ ⟨rfl, rfl⟩ (Nat.zero_le _) (Nat.zero_le _) (zc_sayField_14_60 15 10 S161 n hn G_S161 (by omega) (by omega) (by omega)) (fun S166 hP => ?_)
                    obtain ⟨G_S166, fS166, o168, o169⟩ := hP
                    have F_S166 := zz_fr.trans F_S161 fS166 rfl zz_nv
                    refine zz_aload_n (x := 1079) rfl zd_14_62_187 ?_
                    refine zz_bipush (by decide) zd_14_62_188 ?_
                    refine zz_bipush (by decide) zd_14_62_190 ?_
                    have g170 := zz_G.r G_S166 1079 34 0 200 rfl rfl
                    refine zz_callVV [zi 16, zi 11] zd_14_62_192 zk_Md_401 zT_1079 (zz_ltn hn rfl) rfl rfl ⟨Nat.le_of_ble_eq_true rfl, Nat.le_of_ble_eq_true rfl⟩ ⟨rfl, rfl⟩ (Nat.zero_le _) (Nat.zero_le _) (zc_sayField_14_60 16 11 S166 n hn G_S166 (by omega) (by omega) (by omega)) (fun S171 hP => ?_)
                    obtain ⟨G_S171, fS171, o173, o174⟩ := hP
                    have F_S171 := zz_fr.trans F_S166 fS171 rfl zz_nv
                    refine zz_iconst zd_14_62_195 ?_
                    refine zz_istore_n [some (.ref 1079), some (zi p0), some (zi p1), some (zi 1)] zd_14_62_196 (by decide) rfl ?_
                    have g175 := zz_G.r G_S171 1079 34 0 200 rfl rfl
                    refine zz_less (ls1 := [some (.ref 1079), none, some (zi p1), some (zi 1)]) ⟨rfl, ⟨rfl, ⟨rfl, trivial⟩⟩⟩ ?_
                    exact k197 1 S171 G_S171 F_S171 (by omega) (by omega) (by omega) (by omega) (by omega) (by omega)
              · exfalso; omega
            · refine zz_if_eq (by omega) zd_14_62_65 (fun c176 => ?_) (fun c176 => ?_)
              · exfalso; omega
              · refine zz_aload_n (x := 1079) rfl zd_14_62_68 ?_
                refine zz_aload_n (x := 1079) rfl zd_14_62_69 ?_
                refine zz_getr (kd := 0) (z := 1087) zd_14_62_70 zf_Md_36 zT_1079 rfl (zz_ltn hn rfl) (zz_G.eq G_S36 1079 11 1087 rfl rfl) (by decide) 1087 rfl ?_
                refine zz_iconst zd_14_62_73 ?_
                refine zz_iald (z := S22 1087 0) zd_14_62_74 zT_1087 rfl (zz_ltn hn rfl) (by decide) (by decide) (zz_ro qS36 (fun h => absurd h.1 (by decide)) rfl) ?_
                have e177 : S36 1079 34 = 0 := (zz_rs qS36)
                refine zz_callVV [zi (S22 1087 0)] zd_14_62_75 zk_Md_393 zT_1079 (zz_ltn hn rfl) rfl rfl ⟨Nat.le_of_ble_eq_true rfl, Nat.le_of_ble_eq_true rfl⟩ ⟨rfl, rfl⟩ (Nat.zero_le _) (Nat.zero_le _) (zc_sayWord_14_58 (S22 1087 0) S36 n hn G_S36 (by omega) (by omega)) (fun S178 hP => ?_)
                obtain ⟨G_S178, fS178, o180, o181⟩ := hP
                have F_S178 := zz_fr.trans F_S36 fS178 rfl zz_nv
                refine zz_goto zd_14_62_78 ?_
                refine zz_aload_n (x := 1079) rfl zd_14_62_88 ?_
                refine zz_bipush (by decide) zd_14_62_89 ?_
                refine zz_iconst zd_14_62_91 ?_
                have g182 := zz_G.r G_S178 1079 34 0 200 rfl rfl
                refine zz_callVV [zi 10, zi 5] zd_14_62_92 zk_Md_401 zT_1079 (zz_ltn hn rfl) rfl rfl ⟨Nat.le_of_ble_eq_true rfl, Nat.le_of_ble_eq_true rfl⟩ ⟨rfl, rfl⟩ (Nat.zero_le _) (Nat.zero_le _) (zc_sayField_14_60 10 5 S178 n hn G_S178 (by omega) (by omega) (by omega)) (fun S183 hP => ?_)
                obtain ⟨G_S183, fS183, o185, o186⟩ := hP
                have F_S183 := zz_fr.trans F_S178 fS183 rfl zz_nv
                refine zz_aload_n (x := 1079) rfl zd_14_62_95 ?_
                refine zz_getr (kd := 0) (z := 1087) zd_14_62_96 zf_Md_36 zT_1079 rfl (zz_ltn hn rfl) (zz_G.eq G_S183 1079 11 1087 rfl rfl) (by decide) 1087 rfl ?_
                refine zz_bipush (by decide) zd_14_62_99 ?_
                have g187 := zz_G.r G_S22 1087 6 (-2147483648) 2147483647 rfl rfl
                refine zz_iald (z := S22 1087 6) zd_14_62_101 zT_1087 rfl (zz_ltn hn rfl) (by decide) (by decide) (zz_rc fS183 (zz_nc1 rfl) rfl (fun h => h) (zz_rc fS178 (zz_nc1 rfl) rfl (fun h => h) (zz_ro qS36 (fun h => absurd h.1 (by decide)) rfl))) ?_
                refine zz_if_ne (by omega) zd_14_62_102 (fun c188 => ?_) (fun c188 => ?_)
                · refine zz_aload_n (x := 1079) rfl zd_14_62_115 ?_
                  refine zz_bipush (by decide) zd_14_62_116 ?_
                  have g189 := zz_G.r G_S183 1079 34 0 200 rfl rfl
                  refine zz_callVV [zi 11] zd_14_62_118 zk_Md_393 zT_1079 (zz_ltn hn rfl) rfl rfl ⟨Nat.le_of_ble_eq_true rfl, Nat.le_of_ble_eq_true rfl⟩ ⟨rfl, rfl⟩ (Nat.zero_le _) (Nat.zero_le _) (zc_sayWord_14_58 11 S183 n hn G_S183 (by omega) (by omega)) (fun S190 hP => ?_)
                  obtain ⟨G_S190, fS190, o192, o193⟩ := hP
                  have F_S190 := zz_fr.trans F_S183 fS190 rfl zz_nv
                  refine zz_aload_n (x := 1079) rfl zd_14_62_121 ?_
                  refine zz_ldc2 (z := 32) zq_Md_327 (by decide) zd_14_62_122 ?_
                  have g194 := zz_G.r G_S190 1079 34 0 200 rfl rfl
                  refine zz_callVV [zl 32] zd_14_62_125 zk_Md_388 zT_1079 (zz_ltn hn rfl) rfl rfl ⟨Nat.le_of_ble_eq_true rfl, Nat.le_of_ble_eq_true rfl⟩ ⟨rfl, rfl⟩ (Nat.zero_le _) (Nat.zero_le _) (zc_say_14_57 32 S190 n hn G_S190 (by omega) (by omega)) (fun S195 hP => ?_)
                  obtain ⟨G_S195, fS195, o197⟩ := hP
                  have F_S195 := zz_fr.trans F_S190 fS195 rfl zz_nv
                  refine zz_aload_n (x := 1079) rfl zd_14_62_128 ?_
                  refine zz_aload_n (x := 1079) rfl zd_14_62_129 ?_
                  refine zz_getr (kd := 0) (z := 1087) zd_14_62_130 zf_Md_36 zT_1079 rfl (zz_ltn hn rfl) (zz_G.eq G_S195 1079 11 1087 rfl rfl) (by decide) 1087 rfl ?_
                  refine zz_bipush (by decide) zd_14_62_133 ?_
                  refine zz_iald (z := S22 1087 6) zd_14_62_135 zT_1087 rfl (zz_ltn hn rfl) (by decide) (by decide) (zz_rc fS195 (zz_nc1 rfl) rfl (fun h => h) (zz_rc fS190 (zz_nc1 rfl) rfl (fun h => h) (zz_rc fS183 (zz_nc1 rfl) rfl (fun h => h) (zz_rc fS178 (zz_nc1 rfl) rfl (fun h => h) (zz_ro qS36 (fun h => absurd h.1 (by decide)) rfl))))) ?_
                  have g198 := zz_G.r G_S195 1079 34 0 200 rfl rfl
                  refine zz_callVV [zi (S22 1087 6)] zd_14_62_136 zk_Md_396 zT_1079 (zz_ltn hn rfl) rfl rfl ⟨Nat.le_of_ble_eq_true rfl, Nat.le_of_ble_eq_true rfl⟩ ⟨rfl, rfl⟩ (Nat.zero_le _) (Nat.zero_le _) (zc_sayNumber_14_59 (S22 1087 6) S195 n hn G_S195 (by omega) (by omega)) (fun S199 hP => ?_)
                  obtain ⟨G_S199, fS199, o201, o202⟩ := hP
                  have F_S199 := zz_fr.trans F_S195 fS199 rfl zz_nv
                  refine zz_aload_n (x := 1079) rfl zd_14_62_139 ?_
                  refine zz_bipush (by decide) zd_14_62_140 ?_
                  have g203 := zz_G.r G_S199 1079 34 0 200 rfl rfl
                  refine zz_callVV [zi 12] zd_14_62_142 zk_Md_393 zT_1079 (zz_ltn hn rfl) rfl rfl ⟨Nat.le_of_ble_eq_true rfl, Nat.le_of_ble_eq_true rfl⟩ ⟨rfl, rfl⟩ (Nat.zero_le _) (Nat.zero_le _) (zc_sayWord_14_58 12 S199 n hn G_S199 (by omega) (by omega)) (fun S204 hP => ?_)
                  obtain ⟨G_S204, fS204, o206, o207⟩ := hP
                  have F_S204 := zz_fr.trans F_S199 fS204 rfl zz_nv
                  refine zz_aload_n (x := 1079) rfl zd_14_62_145 ?_
                  refine zz_ldc2 (z := 32) zq_Md_327 (by decide) zd_14_62_146 ?_
                  have g208 := zz_G.r G_S204 1079 34 0 200 rfl rfl
                  refine zz_callVV [zl 32] zd_14_62_149 zk_Md_388 zT_1079 (zz_ltn hn rfl) rfl rfl ⟨Nat.le_of_ble_eq_true rfl, Nat.le_of_ble_eq_true rfl⟩ ⟨rfl, rfl⟩ (Nat.zero_le _) (Nat.zero_le _) (zc_say_14_57 32 S204 n hn G_S204 (by omega) (by omega)) (fun S209 hP => ?_)
                  obtain ⟨G_S209, fS209, o211⟩ := hP
                  have F_S209 := zz_fr.trans F_S204 fS209 rfl zz_nv
                  refine zz_aload_n (x := 1079) rfl zd_14_62_152 ?_
                  refine zz_aload_n (x := 1079) rfl zd_14_62_153 ?_
                  refine zz_getr (kd := 0) (z := 1087) zd_14_62_154 zf_Md_36 zT_1079 rfl (zz_ltn hn rfl) (zz_G.eq G_S209 1079 11 1087 rfl rfl) (by decide) 1087 rfl ?_
                  refine zz_bipush (by decide) zd_14_62_157 ?_
                  have g212 := zz_G.r G_S22 1087 7 (-2147483648) 2147483647 rfl rfl
                  refine zz_iald (z := S22 1087 7) zd_14_62_159 zT_1087 rfl (zz_ltn hn rfl) (by decide) (by decide) (zz_rc fS209 (zz_nc1 rfl) rfl (fun h => h) (zz_rc fS204 (zz_nc1 rfl) rfl (fun h => h) (zz_rc fS199 (zz_nc1 rfl) rfl (fun h => h) (zz_rc fS195 (zz_nc1 rfl) rfl (fun h => h) (zz_rc fS190 (zz_nc1 rfl) rfl (fun h => h) (zz_rc fS183 (zz_nc1 rfl) rfl (fun h => h) (zz_rc fS178 (zz_nc1 rfl) rfl (fun h => h) (zz_ro qS36 (fun h => absurd h.1 (by decide)) rfl)))))))) ?_
                  have g213 := zz_G.r G_S209 1079 34 0 200 rfl rfl
                  refine zz_callVV [zi (S22 1087 7)] zd_14_62_160 zk_Md_396 zT_1079 (zz_ltn hn rfl) rfl rfl ⟨Nat.le_of_ble_eq_true rfl, Nat.le_of_ble_eq_true rfl⟩ ⟨rfl, rfl⟩ (Nat.zero_le _) (Nat.zero_le _) (zc_sayNumber_14_59 (S22 1087 7) S209 n hn G_S209 (by omega) (by omega)) (fun S214 hP => ?_)
                  obtain ⟨G_S214, fS214, o216, o217⟩ := hP
                  have F_S214 := zz_fr.trans F_S209 fS214 rfl zz_nv
                  refine zz_aload_n (x := 1079) rfl zd_14_62_163 ?_
                  refine zz_bipush (by decide) zd_14_62_164 ?_
                  refine zz_bipush (by decide) zd_14_62_166 ?_
                  have g218 := zz_G.r G_S214 1079 34 0 200 rfl rfl
                  refine zz_callVV [zi 13, zi 8] zd_14_62_168 zk_Md_401 zT_1079 (zz_ltn hn rfl) rfl rfl ⟨Nat.le_of_ble_eq_true rfl, Nat.le_of_ble_eq_true rfl⟩ ⟨rfl, rfl⟩ (Nat.zero_le _) (Nat.zero_le _) (zc_sayField_14_60 13 8 S214 n hn G_S214 (by omega) (by omega) (by omega)) (fun S219 hP => ?_)
                  obtain ⟨G_S219, fS219, o221, o222⟩ := hP
                  have F_S219 := zz_fr.trans F_S214 fS219 rfl zz_nv
                  refine zz_aload_n (x := 1079) rfl zd_14_62_171 ?_
                  refine zz_bipush (by decide) zd_14_62_172 ?_
                  refine zz_bipush (by decide) zd_14_62_174 ?_
                  have g223 := zz_G.r G_S219 1079 34 0 200 rfl rfl
                  refine zz_callVV [zi 14, zi 9] zd_14_62_176 zk_Md_401 zT_1079 (zz_ltn hn rfl) rfl rfl ⟨Nat.le_of_ble_eq_true rfl, Nat.le_of_ble_eq_true rfl⟩ ⟨rfl, rfl⟩ (Nat.zero_le _) (Nat.zero_le _) (zc_sayField_14_60 14 9 S219 n hn G_S219 (by omega) (by omega) (by omega)) (fun S224 hP => ?_)
                  obtain ⟨G_S224, fS224, o226, o227⟩ := hP
                  have F_S224 := zz_fr.trans F_S219 fS224 rfl zz_nv
                  refine zz_aload_n (x := 1079) rfl zd_14_62_179 ?_
                  refine zz_bipush (by decide) zd_14_62_180 ?_
                  refine zz_bipush (by decide) zd_14_62_182 ?_
                  have g228 := zz_G.r G_S224 1079 34 0 200 rfl rfl
                  refine zz_callVV [zi 15, zi 10] zd_14_62_184 zk_Md_401 zT_1079 (zz_ltn hn rfl) rfl rfl ⟨Nat.le_of_ble_eq_true rfl, Nat.le_of_ble_eq_true rfl⟩ ⟨rfl, rfl⟩ (Nat.zero_le _) (Nat.zero_le _) (zc_sayField_14_60 15 10 S224 n hn G_S224 (by omega) (by omega) (by omega)) (fun S229 hP => ?_)
                  obtain ⟨G_S229, fS229, o231, o232⟩ := hP
                  have F_S229 := zz_fr.trans F_S224 fS229 rfl zz_nv
                  refine zz_aload_n (x := 1079) rfl zd_14_62_187 ?_
                  refine zz_bipush (by decide) zd_14_62_188 ?_
                  refine zz_bipush (by decide) zd_14_62_190 ?_
                  have g233 := zz_G.r G_S229 1079 34 0 200 rfl rfl
                  refine zz_callVV [zi 16, zi 11] zd_14_62_192 zk_Md_401 zT_1079 (zz_ltn hn rfl) rfl rfl ⟨Nat.le_of_ble_eq_true rfl, Nat.le_of_ble_eq_true rfl⟩ ⟨rfl, rfl⟩ (Nat.zero_le _) (Nat.zero_le _) (zc_sayField_14_60 16 11 S229 n hn G_S229 (by omega) (by omega) (by omega)) (fun S234 hP => ?_)
                  obtain ⟨G_S234, fS234, o236, o237⟩ := hP
                  have F_S234 := zz_fr.trans F_S229 fS234 rfl zz_nv
                  refine zz_iconst zd_14_62_195 ?_
                  refine zz_istore_n [some (.ref 1079), some (zi p0), some (zi p1), some (zi 1)] zd_14_62_196 (by decide) rfl ?_
                  have g238 := zz_G.r G_S234 1079 34 0 200 rfl rfl
                  refine zz_less (ls1 := [some (.ref 1079), none, some (zi p1), some (zi 1)]) ⟨rfl, ⟨rfl, ⟨rfl, trivial⟩⟩⟩ ?_
                  exact k197 1 S234 G_S234 F_S234 (by omega) (by omega) (by omega) (by omega) (by omega) (by omega)
                · refine zz_aload_n (x := 1079) rfl zd_14_62_105 ?_
                  refine zz_getr (kd := 0) (z := 1087) zd_14_62_106 zf_Md_36 zT_1079 rfl (zz_ltn hn rfl) (zz_G.eq G_S183 1079 11 1087 rfl rfl) (by decide) 1087 rfl ?_
                  refine zz_bipush (by decide) zd_14_62_109 ?_
                  have g239 := zz_G.r G_S22 1087 7 (-2147483648) 2147483647 rfl rfl
                  refine zz_iald (z := S22 1087 7) zd_14_62_111 zT_1087 rfl (zz_ltn hn rfl) (by decide) (by decide) (zz_rc fS183 (zz_nc1 rfl) rfl (fun h => h) (zz_rc fS178 (zz_nc1 rfl) rfl (fun h => h) (zz_ro qS36 (fun h => absurd h.1 (by decide)) rfl))) ?_
                  refine zz_if_eq (by omega) zd_14_62_112 (fun c240 => ?_) (fun c240 => ?_)
                  · refine zz_aload_n (x := 1079) rfl zd_14_62_163 ?_
                    refine zz_bipush (by decide) zd_14_62_164 ?_
                    refine zz_bipush (by decide) zd_14_62_166 ?_
                    have g241 := zz_G.r G_S183 1079 34 0 200 rfl rfl
                    refine zz_callVV [zi 13, zi 8] zd_14_62_168 zk_Md_401 zT_1079 (zz_ltn hn rfl) rfl rfl ⟨Nat.le_of_ble_eq_true rfl, Nat.le_of_ble_eq_true rfl⟩ ⟨rfl, rfl⟩ (Nat.zero_le _) (Nat.zero_le _) (zc_sayField_14_60 13 8 S183 n hn G_S183 (by omega) (by omega) (by omega)) (fun S242 hP => ?_)
                    obtain ⟨G_S242, fS242, o244, o245⟩ := hP
                    have F_S242 := zz_fr.trans F_S183 fS242 rfl zz_nv
                    refine zz_aload_n (x := 1079) rfl zd_14_62_171 ?_
                    refine zz_bipush (by decide) zd_14_62_172 ?_
                    refine zz_bipush (by decide) zd_14_62_174 ?_
                    have g246 := zz_G.r G_S242 1079 34 0 200 rfl rfl
                    refine zz_callVV [zi 14, zi 9] zd_14_62_176 zk_Md_401 zT_1079 (zz_ltn hn rfl) rfl rfl ⟨Nat.le_of_ble_eq_true rfl, Nat.le_of_ble_eq_true rfl⟩ ⟨rfl, rfl⟩ (Nat.zero_le _) (Nat.zero_le _) (zc_sayField_14_60 14 9 S242 n hn G_S242 (by omega) (by omega) (by omega)) (fun S247 hP => ?_)
                    obtain ⟨G_S247, fS247, o249, o250⟩ := hP
                    have F_S247 := zz_fr.trans F_S242 fS247 rfl zz_nv
                    refine zz_aload_n (x := 1079) rfl zd_14_62_179 ?_
                    refine zz_bipush (by decide) zd_14_62_180 ?_
                    refine zz_bipush (by decide) zd_14_62_182 ?_
                    have g251 := zz_G.r G_S247 1079 34 0 200 rfl rfl
                    refine zz_callVV [zi 15, zi 10] zd_14_62_184 zk_Md_401 zT_1079 (zz_ltn hn rfl) rfl rfl ⟨Nat.le_of_ble_eq_true rfl, Nat.le_of_ble_eq_true rfl⟩ ⟨rfl, rfl⟩ (Nat.zero_le _) (Nat.zero_le _) (zc_sayField_14_60 15 10 S247 n hn G_S247 (by omega) (by omega) (by omega)) (fun S252 hP => ?_)
                    obtain ⟨G_S252, fS252, o254, o255⟩ := hP
                    have F_S252 := zz_fr.trans F_S247 fS252 rfl zz_nv
                    refine zz_aload_n (x := 1079) rfl zd_14_62_187 ?_
                    refine zz_bipush (by decide) zd_14_62_188 ?_
                    refine zz_bipush (by decide) zd_14_62_190 ?_
                    have g256 := zz_G.r G_S252 1079 34 0 200 rfl rfl
                    refine zz_callVV [zi 16, zi 11] zd_14_62_192 zk_Md_401 zT_1079 (zz_ltn hn rfl) rfl rfl ⟨Nat.le_of_ble_eq_true rfl, Nat.le_of_ble_eq_true rfl⟩ ⟨rfl, rfl⟩ (Nat.zero_le _) (Nat.zero_le _) (zc_sayField_14_60 16 11 S252 n hn G_S252 (by omega) (by omega) (by omega)) (fun S257 hP => ?_)
                    obtain ⟨G_S257, fS257, o259, o260⟩ := hP
                    have F_S257 := zz_fr.trans F_S252 fS257 rfl zz_nv
                    refine zz_iconst zd_14_62_195 ?_
                    refine zz_istore_n [some (.ref 1079), some (zi p0), some (zi p1), some (zi 1)] zd_14_62_196 (by decide) rfl ?_
                    have g261 := zz_G.r G_S257 1079 34 0 200 rfl rfl
                    refine zz_less (ls1 := [some (.ref 1079), none, some (zi p1), some (zi 1)]) ⟨rfl, ⟨rfl, ⟨rfl, trivial⟩⟩⟩ ?_
                    exact k197 1 S257 G_S257 F_S257 (by omega) (by omega) (by omega) (by omega) (by omega) (by omega)
                  · refine zz_aload_n (x := 1079) rfl zd_14_62_115 ?_
                    refine zz_bipush (by decide) zd_14_62_116 ?_
                    have g262 := zz_G.r G_S183 1079 34 0 200 rfl rfl
                    refine zz_callVV [zi 11] zd_14_62_118 zk_Md_393 zT_1079 (zz_ltn hn rfl) rfl rfl ⟨Nat.le_of_ble_eq_true rfl, Nat.le_of_ble_eq_true rfl⟩ ⟨rfl, rfl⟩ (Nat.zero_le _) (Nat.zero_le _) (zc_sayWord_14_58 11 S183 n hn G_S183 (by omega) (by omega)) (fun S263 hP => ?_)
                    obtain ⟨G_S263, fS263, o265, o266⟩ := hP
                    have F_S263 := zz_fr.trans F_S183 fS263 rfl zz_nv
                    refine zz_aload_n (x := 1079) rfl zd_14_62_121 ?_
                    refine zz_ldc2 (z := 32) zq_Md_327 (by decide) zd_14_62_122 ?_
                    have g267 := zz_G.r G_S263 1079 34 0 200 rfl rfl
                    refine zz_callVV [zl 32] zd_14_62_125 zk_Md_388 zT_1079 (zz_ltn hn rfl) rfl rfl ⟨Nat.le_of_ble_eq_true rfl, Nat.le_of_ble_eq_true rfl⟩ ⟨rfl, rfl⟩ (Nat.zero_le _) (Nat.zero_le _) (zc_say_14_57 32 S263 n hn G_S263 (by omega) (by omega)) (fun S268 hP => ?_)
                    obtain ⟨G_S268, fS268, o270⟩ := hP
                    have F_S268 := zz_fr.trans F_S263 fS268 rfl zz_nv
                    refine zz_aload_n (x := 1079) rfl zd_14_62_128 ?_
                    refine zz_aload_n (x := 1079) rfl zd_14_62_129 ?_
                    refine zz_getr (kd := 0) (z := 1087) zd_14_62_130 zf_Md_36 zT_1079 rfl (zz_ltn hn rfl) (zz_G.eq G_S268 1079 11 1087 rfl rfl) (by decide) 1087 rfl ?_
                    refine zz_bipush (by decide) zd_14_62_133 ?_
                    refine zz_iald (z := S22 1087 6) zd_14_62_135 zT_1087 rfl (zz_ltn hn rfl) (by decide) (by decide) (zz_rc fS268 (zz_nc1 rfl) rfl (fun h => h) (zz_rc fS263 (zz_nc1 rfl) rfl (fun h => h) (zz_rc fS183 (zz_nc1 rfl) rfl (fun h => h) (zz_rc fS178 (zz_nc1 rfl) rfl (fun h => h) (zz_ro qS36 (fun h => absurd h.1 (by decide)) rfl))))) ?_
                    have g271 := zz_G.r G_S268 1079 34 0 200 rfl rfl
                    refine zz_callVV [zi (S22 1087 6)] zd_14_62_136 zk_Md_396 zT_1079 (zz_ltn hn rfl) rfl rfl ⟨Nat.le_of_ble_eq_true rfl, Nat.le_of_ble_eq_true rfl⟩ ⟨rfl, rfl⟩ (Nat.zero_le _) (Nat.zero_le _) (zc_sayNumber_14_59 (S22 1087 6) S268 n hn G_S268 (by omega) (by omega)) (fun S272 hP => ?_)
                    obtain ⟨G_S272, fS272, o274, o275⟩ := hP
                    have F_S272 := zz_fr.trans F_S268 fS272 rfl zz_nv
                    refine zz_aload_n (x := 1079) rfl zd_14_62_139 ?_
                    refine zz_bipush (by decide) zd_14_62_140 ?_
                    have g276 := zz_G.r G_S272 1079 34 0 200 rfl rfl
                    refine zz_callVV [zi 12] zd_14_62_142 zk_Md_393 zT_1079 (zz_ltn hn rfl) rfl rfl ⟨Nat.le_of_ble_eq_true rfl, Nat.le_of_ble_eq_true rfl⟩ ⟨rfl, rfl⟩ (Nat.zero_le _) (Nat.zero_le _) (zc_sayWord_14_58 12 S272 n hn G_S272 (by omega) (by omega)) (fun S277 hP => ?_)
                    obtain ⟨G_S277, fS277, o279, o280⟩ := hP
                    have F_S277 := zz_fr.trans F_S272 fS277 rfl zz_nv
                    refine zz_aload_n (x := 1079) rfl zd_14_62_145 ?_
                    refine zz_ldc2 (z := 32) zq_Md_327 (by decide) zd_14_62_146 ?_
                    have g281 := zz_G.r G_S277 1079 34 0 200 rfl rfl
                    refine zz_callVV [zl 32] zd_14_62_149 zk_Md_388 zT_1079 (zz_ltn hn rfl) rfl rfl ⟨Nat.le_of_ble_eq_true rfl, Nat.le_of_ble_eq_true rfl⟩ ⟨rfl, rfl⟩ (Nat.zero_le _) (Nat.zero_le _) (zc_say_14_57 32 S277 n hn G_S277 (by omega) (by omega)) (fun S282 hP => ?_)
                    obtain ⟨G_S282, fS282, o284⟩ := hP
                    have F_S282 := zz_fr.trans F_S277 fS282 rfl zz_nv
                    refine zz_aload_n (x := 1079) rfl zd_14_62_152 ?_
                    refine zz_aload_n (x := 1079) rfl zd_14_62_153 ?_
                    refine zz_getr (kd := 0) (z := 1087) zd_14_62_154 zf_Md_36 zT_1079 rfl (zz_ltn hn rfl) (zz_G.eq G_S282 1079 11 1087 rfl rfl) (by decide) 1087 rfl ?_
                    refine zz_bipush (by decide) zd_14_62_157 ?_
                    refine zz_iald (z := S22 1087 7) zd_14_62_159 zT_1087 rfl (zz_ltn hn rfl) (by decide) (by decide) (zz_rc fS282 (zz_nc1 rfl) rfl (fun h => h) (zz_rc fS277 (zz_nc1 rfl) rfl (fun h => h) (zz_rc fS272 (zz_nc1 rfl) rfl (fun h => h) (zz_rc fS268 (zz_nc1 rfl) rfl (fun h => h) (zz_rc fS263 (zz_nc1 rfl) rfl (fun h => h) (zz_rc fS183 (zz_nc1 rfl) rfl (fun h => h) (zz_rc fS178 (zz_nc1 rfl) rfl (fun h => h) (zz_ro qS36 (fun h => absurd h.1 (by decide)) rfl)))))))) ?_
                    have g285 := zz_G.r G_S282 1079 34 0 200 rfl rfl
                    refine zz_callVV [zi (S22 1087 7)] zd_14_62_160 zk_Md_396 zT_1079 (zz_ltn hn rfl) rfl rfl ⟨Nat.le_of_ble_eq_true rfl, Nat.le_of_ble_eq_true rfl⟩ ⟨rfl, rfl⟩ (Nat.zero_le _) (Nat.zero_le _) (zc_sayNumber_14_59 (S22 1087 7) S282 n hn G_S282 (by omega) (by omega)) (fun S286 hP => ?_)
                    obtain ⟨G_S286, fS286, o288, o289⟩ := hP
                    have F_S286 := zz_fr.trans F_S282 fS286 rfl zz_nv
                    refine zz_aload_n (x := 1079) rfl zd_14_62_163 ?_
                    refine zz_bipush (by decide) zd_14_62_164 ?_
                    refine zz_bipush (by decide) zd_14_62_166 ?_
                    have g290 := zz_G.r G_S286 1079 34 0 200 rfl rfl
                    refine zz_callVV [zi 13, zi 8] zd_14_62_168 zk_Md_401 zT_1079 (zz_ltn hn rfl) rfl rfl ⟨Nat.le_of_ble_eq_true rfl, Nat.le_of_ble_eq_true rfl⟩ ⟨rfl, rfl⟩ (Nat.zero_le _) (Nat.zero_le _) (zc_sayField_14_60 13 8 S286 n hn G_S286 (by omega) (by omega) (by omega)) (fun S291 hP => ?_)
                    obtain ⟨G_S291, fS291, o293, o294⟩ := hP
                    have F_S291 := zz_fr.trans F_S286 fS291 rfl zz_nv
                    refine zz_aload_n (x := 1079) rfl zd_14_62_171 ?_
                    refine zz_bipush (by decide) zd_14_62_172 ?_
                    refine zz_bipush (by decide) zd_14_62_174 ?_
                    have g295 := zz_G.r G_S291 1079 34 0 200 rfl rfl
                    refine zz_callVV [zi 14, zi 9] zd_14_62_176 zk_Md_401 zT_1079 (zz_ltn hn rfl) rfl rfl ⟨Nat.le_of_ble_eq_true rfl, Nat.le_of_ble_eq_true rfl⟩ ⟨rfl, rfl⟩ (Nat.zero_le _) (Nat.zero_le _) (zc_sayField_14_60 14 9 S291 n hn G_S291 (by omega) (by omega) (by omega)) (fun S296 hP => ?_)
                    obtain ⟨G_S296, fS296, o298, o299⟩ := hP
                    have F_S296 := zz_fr.trans F_S291 fS296 rfl zz_nv
                    refine zz_aload_n (x := 1079) rfl zd_14_62_179 ?_
                    refine zz_bipush (by decide) zd_14_62_180 ?_
                    refine zz_bipush (by decide) zd_14_62_182 ?_
                    have g300 := zz_G.r G_S296 1079 34 0 200 rfl rfl
                    refine zz_callVV [zi 15, zi 10] zd_14_62_184 zk_Md_401 zT_1079 (zz_ltn hn rfl) rfl rfl ⟨Nat.le_of_ble_eq_true rfl, Nat.le_of_ble_eq_true rfl⟩ ⟨rfl, rfl⟩ (Nat.zero_le _) (Nat.zero_le _) (zc_sayField_14_60 15 10 S296 n hn G_S296 (by omega) (by omega) (by omega)) (fun S301 hP => ?_)
                    obtain ⟨G_S301, fS301, o303, o304⟩ := hP
                    have F_S301 := zz_fr.trans F_S296 fS301 rfl zz_nv
                    refine zz_aload_n (x := 1079) rfl zd_14_62_187 ?_
                    refine zz_bipush (by decide) zd_14_62_188 ?_
                    refine zz_bipush (by decide) zd_14_62_190 ?_
                    have g305 := zz_G.r G_S301 1079 34 0 200 rfl rfl
                    refine zz_callVV [zi 16, zi 11] zd_14_62_192 zk_Md_401 zT_1079 (zz_ltn hn rfl) rfl rfl ⟨Nat.le_of_ble_eq_true rfl, Nat.le_of_ble_eq_true rfl⟩ ⟨rfl, rfl⟩ (Nat.zero_le _) (Nat.zero_le _) (zc_sayField_14_60 16 11 S301 n hn G_S301 (by omega) (by omega) (by omega)) (fun S306 hP => ?_)
                    obtain ⟨G_S306, fS306, o308, o309⟩ := hP
                    have F_S306 := zz_fr.trans F_S301 fS306 rfl zz_nv
                    refine zz_iconst zd_14_62_195 ?_
                    refine zz_istore_n [some (.ref 1079), some (zi p0), some (zi p1), some (zi 1)] zd_14_62_196 (by decide) rfl ?_
                    have g310 := zz_G.r G_S306 1079 34 0 200 rfl rfl
                    refine zz_less (ls1 := [some (.ref 1079), none, some (zi p1), some (zi 1)]) ⟨rfl, ⟨rfl, ⟨rfl, trivial⟩⟩⟩ ?_
                    exact k197 1 S306 G_S306 F_S306 (by omega) (by omega) (by omega) (by omega) (by omega) (by omega)
          · exfalso; omega
        · exfalso; omega
      · refine zz_iconst zd_14_62_21 ?_
        refine zz_goto zd_14_62_22 ?_
        refine zz_iconst zd_14_62_26 ?_
        refine zz_iconst zd_14_62_27 ?_
        refine zz_callVI [zi 1, zi 0, zi 0] zd_14_62_28 zk_Md_196 zT_1079 (zz_ltn hn rfl) rfl rfl ⟨Nat.le_of_ble_eq_true rfl, Nat.le_of_ble_eq_true rfl⟩ ⟨rfl, rfl⟩ (Nat.zero_le _) (Nat.zero_le _) (zc_refuse_14_3 1 0 0 S0 n hn G_S0 (by omega) (by omega) (by omega)) (fun v312 S311 hP => ?_)
        obtain ⟨G_S311, fS311, o313, o314⟩ := hP
        have F_S311 := zz_fr.trans F_S0 fS311 rfl zz_nv
        rcases (by omega : v312 = 0 ∨ v312 = 1) with rfl | rfl
        · exfalso; omega
        · have e315 : S311 1079 0 = 1 := by omega
          refine zz_if_eq (by omega) zd_14_62_31 (fun c316 => ?_) (fun c316 => ?_)
          · exfalso; omega
          · refine zz_iconst zd_14_62_34 ?_
            exact zz_iret zd_14_62_35 rfl (Nat.zero_le _) (Nat.zero_le _) ⟨_, _, rfl, G_S311, F_S311, by omega⟩
abbrev zy_input_14_63 : mm_Y := (⟨"TensorForgeModel", "input", "(III)V"⟩, prog_14_method_63_code, 5, none)
theorem zyw_input_14_63 : mm_Yw zy_input_14_63 3 := ⟨mm_tb_1 2076 (by decide +kernel) rfl, mm_tb_1 12 (by decide +kernel) rfl, ⟨by decide, by decide⟩, by decide +kernel⟩
theorem zd_14_63_0 : zz_D zy_input_14_63 0 (.iload_n 1) 1 1 := ⟨by decide +kernel, rfl⟩
theorem zd_14_63_1 : zz_D zy_input_14_63 1 (.i2l) 1 2 := ⟨by decide +kernel, rfl⟩
theorem zd_14_63_2 : zz_D zy_input_14_63 2 (.lconst 1) 1 3 := ⟨by decide +kernel, rfl⟩
theorem zd_14_63_3 : zz_D zy_input_14_63 3 (.ldc2_w 399) 3 6 := ⟨by decide +kernel, rfl⟩
theorem zd_14_63_6 : zz_D zy_input_14_63 6 (.invokestatic 192) 3 9 := ⟨by decide +kernel, rfl⟩
theorem zd_14_63_9 : zz_B zy_input_14_63 9 (Instr.ifCond .eq) 55 12 := ⟨46, by decide +kernel, rfl, rfl⟩
theorem zd_14_63_55 : zz_D zy_input_14_63 55 (.iconst 0) 1 56 := ⟨by decide +kernel, rfl⟩
theorem zd_14_63_56 : zz_D zy_input_14_63 56 (.istore 4) 2 58 := ⟨by decide +kernel, rfl⟩
theorem zd_14_63_58 : zz_D zy_input_14_63 58 (.aload_n 0) 1 59 := ⟨by decide +kernel, rfl⟩
theorem zd_14_63_59 : zz_D zy_input_14_63 59 (.iload 4) 2 61 := ⟨by decide +kernel, rfl⟩
theorem zd_14_63_61 : zz_B zy_input_14_63 61 (Instr.ifCond .ne) 68 64 := ⟨7, by decide +kernel, rfl, rfl⟩
theorem zd_14_63_64 : zz_D zy_input_14_63 64 (.iconst 1) 1 65 := ⟨by decide +kernel, rfl⟩
theorem zd_14_63_65 : zz_B zy_input_14_63 65 Instr.goto 69 68 := ⟨4, by decide +kernel, rfl, rfl⟩
theorem zd_14_63_69 : zz_D zy_input_14_63 69 (.iconst 0) 1 70 := ⟨by decide +kernel, rfl⟩
theorem zd_14_63_70 : zz_D zy_input_14_63 70 (.iconst 0) 1 71 := ⟨by decide +kernel, rfl⟩
theorem zd_14_63_71 : zz_D zy_input_14_63 71 (.invokevirtual 196) 3 74 := ⟨by decide +kernel, rfl⟩
theorem zd_14_63_74 : zz_B zy_input_14_63 74 (Instr.ifCond .ne) 84 77 := ⟨10, by decide +kernel, rfl, rfl⟩
theorem zd_14_63_84 : zz_D zy_input_14_63 84 (.return_) 1 85 := ⟨by decide +kernel, rfl⟩
theorem zd_14_63_12 : zz_D zy_input_14_63 12 (.iload_n 2) 1 13 := ⟨by decide +kernel, rfl⟩
theorem zd_14_63_13 : zz_D zy_input_14_63 13 (.i2l) 1 14 := ⟨by decide +kernel, rfl⟩
theorem zd_14_63_14 : zz_D zy_input_14_63 14 (.lconst 1) 1 15 := ⟨by decide +kernel, rfl⟩
theorem zd_14_63_15 : zz_D zy_input_14_63 15 (.ldc2_w 399) 3 18 := ⟨by decide +kernel, rfl⟩
theorem zd_14_63_18 : zz_D zy_input_14_63 18 (.invokestatic 192) 3 21 := ⟨by decide +kernel, rfl⟩
theorem zd_14_63_21 : zz_B zy_input_14_63 21 (Instr.ifCond .eq) 55 24 := ⟨34, by decide +kernel, rfl, rfl⟩
theorem zd_14_63_24 : zz_D zy_input_14_63 24 (.iload_n 3) 1 25 := ⟨by decide +kernel, rfl⟩
theorem zd_14_63_25 : zz_D zy_input_14_63 25 (.i2l) 1 26 := ⟨by decide +kernel, rfl⟩
theorem zd_14_63_26 : zz_D zy_input_14_63 26 (.lconst 1) 1 27 := ⟨by decide +kernel, rfl⟩
theorem zd_14_63_27 : zz_D zy_input_14_63 27 (.ldc2_w 399) 3 30 := ⟨by decide +kernel, rfl⟩
theorem zd_14_63_30 : zz_D zy_input_14_63 30 (.invokestatic 192) 3 33 := ⟨by decide +kernel, rfl⟩
theorem zd_14_63_33 : zz_B zy_input_14_63 33 (Instr.ifCond .eq) 55 36 := ⟨22, by decide +kernel, rfl, rfl⟩
theorem zd_14_63_36 : zz_D zy_input_14_63 36 (.iload_n 1) 1 37 := ⟨by decide +kernel, rfl⟩
theorem zd_14_63_37 : zz_D zy_input_14_63 37 (.i2l) 1 38 := ⟨by decide +kernel, rfl⟩
theorem zd_14_63_38 : zz_D zy_input_14_63 38 (.iload_n 2) 1 39 := ⟨by decide +kernel, rfl⟩
theorem zd_14_63_39 : zz_D zy_input_14_63 39 (.i2l) 1 40 := ⟨by decide +kernel, rfl⟩
theorem zd_14_63_40 : zz_D zy_input_14_63 40 (.lmul) 1 41 := ⟨by decide +kernel, rfl⟩
theorem zd_14_63_41 : zz_D zy_input_14_63 41 (.iload_n 3) 1 42 := ⟨by decide +kernel, rfl⟩
theorem zd_14_63_42 : zz_D zy_input_14_63 42 (.i2l) 1 43 := ⟨by decide +kernel, rfl⟩
theorem zd_14_63_43 : zz_D zy_input_14_63 43 (.lmul) 1 44 := ⟨by decide +kernel, rfl⟩
theorem zd_14_63_44 : zz_D zy_input_14_63 44 (.ldc2_w 409) 3 47 := ⟨by decide +kernel, rfl⟩
theorem zq_Md_409 : Cond.constantLong "TensorForgeModel" 409 (2048 : Int64) ∈ mm_tb := mm_tb_1 2077 (by decide +kernel) rfl
theorem zd_14_63_47 : zz_D zy_input_14_63 47 (.lcmp) 1 48 := ⟨by decide +kernel, rfl⟩
theorem zd_14_63_48 : zz_B zy_input_14_63 48 (Instr.ifCond .gt) 55 51 := ⟨7, by decide +kernel, rfl, rfl⟩
theorem zd_14_63_51 : zz_D zy_input_14_63 51 (.iconst 1) 1 52 := ⟨by decide +kernel, rfl⟩
theorem zd_14_63_52 : zz_B zy_input_14_63 52 Instr.goto 56 55 := ⟨4, by decide +kernel, rfl, rfl⟩
theorem zd_14_63_68 : zz_D zy_input_14_63 68 (.iconst 0) 1 69 := ⟨by decide +kernel, rfl⟩
theorem zd_14_63_77 : zz_D zy_input_14_63 77 (.aload_n 0) 1 78 := ⟨by decide +kernel, rfl⟩
theorem zd_14_63_78 : zz_D zy_input_14_63 78 (.iload_n 1) 1 79 := ⟨by decide +kernel, rfl⟩
theorem zd_14_63_79 : zz_D zy_input_14_63 79 (.iload_n 2) 1 80 := ⟨by decide +kernel, rfl⟩
theorem zd_14_63_80 : zz_D zy_input_14_63 80 (.iload_n 3) 1 81 := ⟨by decide +kernel, rfl⟩
theorem zd_14_63_81 : zz_D zy_input_14_63 81 (.invokevirtual 183) 3 84 := ⟨by decide +kernel, rfl⟩
theorem zk_Md_183 : mm_Vl "TensorForgeModel" 183 11 3 zy_form_14_5 := ⟨zyw_form_14_5, (R_Md, F_Md, 69), rfl, mm_tb_1 1607 (by decide +kernel) rfl, mm_tb_1 1609 (by decide +kernel) rfl, mm_tb_s 85 (by decide +kernel) rfl⟩
-- TensorForgeModel input (III)V
abbrev zr_input_14_63 : Room := { frames := 1, cells := 0, slots := 0, locals := 17 }
def zp_input_14_63 (p0 : Int) (p1 : Int) (p2 : Int) (S0 : zz_S) : zz_S → Prop := fun S => zz_G S ∧ zz_fr [(1079, 0), (1079, 36), (1102, 0), (1103, 0), (1104, 0), (1105, 0), (1105, 1)] [] (fun _ _ => False) S0 S ∧ (S 1079 0 = 0 → S 1079 36 = 1) ∧ (1 ≤ S0 1079 36 → 1 ≤ S 1079 36) ∧ (zz_Hr S)
theorem zc_input_14_63 {g : mm_G} {l : Launch} (p0 : Int) (p1 : Int) (p2 : Int) (S0 : zz_S) (n : Nat) (hn : zz_end ≤ n) (G_S0 : zz_G S0) (hp0 : (-2147483648) ≤ p0 ∧ p0 ≤ 2147483647) (hp1 : (-2147483648) ≤ p1 ∧ p1 ≤ 2147483647) (hp2 : (-2147483648) ≤ p2 ∧ p2 ≤ 2147483647) (R_S0 : zz_Hr S0) : mm_Met g l zy_input_14_63 zr_input_14_63 [.ref 1079, zi p0, zi p1, zi p2] (zz_M S0 n) n (zz_QV n (zp_input_14_63 p0 p1 p2 S0)) := by
  refine zz_enter (by decide) (Nat.le_of_ble_eq_true rfl) (zz_less (ls1 := [some (.ref 1079), some (zi p0), some (zi p1), some (zi p2)]) ⟨rfl, ⟨rfl, ⟨rfl, ⟨rfl, trivial⟩⟩⟩⟩ ?_)
  have F_S0 : zz_fr [(1079, 0), (1079, 36), (1102, 0), (1103, 0), (1104, 0), (1105, 0), (1105, 1)] [] (fun _ _ => False) S0 S0 := zz_fr.refl
  refine zz_iload_n (x := p0) rfl zd_14_63_0 ?_
  refine zz_i2l (by omega) zd_14_63_1 ?_
  refine zz_lconst (z := 1) (by decide) zd_14_63_2 ?_
  refine zz_ldc2 (z := 63) zq_Md_399 (by decide) zd_14_63_3 ?_
  refine zz_callSI [zl p0, zl 1, zl 63] zd_14_63_6 zk_Md_192 rfl rfl ⟨Nat.le_of_ble_eq_true rfl, Nat.le_of_ble_eq_true rfl⟩ ⟨rfl, rfl⟩ (Nat.zero_le _) (Nat.zero_le _) (zc_in_14_4 p0 1 63 S0 n hn G_S0 (by omega) (by omega) (by omega)) (fun v2 S1 hP => ?_)
  obtain ⟨rfl, o3, o4⟩ := hP
  rcases (by omega : v2 = 0 ∨ v2 = 1) with rfl | rfl
  · refine zz_if_eq (by omega) zd_14_63_9 (fun c5 => ?_) (fun c5 => ?_)
    · refine zz_iconst zd_14_63_55 ?_
      refine zz_istore [some (.ref 1079), some (zi p0), some (zi p1), some (zi p2), some (zi 0)] zd_14_63_56 (by decide) rfl ?_
      refine zz_aload_n (x := 1079) rfl zd_14_63_58 ?_
      refine zz_iload (x := 0) rfl zd_14_63_59 ?_
      refine zz_if_ne (by omega) zd_14_63_61 (fun c6 => ?_) (fun c6 => ?_)
      · exfalso; omega
      · refine zz_iconst zd_14_63_64 ?_
        refine zz_goto zd_14_63_65 ?_
        refine zz_iconst zd_14_63_69 ?_
        refine zz_iconst zd_14_63_70 ?_
        refine zz_callVI [zi 1, zi 0, zi 0] zd_14_63_71 zk_Md_196 zT_1079 (zz_ltn hn rfl) rfl rfl ⟨Nat.le_of_ble_eq_true rfl, Nat.le_of_ble_eq_true rfl⟩ ⟨rfl, rfl⟩ (Nat.zero_le _) (Nat.zero_le _) (zc_refuse_14_3 1 0 0 S0 n hn G_S0 (by omega) (by omega) (by omega)) (fun v8 S7 hP => ?_)
        obtain ⟨G_S7, fS7, o9, o10⟩ := hP
        have F_S7 := zz_fr.trans F_S0 fS7 rfl zz_nv
        have R_S7 : zz_Hr S7 := zz_Hr.fr fS7 rfl rfl (fun b j h => h.elim) R_S0
        rcases (by omega : v8 = 0 ∨ v8 = 1) with rfl | rfl
        · exfalso; omega
        · have e11 : S7 1079 0 = 1 := by omega
          refine zz_if_ne (by omega) zd_14_63_74 (fun c12 => ?_) (fun c12 => ?_)
          · have g13 := zz_G.r G_S0 1079 36 0 11 rfl rfl
            have e14 : S7 1079 36 = S0 1079 36 := (zz_rc fS7 rfl rfl (fun h => h) rfl)
            exact zz_vret zd_14_63_84 rfl (Nat.zero_le _) (Nat.zero_le _) ⟨_, rfl, G_S7, F_S7, by omega, by omega, R_S7⟩
          · exfalso; omega
    · exfalso; omega
  · refine zz_if_eq (by omega) zd_14_63_9 (fun c15 => ?_) (fun c15 => ?_)
    · exfalso; omega
    · refine zz_iload_n (x := p1) rfl zd_14_63_12 ?_
      refine zz_i2l (by omega) zd_14_63_13 ?_
      refine zz_lconst (z := 1) (by decide) zd_14_63_14 ?_
      refine zz_ldc2 (z := 63) zq_Md_399 (by decide) zd_14_63_15 ?_
      refine zz_callSI [zl p1, zl 1, zl 63] zd_14_63_18 zk_Md_192 rfl rfl ⟨Nat.le_of_ble_eq_true rfl, Nat.le_of_ble_eq_true rfl⟩ ⟨rfl, rfl⟩ (Nat.zero_le _) (Nat.zero_le _) (zc_in_14_4 p1 1 63 S0 n hn G_S0 (by omega) (by omega) (by omega)) (fun v17 S16 hP => ?_)
      obtain ⟨rfl, o18, o19⟩ := hP
      rcases (by omega : v17 = 0 ∨ v17 = 1) with rfl | rfl
      · refine zz_if_eq (by omega) zd_14_63_21 (fun c20 => ?_) (fun c20 => ?_)
        · refine zz_iconst zd_14_63_55 ?_
          refine zz_istore [some (.ref 1079), some (zi p0), some (zi p1), some (zi p2), some (zi 0)] zd_14_63_56 (by decide) rfl ?_
          refine zz_aload_n (x := 1079) rfl zd_14_63_58 ?_
          refine zz_iload (x := 0) rfl zd_14_63_59 ?_
          refine zz_if_ne (by omega) zd_14_63_61 (fun c21 => ?_) (fun c21 => ?_)
          · exfalso; omega
          · refine zz_iconst zd_14_63_64 ?_
            refine zz_goto zd_14_63_65 ?_
            refine zz_iconst zd_14_63_69 ?_
            refine zz_iconst zd_14_63_70 ?_
            refine zz_callVI [zi 1, zi 0, zi 0] zd_14_63_71 zk_Md_196 zT_1079 (zz_ltn hn rfl) rfl rfl ⟨Nat.le_of_ble_eq_true rfl, Nat.le_of_ble_eq_true rfl⟩ ⟨rfl, rfl⟩ (Nat.zero_le _) (Nat.zero_le _) (zc_refuse_14_3 1 0 0 S0 n hn G_S0 (by omega) (by omega) (by omega)) (fun v23 S22 hP => ?_)
            obtain ⟨G_S22, fS22, o24, o25⟩ := hP
            have F_S22 := zz_fr.trans F_S0 fS22 rfl zz_nv
            have R_S22 : zz_Hr S22 := zz_Hr.fr fS22 rfl rfl (fun b j h => h.elim) R_S0
            rcases (by omega : v23 = 0 ∨ v23 = 1) with rfl | rfl
            · exfalso; omega
            · have e26 : S22 1079 0 = 1 := by omega
              refine zz_if_ne (by omega) zd_14_63_74 (fun c27 => ?_) (fun c27 => ?_)
              · have g28 := zz_G.r G_S0 1079 36 0 11 rfl rfl
                have e29 : S22 1079 36 = S0 1079 36 := (zz_rc fS22 rfl rfl (fun h => h) rfl)
                exact zz_vret zd_14_63_84 rfl (Nat.zero_le _) (Nat.zero_le _) ⟨_, rfl, G_S22, F_S22, by omega, by omega, R_S22⟩
              · exfalso; omega
        · exfalso; omega
      · refine zz_if_eq (by omega) zd_14_63_21 (fun c30 => ?_) (fun c30 => ?_)
        · exfalso; omega
        · refine zz_iload_n (x := p2) rfl zd_14_63_24 ?_
          refine zz_i2l (by omega) zd_14_63_25 ?_
          refine zz_lconst (z := 1) (by decide) zd_14_63_26 ?_
          refine zz_ldc2 (z := 63) zq_Md_399 (by decide) zd_14_63_27 ?_
          refine zz_callSI [zl p2, zl 1, zl 63] zd_14_63_30 zk_Md_192 rfl rfl ⟨Nat.le_of_ble_eq_true rfl, Nat.le_of_ble_eq_true rfl⟩ ⟨rfl, rfl⟩ (Nat.zero_le _) (Nat.zero_le _) (zc_in_14_4 p2 1 63 S0 n hn G_S0 (by omega) (by omega) (by omega)) (fun v32 S31 hP => ?_)
          obtain ⟨rfl, o33, o34⟩ := hP
          rcases (by omega : v32 = 0 ∨ v32 = 1) with rfl | rfl
          · refine zz_if_eq (by omega) zd_14_63_33 (fun c35 => ?_) (fun c35 => ?_)
            · refine zz_iconst zd_14_63_55 ?_
              refine zz_istore [some (.ref 1079), some (zi p0), some (zi p1), some (zi p2), some (zi 0)] zd_14_63_56 (by decide) rfl ?_
              refine zz_aload_n (x := 1079) rfl zd_14_63_58 ?_
              refine zz_iload (x := 0) rfl zd_14_63_59 ?_
              refine zz_if_ne (by omega) zd_14_63_61 (fun c36 => ?_) (fun c36 => ?_)
              · exfalso; omega
              · refine zz_iconst zd_14_63_64 ?_
                refine zz_goto zd_14_63_65 ?_
                refine zz_iconst zd_14_63_69 ?_
                refine zz_iconst zd_14_63_70 ?_
                refine zz_callVI [zi 1, zi 0, zi 0] zd_14_63_71 zk_Md_196 zT_1079 (zz_ltn hn rfl) rfl rfl ⟨Nat.le_of_ble_eq_true rfl, Nat.le_of_ble_eq_true rfl⟩ ⟨rfl, rfl⟩ (Nat.zero_le _) (Nat.zero_le _) (zc_refuse_14_3 1 0 0 S0 n hn G_S0 (by omega) (by omega) (by omega)) (fun v38 S37 hP => ?_)
                obtain ⟨G_S37, fS37, o39, o40⟩ := hP
                have F_S37 := zz_fr.trans F_S0 fS37 rfl zz_nv
                have R_S37 : zz_Hr S37 := zz_Hr.fr fS37 rfl rfl (fun b j h => h.elim) R_S0
                rcases (by omega : v38 = 0 ∨ v38 = 1) with rfl | rfl
                · exfalso; omega
                · have e41 : S37 1079 0 = 1 := by omega
                  refine zz_if_ne (by omega) zd_14_63_74 (fun c42 => ?_) (fun c42 => ?_)
                  · have g43 := zz_G.r G_S0 1079 36 0 11 rfl rfl
                    have e44 : S37 1079 36 = S0 1079 36 := (zz_rc fS37 rfl rfl (fun h => h) rfl)
                    exact zz_vret zd_14_63_84 rfl (Nat.zero_le _) (Nat.zero_le _) ⟨_, rfl, G_S37, F_S37, by omega, by omega, R_S37⟩
                  · exfalso; omega
            · exfalso; omega
          · refine zz_if_eq (by omega) zd_14_63_33 (fun c45 => ?_) (fun c45 => ?_)
            · exfalso; omega
            · refine zz_iload_n (x := p0) rfl zd_14_63_36 ?_
              refine zz_i2l (by omega) zd_14_63_37 ?_
              refine zz_iload_n (x := p1) rfl zd_14_63_38 ?_
              refine zz_i2l (by omega) zd_14_63_39 ?_
              refine zz_lmul zd_14_63_40 ?_
              have m46 := zz_mulb (a := p0) (b := p1) 63 63 3969 (by omega) (by omega) (by decide)
              refine zz_iload_n (x := p2) rfl zd_14_63_41 ?_
              refine zz_i2l (by omega) zd_14_63_42 ?_
              refine zz_lmul zd_14_63_43 ?_
              have m47 := zz_mulb (a := p0 * p1) (b := p2) 3969 63 250047 (by omega) (by omega) (by decide)
              refine zz_ldc2 (z := 2048) zq_Md_409 (by decide) zd_14_63_44 ?_
              refine zz_lcmp (by omega) (by omega) zd_14_63_47 (fun v48 hv48 => ?_)
              refine zz_if_gt (by omega) zd_14_63_48 (fun c49 => ?_) (fun c49 => ?_)
              · refine zz_iconst zd_14_63_55 ?_
                refine zz_istore [some (.ref 1079), some (zi p0), some (zi p1), some (zi p2), some (zi 0)] zd_14_63_56 (by decide) rfl ?_
                refine zz_aload_n (x := 1079) rfl zd_14_63_58 ?_
                refine zz_iload (x := 0) rfl zd_14_63_59 ?_
                refine zz_if_ne (by omega) zd_14_63_61 (fun c50 => ?_) (fun c50 => ?_)
                · exfalso; omega
                · refine zz_iconst zd_14_63_64 ?_
                  refine zz_goto zd_14_63_65 ?_
                  refine zz_iconst zd_14_63_69 ?_
                  refine zz_iconst zd_14_63_70 ?_
                  refine zz_callVI [zi 1, zi 0, zi 0] zd_14_63_71 zk_Md_196 zT_1079 (zz_ltn hn rfl) rfl rfl ⟨Nat.le_of_ble_eq_true rfl, Nat.le_of_ble_eq_true rfl⟩ ⟨rfl, rfl⟩ (Nat.zero_le _) (Nat.zero_le _) (zc_refuse_14_3 1 0 0 S0 n hn G_S0 (by omega) (by omega) (by omega)) (fun v52 S51 hP => ?_)
                  obtain ⟨G_S51, fS51, o53, o54⟩ := hP
                  have F_S51 := zz_fr.trans F_S0 fS51 rfl zz_nv
                  have R_S51 : zz_Hr S51 := zz_Hr.fr fS51 rfl rfl (fun b j h => h.elim) R_S0
                  rcases (by omega : v52 = 0 ∨ v52 = 1) with rfl | rfl
                  · exfalso; omega
                  · have e55 : S51 1079 0 = 1 := by omega
                    refine zz_if_ne (by omega) zd_14_63_74 (fun c56 => ?_) (fun c56 => ?_)
                    · have g57 := zz_G.r G_S0 1079 36 0 11 rfl rfl
                      have e58 : S51 1079 36 = S0 1079 36 := (zz_rc fS51 rfl rfl (fun h => h) rfl)
                      exact zz_vret zd_14_63_84 rfl (Nat.zero_le _) (Nat.zero_le _) ⟨_, rfl, G_S51, F_S51, by omega, by omega, R_S51⟩
                    · exfalso; omega
              · refine zz_iconst zd_14_63_51 ?_
                refine zz_goto zd_14_63_52 ?_
                refine zz_istore [some (.ref 1079), some (zi p0), some (zi p1), some (zi p2), some (zi 1)] zd_14_63_56 (by decide) rfl ?_
                refine zz_aload_n (x := 1079) rfl zd_14_63_58 ?_
                refine zz_iload (x := 1) rfl zd_14_63_59 ?_
                refine zz_if_ne (by omega) zd_14_63_61 (fun c59 => ?_) (fun c59 => ?_)
                · refine zz_iconst zd_14_63_68 ?_
                  refine zz_iconst zd_14_63_69 ?_
                  refine zz_iconst zd_14_63_70 ?_
                  refine zz_callVI [zi 0, zi 0, zi 0] zd_14_63_71 zk_Md_196 zT_1079 (zz_ltn hn rfl) rfl rfl ⟨Nat.le_of_ble_eq_true rfl, Nat.le_of_ble_eq_true rfl⟩ ⟨rfl, rfl⟩ (Nat.zero_le _) (Nat.zero_le _) (zc_refuse_14_3 0 0 0 S0 n hn G_S0 (by omega) (by omega) (by omega)) (fun v61 S60 hP => ?_)
                  obtain ⟨G_S60, fS60, o62, o63⟩ := hP
                  have F_S60 := zz_fr.trans F_S0 fS60 rfl zz_nv
                  have R_S60 : zz_Hr S60 := zz_Hr.fr fS60 rfl rfl (fun b j h => h.elim) R_S0
                  rcases (by omega : v61 = 0 ∨ v61 = 1) with rfl | rfl
                  · have e64 : S60 1079 0 = 0 := by omega
                    refine zz_if_ne (by omega) zd_14_63_74 (fun c65 => ?_) (fun c65 => ?_)
                    · exfalso; omega
                    · refine zz_aload_n (x := 1079) rfl zd_14_63_77 ?_
                      refine zz_iload_n (x := p0) rfl zd_14_63_78 ?_
                      refine zz_iload_n (x := p1) rfl zd_14_63_79 ?_
                      refine zz_iload_n (x := p2) rfl zd_14_63_80 ?_
                      refine zz_callVV [zi p0, zi p1, zi p2] zd_14_63_81 zk_Md_183 zT_1079 (zz_ltn hn rfl) rfl rfl ⟨Nat.le_of_ble_eq_true rfl, Nat.le_of_ble_eq_true rfl⟩ ⟨rfl, rfl⟩ (Nat.zero_le _) (Nat.zero_le _) (zc_form_14_5 p0 p1 p2 S60 n hn G_S60 (by omega) (by omega) (by omega) R_S60 (by omega)) (fun S66 hP => ?_)
                      obtain ⟨G_S66, fS66, o68, o69, o70⟩ := hP
                      have F_S66 := zz_fr.trans F_S60 fS66 rfl zz_nv
                      have R_S66 : zz_Hr S66 := o70
                      have e71 : S66 1079 0 = S60 1079 0 := (zz_rc fS66 rfl rfl (fun h => h) rfl)
                      have g72 := zz_G.r G_S66 1079 36 0 11 rfl rfl
                      exact zz_vret zd_14_63_84 rfl (Nat.zero_le _) (Nat.zero_le _) ⟨_, rfl, G_S66, F_S66, by omega, by omega, R_S66⟩
                  · exfalso; omega
                · exfalso; omega
abbrev zy_resultsOf_14_64 : mm_Y := (⟨"TensorForgeModel", "resultsOf", "(IIII)I"⟩, prog_14_method_64_code, 5, (some .int))
theorem zyw_resultsOf_14_64 : mm_Yw zy_resultsOf_14_64 4 := ⟨mm_tb_1 2091 (by decide +kernel) rfl, mm_tb_1 12 (by decide +kernel) rfl, ⟨by decide, by decide⟩, by decide +kernel⟩
theorem zd_14_64_0 : zz_D zy_resultsOf_14_64 0 (.iload_n 0) 1 1 := ⟨by decide +kernel, rfl⟩
theorem zd_14_64_1 : zz_D zy_resultsOf_14_64 1 (.iconst 2) 1 2 := ⟨by decide +kernel, rfl⟩
theorem zd_14_64_2 : zz_D zy_resultsOf_14_64 2 (.iload_n 3) 1 3 := ⟨by decide +kernel, rfl⟩
theorem zd_14_64_3 : zz_D zy_resultsOf_14_64 3 (.imul) 1 4 := ⟨by decide +kernel, rfl⟩
theorem zd_14_64_4 : zz_D zy_resultsOf_14_64 4 (.iadd) 1 5 := ⟨by decide +kernel, rfl⟩
theorem zd_14_64_5 : zz_D zy_resultsOf_14_64 5 (.iload_n 1) 1 6 := ⟨by decide +kernel, rfl⟩
theorem zd_14_64_6 : zz_D zy_resultsOf_14_64 6 (.isub) 1 7 := ⟨by decide +kernel, rfl⟩
theorem zd_14_64_7 : zz_D zy_resultsOf_14_64 7 (.istore 4) 2 9 := ⟨by decide +kernel, rfl⟩
theorem zd_14_64_9 : zz_D zy_resultsOf_14_64 9 (.iload 4) 2 11 := ⟨by decide +kernel, rfl⟩
theorem zd_14_64_11 : zz_B zy_resultsOf_14_64 11 (Instr.ifCond .ge) 18 14 := ⟨7, by decide +kernel, rfl, rfl⟩
theorem zd_14_64_18 : zz_D zy_resultsOf_14_64 18 (.iload 4) 2 20 := ⟨by decide +kernel, rfl⟩
theorem zd_14_64_20 : zz_D zy_resultsOf_14_64 20 (.iload_n 2) 1 21 := ⟨by decide +kernel, rfl⟩
theorem zd_14_64_21 : zz_D zy_resultsOf_14_64 21 (.idiv) 1 22 := ⟨by decide +kernel, rfl⟩
theorem zd_14_64_22 : zz_D zy_resultsOf_14_64 22 (.iconst 1) 1 23 := ⟨by decide +kernel, rfl⟩
theorem zd_14_64_23 : zz_D zy_resultsOf_14_64 23 (.iadd) 1 24 := ⟨by decide +kernel, rfl⟩
theorem zd_14_64_24 : zz_D zy_resultsOf_14_64 24 (.ireturn) 1 25 := ⟨by decide +kernel, rfl⟩
theorem zd_14_64_14 : zz_D zy_resultsOf_14_64 14 (.iconst 0) 1 15 := ⟨by decide +kernel, rfl⟩
theorem zd_14_64_15 : zz_B zy_resultsOf_14_64 15 Instr.goto 24 18 := ⟨9, by decide +kernel, rfl, rfl⟩
-- TensorForgeModel resultsOf (IIII)I
abbrev zr_resultsOf_14_64 : Room := { frames := 0, cells := 0, slots := 0, locals := 0 }
def zp_resultsOf_14_64 (p0 : Int) (p1 : Int) (p2 : Int) (p3 : Int) (S0 : zz_S) : Int → zz_S → Prop := fun r S => S0 = S ∧ (0 ≤ r ∧ r ≤ 65) ∧ (r ≤ p0 + 2 * p3) ∧ (1 ≤ r → p2 * (r - 1) + p1 ≤ p0 + 2 * p3)
theorem zc_resultsOf_14_64 {g : mm_G} {l : Launch} (p0 : Int) (p1 : Int) (p2 : Int) (p3 : Int) (S0 : zz_S) (n : Nat) (hn : zz_end ≤ n) (G_S0 : zz_G S0) (hp0 : 0 ≤ p0 ∧ p0 ≤ 63) (hp1 : 1 ≤ p1 ∧ p1 ≤ 3) (hp2 : 1 ≤ p2 ∧ p2 ≤ 3) (hp3 : 0 ≤ p3 ∧ p3 ≤ 1) : mm_Met g l zy_resultsOf_14_64 zr_resultsOf_14_64 [zi p0, zi p1, zi p2, zi p3] (zz_M S0 n) n (zz_QI n (zp_resultsOf_14_64 p0 p1 p2 p3 S0)) := by
  refine zz_enter (by decide) (Nat.le_of_ble_eq_true rfl) (zz_less (ls1 := [some (zi p0), some (zi p1), some (zi p2), some (zi p3)]) ⟨rfl, ⟨rfl, ⟨rfl, ⟨rfl, trivial⟩⟩⟩⟩ ?_)
  rcases (by omega : p2 = 1 ∨ p2 = 2 ∨ p2 = 3) with rfl | rfl | rfl
  · refine zz_iload_n (x := p0) rfl zd_14_64_0 ?_
    refine zz_iconst zd_14_64_1 ?_
    refine zz_iload_n (x := p3) rfl zd_14_64_2 ?_
    refine zz_imul zd_14_64_3 ?_
    refine zz_iadd zd_14_64_4 ?_
    refine zz_iload_n (x := p1) rfl zd_14_64_5 ?_
    refine zz_isub zd_14_64_6 ?_
    refine zz_istore [some (zi p0), some (zi p1), some (zi 1), some (zi p3), some (zi ((p0 + (2 * p3)) - p1))] zd_14_64_7 (by decide) rfl ?_
    refine zz_iload (x := (p0 + (2 * p3)) - p1) rfl zd_14_64_9 ?_
    refine zz_if_ge (by omega) zd_14_64_11 (fun c1 => ?_) (fun c1 => ?_)
    · refine zz_iload (x := (p0 + (2 * p3)) - p1) rfl zd_14_64_18 ?_
      refine zz_iload_n (x := 1) rfl zd_14_64_20 ?_
      refine zz_idiv (by omega) (by omega) zd_14_64_21 (fun v2 hv2 av2 bv2 cv2 => ?_)
      obtain rfl : v2 = ((p0 + (2 * p3)) - p1) / 1 := by omega
      refine zz_iconst zd_14_64_22 ?_
      refine zz_iadd zd_14_64_23 ?_
      exact zz_iret zd_14_64_24 rfl (Nat.zero_le _) (Nat.zero_le _) ⟨_, _, rfl, rfl, by omega, by omega, by omega⟩
    · refine zz_iconst zd_14_64_14 ?_
      refine zz_goto zd_14_64_15 ?_
      exact zz_iret zd_14_64_24 rfl (Nat.zero_le _) (Nat.zero_le _) ⟨_, _, rfl, rfl, by omega, by omega, by omega⟩
  · refine zz_iload_n (x := p0) rfl zd_14_64_0 ?_
    refine zz_iconst zd_14_64_1 ?_
    refine zz_iload_n (x := p3) rfl zd_14_64_2 ?_
    refine zz_imul zd_14_64_3 ?_
    refine zz_iadd zd_14_64_4 ?_
    refine zz_iload_n (x := p1) rfl zd_14_64_5 ?_
    refine zz_isub zd_14_64_6 ?_
    refine zz_istore [some (zi p0), some (zi p1), some (zi 2), some (zi p3), some (zi ((p0 + (2 * p3)) - p1))] zd_14_64_7 (by decide) rfl ?_
    refine zz_iload (x := (p0 + (2 * p3)) - p1) rfl zd_14_64_9 ?_
    refine zz_if_ge (by omega) zd_14_64_11 (fun c3 => ?_) (fun c3 => ?_)
    · refine zz_iload (x := (p0 + (2 * p3)) - p1) rfl zd_14_64_18 ?_
      refine zz_iload_n (x := 2) rfl zd_14_64_20 ?_
      refine zz_idiv (by omega) (by omega) zd_14_64_21 (fun v4 hv4 av4 bv4 cv4 => ?_)
      obtain rfl : v4 = ((p0 + (2 * p3)) - p1) / 2 := by omega
      refine zz_iconst zd_14_64_22 ?_
      refine zz_iadd zd_14_64_23 ?_
      exact zz_iret zd_14_64_24 rfl (Nat.zero_le _) (Nat.zero_le _) ⟨_, _, rfl, rfl, by omega, by omega, by omega⟩
    · refine zz_iconst zd_14_64_14 ?_
      refine zz_goto zd_14_64_15 ?_
      exact zz_iret zd_14_64_24 rfl (Nat.zero_le _) (Nat.zero_le _) ⟨_, _, rfl, rfl, by omega, by omega, by omega⟩
  · refine zz_iload_n (x := p0) rfl zd_14_64_0 ?_
    refine zz_iconst zd_14_64_1 ?_
    refine zz_iload_n (x := p3) rfl zd_14_64_2 ?_
    refine zz_imul zd_14_64_3 ?_
    refine zz_iadd zd_14_64_4 ?_
    refine zz_iload_n (x := p1) rfl zd_14_64_5 ?_
    refine zz_isub zd_14_64_6 ?_
    refine zz_istore [some (zi p0), some (zi p1), some (zi 3), some (zi p3), some (zi ((p0 + (2 * p3)) - p1))] zd_14_64_7 (by decide) rfl ?_
    refine zz_iload (x := (p0 + (2 * p3)) - p1) rfl zd_14_64_9 ?_
    refine zz_if_ge (by omega) zd_14_64_11 (fun c5 => ?_) (fun c5 => ?_)
    · refine zz_iload (x := (p0 + (2 * p3)) - p1) rfl zd_14_64_18 ?_
      refine zz_iload_n (x := 3) rfl zd_14_64_20 ?_
      refine zz_idiv (by omega) (by omega) zd_14_64_21 (fun v6 hv6 av6 bv6 cv6 => ?_)
      obtain rfl : v6 = ((p0 + (2 * p3)) - p1) / 3 := by omega
      refine zz_iconst zd_14_64_22 ?_
      refine zz_iadd zd_14_64_23 ?_
      exact zz_iret zd_14_64_24 rfl (Nat.zero_le _) (Nat.zero_le _) ⟨_, _, rfl, rfl, by omega, by omega, by omega⟩
    · refine zz_iconst zd_14_64_14 ?_
      refine zz_goto zd_14_64_15 ?_
      exact zz_iret zd_14_64_24 rfl (Nat.zero_le _) (Nat.zero_le _) ⟨_, _, rfl, rfl, by omega, by omega, by omega⟩
abbrev zy_add_14_65 : mm_Y := (⟨"TensorForgeModel", "add", "(IIIII)I"⟩, prog_14_method_65_code, 7, (some .int))
theorem zyw_add_14_65 : mm_Yw zy_add_14_65 5 := ⟨mm_tb_1 2096 (by decide +kernel) rfl, mm_tb_1 12 (by decide +kernel) rfl, ⟨by decide, by decide⟩, by decide +kernel⟩
theorem zd_14_65_0 : zz_D zy_add_14_65 0 (.iload_n 3) 1 1 := ⟨by decide +kernel, rfl⟩
theorem zd_14_65_1 : zz_D zy_add_14_65 1 (.iload 4) 2 3 := ⟨by decide +kernel, rfl⟩
theorem zd_14_65_3 : zz_D zy_add_14_65 3 (.imul) 1 4 := ⟨by decide +kernel, rfl⟩
theorem zd_14_65_4 : zz_D zy_add_14_65 4 (.iload 5) 2 6 := ⟨by decide +kernel, rfl⟩
theorem zd_14_65_6 : zz_D zy_add_14_65 6 (.imul) 1 7 := ⟨by decide +kernel, rfl⟩
theorem zd_14_65_7 : zz_D zy_add_14_65 7 (.istore 6) 2 9 := ⟨by decide +kernel, rfl⟩
theorem zd_14_65_9 : zz_D zy_add_14_65 9 (.aload_n 0) 1 10 := ⟨by decide +kernel, rfl⟩
theorem zd_14_65_10 : zz_D zy_add_14_65 10 (.iconst 0) 1 11 := ⟨by decide +kernel, rfl⟩
theorem zd_14_65_11 : zz_D zy_add_14_65 11 (.iconst 0) 1 12 := ⟨by decide +kernel, rfl⟩
theorem zd_14_65_12 : zz_D zy_add_14_65 12 (.aload_n 0) 1 13 := ⟨by decide +kernel, rfl⟩
theorem zd_14_65_13 : zz_D zy_add_14_65 13 (.getfield 85) 3 16 := ⟨by decide +kernel, rfl⟩
theorem zd_14_65_16 : zz_D zy_add_14_65 16 (.bipush 10) 2 18 := ⟨by decide +kernel, rfl⟩
theorem zd_14_65_18 : zz_B zy_add_14_65 18 (Instr.if_icmp .gt) 39 21 := ⟨21, by decide +kernel, rfl, rfl⟩
theorem zd_14_65_39 : zz_D zy_add_14_65 39 (.iconst 1) 1 40 := ⟨by decide +kernel, rfl⟩
theorem zd_14_65_40 : zz_B zy_add_14_65 40 Instr.goto 44 43 := ⟨4, by decide +kernel, rfl, rfl⟩
theorem zd_14_65_44 : zz_D zy_add_14_65 44 (.invokevirtual 196) 3 47 := ⟨by decide +kernel, rfl⟩
theorem zd_14_65_47 : zz_B zy_add_14_65 47 (Instr.ifCond .eq) 52 50 := ⟨5, by decide +kernel, rfl, rfl⟩
theorem zd_14_65_50 : zz_D zy_add_14_65 50 (.iconst 0) 1 51 := ⟨by decide +kernel, rfl⟩
theorem zd_14_65_51 : zz_D zy_add_14_65 51 (.ireturn) 1 52 := ⟨by decide +kernel, rfl⟩
theorem zd_14_65_21 : zz_D zy_add_14_65 21 (.aload_n 0) 1 22 := ⟨by decide +kernel, rfl⟩
theorem zd_14_65_22 : zz_D zy_add_14_65 22 (.getfield 97) 3 25 := ⟨by decide +kernel, rfl⟩
theorem zd_14_65_25 : zz_D zy_add_14_65 25 (.aload_n 0) 1 26 := ⟨by decide +kernel, rfl⟩
theorem zd_14_65_26 : zz_D zy_add_14_65 26 (.getfield 85) 3 29 := ⟨by decide +kernel, rfl⟩
theorem zd_14_65_29 : zz_D zy_add_14_65 29 (.iaload) 1 30 := ⟨by decide +kernel, rfl⟩
theorem zd_14_65_30 : zz_D zy_add_14_65 30 (.iload 6) 2 32 := ⟨by decide +kernel, rfl⟩
theorem zd_14_65_32 : zz_D zy_add_14_65 32 (.iadd) 1 33 := ⟨by decide +kernel, rfl⟩
theorem zd_14_65_33 : zz_D zy_add_14_65 33 (.sipush 2048) 3 36 := ⟨by decide +kernel, rfl⟩
theorem zd_14_65_36 : zz_B zy_add_14_65 36 (Instr.if_icmp .le) 43 39 := ⟨7, by decide +kernel, rfl, rfl⟩
theorem zd_14_65_43 : zz_D zy_add_14_65 43 (.iconst 0) 1 44 := ⟨by decide +kernel, rfl⟩
theorem zd_14_65_52 : zz_D zy_add_14_65 52 (.aload_n 0) 1 53 := ⟨by decide +kernel, rfl⟩
theorem zd_14_65_53 : zz_D zy_add_14_65 53 (.getfield 100) 3 56 := ⟨by decide +kernel, rfl⟩
theorem zf_Md_100 : mm_Fl "TensorForgeModel" 100 11 41 (.array .int) true := ⟨R_Md, F_Md, 69, t_Md, rfl, i_Md, by decide, mm_tb_1 1652 (by decide +kernel) rfl, rfl, t_Md_ok, n_Md, rfl, by decide +kernel⟩
theorem zd_14_65_56 : zz_D zy_add_14_65 56 (.aload_n 0) 1 57 := ⟨by decide +kernel, rfl⟩
theorem zd_14_65_57 : zz_D zy_add_14_65 57 (.getfield 85) 3 60 := ⟨by decide +kernel, rfl⟩
theorem zd_14_65_60 : zz_D zy_add_14_65 60 (.iconst 1) 1 61 := ⟨by decide +kernel, rfl⟩
theorem zd_14_65_61 : zz_D zy_add_14_65 61 (.isub) 1 62 := ⟨by decide +kernel, rfl⟩
theorem zd_14_65_62 : zz_D zy_add_14_65 62 (.iload_n 1) 1 63 := ⟨by decide +kernel, rfl⟩
theorem zd_14_65_63 : zz_D zy_add_14_65 63 (.iastore) 1 64 := ⟨by decide +kernel, rfl⟩
theorem zd_14_65_64 : zz_D zy_add_14_65 64 (.aload_n 0) 1 65 := ⟨by decide +kernel, rfl⟩
theorem zd_14_65_65 : zz_D zy_add_14_65 65 (.getfield 103) 3 68 := ⟨by decide +kernel, rfl⟩
theorem zf_Md_103 : mm_Fl "TensorForgeModel" 103 11 42 (.array .int) true := ⟨R_Md, F_Md, 69, t_Md, rfl, i_Md, by decide, mm_tb_1 1653 (by decide +kernel) rfl, rfl, t_Md_ok, n_Md, rfl, by decide +kernel⟩
theorem zd_14_65_68 : zz_D zy_add_14_65 68 (.aload_n 0) 1 69 := ⟨by decide +kernel, rfl⟩
theorem zd_14_65_69 : zz_D zy_add_14_65 69 (.getfield 85) 3 72 := ⟨by decide +kernel, rfl⟩
theorem zd_14_65_72 : zz_D zy_add_14_65 72 (.iconst 1) 1 73 := ⟨by decide +kernel, rfl⟩
theorem zd_14_65_73 : zz_D zy_add_14_65 73 (.isub) 1 74 := ⟨by decide +kernel, rfl⟩
theorem zd_14_65_74 : zz_D zy_add_14_65 74 (.iload_n 2) 1 75 := ⟨by decide +kernel, rfl⟩
theorem zd_14_65_75 : zz_D zy_add_14_65 75 (.iastore) 1 76 := ⟨by decide +kernel, rfl⟩
theorem zd_14_65_76 : zz_D zy_add_14_65 76 (.aload_n 0) 1 77 := ⟨by decide +kernel, rfl⟩
theorem zd_14_65_77 : zz_D zy_add_14_65 77 (.getfield 88) 3 80 := ⟨by decide +kernel, rfl⟩
theorem zd_14_65_80 : zz_D zy_add_14_65 80 (.aload_n 0) 1 81 := ⟨by decide +kernel, rfl⟩
theorem zd_14_65_81 : zz_D zy_add_14_65 81 (.getfield 85) 3 84 := ⟨by decide +kernel, rfl⟩
theorem zd_14_65_84 : zz_D zy_add_14_65 84 (.iload_n 3) 1 85 := ⟨by decide +kernel, rfl⟩
theorem zd_14_65_85 : zz_D zy_add_14_65 85 (.iastore) 1 86 := ⟨by decide +kernel, rfl⟩
theorem zd_14_65_86 : zz_D zy_add_14_65 86 (.aload_n 0) 1 87 := ⟨by decide +kernel, rfl⟩
theorem zd_14_65_87 : zz_D zy_add_14_65 87 (.getfield 91) 3 90 := ⟨by decide +kernel, rfl⟩
theorem zd_14_65_90 : zz_D zy_add_14_65 90 (.aload_n 0) 1 91 := ⟨by decide +kernel, rfl⟩
theorem zd_14_65_91 : zz_D zy_add_14_65 91 (.getfield 85) 3 94 := ⟨by decide +kernel, rfl⟩
theorem zd_14_65_94 : zz_D zy_add_14_65 94 (.iload 4) 2 96 := ⟨by decide +kernel, rfl⟩
theorem zd_14_65_96 : zz_D zy_add_14_65 96 (.iastore) 1 97 := ⟨by decide +kernel, rfl⟩
theorem zd_14_65_97 : zz_D zy_add_14_65 97 (.aload_n 0) 1 98 := ⟨by decide +kernel, rfl⟩
theorem zd_14_65_98 : zz_D zy_add_14_65 98 (.getfield 94) 3 101 := ⟨by decide +kernel, rfl⟩
theorem zd_14_65_101 : zz_D zy_add_14_65 101 (.aload_n 0) 1 102 := ⟨by decide +kernel, rfl⟩
theorem zd_14_65_102 : zz_D zy_add_14_65 102 (.getfield 85) 3 105 := ⟨by decide +kernel, rfl⟩
theorem zd_14_65_105 : zz_D zy_add_14_65 105 (.iload 5) 2 107 := ⟨by decide +kernel, rfl⟩
theorem zd_14_65_107 : zz_D zy_add_14_65 107 (.iastore) 1 108 := ⟨by decide +kernel, rfl⟩
theorem zd_14_65_108 : zz_D zy_add_14_65 108 (.aload_n 0) 1 109 := ⟨by decide +kernel, rfl⟩
theorem zd_14_65_109 : zz_D zy_add_14_65 109 (.getfield 97) 3 112 := ⟨by decide +kernel, rfl⟩
theorem zd_14_65_112 : zz_D zy_add_14_65 112 (.aload_n 0) 1 113 := ⟨by decide +kernel, rfl⟩
theorem zd_14_65_113 : zz_D zy_add_14_65 113 (.getfield 85) 3 116 := ⟨by decide +kernel, rfl⟩
theorem zd_14_65_116 : zz_D zy_add_14_65 116 (.iconst 1) 1 117 := ⟨by decide +kernel, rfl⟩
theorem zd_14_65_117 : zz_D zy_add_14_65 117 (.iadd) 1 118 := ⟨by decide +kernel, rfl⟩
theorem zd_14_65_118 : zz_D zy_add_14_65 118 (.aload_n 0) 1 119 := ⟨by decide +kernel, rfl⟩
theorem zd_14_65_119 : zz_D zy_add_14_65 119 (.getfield 97) 3 122 := ⟨by decide +kernel, rfl⟩
theorem zd_14_65_122 : zz_D zy_add_14_65 122 (.aload_n 0) 1 123 := ⟨by decide +kernel, rfl⟩
theorem zd_14_65_123 : zz_D zy_add_14_65 123 (.getfield 85) 3 126 := ⟨by decide +kernel, rfl⟩
theorem zd_14_65_126 : zz_D zy_add_14_65 126 (.iaload) 1 127 := ⟨by decide +kernel, rfl⟩
theorem zd_14_65_127 : zz_D zy_add_14_65 127 (.iload 6) 2 129 := ⟨by decide +kernel, rfl⟩
theorem zd_14_65_129 : zz_D zy_add_14_65 129 (.iadd) 1 130 := ⟨by decide +kernel, rfl⟩
theorem zd_14_65_130 : zz_D zy_add_14_65 130 (.iastore) 1 131 := ⟨by decide +kernel, rfl⟩
theorem zd_14_65_131 : zz_D zy_add_14_65 131 (.aload_n 0) 1 132 := ⟨by decide +kernel, rfl⟩
theorem zd_14_65_132 : zz_D zy_add_14_65 132 (.dup) 1 133 := ⟨by decide +kernel, rfl⟩
theorem zd_14_65_133 : zz_D zy_add_14_65 133 (.getfield 85) 3 136 := ⟨by decide +kernel, rfl⟩
theorem zd_14_65_136 : zz_D zy_add_14_65 136 (.iconst 1) 1 137 := ⟨by decide +kernel, rfl⟩
theorem zd_14_65_137 : zz_D zy_add_14_65 137 (.iadd) 1 138 := ⟨by decide +kernel, rfl⟩
theorem zd_14_65_138 : zz_D zy_add_14_65 138 (.putfield 85) 3 141 := ⟨by decide +kernel, rfl⟩
theorem zd_14_65_141 : zz_D zy_add_14_65 141 (.aload_n 0) 1 142 := ⟨by decide +kernel, rfl⟩
theorem zd_14_65_142 : zz_D zy_add_14_65 142 (.getfield 85) 3 145 := ⟨by decide +kernel, rfl⟩
theorem zd_14_65_145 : zz_D zy_add_14_65 145 (.iconst 1) 1 146 := ⟨by decide +kernel, rfl⟩
theorem zd_14_65_146 : zz_D zy_add_14_65 146 (.isub) 1 147 := ⟨by decide +kernel, rfl⟩
theorem zd_14_65_147 : zz_D zy_add_14_65 147 (.ireturn) 1 148 := ⟨by decide +kernel, rfl⟩
-- TensorForgeModel add (IIIII)I
abbrev zr_add_14_65 : Room := { frames := 1, cells := 0, slots := 0, locals := 15 }
def zp_add_14_65 (p0 : Int) (p1 : Int) (p2 : Int) (p3 : Int) (p4 : Int) (S0 : zz_S) : Int → zz_S → Prop := fun r S => zz_G S ∧ zz_fr [(1079, 0), (1079, 36)] [] (fun a i => (a = 1102 ∧ i = (S0 1079 36).toNat) ∨ (a = 1103 ∧ i = (S0 1079 36).toNat) ∨ (a = 1104 ∧ i = (S0 1079 36).toNat) ∨ (a = 1105 ∧ i = ((S0 1079 36) + 1).toNat) ∨ (a = 1106 ∧ i = ((S0 1079 36) - 1).toNat) ∨ (a = 1107 ∧ i = ((S0 1079 36) - 1).toNat)) S0 S ∧ (0 ≤ r ∧ r ≤ 10) ∧ (S 1079 0 = 3 ∨ (S 1079 0 = 0 ∧ S0 1079 36 ≤ 10 ∧ r = S0 1079 36 ∧ S 1079 36 = S0 1079 36 + 1)) ∧ (S 1079 0 = 3 → zz_Hr S0 → zz_Hr S) ∧ (S 1079 0 = 0 → S 1102 (S0 1079 36).toNat = p2 ∧ S 1103 (S0 1079 36).toNat = p3 ∧ S 1104 (S0 1079 36).toNat = p4 ∧ S 1105 (S0 1079 36).toNat = S0 1105 (S0 1079 36).toNat ∧ S0 1105 (S0 1079 36).toNat + (p2 * p3) * p4 ≤ 2048 ∧ S 1106 (S0 1079 36 - 1).toNat = p0 ∧ S 1107 (S0 1079 36 - 1).toNat = p1)
theorem zc_add_14_65 {g : mm_G} {l : Launch} (p0 : Int) (p1 : Int) (p2 : Int) (p3 : Int) (p4 : Int) (S0 : zz_S) (n : Nat) (hn : zz_end ≤ n) (G_S0 : zz_G S0) (hp0 : 0 ≤ p0 ∧ p0 ≤ 2) (hp1 : 0 ≤ p1 ∧ p1 ≤ 10) (hp2 : 0 ≤ p2 ∧ p2 ≤ 63) (hp3 : 0 ≤ p3 ∧ p3 ≤ 63) (hp4 : 0 ≤ p4 ∧ p4 ≤ 63) (hq : 1 ≤ S0 1079 36) : mm_Met g l zy_add_14_65 zr_add_14_65 [.ref 1079, zi p0, zi p1, zi p2, zi p3, zi p4] (zz_M S0 n) n (zz_QI n (zp_add_14_65 p0 p1 p2 p3 p4 S0)) := by
  refine zz_enter (by decide) (Nat.le_of_ble_eq_true rfl) (zz_less (ls1 := [some (.ref 1079), some (zi p0), some (zi p1), some (zi p2), some (zi p3), some (zi p4)]) ⟨rfl, ⟨rfl, ⟨rfl, ⟨rfl, ⟨rfl, ⟨rfl, trivial⟩⟩⟩⟩⟩⟩ ?_)
  have F_S0 : zz_fr [(1079, 0), (1079, 36)] [] (fun a i => (a = 1102 ∧ i = (S0 1079 36).toNat) ∨ (a = 1103 ∧ i = (S0 1079 36).toNat) ∨ (a = 1104 ∧ i = (S0 1079 36).toNat) ∨ (a = 1105 ∧ i = ((S0 1079 36) + 1).toNat) ∨ (a = 1106 ∧ i = ((S0 1079 36) - 1).toNat) ∨ (a = 1107 ∧ i = ((S0 1079 36) - 1).toNat)) S0 S0 := zz_fr.refl
  refine zz_iload_n (x := p2) rfl zd_14_65_0 ?_
  refine zz_iload (x := p3) rfl zd_14_65_1 ?_
  refine zz_imul zd_14_65_3 ?_
  have m1 := zz_mulb (a := p2) (b := p3) 63 63 3969 (by omega) (by omega) (by decide)
  refine zz_iload (x := p4) rfl zd_14_65_4 ?_
  refine zz_imul zd_14_65_6 ?_
  have m2 := zz_mulb (a := p2 * p3) (b := p4) 3969 63 250047 (by omega) (by omega) (by decide)
  refine zz_istore [some (.ref 1079), some (zi p0), some (zi p1), some (zi p2), some (zi p3), some (zi p4), some (zi ((p2 * p3) * p4))] zd_14_65_7 (by decide) rfl ?_
  refine zz_aload_n (x := 1079) rfl zd_14_65_9 ?_
  refine zz_iconst zd_14_65_10 ?_
  refine zz_iconst zd_14_65_11 ?_
  refine zz_aload_n (x := 1079) rfl zd_14_65_12 ?_
  have g3 := zz_G.r G_S0 1079 36 0 11 rfl rfl
  refine zz_geti (z := S0 1079 36) zd_14_65_13 zf_Md_85 zT_1079 rfl (zz_ltn hn rfl) rfl ?_
  refine zz_bipush (by decide) zd_14_65_16 ?_
  refine zz_icmp_gt (by omega) (by omega) zd_14_65_18 (fun c4 => ?_) (fun c4 => ?_)
  · refine zz_iconst zd_14_65_39 ?_
    refine zz_goto zd_14_65_40 ?_
    refine zz_callVI [zi 0, zi 0, zi 1] zd_14_65_44 zk_Md_196 zT_1079 (zz_ltn hn rfl) rfl rfl ⟨Nat.le_of_ble_eq_true rfl, Nat.le_of_ble_eq_true rfl⟩ ⟨rfl, rfl⟩ (Nat.zero_le _) (Nat.zero_le _) (zc_refuse_14_3 0 0 1 S0 n hn G_S0 (by omega) (by omega) (by omega)) (fun v6 S5 hP => ?_)
    obtain ⟨G_S5, fS5, o7, o8⟩ := hP
    have F_S5 := zz_fr.trans F_S0 fS5 rfl zz_nv
    rcases (by omega : v6 = 0 ∨ v6 = 1) with rfl | rfl
    · exfalso; omega
    · have e9 : S5 1079 0 = 3 := by omega
      refine zz_if_eq (by omega) zd_14_65_47 (fun c10 => ?_) (fun c10 => ?_)
      · exfalso; omega
      · refine zz_iconst zd_14_65_50 ?_
        have e11 : S5 1079 36 = S0 1079 36 := (zz_rc fS5 rfl rfl (fun h => h) rfl)
        have g12 := zz_G.r G_S0 1102 ((S0 1079 36).toNat) 0 63 rfl rfl
        have e13 : S5 1102 (S0 1079 36).toNat = S0 1102 (S0 1079 36).toNat := (zz_rc fS5 (zz_nc1 rfl) rfl (fun h => h) rfl)
        have g14 := zz_G.r G_S0 1103 ((S0 1079 36).toNat) 0 63 rfl rfl
        have e15 : S5 1103 (S0 1079 36).toNat = S0 1103 (S0 1079 36).toNat := (zz_rc fS5 (zz_nc1 rfl) rfl (fun h => h) rfl)
        have g16 := zz_G.r G_S0 1104 ((S0 1079 36).toNat) 0 63 rfl rfl
        have e17 : S5 1104 (S0 1079 36).toNat = S0 1104 (S0 1079 36).toNat := (zz_rc fS5 (zz_nc1 rfl) rfl (fun h => h) rfl)
        have g18 := zz_G.r G_S0 1105 ((S0 1079 36).toNat) (0) (if (S0 1079 36).toNat = 0 then 0 else 10000000) rfl rfl
        have e19 : S5 1105 (S0 1079 36).toNat = S0 1105 (S0 1079 36).toNat := (zz_rc fS5 (zz_nc1 rfl) rfl (fun h => h) rfl)
        have g20 := zz_G.r G_S0 1106 ((S0 1079 36 - 1).toNat) 0 2 rfl rfl
        have e21 : S5 1106 (S0 1079 36 - 1).toNat = S0 1106 (S0 1079 36 - 1).toNat := (zz_rc fS5 (zz_nc1 rfl) rfl (fun h => h) rfl)
        have g22 := zz_G.r G_S0 1107 ((S0 1079 36 - 1).toNat) 0 10 rfl rfl
        have e23 : S5 1107 (S0 1079 36 - 1).toNat = S0 1107 (S0 1079 36 - 1).toNat := (zz_rc fS5 (zz_nc1 rfl) rfl (fun h => h) rfl)
        exact zz_iret zd_14_65_51 rfl (Nat.zero_le _) (Nat.zero_le _) ⟨_, _, rfl, G_S5, F_S5, by omega, by omega, fun _ h => zz_Hr.fr fS5 rfl rfl (fun b j h => h.elim) h, by omega⟩
  · refine zz_aload_n (x := 1079) rfl zd_14_65_21 ?_
    refine zz_getr (kd := 0) (z := 1105) zd_14_65_22 zf_Md_97 zT_1079 rfl (zz_ltn hn rfl) (zz_G.eq G_S0 1079 40 1105 rfl rfl) (by decide) 1105 rfl ?_
    refine zz_aload_n (x := 1079) rfl zd_14_65_25 ?_
    refine zz_geti (z := S0 1079 36) zd_14_65_26 zf_Md_85 zT_1079 rfl (zz_ltn hn rfl) rfl ?_
    have g24 := zz_G.r G_S0 1105 ((S0 1079 36).toNat) (0) (if (S0 1079 36).toNat = 0 then 0 else 10000000) rfl rfl
    refine zz_iald (z := S0 1105 ((S0 1079 36).toNat)) zd_14_65_29 zT_1105 rfl (zz_ltn hn rfl) (by decide) (by omega) rfl ?_
    refine zz_iload (x := (p2 * p3) * p4) rfl zd_14_65_30 ?_
    refine zz_iadd zd_14_65_32 ?_
    refine zz_nme (fun v25 ev25 => ?_)
    refine zz_sipush (by decide) zd_14_65_33 ?_
    refine zz_icmp_le (by omega) (by omega) zd_14_65_36 (fun c26 => ?_) (fun c26 => ?_)
    · refine zz_iconst zd_14_65_43 ?_
      refine zz_callVI [zi 0, zi 0, zi 0] zd_14_65_44 zk_Md_196 zT_1079 (zz_ltn hn rfl) rfl rfl ⟨Nat.le_of_ble_eq_true rfl, Nat.le_of_ble_eq_true rfl⟩ ⟨rfl, rfl⟩ (Nat.zero_le _) (Nat.zero_le _) (zc_refuse_14_3 0 0 0 S0 n hn G_S0 (by omega) (by omega) (by omega)) (fun v28 S27 hP => ?_)
      obtain ⟨G_S27, fS27, o29, o30⟩ := hP
      have F_S27 := zz_fr.trans F_S0 fS27 rfl zz_nv
      rcases (by omega : v28 = 0 ∨ v28 = 1) with rfl | rfl
      · have e31 : S27 1079 0 = 0 := by omega
        refine zz_if_eq (by omega) zd_14_65_47 (fun c32 => ?_) (fun c32 => ?_)
        · refine zz_aload_n (x := 1079) rfl zd_14_65_52 ?_
          refine zz_getr (kd := 0) (z := 1106) zd_14_65_53 zf_Md_100 zT_1079 rfl (zz_ltn hn rfl) (zz_G.eq G_S27 1079 41 1106 rfl rfl) (by decide) 1106 rfl ?_
          refine zz_aload_n (x := 1079) rfl zd_14_65_56 ?_
          refine zz_geti (z := S0 1079 36) zd_14_65_57 zf_Md_85 zT_1079 rfl (zz_ltn hn rfl) (zz_rc fS27 rfl rfl (fun h => h) rfl) ?_
          refine zz_iconst zd_14_65_60 ?_
          refine zz_isub zd_14_65_61 ?_
          refine zz_iload_n (x := p0) rfl zd_14_65_62 ?_
          refine zz_iast zd_14_65_63 zT_1106 rfl (zz_ltn hn rfl) (by decide) (by omega) (fun S33 qS33 => ?_)
          have G_S33 := zz_G.put G_S27 qS33 0 2 rfl (by omega)
          have F_S33 := zz_fr.putv F_S27 qS33 (Or.inr (Or.inr (Or.inr (Or.inr (Or.inl ⟨rfl, rfl⟩)))))
          refine zz_aload_n (x := 1079) rfl zd_14_65_64 ?_
          refine zz_getr (kd := 0) (z := 1107) zd_14_65_65 zf_Md_103 zT_1079 rfl (zz_ltn hn rfl) (zz_G.eq G_S33 1079 42 1107 rfl rfl) (by decide) 1107 rfl ?_
          refine zz_aload_n (x := 1079) rfl zd_14_65_68 ?_
          refine zz_geti (z := S0 1079 36) zd_14_65_69 zf_Md_85 zT_1079 rfl (zz_ltn hn rfl) (zz_ro qS33 (fun h => absurd h.1 (by decide)) (zz_rc fS27 rfl rfl (fun h => h) rfl)) ?_
          refine zz_iconst zd_14_65_72 ?_
          refine zz_isub zd_14_65_73 ?_
          refine zz_iload_n (x := p1) rfl zd_14_65_74 ?_
          refine zz_iast zd_14_65_75 zT_1107 rfl (zz_ltn hn rfl) (by decide) (by omega) (fun S34 qS34 => ?_)
          have G_S34 := zz_G.put G_S33 qS34 0 10 rfl (by omega)
          have F_S34 := zz_fr.putv F_S33 qS34 (Or.inr (Or.inr (Or.inr (Or.inr (Or.inr (⟨rfl, rfl⟩))))))
          refine zz_aload_n (x := 1079) rfl zd_14_65_76 ?_
          refine zz_getr (kd := 0) (z := 1102) zd_14_65_77 zf_Md_88 zT_1079 rfl (zz_ltn hn rfl) (zz_G.eq G_S34 1079 37 1102 rfl rfl) (by decide) 1102 rfl ?_
          refine zz_aload_n (x := 1079) rfl zd_14_65_80 ?_
          refine zz_geti (z := S0 1079 36) zd_14_65_81 zf_Md_85 zT_1079 rfl (zz_ltn hn rfl) (zz_ro qS34 (fun h => absurd h.1 (by decide)) (zz_ro qS33 (fun h => absurd h.1 (by decide)) (zz_rc fS27 rfl rfl (fun h => h) rfl))) ?_
          refine zz_iload_n (x := p2) rfl zd_14_65_84 ?_
          refine zz_iast zd_14_65_85 zT_1102 rfl (zz_ltn hn rfl) (by decide) (by omega) (fun S35 qS35 => ?_)
          have G_S35 := zz_G.put G_S34 qS35 0 63 rfl (by omega)
          have F_S35 := zz_fr.putv F_S34 qS35 (Or.inl ⟨rfl, rfl⟩)
          refine zz_aload_n (x := 1079) rfl zd_14_65_86 ?_
          refine zz_getr (kd := 0) (z := 1103) zd_14_65_87 zf_Md_91 zT_1079 rfl (zz_ltn hn rfl) (zz_G.eq G_S35 1079 38 1103 rfl rfl) (by decide) 1103 rfl ?_
          refine zz_aload_n (x := 1079) rfl zd_14_65_90 ?_
          refine zz_geti (z := S0 1079 36) zd_14_65_91 zf_Md_85 zT_1079 rfl (zz_ltn hn rfl) (zz_ro qS35 (fun h => absurd h.1 (by decide)) (zz_ro qS34 (fun h => absurd h.1 (by decide)) (zz_ro qS33 (fun h => absurd h.1 (by decide)) (zz_rc fS27 rfl rfl (fun h => h) rfl)))) ?_
          refine zz_iload (x := p3) rfl zd_14_65_94 ?_
          refine zz_iast zd_14_65_96 zT_1103 rfl (zz_ltn hn rfl) (by decide) (by omega) (fun S36 qS36 => ?_)
          have G_S36 := zz_G.put G_S35 qS36 0 63 rfl (by omega)
          have F_S36 := zz_fr.putv F_S35 qS36 (Or.inr (Or.inl ⟨rfl, rfl⟩))
          refine zz_aload_n (x := 1079) rfl zd_14_65_97 ?_
          refine zz_getr (kd := 0) (z := 1104) zd_14_65_98 zf_Md_94 zT_1079 rfl (zz_ltn hn rfl) (zz_G.eq G_S36 1079 39 1104 rfl rfl) (by decide) 1104 rfl ?_
          refine zz_aload_n (x := 1079) rfl zd_14_65_101 ?_
          refine zz_geti (z := S0 1079 36) zd_14_65_102 zf_Md_85 zT_1079 rfl (zz_ltn hn rfl) (zz_ro qS36 (fun h => absurd h.1 (by decide)) (zz_ro qS35 (fun h => absurd h.1 (by decide)) (zz_ro qS34 (fun h => absurd h.1 (by decide)) (zz_ro qS33 (fun h => absurd h.1 (by decide)) (zz_rc fS27 rfl rfl (fun h => h) rfl))))) ?_
          refine zz_iload (x := p4) rfl zd_14_65_105 ?_
          refine zz_iast zd_14_65_107 zT_1104 rfl (zz_ltn hn rfl) (by decide) (by omega) (fun S37 qS37 => ?_)
          have G_S37 := zz_G.put G_S36 qS37 0 63 rfl (by omega)
          have F_S37 := zz_fr.putv F_S36 qS37 (Or.inr (Or.inr (Or.inl ⟨rfl, rfl⟩)))
          refine zz_aload_n (x := 1079) rfl zd_14_65_108 ?_
          refine zz_getr (kd := 0) (z := 1105) zd_14_65_109 zf_Md_97 zT_1079 rfl (zz_ltn hn rfl) (zz_G.eq G_S37 1079 40 1105 rfl rfl) (by decide) 1105 rfl ?_
          refine zz_aload_n (x := 1079) rfl zd_14_65_112 ?_
          refine zz_geti (z := S0 1079 36) zd_14_65_113 zf_Md_85 zT_1079 rfl (zz_ltn hn rfl) (zz_ro qS37 (fun h => absurd h.1 (by decide)) (zz_ro qS36 (fun h => absurd h.1 (by decide)) (zz_ro qS35 (fun h => absurd h.1 (by decide)) (zz_ro qS34 (fun h => absurd h.1 (by decide)) (zz_ro qS33 (fun h => absurd h.1 (by decide)) (zz_rc fS27 rfl rfl (fun h => h) rfl)))))) ?_
          refine zz_iconst zd_14_65_116 ?_
          refine zz_iadd zd_14_65_117 ?_
          refine zz_aload_n (x := 1079) rfl zd_14_65_118 ?_
          refine zz_getr (kd := 0) (z := 1105) zd_14_65_119 zf_Md_97 zT_1079 rfl (zz_ltn hn rfl) (zz_G.eq G_S37 1079 40 1105 rfl rfl) (by decide) 1105 rfl ?_
          refine zz_aload_n (x := 1079) rfl zd_14_65_122 ?_
          refine zz_geti (z := S0 1079 36) zd_14_65_123 zf_Md_85 zT_1079 rfl (zz_ltn hn rfl) (zz_ro qS37 (fun h => absurd h.1 (by decide)) (zz_ro qS36 (fun h => absurd h.1 (by decide)) (zz_ro qS35 (fun h => absurd h.1 (by decide)) (zz_ro qS34 (fun h => absurd h.1 (by decide)) (zz_ro qS33 (fun h => absurd h.1 (by decide)) (zz_rc fS27 rfl rfl (fun h => h) rfl)))))) ?_
          refine zz_iald (z := S0 1105 ((S0 1079 36).toNat)) zd_14_65_126 zT_1105 rfl (zz_ltn hn rfl) (by decide) (by omega) (zz_ro qS37 (fun h => absurd h.1 (by decide)) (zz_ro qS36 (fun h => absurd h.1 (by decide)) (zz_ro qS35 (fun h => absurd h.1 (by decide)) (zz_ro qS34 (fun h => absurd h.1 (by decide)) (zz_ro qS33 (fun h => absurd h.1 (by decide)) (zz_rc fS27 (zz_nc1 rfl) rfl (fun h => h) rfl)))))) ?_
          refine zz_iload (x := (p2 * p3) * p4) rfl zd_14_65_127 ?_
          refine zz_iadd zd_14_65_129 ?_
          refine zz_nme (fun v38 ev38 => ?_)
          refine zz_iast zd_14_65_130 zT_1105 rfl (zz_ltn hn rfl) (by decide) (by omega) (fun S39 qS39 => ?_)
          have G_S39 := zz_G.put G_S37 qS39 (0) (if ((S0 1079 36) + 1).toNat = 0 then 0 else 10000000) rfl (by omega)
          have F_S39 := zz_fr.putv F_S37 qS39 (Or.inr (Or.inr (Or.inr (Or.inl ⟨rfl, rfl⟩))))
          refine zz_aload_n (x := 1079) rfl zd_14_65_131 ?_
          refine zz_dup rfl zd_14_65_132 ?_
          refine zz_geti (z := S0 1079 36) zd_14_65_133 zf_Md_85 zT_1079 rfl (zz_ltn hn rfl) (zz_ro qS39 (fun h => absurd h.1 (by decide)) (zz_ro qS37 (fun h => absurd h.1 (by decide)) (zz_ro qS36 (fun h => absurd h.1 (by decide)) (zz_ro qS35 (fun h => absurd h.1 (by decide)) (zz_ro qS34 (fun h => absurd h.1 (by decide)) (zz_ro qS33 (fun h => absurd h.1 (by decide)) (zz_rc fS27 rfl rfl (fun h => h) rfl))))))) ?_
          refine zz_iconst zd_14_65_136 ?_
          refine zz_iadd zd_14_65_137 ?_
          refine zz_puti zd_14_65_138 zf_Md_85 zT_1079 rfl (zz_ltn hn rfl) (fun S40 qS40 => ?_)
          have G_S40 := zz_G.put G_S39 qS40 0 11 rfl (by omega)
          have F_S40 := zz_fr.puts F_S39 qS40 rfl
          refine zz_aload_n (x := 1079) rfl zd_14_65_141 ?_
          refine zz_geti (z := (S0 1079 36) + 1) zd_14_65_142 zf_Md_85 zT_1079 rfl (zz_ltn hn rfl) (zz_rs qS40) ?_
          refine zz_iconst zd_14_65_145 ?_
          refine zz_isub zd_14_65_146 ?_
          have e41 : S40 1079 0 = S27 1079 0 := (zz_ro qS40 (fun h => absurd h.2 (by decide)) (zz_ro qS39 (fun h => absurd h.1 (by decide)) (zz_ro qS37 (fun h => absurd h.1 (by decide)) (zz_ro qS36 (fun h => absurd h.1 (by decide)) (zz_ro qS35 (fun h => absurd h.1 (by decide)) (zz_ro qS34 (fun h => absurd h.1 (by decide)) (zz_ro qS33 (fun h => absurd h.1 (by decide)) rfl)))))))
          have e42 : S40 1079 36 = (S0 1079 36) + 1 := (zz_rs qS40)
          have e43 : S40 1102 (S0 1079 36).toNat = p2 := (zz_ro qS40 (fun h => absurd h.1 (by decide)) (zz_ro qS39 (fun h => absurd h.1 (by decide)) (zz_ro qS37 (fun h => absurd h.1 (by decide)) (zz_ro qS36 (fun h => absurd h.1 (by decide)) (zz_rs qS35)))))
          have e44 : S40 1103 (S0 1079 36).toNat = p3 := (zz_ro qS40 (fun h => absurd h.1 (by decide)) (zz_ro qS39 (fun h => absurd h.1 (by decide)) (zz_ro qS37 (fun h => absurd h.1 (by decide)) (zz_rs qS36))))
          have e45 : S40 1104 (S0 1079 36).toNat = p4 := (zz_ro qS40 (fun h => absurd h.1 (by decide)) (zz_ro qS39 (fun h => absurd h.1 (by decide)) (zz_rs qS37)))
          have g46 := zz_G.r G_S39 1105 ((S0 1079 36).toNat) (0) (if (S0 1079 36).toNat = 0 then 0 else 10000000) rfl rfl
          have e47 : S40 1105 (S0 1079 36).toNat = S39 1105 (S0 1079 36).toNat := (zz_ro qS40 (fun h => absurd h.1 (by decide)) rfl)
          have g48 := zz_G.r G_S33 1106 ((S0 1079 36 - 1).toNat) 0 2 rfl rfl
          have e49 : S40 1106 (S0 1079 36 - 1).toNat = S33 1106 (S0 1079 36 - 1).toNat := (zz_ro qS40 (fun h => absurd h.1 (by decide)) (zz_ro qS39 (fun h => absurd h.1 (by decide)) (zz_ro qS37 (fun h => absurd h.1 (by decide)) (zz_ro qS36 (fun h => absurd h.1 (by decide)) (zz_ro qS35 (fun h => absurd h.1 (by decide)) (zz_ro qS34 (fun h => absurd h.1 (by decide)) rfl))))))
          have g50 := zz_G.r G_S34 1107 ((S0 1079 36 - 1).toNat) 0 10 rfl rfl
          have e51 : S40 1107 (S0 1079 36 - 1).toNat = S34 1107 (S0 1079 36 - 1).toNat := (zz_ro qS40 (fun h => absurd h.1 (by decide)) (zz_ro qS39 (fun h => absurd h.1 (by decide)) (zz_ro qS37 (fun h => absurd h.1 (by decide)) (zz_ro qS36 (fun h => absurd h.1 (by decide)) (zz_ro qS35 (fun h => absurd h.1 (by decide)) rfl)))))
          exact zz_iret zd_14_65_147 rfl (Nat.zero_le _) (Nat.zero_le _) ⟨_, _, rfl, G_S40, F_S40, by omega, by omega, fun h => absurd h (by omega), by omega⟩
        · exfalso; omega
      · exfalso; omega
    · refine zz_iconst zd_14_65_39 ?_
      refine zz_goto zd_14_65_40 ?_
      refine zz_callVI [zi 0, zi 0, zi 1] zd_14_65_44 zk_Md_196 zT_1079 (zz_ltn hn rfl) rfl rfl ⟨Nat.le_of_ble_eq_true rfl, Nat.le_of_ble_eq_true rfl⟩ ⟨rfl, rfl⟩ (Nat.zero_le _) (Nat.zero_le _) (zc_refuse_14_3 0 0 1 S0 n hn G_S0 (by omega) (by omega) (by omega)) (fun v53 S52 hP => ?_)
      obtain ⟨G_S52, fS52, o54, o55⟩ := hP
      have F_S52 := zz_fr.trans F_S0 fS52 rfl zz_nv
      rcases (by omega : v53 = 0 ∨ v53 = 1) with rfl | rfl
      · exfalso; omega
      · have e56 : S52 1079 0 = 3 := by omega
        refine zz_if_eq (by omega) zd_14_65_47 (fun c57 => ?_) (fun c57 => ?_)
        · exfalso; omega
        · refine zz_iconst zd_14_65_50 ?_
          have e58 : S52 1079 36 = S0 1079 36 := (zz_rc fS52 rfl rfl (fun h => h) rfl)
          have g59 := zz_G.r G_S0 1102 ((S0 1079 36).toNat) 0 63 rfl rfl
          have e60 : S52 1102 (S0 1079 36).toNat = S0 1102 (S0 1079 36).toNat := (zz_rc fS52 (zz_nc1 rfl) rfl (fun h => h) rfl)
          have g61 := zz_G.r G_S0 1103 ((S0 1079 36).toNat) 0 63 rfl rfl
          have e62 : S52 1103 (S0 1079 36).toNat = S0 1103 (S0 1079 36).toNat := (zz_rc fS52 (zz_nc1 rfl) rfl (fun h => h) rfl)
          have g63 := zz_G.r G_S0 1104 ((S0 1079 36).toNat) 0 63 rfl rfl
          have e64 : S52 1104 (S0 1079 36).toNat = S0 1104 (S0 1079 36).toNat := (zz_rc fS52 (zz_nc1 rfl) rfl (fun h => h) rfl)
          have e65 : S52 1105 (S0 1079 36).toNat = S0 1105 (S0 1079 36).toNat := (zz_rc fS52 (zz_nc1 rfl) rfl (fun h => h) rfl)
          have g66 := zz_G.r G_S0 1106 ((S0 1079 36 - 1).toNat) 0 2 rfl rfl
          have e67 : S52 1106 (S0 1079 36 - 1).toNat = S0 1106 (S0 1079 36 - 1).toNat := (zz_rc fS52 (zz_nc1 rfl) rfl (fun h => h) rfl)
          have g68 := zz_G.r G_S0 1107 ((S0 1079 36 - 1).toNat) 0 10 rfl rfl
          have e69 : S52 1107 (S0 1079 36 - 1).toNat = S0 1107 (S0 1079 36 - 1).toNat := (zz_rc fS52 (zz_nc1 rfl) rfl (fun h => h) rfl)
          exact zz_iret zd_14_65_51 rfl (Nat.zero_le _) (Nat.zero_le _) ⟨_, _, rfl, G_S52, F_S52, by omega, by omega, fun _ h => zz_Hr.fr fS52 rfl rfl (fun b j h => h.elim) h, by omega⟩
abbrev zy_isTensor_14_66 : mm_Y := (⟨"TensorForgeModel", "isTensor", "(I)Z"⟩, prog_14_method_66_code, 2, (some .boolean))
theorem zyw_isTensor_14_66 : mm_Yw zy_isTensor_14_66 1 := ⟨mm_tb_1 2085 (by decide +kernel) rfl, mm_tb_1 12 (by decide +kernel) rfl, ⟨by decide, by decide⟩, by decide +kernel⟩
theorem zd_14_66_0 : zz_D zy_isTensor_14_66 0 (.iload_n 1) 1 1 := ⟨by decide +kernel, rfl⟩
theorem zd_14_66_1 : zz_D zy_isTensor_14_66 1 (.i2l) 1 2 := ⟨by decide +kernel, rfl⟩
theorem zd_14_66_2 : zz_D zy_isTensor_14_66 2 (.lconst 0) 1 3 := ⟨by decide +kernel, rfl⟩
theorem zd_14_66_3 : zz_D zy_isTensor_14_66 3 (.aload_n 0) 1 4 := ⟨by decide +kernel, rfl⟩
theorem zd_14_66_4 : zz_D zy_isTensor_14_66 4 (.getfield 85) 3 7 := ⟨by decide +kernel, rfl⟩
theorem zd_14_66_7 : zz_D zy_isTensor_14_66 7 (.iconst 1) 1 8 := ⟨by decide +kernel, rfl⟩
theorem zd_14_66_8 : zz_D zy_isTensor_14_66 8 (.isub) 1 9 := ⟨by decide +kernel, rfl⟩
theorem zd_14_66_9 : zz_D zy_isTensor_14_66 9 (.i2l) 1 10 := ⟨by decide +kernel, rfl⟩
theorem zd_14_66_10 : zz_D zy_isTensor_14_66 10 (.invokestatic 192) 3 13 := ⟨by decide +kernel, rfl⟩
theorem zd_14_66_13 : zz_D zy_isTensor_14_66 13 (.ireturn) 1 14 := ⟨by decide +kernel, rfl⟩
-- TensorForgeModel isTensor (I)Z
abbrev zr_isTensor_14_66 : Room := { frames := 1, cells := 0, slots := 0, locals := 17 }
def zp_isTensor_14_66 (p0 : Int) (S0 : zz_S) : Int → zz_S → Prop := fun r S => S0 = S ∧ (0 ≤ r ∧ r ≤ 1) ∧ ((r = 1 ∧ 0 ≤ p0 ∧ p0 ≤ S0 1079 36 - 1) ∨ r = 0)
theorem zc_isTensor_14_66 {g : mm_G} {l : Launch} (p0 : Int) (S0 : zz_S) (n : Nat) (hn : zz_end ≤ n) (G_S0 : zz_G S0) (hp0 : (-2147483648) ≤ p0 ∧ p0 ≤ 2147483647) : mm_Met g l zy_isTensor_14_66 zr_isTensor_14_66 [.ref 1079, zi p0] (zz_M S0 n) n (zz_QI n (zp_isTensor_14_66 p0 S0)) := by
  refine zz_enter (by decide) (Nat.le_of_ble_eq_true rfl) (zz_less (ls1 := [some (.ref 1079), some (zi p0)]) ⟨rfl, ⟨rfl, trivial⟩⟩ ?_)
  refine zz_iload_n (x := p0) rfl zd_14_66_0 ?_
  refine zz_i2l (by omega) zd_14_66_1 ?_
  refine zz_lconst (z := 0) (by decide) zd_14_66_2 ?_
  refine zz_aload_n (x := 1079) rfl zd_14_66_3 ?_
  have g1 := zz_G.r G_S0 1079 36 0 11 rfl rfl
  refine zz_geti (z := S0 1079 36) zd_14_66_4 zf_Md_85 zT_1079 rfl (zz_ltn hn rfl) rfl ?_
  refine zz_iconst zd_14_66_7 ?_
  refine zz_isub zd_14_66_8 ?_
  refine zz_i2l (by omega) zd_14_66_9 ?_
  refine zz_callSI [zl p0, zl 0, zl ((S0 1079 36) - 1)] zd_14_66_10 zk_Md_192 rfl rfl ⟨Nat.le_of_ble_eq_true rfl, Nat.le_of_ble_eq_true rfl⟩ ⟨rfl, rfl⟩ (Nat.zero_le _) (Nat.zero_le _) (zc_in_14_4 p0 0 ((S0 1079 36) - 1) S0 n hn G_S0 (by omega) (by omega) (by omega)) (fun v3 S2 hP => ?_)
  obtain ⟨rfl, o4, o5⟩ := hP
  rcases (by omega : v3 = 0 ∨ v3 = 1) with rfl | rfl
  · exact zz_zret zd_14_66_13 rfl (by omega) (Nat.zero_le _) (Nat.zero_le _) ⟨_, _, rfl, rfl, by omega, by omega⟩
  · exact zz_zret zd_14_66_13 rfl (by omega) (Nat.zero_le _) (Nat.zero_le _) ⟨_, _, rfl, rfl, by omega, by omega⟩
abbrev zy_convolution_14_67 : mm_Y := (⟨"TensorForgeModel", "convolution", "(IIIIII)I"⟩, prog_14_method_67_code, 19, (some .int))
theorem zyw_convolution_14_67 : mm_Yw zy_convolution_14_67 6 := ⟨mm_tb_1 2081 (by decide +kernel) rfl, mm_tb_1 12 (by decide +kernel) rfl, ⟨by decide, by decide⟩, by decide +kernel⟩
theorem zd_14_67_0 : zz_D zy_convolution_14_67 0 (.aload_n 0) 1 1 := ⟨by decide +kernel, rfl⟩
theorem zd_14_67_1 : zz_D zy_convolution_14_67 1 (.iload_n 1) 1 2 := ⟨by decide +kernel, rfl⟩
theorem zd_14_67_2 : zz_D zy_convolution_14_67 2 (.invokevirtual 411) 3 5 := ⟨by decide +kernel, rfl⟩
theorem zk_Md_411 : mm_Vl "TensorForgeModel" 411 11 1 zy_isTensor_14_66 := ⟨zyw_isTensor_14_66, (R_Md, F_Md, 69), rfl, mm_tb_1 2082 (by decide +kernel) rfl, mm_tb_1 2084 (by decide +kernel) rfl, mm_tb_s 120 (by decide +kernel) rfl⟩
theorem zd_14_67_5 : zz_B zy_convolution_14_67 5 (Instr.ifCond .ne) 18 8 := ⟨13, by decide +kernel, rfl, rfl⟩
theorem zd_14_67_8 : zz_D zy_convolution_14_67 8 (.aload_n 0) 1 9 := ⟨by decide +kernel, rfl⟩
theorem zd_14_67_9 : zz_D zy_convolution_14_67 9 (.iconst 1) 1 10 := ⟨by decide +kernel, rfl⟩
theorem zd_14_67_10 : zz_D zy_convolution_14_67 10 (.iconst 0) 1 11 := ⟨by decide +kernel, rfl⟩
theorem zd_14_67_11 : zz_D zy_convolution_14_67 11 (.iconst 0) 1 12 := ⟨by decide +kernel, rfl⟩
theorem zd_14_67_12 : zz_D zy_convolution_14_67 12 (.invokevirtual 196) 3 15 := ⟨by decide +kernel, rfl⟩
theorem zd_14_67_15 : zz_D zy_convolution_14_67 15 (.pop) 1 16 := ⟨by decide +kernel, rfl⟩
theorem zd_14_67_16 : zz_D zy_convolution_14_67 16 (.iconst 0) 1 17 := ⟨by decide +kernel, rfl⟩
theorem zd_14_67_17 : zz_D zy_convolution_14_67 17 (.ireturn) 1 18 := ⟨by decide +kernel, rfl⟩
theorem zd_14_67_18 : zz_D zy_convolution_14_67 18 (.iload_n 2) 1 19 := ⟨by decide +kernel, rfl⟩
theorem zd_14_67_19 : zz_D zy_convolution_14_67 19 (.bipush 10) 2 21 := ⟨by decide +kernel, rfl⟩
theorem zd_14_67_21 : zz_D zy_convolution_14_67 21 (.idiv) 1 22 := ⟨by decide +kernel, rfl⟩
theorem zd_14_67_22 : zz_D zy_convolution_14_67 22 (.istore 7) 2 24 := ⟨by decide +kernel, rfl⟩
theorem zd_14_67_24 : zz_D zy_convolution_14_67 24 (.iload_n 2) 1 25 := ⟨by decide +kernel, rfl⟩
theorem zd_14_67_25 : zz_D zy_convolution_14_67 25 (.bipush 10) 2 27 := ⟨by decide +kernel, rfl⟩
theorem zd_14_67_27 : zz_D zy_convolution_14_67 27 (.irem) 1 28 := ⟨by decide +kernel, rfl⟩
theorem zd_14_67_28 : zz_D zy_convolution_14_67 28 (.istore 8) 2 30 := ⟨by decide +kernel, rfl⟩
theorem zd_14_67_30 : zz_D zy_convolution_14_67 30 (.iload 4) 2 32 := ⟨by decide +kernel, rfl⟩
theorem zd_14_67_32 : zz_D zy_convolution_14_67 32 (.bipush 10) 2 34 := ⟨by decide +kernel, rfl⟩
theorem zd_14_67_34 : zz_D zy_convolution_14_67 34 (.idiv) 1 35 := ⟨by decide +kernel, rfl⟩
theorem zd_14_67_35 : zz_D zy_convolution_14_67 35 (.istore 9) 2 37 := ⟨by decide +kernel, rfl⟩
theorem zd_14_67_37 : zz_D zy_convolution_14_67 37 (.iload 4) 2 39 := ⟨by decide +kernel, rfl⟩
theorem zd_14_67_39 : zz_D zy_convolution_14_67 39 (.bipush 10) 2 41 := ⟨by decide +kernel, rfl⟩
theorem zd_14_67_41 : zz_D zy_convolution_14_67 41 (.irem) 1 42 := ⟨by decide +kernel, rfl⟩
theorem zd_14_67_42 : zz_D zy_convolution_14_67 42 (.istore 10) 2 44 := ⟨by decide +kernel, rfl⟩
theorem zd_14_67_44 : zz_D zy_convolution_14_67 44 (.iload_n 2) 1 45 := ⟨by decide +kernel, rfl⟩
theorem zd_14_67_45 : zz_D zy_convolution_14_67 45 (.i2l) 1 46 := ⟨by decide +kernel, rfl⟩
theorem zd_14_67_46 : zz_D zy_convolution_14_67 46 (.ldc2_w 218) 3 49 := ⟨by decide +kernel, rfl⟩
theorem zd_14_67_49 : zz_D zy_convolution_14_67 49 (.ldc2_w 414) 3 52 := ⟨by decide +kernel, rfl⟩
theorem zq_Md_414 : Cond.constantLong "TensorForgeModel" 414 (33 : Int64) ∈ mm_tb := mm_tb_1 2086 (by decide +kernel) rfl
theorem zd_14_67_52 : zz_D zy_convolution_14_67 52 (.invokestatic 192) 3 55 := ⟨by decide +kernel, rfl⟩
theorem zd_14_67_55 : zz_B zy_convolution_14_67 55 (Instr.ifCond .eq) 152 58 := ⟨97, by decide +kernel, rfl, rfl⟩
theorem zd_14_67_152 : zz_D zy_convolution_14_67 152 (.iconst 0) 1 153 := ⟨by decide +kernel, rfl⟩
theorem zd_14_67_153 : zz_D zy_convolution_14_67 153 (.istore 11) 2 155 := ⟨by decide +kernel, rfl⟩
theorem zd_14_67_155 : zz_D zy_convolution_14_67 155 (.iload 11) 2 157 := ⟨by decide +kernel, rfl⟩
theorem zd_14_67_157 : zz_B zy_convolution_14_67 157 (Instr.ifCond .eq) 178 160 := ⟨21, by decide +kernel, rfl, rfl⟩
theorem zd_14_67_178 : zz_D zy_convolution_14_67 178 (.iconst 0) 1 179 := ⟨by decide +kernel, rfl⟩
theorem zd_14_67_179 : zz_D zy_convolution_14_67 179 (.istore 12) 2 181 := ⟨by decide +kernel, rfl⟩
theorem zd_14_67_181 : zz_D zy_convolution_14_67 181 (.iload 11) 2 183 := ⟨by decide +kernel, rfl⟩
theorem zd_14_67_183 : zz_B zy_convolution_14_67 183 (Instr.ifCond .eq) 204 186 := ⟨21, by decide +kernel, rfl, rfl⟩
theorem zd_14_67_204 : zz_D zy_convolution_14_67 204 (.iconst 0) 1 205 := ⟨by decide +kernel, rfl⟩
theorem zd_14_67_205 : zz_D zy_convolution_14_67 205 (.istore 13) 2 207 := ⟨by decide +kernel, rfl⟩
theorem zd_14_67_207 : zz_D zy_convolution_14_67 207 (.iload 11) 2 209 := ⟨by decide +kernel, rfl⟩
theorem zd_14_67_209 : zz_B zy_convolution_14_67 209 (Instr.ifCond .eq) 233 212 := ⟨24, by decide +kernel, rfl, rfl⟩
theorem zd_14_67_233 : zz_D zy_convolution_14_67 233 (.lconst 0) 1 234 := ⟨by decide +kernel, rfl⟩
theorem zd_14_67_234 : zz_D zy_convolution_14_67 234 (.lstore 14) 2 236 := ⟨by decide +kernel, rfl⟩
theorem zd_14_67_236 : zz_D zy_convolution_14_67 236 (.iload 12) 2 238 := ⟨by decide +kernel, rfl⟩
theorem zd_14_67_238 : zz_D zy_convolution_14_67 238 (.i2l) 1 239 := ⟨by decide +kernel, rfl⟩
theorem zd_14_67_239 : zz_D zy_convolution_14_67 239 (.lconst 1) 1 240 := ⟨by decide +kernel, rfl⟩
theorem zd_14_67_240 : zz_D zy_convolution_14_67 240 (.ldc2_w 399) 3 243 := ⟨by decide +kernel, rfl⟩
theorem zd_14_67_243 : zz_D zy_convolution_14_67 243 (.invokestatic 192) 3 246 := ⟨by decide +kernel, rfl⟩
theorem zd_14_67_246 : zz_B zy_convolution_14_67 246 (Instr.ifCond .eq) 292 249 := ⟨46, by decide +kernel, rfl, rfl⟩
theorem zd_14_67_292 : zz_D zy_convolution_14_67 292 (.iconst 0) 1 293 := ⟨by decide +kernel, rfl⟩
theorem zd_14_67_293 : zz_D zy_convolution_14_67 293 (.istore 16) 2 295 := ⟨by decide +kernel, rfl⟩
theorem zd_14_67_295 : zz_D zy_convolution_14_67 295 (.aload_n 0) 1 296 := ⟨by decide +kernel, rfl⟩
theorem zd_14_67_296 : zz_D zy_convolution_14_67 296 (.iconst 0) 1 297 := ⟨by decide +kernel, rfl⟩
theorem zd_14_67_297 : zz_D zy_convolution_14_67 297 (.iload 16) 2 299 := ⟨by decide +kernel, rfl⟩
theorem zd_14_67_299 : zz_B zy_convolution_14_67 299 (Instr.ifCond .ne) 306 302 := ⟨7, by decide +kernel, rfl, rfl⟩
theorem zd_14_67_302 : zz_D zy_convolution_14_67 302 (.iconst 1) 1 303 := ⟨by decide +kernel, rfl⟩
theorem zd_14_67_303 : zz_B zy_convolution_14_67 303 Instr.goto 307 306 := ⟨4, by decide +kernel, rfl, rfl⟩
theorem zd_14_67_307 : zz_D zy_convolution_14_67 307 (.iconst 0) 1 308 := ⟨by decide +kernel, rfl⟩
theorem zd_14_67_308 : zz_D zy_convolution_14_67 308 (.invokevirtual 196) 3 311 := ⟨by decide +kernel, rfl⟩
theorem zd_14_67_311 : zz_B zy_convolution_14_67 311 (Instr.ifCond .eq) 316 314 := ⟨5, by decide +kernel, rfl, rfl⟩
theorem zd_14_67_314 : zz_D zy_convolution_14_67 314 (.iconst 0) 1 315 := ⟨by decide +kernel, rfl⟩
theorem zd_14_67_315 : zz_D zy_convolution_14_67 315 (.ireturn) 1 316 := ⟨by decide +kernel, rfl⟩
theorem zd_14_67_58 : zz_D zy_convolution_14_67 58 (.iload 7) 2 60 := ⟨by decide +kernel, rfl⟩
theorem zd_14_67_60 : zz_D zy_convolution_14_67 60 (.i2l) 1 61 := ⟨by decide +kernel, rfl⟩
theorem zd_14_67_61 : zz_D zy_convolution_14_67 61 (.lconst 1) 1 62 := ⟨by decide +kernel, rfl⟩
theorem zd_14_67_62 : zz_D zy_convolution_14_67 62 (.ldc2_w 416) 3 65 := ⟨by decide +kernel, rfl⟩
theorem zq_Md_416 : Cond.constantLong "TensorForgeModel" 416 (3 : Int64) ∈ mm_tb := mm_tb_1 2087 (by decide +kernel) rfl
theorem zd_14_67_65 : zz_D zy_convolution_14_67 65 (.invokestatic 192) 3 68 := ⟨by decide +kernel, rfl⟩
theorem zd_14_67_68 : zz_B zy_convolution_14_67 68 (Instr.ifCond .eq) 152 71 := ⟨84, by decide +kernel, rfl, rfl⟩
theorem zd_14_67_71 : zz_D zy_convolution_14_67 71 (.iload 8) 2 73 := ⟨by decide +kernel, rfl⟩
theorem zd_14_67_73 : zz_D zy_convolution_14_67 73 (.i2l) 1 74 := ⟨by decide +kernel, rfl⟩
theorem zd_14_67_74 : zz_D zy_convolution_14_67 74 (.lconst 1) 1 75 := ⟨by decide +kernel, rfl⟩
theorem zd_14_67_75 : zz_D zy_convolution_14_67 75 (.ldc2_w 416) 3 78 := ⟨by decide +kernel, rfl⟩
theorem zd_14_67_78 : zz_D zy_convolution_14_67 78 (.invokestatic 192) 3 81 := ⟨by decide +kernel, rfl⟩
theorem zd_14_67_81 : zz_B zy_convolution_14_67 81 (Instr.ifCond .eq) 152 84 := ⟨71, by decide +kernel, rfl, rfl⟩
theorem zd_14_67_84 : zz_D zy_convolution_14_67 84 (.iload_n 3) 1 85 := ⟨by decide +kernel, rfl⟩
theorem zd_14_67_85 : zz_D zy_convolution_14_67 85 (.i2l) 1 86 := ⟨by decide +kernel, rfl⟩
theorem zd_14_67_86 : zz_D zy_convolution_14_67 86 (.lconst 1) 1 87 := ⟨by decide +kernel, rfl⟩
theorem zd_14_67_87 : zz_D zy_convolution_14_67 87 (.ldc2_w 367) 3 90 := ⟨by decide +kernel, rfl⟩
theorem zd_14_67_90 : zz_D zy_convolution_14_67 90 (.invokestatic 192) 3 93 := ⟨by decide +kernel, rfl⟩
theorem zd_14_67_93 : zz_B zy_convolution_14_67 93 (Instr.ifCond .eq) 152 96 := ⟨59, by decide +kernel, rfl, rfl⟩
theorem zd_14_67_96 : zz_D zy_convolution_14_67 96 (.iload 4) 2 98 := ⟨by decide +kernel, rfl⟩
theorem zd_14_67_98 : zz_D zy_convolution_14_67 98 (.i2l) 1 99 := ⟨by decide +kernel, rfl⟩
theorem zd_14_67_99 : zz_D zy_convolution_14_67 99 (.ldc2_w 407) 3 102 := ⟨by decide +kernel, rfl⟩
theorem zd_14_67_102 : zz_D zy_convolution_14_67 102 (.ldc2_w 418) 3 105 := ⟨by decide +kernel, rfl⟩
theorem zq_Md_418 : Cond.constantLong "TensorForgeModel" 418 (21 : Int64) ∈ mm_tb := mm_tb_1 2088 (by decide +kernel) rfl
theorem zd_14_67_105 : zz_D zy_convolution_14_67 105 (.invokestatic 192) 3 108 := ⟨by decide +kernel, rfl⟩
theorem zd_14_67_108 : zz_B zy_convolution_14_67 108 (Instr.ifCond .eq) 152 111 := ⟨44, by decide +kernel, rfl, rfl⟩
theorem zd_14_67_111 : zz_D zy_convolution_14_67 111 (.iload 9) 2 113 := ⟨by decide +kernel, rfl⟩
theorem zd_14_67_113 : zz_D zy_convolution_14_67 113 (.i2l) 1 114 := ⟨by decide +kernel, rfl⟩
theorem zd_14_67_114 : zz_D zy_convolution_14_67 114 (.lconst 1) 1 115 := ⟨by decide +kernel, rfl⟩
theorem zd_14_67_115 : zz_D zy_convolution_14_67 115 (.ldc2_w 169) 3 118 := ⟨by decide +kernel, rfl⟩
theorem zd_14_67_118 : zz_D zy_convolution_14_67 118 (.invokestatic 192) 3 121 := ⟨by decide +kernel, rfl⟩
theorem zd_14_67_121 : zz_B zy_convolution_14_67 121 (Instr.ifCond .eq) 152 124 := ⟨31, by decide +kernel, rfl, rfl⟩
theorem zd_14_67_124 : zz_D zy_convolution_14_67 124 (.iload 10) 2 126 := ⟨by decide +kernel, rfl⟩
theorem zd_14_67_126 : zz_D zy_convolution_14_67 126 (.i2l) 1 127 := ⟨by decide +kernel, rfl⟩
theorem zd_14_67_127 : zz_D zy_convolution_14_67 127 (.lconst 0) 1 128 := ⟨by decide +kernel, rfl⟩
theorem zd_14_67_128 : zz_D zy_convolution_14_67 128 (.lconst 1) 1 129 := ⟨by decide +kernel, rfl⟩
theorem zd_14_67_129 : zz_D zy_convolution_14_67 129 (.invokestatic 192) 3 132 := ⟨by decide +kernel, rfl⟩
theorem zd_14_67_132 : zz_B zy_convolution_14_67 132 (Instr.ifCond .eq) 152 135 := ⟨20, by decide +kernel, rfl, rfl⟩
theorem zd_14_67_135 : zz_D zy_convolution_14_67 135 (.iload 5) 2 137 := ⟨by decide +kernel, rfl⟩
theorem zd_14_67_137 : zz_D zy_convolution_14_67 137 (.i2l) 1 138 := ⟨by decide +kernel, rfl⟩
theorem zd_14_67_138 : zz_D zy_convolution_14_67 138 (.lconst 0) 1 139 := ⟨by decide +kernel, rfl⟩
theorem zd_14_67_139 : zz_D zy_convolution_14_67 139 (.ldc2_w 357) 3 142 := ⟨by decide +kernel, rfl⟩
theorem zd_14_67_142 : zz_D zy_convolution_14_67 142 (.invokestatic 192) 3 145 := ⟨by decide +kernel, rfl⟩
theorem zd_14_67_145 : zz_B zy_convolution_14_67 145 (Instr.ifCond .eq) 152 148 := ⟨7, by decide +kernel, rfl, rfl⟩
theorem zd_14_67_148 : zz_D zy_convolution_14_67 148 (.iconst 1) 1 149 := ⟨by decide +kernel, rfl⟩
theorem zd_14_67_149 : zz_B zy_convolution_14_67 149 Instr.goto 153 152 := ⟨4, by decide +kernel, rfl, rfl⟩
theorem zd_14_67_160 : zz_D zy_convolution_14_67 160 (.aload_n 0) 1 161 := ⟨by decide +kernel, rfl⟩
theorem zd_14_67_161 : zz_D zy_convolution_14_67 161 (.getfield 88) 3 164 := ⟨by decide +kernel, rfl⟩
theorem zd_14_67_164 : zz_D zy_convolution_14_67 164 (.iload_n 1) 1 165 := ⟨by decide +kernel, rfl⟩
theorem zd_14_67_165 : zz_D zy_convolution_14_67 165 (.iaload) 1 166 := ⟨by decide +kernel, rfl⟩
theorem zd_14_67_166 : zz_D zy_convolution_14_67 166 (.iload 7) 2 168 := ⟨by decide +kernel, rfl⟩
theorem zd_14_67_168 : zz_D zy_convolution_14_67 168 (.iload 9) 2 170 := ⟨by decide +kernel, rfl⟩
theorem zd_14_67_170 : zz_D zy_convolution_14_67 170 (.iload 10) 2 172 := ⟨by decide +kernel, rfl⟩
theorem zd_14_67_172 : zz_D zy_convolution_14_67 172 (.invokestatic 420) 3 175 := ⟨by decide +kernel, rfl⟩
theorem zk_Md_420 : mm_Sl "TensorForgeModel" 420 4 zy_resultsOf_14_64 := ⟨zyw_resultsOf_14_64, mm_tb_1 2089 (by decide +kernel) rfl, mm_tb_1 2090 (by decide +kernel) rfl⟩
theorem zd_14_67_175 : zz_B zy_convolution_14_67 175 Instr.goto 179 178 := ⟨4, by decide +kernel, rfl, rfl⟩
theorem zd_14_67_186 : zz_D zy_convolution_14_67 186 (.aload_n 0) 1 187 := ⟨by decide +kernel, rfl⟩
theorem zd_14_67_187 : zz_D zy_convolution_14_67 187 (.getfield 91) 3 190 := ⟨by decide +kernel, rfl⟩
theorem zd_14_67_190 : zz_D zy_convolution_14_67 190 (.iload_n 1) 1 191 := ⟨by decide +kernel, rfl⟩
theorem zd_14_67_191 : zz_D zy_convolution_14_67 191 (.iaload) 1 192 := ⟨by decide +kernel, rfl⟩
theorem zd_14_67_192 : zz_D zy_convolution_14_67 192 (.iload 8) 2 194 := ⟨by decide +kernel, rfl⟩
theorem zd_14_67_194 : zz_D zy_convolution_14_67 194 (.iload 9) 2 196 := ⟨by decide +kernel, rfl⟩
theorem zd_14_67_196 : zz_D zy_convolution_14_67 196 (.iload 10) 2 198 := ⟨by decide +kernel, rfl⟩
theorem zd_14_67_198 : zz_D zy_convolution_14_67 198 (.invokestatic 420) 3 201 := ⟨by decide +kernel, rfl⟩
theorem zd_14_67_201 : zz_B zy_convolution_14_67 201 Instr.goto 205 204 := ⟨4, by decide +kernel, rfl, rfl⟩
theorem zd_14_67_212 : zz_D zy_convolution_14_67 212 (.iload_n 3) 1 213 := ⟨by decide +kernel, rfl⟩
theorem zd_14_67_213 : zz_D zy_convolution_14_67 213 (.i2l) 1 214 := ⟨by decide +kernel, rfl⟩
theorem zd_14_67_214 : zz_D zy_convolution_14_67 214 (.iconst 4) 1 215 := ⟨by decide +kernel, rfl⟩
theorem zd_14_67_215 : zz_D zy_convolution_14_67 215 (.iload 7) 2 217 := ⟨by decide +kernel, rfl⟩
theorem zd_14_67_217 : zz_D zy_convolution_14_67 217 (.iload 8) 2 219 := ⟨by decide +kernel, rfl⟩
theorem zd_14_67_219 : zz_D zy_convolution_14_67 219 (.imul) 1 220 := ⟨by decide +kernel, rfl⟩
theorem zd_14_67_220 : zz_D zy_convolution_14_67 220 (.aload_n 0) 1 221 := ⟨by decide +kernel, rfl⟩
theorem zd_14_67_221 : zz_D zy_convolution_14_67 221 (.getfield 94) 3 224 := ⟨by decide +kernel, rfl⟩
theorem zd_14_67_224 : zz_D zy_convolution_14_67 224 (.iload_n 1) 1 225 := ⟨by decide +kernel, rfl⟩
theorem zd_14_67_225 : zz_D zy_convolution_14_67 225 (.iaload) 1 226 := ⟨by decide +kernel, rfl⟩
theorem zd_14_67_226 : zz_D zy_convolution_14_67 226 (.imul) 1 227 := ⟨by decide +kernel, rfl⟩
theorem zd_14_67_227 : zz_D zy_convolution_14_67 227 (.iadd) 1 228 := ⟨by decide +kernel, rfl⟩
theorem zd_14_67_228 : zz_D zy_convolution_14_67 228 (.i2l) 1 229 := ⟨by decide +kernel, rfl⟩
theorem zd_14_67_229 : zz_D zy_convolution_14_67 229 (.lmul) 1 230 := ⟨by decide +kernel, rfl⟩
theorem zd_14_67_230 : zz_B zy_convolution_14_67 230 Instr.goto 234 233 := ⟨4, by decide +kernel, rfl, rfl⟩
theorem zd_14_67_249 : zz_D zy_convolution_14_67 249 (.iload 13) 2 251 := ⟨by decide +kernel, rfl⟩
theorem zd_14_67_251 : zz_D zy_convolution_14_67 251 (.i2l) 1 252 := ⟨by decide +kernel, rfl⟩
theorem zd_14_67_252 : zz_D zy_convolution_14_67 252 (.lconst 1) 1 253 := ⟨by decide +kernel, rfl⟩
theorem zd_14_67_253 : zz_D zy_convolution_14_67 253 (.ldc2_w 399) 3 256 := ⟨by decide +kernel, rfl⟩
theorem zd_14_67_256 : zz_D zy_convolution_14_67 256 (.invokestatic 192) 3 259 := ⟨by decide +kernel, rfl⟩
theorem zd_14_67_259 : zz_B zy_convolution_14_67 259 (Instr.ifCond .eq) 292 262 := ⟨33, by decide +kernel, rfl, rfl⟩
theorem zd_14_67_262 : zz_D zy_convolution_14_67 262 (.iload 6) 2 264 := ⟨by decide +kernel, rfl⟩
theorem zd_14_67_264 : zz_D zy_convolution_14_67 264 (.i2l) 1 265 := ⟨by decide +kernel, rfl⟩
theorem zd_14_67_265 : zz_D zy_convolution_14_67 265 (.lconst 0) 1 266 := ⟨by decide +kernel, rfl⟩
theorem zd_14_67_266 : zz_D zy_convolution_14_67 266 (.ldc2_w 424) 3 269 := ⟨by decide +kernel, rfl⟩
theorem zq_Md_424 : Cond.constantLong "TensorForgeModel" 424 (4096 : Int64) ∈ mm_tb := mm_tb_1 2092 (by decide +kernel) rfl
theorem zd_14_67_269 : zz_D zy_convolution_14_67 269 (.invokestatic 192) 3 272 := ⟨by decide +kernel, rfl⟩
theorem zd_14_67_272 : zz_B zy_convolution_14_67 272 (Instr.ifCond .eq) 292 275 := ⟨20, by decide +kernel, rfl, rfl⟩
theorem zd_14_67_275 : zz_D zy_convolution_14_67 275 (.iload 6) 2 277 := ⟨by decide +kernel, rfl⟩
theorem zd_14_67_277 : zz_D zy_convolution_14_67 277 (.i2l) 1 278 := ⟨by decide +kernel, rfl⟩
theorem zd_14_67_278 : zz_D zy_convolution_14_67 278 (.lload 14) 2 280 := ⟨by decide +kernel, rfl⟩
theorem zd_14_67_280 : zz_D zy_convolution_14_67 280 (.ladd) 1 281 := ⟨by decide +kernel, rfl⟩
theorem zd_14_67_281 : zz_D zy_convolution_14_67 281 (.ldc2_w 424) 3 284 := ⟨by decide +kernel, rfl⟩
theorem zd_14_67_284 : zz_D zy_convolution_14_67 284 (.lcmp) 1 285 := ⟨by decide +kernel, rfl⟩
theorem zd_14_67_285 : zz_B zy_convolution_14_67 285 (Instr.ifCond .gt) 292 288 := ⟨7, by decide +kernel, rfl, rfl⟩
theorem zd_14_67_288 : zz_D zy_convolution_14_67 288 (.iconst 1) 1 289 := ⟨by decide +kernel, rfl⟩
theorem zd_14_67_289 : zz_B zy_convolution_14_67 289 Instr.goto 293 292 := ⟨4, by decide +kernel, rfl, rfl⟩
theorem zd_14_67_306 : zz_D zy_convolution_14_67 306 (.iconst 0) 1 307 := ⟨by decide +kernel, rfl⟩
theorem zd_14_67_316 : zz_D zy_convolution_14_67 316 (.aload_n 0) 1 317 := ⟨by decide +kernel, rfl⟩
theorem zd_14_67_317 : zz_D zy_convolution_14_67 317 (.getfield 85) 3 320 := ⟨by decide +kernel, rfl⟩
theorem zd_14_67_320 : zz_D zy_convolution_14_67 320 (.iconst 1) 1 321 := ⟨by decide +kernel, rfl⟩
theorem zd_14_67_321 : zz_D zy_convolution_14_67 321 (.isub) 1 322 := ⟨by decide +kernel, rfl⟩
theorem zd_14_67_322 : zz_D zy_convolution_14_67 322 (.istore 17) 2 324 := ⟨by decide +kernel, rfl⟩
theorem zd_14_67_324 : zz_D zy_convolution_14_67 324 (.aload_n 0) 1 325 := ⟨by decide +kernel, rfl⟩
theorem zd_14_67_325 : zz_D zy_convolution_14_67 325 (.iconst 0) 1 326 := ⟨by decide +kernel, rfl⟩
theorem zd_14_67_326 : zz_D zy_convolution_14_67 326 (.iload_n 1) 1 327 := ⟨by decide +kernel, rfl⟩
theorem zd_14_67_327 : zz_D zy_convolution_14_67 327 (.iload 12) 2 329 := ⟨by decide +kernel, rfl⟩
theorem zd_14_67_329 : zz_D zy_convolution_14_67 329 (.iload 13) 2 331 := ⟨by decide +kernel, rfl⟩
theorem zd_14_67_331 : zz_D zy_convolution_14_67 331 (.iload_n 3) 1 332 := ⟨by decide +kernel, rfl⟩
theorem zd_14_67_332 : zz_D zy_convolution_14_67 332 (.invokevirtual 426) 3 335 := ⟨by decide +kernel, rfl⟩
theorem zk_Md_426 : mm_Vl "TensorForgeModel" 426 11 5 zy_add_14_65 := ⟨zyw_add_14_65, (R_Md, F_Md, 69), rfl, mm_tb_1 2093 (by decide +kernel) rfl, mm_tb_1 2095 (by decide +kernel) rfl, mm_tb_s 121 (by decide +kernel) rfl⟩
theorem zd_14_67_335 : zz_D zy_convolution_14_67 335 (.istore 18) 2 337 := ⟨by decide +kernel, rfl⟩
theorem zd_14_67_337 : zz_D zy_convolution_14_67 337 (.aload_n 0) 1 338 := ⟨by decide +kernel, rfl⟩
theorem zd_14_67_338 : zz_D zy_convolution_14_67 338 (.getfield 187) 3 341 := ⟨by decide +kernel, rfl⟩
theorem zd_14_67_341 : zz_B zy_convolution_14_67 341 (Instr.ifCond .le) 346 344 := ⟨5, by decide +kernel, rfl, rfl⟩
theorem zd_14_67_346 : zz_D zy_convolution_14_67 346 (.aload_n 0) 1 347 := ⟨by decide +kernel, rfl⟩
theorem zd_14_67_347 : zz_D zy_convolution_14_67 347 (.iload 17) 2 349 := ⟨by decide +kernel, rfl⟩
theorem zd_14_67_349 : zz_D zy_convolution_14_67 349 (.iload 7) 2 351 := ⟨by decide +kernel, rfl⟩
theorem zd_14_67_351 : zz_D zy_convolution_14_67 351 (.iload 8) 2 353 := ⟨by decide +kernel, rfl⟩
theorem zd_14_67_353 : zz_D zy_convolution_14_67 353 (.iload 9) 2 355 := ⟨by decide +kernel, rfl⟩
theorem zd_14_67_355 : zz_D zy_convolution_14_67 355 (.iload 10) 2 357 := ⟨by decide +kernel, rfl⟩
theorem zd_14_67_357 : zz_D zy_convolution_14_67 357 (.iload 5) 2 359 := ⟨by decide +kernel, rfl⟩
theorem zd_14_67_359 : zz_D zy_convolution_14_67 359 (.invokevirtual 430) 3 362 := ⟨by decide +kernel, rfl⟩
abbrev zy_setLayer_14_68 : mm_Y := (⟨"TensorForgeModel", "setLayer", "(IIIIII)V"⟩, prog_14_method_68_code, 7, none)
theorem zyw_setLayer_14_68 : mm_Yw zy_setLayer_14_68 6 := ⟨mm_tb_1 2100 (by decide +kernel) rfl, mm_tb_1 12 (by decide +kernel) rfl, ⟨by decide, by decide⟩, by decide +kernel⟩
theorem zd_14_68_0 : zz_D zy_setLayer_14_68 0 (.aload_n 0) 1 1 := ⟨by decide +kernel, rfl⟩
theorem zd_14_68_1 : zz_D zy_setLayer_14_68 1 (.getfield 109) 3 4 := ⟨by decide +kernel, rfl⟩
theorem zf_Md_109 : mm_Fl "TensorForgeModel" 109 11 44 (.array .int) true := ⟨R_Md, F_Md, 69, t_Md, rfl, i_Md, by decide, mm_tb_1 1655 (by decide +kernel) rfl, rfl, t_Md_ok, n_Md, rfl, by decide +kernel⟩
theorem zd_14_68_4 : zz_D zy_setLayer_14_68 4 (.iload_n 1) 1 5 := ⟨by decide +kernel, rfl⟩
theorem zd_14_68_5 : zz_D zy_setLayer_14_68 5 (.iload_n 2) 1 6 := ⟨by decide +kernel, rfl⟩
theorem zd_14_68_6 : zz_D zy_setLayer_14_68 6 (.iastore) 1 7 := ⟨by decide +kernel, rfl⟩
theorem zd_14_68_7 : zz_D zy_setLayer_14_68 7 (.aload_n 0) 1 8 := ⟨by decide +kernel, rfl⟩
theorem zd_14_68_8 : zz_D zy_setLayer_14_68 8 (.getfield 112) 3 11 := ⟨by decide +kernel, rfl⟩
theorem zf_Md_112 : mm_Fl "TensorForgeModel" 112 11 45 (.array .int) true := ⟨R_Md, F_Md, 69, t_Md, rfl, i_Md, by decide, mm_tb_1 1656 (by decide +kernel) rfl, rfl, t_Md_ok, n_Md, rfl, by decide +kernel⟩
theorem zd_14_68_11 : zz_D zy_setLayer_14_68 11 (.iload_n 1) 1 12 := ⟨by decide +kernel, rfl⟩
theorem zd_14_68_12 : zz_D zy_setLayer_14_68 12 (.iload_n 3) 1 13 := ⟨by decide +kernel, rfl⟩
theorem zd_14_68_13 : zz_D zy_setLayer_14_68 13 (.iastore) 1 14 := ⟨by decide +kernel, rfl⟩
theorem zd_14_68_14 : zz_D zy_setLayer_14_68 14 (.aload_n 0) 1 15 := ⟨by decide +kernel, rfl⟩
theorem zd_14_68_15 : zz_D zy_setLayer_14_68 15 (.getfield 115) 3 18 := ⟨by decide +kernel, rfl⟩
theorem zf_Md_115 : mm_Fl "TensorForgeModel" 115 11 46 (.array .int) true := ⟨R_Md, F_Md, 69, t_Md, rfl, i_Md, by decide, mm_tb_1 1657 (by decide +kernel) rfl, rfl, t_Md_ok, n_Md, rfl, by decide +kernel⟩
theorem zd_14_68_18 : zz_D zy_setLayer_14_68 18 (.iload_n 1) 1 19 := ⟨by decide +kernel, rfl⟩
theorem zd_14_68_19 : zz_D zy_setLayer_14_68 19 (.iload 4) 2 21 := ⟨by decide +kernel, rfl⟩
theorem zd_14_68_21 : zz_D zy_setLayer_14_68 21 (.iastore) 1 22 := ⟨by decide +kernel, rfl⟩
theorem zd_14_68_22 : zz_D zy_setLayer_14_68 22 (.aload_n 0) 1 23 := ⟨by decide +kernel, rfl⟩
theorem zd_14_68_23 : zz_D zy_setLayer_14_68 23 (.getfield 118) 3 26 := ⟨by decide +kernel, rfl⟩
theorem zf_Md_118 : mm_Fl "TensorForgeModel" 118 11 47 (.array .int) true := ⟨R_Md, F_Md, 69, t_Md, rfl, i_Md, by decide, mm_tb_1 1658 (by decide +kernel) rfl, rfl, t_Md_ok, n_Md, rfl, by decide +kernel⟩
theorem zd_14_68_26 : zz_D zy_setLayer_14_68 26 (.iload_n 1) 1 27 := ⟨by decide +kernel, rfl⟩
theorem zd_14_68_27 : zz_D zy_setLayer_14_68 27 (.iload 5) 2 29 := ⟨by decide +kernel, rfl⟩
theorem zd_14_68_29 : zz_D zy_setLayer_14_68 29 (.iastore) 1 30 := ⟨by decide +kernel, rfl⟩
theorem zd_14_68_30 : zz_D zy_setLayer_14_68 30 (.aload_n 0) 1 31 := ⟨by decide +kernel, rfl⟩
theorem zd_14_68_31 : zz_D zy_setLayer_14_68 31 (.getfield 121) 3 34 := ⟨by decide +kernel, rfl⟩
theorem zf_Md_121 : mm_Fl "TensorForgeModel" 121 11 48 (.array .int) true := ⟨R_Md, F_Md, 69, t_Md, rfl, i_Md, by decide, mm_tb_1 1659 (by decide +kernel) rfl, rfl, t_Md_ok, n_Md, rfl, by decide +kernel⟩
theorem zd_14_68_34 : zz_D zy_setLayer_14_68 34 (.iload_n 1) 1 35 := ⟨by decide +kernel, rfl⟩
theorem zd_14_68_35 : zz_D zy_setLayer_14_68 35 (.iload 6) 2 37 := ⟨by decide +kernel, rfl⟩
theorem zd_14_68_37 : zz_D zy_setLayer_14_68 37 (.iastore) 1 38 := ⟨by decide +kernel, rfl⟩
theorem zd_14_68_38 : zz_D zy_setLayer_14_68 38 (.return_) 1 39 := ⟨by decide +kernel, rfl⟩

-- TensorForgeModel sayCode (J)V
abbrev zr_sayCode_14_106 : Room := { frames := 1, cells := 0, slots := 0, locals := 14 }
def zp_sayCode_14_106 (p0 : Int) (S0 : zz_S) : zz_S → Prop := fun S => zz_G S ∧ zz_fr [(1079, 34)] [1101] (fun _ _ => False) S0 S ∧ (S 1079 34 ≤ S0 1079 34 + 9) ∧ (S 1079 34 ≥ S0 1079 34) ∧ (∀ (u w : List Int), zs_P (S0 1079 34) (S0 1101) u → zs_cw w p0 → zs_P (S 1079 34) (S 1101) (zs_tk u w))
theorem zb_sayCode_14_106_16 {g : mm_G} {l : Launch} (p0 : Int) (S0 : zz_S) (n : Nat) (hn : zz_end ≤ n) (G_S0 : zz_G S0) (hp0 : (-9223372036854775808) ≤ p0 ∧ p0 ≤ 9223372036854775807) (hq : S0 1079 34 ≤ 190) (hc : 0 ≤ p0 ∧ p0 < 1099511627776) (x3 : Int) (S : zz_S) (G_S : zz_G S) (F_S : zz_fr [(1079, 34)] [1101] (fun _ _ => False) S0 S) (i16_0 : 0 ≤ x3 ∧ x3 ≤ 1099511627775) (i16_1 : S 1079 34 ≥ S0 1079 34) (i16_2 : (S 1079 34 ≤ S0 1079 34 + 1 ∧ x3 < 1099511627776) ∨ (S 1079 34 ≤ S0 1079 34 + 2 ∧ x3 < 34359738368) ∨ (S 1079 34 ≤ S0 1079 34 + 3 ∧ x3 < 1073741824) ∨ (S 1079 34 ≤ S0 1079 34 + 4 ∧ x3 < 33554432) ∨ (S 1079 34 ≤ S0 1079 34 + 5 ∧ x3 < 1048576) ∨ (S 1079 34 ≤ S0 1079 34 + 6 ∧ x3 < 32768) ∨ (S 1079 34 ≤ S0 1079 34 + 7 ∧ x3 < 1024) ∨ (S 1079 34 ≤ S0 1079 34 + 8 ∧ x3 < 32) ∨ (S 1079 34 ≤ S0 1079 34 + 9 ∧ x3 < 1)) (i16_3 : ∀ (u w : List Int), zs_P (S0 1079 34) (S0 1101) u → zs_cw w p0 → zs_CI (S 1079 34) (S 1101) (zs_pre u) w x3) (R : Nat) (hR : x3.toNat = R) (k16 : ∀ (x3 : Int) (S : zz_S), zz_G S → zz_fr [(1079, 34)] [1101] (fun _ _ => False) S0 S → (0 ≤ x3 ∧ x3 ≤ 1099511627775) → (S 1079 34 ≥ S0 1079 34) → ((S 1079 34 ≤ S0 1079 34 + 1 ∧ x3 < 1099511627776) ∨ (S 1079 34 ≤ S0 1079 34 + 2 ∧ x3 < 34359738368) ∨ (S 1079 34 ≤ S0 1079 34 + 3 ∧ x3 < 1073741824) ∨ (S 1079 34 ≤ S0 1079 34 + 4 ∧ x3 < 33554432) ∨ (S 1079 34 ≤ S0 1079 34 + 5 ∧ x3 < 1048576) ∨ (S 1079 34 ≤ S0 1079 34 + 6 ∧ x3 < 32768) ∨ (S 1079 34 ≤ S0 1079 34 + 7 ∧ x3 < 1024) ∨ (S 1079 34 ≤ S0 1079 34 + 8 ∧ x3 < 32) ∨ (S 1079 34 ≤ S0 1079 34 + 9 ∧ x3 < 1)) → (∀ (u w : List Int), zs_P (S0 1079 34) (S0 1101) u → zs_cw w p0 → zs_CI (S 1079 34) (S 1101) (zs_pre u) w x3) → x3.toNat < R → zz_E g l zy_sayCode_14_106 zr_sayCode_14_106 (zz_QV n (zp_sayCode_14_106 p0 S0)) S n 16 [some (.ref 1079), none, none, some (zl x3)] [] 0 0) : zz_E g l zy_sayCode_14_106 zr_sayCode_14_106 (zz_QV n (zp_sayCode_14_106 p0 S0)) S n 16 [some (.ref 1079), none, none, some (zl x3)] [] 0 0 := by
  refine zz_lload_n (x := x3) rfl zd_14_106_16 ?_
  refine zz_lconst (z := 0) (by decide) zd_14_106_17 ?_
  refine zz_lcmp (by omega) (by omega) zd_14_106_18 (fun v8 hv8 => ?_)
  refine zz_if_le (by omega) zd_14_106_19 (fun c9 => ?_) (fun c9 => ?_)
  · have g10 := zz_G.r G_S 1079 34 0 200 rfl rfl
    exact zz_vret zd_14_106_42 rfl (Nat.zero_le _) (Nat.zero_le _) ⟨_, rfl, G_S, F_S, by omega, by omega, (fun u w h hw => zs_CIe (i16_3 u w h hw) (by omega))⟩
  · refine zz_aload_n (x := 1079) rfl zd_14_106_22 ?_
    refine zz_ldc2 (z := 96) zq_Md_391 (by decide) zd_14_106_23 ?_
    refine zz_lload_n (x := x3) rfl zd_14_106_26 ?_
    refine zz_ldc2 (z := 31) zq_Md_357 (by decide) zd_14_106_27 ?_
    refine zz_land zd_14_106_30 (fun v11 hv11 ev11 => ?_)
    have av11 := zz_band64 (by omega) (by omega) ev11
    refine zz_ladd zd_14_106_31 ?_
    have g12 := zz_G.r G_S 1079 34 0 200 rfl rfl
    refine zz_callVV [zl (96 + v11)] zd_14_106_32 zk_Md_388 zT_1079 (zz_ltn hn rfl) rfl rfl ⟨Nat.le_of_ble_eq_true rfl, Nat.le_of_ble_eq_true rfl⟩ ⟨rfl, rfl⟩ (Nat.zero_le _) (Nat.zero_le _) (zc_say_14_57 (96 + v11) S n hn G_S (by omega) (by omega)) (fun S13 hP => ?_)
    obtain ⟨G_S13, fS13, o15, o16⟩ := hP
    have F_S13 := zz_fr.trans F_S fS13 rfl zz_nv
    refine zz_lload_n (x := x3) rfl zd_14_106_35 ?_
    refine zz_iconst zd_14_106_36 ?_
    refine zz_lshr zd_14_106_37 (fun v17 hv17 ev17 => ?_)
    have av17 := zz_lsr5 (by omega) ev17
    refine zz_lstore_n [some (.ref 1079), none, none, some (zl v17), none] zd_14_106_38 (by decide) rfl ?_
    refine zz_goto zd_14_106_39 ?_
    have g18 := zz_G.r G_S13 1079 34 0 200 rfl rfl
    refine zz_less (ls1 := [some (.ref 1079), none, none, some (zl v17)]) ⟨rfl, ⟨rfl, trivial⟩⟩ ?_
    exact k16 v17 S13 G_S13 F_S13 (by omega) (by omega) (by omega) (fun u w h hw => zs_CIs (i16_3 u w h hw) (by omega) (by have z9 := zt_and31 (x := x3) (by omega) ev11; omega) av17 (fun l9 h9 => o16 l9 h9 (by omega))) (by omega)
theorem zi_sayCode_14_106 {g : mm_G} {l : Launch} (p0 : Int) (S0 : zz_S) (n : Nat) (hn : zz_end ≤ n) (G_S0 : zz_G S0) (hp0 : (-9223372036854775808) ≤ p0 ∧ p0 ≤ 9223372036854775807) (hq : S0 1079 34 ≤ 190) (hc : 0 ≤ p0 ∧ p0 < 1099511627776) : ∀ N : Nat, (∀ (x3 : Int) (S : zz_S), zz_G S → zz_fr [(1079, 34)] [1101] (fun _ _ => False) S0 S → (0 ≤ x3 ∧ x3 ≤ 1099511627775) → (S 1079 34 ≥ S0 1079 34) → ((S 1079 34 ≤ S0 1079 34 + 1 ∧ x3 < 1099511627776) ∨ (S 1079 34 ≤ S0 1079 34 + 2 ∧ x3 < 34359738368) ∨ (S 1079 34 ≤ S0 1079 34 + 3 ∧ x3 < 1073741824) ∨ (S 1079 34 ≤ S0 1079 34 + 4 ∧ x3 < 33554432) ∨ (S 1079 34 ≤ S0 1079 34 + 5 ∧ x3 < 1048576) ∨ (S 1079 34 ≤ S0 1079 34 + 6 ∧ x3 < 32768) ∨ (S 1079 34 ≤ S0 1079 34 + 7 ∧ x3 < 1024) ∨ (S 1079 34 ≤ S0 1079 34 + 8 ∧ x3 < 32) ∨ (S 1079 34 ≤ S0 1079 34 + 9 ∧ x3 < 1)) → (∀ (u w : List Int), zs_P (S0 1079 34) (S0 1101) u → zs_cw w p0 → zs_CI (S 1079 34) (S 1101) (zs_pre u) w x3) → x3.toNat < N → zz_E g l zy_sayCode_14_106 zr_sayCode_14_106 (zz_QV n (zp_sayCode_14_106 p0 S0)) S n 16 [some (.ref 1079), none, none, some (zl x3)] [] 0 0) := by
  intro N
  induction N with
  | zero => exact fun x3 S _ _ _ _ _ _ h => absurd h (Nat.not_lt_zero _)
  | succ N ih =>
    exact fun x3 S a b j0 j1 j2 j3 hR => zb_sayCode_14_106_16 p0 S0 n hn G_S0 hp0 hq hc x3 S a b j0 j1 j2 j3 _ rfl (fun x3 S a b j0 j1 j2 j3 h => ih x3 S a b j0 j1 j2 j3 (Nat.lt_of_lt_of_le h (Nat.le_of_lt_succ hR)))
theorem zc_sayCode_14_106 {g : mm_G} {l : Launch} (p0 : Int) (S0 : zz_S) (n : Nat) (hn : zz_end ≤ n) (G_S0 : zz_G S0) (hp0 : (-9223372036854775808) ≤ p0 ∧ p0 ≤ 9223372036854775807) (hq : S0 1079 34 ≤ 190) (hc : 0 ≤ p0 ∧ p0 < 1099511627776) : mm_Met g l zy_sayCode_14_106 zr_sayCode_14_106 [.ref 1079, zl p0] (zz_M S0 n) n (zz_QV n (zp_sayCode_14_106 p0 S0)) := by
  refine zz_enter (by decide) (Nat.le_of_ble_eq_true rfl) (zz_less (ls1 := [some (.ref 1079), some (zl p0), none]) ⟨rfl, ⟨rfl, trivial⟩⟩ ?_)
  have F_S0 : zz_fr [(1079, 34)] [1101] (fun _ _ => False) S0 S0 := zz_fr.refl
  have k16 : ∀ (x3 : Int) (S : zz_S), zz_G S → zz_fr [(1079, 34)] [1101] (fun _ _ => False) S0 S → (0 ≤ x3 ∧ x3 ≤ 1099511627775) → (S 1079 34 ≥ S0 1079 34) → ((S 1079 34 ≤ S0 1079 34 + 1 ∧ x3 < 1099511627776) ∨ (S 1079 34 ≤ S0 1079 34 + 2 ∧ x3 < 34359738368) ∨ (S 1079 34 ≤ S0 1079 34 + 3 ∧ x3 < 1073741824) ∨ (S 1079 34 ≤ S0 1079 34 + 4 ∧ x3 < 33554432) ∨ (S 1079 34 ≤ S0 1079 34 + 5 ∧ x3 < 1048576) ∨ (S 1079 34 ≤ S0 1079 34 + 6 ∧ x3 < 32768) ∨ (S 1079 34 ≤ S0 1079 34 + 7 ∧ x3 < 1024) ∨ (S 1079 34 ≤ S0 1079 34 + 8 ∧ x3 < 32) ∨ (S 1079 34 ≤ S0 1079 34 + 9 ∧ x3 < 1)) → (∀ (u w : List Int), zs_P (S0 1079 34) (S0 1101) u → zs_cw w p0 → zs_CI (S 1079 34) (S 1101) (zs_pre u) w x3) → zz_E g l zy_sayCode_14_106 zr_sayCode_14_106 (zz_QV n (zp_sayCode_14_106 p0 S0)) S n 16 [some (.ref 1079), none, none, some (zl x3)] [] 0 0 := fun x3 S a b j0 j1 j2 j3 => (zi_sayCode_14_106 (g := g) (l := l) p0 S0 n hn G_S0 hp0 hq hc _) x3 S a b j0 j1 j2 j3 (Nat.lt_succ_self _)
  refine zz_aload_n (x := 1079) rfl zd_14_106_0 ?_
  have g1 := zz_G.r G_S0 1079 34 0 200 rfl rfl
  refine zz_geti (z := S0 1079 34) zd_14_106_1 zf_Md_385 zT_1079 rfl (zz_ltn hn rfl) rfl ?_
  refine zz_if_le (by omega) zd_14_106_4 (fun c2 => ?_) (fun c2 => ?_)
  · refine zz_lload_n (x := p0) rfl zd_14_106_14 ?_
    refine zz_lstore_n [some (.ref 1079), some (zl p0), none, some (zl p0), none] zd_14_106_15 (by decide) rfl ?_
    refine zz_less (ls1 := [some (.ref 1079), none, none, some (zl p0)]) ⟨rfl, ⟨rfl, trivial⟩⟩ ?_
    exact k16 p0 S0 G_S0 F_S0 (by omega) (by omega) (by omega) (fun u w h hw => zs_CI0 (zs_preZ h (by omega)) hw)
  · refine zz_aload_n (x := 1079) rfl zd_14_106_7 ?_
    refine zz_ldc2 (z := 32) zq_Md_327 (by decide) zd_14_106_8 ?_
    refine zz_callVV [zl 32] zd_14_106_11 zk_Md_388 zT_1079 (zz_ltn hn rfl) rfl rfl ⟨Nat.le_of_ble_eq_true rfl, Nat.le_of_ble_eq_true rfl⟩ ⟨rfl, rfl⟩ (Nat.zero_le _) (Nat.zero_le _) (zc_say_14_57 32 S0 n hn G_S0 (by omega) (by omega)) (fun S3 hP => ?_)
    obtain ⟨G_S3, fS3, o5, o6⟩ := hP
    have F_S3 := zz_fr.trans F_S0 fS3 rfl zz_nv
    refine zz_lload_n (x := p0) rfl zd_14_106_14 ?_
    refine zz_lstore_n [some (.ref 1079), some (zl p0), none, some (zl p0), none] zd_14_106_15 (by decide) rfl ?_
    have g7 := zz_G.r G_S3 1079 34 0 200 rfl rfl
    refine zz_less (ls1 := [some (.ref 1079), none, none, some (zl p0)]) ⟨rfl, ⟨rfl, trivial⟩⟩ ?_
    exact k16 p0 S3 G_S3 F_S3 (by omega) (by omega) (by omega) (fun u w h hw => zs_CI0 (zs_preA h (by omega) (o6 u h (by decide))) hw)
abbrev zy_sayCount_14_107 : mm_Y := (⟨"TensorForgeModel", "sayCount", "(I)V"⟩, prog_14_method_107_code, 2, none)
theorem zyw_sayCount_14_107 : mm_Yw zy_sayCount_14_107 1 := ⟨mm_tb_1 2268 (by decide +kernel) rfl, mm_tb_1 12 (by decide +kernel) rfl, ⟨by decide, by decide⟩, by decide +kernel⟩
theorem zg_14_107_0 : zq_at zy_sayCount_14_107.2.1 0 42 ∧ zq_at zy_sayCount_14_107.2.1 1 20 ∧ zq_at zy_sayCount_14_107.2.1 2 1 ∧ zq_at zy_sayCount_14_107.2.1 3 71 ∧ zq_at zy_sayCount_14_107.2.1 4 182 ∧ zq_at zy_sayCount_14_107.2.1 5 1 ∧ zq_at zy_sayCount_14_107.2.1 6 132 ∧ zq_at zy_sayCount_14_107.2.1 7 42 ∧ zq_at zy_sayCount_14_107.2.1 8 27 ∧ zq_at zy_sayCount_14_107.2.1 9 182 ∧ zq_at zy_sayCount_14_107.2.1 10 1 ∧ zq_at zy_sayCount_14_107.2.1 11 140 ∧ zq_at zy_sayCount_14_107.2.1 12 177 := by decide +kernel
theorem zd_14_107_0 : zz_D zy_sayCount_14_107 0 (.aload_n 0) 1 1 := ⟨zq_42 zg_14_107_0.1, rfl⟩
theorem zd_14_107_1 : zz_D zy_sayCount_14_107 1 (.ldc2_w 327) 3 4 := ⟨zq_20 zg_14_107_0.2.1 zg_14_107_0.2.2.1 zg_14_107_0.2.2.2.1 rfl, rfl⟩
theorem zd_14_107_4 : zz_D zy_sayCount_14_107 4 (.invokevirtual 388) 3 7 := ⟨zq_182 zg_14_107_0.2.2.2.2.1 zg_14_107_0.2.2.2.2.2.1 zg_14_107_0.2.2.2.2.2.2.1 rfl, rfl⟩
theorem zd_14_107_7 : zz_D zy_sayCount_14_107 7 (.aload_n 0) 1 8 := ⟨zq_42 zg_14_107_0.2.2.2.2.2.2.2.1, rfl⟩
theorem zd_14_107_8 : zz_D zy_sayCount_14_107 8 (.iload_n 1) 1 9 := ⟨zq_27 zg_14_107_0.2.2.2.2.2.2.2.2.1, rfl⟩
theorem zd_14_107_9 : zz_D zy_sayCount_14_107 9 (.invokevirtual 396) 3 12 := ⟨zq_182 zg_14_107_0.2.2.2.2.2.2.2.2.2.1 zg_14_107_0.2.2.2.2.2.2.2.2.2.2.1 zg_14_107_0.2.2.2.2.2.2.2.2.2.2.2.1 rfl, rfl⟩
theorem zd_14_107_12 : zz_D zy_sayCount_14_107 12 (.return_) 1 13 := ⟨zq_177 zg_14_107_0.2.2.2.2.2.2.2.2.2.2.2.2, rfl⟩
-- TensorForgeModel sayCount (I)V
abbrev zr_sayCount_14_107 : Room := { frames := 2, cells := 0, slots := 0, locals := 28 }
def zp_sayCount_14_107 (p0 : Int) (S0 : zz_S) : zz_S → Prop := fun S => zz_G S ∧ zz_fr [(1079, 34)] [1101] (fun _ _ => False) S0 S ∧ (S 1079 34 ≤ S0 1079 34 + 5) ∧ (S 1079 34 ≥ S0 1079 34) ∧ (∀ (u : List Int), zs_P (S0 1079 34) (S0 1101) u → 0 ≤ p0 → zs_P (S 1079 34) (S 1101) (zs_num u p0))
theorem zc_sayCount_14_107 {g : mm_G} {l : Launch} (p0 : Int) (S0 : zz_S) (n : Nat) (hn : zz_end ≤ n) (G_S0 : zz_G S0) (hp0 : (-2147483648) ≤ p0 ∧ p0 ≤ 2147483647) (hq : S0 1079 34 ≤ 190) : mm_Met g l zy_sayCount_14_107 zr_sayCount_14_107 [.ref 1079, zi p0] (zz_M S0 n) n (zz_QV n (zp_sayCount_14_107 p0 S0)) := by
  refine zz_enter (by decide) (Nat.le_of_ble_eq_true rfl) (zz_less (ls1 := [some (.ref 1079), some (zi p0)]) ⟨rfl, ⟨rfl, trivial⟩⟩ ?_)
  have F_S0 : zz_fr [(1079, 34)] [1101] (fun _ _ => False) S0 S0 := zz_fr.refl
  refine zz_aload_n (x := 1079) rfl zd_14_107_0 ?_
  refine zz_ldc2 (z := 32) zq_Md_327 (by decide) zd_14_107_1 ?_
  have g1 := zz_G.r G_S0 1079 34 0 200 rfl rfl
  refine zz_callVV [zl 32] zd_14_107_4 zk_Md_388 zT_1079 (zz_ltn hn rfl) rfl rfl ⟨Nat.le_of_ble_eq_true rfl, Nat.le_of_ble_eq_true rfl⟩ ⟨rfl, rfl⟩ (Nat.zero_le _) (Nat.zero_le _) (zc_say_14_57 32 S0 n hn G_S0 (by omega) (by omega)) (fun S2 hP => ?_)
  obtain ⟨G_S2, fS2, o4, o5⟩ := hP
  have F_S2 := zz_fr.trans F_S0 fS2 rfl zz_nv
  refine zz_aload_n (x := 1079) rfl zd_14_107_7 ?_
  refine zz_iload_n (x := p0) rfl zd_14_107_8 ?_
  have g6 := zz_G.r G_S2 1079 34 0 200 rfl rfl
  refine zz_callVV [zi p0] zd_14_107_9 zk_Md_396 zT_1079 (zz_ltn hn rfl) rfl rfl ⟨Nat.le_of_ble_eq_true rfl, Nat.le_of_ble_eq_true rfl⟩ ⟨rfl, rfl⟩ (Nat.zero_le _) (Nat.zero_le _) (zc_sayNumber_14_59 p0 S2 n hn G_S2 (by omega) (by omega)) (fun S7 hP => ?_)
  obtain ⟨G_S7, fS7, o9, o10, o11⟩ := hP
  have F_S7 := zz_fr.trans F_S2 fS7 rfl zz_nv
  have g12 := zz_G.r G_S7 1079 34 0 200 rfl rfl
  exact zz_vret zd_14_107_12 rfl (Nat.zero_le _) (Nat.zero_le _) ⟨_, rfl, G_S7, F_S7, by omega, by omega, (fun u h hp => o11 _ (o5 u h (by decide)) hp)⟩
abbrev zy_sayLayer_14_108 : mm_Y := (⟨"TensorForgeModel", "sayLayer", "(I)V"⟩, prog_14_method_108_code, 4, none)
theorem zyw_sayLayer_14_108 : mm_Yw zy_sayLayer_14_108 1 := ⟨mm_tb_1 2272 (by decide +kernel) rfl, mm_tb_1 12 (by decide +kernel) rfl, ⟨by decide, by decide⟩, by decide +kernel⟩
theorem zk_Md_604 : mm_Vl "TensorForgeModel" 604 11 1 zy_sayCode_14_106 := ⟨zyw_sayCode_14_106, (R_Md, F_Md, 69), rfl, mm_tb_1 2261 (by decide +kernel) rfl, mm_tb_1 2263 (by decide +kernel) rfl, mm_tb_s 152 (by decide +kernel) rfl⟩
theorem zk_Md_607 : mm_Vl "TensorForgeModel" 607 11 1 zy_sayCount_14_107 := ⟨zyw_sayCount_14_107, (R_Md, F_Md, 69), rfl, mm_tb_1 2265 (by decide +kernel) rfl, mm_tb_1 2267 (by decide +kernel) rfl, mm_tb_s 153 (by decide +kernel) rfl⟩
theorem zg_14_108_0 : zq_at zy_sayLayer_14_108.2.1 0 42 ∧ zq_at zy_sayLayer_14_108.2.1 1 180 ∧ zq_at zy_sayLayer_14_108.2.1 2 0 ∧ zq_at zy_sayLayer_14_108.2.1 3 100 ∧ zq_at zy_sayLayer_14_108.2.1 4 27 ∧ zq_at zy_sayLayer_14_108.2.1 5 46 ∧ zq_at zy_sayLayer_14_108.2.1 6 154 ∧ zq_at zy_sayLayer_14_108.2.1 7 0 ∧ zq_at zy_sayLayer_14_108.2.1 8 7 ∧ zq_at zy_sayLayer_14_108.2.1 13 3 ∧ zq_at zy_sayLayer_14_108.2.1 14 61 ∧ zq_at zy_sayLayer_14_108.2.1 15 42 ∧ zq_at zy_sayLayer_14_108.2.1 16 180 ∧ zq_at zy_sayLayer_14_108.2.1 17 0 ∧ zq_at zy_sayLayer_14_108.2.1 18 100 ∧ zq_at zy_sayLayer_14_108.2.1 19 27 ∧ zq_at zy_sayLayer_14_108.2.1 20 46 ∧ zq_at zy_sayLayer_14_108.2.1 21 5 ∧ zq_at zy_sayLayer_14_108.2.1 22 160 ∧ zq_at zy_sayLayer_14_108.2.1 23 0 ∧ zq_at zy_sayLayer_14_108.2.1 24 7 ∧ zq_at zy_sayLayer_14_108.2.1 29 3 ∧ zq_at zy_sayLayer_14_108.2.1 30 62 ∧ zq_at zy_sayLayer_14_108.2.1 31 42 := by decide +kernel
theorem zd_14_108_0 : zz_D zy_sayLayer_14_108 0 (.aload_n 0) 1 1 := ⟨zq_42 zg_14_108_0.1, rfl⟩
theorem zd_14_108_1 : zz_D zy_sayLayer_14_108 1 (.getfield 100) 3 4 := ⟨zq_180 zg_14_108_0.2.1 zg_14_108_0.2.2.1 zg_14_108_0.2.2.2.1 rfl, rfl⟩
theorem zd_14_108_4 : zz_D zy_sayLayer_14_108 4 (.iload_n 1) 1 5 := ⟨zq_27 zg_14_108_0.2.2.2.2.1, rfl⟩
theorem zd_14_108_5 : zz_D zy_sayLayer_14_108 5 (.iaload) 1 6 := ⟨zq_46 zg_14_108_0.2.2.2.2.2.1, rfl⟩
theorem zd_14_108_6 : zz_B zy_sayLayer_14_108 6 (Instr.ifCond .ne) 13 9 := ⟨7, zq_154 zg_14_108_0.2.2.2.2.2.2.1 zg_14_108_0.2.2.2.2.2.2.2.1 zg_14_108_0.2.2.2.2.2.2.2.2.1 (by decide), rfl, rfl⟩
theorem zd_14_108_13 : zz_D zy_sayLayer_14_108 13 (.iconst 0) 1 14 := ⟨zq_3 zg_14_108_0.2.2.2.2.2.2.2.2.2.1, rfl⟩
theorem zd_14_108_14 : zz_D zy_sayLayer_14_108 14 (.istore_n 2) 1 15 := ⟨zq_61 zg_14_108_0.2.2.2.2.2.2.2.2.2.2.1, rfl⟩
theorem zd_14_108_15 : zz_D zy_sayLayer_14_108 15 (.aload_n 0) 1 16 := ⟨zq_42 zg_14_108_0.2.2.2.2.2.2.2.2.2.2.2.1, rfl⟩
theorem zd_14_108_16 : zz_D zy_sayLayer_14_108 16 (.getfield 100) 3 19 := ⟨zq_180 zg_14_108_0.2.2.2.2.2.2.2.2.2.2.2.2.1 zg_14_108_0.2.2.2.2.2.2.2.2.2.2.2.2.2.1 zg_14_108_0.2.2.2.2.2.2.2.2.2.2.2.2.2.2.1 rfl, rfl⟩
theorem zd_14_108_19 : zz_D zy_sayLayer_14_108 19 (.iload_n 1) 1 20 := ⟨zq_27 zg_14_108_0.2.2.2.2.2.2.2.2.2.2.2.2.2.2.2.1, rfl⟩
theorem zd_14_108_20 : zz_D zy_sayLayer_14_108 20 (.iaload) 1 21 := ⟨zq_46 zg_14_108_0.2.2.2.2.2.2.2.2.2.2.2.2.2.2.2.2.1, rfl⟩
theorem zd_14_108_21 : zz_D zy_sayLayer_14_108 21 (.iconst 2) 1 22 := ⟨zq_5 zg_14_108_0.2.2.2.2.2.2.2.2.2.2.2.2.2.2.2.2.2.1, rfl⟩
theorem zd_14_108_22 : zz_B zy_sayLayer_14_108 22 (Instr.if_icmp .ne) 29 25 := ⟨7, zq_160 zg_14_108_0.2.2.2.2.2.2.2.2.2.2.2.2.2.2.2.2.2.2.1 zg_14_108_0.2.2.2.2.2.2.2.2.2.2.2.2.2.2.2.2.2.2.2.1 zg_14_108_0.2.2.2.2.2.2.2.2.2.2.2.2.2.2.2.2.2.2.2.2.1 (by decide), rfl, rfl⟩
theorem zd_14_108_29 : zz_D zy_sayLayer_14_108 29 (.iconst 0) 1 30 := ⟨zq_3 zg_14_108_0.2.2.2.2.2.2.2.2.2.2.2.2.2.2.2.2.2.2.2.2.2.1, rfl⟩
theorem zd_14_108_30 : zz_D zy_sayLayer_14_108 30 (.istore_n 3) 1 31 := ⟨zq_62 zg_14_108_0.2.2.2.2.2.2.2.2.2.2.2.2.2.2.2.2.2.2.2.2.2.2.1, rfl⟩
theorem zd_14_108_31 : zz_D zy_sayLayer_14_108 31 (.aload_n 0) 1 32 := ⟨zq_42 zg_14_108_0.2.2.2.2.2.2.2.2.2.2.2.2.2.2.2.2.2.2.2.2.2.2.2, rfl⟩
theorem zg_14_108_32 : zq_at zy_sayLayer_14_108.2.1 32 28 ∧ zq_at zy_sayLayer_14_108.2.1 33 153 ∧ zq_at zy_sayLayer_14_108.2.1 34 0 ∧ zq_at zy_sayLayer_14_108.2.1 35 9 ∧ zq_at zy_sayLayer_14_108.2.1 42 29 ∧ zq_at zy_sayLayer_14_108.2.1 43 153 ∧ zq_at zy_sayLayer_14_108.2.1 44 0 ∧ zq_at zy_sayLayer_14_108.2.1 45 9 ∧ zq_at zy_sayLayer_14_108.2.1 52 20 ∧ zq_at zy_sayLayer_14_108.2.1 53 2 ∧ zq_at zy_sayLayer_14_108.2.1 54 24 ∧ zq_at zy_sayLayer_14_108.2.1 55 182 ∧ zq_at zy_sayLayer_14_108.2.1 56 2 ∧ zq_at zy_sayLayer_14_108.2.1 57 92 ∧ zq_at zy_sayLayer_14_108.2.1 58 42 ∧ zq_at zy_sayLayer_14_108.2.1 59 42 ∧ zq_at zy_sayLayer_14_108.2.1 60 180 ∧ zq_at zy_sayLayer_14_108.2.1 61 0 ∧ zq_at zy_sayLayer_14_108.2.1 62 103 ∧ zq_at zy_sayLayer_14_108.2.1 63 27 ∧ zq_at zy_sayLayer_14_108.2.1 64 46 ∧ zq_at zy_sayLayer_14_108.2.1 65 182 ∧ zq_at zy_sayLayer_14_108.2.1 66 2 ∧ zq_at zy_sayLayer_14_108.2.1 67 95 := by decide +kernel
theorem zd_14_108_32 : zz_D zy_sayLayer_14_108 32 (.iload_n 2) 1 33 := ⟨zq_28 zg_14_108_32.1, rfl⟩
theorem zd_14_108_33 : zz_B zy_sayLayer_14_108 33 (Instr.ifCond .eq) 42 36 := ⟨9, zq_153 zg_14_108_32.2.1 zg_14_108_32.2.2.1 zg_14_108_32.2.2.2.1 (by decide), rfl, rfl⟩
theorem zd_14_108_42 : zz_D zy_sayLayer_14_108 42 (.iload_n 3) 1 43 := ⟨zq_29 zg_14_108_32.2.2.2.2.1, rfl⟩
theorem zd_14_108_43 : zz_B zy_sayLayer_14_108 43 (Instr.ifCond .eq) 52 46 := ⟨9, zq_153 zg_14_108_32.2.2.2.2.2.1 zg_14_108_32.2.2.2.2.2.2.1 zg_14_108_32.2.2.2.2.2.2.2.1 (by decide), rfl, rfl⟩
theorem zd_14_108_52 : zz_D zy_sayLayer_14_108 52 (.ldc2_w 536) 3 55 := ⟨zq_20 zg_14_108_32.2.2.2.2.2.2.2.2.1 zg_14_108_32.2.2.2.2.2.2.2.2.2.1 zg_14_108_32.2.2.2.2.2.2.2.2.2.2.1 rfl, rfl⟩
theorem zd_14_108_55 : zz_D zy_sayLayer_14_108 55 (.invokevirtual 604) 3 58 := ⟨zq_182 zg_14_108_32.2.2.2.2.2.2.2.2.2.2.2.1 zg_14_108_32.2.2.2.2.2.2.2.2.2.2.2.2.1 zg_14_108_32.2.2.2.2.2.2.2.2.2.2.2.2.2.1 rfl, rfl⟩
theorem zd_14_108_58 : zz_D zy_sayLayer_14_108 58 (.aload_n 0) 1 59 := ⟨zq_42 zg_14_108_32.2.2.2.2.2.2.2.2.2.2.2.2.2.2.1, rfl⟩
theorem zd_14_108_59 : zz_D zy_sayLayer_14_108 59 (.aload_n 0) 1 60 := ⟨zq_42 zg_14_108_32.2.2.2.2.2.2.2.2.2.2.2.2.2.2.2.1, rfl⟩
theorem zd_14_108_60 : zz_D zy_sayLayer_14_108 60 (.getfield 103) 3 63 := ⟨zq_180 zg_14_108_32.2.2.2.2.2.2.2.2.2.2.2.2.2.2.2.2.1 zg_14_108_32.2.2.2.2.2.2.2.2.2.2.2.2.2.2.2.2.2.1 zg_14_108_32.2.2.2.2.2.2.2.2.2.2.2.2.2.2.2.2.2.2.1 rfl, rfl⟩
theorem zd_14_108_63 : zz_D zy_sayLayer_14_108 63 (.iload_n 1) 1 64 := ⟨zq_27 zg_14_108_32.2.2.2.2.2.2.2.2.2.2.2.2.2.2.2.2.2.2.2.1, rfl⟩
theorem zd_14_108_64 : zz_D zy_sayLayer_14_108 64 (.iaload) 1 65 := ⟨zq_46 zg_14_108_32.2.2.2.2.2.2.2.2.2.2.2.2.2.2.2.2.2.2.2.2.1, rfl⟩
theorem zd_14_108_65 : zz_D zy_sayLayer_14_108 65 (.invokevirtual 607) 3 68 := ⟨zq_182 zg_14_108_32.2.2.2.2.2.2.2.2.2.2.2.2.2.2.2.2.2.2.2.2.2.1 zg_14_108_32.2.2.2.2.2.2.2.2.2.2.2.2.2.2.2.2.2.2.2.2.2.2.1 zg_14_108_32.2.2.2.2.2.2.2.2.2.2.2.2.2.2.2.2.2.2.2.2.2.2.2 rfl, rfl⟩
theorem zg_14_108_68 : zq_at zy_sayLayer_14_108.2.1 68 29 ∧ zq_at zy_sayLayer_14_108.2.1 69 153 ∧ zq_at zy_sayLayer_14_108.2.1 70 0 ∧ zq_at zy_sayLayer_14_108.2.1 71 16 ∧ zq_at zy_sayLayer_14_108.2.1 85 42 ∧ zq_at zy_sayLayer_14_108.2.1 86 20 ∧ zq_at zy_sayLayer_14_108.2.1 87 0 ∧ zq_at zy_sayLayer_14_108.2.1 88 165 ∧ zq_at zy_sayLayer_14_108.2.1 89 182 ∧ zq_at zy_sayLayer_14_108.2.1 90 2 ∧ zq_at zy_sayLayer_14_108.2.1 91 92 ∧ zq_at zy_sayLayer_14_108.2.1 92 42 ∧ zq_at zy_sayLayer_14_108.2.1 93 42 ∧ zq_at zy_sayLayer_14_108.2.1 94 180 ∧ zq_at zy_sayLayer_14_108.2.1 95 0 ∧ zq_at zy_sayLayer_14_108.2.1 96 109 ∧ zq_at zy_sayLayer_14_108.2.1 97 27 ∧ zq_at zy_sayLayer_14_108.2.1 98 46 ∧ zq_at zy_sayLayer_14_108.2.1 99 182 ∧ zq_at zy_sayLayer_14_108.2.1 100 2 ∧ zq_at zy_sayLayer_14_108.2.1 101 95 ∧ zq_at zy_sayLayer_14_108.2.1 102 42 := by decide +kernel
theorem zd_14_108_68 : zz_D zy_sayLayer_14_108 68 (.iload_n 3) 1 69 := ⟨zq_29 zg_14_108_68.1, rfl⟩
theorem zd_14_108_69 : zz_B zy_sayLayer_14_108 69 (Instr.ifCond .eq) 85 72 := ⟨16, zq_153 zg_14_108_68.2.1 zg_14_108_68.2.2.1 zg_14_108_68.2.2.2.1 (by decide), rfl, rfl⟩
theorem zd_14_108_85 : zz_D zy_sayLayer_14_108 85 (.aload_n 0) 1 86 := ⟨zq_42 zg_14_108_68.2.2.2.2.1, rfl⟩
theorem zd_14_108_86 : zz_D zy_sayLayer_14_108 86 (.ldc2_w 165) 3 89 := ⟨zq_20 zg_14_108_68.2.2.2.2.2.1 zg_14_108_68.2.2.2.2.2.2.1 zg_14_108_68.2.2.2.2.2.2.2.1 rfl, rfl⟩
theorem zd_14_108_89 : zz_D zy_sayLayer_14_108 89 (.invokevirtual 604) 3 92 := ⟨zq_182 zg_14_108_68.2.2.2.2.2.2.2.2.1 zg_14_108_68.2.2.2.2.2.2.2.2.2.1 zg_14_108_68.2.2.2.2.2.2.2.2.2.2.1 rfl, rfl⟩
theorem zd_14_108_92 : zz_D zy_sayLayer_14_108 92 (.aload_n 0) 1 93 := ⟨zq_42 zg_14_108_68.2.2.2.2.2.2.2.2.2.2.2.1, rfl⟩
theorem zd_14_108_93 : zz_D zy_sayLayer_14_108 93 (.aload_n 0) 1 94 := ⟨zq_42 zg_14_108_68.2.2.2.2.2.2.2.2.2.2.2.2.1, rfl⟩
theorem zd_14_108_94 : zz_D zy_sayLayer_14_108 94 (.getfield 109) 3 97 := ⟨zq_180 zg_14_108_68.2.2.2.2.2.2.2.2.2.2.2.2.2.1 zg_14_108_68.2.2.2.2.2.2.2.2.2.2.2.2.2.2.1 zg_14_108_68.2.2.2.2.2.2.2.2.2.2.2.2.2.2.2.1 rfl, rfl⟩
theorem zd_14_108_97 : zz_D zy_sayLayer_14_108 97 (.iload_n 1) 1 98 := ⟨zq_27 zg_14_108_68.2.2.2.2.2.2.2.2.2.2.2.2.2.2.2.2.1, rfl⟩
theorem zd_14_108_98 : zz_D zy_sayLayer_14_108 98 (.iaload) 1 99 := ⟨zq_46 zg_14_108_68.2.2.2.2.2.2.2.2.2.2.2.2.2.2.2.2.2.1, rfl⟩
theorem zd_14_108_99 : zz_D zy_sayLayer_14_108 99 (.invokevirtual 607) 3 102 := ⟨zq_182 zg_14_108_68.2.2.2.2.2.2.2.2.2.2.2.2.2.2.2.2.2.2.1 zg_14_108_68.2.2.2.2.2.2.2.2.2.2.2.2.2.2.2.2.2.2.2.1 zg_14_108_68.2.2.2.2.2.2.2.2.2.2.2.2.2.2.2.2.2.2.2.2.1 rfl, rfl⟩
theorem zd_14_108_102 : zz_D zy_sayLayer_14_108 102 (.aload_n 0) 1 103 := ⟨zq_42 zg_14_108_68.2.2.2.2.2.2.2.2.2.2.2.2.2.2.2.2.2.2.2.2.2, rfl⟩
theorem zg_14_108_103 : zq_at zy_sayLayer_14_108.2.1 103 20 ∧ zq_at zy_sayLayer_14_108.2.1 104 0 ∧ zq_at zy_sayLayer_14_108.2.1 105 167 ∧ zq_at zy_sayLayer_14_108.2.1 106 182 ∧ zq_at zy_sayLayer_14_108.2.1 107 2 ∧ zq_at zy_sayLayer_14_108.2.1 108 92 ∧ zq_at zy_sayLayer_14_108.2.1 109 42 ∧ zq_at zy_sayLayer_14_108.2.1 110 42 ∧ zq_at zy_sayLayer_14_108.2.1 111 180 ∧ zq_at zy_sayLayer_14_108.2.1 112 0 ∧ zq_at zy_sayLayer_14_108.2.1 113 112 ∧ zq_at zy_sayLayer_14_108.2.1 114 27 ∧ zq_at zy_sayLayer_14_108.2.1 115 46 ∧ zq_at zy_sayLayer_14_108.2.1 116 182 ∧ zq_at zy_sayLayer_14_108.2.1 117 2 ∧ zq_at zy_sayLayer_14_108.2.1 118 95 ∧ zq_at zy_sayLayer_14_108.2.1 119 28 ∧ zq_at zy_sayLayer_14_108.2.1 120 153 ∧ zq_at zy_sayLayer_14_108.2.1 121 0 ∧ zq_at zy_sayLayer_14_108.2.1 122 39 ∧ zq_at zy_sayLayer_14_108.2.1 159 29 ∧ zq_at zy_sayLayer_14_108.2.1 160 154 ∧ zq_at zy_sayLayer_14_108.2.1 161 0 ∧ zq_at zy_sayLayer_14_108.2.1 162 30 := by decide +kernel
theorem zd_14_108_103 : zz_D zy_sayLayer_14_108 103 (.ldc2_w 167) 3 106 := ⟨zq_20 zg_14_108_103.1 zg_14_108_103.2.1 zg_14_108_103.2.2.1 rfl, rfl⟩
theorem zd_14_108_106 : zz_D zy_sayLayer_14_108 106 (.invokevirtual 604) 3 109 := ⟨zq_182 zg_14_108_103.2.2.2.1 zg_14_108_103.2.2.2.2.1 zg_14_108_103.2.2.2.2.2.1 rfl, rfl⟩
theorem zd_14_108_109 : zz_D zy_sayLayer_14_108 109 (.aload_n 0) 1 110 := ⟨zq_42 zg_14_108_103.2.2.2.2.2.2.1, rfl⟩
theorem zd_14_108_110 : zz_D zy_sayLayer_14_108 110 (.aload_n 0) 1 111 := ⟨zq_42 zg_14_108_103.2.2.2.2.2.2.2.1, rfl⟩
theorem zd_14_108_111 : zz_D zy_sayLayer_14_108 111 (.getfield 112) 3 114 := ⟨zq_180 zg_14_108_103.2.2.2.2.2.2.2.2.1 zg_14_108_103.2.2.2.2.2.2.2.2.2.1 zg_14_108_103.2.2.2.2.2.2.2.2.2.2.1 rfl, rfl⟩
theorem zd_14_108_114 : zz_D zy_sayLayer_14_108 114 (.iload_n 1) 1 115 := ⟨zq_27 zg_14_108_103.2.2.2.2.2.2.2.2.2.2.2.1, rfl⟩
theorem zd_14_108_115 : zz_D zy_sayLayer_14_108 115 (.iaload) 1 116 := ⟨zq_46 zg_14_108_103.2.2.2.2.2.2.2.2.2.2.2.2.1, rfl⟩
theorem zd_14_108_116 : zz_D zy_sayLayer_14_108 116 (.invokevirtual 607) 3 119 := ⟨zq_182 zg_14_108_103.2.2.2.2.2.2.2.2.2.2.2.2.2.1 zg_14_108_103.2.2.2.2.2.2.2.2.2.2.2.2.2.2.1 zg_14_108_103.2.2.2.2.2.2.2.2.2.2.2.2.2.2.2.1 rfl, rfl⟩
theorem zd_14_108_119 : zz_D zy_sayLayer_14_108 119 (.iload_n 2) 1 120 := ⟨zq_28 zg_14_108_103.2.2.2.2.2.2.2.2.2.2.2.2.2.2.2.2.1, rfl⟩
theorem zd_14_108_120 : zz_B zy_sayLayer_14_108 120 (Instr.ifCond .eq) 159 123 := ⟨39, zq_153 zg_14_108_103.2.2.2.2.2.2.2.2.2.2.2.2.2.2.2.2.2.1 zg_14_108_103.2.2.2.2.2.2.2.2.2.2.2.2.2.2.2.2.2.2.1 zg_14_108_103.2.2.2.2.2.2.2.2.2.2.2.2.2.2.2.2.2.2.2.1 (by decide), rfl, rfl⟩
theorem zd_14_108_159 : zz_D zy_sayLayer_14_108 159 (.iload_n 3) 1 160 := ⟨zq_29 zg_14_108_103.2.2.2.2.2.2.2.2.2.2.2.2.2.2.2.2.2.2.2.2.1, rfl⟩
theorem zd_14_108_160 : zz_B zy_sayLayer_14_108 160 (Instr.ifCond .ne) 190 163 := ⟨30, zq_154 zg_14_108_103.2.2.2.2.2.2.2.2.2.2.2.2.2.2.2.2.2.2.2.2.2.1 zg_14_108_103.2.2.2.2.2.2.2.2.2.2.2.2.2.2.2.2.2.2.2.2.2.2.1 zg_14_108_103.2.2.2.2.2.2.2.2.2.2.2.2.2.2.2.2.2.2.2.2.2.2.2 (by decide), rfl, rfl⟩
theorem zg_14_108_163 : zq_at zy_sayLayer_14_108.2.1 163 42 ∧ zq_at zy_sayLayer_14_108.2.1 164 180 ∧ zq_at zy_sayLayer_14_108.2.1 165 0 ∧ zq_at zy_sayLayer_14_108.2.1 166 115 ∧ zq_at zy_sayLayer_14_108.2.1 167 27 ∧ zq_at zy_sayLayer_14_108.2.1 168 46 ∧ zq_at zy_sayLayer_14_108.2.1 169 4 ∧ zq_at zy_sayLayer_14_108.2.1 170 164 ∧ zq_at zy_sayLayer_14_108.2.1 171 0 ∧ zq_at zy_sayLayer_14_108.2.1 172 20 ∧ zq_at zy_sayLayer_14_108.2.1 190 28 ∧ zq_at zy_sayLayer_14_108.2.1 191 153 ∧ zq_at zy_sayLayer_14_108.2.1 192 0 ∧ zq_at zy_sayLayer_14_108.2.1 193 29 ∧ zq_at zy_sayLayer_14_108.2.1 220 42 ∧ zq_at zy_sayLayer_14_108.2.1 221 180 ∧ zq_at zy_sayLayer_14_108.2.1 222 0 ∧ zq_at zy_sayLayer_14_108.2.1 223 121 ∧ zq_at zy_sayLayer_14_108.2.1 224 27 ∧ zq_at zy_sayLayer_14_108.2.1 225 46 ∧ zq_at zy_sayLayer_14_108.2.1 226 16 ∧ zq_at zy_sayLayer_14_108.2.1 227 16 ∧ zq_at zy_sayLayer_14_108.2.1 228 112 := by decide +kernel
theorem zd_14_108_163 : zz_D zy_sayLayer_14_108 163 (.aload_n 0) 1 164 := ⟨zq_42 zg_14_108_163.1, rfl⟩
theorem zd_14_108_164 : zz_D zy_sayLayer_14_108 164 (.getfield 115) 3 167 := ⟨zq_180 zg_14_108_163.2.1 zg_14_108_163.2.2.1 zg_14_108_163.2.2.2.1 rfl, rfl⟩
theorem zd_14_108_167 : zz_D zy_sayLayer_14_108 167 (.iload_n 1) 1 168 := ⟨zq_27 zg_14_108_163.2.2.2.2.1, rfl⟩
theorem zd_14_108_168 : zz_D zy_sayLayer_14_108 168 (.iaload) 1 169 := ⟨zq_46 zg_14_108_163.2.2.2.2.2.1, rfl⟩
theorem zd_14_108_169 : zz_D zy_sayLayer_14_108 169 (.iconst 1) 1 170 := ⟨zq_4 zg_14_108_163.2.2.2.2.2.2.1, rfl⟩
theorem zd_14_108_170 : zz_B zy_sayLayer_14_108 170 (Instr.if_icmp .le) 190 173 := ⟨20, zq_164 zg_14_108_163.2.2.2.2.2.2.2.1 zg_14_108_163.2.2.2.2.2.2.2.2.1 zg_14_108_163.2.2.2.2.2.2.2.2.2.1 (by decide), rfl, rfl⟩
theorem zd_14_108_190 : zz_D zy_sayLayer_14_108 190 (.iload_n 2) 1 191 := ⟨zq_28 zg_14_108_163.2.2.2.2.2.2.2.2.2.2.1, rfl⟩
theorem zd_14_108_191 : zz_B zy_sayLayer_14_108 191 (Instr.ifCond .eq) 220 194 := ⟨29, zq_153 zg_14_108_163.2.2.2.2.2.2.2.2.2.2.2.1 zg_14_108_163.2.2.2.2.2.2.2.2.2.2.2.2.1 zg_14_108_163.2.2.2.2.2.2.2.2.2.2.2.2.2.1 (by decide), rfl, rfl⟩
theorem zd_14_108_220 : zz_D zy_sayLayer_14_108 220 (.aload_n 0) 1 221 := ⟨zq_42 zg_14_108_163.2.2.2.2.2.2.2.2.2.2.2.2.2.2.1, rfl⟩
theorem zd_14_108_221 : zz_D zy_sayLayer_14_108 221 (.getfield 121) 3 224 := ⟨zq_180 zg_14_108_163.2.2.2.2.2.2.2.2.2.2.2.2.2.2.2.1 zg_14_108_163.2.2.2.2.2.2.2.2.2.2.2.2.2.2.2.2.1 zg_14_108_163.2.2.2.2.2.2.2.2.2.2.2.2.2.2.2.2.2.1 rfl, rfl⟩
theorem zd_14_108_224 : zz_D zy_sayLayer_14_108 224 (.iload_n 1) 1 225 := ⟨zq_27 zg_14_108_163.2.2.2.2.2.2.2.2.2.2.2.2.2.2.2.2.2.2.1, rfl⟩
theorem zd_14_108_225 : zz_D zy_sayLayer_14_108 225 (.iaload) 1 226 := ⟨zq_46 zg_14_108_163.2.2.2.2.2.2.2.2.2.2.2.2.2.2.2.2.2.2.2.1, rfl⟩
theorem zd_14_108_226 : zz_D zy_sayLayer_14_108 226 (.bipush 16) 2 228 := ⟨zq_16 zg_14_108_163.2.2.2.2.2.2.2.2.2.2.2.2.2.2.2.2.2.2.2.2.1 zg_14_108_163.2.2.2.2.2.2.2.2.2.2.2.2.2.2.2.2.2.2.2.2.2.1 (by decide), rfl⟩
theorem zd_14_108_228 : zz_D zy_sayLayer_14_108 228 (.irem) 1 229 := ⟨zq_112 zg_14_108_163.2.2.2.2.2.2.2.2.2.2.2.2.2.2.2.2.2.2.2.2.2.2, rfl⟩
theorem zg_14_108_229 : zq_at zy_sayLayer_14_108.2.1 229 158 ∧ zq_at zy_sayLayer_14_108.2.1 230 0 ∧ zq_at zy_sayLayer_14_108.2.1 231 23 ∧ zq_at zy_sayLayer_14_108.2.1 252 42 ∧ zq_at zy_sayLayer_14_108.2.1 253 180 ∧ zq_at zy_sayLayer_14_108.2.1 254 0 ∧ zq_at zy_sayLayer_14_108.2.1 255 121 ∧ zq_at zy_sayLayer_14_108.2.1 256 27 ∧ zq_at zy_sayLayer_14_108.2.1 257 46 ∧ zq_at zy_sayLayer_14_108.2.1 258 16 ∧ zq_at zy_sayLayer_14_108.2.1 259 15 ∧ zq_at zy_sayLayer_14_108.2.1 260 164 ∧ zq_at zy_sayLayer_14_108.2.1 261 0 ∧ zq_at zy_sayLayer_14_108.2.1 262 10 ∧ zq_at zy_sayLayer_14_108.2.1 270 177 ∧ zq_at zy_sayLayer_14_108.2.1 263 42 ∧ zq_at zy_sayLayer_14_108.2.1 264 20 ∧ zq_at zy_sayLayer_14_108.2.1 265 2 ∧ zq_at zy_sayLayer_14_108.2.1 266 34 ∧ zq_at zy_sayLayer_14_108.2.1 267 182 ∧ zq_at zy_sayLayer_14_108.2.1 268 2 ∧ zq_at zy_sayLayer_14_108.2.1 269 92 ∧ zq_at zy_sayLayer_14_108.2.1 232 42 := by decide +kernel
theorem zd_14_108_229 : zz_B zy_sayLayer_14_108 229 (Instr.ifCond .le) 252 232 := ⟨23, zq_158 zg_14_108_229.1 zg_14_108_229.2.1 zg_14_108_229.2.2.1 (by decide), rfl, rfl⟩
theorem zd_14_108_252 : zz_D zy_sayLayer_14_108 252 (.aload_n 0) 1 253 := ⟨zq_42 zg_14_108_229.2.2.2.1, rfl⟩
theorem zd_14_108_253 : zz_D zy_sayLayer_14_108 253 (.getfield 121) 3 256 := ⟨zq_180 zg_14_108_229.2.2.2.2.1 zg_14_108_229.2.2.2.2.2.1 zg_14_108_229.2.2.2.2.2.2.1 rfl, rfl⟩
theorem zd_14_108_256 : zz_D zy_sayLayer_14_108 256 (.iload_n 1) 1 257 := ⟨zq_27 zg_14_108_229.2.2.2.2.2.2.2.1, rfl⟩
theorem zd_14_108_257 : zz_D zy_sayLayer_14_108 257 (.iaload) 1 258 := ⟨zq_46 zg_14_108_229.2.2.2.2.2.2.2.2.1, rfl⟩
theorem zd_14_108_258 : zz_D zy_sayLayer_14_108 258 (.bipush 15) 2 260 := ⟨zq_16 zg_14_108_229.2.2.2.2.2.2.2.2.2.1 zg_14_108_229.2.2.2.2.2.2.2.2.2.2.1 (by decide), rfl⟩
theorem zd_14_108_260 : zz_B zy_sayLayer_14_108 260 (Instr.if_icmp .le) 270 263 := ⟨10, zq_164 zg_14_108_229.2.2.2.2.2.2.2.2.2.2.2.1 zg_14_108_229.2.2.2.2.2.2.2.2.2.2.2.2.1 zg_14_108_229.2.2.2.2.2.2.2.2.2.2.2.2.2.1 (by decide), rfl, rfl⟩
theorem zd_14_108_270 : zz_D zy_sayLayer_14_108 270 (.return_) 1 271 := ⟨zq_177 zg_14_108_229.2.2.2.2.2.2.2.2.2.2.2.2.2.2.1, rfl⟩
theorem zd_14_108_263 : zz_D zy_sayLayer_14_108 263 (.aload_n 0) 1 264 := ⟨zq_42 zg_14_108_229.2.2.2.2.2.2.2.2.2.2.2.2.2.2.2.1, rfl⟩
theorem zd_14_108_264 : zz_D zy_sayLayer_14_108 264 (.ldc2_w 546) 3 267 := ⟨zq_20 zg_14_108_229.2.2.2.2.2.2.2.2.2.2.2.2.2.2.2.2.1 zg_14_108_229.2.2.2.2.2.2.2.2.2.2.2.2.2.2.2.2.2.1 zg_14_108_229.2.2.2.2.2.2.2.2.2.2.2.2.2.2.2.2.2.2.1 rfl, rfl⟩
theorem zd_14_108_267 : zz_D zy_sayLayer_14_108 267 (.invokevirtual 604) 3 270 := ⟨zq_182 zg_14_108_229.2.2.2.2.2.2.2.2.2.2.2.2.2.2.2.2.2.2.2.1 zg_14_108_229.2.2.2.2.2.2.2.2.2.2.2.2.2.2.2.2.2.2.2.2.1 zg_14_108_229.2.2.2.2.2.2.2.2.2.2.2.2.2.2.2.2.2.2.2.2.2.1 rfl, rfl⟩
theorem zd_14_108_232 : zz_D zy_sayLayer_14_108 232 (.aload_n 0) 1 233 := ⟨zq_42 zg_14_108_229.2.2.2.2.2.2.2.2.2.2.2.2.2.2.2.2.2.2.2.2.2.2, rfl⟩
theorem zg_14_108_233 : zq_at zy_sayLayer_14_108.2.1 233 20 ∧ zq_at zy_sayLayer_14_108.2.1 234 2 ∧ zq_at zy_sayLayer_14_108.2.1 235 32 ∧ zq_at zy_sayLayer_14_108.2.1 236 182 ∧ zq_at zy_sayLayer_14_108.2.1 237 2 ∧ zq_at zy_sayLayer_14_108.2.1 238 92 ∧ zq_at zy_sayLayer_14_108.2.1 239 42 ∧ zq_at zy_sayLayer_14_108.2.1 240 42 ∧ zq_at zy_sayLayer_14_108.2.1 241 180 ∧ zq_at zy_sayLayer_14_108.2.1 242 0 ∧ zq_at zy_sayLayer_14_108.2.1 243 121 ∧ zq_at zy_sayLayer_14_108.2.1 244 27 ∧ zq_at zy_sayLayer_14_108.2.1 245 46 ∧ zq_at zy_sayLayer_14_108.2.1 246 16 ∧ zq_at zy_sayLayer_14_108.2.1 247 16 ∧ zq_at zy_sayLayer_14_108.2.1 248 112 ∧ zq_at zy_sayLayer_14_108.2.1 249 182 ∧ zq_at zy_sayLayer_14_108.2.1 250 2 ∧ zq_at zy_sayLayer_14_108.2.1 251 95 ∧ zq_at zy_sayLayer_14_108.2.1 173 42 ∧ zq_at zy_sayLayer_14_108.2.1 174 20 ∧ zq_at zy_sayLayer_14_108.2.1 175 0 ∧ zq_at zy_sayLayer_14_108.2.1 176 171 := by decide +kernel
theorem zd_14_108_233 : zz_D zy_sayLayer_14_108 233 (.ldc2_w 544) 3 236 := ⟨zq_20 zg_14_108_233.1 zg_14_108_233.2.1 zg_14_108_233.2.2.1 rfl, rfl⟩
theorem zd_14_108_236 : zz_D zy_sayLayer_14_108 236 (.invokevirtual 604) 3 239 := ⟨zq_182 zg_14_108_233.2.2.2.1 zg_14_108_233.2.2.2.2.1 zg_14_108_233.2.2.2.2.2.1 rfl, rfl⟩
theorem zd_14_108_239 : zz_D zy_sayLayer_14_108 239 (.aload_n 0) 1 240 := ⟨zq_42 zg_14_108_233.2.2.2.2.2.2.1, rfl⟩
theorem zd_14_108_240 : zz_D zy_sayLayer_14_108 240 (.aload_n 0) 1 241 := ⟨zq_42 zg_14_108_233.2.2.2.2.2.2.2.1, rfl⟩
theorem zd_14_108_241 : zz_D zy_sayLayer_14_108 241 (.getfield 121) 3 244 := ⟨zq_180 zg_14_108_233.2.2.2.2.2.2.2.2.1 zg_14_108_233.2.2.2.2.2.2.2.2.2.1 zg_14_108_233.2.2.2.2.2.2.2.2.2.2.1 rfl, rfl⟩
theorem zd_14_108_244 : zz_D zy_sayLayer_14_108 244 (.iload_n 1) 1 245 := ⟨zq_27 zg_14_108_233.2.2.2.2.2.2.2.2.2.2.2.1, rfl⟩
theorem zd_14_108_245 : zz_D zy_sayLayer_14_108 245 (.iaload) 1 246 := ⟨zq_46 zg_14_108_233.2.2.2.2.2.2.2.2.2.2.2.2.1, rfl⟩
theorem zd_14_108_246 : zz_D zy_sayLayer_14_108 246 (.bipush 16) 2 248 := ⟨zq_16 zg_14_108_233.2.2.2.2.2.2.2.2.2.2.2.2.2.1 zg_14_108_233.2.2.2.2.2.2.2.2.2.2.2.2.2.2.1 (by decide), rfl⟩
theorem zd_14_108_248 : zz_D zy_sayLayer_14_108 248 (.irem) 1 249 := ⟨zq_112 zg_14_108_233.2.2.2.2.2.2.2.2.2.2.2.2.2.2.2.1, rfl⟩
theorem zd_14_108_249 : zz_D zy_sayLayer_14_108 249 (.invokevirtual 607) 3 252 := ⟨zq_182 zg_14_108_233.2.2.2.2.2.2.2.2.2.2.2.2.2.2.2.2.1 zg_14_108_233.2.2.2.2.2.2.2.2.2.2.2.2.2.2.2.2.2.1 zg_14_108_233.2.2.2.2.2.2.2.2.2.2.2.2.2.2.2.2.2.2.1 rfl, rfl⟩
theorem zd_14_108_173 : zz_D zy_sayLayer_14_108 173 (.aload_n 0) 1 174 := ⟨zq_42 zg_14_108_233.2.2.2.2.2.2.2.2.2.2.2.2.2.2.2.2.2.2.2.1, rfl⟩
theorem zd_14_108_174 : zz_D zy_sayLayer_14_108 174 (.ldc2_w 171) 3 177 := ⟨zq_20 zg_14_108_233.2.2.2.2.2.2.2.2.2.2.2.2.2.2.2.2.2.2.2.2.1 zg_14_108_233.2.2.2.2.2.2.2.2.2.2.2.2.2.2.2.2.2.2.2.2.2.1 zg_14_108_233.2.2.2.2.2.2.2.2.2.2.2.2.2.2.2.2.2.2.2.2.2.2 rfl, rfl⟩
theorem zg_14_108_177 : zq_at zy_sayLayer_14_108.2.1 177 182 ∧ zq_at zy_sayLayer_14_108.2.1 178 2 ∧ zq_at zy_sayLayer_14_108.2.1 179 92 ∧ zq_at zy_sayLayer_14_108.2.1 180 42 ∧ zq_at zy_sayLayer_14_108.2.1 181 42 ∧ zq_at zy_sayLayer_14_108.2.1 182 180 ∧ zq_at zy_sayLayer_14_108.2.1 183 0 ∧ zq_at zy_sayLayer_14_108.2.1 184 115 ∧ zq_at zy_sayLayer_14_108.2.1 185 27 ∧ zq_at zy_sayLayer_14_108.2.1 186 46 ∧ zq_at zy_sayLayer_14_108.2.1 187 182 ∧ zq_at zy_sayLayer_14_108.2.1 188 2 ∧ zq_at zy_sayLayer_14_108.2.1 189 95 ∧ zq_at zy_sayLayer_14_108.2.1 25 4 ∧ zq_at zy_sayLayer_14_108.2.1 26 167 ∧ zq_at zy_sayLayer_14_108.2.1 27 0 ∧ zq_at zy_sayLayer_14_108.2.1 28 4 ∧ zq_at zy_sayLayer_14_108.2.1 46 20 ∧ zq_at zy_sayLayer_14_108.2.1 47 2 ∧ zq_at zy_sayLayer_14_108.2.1 48 26 ∧ zq_at zy_sayLayer_14_108.2.1 49 167 ∧ zq_at zy_sayLayer_14_108.2.1 50 0 ∧ zq_at zy_sayLayer_14_108.2.1 51 6 ∧ zq_at zy_sayLayer_14_108.2.1 72 42 := by decide +kernel
theorem zd_14_108_177 : zz_D zy_sayLayer_14_108 177 (.invokevirtual 604) 3 180 := ⟨zq_182 zg_14_108_177.1 zg_14_108_177.2.1 zg_14_108_177.2.2.1 rfl, rfl⟩
theorem zd_14_108_180 : zz_D zy_sayLayer_14_108 180 (.aload_n 0) 1 181 := ⟨zq_42 zg_14_108_177.2.2.2.1, rfl⟩
theorem zd_14_108_181 : zz_D zy_sayLayer_14_108 181 (.aload_n 0) 1 182 := ⟨zq_42 zg_14_108_177.2.2.2.2.1, rfl⟩
theorem zd_14_108_182 : zz_D zy_sayLayer_14_108 182 (.getfield 115) 3 185 := ⟨zq_180 zg_14_108_177.2.2.2.2.2.1 zg_14_108_177.2.2.2.2.2.2.1 zg_14_108_177.2.2.2.2.2.2.2.1 rfl, rfl⟩
theorem zd_14_108_185 : zz_D zy_sayLayer_14_108 185 (.iload_n 1) 1 186 := ⟨zq_27 zg_14_108_177.2.2.2.2.2.2.2.2.1, rfl⟩
theorem zd_14_108_186 : zz_D zy_sayLayer_14_108 186 (.iaload) 1 187 := ⟨zq_46 zg_14_108_177.2.2.2.2.2.2.2.2.2.1, rfl⟩
theorem zd_14_108_187 : zz_D zy_sayLayer_14_108 187 (.invokevirtual 607) 3 190 := ⟨zq_182 zg_14_108_177.2.2.2.2.2.2.2.2.2.2.1 zg_14_108_177.2.2.2.2.2.2.2.2.2.2.2.1 zg_14_108_177.2.2.2.2.2.2.2.2.2.2.2.2.1 rfl, rfl⟩
theorem zd_14_108_25 : zz_D zy_sayLayer_14_108 25 (.iconst 1) 1 26 := ⟨zq_4 zg_14_108_177.2.2.2.2.2.2.2.2.2.2.2.2.2.1, rfl⟩
theorem zd_14_108_26 : zz_B zy_sayLayer_14_108 26 Instr.goto 30 29 := ⟨4, zq_167 zg_14_108_177.2.2.2.2.2.2.2.2.2.2.2.2.2.2.1 zg_14_108_177.2.2.2.2.2.2.2.2.2.2.2.2.2.2.2.1 zg_14_108_177.2.2.2.2.2.2.2.2.2.2.2.2.2.2.2.2.1 (by decide), rfl, rfl⟩
theorem zd_14_108_46 : zz_D zy_sayLayer_14_108 46 (.ldc2_w 538) 3 49 := ⟨zq_20 zg_14_108_177.2.2.2.2.2.2.2.2.2.2.2.2.2.2.2.2.2.1 zg_14_108_177.2.2.2.2.2.2.2.2.2.2.2.2.2.2.2.2.2.2.1 zg_14_108_177.2.2.2.2.2.2.2.2.2.2.2.2.2.2.2.2.2.2.2.1 rfl, rfl⟩
theorem zd_14_108_49 : zz_B zy_sayLayer_14_108 49 Instr.goto 55 52 := ⟨6, zq_167 zg_14_108_177.2.2.2.2.2.2.2.2.2.2.2.2.2.2.2.2.2.2.2.2.1 zg_14_108_177.2.2.2.2.2.2.2.2.2.2.2.2.2.2.2.2.2.2.2.2.2.1 zg_14_108_177.2.2.2.2.2.2.2.2.2.2.2.2.2.2.2.2.2.2.2.2.2.2.1 (by decide), rfl, rfl⟩
theorem zd_14_108_72 : zz_D zy_sayLayer_14_108 72 (.aload_n 0) 1 73 := ⟨zq_42 zg_14_108_177.2.2.2.2.2.2.2.2.2.2.2.2.2.2.2.2.2.2.2.2.2.2.2, rfl⟩
theorem zg_14_108_73 : zq_at zy_sayLayer_14_108.2.1 73 42 ∧ zq_at zy_sayLayer_14_108.2.1 74 180 ∧ zq_at zy_sayLayer_14_108.2.1 75 0 ∧ zq_at zy_sayLayer_14_108.2.1 76 106 ∧ zq_at zy_sayLayer_14_108.2.1 77 27 ∧ zq_at zy_sayLayer_14_108.2.1 78 46 ∧ zq_at zy_sayLayer_14_108.2.1 79 182 ∧ zq_at zy_sayLayer_14_108.2.1 80 2 ∧ zq_at zy_sayLayer_14_108.2.1 81 95 ∧ zq_at zy_sayLayer_14_108.2.1 82 167 ∧ zq_at zy_sayLayer_14_108.2.1 83 0 ∧ zq_at zy_sayLayer_14_108.2.1 84 37 ∧ zq_at zy_sayLayer_14_108.2.1 9 4 ∧ zq_at zy_sayLayer_14_108.2.1 10 167 ∧ zq_at zy_sayLayer_14_108.2.1 11 0 ∧ zq_at zy_sayLayer_14_108.2.1 12 4 ∧ zq_at zy_sayLayer_14_108.2.1 36 20 ∧ zq_at zy_sayLayer_14_108.2.1 37 2 ∧ zq_at zy_sayLayer_14_108.2.1 38 22 ∧ zq_at zy_sayLayer_14_108.2.1 39 167 ∧ zq_at zy_sayLayer_14_108.2.1 40 0 ∧ zq_at zy_sayLayer_14_108.2.1 41 16 ∧ zq_at zy_sayLayer_14_108.2.1 123 42 := by decide +kernel
theorem zd_14_108_73 : zz_D zy_sayLayer_14_108 73 (.aload_n 0) 1 74 := ⟨zq_42 zg_14_108_73.1, rfl⟩
theorem zd_14_108_74 : zz_D zy_sayLayer_14_108 74 (.getfield 106) 3 77 := ⟨zq_180 zg_14_108_73.2.1 zg_14_108_73.2.2.1 zg_14_108_73.2.2.2.1 rfl, rfl⟩
theorem zd_14_108_77 : zz_D zy_sayLayer_14_108 77 (.iload_n 1) 1 78 := ⟨zq_27 zg_14_108_73.2.2.2.2.1, rfl⟩
theorem zd_14_108_78 : zz_D zy_sayLayer_14_108 78 (.iaload) 1 79 := ⟨zq_46 zg_14_108_73.2.2.2.2.2.1, rfl⟩
theorem zd_14_108_79 : zz_D zy_sayLayer_14_108 79 (.invokevirtual 607) 3 82 := ⟨zq_182 zg_14_108_73.2.2.2.2.2.2.1 zg_14_108_73.2.2.2.2.2.2.2.1 zg_14_108_73.2.2.2.2.2.2.2.2.1 rfl, rfl⟩
theorem zd_14_108_82 : zz_B zy_sayLayer_14_108 82 Instr.goto 119 85 := ⟨37, zq_167 zg_14_108_73.2.2.2.2.2.2.2.2.2.1 zg_14_108_73.2.2.2.2.2.2.2.2.2.2.1 zg_14_108_73.2.2.2.2.2.2.2.2.2.2.2.1 (by decide), rfl, rfl⟩
theorem zd_14_108_9 : zz_D zy_sayLayer_14_108 9 (.iconst 1) 1 10 := ⟨zq_4 zg_14_108_73.2.2.2.2.2.2.2.2.2.2.2.2.1, rfl⟩
theorem zd_14_108_10 : zz_B zy_sayLayer_14_108 10 Instr.goto 14 13 := ⟨4, zq_167 zg_14_108_73.2.2.2.2.2.2.2.2.2.2.2.2.2.1 zg_14_108_73.2.2.2.2.2.2.2.2.2.2.2.2.2.2.1 zg_14_108_73.2.2.2.2.2.2.2.2.2.2.2.2.2.2.2.1 (by decide), rfl, rfl⟩
theorem zd_14_108_36 : zz_D zy_sayLayer_14_108 36 (.ldc2_w 534) 3 39 := ⟨zq_20 zg_14_108_73.2.2.2.2.2.2.2.2.2.2.2.2.2.2.2.2.1 zg_14_108_73.2.2.2.2.2.2.2.2.2.2.2.2.2.2.2.2.2.1 zg_14_108_73.2.2.2.2.2.2.2.2.2.2.2.2.2.2.2.2.2.2.1 rfl, rfl⟩
theorem zd_14_108_39 : zz_B zy_sayLayer_14_108 39 Instr.goto 55 42 := ⟨16, zq_167 zg_14_108_73.2.2.2.2.2.2.2.2.2.2.2.2.2.2.2.2.2.2.2.1 zg_14_108_73.2.2.2.2.2.2.2.2.2.2.2.2.2.2.2.2.2.2.2.2.1 zg_14_108_73.2.2.2.2.2.2.2.2.2.2.2.2.2.2.2.2.2.2.2.2.2.1 (by decide), rfl, rfl⟩
theorem zd_14_108_123 : zz_D zy_sayLayer_14_108 123 (.aload_n 0) 1 124 := ⟨zq_42 zg_14_108_73.2.2.2.2.2.2.2.2.2.2.2.2.2.2.2.2.2.2.2.2.2.2, rfl⟩
theorem zg_14_108_124 : zq_at zy_sayLayer_14_108.2.1 124 20 ∧ zq_at zy_sayLayer_14_108.2.1 125 2 ∧ zq_at zy_sayLayer_14_108.2.1 126 28 ∧ zq_at zy_sayLayer_14_108.2.1 127 182 ∧ zq_at zy_sayLayer_14_108.2.1 128 2 ∧ zq_at zy_sayLayer_14_108.2.1 129 92 ∧ zq_at zy_sayLayer_14_108.2.1 130 42 ∧ zq_at zy_sayLayer_14_108.2.1 131 42 ∧ zq_at zy_sayLayer_14_108.2.1 132 180 ∧ zq_at zy_sayLayer_14_108.2.1 133 0 ∧ zq_at zy_sayLayer_14_108.2.1 134 94 ∧ zq_at zy_sayLayer_14_108.2.1 135 27 ∧ zq_at zy_sayLayer_14_108.2.1 136 4 ∧ zq_at zy_sayLayer_14_108.2.1 137 96 ∧ zq_at zy_sayLayer_14_108.2.1 138 46 ∧ zq_at zy_sayLayer_14_108.2.1 139 182 ∧ zq_at zy_sayLayer_14_108.2.1 140 2 ∧ zq_at zy_sayLayer_14_108.2.1 141 95 ∧ zq_at zy_sayLayer_14_108.2.1 142 42 ∧ zq_at zy_sayLayer_14_108.2.1 143 20 ∧ zq_at zy_sayLayer_14_108.2.1 144 0 ∧ zq_at zy_sayLayer_14_108.2.1 145 163 := by decide +kernel
theorem zd_14_108_124 : zz_D zy_sayLayer_14_108 124 (.ldc2_w 540) 3 127 := ⟨zq_20 zg_14_108_124.1 zg_14_108_124.2.1 zg_14_108_124.2.2.1 rfl, rfl⟩
theorem zd_14_108_127 : zz_D zy_sayLayer_14_108 127 (.invokevirtual 604) 3 130 := ⟨zq_182 zg_14_108_124.2.2.2.1 zg_14_108_124.2.2.2.2.1 zg_14_108_124.2.2.2.2.2.1 rfl, rfl⟩
theorem zd_14_108_130 : zz_D zy_sayLayer_14_108 130 (.aload_n 0) 1 131 := ⟨zq_42 zg_14_108_124.2.2.2.2.2.2.1, rfl⟩
theorem zd_14_108_131 : zz_D zy_sayLayer_14_108 131 (.aload_n 0) 1 132 := ⟨zq_42 zg_14_108_124.2.2.2.2.2.2.2.1, rfl⟩
theorem zd_14_108_132 : zz_D zy_sayLayer_14_108 132 (.getfield 94) 3 135 := ⟨zq_180 zg_14_108_124.2.2.2.2.2.2.2.2.1 zg_14_108_124.2.2.2.2.2.2.2.2.2.1 zg_14_108_124.2.2.2.2.2.2.2.2.2.2.1 rfl, rfl⟩
theorem zd_14_108_135 : zz_D zy_sayLayer_14_108 135 (.iload_n 1) 1 136 := ⟨zq_27 zg_14_108_124.2.2.2.2.2.2.2.2.2.2.2.1, rfl⟩
theorem zd_14_108_136 : zz_D zy_sayLayer_14_108 136 (.iconst 1) 1 137 := ⟨zq_4 zg_14_108_124.2.2.2.2.2.2.2.2.2.2.2.2.1, rfl⟩
theorem zd_14_108_137 : zz_D zy_sayLayer_14_108 137 (.iadd) 1 138 := ⟨zq_96 zg_14_108_124.2.2.2.2.2.2.2.2.2.2.2.2.2.1, rfl⟩
theorem zd_14_108_138 : zz_D zy_sayLayer_14_108 138 (.iaload) 1 139 := ⟨zq_46 zg_14_108_124.2.2.2.2.2.2.2.2.2.2.2.2.2.2.1, rfl⟩
theorem zd_14_108_139 : zz_D zy_sayLayer_14_108 139 (.invokevirtual 607) 3 142 := ⟨zq_182 zg_14_108_124.2.2.2.2.2.2.2.2.2.2.2.2.2.2.2.1 zg_14_108_124.2.2.2.2.2.2.2.2.2.2.2.2.2.2.2.2.1 zg_14_108_124.2.2.2.2.2.2.2.2.2.2.2.2.2.2.2.2.2.1 rfl, rfl⟩
theorem zd_14_108_142 : zz_D zy_sayLayer_14_108 142 (.aload_n 0) 1 143 := ⟨zq_42 zg_14_108_124.2.2.2.2.2.2.2.2.2.2.2.2.2.2.2.2.2.2.1, rfl⟩
theorem zd_14_108_143 : zz_D zy_sayLayer_14_108 143 (.ldc2_w 163) 3 146 := ⟨zq_20 zg_14_108_124.2.2.2.2.2.2.2.2.2.2.2.2.2.2.2.2.2.2.2.1 zg_14_108_124.2.2.2.2.2.2.2.2.2.2.2.2.2.2.2.2.2.2.2.2.1 zg_14_108_124.2.2.2.2.2.2.2.2.2.2.2.2.2.2.2.2.2.2.2.2.2 rfl, rfl⟩
theorem zg_14_108_146 : zq_at zy_sayLayer_14_108.2.1 146 182 ∧ zq_at zy_sayLayer_14_108.2.1 147 2 ∧ zq_at zy_sayLayer_14_108.2.1 148 92 ∧ zq_at zy_sayLayer_14_108.2.1 149 42 ∧ zq_at zy_sayLayer_14_108.2.1 150 42 ∧ zq_at zy_sayLayer_14_108.2.1 151 180 ∧ zq_at zy_sayLayer_14_108.2.1 152 0 ∧ zq_at zy_sayLayer_14_108.2.1 153 124 ∧ zq_at zy_sayLayer_14_108.2.1 154 27 ∧ zq_at zy_sayLayer_14_108.2.1 155 46 ∧ zq_at zy_sayLayer_14_108.2.1 156 182 ∧ zq_at zy_sayLayer_14_108.2.1 157 2 ∧ zq_at zy_sayLayer_14_108.2.1 158 95 ∧ zq_at zy_sayLayer_14_108.2.1 194 42 ∧ zq_at zy_sayLayer_14_108.2.1 195 180 ∧ zq_at zy_sayLayer_14_108.2.1 196 0 ∧ zq_at zy_sayLayer_14_108.2.1 197 118 ∧ zq_at zy_sayLayer_14_108.2.1 198 27 ∧ zq_at zy_sayLayer_14_108.2.1 199 46 ∧ zq_at zy_sayLayer_14_108.2.1 200 158 ∧ zq_at zy_sayLayer_14_108.2.1 201 0 ∧ zq_at zy_sayLayer_14_108.2.1 202 20 ∧ zq_at zy_sayLayer_14_108.2.1 203 42 := by decide +kernel
theorem zd_14_108_146 : zz_D zy_sayLayer_14_108 146 (.invokevirtual 604) 3 149 := ⟨zq_182 zg_14_108_146.1 zg_14_108_146.2.1 zg_14_108_146.2.2.1 rfl, rfl⟩
theorem zd_14_108_149 : zz_D zy_sayLayer_14_108 149 (.aload_n 0) 1 150 := ⟨zq_42 zg_14_108_146.2.2.2.1, rfl⟩
theorem zd_14_108_150 : zz_D zy_sayLayer_14_108 150 (.aload_n 0) 1 151 := ⟨zq_42 zg_14_108_146.2.2.2.2.1, rfl⟩
theorem zd_14_108_151 : zz_D zy_sayLayer_14_108 151 (.getfield 124) 3 154 := ⟨zq_180 zg_14_108_146.2.2.2.2.2.1 zg_14_108_146.2.2.2.2.2.2.1 zg_14_108_146.2.2.2.2.2.2.2.1 rfl, rfl⟩
theorem zd_14_108_154 : zz_D zy_sayLayer_14_108 154 (.iload_n 1) 1 155 := ⟨zq_27 zg_14_108_146.2.2.2.2.2.2.2.2.1, rfl⟩
theorem zd_14_108_155 : zz_D zy_sayLayer_14_108 155 (.iaload) 1 156 := ⟨zq_46 zg_14_108_146.2.2.2.2.2.2.2.2.2.1, rfl⟩
theorem zd_14_108_156 : zz_D zy_sayLayer_14_108 156 (.invokevirtual 607) 3 159 := ⟨zq_182 zg_14_108_146.2.2.2.2.2.2.2.2.2.2.1 zg_14_108_146.2.2.2.2.2.2.2.2.2.2.2.1 zg_14_108_146.2.2.2.2.2.2.2.2.2.2.2.2.1 rfl, rfl⟩
theorem zd_14_108_194 : zz_D zy_sayLayer_14_108 194 (.aload_n 0) 1 195 := ⟨zq_42 zg_14_108_146.2.2.2.2.2.2.2.2.2.2.2.2.2.1, rfl⟩
theorem zd_14_108_195 : zz_D zy_sayLayer_14_108 195 (.getfield 118) 3 198 := ⟨zq_180 zg_14_108_146.2.2.2.2.2.2.2.2.2.2.2.2.2.2.1 zg_14_108_146.2.2.2.2.2.2.2.2.2.2.2.2.2.2.2.1 zg_14_108_146.2.2.2.2.2.2.2.2.2.2.2.2.2.2.2.2.1 rfl, rfl⟩
theorem zd_14_108_198 : zz_D zy_sayLayer_14_108 198 (.iload_n 1) 1 199 := ⟨zq_27 zg_14_108_146.2.2.2.2.2.2.2.2.2.2.2.2.2.2.2.2.2.1, rfl⟩
theorem zd_14_108_199 : zz_D zy_sayLayer_14_108 199 (.iaload) 1 200 := ⟨zq_46 zg_14_108_146.2.2.2.2.2.2.2.2.2.2.2.2.2.2.2.2.2.2.1, rfl⟩
theorem zd_14_108_200 : zz_B zy_sayLayer_14_108 200 (Instr.ifCond .le) 220 203 := ⟨20, zq_158 zg_14_108_146.2.2.2.2.2.2.2.2.2.2.2.2.2.2.2.2.2.2.2.1 zg_14_108_146.2.2.2.2.2.2.2.2.2.2.2.2.2.2.2.2.2.2.2.2.1 zg_14_108_146.2.2.2.2.2.2.2.2.2.2.2.2.2.2.2.2.2.2.2.2.2.1 (by decide), rfl, rfl⟩
theorem zd_14_108_203 : zz_D zy_sayLayer_14_108 203 (.aload_n 0) 1 204 := ⟨zq_42 zg_14_108_146.2.2.2.2.2.2.2.2.2.2.2.2.2.2.2.2.2.2.2.2.2.2, rfl⟩
theorem zg_14_108_204 : zq_at zy_sayLayer_14_108.2.1 204 20 ∧ zq_at zy_sayLayer_14_108.2.1 205 2 ∧ zq_at zy_sayLayer_14_108.2.1 206 30 ∧ zq_at zy_sayLayer_14_108.2.1 207 182 ∧ zq_at zy_sayLayer_14_108.2.1 208 2 ∧ zq_at zy_sayLayer_14_108.2.1 209 92 ∧ zq_at zy_sayLayer_14_108.2.1 210 42 ∧ zq_at zy_sayLayer_14_108.2.1 211 42 ∧ zq_at zy_sayLayer_14_108.2.1 212 180 ∧ zq_at zy_sayLayer_14_108.2.1 213 0 ∧ zq_at zy_sayLayer_14_108.2.1 214 118 ∧ zq_at zy_sayLayer_14_108.2.1 215 27 ∧ zq_at zy_sayLayer_14_108.2.1 216 46 ∧ zq_at zy_sayLayer_14_108.2.1 217 182 ∧ zq_at zy_sayLayer_14_108.2.1 218 2 ∧ zq_at zy_sayLayer_14_108.2.1 219 95 := by decide +kernel
theorem zd_14_108_204 : zz_D zy_sayLayer_14_108 204 (.ldc2_w 542) 3 207 := ⟨zq_20 zg_14_108_204.1 zg_14_108_204.2.1 zg_14_108_204.2.2.1 rfl, rfl⟩
theorem zd_14_108_207 : zz_D zy_sayLayer_14_108 207 (.invokevirtual 604) 3 210 := ⟨zq_182 zg_14_108_204.2.2.2.1 zg_14_108_204.2.2.2.2.1 zg_14_108_204.2.2.2.2.2.1 rfl, rfl⟩
theorem zd_14_108_210 : zz_D zy_sayLayer_14_108 210 (.aload_n 0) 1 211 := ⟨zq_42 zg_14_108_204.2.2.2.2.2.2.1, rfl⟩
theorem zd_14_108_211 : zz_D zy_sayLayer_14_108 211 (.aload_n 0) 1 212 := ⟨zq_42 zg_14_108_204.2.2.2.2.2.2.2.1, rfl⟩
theorem zd_14_108_212 : zz_D zy_sayLayer_14_108 212 (.getfield 118) 3 215 := ⟨zq_180 zg_14_108_204.2.2.2.2.2.2.2.2.1 zg_14_108_204.2.2.2.2.2.2.2.2.2.1 zg_14_108_204.2.2.2.2.2.2.2.2.2.2.1 rfl, rfl⟩
theorem zd_14_108_215 : zz_D zy_sayLayer_14_108 215 (.iload_n 1) 1 216 := ⟨zq_27 zg_14_108_204.2.2.2.2.2.2.2.2.2.2.2.1, rfl⟩
theorem zd_14_108_216 : zz_D zy_sayLayer_14_108 216 (.iaload) 1 217 := ⟨zq_46 zg_14_108_204.2.2.2.2.2.2.2.2.2.2.2.2.1, rfl⟩
theorem zd_14_108_217 : zz_D zy_sayLayer_14_108 217 (.invokevirtual 607) 3 220 := ⟨zq_182 zg_14_108_204.2.2.2.2.2.2.2.2.2.2.2.2.2.1 zg_14_108_204.2.2.2.2.2.2.2.2.2.2.2.2.2.2.1 zg_14_108_204.2.2.2.2.2.2.2.2.2.2.2.2.2.2.2 rfl, rfl⟩
-- TensorForgeModel sayLayer (I)V
abbrev zr_sayLayer_14_108 : Room := { frames := 3, cells := 0, slots := 0, locals := 41 }
def zp_sayLayer_14_108 (p0 : Int) (S0 : zz_S) : zz_S → Prop := fun S => zz_G S ∧ zz_fr [(1079, 34)] [1101] (fun _ _ => False) S0 S ∧ (S 1079 34 ≤ S0 1079 34 + 125) ∧ (S 1079 34 ≥ S0 1079 34) ∧ (zs_SL S0 p0 (S0 1079 34) (S0 1101) (S 1079 34) (S 1101))
theorem zc_sayLayer_14_108 {g : mm_G} {l : Launch} (p0 : Int) (S0 : zz_S) (n : Nat) (hn : zz_end ≤ n) (G_S0 : zz_G S0) (hp0 : 0 ≤ p0 ∧ p0 ≤ 9) (hq : S0 1079 34 ≤ 60) : mm_Met g l zy_sayLayer_14_108 zr_sayLayer_14_108 [.ref 1079, zi p0] (zz_M S0 n) n (zz_QV n (zp_sayLayer_14_108 p0 S0)) := by
  refine zz_enter (by decide) (Nat.le_of_ble_eq_true rfl) (zz_less (ls1 := [some (.ref 1079), some (zi p0)]) ⟨rfl, ⟨rfl, trivial⟩⟩ ?_)
  have F_S0 : zz_fr [(1079, 34)] [1101] (fun _ _ => False) S0 S0 := zz_fr.refl
  refine zz_aload_n (x := 1079) rfl zd_14_108_0 ?_
  refine zz_getr (kd := 0) (z := 1106) zd_14_108_1 zf_Md_100 zT_1079 rfl (zz_ltn hn rfl) (zz_G.eq G_S0 1079 41 1106 rfl rfl) (by decide) 1106 rfl ?_
  refine zz_iload_n (x := p0) rfl zd_14_108_4 ?_
  have g1 := zz_G.r G_S0 1106 p0.toNat 0 2 rfl rfl
  refine zz_iald (z := S0 1106 p0.toNat) zd_14_108_5 zT_1106 rfl (zz_ltn hn rfl) (by decide) (by omega) rfl ?_
  refine zz_if_ne (by omega) zd_14_108_6 (fun c2 => ?_) (fun c2 => ?_)
  · refine zz_iconst zd_14_108_13 ?_
    refine zz_istore_n [some (.ref 1079), some (zi p0), some (zi 0)] zd_14_108_14 (by decide) rfl ?_
    refine zz_aload_n (x := 1079) rfl zd_14_108_15 ?_
    refine zz_getr (kd := 0) (z := 1106) zd_14_108_16 zf_Md_100 zT_1079 rfl (zz_ltn hn rfl) (zz_G.eq G_S0 1079 41 1106 rfl rfl) (by decide) 1106 rfl ?_
    refine zz_iload_n (x := p0) rfl zd_14_108_19 ?_
    refine zz_iald (z := S0 1106 p0.toNat) zd_14_108_20 zT_1106 rfl (zz_ltn hn rfl) (by decide) (by omega) rfl ?_
    refine zz_iconst zd_14_108_21 ?_
    refine zz_icmp_ne (by omega) (by omega) zd_14_108_22 (fun c3 => ?_) (fun c3 => ?_)
    · refine zz_iconst zd_14_108_29 ?_
      refine zz_istore_n [some (.ref 1079), some (zi p0), some (zi 0), some (zi 0)] zd_14_108_30 (by decide) rfl ?_
      refine zz_aload_n (x := 1079) rfl zd_14_108_31 ?_
      refine zz_iload_n (x := 0) rfl zd_14_108_32 ?_
      refine zz_if_eq (by omega) zd_14_108_33 (fun c4 => ?_) (fun c4 => ?_)
      · refine zz_iload_n (x := 0) rfl zd_14_108_42 ?_
        refine zz_if_eq (by omega) zd_14_108_43 (fun c5 => ?_) (fun c5 => ?_)
        · refine zz_ldc2 (z := 409072) zq_Md_536 (by decide) zd_14_108_52 ?_
          have g6 := zz_G.r G_S0 1079 34 0 200 rfl rfl
          refine zz_callVV [zl 409072] zd_14_108_55 zk_Md_604 zT_1079 (zz_ltn hn rfl) rfl rfl ⟨Nat.le_of_ble_eq_true rfl, Nat.le_of_ble_eq_true rfl⟩ ⟨rfl, rfl⟩ (Nat.zero_le _) (Nat.zero_le _) (zc_sayCode_14_106 409072 S0 n hn G_S0 (by omega) (by omega) (by omega)) (fun S7 hP => ?_)
          obtain ⟨G_S7, fS7, o9, o10, o11⟩ := hP
          have F_S7 := zz_fr.trans F_S0 fS7 rfl zz_nv
          refine zz_aload_n (x := 1079) rfl zd_14_108_58 ?_
          refine zz_aload_n (x := 1079) rfl zd_14_108_59 ?_
          refine zz_getr (kd := 0) (z := 1107) zd_14_108_60 zf_Md_103 zT_1079 rfl (zz_ltn hn rfl) (zz_G.eq G_S7 1079 42 1107 rfl rfl) (by decide) 1107 rfl ?_
          refine zz_iload_n (x := p0) rfl zd_14_108_63 ?_
          have g12 := zz_G.r G_S0 1107 p0.toNat 0 10 rfl rfl
          refine zz_iald (z := S0 1107 p0.toNat) zd_14_108_64 zT_1107 rfl (zz_ltn hn rfl) (by decide) (by omega) (zz_rc fS7 (zz_nc1 rfl) rfl (fun h => h) rfl) ?_
          have g13 := zz_G.r G_S7 1079 34 0 200 rfl rfl
          refine zz_callVV [zi (S0 1107 p0.toNat)] zd_14_108_65 zk_Md_607 zT_1079 (zz_ltn hn rfl) rfl rfl ⟨Nat.le_of_ble_eq_true rfl, Nat.le_of_ble_eq_true rfl⟩ ⟨rfl, rfl⟩ (Nat.zero_le _) (Nat.zero_le _) (zc_sayCount_14_107 (S0 1107 p0.toNat) S7 n hn G_S7 (by omega) (by omega)) (fun S14 hP => ?_)
          obtain ⟨G_S14, fS14, o16, o17, o18⟩ := hP
          have F_S14 := zz_fr.trans F_S7 fS14 rfl zz_nv
          refine zz_iload_n (x := 0) rfl zd_14_108_68 ?_
          refine zz_if_eq (by omega) zd_14_108_69 (fun c19 => ?_) (fun c19 => ?_)
          · refine zz_aload_n (x := 1079) rfl zd_14_108_85 ?_
            refine zz_ldc2 (z := 802) zq_Md_165 (by decide) zd_14_108_86 ?_
            have g20 := zz_G.r G_S14 1079 34 0 200 rfl rfl
            refine zz_callVV [zl 802] zd_14_108_89 zk_Md_604 zT_1079 (zz_ltn hn rfl) rfl rfl ⟨Nat.le_of_ble_eq_true rfl, Nat.le_of_ble_eq_true rfl⟩ ⟨rfl, rfl⟩ (Nat.zero_le _) (Nat.zero_le _) (zc_sayCode_14_106 802 S14 n hn G_S14 (by omega) (by omega) (by omega)) (fun S21 hP => ?_)
            obtain ⟨G_S21, fS21, o23, o24, o25⟩ := hP
            have F_S21 := zz_fr.trans F_S14 fS21 rfl zz_nv
            refine zz_aload_n (x := 1079) rfl zd_14_108_92 ?_
            refine zz_aload_n (x := 1079) rfl zd_14_108_93 ?_
            refine zz_getr (kd := 0) (z := 1109) zd_14_108_94 zf_Md_109 zT_1079 rfl (zz_ltn hn rfl) (zz_G.eq G_S21 1079 44 1109 rfl rfl) (by decide) 1109 rfl ?_
            refine zz_iload_n (x := p0) rfl zd_14_108_97 ?_
            have g26 := zz_G.r G_S0 1109 p0.toNat 0 3 rfl rfl
            refine zz_iald (z := S0 1109 p0.toNat) zd_14_108_98 zT_1109 rfl (zz_ltn hn rfl) (by decide) (by omega) (zz_rc fS21 (zz_nc1 rfl) rfl (fun h => h) (zz_rc fS14 (zz_nc1 rfl) rfl (fun h => h) (zz_rc fS7 (zz_nc1 rfl) rfl (fun h => h) rfl))) ?_
            have g27 := zz_G.r G_S21 1079 34 0 200 rfl rfl
            refine zz_callVV [zi (S0 1109 p0.toNat)] zd_14_108_99 zk_Md_607 zT_1079 (zz_ltn hn rfl) rfl rfl ⟨Nat.le_of_ble_eq_true rfl, Nat.le_of_ble_eq_true rfl⟩ ⟨rfl, rfl⟩ (Nat.zero_le _) (Nat.zero_le _) (zc_sayCount_14_107 (S0 1109 p0.toNat) S21 n hn G_S21 (by omega) (by omega)) (fun S28 hP => ?_)
            obtain ⟨G_S28, fS28, o30, o31, o32⟩ := hP
            have F_S28 := zz_fr.trans F_S21 fS28 rfl zz_nv
            refine zz_aload_n (x := 1079) rfl zd_14_108_102 ?_
            refine zz_ldc2 (z := 24) zq_Md_167 (by decide) zd_14_108_103 ?_
            have g33 := zz_G.r G_S28 1079 34 0 200 rfl rfl
            refine zz_callVV [zl 24] zd_14_108_106 zk_Md_604 zT_1079 (zz_ltn hn rfl) rfl rfl ⟨Nat.le_of_ble_eq_true rfl, Nat.le_of_ble_eq_true rfl⟩ ⟨rfl, rfl⟩ (Nat.zero_le _) (Nat.zero_le _) (zc_sayCode_14_106 24 S28 n hn G_S28 (by omega) (by omega) (by omega)) (fun S34 hP => ?_)
            obtain ⟨G_S34, fS34, o36, o37, o38⟩ := hP
            have F_S34 := zz_fr.trans F_S28 fS34 rfl zz_nv
            refine zz_aload_n (x := 1079) rfl zd_14_108_109 ?_
            refine zz_aload_n (x := 1079) rfl zd_14_108_110 ?_
            refine zz_getr (kd := 0) (z := 1110) zd_14_108_111 zf_Md_112 zT_1079 rfl (zz_ltn hn rfl) (zz_G.eq G_S34 1079 45 1110 rfl rfl) (by decide) 1110 rfl ?_
            refine zz_iload_n (x := p0) rfl zd_14_108_114 ?_
            have g39 := zz_G.r G_S0 1110 p0.toNat 0 3 rfl rfl
            refine zz_iald (z := S0 1110 p0.toNat) zd_14_108_115 zT_1110 rfl (zz_ltn hn rfl) (by decide) (by omega) (zz_rc fS34 (zz_nc1 rfl) rfl (fun h => h) (zz_rc fS28 (zz_nc1 rfl) rfl (fun h => h) (zz_rc fS21 (zz_nc1 rfl) rfl (fun h => h) (zz_rc fS14 (zz_nc1 rfl) rfl (fun h => h) (zz_rc fS7 (zz_nc1 rfl) rfl (fun h => h) rfl))))) ?_
            have g40 := zz_G.r G_S34 1079 34 0 200 rfl rfl
            refine zz_callVV [zi (S0 1110 p0.toNat)] zd_14_108_116 zk_Md_607 zT_1079 (zz_ltn hn rfl) rfl rfl ⟨Nat.le_of_ble_eq_true rfl, Nat.le_of_ble_eq_true rfl⟩ ⟨rfl, rfl⟩ (Nat.zero_le _) (Nat.zero_le _) (zc_sayCount_14_107 (S0 1110 p0.toNat) S34 n hn G_S34 (by omega) (by omega)) (fun S41 hP => ?_)
            obtain ⟨G_S41, fS41, o43, o44, o45⟩ := hP
            have F_S41 := zz_fr.trans F_S34 fS41 rfl zz_nv
            refine zz_iload_n (x := 0) rfl zd_14_108_119 ?_
            refine zz_if_eq (by omega) zd_14_108_120 (fun c46 => ?_) (fun c46 => ?_)
            · refine zz_iload_n (x := 0) rfl zd_14_108_159 ?_
              refine zz_if_ne (by omega) zd_14_108_160 (fun c47 => ?_) (fun c47 => ?_)
              · exfalso; omega
              · refine zz_aload_n (x := 1079) rfl zd_14_108_163 ?_
                refine zz_getr (kd := 0) (z := 1111) zd_14_108_164 zf_Md_115 zT_1079 rfl (zz_ltn hn rfl) (zz_G.eq G_S41 1079 46 1111 rfl rfl) (by decide) 1111 rfl ?_
                refine zz_iload_n (x := p0) rfl zd_14_108_167 ?_
                have g48 := zz_G.r G_S0 1111 p0.toNat 0 3 rfl rfl
                refine zz_iald (z := S0 1111 p0.toNat) zd_14_108_168 zT_1111 rfl (zz_ltn hn rfl) (by decide) (by omega) (zz_rc fS41 (zz_nc1 rfl) rfl (fun h => h) (zz_rc fS34 (zz_nc1 rfl) rfl (fun h => h) (zz_rc fS28 (zz_nc1 rfl) rfl (fun h => h) (zz_rc fS21 (zz_nc1 rfl) rfl (fun h => h) (zz_rc fS14 (zz_nc1 rfl) rfl (fun h => h) (zz_rc fS7 (zz_nc1 rfl) rfl (fun h => h) rfl)))))) ?_
                refine zz_iconst zd_14_108_169 ?_
                refine zz_icmp_le (by omega) (by omega) zd_14_108_170 (fun c49 => ?_) (fun c49 => ?_)
                · refine zz_iload_n (x := 0) rfl zd_14_108_190 ?_
                  refine zz_if_eq (by omega) zd_14_108_191 (fun c50 => ?_) (fun c50 => ?_)
                  · refine zz_aload_n (x := 1079) rfl zd_14_108_220 ?_
                    refine zz_getr (kd := 0) (z := 1113) zd_14_108_221 zf_Md_121 zT_1079 rfl (zz_ltn hn rfl) (zz_G.eq G_S41 1079 48 1113 rfl rfl) (by decide) 1113 rfl ?_
                    refine zz_iload_n (x := p0) rfl zd_14_108_224 ?_
                    have g51 := zz_G.r G_S0 1113 p0.toNat 0 31 rfl rfl
                    refine zz_iald (z := S0 1113 p0.toNat) zd_14_108_225 zT_1113 rfl (zz_ltn hn rfl) (by decide) (by omega) (zz_rc fS41 (zz_nc1 rfl) rfl (fun h => h) (zz_rc fS34 (zz_nc1 rfl) rfl (fun h => h) (zz_rc fS28 (zz_nc1 rfl) rfl (fun h => h) (zz_rc fS21 (zz_nc1 rfl) rfl (fun h => h) (zz_rc fS14 (zz_nc1 rfl) rfl (fun h => h) (zz_rc fS7 (zz_nc1 rfl) rfl (fun h => h) rfl)))))) ?_
                    refine zz_bipush (by decide) zd_14_108_226 ?_
                    refine zz_irem (by omega) (by omega) zd_14_108_228 (fun v52 hv52 av52 bv52 cv52 => ?_)
                    skip
                    refine zz_if_le (by omega) zd_14_108_229 (fun c53 => ?_) (fun c53 => ?_)
                    · refine zz_aload_n (x := 1079) rfl zd_14_108_252 ?_
                      refine zz_getr (kd := 0) (z := 1113) zd_14_108_253 zf_Md_121 zT_1079 rfl (zz_ltn hn rfl) (zz_G.eq G_S41 1079 48 1113 rfl rfl) (by decide) 1113 rfl ?_
                      refine zz_iload_n (x := p0) rfl zd_14_108_256 ?_
                      refine zz_iald (z := S0 1113 p0.toNat) zd_14_108_257 zT_1113 rfl (zz_ltn hn rfl) (by decide) (by omega) (zz_rc fS41 (zz_nc1 rfl) rfl (fun h => h) (zz_rc fS34 (zz_nc1 rfl) rfl (fun h => h) (zz_rc fS28 (zz_nc1 rfl) rfl (fun h => h) (zz_rc fS21 (zz_nc1 rfl) rfl (fun h => h) (zz_rc fS14 (zz_nc1 rfl) rfl (fun h => h) (zz_rc fS7 (zz_nc1 rfl) rfl (fun h => h) rfl)))))) ?_
                      refine zz_bipush (by decide) zd_14_108_258 ?_
                      refine zz_icmp_le (by omega) (by omega) zd_14_108_260 (fun c54 => ?_) (fun c54 => ?_)
                      · have g55 := zz_G.r G_S41 1079 34 0 200 rfl rfl
                        exact zz_vret zd_14_108_270 rfl (Nat.zero_le _) (Nat.zero_le _) ⟨_, rfl, G_S41, F_S41, by omega, by omega, (fun K a b kh kw ch ad h w st ed sh rl hq hx eK ea eb ekh ekw ech ead est eed esh h0 => by unfold zs_lq at hq; unfold zs_lx at hx; have t9 := zs_sh esh (by omega) (by omega) av52; subst ea ekh ekw ech est eed; have k1 := o11 _ zs_wpool h0 zs_kpool; have k2 := o18 _ k1 (by omega); have k3 := o25 _ zs_wby k2 zs_kby; have k4 := o32 _ k3 (by omega); have k5 := o38 _ zs_wx k4 zs_kx; have k6 := o45 _ k5 (by omega); exact zs_opH k6 (zs_hd2 (by omega)) (if_pos (by omega)) (if_pos (by omega)) (if_pos (by omega)) (if_pos (by omega)))⟩
                      · refine zz_aload_n (x := 1079) rfl zd_14_108_263 ?_
                        refine zz_ldc2 (z := 700594) zq_Md_546 (by decide) zd_14_108_264 ?_
                        have g56 := zz_G.r G_S41 1079 34 0 200 rfl rfl
                        refine zz_callVV [zl 700594] zd_14_108_267 zk_Md_604 zT_1079 (zz_ltn hn rfl) rfl rfl ⟨Nat.le_of_ble_eq_true rfl, Nat.le_of_ble_eq_true rfl⟩ ⟨rfl, rfl⟩ (Nat.zero_le _) (Nat.zero_le _) (zc_sayCode_14_106 700594 S41 n hn G_S41 (by omega) (by omega) (by omega)) (fun S57 hP => ?_)
                        obtain ⟨G_S57, fS57, o59, o60, o61⟩ := hP
                        have F_S57 := zz_fr.trans F_S41 fS57 rfl zz_nv
                        have g62 := zz_G.r G_S57 1079 34 0 200 rfl rfl
                        exact zz_vret zd_14_108_270 rfl (Nat.zero_le _) (Nat.zero_le _) ⟨_, rfl, G_S57, F_S57, by omega, by omega, (fun K a b kh kw ch ad h w st ed sh rl hq hx eK ea eb ekh ekw ech ead est eed esh h0 => by unfold zs_lq at hq; unfold zs_lx at hx; have t9 := zs_sh esh (by omega) (by omega) av52; subst ea ekh ekw ech est eed; have k1 := o11 _ zs_wpool h0 zs_kpool; have k2 := o18 _ k1 (by omega); have k3 := o25 _ zs_wby k2 zs_kby; have k4 := o32 _ k3 (by omega); have k5 := o38 _ zs_wx k4 zs_kx; have k6 := o45 _ k5 (by omega); have k7 := o61 _ zs_wrelu k6 zs_krelu; exact zs_opH k7 (zs_hd2 (by omega)) (if_pos (by omega)) (if_pos (by omega)) (if_pos (by omega)) (if_neg (by omega)))⟩
                    · refine zz_aload_n (x := 1079) rfl zd_14_108_232 ?_
                      refine zz_ldc2 (z := 21177619) zq_Md_544 (by decide) zd_14_108_233 ?_
                      have g63 := zz_G.r G_S41 1079 34 0 200 rfl rfl
                      refine zz_callVV [zl 21177619] zd_14_108_236 zk_Md_604 zT_1079 (zz_ltn hn rfl) rfl rfl ⟨Nat.le_of_ble_eq_true rfl, Nat.le_of_ble_eq_true rfl⟩ ⟨rfl, rfl⟩ (Nat.zero_le _) (Nat.zero_le _) (zc_sayCode_14_106 21177619 S41 n hn G_S41 (by omega) (by omega) (by omega)) (fun S64 hP => ?_)
                      obtain ⟨G_S64, fS64, o66, o67, o68⟩ := hP
                      have F_S64 := zz_fr.trans F_S41 fS64 rfl zz_nv
                      refine zz_aload_n (x := 1079) rfl zd_14_108_239 ?_
                      refine zz_aload_n (x := 1079) rfl zd_14_108_240 ?_
                      refine zz_getr (kd := 0) (z := 1113) zd_14_108_241 zf_Md_121 zT_1079 rfl (zz_ltn hn rfl) (zz_G.eq G_S64 1079 48 1113 rfl rfl) (by decide) 1113 rfl ?_
                      refine zz_iload_n (x := p0) rfl zd_14_108_244 ?_
                      refine zz_iald (z := S0 1113 p0.toNat) zd_14_108_245 zT_1113 rfl (zz_ltn hn rfl) (by decide) (by omega) (zz_rc fS64 (zz_nc1 rfl) rfl (fun h => h) (zz_rc fS41 (zz_nc1 rfl) rfl (fun h => h) (zz_rc fS34 (zz_nc1 rfl) rfl (fun h => h) (zz_rc fS28 (zz_nc1 rfl) rfl (fun h => h) (zz_rc fS21 (zz_nc1 rfl) rfl (fun h => h) (zz_rc fS14 (zz_nc1 rfl) rfl (fun h => h) (zz_rc fS7 (zz_nc1 rfl) rfl (fun h => h) rfl))))))) ?_
                      refine zz_bipush (by decide) zd_14_108_246 ?_
                      refine zz_irem (by omega) (by omega) zd_14_108_248 (fun v69 hv69 av69 bv69 cv69 => ?_)
                      have g70 := zz_G.r G_S64 1079 34 0 200 rfl rfl
                      refine zz_callVV [zi v69] zd_14_108_249 zk_Md_607 zT_1079 (zz_ltn hn rfl) rfl rfl ⟨Nat.le_of_ble_eq_true rfl, Nat.le_of_ble_eq_true rfl⟩ ⟨rfl, rfl⟩ (Nat.zero_le _) (Nat.zero_le _) (zc_sayCount_14_107 v69 S64 n hn G_S64 (by omega) (by omega)) (fun S71 hP => ?_)
                      obtain ⟨G_S71, fS71, o73, o74, o75⟩ := hP
                      have F_S71 := zz_fr.trans F_S64 fS71 rfl zz_nv
                      refine zz_aload_n (x := 1079) rfl zd_14_108_252 ?_
                      refine zz_getr (kd := 0) (z := 1113) zd_14_108_253 zf_Md_121 zT_1079 rfl (zz_ltn hn rfl) (zz_G.eq G_S71 1079 48 1113 rfl rfl) (by decide) 1113 rfl ?_
                      refine zz_iload_n (x := p0) rfl zd_14_108_256 ?_
                      refine zz_iald (z := S0 1113 p0.toNat) zd_14_108_257 zT_1113 rfl (zz_ltn hn rfl) (by decide) (by omega) (zz_rc fS71 (zz_nc1 rfl) rfl (fun h => h) (zz_rc fS64 (zz_nc1 rfl) rfl (fun h => h) (zz_rc fS41 (zz_nc1 rfl) rfl (fun h => h) (zz_rc fS34 (zz_nc1 rfl) rfl (fun h => h) (zz_rc fS28 (zz_nc1 rfl) rfl (fun h => h) (zz_rc fS21 (zz_nc1 rfl) rfl (fun h => h) (zz_rc fS14 (zz_nc1 rfl) rfl (fun h => h) (zz_rc fS7 (zz_nc1 rfl) rfl (fun h => h) rfl)))))))) ?_
                      refine zz_bipush (by decide) zd_14_108_258 ?_
                      refine zz_icmp_le (by omega) (by omega) zd_14_108_260 (fun c76 => ?_) (fun c76 => ?_)
                      · have g77 := zz_G.r G_S71 1079 34 0 200 rfl rfl
                        exact zz_vret zd_14_108_270 rfl (Nat.zero_le _) (Nat.zero_le _) ⟨_, rfl, G_S71, F_S71, by omega, by omega, (fun K a b kh kw ch ad h w st ed sh rl hq hx eK ea eb ekh ekw ech ead est eed esh h0 => by unfold zs_lq at hq; unfold zs_lx at hx; have t9 := zs_sh esh (by omega) (by omega) av52; subst ea ekh ekw ech est eed; have k1 := o11 _ zs_wpool h0 zs_kpool; have k2 := o18 _ k1 (by omega); have k3 := o25 _ zs_wby k2 zs_kby; have k4 := o32 _ k3 (by omega); have k5 := o38 _ zs_wx k4 zs_kx; have k6 := o45 _ k5 (by omega); have k7 := o68 _ zs_wshift k6 zs_kshift; have k8 := o75 _ k7 (by have z9 := zs_sh esh (by omega) (by omega) av69; omega); rw [zs_sh esh (by omega) (by omega) av69] at k8; exact zs_opH k8 (zs_hd2 (by omega)) (if_pos (by omega)) (if_pos (by omega)) (if_neg (by omega)) (if_pos (by omega)))⟩
                      · refine zz_aload_n (x := 1079) rfl zd_14_108_263 ?_
                        refine zz_ldc2 (z := 700594) zq_Md_546 (by decide) zd_14_108_264 ?_
                        have g78 := zz_G.r G_S71 1079 34 0 200 rfl rfl
                        refine zz_callVV [zl 700594] zd_14_108_267 zk_Md_604 zT_1079 (zz_ltn hn rfl) rfl rfl ⟨Nat.le_of_ble_eq_true rfl, Nat.le_of_ble_eq_true rfl⟩ ⟨rfl, rfl⟩ (Nat.zero_le _) (Nat.zero_le _) (zc_sayCode_14_106 700594 S71 n hn G_S71 (by omega) (by omega) (by omega)) (fun S79 hP => ?_)
                        obtain ⟨G_S79, fS79, o81, o82, o83⟩ := hP
                        have F_S79 := zz_fr.trans F_S71 fS79 rfl zz_nv
                        have g84 := zz_G.r G_S79 1079 34 0 200 rfl rfl
                        exact zz_vret zd_14_108_270 rfl (Nat.zero_le _) (Nat.zero_le _) ⟨_, rfl, G_S79, F_S79, by omega, by omega, (fun K a b kh kw ch ad h w st ed sh rl hq hx eK ea eb ekh ekw ech ead est eed esh h0 => by unfold zs_lq at hq; unfold zs_lx at hx; have t9 := zs_sh esh (by omega) (by omega) av52; subst ea ekh ekw ech est eed; have k1 := o11 _ zs_wpool h0 zs_kpool; have k2 := o18 _ k1 (by omega); have k3 := o25 _ zs_wby k2 zs_kby; have k4 := o32 _ k3 (by omega); have k5 := o38 _ zs_wx k4 zs_kx; have k6 := o45 _ k5 (by omega); have k7 := o68 _ zs_wshift k6 zs_kshift; have k8 := o75 _ k7 (by have z9 := zs_sh esh (by omega) (by omega) av69; omega); rw [zs_sh esh (by omega) (by omega) av69] at k8; have k9 := o83 _ zs_wrelu k8 zs_krelu; exact zs_opH k9 (zs_hd2 (by omega)) (if_pos (by omega)) (if_pos (by omega)) (if_neg (by omega)) (if_neg (by omega)))⟩
                  · exfalso; omega
                · refine zz_aload_n (x := 1079) rfl zd_14_108_173 ?_
                  refine zz_ldc2 (z := 530067) zq_Md_171 (by decide) zd_14_108_174 ?_
                  have g85 := zz_G.r G_S41 1079 34 0 200 rfl rfl
                  refine zz_callVV [zl 530067] zd_14_108_177 zk_Md_604 zT_1079 (zz_ltn hn rfl) rfl rfl ⟨Nat.le_of_ble_eq_true rfl, Nat.le_of_ble_eq_true rfl⟩ ⟨rfl, rfl⟩ (Nat.zero_le _) (Nat.zero_le _) (zc_sayCode_14_106 530067 S41 n hn G_S41 (by omega) (by omega) (by omega)) (fun S86 hP => ?_)
                  obtain ⟨G_S86, fS86, o88, o89, o90⟩ := hP
                  have F_S86 := zz_fr.trans F_S41 fS86 rfl zz_nv
                  refine zz_aload_n (x := 1079) rfl zd_14_108_180 ?_
                  refine zz_aload_n (x := 1079) rfl zd_14_108_181 ?_
                  refine zz_getr (kd := 0) (z := 1111) zd_14_108_182 zf_Md_115 zT_1079 rfl (zz_ltn hn rfl) (zz_G.eq G_S86 1079 46 1111 rfl rfl) (by decide) 1111 rfl ?_
                  refine zz_iload_n (x := p0) rfl zd_14_108_185 ?_
                  refine zz_iald (z := S0 1111 p0.toNat) zd_14_108_186 zT_1111 rfl (zz_ltn hn rfl) (by decide) (by omega) (zz_rc fS86 (zz_nc1 rfl) rfl (fun h => h) (zz_rc fS41 (zz_nc1 rfl) rfl (fun h => h) (zz_rc fS34 (zz_nc1 rfl) rfl (fun h => h) (zz_rc fS28 (zz_nc1 rfl) rfl (fun h => h) (zz_rc fS21 (zz_nc1 rfl) rfl (fun h => h) (zz_rc fS14 (zz_nc1 rfl) rfl (fun h => h) (zz_rc fS7 (zz_nc1 rfl) rfl (fun h => h) rfl))))))) ?_
                  have g91 := zz_G.r G_S86 1079 34 0 200 rfl rfl
                  refine zz_callVV [zi (S0 1111 p0.toNat)] zd_14_108_187 zk_Md_607 zT_1079 (zz_ltn hn rfl) rfl rfl ⟨Nat.le_of_ble_eq_true rfl, Nat.le_of_ble_eq_true rfl⟩ ⟨rfl, rfl⟩ (Nat.zero_le _) (Nat.zero_le _) (zc_sayCount_14_107 (S0 1111 p0.toNat) S86 n hn G_S86 (by omega) (by omega)) (fun S92 hP => ?_)
                  obtain ⟨G_S92, fS92, o94, o95, o96⟩ := hP
                  have F_S92 := zz_fr.trans F_S86 fS92 rfl zz_nv
                  refine zz_iload_n (x := 0) rfl zd_14_108_190 ?_
                  refine zz_if_eq (by omega) zd_14_108_191 (fun c97 => ?_) (fun c97 => ?_)
                  · refine zz_aload_n (x := 1079) rfl zd_14_108_220 ?_
                    refine zz_getr (kd := 0) (z := 1113) zd_14_108_221 zf_Md_121 zT_1079 rfl (zz_ltn hn rfl) (zz_G.eq G_S92 1079 48 1113 rfl rfl) (by decide) 1113 rfl ?_
                    refine zz_iload_n (x := p0) rfl zd_14_108_224 ?_
                    have g98 := zz_G.r G_S0 1113 p0.toNat 0 31 rfl rfl
                    refine zz_iald (z := S0 1113 p0.toNat) zd_14_108_225 zT_1113 rfl (zz_ltn hn rfl) (by decide) (by omega) (zz_rc fS92 (zz_nc1 rfl) rfl (fun h => h) (zz_rc fS86 (zz_nc1 rfl) rfl (fun h => h) (zz_rc fS41 (zz_nc1 rfl) rfl (fun h => h) (zz_rc fS34 (zz_nc1 rfl) rfl (fun h => h) (zz_rc fS28 (zz_nc1 rfl) rfl (fun h => h) (zz_rc fS21 (zz_nc1 rfl) rfl (fun h => h) (zz_rc fS14 (zz_nc1 rfl) rfl (fun h => h) (zz_rc fS7 (zz_nc1 rfl) rfl (fun h => h) rfl)))))))) ?_
                    refine zz_bipush (by decide) zd_14_108_226 ?_
                    refine zz_irem (by omega) (by omega) zd_14_108_228 (fun v99 hv99 av99 bv99 cv99 => ?_)
                    skip
                    refine zz_if_le (by omega) zd_14_108_229 (fun c100 => ?_) (fun c100 => ?_)
                    · refine zz_aload_n (x := 1079) rfl zd_14_108_252 ?_
                      refine zz_getr (kd := 0) (z := 1113) zd_14_108_253 zf_Md_121 zT_1079 rfl (zz_ltn hn rfl) (zz_G.eq G_S92 1079 48 1113 rfl rfl) (by decide) 1113 rfl ?_
                      refine zz_iload_n (x := p0) rfl zd_14_108_256 ?_
                      refine zz_iald (z := S0 1113 p0.toNat) zd_14_108_257 zT_1113 rfl (zz_ltn hn rfl) (by decide) (by omega) (zz_rc fS92 (zz_nc1 rfl) rfl (fun h => h) (zz_rc fS86 (zz_nc1 rfl) rfl (fun h => h) (zz_rc fS41 (zz_nc1 rfl) rfl (fun h => h) (zz_rc fS34 (zz_nc1 rfl) rfl (fun h => h) (zz_rc fS28 (zz_nc1 rfl) rfl (fun h => h) (zz_rc fS21 (zz_nc1 rfl) rfl (fun h => h) (zz_rc fS14 (zz_nc1 rfl) rfl (fun h => h) (zz_rc fS7 (zz_nc1 rfl) rfl (fun h => h) rfl)))))))) ?_
                      refine zz_bipush (by decide) zd_14_108_258 ?_
                      refine zz_icmp_le (by omega) (by omega) zd_14_108_260 (fun c101 => ?_) (fun c101 => ?_)
                      · have g102 := zz_G.r G_S92 1079 34 0 200 rfl rfl
                        exact zz_vret zd_14_108_270 rfl (Nat.zero_le _) (Nat.zero_le _) ⟨_, rfl, G_S92, F_S92, by omega, by omega, (fun K a b kh kw ch ad h w st ed sh rl hq hx eK ea eb ekh ekw ech ead est eed esh h0 => by unfold zs_lq at hq; unfold zs_lx at hx; have t9 := zs_sh esh (by omega) (by omega) av99; subst ea ekh ekw ech est eed; have k1 := o11 _ zs_wpool h0 zs_kpool; have k2 := o18 _ k1 (by omega); have k3 := o25 _ zs_wby k2 zs_kby; have k4 := o32 _ k3 (by omega); have k5 := o38 _ zs_wx k4 zs_kx; have k6 := o45 _ k5 (by omega); have k7 := o90 _ zs_wstep k6 zs_kstep; have k8 := o96 _ k7 (by omega); exact zs_opH k8 (zs_hd2 (by omega)) (if_neg (by omega)) (if_pos (by omega)) (if_pos (by omega)) (if_pos (by omega)))⟩
                      · refine zz_aload_n (x := 1079) rfl zd_14_108_263 ?_
                        refine zz_ldc2 (z := 700594) zq_Md_546 (by decide) zd_14_108_264 ?_
                        have g103 := zz_G.r G_S92 1079 34 0 200 rfl rfl
                        refine zz_callVV [zl 700594] zd_14_108_267 zk_Md_604 zT_1079 (zz_ltn hn rfl) rfl rfl ⟨Nat.le_of_ble_eq_true rfl, Nat.le_of_ble_eq_true rfl⟩ ⟨rfl, rfl⟩ (Nat.zero_le _) (Nat.zero_le _) (zc_sayCode_14_106 700594 S92 n hn G_S92 (by omega) (by omega) (by omega)) (fun S104 hP => ?_)
                        obtain ⟨G_S104, fS104, o106, o107, o108⟩ := hP
                        have F_S104 := zz_fr.trans F_S92 fS104 rfl zz_nv
                        have g109 := zz_G.r G_S104 1079 34 0 200 rfl rfl
                        exact zz_vret zd_14_108_270 rfl (Nat.zero_le _) (Nat.zero_le _) ⟨_, rfl, G_S104, F_S104, by omega, by omega, (fun K a b kh kw ch ad h w st ed sh rl hq hx eK ea eb ekh ekw ech ead est eed esh h0 => by unfold zs_lq at hq; unfold zs_lx at hx; have t9 := zs_sh esh (by omega) (by omega) av99; subst ea ekh ekw ech est eed; have k1 := o11 _ zs_wpool h0 zs_kpool; have k2 := o18 _ k1 (by omega); have k3 := o25 _ zs_wby k2 zs_kby; have k4 := o32 _ k3 (by omega); have k5 := o38 _ zs_wx k4 zs_kx; have k6 := o45 _ k5 (by omega); have k7 := o90 _ zs_wstep k6 zs_kstep; have k8 := o96 _ k7 (by omega); have k9 := o108 _ zs_wrelu k8 zs_krelu; exact zs_opH k9 (zs_hd2 (by omega)) (if_neg (by omega)) (if_pos (by omega)) (if_pos (by omega)) (if_neg (by omega)))⟩
                    · refine zz_aload_n (x := 1079) rfl zd_14_108_232 ?_
                      refine zz_ldc2 (z := 21177619) zq_Md_544 (by decide) zd_14_108_233 ?_
                      have g110 := zz_G.r G_S92 1079 34 0 200 rfl rfl
                      refine zz_callVV [zl 21177619] zd_14_108_236 zk_Md_604 zT_1079 (zz_ltn hn rfl) rfl rfl ⟨Nat.le_of_ble_eq_true rfl, Nat.le_of_ble_eq_true rfl⟩ ⟨rfl, rfl⟩ (Nat.zero_le _) (Nat.zero_le _) (zc_sayCode_14_106 21177619 S92 n hn G_S92 (by omega) (by omega) (by omega)) (fun S111 hP => ?_)
                      obtain ⟨G_S111, fS111, o113, o114, o115⟩ := hP
                      have F_S111 := zz_fr.trans F_S92 fS111 rfl zz_nv
                      refine zz_aload_n (x := 1079) rfl zd_14_108_239 ?_
                      refine zz_aload_n (x := 1079) rfl zd_14_108_240 ?_
                      refine zz_getr (kd := 0) (z := 1113) zd_14_108_241 zf_Md_121 zT_1079 rfl (zz_ltn hn rfl) (zz_G.eq G_S111 1079 48 1113 rfl rfl) (by decide) 1113 rfl ?_
                      refine zz_iload_n (x := p0) rfl zd_14_108_244 ?_
                      refine zz_iald (z := S0 1113 p0.toNat) zd_14_108_245 zT_1113 rfl (zz_ltn hn rfl) (by decide) (by omega) (zz_rc fS111 (zz_nc1 rfl) rfl (fun h => h) (zz_rc fS92 (zz_nc1 rfl) rfl (fun h => h) (zz_rc fS86 (zz_nc1 rfl) rfl (fun h => h) (zz_rc fS41 (zz_nc1 rfl) rfl (fun h => h) (zz_rc fS34 (zz_nc1 rfl) rfl (fun h => h) (zz_rc fS28 (zz_nc1 rfl) rfl (fun h => h) (zz_rc fS21 (zz_nc1 rfl) rfl (fun h => h) (zz_rc fS14 (zz_nc1 rfl) rfl (fun h => h) (zz_rc fS7 (zz_nc1 rfl) rfl (fun h => h) rfl))))))))) ?_
                      refine zz_bipush (by decide) zd_14_108_246 ?_
                      refine zz_irem (by omega) (by omega) zd_14_108_248 (fun v116 hv116 av116 bv116 cv116 => ?_)
                      have g117 := zz_G.r G_S111 1079 34 0 200 rfl rfl
                      refine zz_callVV [zi v116] zd_14_108_249 zk_Md_607 zT_1079 (zz_ltn hn rfl) rfl rfl ⟨Nat.le_of_ble_eq_true rfl, Nat.le_of_ble_eq_true rfl⟩ ⟨rfl, rfl⟩ (Nat.zero_le _) (Nat.zero_le _) (zc_sayCount_14_107 v116 S111 n hn G_S111 (by omega) (by omega)) (fun S118 hP => ?_)
                      obtain ⟨G_S118, fS118, o120, o121, o122⟩ := hP
                      have F_S118 := zz_fr.trans F_S111 fS118 rfl zz_nv
                      refine zz_aload_n (x := 1079) rfl zd_14_108_252 ?_
                      refine zz_getr (kd := 0) (z := 1113) zd_14_108_253 zf_Md_121 zT_1079 rfl (zz_ltn hn rfl) (zz_G.eq G_S118 1079 48 1113 rfl rfl) (by decide) 1113 rfl ?_
                      refine zz_iload_n (x := p0) rfl zd_14_108_256 ?_
                      refine zz_iald (z := S0 1113 p0.toNat) zd_14_108_257 zT_1113 rfl (zz_ltn hn rfl) (by decide) (by omega) (zz_rc fS118 (zz_nc1 rfl) rfl (fun h => h) (zz_rc fS111 (zz_nc1 rfl) rfl (fun h => h) (zz_rc fS92 (zz_nc1 rfl) rfl (fun h => h) (zz_rc fS86 (zz_nc1 rfl) rfl (fun h => h) (zz_rc fS41 (zz_nc1 rfl) rfl (fun h => h) (zz_rc fS34 (zz_nc1 rfl) rfl (fun h => h) (zz_rc fS28 (zz_nc1 rfl) rfl (fun h => h) (zz_rc fS21 (zz_nc1 rfl) rfl (fun h => h) (zz_rc fS14 (zz_nc1 rfl) rfl (fun h => h) (zz_rc fS7 (zz_nc1 rfl) rfl (fun h => h) rfl)))))))))) ?_
                      refine zz_bipush (by decide) zd_14_108_258 ?_
                      refine zz_icmp_le (by omega) (by omega) zd_14_108_260 (fun c123 => ?_) (fun c123 => ?_)
                      · have g124 := zz_G.r G_S118 1079 34 0 200 rfl rfl
                        exact zz_vret zd_14_108_270 rfl (Nat.zero_le _) (Nat.zero_le _) ⟨_, rfl, G_S118, F_S118, by omega, by omega, (fun K a b kh kw ch ad h w st ed sh rl hq hx eK ea eb ekh ekw ech ead est eed esh h0 => by unfold zs_lq at hq; unfold zs_lx at hx; have t9 := zs_sh esh (by omega) (by omega) av99; subst ea ekh ekw ech est eed; have k1 := o11 _ zs_wpool h0 zs_kpool; have k2 := o18 _ k1 (by omega); have k3 := o25 _ zs_wby k2 zs_kby; have k4 := o32 _ k3 (by omega); have k5 := o38 _ zs_wx k4 zs_kx; have k6 := o45 _ k5 (by omega); have k7 := o90 _ zs_wstep k6 zs_kstep; have k8 := o96 _ k7 (by omega); have k9 := o115 _ zs_wshift k8 zs_kshift; have k10 := o122 _ k9 (by have z9 := zs_sh esh (by omega) (by omega) av116; omega); rw [zs_sh esh (by omega) (by omega) av116] at k10; exact zs_opH k10 (zs_hd2 (by omega)) (if_neg (by omega)) (if_pos (by omega)) (if_neg (by omega)) (if_pos (by omega)))⟩
                      · refine zz_aload_n (x := 1079) rfl zd_14_108_263 ?_
                        refine zz_ldc2 (z := 700594) zq_Md_546 (by decide) zd_14_108_264 ?_
                        have g125 := zz_G.r G_S118 1079 34 0 200 rfl rfl
                        refine zz_callVV [zl 700594] zd_14_108_267 zk_Md_604 zT_1079 (zz_ltn hn rfl) rfl rfl ⟨Nat.le_of_ble_eq_true rfl, Nat.le_of_ble_eq_true rfl⟩ ⟨rfl, rfl⟩ (Nat.zero_le _) (Nat.zero_le _) (zc_sayCode_14_106 700594 S118 n hn G_S118 (by omega) (by omega) (by omega)) (fun S126 hP => ?_)
                        obtain ⟨G_S126, fS126, o128, o129, o130⟩ := hP
                        have F_S126 := zz_fr.trans F_S118 fS126 rfl zz_nv
                        have g131 := zz_G.r G_S126 1079 34 0 200 rfl rfl
                        exact zz_vret zd_14_108_270 rfl (Nat.zero_le _) (Nat.zero_le _) ⟨_, rfl, G_S126, F_S126, by omega, by omega, (fun K a b kh kw ch ad h w st ed sh rl hq hx eK ea eb ekh ekw ech ead est eed esh h0 => by unfold zs_lq at hq; unfold zs_lx at hx; have t9 := zs_sh esh (by omega) (by omega) av99; subst ea ekh ekw ech est eed; have k1 := o11 _ zs_wpool h0 zs_kpool; have k2 := o18 _ k1 (by omega); have k3 := o25 _ zs_wby k2 zs_kby; have k4 := o32 _ k3 (by omega); have k5 := o38 _ zs_wx k4 zs_kx; have k6 := o45 _ k5 (by omega); have k7 := o90 _ zs_wstep k6 zs_kstep; have k8 := o96 _ k7 (by omega); have k9 := o115 _ zs_wshift k8 zs_kshift; have k10 := o122 _ k9 (by have z9 := zs_sh esh (by omega) (by omega) av116; omega); rw [zs_sh esh (by omega) (by omega) av116] at k10; have k11 := o130 _ zs_wrelu k10 zs_krelu; exact zs_opH k11 (zs_hd2 (by omega)) (if_neg (by omega)) (if_pos (by omega)) (if_neg (by omega)) (if_neg (by omega)))⟩
                  · exfalso; omega
            · exfalso; omega
          · exfalso; omega
        · exfalso; omega
      · exfalso; omega
    · refine zz_iconst zd_14_108_25 ?_
      refine zz_goto zd_14_108_26 ?_
      refine zz_istore_n [some (.ref 1079), some (zi p0), some (zi 0), some (zi 1)] zd_14_108_30 (by decide) rfl ?_
      refine zz_aload_n (x := 1079) rfl zd_14_108_31 ?_
      refine zz_iload_n (x := 0) rfl zd_14_108_32 ?_
      refine zz_if_eq (by omega) zd_14_108_33 (fun c132 => ?_) (fun c132 => ?_)
      · refine zz_iload_n (x := 1) rfl zd_14_108_42 ?_
        refine zz_if_eq (by omega) zd_14_108_43 (fun c133 => ?_) (fun c133 => ?_)
        · exfalso; omega
        · refine zz_ldc2 (z := 4225) zq_Md_538 (by decide) zd_14_108_46 ?_
          refine zz_goto zd_14_108_49 ?_
          have g134 := zz_G.r G_S0 1079 34 0 200 rfl rfl
          refine zz_callVV [zl 4225] zd_14_108_55 zk_Md_604 zT_1079 (zz_ltn hn rfl) rfl rfl ⟨Nat.le_of_ble_eq_true rfl, Nat.le_of_ble_eq_true rfl⟩ ⟨rfl, rfl⟩ (Nat.zero_le _) (Nat.zero_le _) (zc_sayCode_14_106 4225 S0 n hn G_S0 (by omega) (by omega) (by omega)) (fun S135 hP => ?_)
          obtain ⟨G_S135, fS135, o137, o138, o139⟩ := hP
          have F_S135 := zz_fr.trans F_S0 fS135 rfl zz_nv
          refine zz_aload_n (x := 1079) rfl zd_14_108_58 ?_
          refine zz_aload_n (x := 1079) rfl zd_14_108_59 ?_
          refine zz_getr (kd := 0) (z := 1107) zd_14_108_60 zf_Md_103 zT_1079 rfl (zz_ltn hn rfl) (zz_G.eq G_S135 1079 42 1107 rfl rfl) (by decide) 1107 rfl ?_
          refine zz_iload_n (x := p0) rfl zd_14_108_63 ?_
          have g140 := zz_G.r G_S0 1107 p0.toNat 0 10 rfl rfl
          refine zz_iald (z := S0 1107 p0.toNat) zd_14_108_64 zT_1107 rfl (zz_ltn hn rfl) (by decide) (by omega) (zz_rc fS135 (zz_nc1 rfl) rfl (fun h => h) rfl) ?_
          have g141 := zz_G.r G_S135 1079 34 0 200 rfl rfl
          refine zz_callVV [zi (S0 1107 p0.toNat)] zd_14_108_65 zk_Md_607 zT_1079 (zz_ltn hn rfl) rfl rfl ⟨Nat.le_of_ble_eq_true rfl, Nat.le_of_ble_eq_true rfl⟩ ⟨rfl, rfl⟩ (Nat.zero_le _) (Nat.zero_le _) (zc_sayCount_14_107 (S0 1107 p0.toNat) S135 n hn G_S135 (by omega) (by omega)) (fun S142 hP => ?_)
          obtain ⟨G_S142, fS142, o144, o145, o146⟩ := hP
          have F_S142 := zz_fr.trans F_S135 fS142 rfl zz_nv
          refine zz_iload_n (x := 1) rfl zd_14_108_68 ?_
          refine zz_if_eq (by omega) zd_14_108_69 (fun c147 => ?_) (fun c147 => ?_)
          · exfalso; omega
          · refine zz_aload_n (x := 1079) rfl zd_14_108_72 ?_
            refine zz_aload_n (x := 1079) rfl zd_14_108_73 ?_
            refine zz_getr (kd := 0) (z := 1108) zd_14_108_74 zf_Md_106 zT_1079 rfl (zz_ltn hn rfl) (zz_G.eq G_S142 1079 43 1108 rfl rfl) (by decide) 1108 rfl ?_
            refine zz_iload_n (x := p0) rfl zd_14_108_77 ?_
            have g148 := zz_G.r G_S0 1108 p0.toNat 0 10 rfl rfl
            refine zz_iald (z := S0 1108 p0.toNat) zd_14_108_78 zT_1108 rfl (zz_ltn hn rfl) (by decide) (by omega) (zz_rc fS142 (zz_nc1 rfl) rfl (fun h => h) (zz_rc fS135 (zz_nc1 rfl) rfl (fun h => h) rfl)) ?_
            have g149 := zz_G.r G_S142 1079 34 0 200 rfl rfl
            refine zz_callVV [zi (S0 1108 p0.toNat)] zd_14_108_79 zk_Md_607 zT_1079 (zz_ltn hn rfl) rfl rfl ⟨Nat.le_of_ble_eq_true rfl, Nat.le_of_ble_eq_true rfl⟩ ⟨rfl, rfl⟩ (Nat.zero_le _) (Nat.zero_le _) (zc_sayCount_14_107 (S0 1108 p0.toNat) S142 n hn G_S142 (by omega) (by omega)) (fun S150 hP => ?_)
            obtain ⟨G_S150, fS150, o152, o153, o154⟩ := hP
            have F_S150 := zz_fr.trans F_S142 fS150 rfl zz_nv
            refine zz_goto zd_14_108_82 ?_
            refine zz_iload_n (x := 0) rfl zd_14_108_119 ?_
            refine zz_if_eq (by omega) zd_14_108_120 (fun c155 => ?_) (fun c155 => ?_)
            · refine zz_iload_n (x := 1) rfl zd_14_108_159 ?_
              refine zz_if_ne (by omega) zd_14_108_160 (fun c156 => ?_) (fun c156 => ?_)
              · refine zz_iload_n (x := 0) rfl zd_14_108_190 ?_
                refine zz_if_eq (by omega) zd_14_108_191 (fun c157 => ?_) (fun c157 => ?_)
                · refine zz_aload_n (x := 1079) rfl zd_14_108_220 ?_
                  refine zz_getr (kd := 0) (z := 1113) zd_14_108_221 zf_Md_121 zT_1079 rfl (zz_ltn hn rfl) (zz_G.eq G_S150 1079 48 1113 rfl rfl) (by decide) 1113 rfl ?_
                  refine zz_iload_n (x := p0) rfl zd_14_108_224 ?_
                  have g158 := zz_G.r G_S0 1113 p0.toNat 0 31 rfl rfl
                  refine zz_iald (z := S0 1113 p0.toNat) zd_14_108_225 zT_1113 rfl (zz_ltn hn rfl) (by decide) (by omega) (zz_rc fS150 (zz_nc1 rfl) rfl (fun h => h) (zz_rc fS142 (zz_nc1 rfl) rfl (fun h => h) (zz_rc fS135 (zz_nc1 rfl) rfl (fun h => h) rfl))) ?_
                  refine zz_bipush (by decide) zd_14_108_226 ?_
                  refine zz_irem (by omega) (by omega) zd_14_108_228 (fun v159 hv159 av159 bv159 cv159 => ?_)
                  skip
                  refine zz_if_le (by omega) zd_14_108_229 (fun c160 => ?_) (fun c160 => ?_)
                  · refine zz_aload_n (x := 1079) rfl zd_14_108_252 ?_
                    refine zz_getr (kd := 0) (z := 1113) zd_14_108_253 zf_Md_121 zT_1079 rfl (zz_ltn hn rfl) (zz_G.eq G_S150 1079 48 1113 rfl rfl) (by decide) 1113 rfl ?_
                    refine zz_iload_n (x := p0) rfl zd_14_108_256 ?_
                    refine zz_iald (z := S0 1113 p0.toNat) zd_14_108_257 zT_1113 rfl (zz_ltn hn rfl) (by decide) (by omega) (zz_rc fS150 (zz_nc1 rfl) rfl (fun h => h) (zz_rc fS142 (zz_nc1 rfl) rfl (fun h => h) (zz_rc fS135 (zz_nc1 rfl) rfl (fun h => h) rfl))) ?_
                    refine zz_bipush (by decide) zd_14_108_258 ?_
                    refine zz_icmp_le (by omega) (by omega) zd_14_108_260 (fun c161 => ?_) (fun c161 => ?_)
                    · have g162 := zz_G.r G_S150 1079 34 0 200 rfl rfl
                      exact zz_vret zd_14_108_270 rfl (Nat.zero_le _) (Nat.zero_le _) ⟨_, rfl, G_S150, F_S150, by omega, by omega, (fun K a b kh kw ch ad h w st ed sh rl hq hx eK ea eb ekh ekw ech ead est eed esh h0 => by unfold zs_lq at hq; unfold zs_lx at hx; have t9 := zs_sh esh (by omega) (by omega) av159; have eb := eb (by omega); subst eb; subst ea ekh ekw ech est eed; have k1 := o139 _ zs_wadd h0 zs_kadd; have k2 := o146 _ k1 (by omega); have k3 := o154 _ k2 (by omega); exact zs_opH k3 (zs_hd3 (by omega)) (if_pos (by omega)) (if_pos (by omega)) (if_pos (by omega)) (if_pos (by omega)))⟩
                    · refine zz_aload_n (x := 1079) rfl zd_14_108_263 ?_
                      refine zz_ldc2 (z := 700594) zq_Md_546 (by decide) zd_14_108_264 ?_
                      have g163 := zz_G.r G_S150 1079 34 0 200 rfl rfl
                      refine zz_callVV [zl 700594] zd_14_108_267 zk_Md_604 zT_1079 (zz_ltn hn rfl) rfl rfl ⟨Nat.le_of_ble_eq_true rfl, Nat.le_of_ble_eq_true rfl⟩ ⟨rfl, rfl⟩ (Nat.zero_le _) (Nat.zero_le _) (zc_sayCode_14_106 700594 S150 n hn G_S150 (by omega) (by omega) (by omega)) (fun S164 hP => ?_)
                      obtain ⟨G_S164, fS164, o166, o167, o168⟩ := hP
                      have F_S164 := zz_fr.trans F_S150 fS164 rfl zz_nv
                      have g169 := zz_G.r G_S164 1079 34 0 200 rfl rfl
                      exact zz_vret zd_14_108_270 rfl (Nat.zero_le _) (Nat.zero_le _) ⟨_, rfl, G_S164, F_S164, by omega, by omega, (fun K a b kh kw ch ad h w st ed sh rl hq hx eK ea eb ekh ekw ech ead est eed esh h0 => by unfold zs_lq at hq; unfold zs_lx at hx; have t9 := zs_sh esh (by omega) (by omega) av159; have eb := eb (by omega); subst eb; subst ea ekh ekw ech est eed; have k1 := o139 _ zs_wadd h0 zs_kadd; have k2 := o146 _ k1 (by omega); have k3 := o154 _ k2 (by omega); have k4 := o168 _ zs_wrelu k3 zs_krelu; exact zs_opH k4 (zs_hd3 (by omega)) (if_pos (by omega)) (if_pos (by omega)) (if_pos (by omega)) (if_neg (by omega)))⟩
                  · refine zz_aload_n (x := 1079) rfl zd_14_108_232 ?_
                    refine zz_ldc2 (z := 21177619) zq_Md_544 (by decide) zd_14_108_233 ?_
                    have g170 := zz_G.r G_S150 1079 34 0 200 rfl rfl
                    refine zz_callVV [zl 21177619] zd_14_108_236 zk_Md_604 zT_1079 (zz_ltn hn rfl) rfl rfl ⟨Nat.le_of_ble_eq_true rfl, Nat.le_of_ble_eq_true rfl⟩ ⟨rfl, rfl⟩ (Nat.zero_le _) (Nat.zero_le _) (zc_sayCode_14_106 21177619 S150 n hn G_S150 (by omega) (by omega) (by omega)) (fun S171 hP => ?_)
                    obtain ⟨G_S171, fS171, o173, o174, o175⟩ := hP
                    have F_S171 := zz_fr.trans F_S150 fS171 rfl zz_nv
                    refine zz_aload_n (x := 1079) rfl zd_14_108_239 ?_
                    refine zz_aload_n (x := 1079) rfl zd_14_108_240 ?_
                    refine zz_getr (kd := 0) (z := 1113) zd_14_108_241 zf_Md_121 zT_1079 rfl (zz_ltn hn rfl) (zz_G.eq G_S171 1079 48 1113 rfl rfl) (by decide) 1113 rfl ?_
                    refine zz_iload_n (x := p0) rfl zd_14_108_244 ?_
                    refine zz_iald (z := S0 1113 p0.toNat) zd_14_108_245 zT_1113 rfl (zz_ltn hn rfl) (by decide) (by omega) (zz_rc fS171 (zz_nc1 rfl) rfl (fun h => h) (zz_rc fS150 (zz_nc1 rfl) rfl (fun h => h) (zz_rc fS142 (zz_nc1 rfl) rfl (fun h => h) (zz_rc fS135 (zz_nc1 rfl) rfl (fun h => h) rfl)))) ?_
                    refine zz_bipush (by decide) zd_14_108_246 ?_
                    refine zz_irem (by omega) (by omega) zd_14_108_248 (fun v176 hv176 av176 bv176 cv176 => ?_)
                    have g177 := zz_G.r G_S171 1079 34 0 200 rfl rfl
                    refine zz_callVV [zi v176] zd_14_108_249 zk_Md_607 zT_1079 (zz_ltn hn rfl) rfl rfl ⟨Nat.le_of_ble_eq_true rfl, Nat.le_of_ble_eq_true rfl⟩ ⟨rfl, rfl⟩ (Nat.zero_le _) (Nat.zero_le _) (zc_sayCount_14_107 v176 S171 n hn G_S171 (by omega) (by omega)) (fun S178 hP => ?_)
                    obtain ⟨G_S178, fS178, o180, o181, o182⟩ := hP
                    have F_S178 := zz_fr.trans F_S171 fS178 rfl zz_nv
                    refine zz_aload_n (x := 1079) rfl zd_14_108_252 ?_
                    refine zz_getr (kd := 0) (z := 1113) zd_14_108_253 zf_Md_121 zT_1079 rfl (zz_ltn hn rfl) (zz_G.eq G_S178 1079 48 1113 rfl rfl) (by decide) 1113 rfl ?_
                    refine zz_iload_n (x := p0) rfl zd_14_108_256 ?_
                    refine zz_iald (z := S0 1113 p0.toNat) zd_14_108_257 zT_1113 rfl (zz_ltn hn rfl) (by decide) (by omega) (zz_rc fS178 (zz_nc1 rfl) rfl (fun h => h) (zz_rc fS171 (zz_nc1 rfl) rfl (fun h => h) (zz_rc fS150 (zz_nc1 rfl) rfl (fun h => h) (zz_rc fS142 (zz_nc1 rfl) rfl (fun h => h) (zz_rc fS135 (zz_nc1 rfl) rfl (fun h => h) rfl))))) ?_
                    refine zz_bipush (by decide) zd_14_108_258 ?_
                    refine zz_icmp_le (by omega) (by omega) zd_14_108_260 (fun c183 => ?_) (fun c183 => ?_)
                    · have g184 := zz_G.r G_S178 1079 34 0 200 rfl rfl
                      exact zz_vret zd_14_108_270 rfl (Nat.zero_le _) (Nat.zero_le _) ⟨_, rfl, G_S178, F_S178, by omega, by omega, (fun K a b kh kw ch ad h w st ed sh rl hq hx eK ea eb ekh ekw ech ead est eed esh h0 => by unfold zs_lq at hq; unfold zs_lx at hx; have t9 := zs_sh esh (by omega) (by omega) av159; have eb := eb (by omega); subst eb; subst ea ekh ekw ech est eed; have k1 := o139 _ zs_wadd h0 zs_kadd; have k2 := o146 _ k1 (by omega); have k3 := o154 _ k2 (by omega); have k4 := o175 _ zs_wshift k3 zs_kshift; have k5 := o182 _ k4 (by have z9 := zs_sh esh (by omega) (by omega) av176; omega); rw [zs_sh esh (by omega) (by omega) av176] at k5; exact zs_opH k5 (zs_hd3 (by omega)) (if_pos (by omega)) (if_pos (by omega)) (if_neg (by omega)) (if_pos (by omega)))⟩
                    · refine zz_aload_n (x := 1079) rfl zd_14_108_263 ?_
                      refine zz_ldc2 (z := 700594) zq_Md_546 (by decide) zd_14_108_264 ?_
                      have g185 := zz_G.r G_S178 1079 34 0 200 rfl rfl
                      refine zz_callVV [zl 700594] zd_14_108_267 zk_Md_604 zT_1079 (zz_ltn hn rfl) rfl rfl ⟨Nat.le_of_ble_eq_true rfl, Nat.le_of_ble_eq_true rfl⟩ ⟨rfl, rfl⟩ (Nat.zero_le _) (Nat.zero_le _) (zc_sayCode_14_106 700594 S178 n hn G_S178 (by omega) (by omega) (by omega)) (fun S186 hP => ?_)
                      obtain ⟨G_S186, fS186, o188, o189, o190⟩ := hP
                      have F_S186 := zz_fr.trans F_S178 fS186 rfl zz_nv
                      have g191 := zz_G.r G_S186 1079 34 0 200 rfl rfl
                      exact zz_vret zd_14_108_270 rfl (Nat.zero_le _) (Nat.zero_le _) ⟨_, rfl, G_S186, F_S186, by omega, by omega, (fun K a b kh kw ch ad h w st ed sh rl hq hx eK ea eb ekh ekw ech ead est eed esh h0 => by unfold zs_lq at hq; unfold zs_lx at hx; have t9 := zs_sh esh (by omega) (by omega) av159; have eb := eb (by omega); subst eb; subst ea ekh ekw ech est eed; have k1 := o139 _ zs_wadd h0 zs_kadd; have k2 := o146 _ k1 (by omega); have k3 := o154 _ k2 (by omega); have k4 := o175 _ zs_wshift k3 zs_kshift; have k5 := o182 _ k4 (by have z9 := zs_sh esh (by omega) (by omega) av176; omega); rw [zs_sh esh (by omega) (by omega) av176] at k5; have k6 := o190 _ zs_wrelu k5 zs_krelu; exact zs_opH k6 (zs_hd3 (by omega)) (if_pos (by omega)) (if_pos (by omega)) (if_neg (by omega)) (if_neg (by omega)))⟩
                · exfalso; omega
              · exfalso; omega
            · exfalso; omega
      · exfalso; omega
  · refine zz_iconst zd_14_108_9 ?_
    refine zz_goto zd_14_108_10 ?_
    refine zz_istore_n [some (.ref 1079), some (zi p0), some (zi 1)] zd_14_108_14 (by decide) rfl ?_
    refine zz_aload_n (x := 1079) rfl zd_14_108_15 ?_
    refine zz_getr (kd := 0) (z := 1106) zd_14_108_16 zf_Md_100 zT_1079 rfl (zz_ltn hn rfl) (zz_G.eq G_S0 1079 41 1106 rfl rfl) (by decide) 1106 rfl ?_
    refine zz_iload_n (x := p0) rfl zd_14_108_19 ?_
    refine zz_iald (z := S0 1106 p0.toNat) zd_14_108_20 zT_1106 rfl (zz_ltn hn rfl) (by decide) (by omega) rfl ?_
    refine zz_iconst zd_14_108_21 ?_
    refine zz_icmp_ne (by omega) (by omega) zd_14_108_22 (fun c192 => ?_) (fun c192 => ?_)
    · refine zz_iconst zd_14_108_29 ?_
      refine zz_istore_n [some (.ref 1079), some (zi p0), some (zi 1), some (zi 0)] zd_14_108_30 (by decide) rfl ?_
      refine zz_aload_n (x := 1079) rfl zd_14_108_31 ?_
      refine zz_iload_n (x := 1) rfl zd_14_108_32 ?_
      refine zz_if_eq (by omega) zd_14_108_33 (fun c193 => ?_) (fun c193 => ?_)
      · exfalso; omega
      · refine zz_ldc2 (z := 735715) zq_Md_534 (by decide) zd_14_108_36 ?_
        refine zz_goto zd_14_108_39 ?_
        have g194 := zz_G.r G_S0 1079 34 0 200 rfl rfl
        refine zz_callVV [zl 735715] zd_14_108_55 zk_Md_604 zT_1079 (zz_ltn hn rfl) rfl rfl ⟨Nat.le_of_ble_eq_true rfl, Nat.le_of_ble_eq_true rfl⟩ ⟨rfl, rfl⟩ (Nat.zero_le _) (Nat.zero_le _) (zc_sayCode_14_106 735715 S0 n hn G_S0 (by omega) (by omega) (by omega)) (fun S195 hP => ?_)
        obtain ⟨G_S195, fS195, o197, o198, o199⟩ := hP
        have F_S195 := zz_fr.trans F_S0 fS195 rfl zz_nv
        refine zz_aload_n (x := 1079) rfl zd_14_108_58 ?_
        refine zz_aload_n (x := 1079) rfl zd_14_108_59 ?_
        refine zz_getr (kd := 0) (z := 1107) zd_14_108_60 zf_Md_103 zT_1079 rfl (zz_ltn hn rfl) (zz_G.eq G_S195 1079 42 1107 rfl rfl) (by decide) 1107 rfl ?_
        refine zz_iload_n (x := p0) rfl zd_14_108_63 ?_
        have g200 := zz_G.r G_S0 1107 p0.toNat 0 10 rfl rfl
        refine zz_iald (z := S0 1107 p0.toNat) zd_14_108_64 zT_1107 rfl (zz_ltn hn rfl) (by decide) (by omega) (zz_rc fS195 (zz_nc1 rfl) rfl (fun h => h) rfl) ?_
        have g201 := zz_G.r G_S195 1079 34 0 200 rfl rfl
        refine zz_callVV [zi (S0 1107 p0.toNat)] zd_14_108_65 zk_Md_607 zT_1079 (zz_ltn hn rfl) rfl rfl ⟨Nat.le_of_ble_eq_true rfl, Nat.le_of_ble_eq_true rfl⟩ ⟨rfl, rfl⟩ (Nat.zero_le _) (Nat.zero_le _) (zc_sayCount_14_107 (S0 1107 p0.toNat) S195 n hn G_S195 (by omega) (by omega)) (fun S202 hP => ?_)
        obtain ⟨G_S202, fS202, o204, o205, o206⟩ := hP
        have F_S202 := zz_fr.trans F_S195 fS202 rfl zz_nv
        refine zz_iload_n (x := 0) rfl zd_14_108_68 ?_
        refine zz_if_eq (by omega) zd_14_108_69 (fun c207 => ?_) (fun c207 => ?_)
        · refine zz_aload_n (x := 1079) rfl zd_14_108_85 ?_
          refine zz_ldc2 (z := 802) zq_Md_165 (by decide) zd_14_108_86 ?_
          have g208 := zz_G.r G_S202 1079 34 0 200 rfl rfl
          refine zz_callVV [zl 802] zd_14_108_89 zk_Md_604 zT_1079 (zz_ltn hn rfl) rfl rfl ⟨Nat.le_of_ble_eq_true rfl, Nat.le_of_ble_eq_true rfl⟩ ⟨rfl, rfl⟩ (Nat.zero_le _) (Nat.zero_le _) (zc_sayCode_14_106 802 S202 n hn G_S202 (by omega) (by omega) (by omega)) (fun S209 hP => ?_)
          obtain ⟨G_S209, fS209, o211, o212, o213⟩ := hP
          have F_S209 := zz_fr.trans F_S202 fS209 rfl zz_nv
          refine zz_aload_n (x := 1079) rfl zd_14_108_92 ?_
          refine zz_aload_n (x := 1079) rfl zd_14_108_93 ?_
          refine zz_getr (kd := 0) (z := 1109) zd_14_108_94 zf_Md_109 zT_1079 rfl (zz_ltn hn rfl) (zz_G.eq G_S209 1079 44 1109 rfl rfl) (by decide) 1109 rfl ?_
          refine zz_iload_n (x := p0) rfl zd_14_108_97 ?_
          have g214 := zz_G.r G_S0 1109 p0.toNat 0 3 rfl rfl
          refine zz_iald (z := S0 1109 p0.toNat) zd_14_108_98 zT_1109 rfl (zz_ltn hn rfl) (by decide) (by omega) (zz_rc fS209 (zz_nc1 rfl) rfl (fun h => h) (zz_rc fS202 (zz_nc1 rfl) rfl (fun h => h) (zz_rc fS195 (zz_nc1 rfl) rfl (fun h => h) rfl))) ?_
          have g215 := zz_G.r G_S209 1079 34 0 200 rfl rfl
          refine zz_callVV [zi (S0 1109 p0.toNat)] zd_14_108_99 zk_Md_607 zT_1079 (zz_ltn hn rfl) rfl rfl ⟨Nat.le_of_ble_eq_true rfl, Nat.le_of_ble_eq_true rfl⟩ ⟨rfl, rfl⟩ (Nat.zero_le _) (Nat.zero_le _) (zc_sayCount_14_107 (S0 1109 p0.toNat) S209 n hn G_S209 (by omega) (by omega)) (fun S216 hP => ?_)
          obtain ⟨G_S216, fS216, o218, o219, o220⟩ := hP
          have F_S216 := zz_fr.trans F_S209 fS216 rfl zz_nv
          refine zz_aload_n (x := 1079) rfl zd_14_108_102 ?_
          refine zz_ldc2 (z := 24) zq_Md_167 (by decide) zd_14_108_103 ?_
          have g221 := zz_G.r G_S216 1079 34 0 200 rfl rfl
          refine zz_callVV [zl 24] zd_14_108_106 zk_Md_604 zT_1079 (zz_ltn hn rfl) rfl rfl ⟨Nat.le_of_ble_eq_true rfl, Nat.le_of_ble_eq_true rfl⟩ ⟨rfl, rfl⟩ (Nat.zero_le _) (Nat.zero_le _) (zc_sayCode_14_106 24 S216 n hn G_S216 (by omega) (by omega) (by omega)) (fun S222 hP => ?_)
          obtain ⟨G_S222, fS222, o224, o225, o226⟩ := hP
          have F_S222 := zz_fr.trans F_S216 fS222 rfl zz_nv
          refine zz_aload_n (x := 1079) rfl zd_14_108_109 ?_
          refine zz_aload_n (x := 1079) rfl zd_14_108_110 ?_
          refine zz_getr (kd := 0) (z := 1110) zd_14_108_111 zf_Md_112 zT_1079 rfl (zz_ltn hn rfl) (zz_G.eq G_S222 1079 45 1110 rfl rfl) (by decide) 1110 rfl ?_
          refine zz_iload_n (x := p0) rfl zd_14_108_114 ?_
          have g227 := zz_G.r G_S0 1110 p0.toNat 0 3 rfl rfl
          refine zz_iald (z := S0 1110 p0.toNat) zd_14_108_115 zT_1110 rfl (zz_ltn hn rfl) (by decide) (by omega) (zz_rc fS222 (zz_nc1 rfl) rfl (fun h => h) (zz_rc fS216 (zz_nc1 rfl) rfl (fun h => h) (zz_rc fS209 (zz_nc1 rfl) rfl (fun h => h) (zz_rc fS202 (zz_nc1 rfl) rfl (fun h => h) (zz_rc fS195 (zz_nc1 rfl) rfl (fun h => h) rfl))))) ?_
          have g228 := zz_G.r G_S222 1079 34 0 200 rfl rfl
          refine zz_callVV [zi (S0 1110 p0.toNat)] zd_14_108_116 zk_Md_607 zT_1079 (zz_ltn hn rfl) rfl rfl ⟨Nat.le_of_ble_eq_true rfl, Nat.le_of_ble_eq_true rfl⟩ ⟨rfl, rfl⟩ (Nat.zero_le _) (Nat.zero_le _) (zc_sayCount_14_107 (S0 1110 p0.toNat) S222 n hn G_S222 (by omega) (by omega)) (fun S229 hP => ?_)
          obtain ⟨G_S229, fS229, o231, o232, o233⟩ := hP
          have F_S229 := zz_fr.trans F_S222 fS229 rfl zz_nv
          refine zz_iload_n (x := 1) rfl zd_14_108_119 ?_
          refine zz_if_eq (by omega) zd_14_108_120 (fun c234 => ?_) (fun c234 => ?_)
          · exfalso; omega
          · refine zz_aload_n (x := 1079) rfl zd_14_108_123 ?_
            refine zz_ldc2 (z := 21094748847) zq_Md_540 (by decide) zd_14_108_124 ?_
            have g235 := zz_G.r G_S229 1079 34 0 200 rfl rfl
            refine zz_callVV [zl 21094748847] zd_14_108_127 zk_Md_604 zT_1079 (zz_ltn hn rfl) rfl rfl ⟨Nat.le_of_ble_eq_true rfl, Nat.le_of_ble_eq_true rfl⟩ ⟨rfl, rfl⟩ (Nat.zero_le _) (Nat.zero_le _) (zc_sayCode_14_106 21094748847 S229 n hn G_S229 (by omega) (by omega) (by omega)) (fun S236 hP => ?_)
            obtain ⟨G_S236, fS236, o238, o239, o240⟩ := hP
            have F_S236 := zz_fr.trans F_S229 fS236 rfl zz_nv
            refine zz_aload_n (x := 1079) rfl zd_14_108_130 ?_
            refine zz_aload_n (x := 1079) rfl zd_14_108_131 ?_
            refine zz_getr (kd := 0) (z := 1104) zd_14_108_132 zf_Md_94 zT_1079 rfl (zz_ltn hn rfl) (zz_G.eq G_S236 1079 39 1104 rfl rfl) (by decide) 1104 rfl ?_
            refine zz_iload_n (x := p0) rfl zd_14_108_135 ?_
            refine zz_iconst zd_14_108_136 ?_
            refine zz_iadd zd_14_108_137 ?_
            have g241 := zz_G.r G_S0 1104 ((p0 + 1).toNat) 0 63 rfl rfl
            refine zz_iald (z := S0 1104 ((p0 + 1).toNat)) zd_14_108_138 zT_1104 rfl (zz_ltn hn rfl) (by decide) (by omega) (zz_rc fS236 (zz_nc1 rfl) rfl (fun h => h) (zz_rc fS229 (zz_nc1 rfl) rfl (fun h => h) (zz_rc fS222 (zz_nc1 rfl) rfl (fun h => h) (zz_rc fS216 (zz_nc1 rfl) rfl (fun h => h) (zz_rc fS209 (zz_nc1 rfl) rfl (fun h => h) (zz_rc fS202 (zz_nc1 rfl) rfl (fun h => h) (zz_rc fS195 (zz_nc1 rfl) rfl (fun h => h) rfl))))))) ?_
            have g242 := zz_G.r G_S236 1079 34 0 200 rfl rfl
            refine zz_callVV [zi (S0 1104 ((p0 + 1).toNat))] zd_14_108_139 zk_Md_607 zT_1079 (zz_ltn hn rfl) rfl rfl ⟨Nat.le_of_ble_eq_true rfl, Nat.le_of_ble_eq_true rfl⟩ ⟨rfl, rfl⟩ (Nat.zero_le _) (Nat.zero_le _) (zc_sayCount_14_107 (S0 1104 ((p0 + 1).toNat)) S236 n hn G_S236 (by omega) (by omega)) (fun S243 hP => ?_)
            obtain ⟨G_S243, fS243, o245, o246, o247⟩ := hP
            have F_S243 := zz_fr.trans F_S236 fS243 rfl zz_nv
            refine zz_aload_n (x := 1079) rfl zd_14_108_142 ?_
            refine zz_ldc2 (z := 641) zq_Md_163 (by decide) zd_14_108_143 ?_
            have g248 := zz_G.r G_S243 1079 34 0 200 rfl rfl
            refine zz_callVV [zl 641] zd_14_108_146 zk_Md_604 zT_1079 (zz_ltn hn rfl) rfl rfl ⟨Nat.le_of_ble_eq_true rfl, Nat.le_of_ble_eq_true rfl⟩ ⟨rfl, rfl⟩ (Nat.zero_le _) (Nat.zero_le _) (zc_sayCode_14_106 641 S243 n hn G_S243 (by omega) (by omega) (by omega)) (fun S249 hP => ?_)
            obtain ⟨G_S249, fS249, o251, o252, o253⟩ := hP
            have F_S249 := zz_fr.trans F_S243 fS249 rfl zz_nv
            refine zz_aload_n (x := 1079) rfl zd_14_108_149 ?_
            refine zz_aload_n (x := 1079) rfl zd_14_108_150 ?_
            refine zz_getr (kd := 0) (z := 1114) zd_14_108_151 zf_Md_124 zT_1079 rfl (zz_ltn hn rfl) (zz_G.eq G_S249 1079 49 1114 rfl rfl) (by decide) 1114 rfl ?_
            refine zz_iload_n (x := p0) rfl zd_14_108_154 ?_
            have g254 := zz_G.r G_S0 1114 p0.toNat 0 4096 rfl rfl
            refine zz_iald (z := S0 1114 p0.toNat) zd_14_108_155 zT_1114 rfl (zz_ltn hn rfl) (by decide) (by omega) (zz_rc fS249 (zz_nc1 rfl) rfl (fun h => h) (zz_rc fS243 (zz_nc1 rfl) rfl (fun h => h) (zz_rc fS236 (zz_nc1 rfl) rfl (fun h => h) (zz_rc fS229 (zz_nc1 rfl) rfl (fun h => h) (zz_rc fS222 (zz_nc1 rfl) rfl (fun h => h) (zz_rc fS216 (zz_nc1 rfl) rfl (fun h => h) (zz_rc fS209 (zz_nc1 rfl) rfl (fun h => h) (zz_rc fS202 (zz_nc1 rfl) rfl (fun h => h) (zz_rc fS195 (zz_nc1 rfl) rfl (fun h => h) rfl))))))))) ?_
            have g255 := zz_G.r G_S249 1079 34 0 200 rfl rfl
            refine zz_callVV [zi (S0 1114 p0.toNat)] zd_14_108_156 zk_Md_607 zT_1079 (zz_ltn hn rfl) rfl rfl ⟨Nat.le_of_ble_eq_true rfl, Nat.le_of_ble_eq_true rfl⟩ ⟨rfl, rfl⟩ (Nat.zero_le _) (Nat.zero_le _) (zc_sayCount_14_107 (S0 1114 p0.toNat) S249 n hn G_S249 (by omega) (by omega)) (fun S256 hP => ?_)
            obtain ⟨G_S256, fS256, o258, o259, o260⟩ := hP
            have F_S256 := zz_fr.trans F_S249 fS256 rfl zz_nv
            refine zz_iload_n (x := 0) rfl zd_14_108_159 ?_
            refine zz_if_ne (by omega) zd_14_108_160 (fun c261 => ?_) (fun c261 => ?_)
            · exfalso; omega
            · refine zz_aload_n (x := 1079) rfl zd_14_108_163 ?_
              refine zz_getr (kd := 0) (z := 1111) zd_14_108_164 zf_Md_115 zT_1079 rfl (zz_ltn hn rfl) (zz_G.eq G_S256 1079 46 1111 rfl rfl) (by decide) 1111 rfl ?_
              refine zz_iload_n (x := p0) rfl zd_14_108_167 ?_
              have g262 := zz_G.r G_S0 1111 p0.toNat 0 3 rfl rfl
              refine zz_iald (z := S0 1111 p0.toNat) zd_14_108_168 zT_1111 rfl (zz_ltn hn rfl) (by decide) (by omega) (zz_rc fS256 (zz_nc1 rfl) rfl (fun h => h) (zz_rc fS249 (zz_nc1 rfl) rfl (fun h => h) (zz_rc fS243 (zz_nc1 rfl) rfl (fun h => h) (zz_rc fS236 (zz_nc1 rfl) rfl (fun h => h) (zz_rc fS229 (zz_nc1 rfl) rfl (fun h => h) (zz_rc fS222 (zz_nc1 rfl) rfl (fun h => h) (zz_rc fS216 (zz_nc1 rfl) rfl (fun h => h) (zz_rc fS209 (zz_nc1 rfl) rfl (fun h => h) (zz_rc fS202 (zz_nc1 rfl) rfl (fun h => h) (zz_rc fS195 (zz_nc1 rfl) rfl (fun h => h) rfl)))))))))) ?_
              refine zz_iconst zd_14_108_169 ?_
              refine zz_icmp_le (by omega) (by omega) zd_14_108_170 (fun c263 => ?_) (fun c263 => ?_)
              · refine zz_iload_n (x := 1) rfl zd_14_108_190 ?_
                refine zz_if_eq (by omega) zd_14_108_191 (fun c264 => ?_) (fun c264 => ?_)
                · exfalso; omega
                · refine zz_aload_n (x := 1079) rfl zd_14_108_194 ?_
                  refine zz_getr (kd := 0) (z := 1112) zd_14_108_195 zf_Md_118 zT_1079 rfl (zz_ltn hn rfl) (zz_G.eq G_S256 1079 47 1112 rfl rfl) (by decide) 1112 rfl ?_
                  refine zz_iload_n (x := p0) rfl zd_14_108_198 ?_
                  have g265 := zz_G.r G_S0 1112 p0.toNat 0 1 rfl rfl
                  refine zz_iald (z := S0 1112 p0.toNat) zd_14_108_199 zT_1112 rfl (zz_ltn hn rfl) (by decide) (by omega) (zz_rc fS256 (zz_nc1 rfl) rfl (fun h => h) (zz_rc fS249 (zz_nc1 rfl) rfl (fun h => h) (zz_rc fS243 (zz_nc1 rfl) rfl (fun h => h) (zz_rc fS236 (zz_nc1 rfl) rfl (fun h => h) (zz_rc fS229 (zz_nc1 rfl) rfl (fun h => h) (zz_rc fS222 (zz_nc1 rfl) rfl (fun h => h) (zz_rc fS216 (zz_nc1 rfl) rfl (fun h => h) (zz_rc fS209 (zz_nc1 rfl) rfl (fun h => h) (zz_rc fS202 (zz_nc1 rfl) rfl (fun h => h) (zz_rc fS195 (zz_nc1 rfl) rfl (fun h => h) rfl)))))))))) ?_
                  refine zz_if_le (by omega) zd_14_108_200 (fun c266 => ?_) (fun c266 => ?_)
                  · refine zz_aload_n (x := 1079) rfl zd_14_108_220 ?_
                    refine zz_getr (kd := 0) (z := 1113) zd_14_108_221 zf_Md_121 zT_1079 rfl (zz_ltn hn rfl) (zz_G.eq G_S256 1079 48 1113 rfl rfl) (by decide) 1113 rfl ?_
                    refine zz_iload_n (x := p0) rfl zd_14_108_224 ?_
                    have g267 := zz_G.r G_S0 1113 p0.toNat 0 31 rfl rfl
                    refine zz_iald (z := S0 1113 p0.toNat) zd_14_108_225 zT_1113 rfl (zz_ltn hn rfl) (by decide) (by omega) (zz_rc fS256 (zz_nc1 rfl) rfl (fun h => h) (zz_rc fS249 (zz_nc1 rfl) rfl (fun h => h) (zz_rc fS243 (zz_nc1 rfl) rfl (fun h => h) (zz_rc fS236 (zz_nc1 rfl) rfl (fun h => h) (zz_rc fS229 (zz_nc1 rfl) rfl (fun h => h) (zz_rc fS222 (zz_nc1 rfl) rfl (fun h => h) (zz_rc fS216 (zz_nc1 rfl) rfl (fun h => h) (zz_rc fS209 (zz_nc1 rfl) rfl (fun h => h) (zz_rc fS202 (zz_nc1 rfl) rfl (fun h => h) (zz_rc fS195 (zz_nc1 rfl) rfl (fun h => h) rfl)))))))))) ?_
                    refine zz_bipush (by decide) zd_14_108_226 ?_
                    refine zz_irem (by omega) (by omega) zd_14_108_228 (fun v268 hv268 av268 bv268 cv268 => ?_)
                    skip
                    refine zz_if_le (by omega) zd_14_108_229 (fun c269 => ?_) (fun c269 => ?_)
                    · refine zz_aload_n (x := 1079) rfl zd_14_108_252 ?_
                      refine zz_getr (kd := 0) (z := 1113) zd_14_108_253 zf_Md_121 zT_1079 rfl (zz_ltn hn rfl) (zz_G.eq G_S256 1079 48 1113 rfl rfl) (by decide) 1113 rfl ?_
                      refine zz_iload_n (x := p0) rfl zd_14_108_256 ?_
                      refine zz_iald (z := S0 1113 p0.toNat) zd_14_108_257 zT_1113 rfl (zz_ltn hn rfl) (by decide) (by omega) (zz_rc fS256 (zz_nc1 rfl) rfl (fun h => h) (zz_rc fS249 (zz_nc1 rfl) rfl (fun h => h) (zz_rc fS243 (zz_nc1 rfl) rfl (fun h => h) (zz_rc fS236 (zz_nc1 rfl) rfl (fun h => h) (zz_rc fS229 (zz_nc1 rfl) rfl (fun h => h) (zz_rc fS222 (zz_nc1 rfl) rfl (fun h => h) (zz_rc fS216 (zz_nc1 rfl) rfl (fun h => h) (zz_rc fS209 (zz_nc1 rfl) rfl (fun h => h) (zz_rc fS202 (zz_nc1 rfl) rfl (fun h => h) (zz_rc fS195 (zz_nc1 rfl) rfl (fun h => h) rfl)))))))))) ?_
                      refine zz_bipush (by decide) zd_14_108_258 ?_
                      refine zz_icmp_le (by omega) (by omega) zd_14_108_260 (fun c270 => ?_) (fun c270 => ?_)
                      · have g271 := zz_G.r G_S256 1079 34 0 200 rfl rfl
                        exact zz_vret zd_14_108_270 rfl (Nat.zero_le _) (Nat.zero_le _) ⟨_, rfl, G_S256, F_S256, by omega, by omega, (fun K a b kh kw ch ad h w st ed sh rl hq hx eK ea eb ekh ekw ech ead est eed esh h0 => by unfold zs_lq at hq; unfold zs_lx at hx; have t9 := zs_sh esh (by omega) (by omega) av268; have ead := ead (by omega); subst ead; subst ea ekh ekw ech est eed; have k1 := o199 _ zs_wconv h0 zs_kconv; have k2 := o206 _ k1 (by omega); have k3 := o213 _ zs_wby k2 zs_kby; have k4 := o220 _ k3 (by omega); have k5 := o226 _ zs_wx k4 zs_kx; have k6 := o233 _ k5 (by omega); have k7 := o240 _ zs_woutputs k6 zs_koutputs; have k8 := o247 _ k7 (by omega); have k9 := o253 _ zs_wat k8 zs_kat; have k10 := o260 _ k9 (by omega); exact zs_opH k10 (zs_hd1 (by omega)) (if_pos (by omega)) (if_pos (by omega)) (if_pos (by omega)) (if_pos (by omega)))⟩
                      · refine zz_aload_n (x := 1079) rfl zd_14_108_263 ?_
                        refine zz_ldc2 (z := 700594) zq_Md_546 (by decide) zd_14_108_264 ?_
                        have g272 := zz_G.r G_S256 1079 34 0 200 rfl rfl
                        refine zz_callVV [zl 700594] zd_14_108_267 zk_Md_604 zT_1079 (zz_ltn hn rfl) rfl rfl ⟨Nat.le_of_ble_eq_true rfl, Nat.le_of_ble_eq_true rfl⟩ ⟨rfl, rfl⟩ (Nat.zero_le _) (Nat.zero_le _) (zc_sayCode_14_106 700594 S256 n hn G_S256 (by omega) (by omega) (by omega)) (fun S273 hP => ?_)
                        obtain ⟨G_S273, fS273, o275, o276, o277⟩ := hP
                        have F_S273 := zz_fr.trans F_S256 fS273 rfl zz_nv
                        have g278 := zz_G.r G_S273 1079 34 0 200 rfl rfl
                        exact zz_vret zd_14_108_270 rfl (Nat.zero_le _) (Nat.zero_le _) ⟨_, rfl, G_S273, F_S273, by omega, by omega, (fun K a b kh kw ch ad h w st ed sh rl hq hx eK ea eb ekh ekw ech ead est eed esh h0 => by unfold zs_lq at hq; unfold zs_lx at hx; have t9 := zs_sh esh (by omega) (by omega) av268; have ead := ead (by omega); subst ead; subst ea ekh ekw ech est eed; have k1 := o199 _ zs_wconv h0 zs_kconv; have k2 := o206 _ k1 (by omega); have k3 := o213 _ zs_wby k2 zs_kby; have k4 := o220 _ k3 (by omega); have k5 := o226 _ zs_wx k4 zs_kx; have k6 := o233 _ k5 (by omega); have k7 := o240 _ zs_woutputs k6 zs_koutputs; have k8 := o247 _ k7 (by omega); have k9 := o253 _ zs_wat k8 zs_kat; have k10 := o260 _ k9 (by omega); have k11 := o277 _ zs_wrelu k10 zs_krelu; exact zs_opH k11 (zs_hd1 (by omega)) (if_pos (by omega)) (if_pos (by omega)) (if_pos (by omega)) (if_neg (by omega)))⟩
                    · refine zz_aload_n (x := 1079) rfl zd_14_108_232 ?_
                      refine zz_ldc2 (z := 21177619) zq_Md_544 (by decide) zd_14_108_233 ?_
                      have g279 := zz_G.r G_S256 1079 34 0 200 rfl rfl
                      refine zz_callVV [zl 21177619] zd_14_108_236 zk_Md_604 zT_1079 (zz_ltn hn rfl) rfl rfl ⟨Nat.le_of_ble_eq_true rfl, Nat.le_of_ble_eq_true rfl⟩ ⟨rfl, rfl⟩ (Nat.zero_le _) (Nat.zero_le _) (zc_sayCode_14_106 21177619 S256 n hn G_S256 (by omega) (by omega) (by omega)) (fun S280 hP => ?_)
                      obtain ⟨G_S280, fS280, o282, o283, o284⟩ := hP
                      have F_S280 := zz_fr.trans F_S256 fS280 rfl zz_nv
                      refine zz_aload_n (x := 1079) rfl zd_14_108_239 ?_
                      refine zz_aload_n (x := 1079) rfl zd_14_108_240 ?_
                      refine zz_getr (kd := 0) (z := 1113) zd_14_108_241 zf_Md_121 zT_1079 rfl (zz_ltn hn rfl) (zz_G.eq G_S280 1079 48 1113 rfl rfl) (by decide) 1113 rfl ?_
                      refine zz_iload_n (x := p0) rfl zd_14_108_244 ?_
                      refine zz_iald (z := S0 1113 p0.toNat) zd_14_108_245 zT_1113 rfl (zz_ltn hn rfl) (by decide) (by omega) (zz_rc fS280 (zz_nc1 rfl) rfl (fun h => h) (zz_rc fS256 (zz_nc1 rfl) rfl (fun h => h) (zz_rc fS249 (zz_nc1 rfl) rfl (fun h => h) (zz_rc fS243 (zz_nc1 rfl) rfl (fun h => h) (zz_rc fS236 (zz_nc1 rfl) rfl (fun h => h) (zz_rc fS229 (zz_nc1 rfl) rfl (fun h => h) (zz_rc fS222 (zz_nc1 rfl) rfl (fun h => h) (zz_rc fS216 (zz_nc1 rfl) rfl (fun h => h) (zz_rc fS209 (zz_nc1 rfl) rfl (fun h => h) (zz_rc fS202 (zz_nc1 rfl) rfl (fun h => h) (zz_rc fS195 (zz_nc1 rfl) rfl (fun h => h) rfl))))))))))) ?_
                      refine zz_bipush (by decide) zd_14_108_246 ?_
                      refine zz_irem (by omega) (by omega) zd_14_108_248 (fun v285 hv285 av285 bv285 cv285 => ?_)
                      have g286 := zz_G.r G_S280 1079 34 0 200 rfl rfl
                      refine zz_callVV [zi v285] zd_14_108_249 zk_Md_607 zT_1079 (zz_ltn hn rfl) rfl rfl ⟨Nat.le_of_ble_eq_true rfl, Nat.le_of_ble_eq_true rfl⟩ ⟨rfl, rfl⟩ (Nat.zero_le _) (Nat.zero_le _) (zc_sayCount_14_107 v285 S280 n hn G_S280 (by omega) (by omega)) (fun S287 hP => ?_)
                      obtain ⟨G_S287, fS287, o289, o290, o291⟩ := hP
                      have F_S287 := zz_fr.trans F_S280 fS287 rfl zz_nv
                      refine zz_aload_n (x := 1079) rfl zd_14_108_252 ?_
                      refine zz_getr (kd := 0) (z := 1113) zd_14_108_253 zf_Md_121 zT_1079 rfl (zz_ltn hn rfl) (zz_G.eq G_S287 1079 48 1113 rfl rfl) (by decide) 1113 rfl ?_
                      refine zz_iload_n (x := p0) rfl zd_14_108_256 ?_
                      refine zz_iald (z := S0 1113 p0.toNat) zd_14_108_257 zT_1113 rfl (zz_ltn hn rfl) (by decide) (by omega) (zz_rc fS287 (zz_nc1 rfl) rfl (fun h => h) (zz_rc fS280 (zz_nc1 rfl) rfl (fun h => h) (zz_rc fS256 (zz_nc1 rfl) rfl (fun h => h) (zz_rc fS249 (zz_nc1 rfl) rfl (fun h => h) (zz_rc fS243 (zz_nc1 rfl) rfl (fun h => h) (zz_rc fS236 (zz_nc1 rfl) rfl (fun h => h) (zz_rc fS229 (zz_nc1 rfl) rfl (fun h => h) (zz_rc fS222 (zz_nc1 rfl) rfl (fun h => h) (zz_rc fS216 (zz_nc1 rfl) rfl (fun h => h) (zz_rc fS209 (zz_nc1 rfl) rfl (fun h => h) (zz_rc fS202 (zz_nc1 rfl) rfl (fun h => h) (zz_rc fS195 (zz_nc1 rfl) rfl (fun h => h) rfl)))))))))))) ?_
                      refine zz_bipush (by decide) zd_14_108_258 ?_
                      refine zz_icmp_le (by omega) (by omega) zd_14_108_260 (fun c292 => ?_) (fun c292 => ?_)
                      · have g293 := zz_G.r G_S287 1079 34 0 200 rfl rfl
                        exact zz_vret zd_14_108_270 rfl (Nat.zero_le _) (Nat.zero_le _) ⟨_, rfl, G_S287, F_S287, by omega, by omega, (fun K a b kh kw ch ad h w st ed sh rl hq hx eK ea eb ekh ekw ech ead est eed esh h0 => by unfold zs_lq at hq; unfold zs_lx at hx; have t9 := zs_sh esh (by omega) (by omega) av268; have ead := ead (by omega); subst ead; subst ea ekh ekw ech est eed; have k1 := o199 _ zs_wconv h0 zs_kconv; have k2 := o206 _ k1 (by omega); have k3 := o213 _ zs_wby k2 zs_kby; have k4 := o220 _ k3 (by omega); have k5 := o226 _ zs_wx k4 zs_kx; have k6 := o233 _ k5 (by omega); have k7 := o240 _ zs_woutputs k6 zs_koutputs; have k8 := o247 _ k7 (by omega); have k9 := o253 _ zs_wat k8 zs_kat; have k10 := o260 _ k9 (by omega); have k11 := o284 _ zs_wshift k10 zs_kshift; have k12 := o291 _ k11 (by have z9 := zs_sh esh (by omega) (by omega) av285; omega); rw [zs_sh esh (by omega) (by omega) av285] at k12; exact zs_opH k12 (zs_hd1 (by omega)) (if_pos (by omega)) (if_pos (by omega)) (if_neg (by omega)) (if_pos (by omega)))⟩
                      · refine zz_aload_n (x := 1079) rfl zd_14_108_263 ?_
                        refine zz_ldc2 (z := 700594) zq_Md_546 (by decide) zd_14_108_264 ?_
                        have g294 := zz_G.r G_S287 1079 34 0 200 rfl rfl
                        refine zz_callVV [zl 700594] zd_14_108_267 zk_Md_604 zT_1079 (zz_ltn hn rfl) rfl rfl ⟨Nat.le_of_ble_eq_true rfl, Nat.le_of_ble_eq_true rfl⟩ ⟨rfl, rfl⟩ (Nat.zero_le _) (Nat.zero_le _) (zc_sayCode_14_106 700594 S287 n hn G_S287 (by omega) (by omega) (by omega)) (fun S295 hP => ?_)
                        obtain ⟨G_S295, fS295, o297, o298, o299⟩ := hP
                        have F_S295 := zz_fr.trans F_S287 fS295 rfl zz_nv
                        have g300 := zz_G.r G_S295 1079 34 0 200 rfl rfl
                        exact zz_vret zd_14_108_270 rfl (Nat.zero_le _) (Nat.zero_le _) ⟨_, rfl, G_S295, F_S295, by omega, by omega, (fun K a b kh kw ch ad h w st ed sh rl hq hx eK ea eb ekh ekw ech ead est eed esh h0 => by unfold zs_lq at hq; unfold zs_lx at hx; have t9 := zs_sh esh (by omega) (by omega) av268; have ead := ead (by omega); subst ead; subst ea ekh ekw ech est eed; have k1 := o199 _ zs_wconv h0 zs_kconv; have k2 := o206 _ k1 (by omega); have k3 := o213 _ zs_wby k2 zs_kby; have k4 := o220 _ k3 (by omega); have k5 := o226 _ zs_wx k4 zs_kx; have k6 := o233 _ k5 (by omega); have k7 := o240 _ zs_woutputs k6 zs_koutputs; have k8 := o247 _ k7 (by omega); have k9 := o253 _ zs_wat k8 zs_kat; have k10 := o260 _ k9 (by omega); have k11 := o284 _ zs_wshift k10 zs_kshift; have k12 := o291 _ k11 (by have z9 := zs_sh esh (by omega) (by omega) av285; omega); rw [zs_sh esh (by omega) (by omega) av285] at k12; have k13 := o299 _ zs_wrelu k12 zs_krelu; exact zs_opH k13 (zs_hd1 (by omega)) (if_pos (by omega)) (if_pos (by omega)) (if_neg (by omega)) (if_neg (by omega)))⟩
                  · refine zz_aload_n (x := 1079) rfl zd_14_108_203 ?_
                    refine zz_ldc2 (z := 171141) zq_Md_542 (by decide) zd_14_108_204 ?_
                    have g301 := zz_G.r G_S256 1079 34 0 200 rfl rfl
                    refine zz_callVV [zl 171141] zd_14_108_207 zk_Md_604 zT_1079 (zz_ltn hn rfl) rfl rfl ⟨Nat.le_of_ble_eq_true rfl, Nat.le_of_ble_eq_true rfl⟩ ⟨rfl, rfl⟩ (Nat.zero_le _) (Nat.zero_le _) (zc_sayCode_14_106 171141 S256 n hn G_S256 (by omega) (by omega) (by omega)) (fun S302 hP => ?_)
                    obtain ⟨G_S302, fS302, o304, o305, o306⟩ := hP
                    have F_S302 := zz_fr.trans F_S256 fS302 rfl zz_nv
                    refine zz_aload_n (x := 1079) rfl zd_14_108_210 ?_
                    refine zz_aload_n (x := 1079) rfl zd_14_108_211 ?_
                    refine zz_getr (kd := 0) (z := 1112) zd_14_108_212 zf_Md_118 zT_1079 rfl (zz_ltn hn rfl) (zz_G.eq G_S302 1079 47 1112 rfl rfl) (by decide) 1112 rfl ?_
                    refine zz_iload_n (x := p0) rfl zd_14_108_215 ?_
                    refine zz_iald (z := S0 1112 p0.toNat) zd_14_108_216 zT_1112 rfl (zz_ltn hn rfl) (by decide) (by omega) (zz_rc fS302 (zz_nc1 rfl) rfl (fun h => h) (zz_rc fS256 (zz_nc1 rfl) rfl (fun h => h) (zz_rc fS249 (zz_nc1 rfl) rfl (fun h => h) (zz_rc fS243 (zz_nc1 rfl) rfl (fun h => h) (zz_rc fS236 (zz_nc1 rfl) rfl (fun h => h) (zz_rc fS229 (zz_nc1 rfl) rfl (fun h => h) (zz_rc fS222 (zz_nc1 rfl) rfl (fun h => h) (zz_rc fS216 (zz_nc1 rfl) rfl (fun h => h) (zz_rc fS209 (zz_nc1 rfl) rfl (fun h => h) (zz_rc fS202 (zz_nc1 rfl) rfl (fun h => h) (zz_rc fS195 (zz_nc1 rfl) rfl (fun h => h) rfl))))))))))) ?_
                    have g307 := zz_G.r G_S302 1079 34 0 200 rfl rfl
                    refine zz_callVV [zi (S0 1112 p0.toNat)] zd_14_108_217 zk_Md_607 zT_1079 (zz_ltn hn rfl) rfl rfl ⟨Nat.le_of_ble_eq_true rfl, Nat.le_of_ble_eq_true rfl⟩ ⟨rfl, rfl⟩ (Nat.zero_le _) (Nat.zero_le _) (zc_sayCount_14_107 (S0 1112 p0.toNat) S302 n hn G_S302 (by omega) (by omega)) (fun S308 hP => ?_)
                    obtain ⟨G_S308, fS308, o310, o311, o312⟩ := hP
                    have F_S308 := zz_fr.trans F_S302 fS308 rfl zz_nv
                    refine zz_aload_n (x := 1079) rfl zd_14_108_220 ?_
                    refine zz_getr (kd := 0) (z := 1113) zd_14_108_221 zf_Md_121 zT_1079 rfl (zz_ltn hn rfl) (zz_G.eq G_S308 1079 48 1113 rfl rfl) (by decide) 1113 rfl ?_
                    refine zz_iload_n (x := p0) rfl zd_14_108_224 ?_
                    have g313 := zz_G.r G_S0 1113 p0.toNat 0 31 rfl rfl
                    refine zz_iald (z := S0 1113 p0.toNat) zd_14_108_225 zT_1113 rfl (zz_ltn hn rfl) (by decide) (by omega) (zz_rc fS308 (zz_nc1 rfl) rfl (fun h => h) (zz_rc fS302 (zz_nc1 rfl) rfl (fun h => h) (zz_rc fS256 (zz_nc1 rfl) rfl (fun h => h) (zz_rc fS249 (zz_nc1 rfl) rfl (fun h => h) (zz_rc fS243 (zz_nc1 rfl) rfl (fun h => h) (zz_rc fS236 (zz_nc1 rfl) rfl (fun h => h) (zz_rc fS229 (zz_nc1 rfl) rfl (fun h => h) (zz_rc fS222 (zz_nc1 rfl) rfl (fun h => h) (zz_rc fS216 (zz_nc1 rfl) rfl (fun h => h) (zz_rc fS209 (zz_nc1 rfl) rfl (fun h => h) (zz_rc fS202 (zz_nc1 rfl) rfl (fun h => h) (zz_rc fS195 (zz_nc1 rfl) rfl (fun h => h) rfl)))))))))))) ?_
                    refine zz_bipush (by decide) zd_14_108_226 ?_
                    refine zz_irem (by omega) (by omega) zd_14_108_228 (fun v314 hv314 av314 bv314 cv314 => ?_)
                    skip
                    refine zz_if_le (by omega) zd_14_108_229 (fun c315 => ?_) (fun c315 => ?_)
                    · refine zz_aload_n (x := 1079) rfl zd_14_108_252 ?_
                      refine zz_getr (kd := 0) (z := 1113) zd_14_108_253 zf_Md_121 zT_1079 rfl (zz_ltn hn rfl) (zz_G.eq G_S308 1079 48 1113 rfl rfl) (by decide) 1113 rfl ?_
                      refine zz_iload_n (x := p0) rfl zd_14_108_256 ?_
                      refine zz_iald (z := S0 1113 p0.toNat) zd_14_108_257 zT_1113 rfl (zz_ltn hn rfl) (by decide) (by omega) (zz_rc fS308 (zz_nc1 rfl) rfl (fun h => h) (zz_rc fS302 (zz_nc1 rfl) rfl (fun h => h) (zz_rc fS256 (zz_nc1 rfl) rfl (fun h => h) (zz_rc fS249 (zz_nc1 rfl) rfl (fun h => h) (zz_rc fS243 (zz_nc1 rfl) rfl (fun h => h) (zz_rc fS236 (zz_nc1 rfl) rfl (fun h => h) (zz_rc fS229 (zz_nc1 rfl) rfl (fun h => h) (zz_rc fS222 (zz_nc1 rfl) rfl (fun h => h) (zz_rc fS216 (zz_nc1 rfl) rfl (fun h => h) (zz_rc fS209 (zz_nc1 rfl) rfl (fun h => h) (zz_rc fS202 (zz_nc1 rfl) rfl (fun h => h) (zz_rc fS195 (zz_nc1 rfl) rfl (fun h => h) rfl)))))))))))) ?_
                      refine zz_bipush (by decide) zd_14_108_258 ?_
                      refine zz_icmp_le (by omega) (by omega) zd_14_108_260 (fun c316 => ?_) (fun c316 => ?_)
                      · have g317 := zz_G.r G_S308 1079 34 0 200 rfl rfl
                        exact zz_vret zd_14_108_270 rfl (Nat.zero_le _) (Nat.zero_le _) ⟨_, rfl, G_S308, F_S308, by omega, by omega, (fun K a b kh kw ch ad h w st ed sh rl hq hx eK ea eb ekh ekw ech ead est eed esh h0 => by unfold zs_lq at hq; unfold zs_lx at hx; have t9 := zs_sh esh (by omega) (by omega) av314; have ead := ead (by omega); subst ead; subst ea ekh ekw ech est eed; have k1 := o199 _ zs_wconv h0 zs_kconv; have k2 := o206 _ k1 (by omega); have k3 := o213 _ zs_wby k2 zs_kby; have k4 := o220 _ k3 (by omega); have k5 := o226 _ zs_wx k4 zs_kx; have k6 := o233 _ k5 (by omega); have k7 := o240 _ zs_woutputs k6 zs_koutputs; have k8 := o247 _ k7 (by omega); have k9 := o253 _ zs_wat k8 zs_kat; have k10 := o260 _ k9 (by omega); have k11 := o306 _ zs_wedge k10 zs_kedge; have k12 := o312 _ k11 (by omega); exact zs_opH k12 (zs_hd1 (by omega)) (if_pos (by omega)) (if_neg (by omega)) (if_pos (by omega)) (if_pos (by omega)))⟩
                      · refine zz_aload_n (x := 1079) rfl zd_14_108_263 ?_
                        refine zz_ldc2 (z := 700594) zq_Md_546 (by decide) zd_14_108_264 ?_
                        have g318 := zz_G.r G_S308 1079 34 0 200 rfl rfl
                        refine zz_callVV [zl 700594] zd_14_108_267 zk_Md_604 zT_1079 (zz_ltn hn rfl) rfl rfl ⟨Nat.le_of_ble_eq_true rfl, Nat.le_of_ble_eq_true rfl⟩ ⟨rfl, rfl⟩ (Nat.zero_le _) (Nat.zero_le _) (zc_sayCode_14_106 700594 S308 n hn G_S308 (by omega) (by omega) (by omega)) (fun S319 hP => ?_)
                        obtain ⟨G_S319, fS319, o321, o322, o323⟩ := hP
                        have F_S319 := zz_fr.trans F_S308 fS319 rfl zz_nv
                        have g324 := zz_G.r G_S319 1079 34 0 200 rfl rfl
                        exact zz_vret zd_14_108_270 rfl (Nat.zero_le _) (Nat.zero_le _) ⟨_, rfl, G_S319, F_S319, by omega, by omega, (fun K a b kh kw ch ad h w st ed sh rl hq hx eK ea eb ekh ekw ech ead est eed esh h0 => by unfold zs_lq at hq; unfold zs_lx at hx; have t9 := zs_sh esh (by omega) (by omega) av314; have ead := ead (by omega); subst ead; subst ea ekh ekw ech est eed; have k1 := o199 _ zs_wconv h0 zs_kconv; have k2 := o206 _ k1 (by omega); have k3 := o213 _ zs_wby k2 zs_kby; have k4 := o220 _ k3 (by omega); have k5 := o226 _ zs_wx k4 zs_kx; have k6 := o233 _ k5 (by omega); have k7 := o240 _ zs_woutputs k6 zs_koutputs; have k8 := o247 _ k7 (by omega); have k9 := o253 _ zs_wat k8 zs_kat; have k10 := o260 _ k9 (by omega); have k11 := o306 _ zs_wedge k10 zs_kedge; have k12 := o312 _ k11 (by omega); have k13 := o323 _ zs_wrelu k12 zs_krelu; exact zs_opH k13 (zs_hd1 (by omega)) (if_pos (by omega)) (if_neg (by omega)) (if_pos (by omega)) (if_neg (by omega)))⟩
                    · refine zz_aload_n (x := 1079) rfl zd_14_108_232 ?_
                      refine zz_ldc2 (z := 21177619) zq_Md_544 (by decide) zd_14_108_233 ?_
                      have g325 := zz_G.r G_S308 1079 34 0 200 rfl rfl
                      refine zz_callVV [zl 21177619] zd_14_108_236 zk_Md_604 zT_1079 (zz_ltn hn rfl) rfl rfl ⟨Nat.le_of_ble_eq_true rfl, Nat.le_of_ble_eq_true rfl⟩ ⟨rfl, rfl⟩ (Nat.zero_le _) (Nat.zero_le _) (zc_sayCode_14_106 21177619 S308 n hn G_S308 (by omega) (by omega) (by omega)) (fun S326 hP => ?_)
                      obtain ⟨G_S326, fS326, o328, o329, o330⟩ := hP
                      have F_S326 := zz_fr.trans F_S308 fS326 rfl zz_nv
                      refine zz_aload_n (x := 1079) rfl zd_14_108_239 ?_
                      refine zz_aload_n (x := 1079) rfl zd_14_108_240 ?_
                      refine zz_getr (kd := 0) (z := 1113) zd_14_108_241 zf_Md_121 zT_1079 rfl (zz_ltn hn rfl) (zz_G.eq G_S326 1079 48 1113 rfl rfl) (by decide) 1113 rfl ?_
                      refine zz_iload_n (x := p0) rfl zd_14_108_244 ?_
                      refine zz_iald (z := S0 1113 p0.toNat) zd_14_108_245 zT_1113 rfl (zz_ltn hn rfl) (by decide) (by omega) (zz_rc fS326 (zz_nc1 rfl) rfl (fun h => h) (zz_rc fS308 (zz_nc1 rfl) rfl (fun h => h) (zz_rc fS302 (zz_nc1 rfl) rfl (fun h => h) (zz_rc fS256 (zz_nc1 rfl) rfl (fun h => h) (zz_rc fS249 (zz_nc1 rfl) rfl (fun h => h) (zz_rc fS243 (zz_nc1 rfl) rfl (fun h => h) (zz_rc fS236 (zz_nc1 rfl) rfl (fun h => h) (zz_rc fS229 (zz_nc1 rfl) rfl (fun h => h) (zz_rc fS222 (zz_nc1 rfl) rfl (fun h => h) (zz_rc fS216 (zz_nc1 rfl) rfl (fun h => h) (zz_rc fS209 (zz_nc1 rfl) rfl (fun h => h) (zz_rc fS202 (zz_nc1 rfl) rfl (fun h => h) (zz_rc fS195 (zz_nc1 rfl) rfl (fun h => h) rfl))))))))))))) ?_
                      refine zz_bipush (by decide) zd_14_108_246 ?_
                      refine zz_irem (by omega) (by omega) zd_14_108_248 (fun v331 hv331 av331 bv331 cv331 => ?_)
                      have g332 := zz_G.r G_S326 1079 34 0 200 rfl rfl
                      refine zz_callVV [zi v331] zd_14_108_249 zk_Md_607 zT_1079 (zz_ltn hn rfl) rfl rfl ⟨Nat.le_of_ble_eq_true rfl, Nat.le_of_ble_eq_true rfl⟩ ⟨rfl, rfl⟩ (Nat.zero_le _) (Nat.zero_le _) (zc_sayCount_14_107 v331 S326 n hn G_S326 (by omega) (by omega)) (fun S333 hP => ?_)
                      obtain ⟨G_S333, fS333, o335, o336, o337⟩ := hP
                      have F_S333 := zz_fr.trans F_S326 fS333 rfl zz_nv
                      refine zz_aload_n (x := 1079) rfl zd_14_108_252 ?_
                      refine zz_getr (kd := 0) (z := 1113) zd_14_108_253 zf_Md_121 zT_1079 rfl (zz_ltn hn rfl) (zz_G.eq G_S333 1079 48 1113 rfl rfl) (by decide) 1113 rfl ?_
                      refine zz_iload_n (x := p0) rfl zd_14_108_256 ?_
                      refine zz_iald (z := S0 1113 p0.toNat) zd_14_108_257 zT_1113 rfl (zz_ltn hn rfl) (by decide) (by omega) (zz_rc fS333 (zz_nc1 rfl) rfl (fun h => h) (zz_rc fS326 (zz_nc1 rfl) rfl (fun h => h) (zz_rc fS308 (zz_nc1 rfl) rfl (fun h => h) (zz_rc fS302 (zz_nc1 rfl) rfl (fun h => h) (zz_rc fS256 (zz_nc1 rfl) rfl (fun h => h) (zz_rc fS249 (zz_nc1 rfl) rfl (fun h => h) (zz_rc fS243 (zz_nc1 rfl) rfl (fun h => h) (zz_rc fS236 (zz_nc1 rfl) rfl (fun h => h) (zz_rc fS229 (zz_nc1 rfl) rfl (fun h => h) (zz_rc fS222 (zz_nc1 rfl) rfl (fun h => h) (zz_rc fS216 (zz_nc1 rfl) rfl (fun h => h) (zz_rc fS209 (zz_nc1 rfl) rfl (fun h => h) (zz_rc fS202 (zz_nc1 rfl) rfl (fun h => h) (zz_rc fS195 (zz_nc1 rfl) rfl (fun h => h) rfl)))))))))))))) ?_
                      refine zz_bipush (by decide) zd_14_108_258 ?_
                      refine zz_icmp_le (by omega) (by omega) zd_14_108_260 (fun c338 => ?_) (fun c338 => ?_)
                      · have g339 := zz_G.r G_S333 1079 34 0 200 rfl rfl
                        exact zz_vret zd_14_108_270 rfl (Nat.zero_le _) (Nat.zero_le _) ⟨_, rfl, G_S333, F_S333, by omega, by omega, (fun K a b kh kw ch ad h w st ed sh rl hq hx eK ea eb ekh ekw ech ead est eed esh h0 => by unfold zs_lq at hq; unfold zs_lx at hx; have t9 := zs_sh esh (by omega) (by omega) av314; have ead := ead (by omega); subst ead; subst ea ekh ekw ech est eed; have k1 := o199 _ zs_wconv h0 zs_kconv; have k2 := o206 _ k1 (by omega); have k3 := o213 _ zs_wby k2 zs_kby; have k4 := o220 _ k3 (by omega); have k5 := o226 _ zs_wx k4 zs_kx; have k6 := o233 _ k5 (by omega); have k7 := o240 _ zs_woutputs k6 zs_koutputs; have k8 := o247 _ k7 (by omega); have k9 := o253 _ zs_wat k8 zs_kat; have k10 := o260 _ k9 (by omega); have k11 := o306 _ zs_wedge k10 zs_kedge; have k12 := o312 _ k11 (by omega); have k13 := o330 _ zs_wshift k12 zs_kshift; have k14 := o337 _ k13 (by have z9 := zs_sh esh (by omega) (by omega) av331; omega); rw [zs_sh esh (by omega) (by omega) av331] at k14; exact zs_opH k14 (zs_hd1 (by omega)) (if_pos (by omega)) (if_neg (by omega)) (if_neg (by omega)) (if_pos (by omega)))⟩
                      · refine zz_aload_n (x := 1079) rfl zd_14_108_263 ?_
                        refine zz_ldc2 (z := 700594) zq_Md_546 (by decide) zd_14_108_264 ?_
                        have g340 := zz_G.r G_S333 1079 34 0 200 rfl rfl
                        refine zz_callVV [zl 700594] zd_14_108_267 zk_Md_604 zT_1079 (zz_ltn hn rfl) rfl rfl ⟨Nat.le_of_ble_eq_true rfl, Nat.le_of_ble_eq_true rfl⟩ ⟨rfl, rfl⟩ (Nat.zero_le _) (Nat.zero_le _) (zc_sayCode_14_106 700594 S333 n hn G_S333 (by omega) (by omega) (by omega)) (fun S341 hP => ?_)
                        obtain ⟨G_S341, fS341, o343, o344, o345⟩ := hP
                        have F_S341 := zz_fr.trans F_S333 fS341 rfl zz_nv
                        have g346 := zz_G.r G_S341 1079 34 0 200 rfl rfl
                        exact zz_vret zd_14_108_270 rfl (Nat.zero_le _) (Nat.zero_le _) ⟨_, rfl, G_S341, F_S341, by omega, by omega, (fun K a b kh kw ch ad h w st ed sh rl hq hx eK ea eb ekh ekw ech ead est eed esh h0 => by unfold zs_lq at hq; unfold zs_lx at hx; have t9 := zs_sh esh (by omega) (by omega) av314; have ead := ead (by omega); subst ead; subst ea ekh ekw ech est eed; have k1 := o199 _ zs_wconv h0 zs_kconv; have k2 := o206 _ k1 (by omega); have k3 := o213 _ zs_wby k2 zs_kby; have k4 := o220 _ k3 (by omega); have k5 := o226 _ zs_wx k4 zs_kx; have k6 := o233 _ k5 (by omega); have k7 := o240 _ zs_woutputs k6 zs_koutputs; have k8 := o247 _ k7 (by omega); have k9 := o253 _ zs_wat k8 zs_kat; have k10 := o260 _ k9 (by omega); have k11 := o306 _ zs_wedge k10 zs_kedge; have k12 := o312 _ k11 (by omega); have k13 := o330 _ zs_wshift k12 zs_kshift; have k14 := o337 _ k13 (by have z9 := zs_sh esh (by omega) (by omega) av331; omega); rw [zs_sh esh (by omega) (by omega) av331] at k14; have k15 := o345 _ zs_wrelu k14 zs_krelu; exact zs_opH k15 (zs_hd1 (by omega)) (if_pos (by omega)) (if_neg (by omega)) (if_neg (by omega)) (if_neg (by omega)))⟩
              · refine zz_aload_n (x := 1079) rfl zd_14_108_173 ?_
                refine zz_ldc2 (z := 530067) zq_Md_171 (by decide) zd_14_108_174 ?_
                have g347 := zz_G.r G_S256 1079 34 0 200 rfl rfl
                refine zz_callVV [zl 530067] zd_14_108_177 zk_Md_604 zT_1079 (zz_ltn hn rfl) rfl rfl ⟨Nat.le_of_ble_eq_true rfl, Nat.le_of_ble_eq_true rfl⟩ ⟨rfl, rfl⟩ (Nat.zero_le _) (Nat.zero_le _) (zc_sayCode_14_106 530067 S256 n hn G_S256 (by omega) (by omega) (by omega)) (fun S348 hP => ?_)
                obtain ⟨G_S348, fS348, o350, o351, o352⟩ := hP
                have F_S348 := zz_fr.trans F_S256 fS348 rfl zz_nv
                refine zz_aload_n (x := 1079) rfl zd_14_108_180 ?_
                refine zz_aload_n (x := 1079) rfl zd_14_108_181 ?_
                refine zz_getr (kd := 0) (z := 1111) zd_14_108_182 zf_Md_115 zT_1079 rfl (zz_ltn hn rfl) (zz_G.eq G_S348 1079 46 1111 rfl rfl) (by decide) 1111 rfl ?_
                refine zz_iload_n (x := p0) rfl zd_14_108_185 ?_
                refine zz_iald (z := S0 1111 p0.toNat) zd_14_108_186 zT_1111 rfl (zz_ltn hn rfl) (by decide) (by omega) (zz_rc fS348 (zz_nc1 rfl) rfl (fun h => h) (zz_rc fS256 (zz_nc1 rfl) rfl (fun h => h) (zz_rc fS249 (zz_nc1 rfl) rfl (fun h => h) (zz_rc fS243 (zz_nc1 rfl) rfl (fun h => h) (zz_rc fS236 (zz_nc1 rfl) rfl (fun h => h) (zz_rc fS229 (zz_nc1 rfl) rfl (fun h => h) (zz_rc fS222 (zz_nc1 rfl) rfl (fun h => h) (zz_rc fS216 (zz_nc1 rfl) rfl (fun h => h) (zz_rc fS209 (zz_nc1 rfl) rfl (fun h => h) (zz_rc fS202 (zz_nc1 rfl) rfl (fun h => h) (zz_rc fS195 (zz_nc1 rfl) rfl (fun h => h) rfl))))))))))) ?_
                have g353 := zz_G.r G_S348 1079 34 0 200 rfl rfl
                refine zz_callVV [zi (S0 1111 p0.toNat)] zd_14_108_187 zk_Md_607 zT_1079 (zz_ltn hn rfl) rfl rfl ⟨Nat.le_of_ble_eq_true rfl, Nat.le_of_ble_eq_true rfl⟩ ⟨rfl, rfl⟩ (Nat.zero_le _) (Nat.zero_le _) (zc_sayCount_14_107 (S0 1111 p0.toNat) S348 n hn G_S348 (by omega) (by omega)) (fun S354 hP => ?_)
                obtain ⟨G_S354, fS354, o356, o357, o358⟩ := hP
                have F_S354 := zz_fr.trans F_S348 fS354 rfl zz_nv
                refine zz_iload_n (x := 1) rfl zd_14_108_190 ?_
                refine zz_if_eq (by omega) zd_14_108_191 (fun c359 => ?_) (fun c359 => ?_)
                · exfalso; omega
                · refine zz_aload_n (x := 1079) rfl zd_14_108_194 ?_
                  refine zz_getr (kd := 0) (z := 1112) zd_14_108_195 zf_Md_118 zT_1079 rfl (zz_ltn hn rfl) (zz_G.eq G_S354 1079 47 1112 rfl rfl) (by decide) 1112 rfl ?_
                  refine zz_iload_n (x := p0) rfl zd_14_108_198 ?_
                  have g360 := zz_G.r G_S0 1112 p0.toNat 0 1 rfl rfl
                  refine zz_iald (z := S0 1112 p0.toNat) zd_14_108_199 zT_1112 rfl (zz_ltn hn rfl) (by decide) (by omega) (zz_rc fS354 (zz_nc1 rfl) rfl (fun h => h) (zz_rc fS348 (zz_nc1 rfl) rfl (fun h => h) (zz_rc fS256 (zz_nc1 rfl) rfl (fun h => h) (zz_rc fS249 (zz_nc1 rfl) rfl (fun h => h) (zz_rc fS243 (zz_nc1 rfl) rfl (fun h => h) (zz_rc fS236 (zz_nc1 rfl) rfl (fun h => h) (zz_rc fS229 (zz_nc1 rfl) rfl (fun h => h) (zz_rc fS222 (zz_nc1 rfl) rfl (fun h => h) (zz_rc fS216 (zz_nc1 rfl) rfl (fun h => h) (zz_rc fS209 (zz_nc1 rfl) rfl (fun h => h) (zz_rc fS202 (zz_nc1 rfl) rfl (fun h => h) (zz_rc fS195 (zz_nc1 rfl) rfl (fun h => h) rfl)))))))))))) ?_
                  refine zz_if_le (by omega) zd_14_108_200 (fun c361 => ?_) (fun c361 => ?_)
                  · refine zz_aload_n (x := 1079) rfl zd_14_108_220 ?_
                    refine zz_getr (kd := 0) (z := 1113) zd_14_108_221 zf_Md_121 zT_1079 rfl (zz_ltn hn rfl) (zz_G.eq G_S354 1079 48 1113 rfl rfl) (by decide) 1113 rfl ?_
                    refine zz_iload_n (x := p0) rfl zd_14_108_224 ?_
                    have g362 := zz_G.r G_S0 1113 p0.toNat 0 31 rfl rfl
                    refine zz_iald (z := S0 1113 p0.toNat) zd_14_108_225 zT_1113 rfl (zz_ltn hn rfl) (by decide) (by omega) (zz_rc fS354 (zz_nc1 rfl) rfl (fun h => h) (zz_rc fS348 (zz_nc1 rfl) rfl (fun h => h) (zz_rc fS256 (zz_nc1 rfl) rfl (fun h => h) (zz_rc fS249 (zz_nc1 rfl) rfl (fun h => h) (zz_rc fS243 (zz_nc1 rfl) rfl (fun h => h) (zz_rc fS236 (zz_nc1 rfl) rfl (fun h => h) (zz_rc fS229 (zz_nc1 rfl) rfl (fun h => h) (zz_rc fS222 (zz_nc1 rfl) rfl (fun h => h) (zz_rc fS216 (zz_nc1 rfl) rfl (fun h => h) (zz_rc fS209 (zz_nc1 rfl) rfl (fun h => h) (zz_rc fS202 (zz_nc1 rfl) rfl (fun h => h) (zz_rc fS195 (zz_nc1 rfl) rfl (fun h => h) rfl)))))))))))) ?_
                    refine zz_bipush (by decide) zd_14_108_226 ?_
                    refine zz_irem (by omega) (by omega) zd_14_108_228 (fun v363 hv363 av363 bv363 cv363 => ?_)
                    skip
                    refine zz_if_le (by omega) zd_14_108_229 (fun c364 => ?_) (fun c364 => ?_)
                    · refine zz_aload_n (x := 1079) rfl zd_14_108_252 ?_
                      refine zz_getr (kd := 0) (z := 1113) zd_14_108_253 zf_Md_121 zT_1079 rfl (zz_ltn hn rfl) (zz_G.eq G_S354 1079 48 1113 rfl rfl) (by decide) 1113 rfl ?_
                      refine zz_iload_n (x := p0) rfl zd_14_108_256 ?_
                      refine zz_iald (z := S0 1113 p0.toNat) zd_14_108_257 zT_1113 rfl (zz_ltn hn rfl) (by decide) (by omega) (zz_rc fS354 (zz_nc1 rfl) rfl (fun h => h) (zz_rc fS348 (zz_nc1 rfl) rfl (fun h => h) (zz_rc fS256 (zz_nc1 rfl) rfl (fun h => h) (zz_rc fS249 (zz_nc1 rfl) rfl (fun h => h) (zz_rc fS243 (zz_nc1 rfl) rfl (fun h => h) (zz_rc fS236 (zz_nc1 rfl) rfl (fun h => h) (zz_rc fS229 (zz_nc1 rfl) rfl (fun h => h) (zz_rc fS222 (zz_nc1 rfl) rfl (fun h => h) (zz_rc fS216 (zz_nc1 rfl) rfl (fun h => h) (zz_rc fS209 (zz_nc1 rfl) rfl (fun h => h) (zz_rc fS202 (zz_nc1 rfl) rfl (fun h => h) (zz_rc fS195 (zz_nc1 rfl) rfl (fun h => h) rfl)))))))))))) ?_
                      refine zz_bipush (by decide) zd_14_108_258 ?_
                      refine zz_icmp_le (by omega) (by omega) zd_14_108_260 (fun c365 => ?_) (fun c365 => ?_)
                      · have g366 := zz_G.r G_S354 1079 34 0 200 rfl rfl
                        exact zz_vret zd_14_108_270 rfl (Nat.zero_le _) (Nat.zero_le _) ⟨_, rfl, G_S354, F_S354, by omega, by omega, (fun K a b kh kw ch ad h w st ed sh rl hq hx eK ea eb ekh ekw ech ead est eed esh h0 => by unfold zs_lq at hq; unfold zs_lx at hx; have t9 := zs_sh esh (by omega) (by omega) av363; have ead := ead (by omega); subst ead; subst ea ekh ekw ech est eed; have k1 := o199 _ zs_wconv h0 zs_kconv; have k2 := o206 _ k1 (by omega); have k3 := o213 _ zs_wby k2 zs_kby; have k4 := o220 _ k3 (by omega); have k5 := o226 _ zs_wx k4 zs_kx; have k6 := o233 _ k5 (by omega); have k7 := o240 _ zs_woutputs k6 zs_koutputs; have k8 := o247 _ k7 (by omega); have k9 := o253 _ zs_wat k8 zs_kat; have k10 := o260 _ k9 (by omega); have k11 := o352 _ zs_wstep k10 zs_kstep; have k12 := o358 _ k11 (by omega); exact zs_opH k12 (zs_hd1 (by omega)) (if_neg (by omega)) (if_pos (by omega)) (if_pos (by omega)) (if_pos (by omega)))⟩
                      · refine zz_aload_n (x := 1079) rfl zd_14_108_263 ?_
                        refine zz_ldc2 (z := 700594) zq_Md_546 (by decide) zd_14_108_264 ?_
                        have g367 := zz_G.r G_S354 1079 34 0 200 rfl rfl
                        refine zz_callVV [zl 700594] zd_14_108_267 zk_Md_604 zT_1079 (zz_ltn hn rfl) rfl rfl ⟨Nat.le_of_ble_eq_true rfl, Nat.le_of_ble_eq_true rfl⟩ ⟨rfl, rfl⟩ (Nat.zero_le _) (Nat.zero_le _) (zc_sayCode_14_106 700594 S354 n hn G_S354 (by omega) (by omega) (by omega)) (fun S368 hP => ?_)
                        obtain ⟨G_S368, fS368, o370, o371, o372⟩ := hP
                        have F_S368 := zz_fr.trans F_S354 fS368 rfl zz_nv
                        have g373 := zz_G.r G_S368 1079 34 0 200 rfl rfl
                        exact zz_vret zd_14_108_270 rfl (Nat.zero_le _) (Nat.zero_le _) ⟨_, rfl, G_S368, F_S368, by omega, by omega, (fun K a b kh kw ch ad h w st ed sh rl hq hx eK ea eb ekh ekw ech ead est eed esh h0 => by unfold zs_lq at hq; unfold zs_lx at hx; have t9 := zs_sh esh (by omega) (by omega) av363; have ead := ead (by omega); subst ead; subst ea ekh ekw ech est eed; have k1 := o199 _ zs_wconv h0 zs_kconv; have k2 := o206 _ k1 (by omega); have k3 := o213 _ zs_wby k2 zs_kby; have k4 := o220 _ k3 (by omega); have k5 := o226 _ zs_wx k4 zs_kx; have k6 := o233 _ k5 (by omega); have k7 := o240 _ zs_woutputs k6 zs_koutputs; have k8 := o247 _ k7 (by omega); have k9 := o253 _ zs_wat k8 zs_kat; have k10 := o260 _ k9 (by omega); have k11 := o352 _ zs_wstep k10 zs_kstep; have k12 := o358 _ k11 (by omega); have k13 := o372 _ zs_wrelu k12 zs_krelu; exact zs_opH k13 (zs_hd1 (by omega)) (if_neg (by omega)) (if_pos (by omega)) (if_pos (by omega)) (if_neg (by omega)))⟩
                    · refine zz_aload_n (x := 1079) rfl zd_14_108_232 ?_
                      refine zz_ldc2 (z := 21177619) zq_Md_544 (by decide) zd_14_108_233 ?_
                      have g374 := zz_G.r G_S354 1079 34 0 200 rfl rfl
                      refine zz_callVV [zl 21177619] zd_14_108_236 zk_Md_604 zT_1079 (zz_ltn hn rfl) rfl rfl ⟨Nat.le_of_ble_eq_true rfl, Nat.le_of_ble_eq_true rfl⟩ ⟨rfl, rfl⟩ (Nat.zero_le _) (Nat.zero_le _) (zc_sayCode_14_106 21177619 S354 n hn G_S354 (by omega) (by omega) (by omega)) (fun S375 hP => ?_)
                      obtain ⟨G_S375, fS375, o377, o378, o379⟩ := hP
                      have F_S375 := zz_fr.trans F_S354 fS375 rfl zz_nv
                      refine zz_aload_n (x := 1079) rfl zd_14_108_239 ?_
                      refine zz_aload_n (x := 1079) rfl zd_14_108_240 ?_
                      refine zz_getr (kd := 0) (z := 1113) zd_14_108_241 zf_Md_121 zT_1079 rfl (zz_ltn hn rfl) (zz_G.eq G_S375 1079 48 1113 rfl rfl) (by decide) 1113 rfl ?_
                      refine zz_iload_n (x := p0) rfl zd_14_108_244 ?_
                      refine zz_iald (z := S0 1113 p0.toNat) zd_14_108_245 zT_1113 rfl (zz_ltn hn rfl) (by decide) (by omega) (zz_rc fS375 (zz_nc1 rfl) rfl (fun h => h) (zz_rc fS354 (zz_nc1 rfl) rfl (fun h => h) (zz_rc fS348 (zz_nc1 rfl) rfl (fun h => h) (zz_rc fS256 (zz_nc1 rfl) rfl (fun h => h) (zz_rc fS249 (zz_nc1 rfl) rfl (fun h => h) (zz_rc fS243 (zz_nc1 rfl) rfl (fun h => h) (zz_rc fS236 (zz_nc1 rfl) rfl (fun h => h) (zz_rc fS229 (zz_nc1 rfl) rfl (fun h => h) (zz_rc fS222 (zz_nc1 rfl) rfl (fun h => h) (zz_rc fS216 (zz_nc1 rfl) rfl (fun h => h) (zz_rc fS209 (zz_nc1 rfl) rfl (fun h => h) (zz_rc fS202 (zz_nc1 rfl) rfl (fun h => h) (zz_rc fS195 (zz_nc1 rfl) rfl (fun h => h) rfl))))))))))))) ?_
                      refine zz_bipush (by decide) zd_14_108_246 ?_
                      refine zz_irem (by omega) (by omega) zd_14_108_248 (fun v380 hv380 av380 bv380 cv380 => ?_)
                      have g381 := zz_G.r G_S375 1079 34 0 200 rfl rfl
                      refine zz_callVV [zi v380] zd_14_108_249 zk_Md_607 zT_1079 (zz_ltn hn rfl) rfl rfl ⟨Nat.le_of_ble_eq_true rfl, Nat.le_of_ble_eq_true rfl⟩ ⟨rfl, rfl⟩ (Nat.zero_le _) (Nat.zero_le _) (zc_sayCount_14_107 v380 S375 n hn G_S375 (by omega) (by omega)) (fun S382 hP => ?_)
                      obtain ⟨G_S382, fS382, o384, o385, o386⟩ := hP
                      have F_S382 := zz_fr.trans F_S375 fS382 rfl zz_nv
                      refine zz_aload_n (x := 1079) rfl zd_14_108_252 ?_
                      refine zz_getr (kd := 0) (z := 1113) zd_14_108_253 zf_Md_121 zT_1079 rfl (zz_ltn hn rfl) (zz_G.eq G_S382 1079 48 1113 rfl rfl) (by decide) 1113 rfl ?_
                      refine zz_iload_n (x := p0) rfl zd_14_108_256 ?_
                      refine zz_iald (z := S0 1113 p0.toNat) zd_14_108_257 zT_1113 rfl (zz_ltn hn rfl) (by decide) (by omega) (zz_rc fS382 (zz_nc1 rfl) rfl (fun h => h) (zz_rc fS375 (zz_nc1 rfl) rfl (fun h => h) (zz_rc fS354 (zz_nc1 rfl) rfl (fun h => h) (zz_rc fS348 (zz_nc1 rfl) rfl (fun h => h) (zz_rc fS256 (zz_nc1 rfl) rfl (fun h => h) (zz_rc fS249 (zz_nc1 rfl) rfl (fun h => h) (zz_rc fS243 (zz_nc1 rfl) rfl (fun h => h) (zz_rc fS236 (zz_nc1 rfl) rfl (fun h => h) (zz_rc fS229 (zz_nc1 rfl) rfl (fun h => h) (zz_rc fS222 (zz_nc1 rfl) rfl (fun h => h) (zz_rc fS216 (zz_nc1 rfl) rfl (fun h => h) (zz_rc fS209 (zz_nc1 rfl) rfl (fun h => h) (zz_rc fS202 (zz_nc1 rfl) rfl (fun h => h) (zz_rc fS195 (zz_nc1 rfl) rfl (fun h => h) rfl)))))))))))))) ?_
                      refine zz_bipush (by decide) zd_14_108_258 ?_
                      refine zz_icmp_le (by omega) (by omega) zd_14_108_260 (fun c387 => ?_) (fun c387 => ?_)
                      · have g388 := zz_G.r G_S382 1079 34 0 200 rfl rfl
                        exact zz_vret zd_14_108_270 rfl (Nat.zero_le _) (Nat.zero_le _) ⟨_, rfl, G_S382, F_S382, by omega, by omega, (fun K a b kh kw ch ad h w st ed sh rl hq hx eK ea eb ekh ekw ech ead est eed esh h0 => by unfold zs_lq at hq; unfold zs_lx at hx; have t9 := zs_sh esh (by omega) (by omega) av363; have ead := ead (by omega); subst ead; subst ea ekh ekw ech est eed; have k1 := o199 _ zs_wconv h0 zs_kconv; have k2 := o206 _ k1 (by omega); have k3 := o213 _ zs_wby k2 zs_kby; have k4 := o220 _ k3 (by omega); have k5 := o226 _ zs_wx k4 zs_kx; have k6 := o233 _ k5 (by omega); have k7 := o240 _ zs_woutputs k6 zs_koutputs; have k8 := o247 _ k7 (by omega); have k9 := o253 _ zs_wat k8 zs_kat; have k10 := o260 _ k9 (by omega); have k11 := o352 _ zs_wstep k10 zs_kstep; have k12 := o358 _ k11 (by omega); have k13 := o379 _ zs_wshift k12 zs_kshift; have k14 := o386 _ k13 (by have z9 := zs_sh esh (by omega) (by omega) av380; omega); rw [zs_sh esh (by omega) (by omega) av380] at k14; exact zs_opH k14 (zs_hd1 (by omega)) (if_neg (by omega)) (if_pos (by omega)) (if_neg (by omega)) (if_pos (by omega)))⟩
                      · refine zz_aload_n (x := 1079) rfl zd_14_108_263 ?_
                        refine zz_ldc2 (z := 700594) zq_Md_546 (by decide) zd_14_108_264 ?_
                        have g389 := zz_G.r G_S382 1079 34 0 200 rfl rfl
                        refine zz_callVV [zl 700594] zd_14_108_267 zk_Md_604 zT_1079 (zz_ltn hn rfl) rfl rfl ⟨Nat.le_of_ble_eq_true rfl, Nat.le_of_ble_eq_true rfl⟩ ⟨rfl, rfl⟩ (Nat.zero_le _) (Nat.zero_le _) (zc_sayCode_14_106 700594 S382 n hn G_S382 (by omega) (by omega) (by omega)) (fun S390 hP => ?_)
                        obtain ⟨G_S390, fS390, o392, o393, o394⟩ := hP
                        have F_S390 := zz_fr.trans F_S382 fS390 rfl zz_nv
                        have g395 := zz_G.r G_S390 1079 34 0 200 rfl rfl
                        exact zz_vret zd_14_108_270 rfl (Nat.zero_le _) (Nat.zero_le _) ⟨_, rfl, G_S390, F_S390, by omega, by omega, (fun K a b kh kw ch ad h w st ed sh rl hq hx eK ea eb ekh ekw ech ead est eed esh h0 => by unfold zs_lq at hq; unfold zs_lx at hx; have t9 := zs_sh esh (by omega) (by omega) av363; have ead := ead (by omega); subst ead; subst ea ekh ekw ech est eed; have k1 := o199 _ zs_wconv h0 zs_kconv; have k2 := o206 _ k1 (by omega); have k3 := o213 _ zs_wby k2 zs_kby; have k4 := o220 _ k3 (by omega); have k5 := o226 _ zs_wx k4 zs_kx; have k6 := o233 _ k5 (by omega); have k7 := o240 _ zs_woutputs k6 zs_koutputs; have k8 := o247 _ k7 (by omega); have k9 := o253 _ zs_wat k8 zs_kat; have k10 := o260 _ k9 (by omega); have k11 := o352 _ zs_wstep k10 zs_kstep; have k12 := o358 _ k11 (by omega); have k13 := o379 _ zs_wshift k12 zs_kshift; have k14 := o386 _ k13 (by have z9 := zs_sh esh (by omega) (by omega) av380; omega); rw [zs_sh esh (by omega) (by omega) av380] at k14; have k15 := o394 _ zs_wrelu k14 zs_krelu; exact zs_opH k15 (zs_hd1 (by omega)) (if_neg (by omega)) (if_pos (by omega)) (if_neg (by omega)) (if_neg (by omega)))⟩
                  · refine zz_aload_n (x := 1079) rfl zd_14_108_203 ?_
                    refine zz_ldc2 (z := 171141) zq_Md_542 (by decide) zd_14_108_204 ?_
                    have g396 := zz_G.r G_S354 1079 34 0 200 rfl rfl
                    refine zz_callVV [zl 171141] zd_14_108_207 zk_Md_604 zT_1079 (zz_ltn hn rfl) rfl rfl ⟨Nat.le_of_ble_eq_true rfl, Nat.le_of_ble_eq_true rfl⟩ ⟨rfl, rfl⟩ (Nat.zero_le _) (Nat.zero_le _) (zc_sayCode_14_106 171141 S354 n hn G_S354 (by omega) (by omega) (by omega)) (fun S397 hP => ?_)
                    obtain ⟨G_S397, fS397, o399, o400, o401⟩ := hP
                    have F_S397 := zz_fr.trans F_S354 fS397 rfl zz_nv
                    refine zz_aload_n (x := 1079) rfl zd_14_108_210 ?_
                    refine zz_aload_n (x := 1079) rfl zd_14_108_211 ?_
                    refine zz_getr (kd := 0) (z := 1112) zd_14_108_212 zf_Md_118 zT_1079 rfl (zz_ltn hn rfl) (zz_G.eq G_S397 1079 47 1112 rfl rfl) (by decide) 1112 rfl ?_
                    refine zz_iload_n (x := p0) rfl zd_14_108_215 ?_
                    refine zz_iald (z := S0 1112 p0.toNat) zd_14_108_216 zT_1112 rfl (zz_ltn hn rfl) (by decide) (by omega) (zz_rc fS397 (zz_nc1 rfl) rfl (fun h => h) (zz_rc fS354 (zz_nc1 rfl) rfl (fun h => h) (zz_rc fS348 (zz_nc1 rfl) rfl (fun h => h) (zz_rc fS256 (zz_nc1 rfl) rfl (fun h => h) (zz_rc fS249 (zz_nc1 rfl) rfl (fun h => h) (zz_rc fS243 (zz_nc1 rfl) rfl (fun h => h) (zz_rc fS236 (zz_nc1 rfl) rfl (fun h => h) (zz_rc fS229 (zz_nc1 rfl) rfl (fun h => h) (zz_rc fS222 (zz_nc1 rfl) rfl (fun h => h) (zz_rc fS216 (zz_nc1 rfl) rfl (fun h => h) (zz_rc fS209 (zz_nc1 rfl) rfl (fun h => h) (zz_rc fS202 (zz_nc1 rfl) rfl (fun h => h) (zz_rc fS195 (zz_nc1 rfl) rfl (fun h => h) rfl))))))))))))) ?_
                    have g402 := zz_G.r G_S397 1079 34 0 200 rfl rfl
                    refine zz_callVV [zi (S0 1112 p0.toNat)] zd_14_108_217 zk_Md_607 zT_1079 (zz_ltn hn rfl) rfl rfl ⟨Nat.le_of_ble_eq_true rfl, Nat.le_of_ble_eq_true rfl⟩ ⟨rfl, rfl⟩ (Nat.zero_le _) (Nat.zero_le _) (zc_sayCount_14_107 (S0 1112 p0.toNat) S397 n hn G_S397 (by omega) (by omega)) (fun S403 hP => ?_)
                    obtain ⟨G_S403, fS403, o405, o406, o407⟩ := hP
                    have F_S403 := zz_fr.trans F_S397 fS403 rfl zz_nv
                    refine zz_aload_n (x := 1079) rfl zd_14_108_220 ?_
                    refine zz_getr (kd := 0) (z := 1113) zd_14_108_221 zf_Md_121 zT_1079 rfl (zz_ltn hn rfl) (zz_G.eq G_S403 1079 48 1113 rfl rfl) (by decide) 1113 rfl ?_
                    refine zz_iload_n (x := p0) rfl zd_14_108_224 ?_
                    have g408 := zz_G.r G_S0 1113 p0.toNat 0 31 rfl rfl
                    refine zz_iald (z := S0 1113 p0.toNat) zd_14_108_225 zT_1113 rfl (zz_ltn hn rfl) (by decide) (by omega) (zz_rc fS403 (zz_nc1 rfl) rfl (fun h => h) (zz_rc fS397 (zz_nc1 rfl) rfl (fun h => h) (zz_rc fS354 (zz_nc1 rfl) rfl (fun h => h) (zz_rc fS348 (zz_nc1 rfl) rfl (fun h => h) (zz_rc fS256 (zz_nc1 rfl) rfl (fun h => h) (zz_rc fS249 (zz_nc1 rfl) rfl (fun h => h) (zz_rc fS243 (zz_nc1 rfl) rfl (fun h => h) (zz_rc fS236 (zz_nc1 rfl) rfl (fun h => h) (zz_rc fS229 (zz_nc1 rfl) rfl (fun h => h) (zz_rc fS222 (zz_nc1 rfl) rfl (fun h => h) (zz_rc fS216 (zz_nc1 rfl) rfl (fun h => h) (zz_rc fS209 (zz_nc1 rfl) rfl (fun h => h) (zz_rc fS202 (zz_nc1 rfl) rfl (fun h => h) (zz_rc fS195 (zz_nc1 rfl) rfl (fun h => h) rfl)))))))))))))) ?_
                    refine zz_bipush (by decide) zd_14_108_226 ?_
                    refine zz_irem (by omega) (by omega) zd_14_108_228 (fun v409 hv409 av409 bv409 cv409 => ?_)
                    skip
                    refine zz_if_le (by omega) zd_14_108_229 (fun c410 => ?_) (fun c410 => ?_)
                    · refine zz_aload_n (x := 1079) rfl zd_14_108_252 ?_
                      refine zz_getr (kd := 0) (z := 1113) zd_14_108_253 zf_Md_121 zT_1079 rfl (zz_ltn hn rfl) (zz_G.eq G_S403 1079 48 1113 rfl rfl) (by decide) 1113 rfl ?_
                      refine zz_iload_n (x := p0) rfl zd_14_108_256 ?_
                      refine zz_iald (z := S0 1113 p0.toNat) zd_14_108_257 zT_1113 rfl (zz_ltn hn rfl) (by decide) (by omega) (zz_rc fS403 (zz_nc1 rfl) rfl (fun h => h) (zz_rc fS397 (zz_nc1 rfl) rfl (fun h => h) (zz_rc fS354 (zz_nc1 rfl) rfl (fun h => h) (zz_rc fS348 (zz_nc1 rfl) rfl (fun h => h) (zz_rc fS256 (zz_nc1 rfl) rfl (fun h => h) (zz_rc fS249 (zz_nc1 rfl) rfl (fun h => h) (zz_rc fS243 (zz_nc1 rfl) rfl (fun h => h) (zz_rc fS236 (zz_nc1 rfl) rfl (fun h => h) (zz_rc fS229 (zz_nc1 rfl) rfl (fun h => h) (zz_rc fS222 (zz_nc1 rfl) rfl (fun h => h) (zz_rc fS216 (zz_nc1 rfl) rfl (fun h => h) (zz_rc fS209 (zz_nc1 rfl) rfl (fun h => h) (zz_rc fS202 (zz_nc1 rfl) rfl (fun h => h) (zz_rc fS195 (zz_nc1 rfl) rfl (fun h => h) rfl)))))))))))))) ?_
                      refine zz_bipush (by decide) zd_14_108_258 ?_
                      refine zz_icmp_le (by omega) (by omega) zd_14_108_260 (fun c411 => ?_) (fun c411 => ?_)
                      · have g412 := zz_G.r G_S403 1079 34 0 200 rfl rfl
                        exact zz_vret zd_14_108_270 rfl (Nat.zero_le _) (Nat.zero_le _) ⟨_, rfl, G_S403, F_S403, by omega, by omega, (fun K a b kh kw ch ad h w st ed sh rl hq hx eK ea eb ekh ekw ech ead est eed esh h0 => by unfold zs_lq at hq; unfold zs_lx at hx; have t9 := zs_sh esh (by omega) (by omega) av409; have ead := ead (by omega); subst ead; subst ea ekh ekw ech est eed; have k1 := o199 _ zs_wconv h0 zs_kconv; have k2 := o206 _ k1 (by omega); have k3 := o213 _ zs_wby k2 zs_kby; have k4 := o220 _ k3 (by omega); have k5 := o226 _ zs_wx k4 zs_kx; have k6 := o233 _ k5 (by omega); have k7 := o240 _ zs_woutputs k6 zs_koutputs; have k8 := o247 _ k7 (by omega); have k9 := o253 _ zs_wat k8 zs_kat; have k10 := o260 _ k9 (by omega); have k11 := o352 _ zs_wstep k10 zs_kstep; have k12 := o358 _ k11 (by omega); have k13 := o401 _ zs_wedge k12 zs_kedge; have k14 := o407 _ k13 (by omega); exact zs_opH k14 (zs_hd1 (by omega)) (if_neg (by omega)) (if_neg (by omega)) (if_pos (by omega)) (if_pos (by omega)))⟩
                      · refine zz_aload_n (x := 1079) rfl zd_14_108_263 ?_
                        refine zz_ldc2 (z := 700594) zq_Md_546 (by decide) zd_14_108_264 ?_
                        have g413 := zz_G.r G_S403 1079 34 0 200 rfl rfl
                        refine zz_callVV [zl 700594] zd_14_108_267 zk_Md_604 zT_1079 (zz_ltn hn rfl) rfl rfl ⟨Nat.le_of_ble_eq_true rfl, Nat.le_of_ble_eq_true rfl⟩ ⟨rfl, rfl⟩ (Nat.zero_le _) (Nat.zero_le _) (zc_sayCode_14_106 700594 S403 n hn G_S403 (by omega) (by omega) (by omega)) (fun S414 hP => ?_)
                        obtain ⟨G_S414, fS414, o416, o417, o418⟩ := hP
                        have F_S414 := zz_fr.trans F_S403 fS414 rfl zz_nv
                        have g419 := zz_G.r G_S414 1079 34 0 200 rfl rfl
                        exact zz_vret zd_14_108_270 rfl (Nat.zero_le _) (Nat.zero_le _) ⟨_, rfl, G_S414, F_S414, by omega, by omega, (fun K a b kh kw ch ad h w st ed sh rl hq hx eK ea eb ekh ekw ech ead est eed esh h0 => by unfold zs_lq at hq; unfold zs_lx at hx; have t9 := zs_sh esh (by omega) (by omega) av409; have ead := ead (by omega); subst ead; subst ea ekh ekw ech est eed; have k1 := o199 _ zs_wconv h0 zs_kconv; have k2 := o206 _ k1 (by omega); have k3 := o213 _ zs_wby k2 zs_kby; have k4 := o220 _ k3 (by omega); have k5 := o226 _ zs_wx k4 zs_kx; have k6 := o233 _ k5 (by omega); have k7 := o240 _ zs_woutputs k6 zs_koutputs; have k8 := o247 _ k7 (by omega); have k9 := o253 _ zs_wat k8 zs_kat; have k10 := o260 _ k9 (by omega); have k11 := o352 _ zs_wstep k10 zs_kstep; have k12 := o358 _ k11 (by omega); have k13 := o401 _ zs_wedge k12 zs_kedge; have k14 := o407 _ k13 (by omega); have k15 := o418 _ zs_wrelu k14 zs_krelu; exact zs_opH k15 (zs_hd1 (by omega)) (if_neg (by omega)) (if_neg (by omega)) (if_pos (by omega)) (if_neg (by omega)))⟩
                    · refine zz_aload_n (x := 1079) rfl zd_14_108_232 ?_
                      refine zz_ldc2 (z := 21177619) zq_Md_544 (by decide) zd_14_108_233 ?_
                      have g420 := zz_G.r G_S403 1079 34 0 200 rfl rfl
                      refine zz_callVV [zl 21177619] zd_14_108_236 zk_Md_604 zT_1079 (zz_ltn hn rfl) rfl rfl ⟨Nat.le_of_ble_eq_true rfl, Nat.le_of_ble_eq_true rfl⟩ ⟨rfl, rfl⟩ (Nat.zero_le _) (Nat.zero_le _) (zc_sayCode_14_106 21177619 S403 n hn G_S403 (by omega) (by omega) (by omega)) (fun S421 hP => ?_)
                      obtain ⟨G_S421, fS421, o423, o424, o425⟩ := hP
                      have F_S421 := zz_fr.trans F_S403 fS421 rfl zz_nv
                      refine zz_aload_n (x := 1079) rfl zd_14_108_239 ?_
                      refine zz_aload_n (x := 1079) rfl zd_14_108_240 ?_
                      refine zz_getr (kd := 0) (z := 1113) zd_14_108_241 zf_Md_121 zT_1079 rfl (zz_ltn hn rfl) (zz_G.eq G_S421 1079 48 1113 rfl rfl) (by decide) 1113 rfl ?_
                      refine zz_iload_n (x := p0) rfl zd_14_108_244 ?_
                      refine zz_iald (z := S0 1113 p0.toNat) zd_14_108_245 zT_1113 rfl (zz_ltn hn rfl) (by decide) (by omega) (zz_rc fS421 (zz_nc1 rfl) rfl (fun h => h) (zz_rc fS403 (zz_nc1 rfl) rfl (fun h => h) (zz_rc fS397 (zz_nc1 rfl) rfl (fun h => h) (zz_rc fS354 (zz_nc1 rfl) rfl (fun h => h) (zz_rc fS348 (zz_nc1 rfl) rfl (fun h => h) (zz_rc fS256 (zz_nc1 rfl) rfl (fun h => h) (zz_rc fS249 (zz_nc1 rfl) rfl (fun h => h) (zz_rc fS243 (zz_nc1 rfl) rfl (fun h => h) (zz_rc fS236 (zz_nc1 rfl) rfl (fun h => h) (zz_rc fS229 (zz_nc1 rfl) rfl (fun h => h) (zz_rc fS222 (zz_nc1 rfl) rfl (fun h => h) (zz_rc fS216 (zz_nc1 rfl) rfl (fun h => h) (zz_rc fS209 (zz_nc1 rfl) rfl (fun h => h) (zz_rc fS202 (zz_nc1 rfl) rfl (fun h => h) (zz_rc fS195 (zz_nc1 rfl) rfl (fun h => h) rfl))))))))))))))) ?_
                      refine zz_bipush (by decide) zd_14_108_246 ?_
                      refine zz_irem (by omega) (by omega) zd_14_108_248 (fun v426 hv426 av426 bv426 cv426 => ?_)
                      have g427 := zz_G.r G_S421 1079 34 0 200 rfl rfl
                      refine zz_callVV [zi v426] zd_14_108_249 zk_Md_607 zT_1079 (zz_ltn hn rfl) rfl rfl ⟨Nat.le_of_ble_eq_true rfl, Nat.le_of_ble_eq_true rfl⟩ ⟨rfl, rfl⟩ (Nat.zero_le _) (Nat.zero_le _) (zc_sayCount_14_107 v426 S421 n hn G_S421 (by omega) (by omega)) (fun S428 hP => ?_)
                      obtain ⟨G_S428, fS428, o430, o431, o432⟩ := hP
                      have F_S428 := zz_fr.trans F_S421 fS428 rfl zz_nv
                      refine zz_aload_n (x := 1079) rfl zd_14_108_252 ?_
                      refine zz_getr (kd := 0) (z := 1113) zd_14_108_253 zf_Md_121 zT_1079 rfl (zz_ltn hn rfl) (zz_G.eq G_S428 1079 48 1113 rfl rfl) (by decide) 1113 rfl ?_
                      refine zz_iload_n (x := p0) rfl zd_14_108_256 ?_
                      refine zz_iald (z := S0 1113 p0.toNat) zd_14_108_257 zT_1113 rfl (zz_ltn hn rfl) (by decide) (by omega) (zz_rc fS428 (zz_nc1 rfl) rfl (fun h => h) (zz_rc fS421 (zz_nc1 rfl) rfl (fun h => h) (zz_rc fS403 (zz_nc1 rfl) rfl (fun h => h) (zz_rc fS397 (zz_nc1 rfl) rfl (fun h => h) (zz_rc fS354 (zz_nc1 rfl) rfl (fun h => h) (zz_rc fS348 (zz_nc1 rfl) rfl (fun h => h) (zz_rc fS256 (zz_nc1 rfl) rfl (fun h => h) (zz_rc fS249 (zz_nc1 rfl) rfl (fun h => h) (zz_rc fS243 (zz_nc1 rfl) rfl (fun h => h) (zz_rc fS236 (zz_nc1 rfl) rfl (fun h => h) (zz_rc fS229 (zz_nc1 rfl) rfl (fun h => h) (zz_rc fS222 (zz_nc1 rfl) rfl (fun h => h) (zz_rc fS216 (zz_nc1 rfl) rfl (fun h => h) (zz_rc fS209 (zz_nc1 rfl) rfl (fun h => h) (zz_rc fS202 (zz_nc1 rfl) rfl (fun h => h) (zz_rc fS195 (zz_nc1 rfl) rfl (fun h => h) rfl)))))))))))))))) ?_
                      refine zz_bipush (by decide) zd_14_108_258 ?_
                      refine zz_icmp_le (by omega) (by omega) zd_14_108_260 (fun c433 => ?_) (fun c433 => ?_)
                      · have g434 := zz_G.r G_S428 1079 34 0 200 rfl rfl
                        exact zz_vret zd_14_108_270 rfl (Nat.zero_le _) (Nat.zero_le _) ⟨_, rfl, G_S428, F_S428, by omega, by omega, (fun K a b kh kw ch ad h w st ed sh rl hq hx eK ea eb ekh ekw ech ead est eed esh h0 => by unfold zs_lq at hq; unfold zs_lx at hx; have t9 := zs_sh esh (by omega) (by omega) av409; have ead := ead (by omega); subst ead; subst ea ekh ekw ech est eed; have k1 := o199 _ zs_wconv h0 zs_kconv; have k2 := o206 _ k1 (by omega); have k3 := o213 _ zs_wby k2 zs_kby; have k4 := o220 _ k3 (by omega); have k5 := o226 _ zs_wx k4 zs_kx; have k6 := o233 _ k5 (by omega); have k7 := o240 _ zs_woutputs k6 zs_koutputs; have k8 := o247 _ k7 (by omega); have k9 := o253 _ zs_wat k8 zs_kat; have k10 := o260 _ k9 (by omega); have k11 := o352 _ zs_wstep k10 zs_kstep; have k12 := o358 _ k11 (by omega); have k13 := o401 _ zs_wedge k12 zs_kedge; have k14 := o407 _ k13 (by omega); have k15 := o425 _ zs_wshift k14 zs_kshift; have k16 := o432 _ k15 (by have z9 := zs_sh esh (by omega) (by omega) av426; omega); rw [zs_sh esh (by omega) (by omega) av426] at k16; exact zs_opH k16 (zs_hd1 (by omega)) (if_neg (by omega)) (if_neg (by omega)) (if_neg (by omega)) (if_pos (by omega)))⟩
                      · refine zz_aload_n (x := 1079) rfl zd_14_108_263 ?_
                        refine zz_ldc2 (z := 700594) zq_Md_546 (by decide) zd_14_108_264 ?_
                        have g435 := zz_G.r G_S428 1079 34 0 200 rfl rfl
                        refine zz_callVV [zl 700594] zd_14_108_267 zk_Md_604 zT_1079 (zz_ltn hn rfl) rfl rfl ⟨Nat.le_of_ble_eq_true rfl, Nat.le_of_ble_eq_true rfl⟩ ⟨rfl, rfl⟩ (Nat.zero_le _) (Nat.zero_le _) (zc_sayCode_14_106 700594 S428 n hn G_S428 (by omega) (by omega) (by omega)) (fun S436 hP => ?_)
                        obtain ⟨G_S436, fS436, o438, o439, o440⟩ := hP
                        have F_S436 := zz_fr.trans F_S428 fS436 rfl zz_nv
                        have g441 := zz_G.r G_S436 1079 34 0 200 rfl rfl
                        exact zz_vret zd_14_108_270 rfl (Nat.zero_le _) (Nat.zero_le _) ⟨_, rfl, G_S436, F_S436, by omega, by omega, (fun K a b kh kw ch ad h w st ed sh rl hq hx eK ea eb ekh ekw ech ead est eed esh h0 => by unfold zs_lq at hq; unfold zs_lx at hx; have t9 := zs_sh esh (by omega) (by omega) av409; have ead := ead (by omega); subst ead; subst ea ekh ekw ech est eed; have k1 := o199 _ zs_wconv h0 zs_kconv; have k2 := o206 _ k1 (by omega); have k3 := o213 _ zs_wby k2 zs_kby; have k4 := o220 _ k3 (by omega); have k5 := o226 _ zs_wx k4 zs_kx; have k6 := o233 _ k5 (by omega); have k7 := o240 _ zs_woutputs k6 zs_koutputs; have k8 := o247 _ k7 (by omega); have k9 := o253 _ zs_wat k8 zs_kat; have k10 := o260 _ k9 (by omega); have k11 := o352 _ zs_wstep k10 zs_kstep; have k12 := o358 _ k11 (by omega); have k13 := o401 _ zs_wedge k12 zs_kedge; have k14 := o407 _ k13 (by omega); have k15 := o425 _ zs_wshift k14 zs_kshift; have k16 := o432 _ k15 (by have z9 := zs_sh esh (by omega) (by omega) av426; omega); rw [zs_sh esh (by omega) (by omega) av426] at k16; have k17 := o440 _ zs_wrelu k16 zs_krelu; exact zs_opH k17 (zs_hd1 (by omega)) (if_neg (by omega)) (if_neg (by omega)) (if_neg (by omega)) (if_neg (by omega)))⟩
        · exfalso; omega
    · exfalso; omega
abbrev zy_networkSign_14_109 : mm_Y := (⟨"TensorForgeModel", "networkSign", "(II)I"⟩, prog_14_method_109_code, 3, (some .int))
theorem zyw_networkSign_14_109 : mm_Yw zy_networkSign_14_109 2 := ⟨mm_tb_1 2260 (by decide +kernel) rfl, mm_tb_1 12 (by decide +kernel) rfl, ⟨by decide, by decide⟩, by decide +kernel⟩
theorem zk_Md_610 : mm_Vl "TensorForgeModel" 610 11 1 zy_sayLayer_14_108 := ⟨zyw_sayLayer_14_108, (R_Md, F_Md, 69), rfl, mm_tb_1 2269 (by decide +kernel) rfl, mm_tb_1 2271 (by decide +kernel) rfl, mm_tb_s 154 (by decide +kernel) rfl⟩
theorem zg_14_109_0 : zq_at zy_networkSign_14_109.2.1 0 42 ∧ zq_at zy_networkSign_14_109.2.1 1 27 ∧ zq_at zy_networkSign_14_109.2.1 2 133 ∧ zq_at zy_networkSign_14_109.2.1 3 9 ∧ zq_at zy_networkSign_14_109.2.1 4 42 ∧ zq_at zy_networkSign_14_109.2.1 5 180 ∧ zq_at zy_networkSign_14_109.2.1 6 0 ∧ zq_at zy_networkSign_14_109.2.1 7 85 ∧ zq_at zy_networkSign_14_109.2.1 8 4 ∧ zq_at zy_networkSign_14_109.2.1 9 100 ∧ zq_at zy_networkSign_14_109.2.1 10 133 ∧ zq_at zy_networkSign_14_109.2.1 11 184 ∧ zq_at zy_networkSign_14_109.2.1 12 0 ∧ zq_at zy_networkSign_14_109.2.1 13 192 ∧ zq_at zy_networkSign_14_109.2.1 14 153 ∧ zq_at zy_networkSign_14_109.2.1 15 0 ∧ zq_at zy_networkSign_14_109.2.1 16 7 ∧ zq_at zy_networkSign_14_109.2.1 21 4 ∧ zq_at zy_networkSign_14_109.2.1 22 167 ∧ zq_at zy_networkSign_14_109.2.1 23 0 ∧ zq_at zy_networkSign_14_109.2.1 24 4 ∧ zq_at zy_networkSign_14_109.2.1 26 3 ∧ zq_at zy_networkSign_14_109.2.1 27 3 := by decide +kernel
theorem zd_14_109_0 : zz_D zy_networkSign_14_109 0 (.aload_n 0) 1 1 := ⟨zq_42 zg_14_109_0.1, rfl⟩
theorem zd_14_109_1 : zz_D zy_networkSign_14_109 1 (.iload_n 1) 1 2 := ⟨zq_27 zg_14_109_0.2.1, rfl⟩
theorem zd_14_109_2 : zz_D zy_networkSign_14_109 2 (.i2l) 1 3 := ⟨zq_133 zg_14_109_0.2.2.1, rfl⟩
theorem zd_14_109_3 : zz_D zy_networkSign_14_109 3 (.lconst 0) 1 4 := ⟨zq_9 zg_14_109_0.2.2.2.1, rfl⟩
theorem zd_14_109_4 : zz_D zy_networkSign_14_109 4 (.aload_n 0) 1 5 := ⟨zq_42 zg_14_109_0.2.2.2.2.1, rfl⟩
theorem zd_14_109_5 : zz_D zy_networkSign_14_109 5 (.getfield 85) 3 8 := ⟨zq_180 zg_14_109_0.2.2.2.2.2.1 zg_14_109_0.2.2.2.2.2.2.1 zg_14_109_0.2.2.2.2.2.2.2.1 rfl, rfl⟩
theorem zd_14_109_8 : zz_D zy_networkSign_14_109 8 (.iconst 1) 1 9 := ⟨zq_4 zg_14_109_0.2.2.2.2.2.2.2.2.1, rfl⟩
theorem zd_14_109_9 : zz_D zy_networkSign_14_109 9 (.isub) 1 10 := ⟨zq_100 zg_14_109_0.2.2.2.2.2.2.2.2.2.1, rfl⟩
theorem zd_14_109_10 : zz_D zy_networkSign_14_109 10 (.i2l) 1 11 := ⟨zq_133 zg_14_109_0.2.2.2.2.2.2.2.2.2.2.1, rfl⟩
theorem zd_14_109_11 : zz_D zy_networkSign_14_109 11 (.invokestatic 192) 3 14 := ⟨zq_184 zg_14_109_0.2.2.2.2.2.2.2.2.2.2.2.1 zg_14_109_0.2.2.2.2.2.2.2.2.2.2.2.2.1 zg_14_109_0.2.2.2.2.2.2.2.2.2.2.2.2.2.1 rfl, rfl⟩
theorem zd_14_109_14 : zz_B zy_networkSign_14_109 14 (Instr.ifCond .eq) 21 17 := ⟨7, zq_153 zg_14_109_0.2.2.2.2.2.2.2.2.2.2.2.2.2.2.1 zg_14_109_0.2.2.2.2.2.2.2.2.2.2.2.2.2.2.2.1 zg_14_109_0.2.2.2.2.2.2.2.2.2.2.2.2.2.2.2.2.1 (by decide), rfl, rfl⟩
theorem zd_14_109_21 : zz_D zy_networkSign_14_109 21 (.iconst 1) 1 22 := ⟨zq_4 zg_14_109_0.2.2.2.2.2.2.2.2.2.2.2.2.2.2.2.2.2.1, rfl⟩
theorem zd_14_109_22 : zz_B zy_networkSign_14_109 22 Instr.goto 26 25 := ⟨4, zq_167 zg_14_109_0.2.2.2.2.2.2.2.2.2.2.2.2.2.2.2.2.2.2.1 zg_14_109_0.2.2.2.2.2.2.2.2.2.2.2.2.2.2.2.2.2.2.2.1 zg_14_109_0.2.2.2.2.2.2.2.2.2.2.2.2.2.2.2.2.2.2.2.2.1 (by decide), rfl, rfl⟩
theorem zd_14_109_26 : zz_D zy_networkSign_14_109 26 (.iconst 0) 1 27 := ⟨zq_3 zg_14_109_0.2.2.2.2.2.2.2.2.2.2.2.2.2.2.2.2.2.2.2.2.2.1, rfl⟩
theorem zd_14_109_27 : zz_D zy_networkSign_14_109 27 (.iconst 0) 1 28 := ⟨zq_3 zg_14_109_0.2.2.2.2.2.2.2.2.2.2.2.2.2.2.2.2.2.2.2.2.2.2, rfl⟩
theorem zg_14_109_28 : zq_at zy_networkSign_14_109.2.1 28 182 ∧ zq_at zy_networkSign_14_109.2.1 29 0 ∧ zq_at zy_networkSign_14_109.2.1 30 196 ∧ zq_at zy_networkSign_14_109.2.1 31 153 ∧ zq_at zy_networkSign_14_109.2.1 32 0 ∧ zq_at zy_networkSign_14_109.2.1 33 5 ∧ zq_at zy_networkSign_14_109.2.1 34 3 ∧ zq_at zy_networkSign_14_109.2.1 35 172 ∧ zq_at zy_networkSign_14_109.2.1 17 28 ∧ zq_at zy_networkSign_14_109.2.1 18 156 ∧ zq_at zy_networkSign_14_109.2.1 19 0 ∧ zq_at zy_networkSign_14_109.2.1 20 7 ∧ zq_at zy_networkSign_14_109.2.1 25 3 ∧ zq_at zy_networkSign_14_109.2.1 36 42 ∧ zq_at zy_networkSign_14_109.2.1 37 3 ∧ zq_at zy_networkSign_14_109.2.1 38 181 ∧ zq_at zy_networkSign_14_109.2.1 39 1 ∧ zq_at zy_networkSign_14_109.2.1 40 129 ∧ zq_at zy_networkSign_14_109.2.1 41 27 ∧ zq_at zy_networkSign_14_109.2.1 42 154 ∧ zq_at zy_networkSign_14_109.2.1 43 0 ∧ zq_at zy_networkSign_14_109.2.1 44 57 ∧ zq_at zy_networkSign_14_109.2.1 99 42 ∧ zq_at zy_networkSign_14_109.2.1 100 27 := by decide +kernel
theorem zd_14_109_28 : zz_D zy_networkSign_14_109 28 (.invokevirtual 196) 3 31 := ⟨zq_182 zg_14_109_28.1 zg_14_109_28.2.1 zg_14_109_28.2.2.1 rfl, rfl⟩
theorem zd_14_109_31 : zz_B zy_networkSign_14_109 31 (Instr.ifCond .eq) 36 34 := ⟨5, zq_153 zg_14_109_28.2.2.2.1 zg_14_109_28.2.2.2.2.1 zg_14_109_28.2.2.2.2.2.1 (by decide), rfl, rfl⟩
theorem zd_14_109_34 : zz_D zy_networkSign_14_109 34 (.iconst 0) 1 35 := ⟨zq_3 zg_14_109_28.2.2.2.2.2.2.1, rfl⟩
theorem zd_14_109_35 : zz_D zy_networkSign_14_109 35 (.ireturn) 1 36 := ⟨zq_172 zg_14_109_28.2.2.2.2.2.2.2.1, rfl⟩
theorem zd_14_109_17 : zz_D zy_networkSign_14_109 17 (.iload_n 2) 1 18 := ⟨zq_28 zg_14_109_28.2.2.2.2.2.2.2.2.1, rfl⟩
theorem zd_14_109_18 : zz_B zy_networkSign_14_109 18 (Instr.ifCond .ge) 25 21 := ⟨7, zq_156 zg_14_109_28.2.2.2.2.2.2.2.2.2.1 zg_14_109_28.2.2.2.2.2.2.2.2.2.2.1 zg_14_109_28.2.2.2.2.2.2.2.2.2.2.2.1 (by decide), rfl, rfl⟩
theorem zd_14_109_25 : zz_D zy_networkSign_14_109 25 (.iconst 0) 1 26 := ⟨zq_3 zg_14_109_28.2.2.2.2.2.2.2.2.2.2.2.2.1, rfl⟩
theorem zd_14_109_36 : zz_D zy_networkSign_14_109 36 (.aload_n 0) 1 37 := ⟨zq_42 zg_14_109_28.2.2.2.2.2.2.2.2.2.2.2.2.2.1, rfl⟩
theorem zd_14_109_37 : zz_D zy_networkSign_14_109 37 (.iconst 0) 1 38 := ⟨zq_3 zg_14_109_28.2.2.2.2.2.2.2.2.2.2.2.2.2.2.1, rfl⟩
theorem zd_14_109_38 : zz_D zy_networkSign_14_109 38 (.putfield 385) 3 41 := ⟨zq_181 zg_14_109_28.2.2.2.2.2.2.2.2.2.2.2.2.2.2.2.1 zg_14_109_28.2.2.2.2.2.2.2.2.2.2.2.2.2.2.2.2.1 zg_14_109_28.2.2.2.2.2.2.2.2.2.2.2.2.2.2.2.2.2.1 rfl, rfl⟩
theorem zd_14_109_41 : zz_D zy_networkSign_14_109 41 (.iload_n 1) 1 42 := ⟨zq_27 zg_14_109_28.2.2.2.2.2.2.2.2.2.2.2.2.2.2.2.2.2.2.1, rfl⟩
theorem zd_14_109_42 : zz_B zy_networkSign_14_109 42 (Instr.ifCond .ne) 99 45 := ⟨57, zq_154 zg_14_109_28.2.2.2.2.2.2.2.2.2.2.2.2.2.2.2.2.2.2.2.1 zg_14_109_28.2.2.2.2.2.2.2.2.2.2.2.2.2.2.2.2.2.2.2.2.1 zg_14_109_28.2.2.2.2.2.2.2.2.2.2.2.2.2.2.2.2.2.2.2.2.2.1 (by decide), rfl, rfl⟩
theorem zd_14_109_99 : zz_D zy_networkSign_14_109 99 (.aload_n 0) 1 100 := ⟨zq_42 zg_14_109_28.2.2.2.2.2.2.2.2.2.2.2.2.2.2.2.2.2.2.2.2.2.2.1, rfl⟩
theorem zd_14_109_100 : zz_D zy_networkSign_14_109 100 (.iload_n 1) 1 101 := ⟨zq_27 zg_14_109_28.2.2.2.2.2.2.2.2.2.2.2.2.2.2.2.2.2.2.2.2.2.2.2, rfl⟩
theorem zg_14_109_101 : zq_at zy_networkSign_14_109.2.1 101 4 ∧ zq_at zy_networkSign_14_109.2.1 102 100 ∧ zq_at zy_networkSign_14_109.2.1 103 182 ∧ zq_at zy_networkSign_14_109.2.1 104 2 ∧ zq_at zy_networkSign_14_109.2.1 105 98 ∧ zq_at zy_networkSign_14_109.2.1 106 42 ∧ zq_at zy_networkSign_14_109.2.1 107 20 ∧ zq_at zy_networkSign_14_109.2.1 108 1 ∧ zq_at zy_networkSign_14_109.2.1 109 151 ∧ zq_at zy_networkSign_14_109.2.1 110 182 ∧ zq_at zy_networkSign_14_109.2.1 111 1 ∧ zq_at zy_networkSign_14_109.2.1 112 132 ∧ zq_at zy_networkSign_14_109.2.1 113 28 ∧ zq_at zy_networkSign_14_109.2.1 114 42 ∧ zq_at zy_networkSign_14_109.2.1 115 180 ∧ zq_at zy_networkSign_14_109.2.1 116 1 ∧ zq_at zy_networkSign_14_109.2.1 117 129 ∧ zq_at zy_networkSign_14_109.2.1 118 162 ∧ zq_at zy_networkSign_14_109.2.1 119 0 ∧ zq_at zy_networkSign_14_109.2.1 120 12 ∧ zq_at zy_networkSign_14_109.2.1 130 2 ∧ zq_at zy_networkSign_14_109.2.1 131 172 ∧ zq_at zy_networkSign_14_109.2.1 121 42 := by decide +kernel
theorem zd_14_109_101 : zz_D zy_networkSign_14_109 101 (.iconst 1) 1 102 := ⟨zq_4 zg_14_109_101.1, rfl⟩
theorem zd_14_109_102 : zz_D zy_networkSign_14_109 102 (.isub) 1 103 := ⟨zq_100 zg_14_109_101.2.1, rfl⟩
theorem zd_14_109_103 : zz_D zy_networkSign_14_109 103 (.invokevirtual 610) 3 106 := ⟨zq_182 zg_14_109_101.2.2.1 zg_14_109_101.2.2.2.1 zg_14_109_101.2.2.2.2.1 rfl, rfl⟩
theorem zd_14_109_106 : zz_D zy_networkSign_14_109 106 (.aload_n 0) 1 107 := ⟨zq_42 zg_14_109_101.2.2.2.2.2.1, rfl⟩
theorem zd_14_109_107 : zz_D zy_networkSign_14_109 107 (.ldc2_w 407) 3 110 := ⟨zq_20 zg_14_109_101.2.2.2.2.2.2.1 zg_14_109_101.2.2.2.2.2.2.2.1 zg_14_109_101.2.2.2.2.2.2.2.2.1 rfl, rfl⟩
theorem zd_14_109_110 : zz_D zy_networkSign_14_109 110 (.invokevirtual 388) 3 113 := ⟨zq_182 zg_14_109_101.2.2.2.2.2.2.2.2.2.1 zg_14_109_101.2.2.2.2.2.2.2.2.2.2.1 zg_14_109_101.2.2.2.2.2.2.2.2.2.2.2.1 rfl, rfl⟩
theorem zd_14_109_113 : zz_D zy_networkSign_14_109 113 (.iload_n 2) 1 114 := ⟨zq_28 zg_14_109_101.2.2.2.2.2.2.2.2.2.2.2.2.1, rfl⟩
theorem zd_14_109_114 : zz_D zy_networkSign_14_109 114 (.aload_n 0) 1 115 := ⟨zq_42 zg_14_109_101.2.2.2.2.2.2.2.2.2.2.2.2.2.1, rfl⟩
theorem zd_14_109_115 : zz_D zy_networkSign_14_109 115 (.getfield 385) 3 118 := ⟨zq_180 zg_14_109_101.2.2.2.2.2.2.2.2.2.2.2.2.2.2.1 zg_14_109_101.2.2.2.2.2.2.2.2.2.2.2.2.2.2.2.1 zg_14_109_101.2.2.2.2.2.2.2.2.2.2.2.2.2.2.2.2.1 rfl, rfl⟩
theorem zd_14_109_118 : zz_B zy_networkSign_14_109 118 (Instr.if_icmp .ge) 130 121 := ⟨12, zq_162 zg_14_109_101.2.2.2.2.2.2.2.2.2.2.2.2.2.2.2.2.2.1 zg_14_109_101.2.2.2.2.2.2.2.2.2.2.2.2.2.2.2.2.2.2.1 zg_14_109_101.2.2.2.2.2.2.2.2.2.2.2.2.2.2.2.2.2.2.2.1 (by decide), rfl, rfl⟩
theorem zd_14_109_130 : zz_D zy_networkSign_14_109 130 (.iconst (-1)) 1 131 := ⟨zq_2 zg_14_109_101.2.2.2.2.2.2.2.2.2.2.2.2.2.2.2.2.2.2.2.2.1, rfl⟩
theorem zd_14_109_131 : zz_D zy_networkSign_14_109 131 (.ireturn) 1 132 := ⟨zq_172 zg_14_109_101.2.2.2.2.2.2.2.2.2.2.2.2.2.2.2.2.2.2.2.2.2.1, rfl⟩
theorem zd_14_109_121 : zz_D zy_networkSign_14_109 121 (.aload_n 0) 1 122 := ⟨zq_42 zg_14_109_101.2.2.2.2.2.2.2.2.2.2.2.2.2.2.2.2.2.2.2.2.2.2, rfl⟩
theorem zg_14_109_122 : zq_at zy_networkSign_14_109.2.1 122 180 ∧ zq_at zy_networkSign_14_109.2.1 123 0 ∧ zq_at zy_networkSign_14_109.2.1 124 82 ∧ zq_at zy_networkSign_14_109.2.1 125 28 ∧ zq_at zy_networkSign_14_109.2.1 126 46 ∧ zq_at zy_networkSign_14_109.2.1 127 167 ∧ zq_at zy_networkSign_14_109.2.1 128 0 ∧ zq_at zy_networkSign_14_109.2.1 129 4 ∧ zq_at zy_networkSign_14_109.2.1 45 42 ∧ zq_at zy_networkSign_14_109.2.1 46 20 ∧ zq_at zy_networkSign_14_109.2.1 47 2 ∧ zq_at zy_networkSign_14_109.2.1 48 20 ∧ zq_at zy_networkSign_14_109.2.1 49 182 ∧ zq_at zy_networkSign_14_109.2.1 50 2 ∧ zq_at zy_networkSign_14_109.2.1 51 92 ∧ zq_at zy_networkSign_14_109.2.1 52 42 ∧ zq_at zy_networkSign_14_109.2.1 53 42 ∧ zq_at zy_networkSign_14_109.2.1 54 180 ∧ zq_at zy_networkSign_14_109.2.1 55 0 ∧ zq_at zy_networkSign_14_109.2.1 56 88 ∧ zq_at zy_networkSign_14_109.2.1 57 3 ∧ zq_at zy_networkSign_14_109.2.1 58 46 := by decide +kernel
theorem zd_14_109_122 : zz_D zy_networkSign_14_109 122 (.getfield 82) 3 125 := ⟨zq_180 zg_14_109_122.1 zg_14_109_122.2.1 zg_14_109_122.2.2.1 rfl, rfl⟩
theorem zd_14_109_125 : zz_D zy_networkSign_14_109 125 (.iload_n 2) 1 126 := ⟨zq_28 zg_14_109_122.2.2.2.1, rfl⟩
theorem zd_14_109_126 : zz_D zy_networkSign_14_109 126 (.iaload) 1 127 := ⟨zq_46 zg_14_109_122.2.2.2.2.1, rfl⟩
theorem zd_14_109_127 : zz_B zy_networkSign_14_109 127 Instr.goto 131 130 := ⟨4, zq_167 zg_14_109_122.2.2.2.2.2.1 zg_14_109_122.2.2.2.2.2.2.1 zg_14_109_122.2.2.2.2.2.2.2.1 (by decide), rfl, rfl⟩
theorem zd_14_109_45 : zz_D zy_networkSign_14_109 45 (.aload_n 0) 1 46 := ⟨zq_42 zg_14_109_122.2.2.2.2.2.2.2.2.1, rfl⟩
theorem zd_14_109_46 : zz_D zy_networkSign_14_109 46 (.ldc2_w 532) 3 49 := ⟨zq_20 zg_14_109_122.2.2.2.2.2.2.2.2.2.1 zg_14_109_122.2.2.2.2.2.2.2.2.2.2.1 zg_14_109_122.2.2.2.2.2.2.2.2.2.2.2.1 rfl, rfl⟩
theorem zd_14_109_49 : zz_D zy_networkSign_14_109 49 (.invokevirtual 604) 3 52 := ⟨zq_182 zg_14_109_122.2.2.2.2.2.2.2.2.2.2.2.2.1 zg_14_109_122.2.2.2.2.2.2.2.2.2.2.2.2.2.1 zg_14_109_122.2.2.2.2.2.2.2.2.2.2.2.2.2.2.1 rfl, rfl⟩
theorem zd_14_109_52 : zz_D zy_networkSign_14_109 52 (.aload_n 0) 1 53 := ⟨zq_42 zg_14_109_122.2.2.2.2.2.2.2.2.2.2.2.2.2.2.2.1, rfl⟩
theorem zd_14_109_53 : zz_D zy_networkSign_14_109 53 (.aload_n 0) 1 54 := ⟨zq_42 zg_14_109_122.2.2.2.2.2.2.2.2.2.2.2.2.2.2.2.2.1, rfl⟩
theorem zd_14_109_54 : zz_D zy_networkSign_14_109 54 (.getfield 88) 3 57 := ⟨zq_180 zg_14_109_122.2.2.2.2.2.2.2.2.2.2.2.2.2.2.2.2.2.1 zg_14_109_122.2.2.2.2.2.2.2.2.2.2.2.2.2.2.2.2.2.2.1 zg_14_109_122.2.2.2.2.2.2.2.2.2.2.2.2.2.2.2.2.2.2.2.1 rfl, rfl⟩
theorem zd_14_109_57 : zz_D zy_networkSign_14_109 57 (.iconst 0) 1 58 := ⟨zq_3 zg_14_109_122.2.2.2.2.2.2.2.2.2.2.2.2.2.2.2.2.2.2.2.2.1, rfl⟩
theorem zd_14_109_58 : zz_D zy_networkSign_14_109 58 (.iaload) 1 59 := ⟨zq_46 zg_14_109_122.2.2.2.2.2.2.2.2.2.2.2.2.2.2.2.2.2.2.2.2.2, rfl⟩
theorem zg_14_109_59 : zq_at zy_networkSign_14_109.2.1 59 182 ∧ zq_at zy_networkSign_14_109.2.1 60 2 ∧ zq_at zy_networkSign_14_109.2.1 61 95 ∧ zq_at zy_networkSign_14_109.2.1 62 42 ∧ zq_at zy_networkSign_14_109.2.1 63 20 ∧ zq_at zy_networkSign_14_109.2.1 64 0 ∧ zq_at zy_networkSign_14_109.2.1 65 167 ∧ zq_at zy_networkSign_14_109.2.1 66 182 ∧ zq_at zy_networkSign_14_109.2.1 67 2 ∧ zq_at zy_networkSign_14_109.2.1 68 92 ∧ zq_at zy_networkSign_14_109.2.1 69 42 ∧ zq_at zy_networkSign_14_109.2.1 70 42 ∧ zq_at zy_networkSign_14_109.2.1 71 180 ∧ zq_at zy_networkSign_14_109.2.1 72 0 ∧ zq_at zy_networkSign_14_109.2.1 73 91 ∧ zq_at zy_networkSign_14_109.2.1 74 3 ∧ zq_at zy_networkSign_14_109.2.1 75 46 ∧ zq_at zy_networkSign_14_109.2.1 76 182 ∧ zq_at zy_networkSign_14_109.2.1 77 2 ∧ zq_at zy_networkSign_14_109.2.1 78 95 ∧ zq_at zy_networkSign_14_109.2.1 79 42 ∧ zq_at zy_networkSign_14_109.2.1 80 20 ∧ zq_at zy_networkSign_14_109.2.1 81 0 ∧ zq_at zy_networkSign_14_109.2.1 82 167 := by decide +kernel
theorem zd_14_109_59 : zz_D zy_networkSign_14_109 59 (.invokevirtual 607) 3 62 := ⟨zq_182 zg_14_109_59.1 zg_14_109_59.2.1 zg_14_109_59.2.2.1 rfl, rfl⟩
theorem zd_14_109_62 : zz_D zy_networkSign_14_109 62 (.aload_n 0) 1 63 := ⟨zq_42 zg_14_109_59.2.2.2.1, rfl⟩
theorem zd_14_109_63 : zz_D zy_networkSign_14_109 63 (.ldc2_w 167) 3 66 := ⟨zq_20 zg_14_109_59.2.2.2.2.1 zg_14_109_59.2.2.2.2.2.1 zg_14_109_59.2.2.2.2.2.2.1 rfl, rfl⟩
theorem zd_14_109_66 : zz_D zy_networkSign_14_109 66 (.invokevirtual 604) 3 69 := ⟨zq_182 zg_14_109_59.2.2.2.2.2.2.2.1 zg_14_109_59.2.2.2.2.2.2.2.2.1 zg_14_109_59.2.2.2.2.2.2.2.2.2.1 rfl, rfl⟩
theorem zd_14_109_69 : zz_D zy_networkSign_14_109 69 (.aload_n 0) 1 70 := ⟨zq_42 zg_14_109_59.2.2.2.2.2.2.2.2.2.2.1, rfl⟩
theorem zd_14_109_70 : zz_D zy_networkSign_14_109 70 (.aload_n 0) 1 71 := ⟨zq_42 zg_14_109_59.2.2.2.2.2.2.2.2.2.2.2.1, rfl⟩
theorem zd_14_109_71 : zz_D zy_networkSign_14_109 71 (.getfield 91) 3 74 := ⟨zq_180 zg_14_109_59.2.2.2.2.2.2.2.2.2.2.2.2.1 zg_14_109_59.2.2.2.2.2.2.2.2.2.2.2.2.2.1 zg_14_109_59.2.2.2.2.2.2.2.2.2.2.2.2.2.2.1 rfl, rfl⟩
theorem zd_14_109_74 : zz_D zy_networkSign_14_109 74 (.iconst 0) 1 75 := ⟨zq_3 zg_14_109_59.2.2.2.2.2.2.2.2.2.2.2.2.2.2.2.1, rfl⟩
theorem zd_14_109_75 : zz_D zy_networkSign_14_109 75 (.iaload) 1 76 := ⟨zq_46 zg_14_109_59.2.2.2.2.2.2.2.2.2.2.2.2.2.2.2.2.1, rfl⟩
theorem zd_14_109_76 : zz_D zy_networkSign_14_109 76 (.invokevirtual 607) 3 79 := ⟨zq_182 zg_14_109_59.2.2.2.2.2.2.2.2.2.2.2.2.2.2.2.2.2.1 zg_14_109_59.2.2.2.2.2.2.2.2.2.2.2.2.2.2.2.2.2.2.1 zg_14_109_59.2.2.2.2.2.2.2.2.2.2.2.2.2.2.2.2.2.2.2.1 rfl, rfl⟩
theorem zd_14_109_79 : zz_D zy_networkSign_14_109 79 (.aload_n 0) 1 80 := ⟨zq_42 zg_14_109_59.2.2.2.2.2.2.2.2.2.2.2.2.2.2.2.2.2.2.2.2.1, rfl⟩
theorem zd_14_109_80 : zz_D zy_networkSign_14_109 80 (.ldc2_w 167) 3 83 := ⟨zq_20 zg_14_109_59.2.2.2.2.2.2.2.2.2.2.2.2.2.2.2.2.2.2.2.2.2.1 zg_14_109_59.2.2.2.2.2.2.2.2.2.2.2.2.2.2.2.2.2.2.2.2.2.2.1 zg_14_109_59.2.2.2.2.2.2.2.2.2.2.2.2.2.2.2.2.2.2.2.2.2.2.2 rfl, rfl⟩
theorem zg_14_109_83 : zq_at zy_networkSign_14_109.2.1 83 182 ∧ zq_at zy_networkSign_14_109.2.1 84 2 ∧ zq_at zy_networkSign_14_109.2.1 85 92 ∧ zq_at zy_networkSign_14_109.2.1 86 42 ∧ zq_at zy_networkSign_14_109.2.1 87 42 ∧ zq_at zy_networkSign_14_109.2.1 88 180 ∧ zq_at zy_networkSign_14_109.2.1 89 0 ∧ zq_at zy_networkSign_14_109.2.1 90 94 ∧ zq_at zy_networkSign_14_109.2.1 91 3 ∧ zq_at zy_networkSign_14_109.2.1 92 46 ∧ zq_at zy_networkSign_14_109.2.1 93 182 ∧ zq_at zy_networkSign_14_109.2.1 94 2 ∧ zq_at zy_networkSign_14_109.2.1 95 95 ∧ zq_at zy_networkSign_14_109.2.1 96 167 ∧ zq_at zy_networkSign_14_109.2.1 97 0 ∧ zq_at zy_networkSign_14_109.2.1 98 10 := by decide +kernel
theorem zd_14_109_83 : zz_D zy_networkSign_14_109 83 (.invokevirtual 604) 3 86 := ⟨zq_182 zg_14_109_83.1 zg_14_109_83.2.1 zg_14_109_83.2.2.1 rfl, rfl⟩
theorem zd_14_109_86 : zz_D zy_networkSign_14_109 86 (.aload_n 0) 1 87 := ⟨zq_42 zg_14_109_83.2.2.2.1, rfl⟩
theorem zd_14_109_87 : zz_D zy_networkSign_14_109 87 (.aload_n 0) 1 88 := ⟨zq_42 zg_14_109_83.2.2.2.2.1, rfl⟩
theorem zd_14_109_88 : zz_D zy_networkSign_14_109 88 (.getfield 94) 3 91 := ⟨zq_180 zg_14_109_83.2.2.2.2.2.1 zg_14_109_83.2.2.2.2.2.2.1 zg_14_109_83.2.2.2.2.2.2.2.1 rfl, rfl⟩
theorem zd_14_109_91 : zz_D zy_networkSign_14_109 91 (.iconst 0) 1 92 := ⟨zq_3 zg_14_109_83.2.2.2.2.2.2.2.2.1, rfl⟩
theorem zd_14_109_92 : zz_D zy_networkSign_14_109 92 (.iaload) 1 93 := ⟨zq_46 zg_14_109_83.2.2.2.2.2.2.2.2.2.1, rfl⟩
theorem zd_14_109_93 : zz_D zy_networkSign_14_109 93 (.invokevirtual 607) 3 96 := ⟨zq_182 zg_14_109_83.2.2.2.2.2.2.2.2.2.2.1 zg_14_109_83.2.2.2.2.2.2.2.2.2.2.2.1 zg_14_109_83.2.2.2.2.2.2.2.2.2.2.2.2.1 rfl, rfl⟩
theorem zd_14_109_96 : zz_B zy_networkSign_14_109 96 Instr.goto 106 99 := ⟨10, zq_167 zg_14_109_83.2.2.2.2.2.2.2.2.2.2.2.2.2.1 zg_14_109_83.2.2.2.2.2.2.2.2.2.2.2.2.2.2.1 zg_14_109_83.2.2.2.2.2.2.2.2.2.2.2.2.2.2.2 (by decide), rfl, rfl⟩

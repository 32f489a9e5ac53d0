-- TensorForgeModel sayCode (J)V
abbrev zr_sayCode_14_106 : Room := { frames := 1, cells := 0, slots := 0, locals := 14 }
def zp_sayCode_14_106 (p0 : Int) (S0 : zz_S) : zz_S → Prop := fun S => zz_G S ∧ zz_fr [(1079, 34)] [1101] (fun _ _ => False) S0 S ∧ (S 1079 34 ≤ S0 1079 34 + 9) ∧ (S 1079 34 ≥ S0 1079 34)
theorem zb_sayCode_14_106_16 {g : mm_G} {l : Launch} (p0 : Int) (S0 : zz_S) (n : Nat) (hn : zz_end ≤ n) (G_S0 : zz_G S0) (hp0 : (-9223372036854775808) ≤ p0 ∧ p0 ≤ 9223372036854775807) (hq : S0 1079 34 ≤ 190) (hc : 0 ≤ p0 ∧ p0 < 1099511627776) (x3 : Int) (S : zz_S) (G_S : zz_G S) (F_S : zz_fr [(1079, 34)] [1101] (fun _ _ => False) S0 S) (i16_0 : 0 ≤ x3 ∧ x3 ≤ 1099511627775) (i16_1 : S 1079 34 ≥ S0 1079 34) (i16_2 : (S 1079 34 ≤ S0 1079 34 + 1 ∧ x3 < 1099511627776) ∨ (S 1079 34 ≤ S0 1079 34 + 2 ∧ x3 < 34359738368) ∨ (S 1079 34 ≤ S0 1079 34 + 3 ∧ x3 < 1073741824) ∨ (S 1079 34 ≤ S0 1079 34 + 4 ∧ x3 < 33554432) ∨ (S 1079 34 ≤ S0 1079 34 + 5 ∧ x3 < 1048576) ∨ (S 1079 34 ≤ S0 1079 34 + 6 ∧ x3 < 32768) ∨ (S 1079 34 ≤ S0 1079 34 + 7 ∧ x3 < 1024) ∨ (S 1079 34 ≤ S0 1079 34 + 8 ∧ x3 < 32) ∨ (S 1079 34 ≤ S0 1079 34 + 9 ∧ x3 < 1)) (R : Nat) (hR : x3.toNat = R) (k16 : ∀ (x3 : Int) (S : zz_S), zz_G S → zz_fr [(1079, 34)] [1101] (fun _ _ => False) S0 S → (0 ≤ x3 ∧ x3 ≤ 1099511627775) → (S 1079 34 ≥ S0 1079 34) → ((S 1079 34 ≤ S0 1079 34 + 1 ∧ x3 < 1099511627776) ∨ (S 1079 34 ≤ S0 1079 34 + 2 ∧ x3 < 34359738368) ∨ (S 1079 34 ≤ S0 1079 34 + 3 ∧ x3 < 1073741824) ∨ (S 1079 34 ≤ S0 1079 34 + 4 ∧ x3 < 33554432) ∨ (S 1079 34 ≤ S0 1079 34 + 5 ∧ x3 < 1048576) ∨ (S 1079 34 ≤ S0 1079 34 + 6 ∧ x3 < 32768) ∨ (S 1079 34 ≤ S0 1079 34 + 7 ∧ x3 < 1024) ∨ (S 1079 34 ≤ S0 1079 34 + 8 ∧ x3 < 32) ∨ (S 1079 34 ≤ S0 1079 34 + 9 ∧ x3 < 1)) → x3.toNat < R → zz_E g l zy_sayCode_14_106 zr_sayCode_14_106 (zz_QV n (zp_sayCode_14_106 p0 S0)) S n 16 [some (.ref 1079), none, none, some (zl x3)] [] 0 0) : zz_E g l zy_sayCode_14_106 zr_sayCode_14_106 (zz_QV n (zp_sayCode_14_106 p0 S0)) S n 16 [some (.ref 1079), none, none, some (zl x3)] [] 0 0 := by
  refine zz_lload_n (x := x3) rfl zd_14_106_16 ?_
  refine zz_lconst (z := 0) (by decide) zd_14_106_17 ?_
  refine zz_lcmp (by omega) (by omega) zd_14_106_18 (fun v7 hv7 => ?_)
  refine zz_if_le (by omega) zd_14_106_19 (fun c8 => ?_) (fun c8 => ?_)
  · have g9 := zz_G.r G_S 1079 34 0 200 rfl rfl
    exact zz_vret zd_14_106_42 rfl (Nat.zero_le _) (Nat.zero_le _) ⟨_, rfl, G_S, F_S, by omega, by omega⟩
  · refine zz_aload_n (x := 1079) rfl zd_14_106_22 ?_
    refine zz_ldc2 (z := 96) zq_Md_391 (by decide) zd_14_106_23 ?_
    refine zz_lload_n (x := x3) rfl zd_14_106_26 ?_
    refine zz_ldc2 (z := 31) zq_Md_357 (by decide) zd_14_106_27 ?_
    refine zz_land zd_14_106_30 (fun v10 hv10 ev10 => ?_)
    have av10 := zz_band64 (by omega) (by omega) ev10
    refine zz_ladd zd_14_106_31 ?_
    have g11 := zz_G.r G_S 1079 34 0 200 rfl rfl
    refine zz_callVV [zl (96 + v10)] zd_14_106_32 zk_Md_388 zT_1079 (zz_ltn hn rfl) rfl rfl ⟨Nat.le_of_ble_eq_true rfl, Nat.le_of_ble_eq_true rfl⟩ ⟨rfl, rfl⟩ (Nat.zero_le _) (Nat.zero_le _) (zc_say_14_57 (96 + v10) S n hn G_S (by omega) (by omega)) (fun S12 hP => ?_)
    obtain ⟨G_S12, fS12, o14⟩ := hP
    have F_S12 := zz_fr.trans F_S fS12 rfl zz_nv
    refine zz_lload_n (x := x3) rfl zd_14_106_35 ?_
    refine zz_iconst zd_14_106_36 ?_
    refine zz_lshr zd_14_106_37 (fun v15 hv15 ev15 => ?_)
    have av15 := zz_lsr5 (by omega) ev15
    refine zz_lstore_n [some (.ref 1079), none, none, some (zl v15), none] zd_14_106_38 (by decide) rfl ?_
    refine zz_goto zd_14_106_39 ?_
    have g16 := zz_G.r G_S12 1079 34 0 200 rfl rfl
    refine zz_less (ls1 := [some (.ref 1079), none, none, some (zl v15)]) ⟨rfl, ⟨rfl, trivial⟩⟩ ?_
    exact k16 v15 S12 G_S12 F_S12 (by omega) (by omega) (by omega) (by omega)
theorem zi_sayCode_14_106 {g : mm_G} {l : Launch} (p0 : Int) (S0 : zz_S) (n : Nat) (hn : zz_end ≤ n) (G_S0 : zz_G S0) (hp0 : (-9223372036854775808) ≤ p0 ∧ p0 ≤ 9223372036854775807) (hq : S0 1079 34 ≤ 190) (hc : 0 ≤ p0 ∧ p0 < 1099511627776) : ∀ N : Nat, (∀ (x3 : Int) (S : zz_S), zz_G S → zz_fr [(1079, 34)] [1101] (fun _ _ => False) S0 S → (0 ≤ x3 ∧ x3 ≤ 1099511627775) → (S 1079 34 ≥ S0 1079 34) → ((S 1079 34 ≤ S0 1079 34 + 1 ∧ x3 < 1099511627776) ∨ (S 1079 34 ≤ S0 1079 34 + 2 ∧ x3 < 34359738368) ∨ (S 1079 34 ≤ S0 1079 34 + 3 ∧ x3 < 1073741824) ∨ (S 1079 34 ≤ S0 1079 34 + 4 ∧ x3 < 33554432) ∨ (S 1079 34 ≤ S0 1079 34 + 5 ∧ x3 < 1048576) ∨ (S 1079 34 ≤ S0 1079 34 + 6 ∧ x3 < 32768) ∨ (S 1079 34 ≤ S0 1079 34 + 7 ∧ x3 < 1024) ∨ (S 1079 34 ≤ S0 1079 34 + 8 ∧ x3 < 32) ∨ (S 1079 34 ≤ S0 1079 34 + 9 ∧ x3 < 1)) → x3.toNat < N → zz_E g l zy_sayCode_14_106 zr_sayCode_14_106 (zz_QV n (zp_sayCode_14_106 p0 S0)) S n 16 [some (.ref 1079), none, none, some (zl x3)] [] 0 0) := by
  intro N
  induction N with
  | zero => exact fun x3 S _ _ _ _ _ h => absurd h (Nat.not_lt_zero _)
  | succ N ih =>
    exact fun x3 S a b j0 j1 j2 hR => zb_sayCode_14_106_16 p0 S0 n hn G_S0 hp0 hq hc x3 S a b j0 j1 j2 _ rfl (fun x3 S a b j0 j1 j2 h => ih x3 S a b j0 j1 j2 (Nat.lt_of_lt_of_le h (Nat.le_of_lt_succ hR)))
theorem zc_sayCode_14_106 {g : mm_G} {l : Launch} (p0 : Int) (S0 : zz_S) (n : Nat) (hn : zz_end ≤ n) (G_S0 : zz_G S0) (hp0 : (-9223372036854775808) ≤ p0 ∧ p0 ≤ 9223372036854775807) (hq : S0 1079 34 ≤ 190) (hc : 0 ≤ p0 ∧ p0 < 1099511627776) : mm_Met g l zy_sayCode_14_106 zr_sayCode_14_106 [.ref 1079, zl p0] (zz_M S0 n) n (zz_QV n (zp_sayCode_14_106 p0 S0)) := by
  refine zz_enter (by decide) (Nat.le_of_ble_eq_true rfl) (zz_less (ls1 := [some (.ref 1079), some (zl p0), none]) ⟨rfl, ⟨rfl, trivial⟩⟩ ?_)
  have F_S0 : zz_fr [(1079, 34)] [1101] (fun _ _ => False) S0 S0 := zz_fr.refl
  have k16 : ∀ (x3 : Int) (S : zz_S), zz_G S → zz_fr [(1079, 34)] [1101] (fun _ _ => False) S0 S → (0 ≤ x3 ∧ x3 ≤ 1099511627775) → (S 1079 34 ≥ S0 1079 34) → ((S 1079 34 ≤ S0 1079 34 + 1 ∧ x3 < 1099511627776) ∨ (S 1079 34 ≤ S0 1079 34 + 2 ∧ x3 < 34359738368) ∨ (S 1079 34 ≤ S0 1079 34 + 3 ∧ x3 < 1073741824) ∨ (S 1079 34 ≤ S0 1079 34 + 4 ∧ x3 < 33554432) ∨ (S 1079 34 ≤ S0 1079 34 + 5 ∧ x3 < 1048576) ∨ (S 1079 34 ≤ S0 1079 34 + 6 ∧ x3 < 32768) ∨ (S 1079 34 ≤ S0 1079 34 + 7 ∧ x3 < 1024) ∨ (S 1079 34 ≤ S0 1079 34 + 8 ∧ x3 < 32) ∨ (S 1079 34 ≤ S0 1079 34 + 9 ∧ x3 < 1)) → zz_E g l zy_sayCode_14_106 zr_sayCode_14_106 (zz_QV n (zp_sayCode_14_106 p0 S0)) S n 16 [some (.ref 1079), none, none, some (zl x3)] [] 0 0 := fun x3 S a b j0 j1 j2 => (zi_sayCode_14_106 (g := g) (l := l) p0 S0 n hn G_S0 hp0 hq hc _) x3 S a b j0 j1 j2 (Nat.lt_succ_self _)
  refine zz_aload_n (x := 1079) rfl zd_14_106_0 ?_
  have g1 := zz_G.r G_S0 1079 34 0 200 rfl rfl
  refine zz_geti (z := S0 1079 34) zd_14_106_1 zf_Md_385 zT_1079 rfl (zz_ltn hn rfl) rfl ?_
  refine zz_if_le (by omega) zd_14_106_4 (fun c2 => ?_) (fun c2 => ?_)
  · refine zz_lload_n (x := p0) rfl zd_14_106_14 ?_
    refine zz_lstore_n [some (.ref 1079), some (zl p0), none, some (zl p0), none] zd_14_106_15 (by decide) rfl ?_
    refine zz_less (ls1 := [some (.ref 1079), none, none, some (zl p0)]) ⟨rfl, ⟨rfl, trivial⟩⟩ ?_
    exact k16 p0 S0 G_S0 F_S0 (by omega) (by omega) (by omega)
  · refine zz_aload_n (x := 1079) rfl zd_14_106_7 ?_
    refine zz_ldc2 (z := 32) zq_Md_327 (by decide) zd_14_106_8 ?_
    refine zz_callVV [zl 32] zd_14_106_11 zk_Md_388 zT_1079 (zz_ltn hn rfl) rfl rfl ⟨Nat.le_of_ble_eq_true rfl, Nat.le_of_ble_eq_true rfl⟩ ⟨rfl, rfl⟩ (Nat.zero_le _) (Nat.zero_le _) (zc_say_14_57 32 S0 n hn G_S0 (by omega) (by omega)) (fun S3 hP => ?_)
    obtain ⟨G_S3, fS3, o5⟩ := hP
    have F_S3 := zz_fr.trans F_S0 fS3 rfl zz_nv
    refine zz_lload_n (x := p0) rfl zd_14_106_14 ?_
    refine zz_lstore_n [some (.ref 1079), some (zl p0), none, some (zl p0), none] zd_14_106_15 (by decide) rfl ?_
    have g6 := zz_G.r G_S3 1079 34 0 200 rfl rfl
    refine zz_less (ls1 := [some (.ref 1079), none, none, some (zl p0)]) ⟨rfl, ⟨rfl, trivial⟩⟩ ?_
    exact k16 p0 S3 G_S3 F_S3 (by omega) (by omega) (by omega)
abbrev zy_sayCount_14_107 : mm_Y := (⟨"TensorForgeModel", "sayCount", "(I)V"⟩, prog_14_method_107_code, 2, none)
theorem zyw_sayCount_14_107 : mm_Yw zy_sayCount_14_107 1 := ⟨mm_tb_1 2268 (by decide +kernel) rfl, mm_tb_1 12 (by decide +kernel) rfl, ⟨by decide, by decide⟩, by decide +kernel⟩
theorem zd_14_107_0 : zz_D zy_sayCount_14_107 0 (.aload_n 0) 1 1 := ⟨by decide +kernel, rfl⟩
theorem zd_14_107_1 : zz_D zy_sayCount_14_107 1 (.ldc2_w 327) 3 4 := ⟨by decide +kernel, rfl⟩
theorem zd_14_107_4 : zz_D zy_sayCount_14_107 4 (.invokevirtual 388) 3 7 := ⟨by decide +kernel, rfl⟩
theorem zd_14_107_7 : zz_D zy_sayCount_14_107 7 (.aload_n 0) 1 8 := ⟨by decide +kernel, rfl⟩
theorem zd_14_107_8 : zz_D zy_sayCount_14_107 8 (.iload_n 1) 1 9 := ⟨by decide +kernel, rfl⟩
theorem zd_14_107_9 : zz_D zy_sayCount_14_107 9 (.invokevirtual 396) 3 12 := ⟨by decide +kernel, rfl⟩
theorem zd_14_107_12 : zz_D zy_sayCount_14_107 12 (.return_) 1 13 := ⟨by decide +kernel, rfl⟩
-- TensorForgeModel sayCount (I)V
abbrev zr_sayCount_14_107 : Room := { frames := 2, cells := 0, slots := 0, locals := 28 }
def zp_sayCount_14_107 (p0 : Int) (S0 : zz_S) : zz_S → Prop := fun S => zz_G S ∧ zz_fr [(1079, 34)] [1101] (fun _ _ => False) S0 S ∧ (S 1079 34 ≤ S0 1079 34 + 5) ∧ (S 1079 34 ≥ S0 1079 34)
theorem zc_sayCount_14_107 {g : mm_G} {l : Launch} (p0 : Int) (S0 : zz_S) (n : Nat) (hn : zz_end ≤ n) (G_S0 : zz_G S0) (hp0 : (-2147483648) ≤ p0 ∧ p0 ≤ 2147483647) (hq : S0 1079 34 ≤ 190) : mm_Met g l zy_sayCount_14_107 zr_sayCount_14_107 [.ref 1079, zi p0] (zz_M S0 n) n (zz_QV n (zp_sayCount_14_107 p0 S0)) := by
  refine zz_enter (by decide) (Nat.le_of_ble_eq_true rfl) (zz_less (ls1 := [some (.ref 1079), some (zi p0)]) ⟨rfl, ⟨rfl, trivial⟩⟩ ?_)
  have F_S0 : zz_fr [(1079, 34)] [1101] (fun _ _ => False) S0 S0 := zz_fr.refl
  refine zz_aload_n (x := 1079) rfl zd_14_107_0 ?_
  refine zz_ldc2 (z := 32) zq_Md_327 (by decide) zd_14_107_1 ?_
  have g1 := zz_G.r G_S0 1079 34 0 200 rfl rfl
  refine zz_callVV [zl 32] zd_14_107_4 zk_Md_388 zT_1079 (zz_ltn hn rfl) rfl rfl ⟨Nat.le_of_ble_eq_true rfl, Nat.le_of_ble_eq_true rfl⟩ ⟨rfl, rfl⟩ (Nat.zero_le _) (Nat.zero_le _) (zc_say_14_57 32 S0 n hn G_S0 (by omega) (by omega)) (fun S2 hP => ?_)
  obtain ⟨G_S2, fS2, o4⟩ := hP
  have F_S2 := zz_fr.trans F_S0 fS2 rfl zz_nv
  refine zz_aload_n (x := 1079) rfl zd_14_107_7 ?_
  refine zz_iload_n (x := p0) rfl zd_14_107_8 ?_
  have g5 := zz_G.r G_S2 1079 34 0 200 rfl rfl
  refine zz_callVV [zi p0] zd_14_107_9 zk_Md_396 zT_1079 (zz_ltn hn rfl) rfl rfl ⟨Nat.le_of_ble_eq_true rfl, Nat.le_of_ble_eq_true rfl⟩ ⟨rfl, rfl⟩ (Nat.zero_le _) (Nat.zero_le _) (zc_sayNumber_14_59 p0 S2 n hn G_S2 (by omega) (by omega)) (fun S6 hP => ?_)
  obtain ⟨G_S6, fS6, o8, o9⟩ := hP
  have F_S6 := zz_fr.trans F_S2 fS6 rfl zz_nv
  have g10 := zz_G.r G_S6 1079 34 0 200 rfl rfl
  exact zz_vret zd_14_107_12 rfl (Nat.zero_le _) (Nat.zero_le _) ⟨_, rfl, G_S6, F_S6, by omega, by omega⟩
abbrev zy_sayLayer_14_108 : mm_Y := (⟨"TensorForgeModel", "sayLayer", "(I)V"⟩, prog_14_method_108_code, 4, none)
theorem zyw_sayLayer_14_108 : mm_Yw zy_sayLayer_14_108 1 := ⟨mm_tb_1 2272 (by decide +kernel) rfl, mm_tb_1 12 (by decide +kernel) rfl, ⟨by decide, by decide⟩, by decide +kernel⟩
theorem zd_14_108_0 : zz_D zy_sayLayer_14_108 0 (.aload_n 0) 1 1 := ⟨by decide +kernel, rfl⟩
theorem zd_14_108_1 : zz_D zy_sayLayer_14_108 1 (.getfield 100) 3 4 := ⟨by decide +kernel, rfl⟩
theorem zd_14_108_4 : zz_D zy_sayLayer_14_108 4 (.iload_n 1) 1 5 := ⟨by decide +kernel, rfl⟩
theorem zd_14_108_5 : zz_D zy_sayLayer_14_108 5 (.iaload) 1 6 := ⟨by decide +kernel, rfl⟩
theorem zd_14_108_6 : zz_B zy_sayLayer_14_108 6 (Instr.ifCond .ne) 13 9 := ⟨7, by decide +kernel, rfl, rfl⟩
theorem zd_14_108_13 : zz_D zy_sayLayer_14_108 13 (.iconst 0) 1 14 := ⟨by decide +kernel, rfl⟩
theorem zd_14_108_14 : zz_D zy_sayLayer_14_108 14 (.istore_n 2) 1 15 := ⟨by decide +kernel, rfl⟩
theorem zd_14_108_15 : zz_D zy_sayLayer_14_108 15 (.aload_n 0) 1 16 := ⟨by decide +kernel, rfl⟩
theorem zd_14_108_16 : zz_D zy_sayLayer_14_108 16 (.getfield 100) 3 19 := ⟨by decide +kernel, rfl⟩
theorem zd_14_108_19 : zz_D zy_sayLayer_14_108 19 (.iload_n 1) 1 20 := ⟨by decide +kernel, rfl⟩
theorem zd_14_108_20 : zz_D zy_sayLayer_14_108 20 (.iaload) 1 21 := ⟨by decide +kernel, rfl⟩
theorem zd_14_108_21 : zz_D zy_sayLayer_14_108 21 (.iconst 2) 1 22 := ⟨by decide +kernel, rfl⟩
theorem zd_14_108_22 : zz_B zy_sayLayer_14_108 22 (Instr.if_icmp .ne) 29 25 := ⟨7, by decide +kernel, rfl, rfl⟩
theorem zd_14_108_29 : zz_D zy_sayLayer_14_108 29 (.iconst 0) 1 30 := ⟨by decide +kernel, rfl⟩
theorem zd_14_108_30 : zz_D zy_sayLayer_14_108 30 (.istore_n 3) 1 31 := ⟨by decide +kernel, rfl⟩
theorem zd_14_108_31 : zz_D zy_sayLayer_14_108 31 (.aload_n 0) 1 32 := ⟨by decide +kernel, rfl⟩
theorem zd_14_108_32 : zz_D zy_sayLayer_14_108 32 (.iload_n 2) 1 33 := ⟨by decide +kernel, rfl⟩
theorem zd_14_108_33 : zz_B zy_sayLayer_14_108 33 (Instr.ifCond .eq) 42 36 := ⟨9, by decide +kernel, rfl, rfl⟩
theorem zd_14_108_42 : zz_D zy_sayLayer_14_108 42 (.iload_n 3) 1 43 := ⟨by decide +kernel, rfl⟩
theorem zd_14_108_43 : zz_B zy_sayLayer_14_108 43 (Instr.ifCond .eq) 52 46 := ⟨9, by decide +kernel, rfl, rfl⟩
theorem zd_14_108_52 : zz_D zy_sayLayer_14_108 52 (.ldc2_w 536) 3 55 := ⟨by decide +kernel, rfl⟩
theorem zd_14_108_55 : zz_D zy_sayLayer_14_108 55 (.invokevirtual 604) 3 58 := ⟨by decide +kernel, rfl⟩
theorem zk_Md_604 : mm_Vl "TensorForgeModel" 604 11 1 zy_sayCode_14_106 := ⟨zyw_sayCode_14_106, (R_Md, F_Md, 69), rfl, mm_tb_1 2261 (by decide +kernel) rfl, mm_tb_1 2263 (by decide +kernel) rfl, mm_tb_s 152 (by decide +kernel) rfl⟩
theorem zd_14_108_58 : zz_D zy_sayLayer_14_108 58 (.aload_n 0) 1 59 := ⟨by decide +kernel, rfl⟩
theorem zd_14_108_59 : zz_D zy_sayLayer_14_108 59 (.aload_n 0) 1 60 := ⟨by decide +kernel, rfl⟩
theorem zd_14_108_60 : zz_D zy_sayLayer_14_108 60 (.getfield 103) 3 63 := ⟨by decide +kernel, rfl⟩
theorem zd_14_108_63 : zz_D zy_sayLayer_14_108 63 (.iload_n 1) 1 64 := ⟨by decide +kernel, rfl⟩
theorem zd_14_108_64 : zz_D zy_sayLayer_14_108 64 (.iaload) 1 65 := ⟨by decide +kernel, rfl⟩
theorem zd_14_108_65 : zz_D zy_sayLayer_14_108 65 (.invokevirtual 607) 3 68 := ⟨by decide +kernel, rfl⟩
theorem zk_Md_607 : mm_Vl "TensorForgeModel" 607 11 1 zy_sayCount_14_107 := ⟨zyw_sayCount_14_107, (R_Md, F_Md, 69), rfl, mm_tb_1 2265 (by decide +kernel) rfl, mm_tb_1 2267 (by decide +kernel) rfl, mm_tb_s 153 (by decide +kernel) rfl⟩
theorem zd_14_108_68 : zz_D zy_sayLayer_14_108 68 (.iload_n 3) 1 69 := ⟨by decide +kernel, rfl⟩
theorem zd_14_108_69 : zz_B zy_sayLayer_14_108 69 (Instr.ifCond .eq) 85 72 := ⟨16, by decide +kernel, rfl, rfl⟩
theorem zd_14_108_85 : zz_D zy_sayLayer_14_108 85 (.aload_n 0) 1 86 := ⟨by decide +kernel, rfl⟩
theorem zd_14_108_86 : zz_D zy_sayLayer_14_108 86 (.ldc2_w 165) 3 89 := ⟨by decide +kernel, rfl⟩
theorem zd_14_108_89 : zz_D zy_sayLayer_14_108 89 (.invokevirtual 604) 3 92 := ⟨by decide +kernel, rfl⟩
theorem zd_14_108_92 : zz_D zy_sayLayer_14_108 92 (.aload_n 0) 1 93 := ⟨by decide +kernel, rfl⟩
theorem zd_14_108_93 : zz_D zy_sayLayer_14_108 93 (.aload_n 0) 1 94 := ⟨by decide +kernel, rfl⟩
theorem zd_14_108_94 : zz_D zy_sayLayer_14_108 94 (.getfield 109) 3 97 := ⟨by decide +kernel, rfl⟩
theorem zd_14_108_97 : zz_D zy_sayLayer_14_108 97 (.iload_n 1) 1 98 := ⟨by decide +kernel, rfl⟩
theorem zd_14_108_98 : zz_D zy_sayLayer_14_108 98 (.iaload) 1 99 := ⟨by decide +kernel, rfl⟩
theorem zd_14_108_99 : zz_D zy_sayLayer_14_108 99 (.invokevirtual 607) 3 102 := ⟨by decide +kernel, rfl⟩
theorem zd_14_108_102 : zz_D zy_sayLayer_14_108 102 (.aload_n 0) 1 103 := ⟨by decide +kernel, rfl⟩
theorem zd_14_108_103 : zz_D zy_sayLayer_14_108 103 (.ldc2_w 167) 3 106 := ⟨by decide +kernel, rfl⟩
theorem zd_14_108_106 : zz_D zy_sayLayer_14_108 106 (.invokevirtual 604) 3 109 := ⟨by decide +kernel, rfl⟩
theorem zd_14_108_109 : zz_D zy_sayLayer_14_108 109 (.aload_n 0) 1 110 := ⟨by decide +kernel, rfl⟩
theorem zd_14_108_110 : zz_D zy_sayLayer_14_108 110 (.aload_n 0) 1 111 := ⟨by decide +kernel, rfl⟩
theorem zd_14_108_111 : zz_D zy_sayLayer_14_108 111 (.getfield 112) 3 114 := ⟨by decide +kernel, rfl⟩
theorem zd_14_108_114 : zz_D zy_sayLayer_14_108 114 (.iload_n 1) 1 115 := ⟨by decide +kernel, rfl⟩
theorem zd_14_108_115 : zz_D zy_sayLayer_14_108 115 (.iaload) 1 116 := ⟨by decide +kernel, rfl⟩
theorem zd_14_108_116 : zz_D zy_sayLayer_14_108 116 (.invokevirtual 607) 3 119 := ⟨by decide +kernel, rfl⟩
theorem zd_14_108_119 : zz_D zy_sayLayer_14_108 119 (.iload_n 2) 1 120 := ⟨by decide +kernel, rfl⟩
theorem zd_14_108_120 : zz_B zy_sayLayer_14_108 120 (Instr.ifCond .eq) 159 123 := ⟨39, by decide +kernel, rfl, rfl⟩
theorem zd_14_108_159 : zz_D zy_sayLayer_14_108 159 (.iload_n 3) 1 160 := ⟨by decide +kernel, rfl⟩
theorem zd_14_108_160 : zz_B zy_sayLayer_14_108 160 (Instr.ifCond .ne) 190 163 := ⟨30, by decide +kernel, rfl, rfl⟩
theorem zd_14_108_163 : zz_D zy_sayLayer_14_108 163 (.aload_n 0) 1 164 := ⟨by decide +kernel, rfl⟩
theorem zd_14_108_164 : zz_D zy_sayLayer_14_108 164 (.getfield 115) 3 167 := ⟨by decide +kernel, rfl⟩
theorem zd_14_108_167 : zz_D zy_sayLayer_14_108 167 (.iload_n 1) 1 168 := ⟨by decide +kernel, rfl⟩
theorem zd_14_108_168 : zz_D zy_sayLayer_14_108 168 (.iaload) 1 169 := ⟨by decide +kernel, rfl⟩
theorem zd_14_108_169 : zz_D zy_sayLayer_14_108 169 (.iconst 1) 1 170 := ⟨by decide +kernel, rfl⟩
theorem zd_14_108_170 : zz_B zy_sayLayer_14_108 170 (Instr.if_icmp .le) 190 173 := ⟨20, by decide +kernel, rfl, rfl⟩
theorem zd_14_108_190 : zz_D zy_sayLayer_14_108 190 (.iload_n 2) 1 191 := ⟨by decide +kernel, rfl⟩
theorem zd_14_108_191 : zz_B zy_sayLayer_14_108 191 (Instr.ifCond .eq) 220 194 := ⟨29, by decide +kernel, rfl, rfl⟩
theorem zd_14_108_220 : zz_D zy_sayLayer_14_108 220 (.aload_n 0) 1 221 := ⟨by decide +kernel, rfl⟩
theorem zd_14_108_221 : zz_D zy_sayLayer_14_108 221 (.getfield 121) 3 224 := ⟨by decide +kernel, rfl⟩
theorem zd_14_108_224 : zz_D zy_sayLayer_14_108 224 (.iload_n 1) 1 225 := ⟨by decide +kernel, rfl⟩
theorem zd_14_108_225 : zz_D zy_sayLayer_14_108 225 (.iaload) 1 226 := ⟨by decide +kernel, rfl⟩
theorem zd_14_108_226 : zz_D zy_sayLayer_14_108 226 (.bipush 16) 2 228 := ⟨by decide +kernel, rfl⟩
theorem zd_14_108_228 : zz_D zy_sayLayer_14_108 228 (.irem) 1 229 := ⟨by decide +kernel, rfl⟩
theorem zd_14_108_229 : zz_B zy_sayLayer_14_108 229 (Instr.ifCond .le) 252 232 := ⟨23, by decide +kernel, rfl, rfl⟩
theorem zd_14_108_252 : zz_D zy_sayLayer_14_108 252 (.aload_n 0) 1 253 := ⟨by decide +kernel, rfl⟩
theorem zd_14_108_253 : zz_D zy_sayLayer_14_108 253 (.getfield 121) 3 256 := ⟨by decide +kernel, rfl⟩
theorem zd_14_108_256 : zz_D zy_sayLayer_14_108 256 (.iload_n 1) 1 257 := ⟨by decide +kernel, rfl⟩
theorem zd_14_108_257 : zz_D zy_sayLayer_14_108 257 (.iaload) 1 258 := ⟨by decide +kernel, rfl⟩
theorem zd_14_108_258 : zz_D zy_sayLayer_14_108 258 (.bipush 15) 2 260 := ⟨by decide +kernel, rfl⟩
theorem zd_14_108_260 : zz_B zy_sayLayer_14_108 260 (Instr.if_icmp .le) 270 263 := ⟨10, by decide +kernel, rfl, rfl⟩
theorem zd_14_108_270 : zz_D zy_sayLayer_14_108 270 (.return_) 1 271 := ⟨by decide +kernel, rfl⟩
theorem zd_14_108_263 : zz_D zy_sayLayer_14_108 263 (.aload_n 0) 1 264 := ⟨by decide +kernel, rfl⟩
theorem zd_14_108_264 : zz_D zy_sayLayer_14_108 264 (.ldc2_w 546) 3 267 := ⟨by decide +kernel, rfl⟩
theorem zd_14_108_267 : zz_D zy_sayLayer_14_108 267 (.invokevirtual 604) 3 270 := ⟨by decide +kernel, rfl⟩
theorem zd_14_108_232 : zz_D zy_sayLayer_14_108 232 (.aload_n 0) 1 233 := ⟨by decide +kernel, rfl⟩
theorem zd_14_108_233 : zz_D zy_sayLayer_14_108 233 (.ldc2_w 544) 3 236 := ⟨by decide +kernel, rfl⟩
theorem zd_14_108_236 : zz_D zy_sayLayer_14_108 236 (.invokevirtual 604) 3 239 := ⟨by decide +kernel, rfl⟩
theorem zd_14_108_239 : zz_D zy_sayLayer_14_108 239 (.aload_n 0) 1 240 := ⟨by decide +kernel, rfl⟩
theorem zd_14_108_240 : zz_D zy_sayLayer_14_108 240 (.aload_n 0) 1 241 := ⟨by decide +kernel, rfl⟩
theorem zd_14_108_241 : zz_D zy_sayLayer_14_108 241 (.getfield 121) 3 244 := ⟨by decide +kernel, rfl⟩
theorem zd_14_108_244 : zz_D zy_sayLayer_14_108 244 (.iload_n 1) 1 245 := ⟨by decide +kernel, rfl⟩
theorem zd_14_108_245 : zz_D zy_sayLayer_14_108 245 (.iaload) 1 246 := ⟨by decide +kernel, rfl⟩
theorem zd_14_108_246 : zz_D zy_sayLayer_14_108 246 (.bipush 16) 2 248 := ⟨by decide +kernel, rfl⟩
theorem zd_14_108_248 : zz_D zy_sayLayer_14_108 248 (.irem) 1 249 := ⟨by decide +kernel, rfl⟩
theorem zd_14_108_249 : zz_D zy_sayLayer_14_108 249 (.invokevirtual 607) 3 252 := ⟨by decide +kernel, rfl⟩
theorem zd_14_108_173 : zz_D zy_sayLayer_14_108 173 (.aload_n 0) 1 174 := ⟨by decide +kernel, rfl⟩
theorem zd_14_108_174 : zz_D zy_sayLayer_14_108 174 (.ldc2_w 171) 3 177 := ⟨by decide +kernel, rfl⟩
theorem zd_14_108_177 : zz_D zy_sayLayer_14_108 177 (.invokevirtual 604) 3 180 := ⟨by decide +kernel, rfl⟩
theorem zd_14_108_180 : zz_D zy_sayLayer_14_108 180 (.aload_n 0) 1 181 := ⟨by decide +kernel, rfl⟩
theorem zd_14_108_181 : zz_D zy_sayLayer_14_108 181 (.aload_n 0) 1 182 := ⟨by decide +kernel, rfl⟩
theorem zd_14_108_182 : zz_D zy_sayLayer_14_108 182 (.getfield 115) 3 185 := ⟨by decide +kernel, rfl⟩
theorem zd_14_108_185 : zz_D zy_sayLayer_14_108 185 (.iload_n 1) 1 186 := ⟨by decide +kernel, rfl⟩
theorem zd_14_108_186 : zz_D zy_sayLayer_14_108 186 (.iaload) 1 187 := ⟨by decide +kernel, rfl⟩
theorem zd_14_108_187 : zz_D zy_sayLayer_14_108 187 (.invokevirtual 607) 3 190 := ⟨by decide +kernel, rfl⟩
theorem zd_14_108_25 : zz_D zy_sayLayer_14_108 25 (.iconst 1) 1 26 := ⟨by decide +kernel, rfl⟩
theorem zd_14_108_26 : zz_B zy_sayLayer_14_108 26 Instr.goto 30 29 := ⟨4, by decide +kernel, rfl, rfl⟩
theorem zd_14_108_46 : zz_D zy_sayLayer_14_108 46 (.ldc2_w 538) 3 49 := ⟨by decide +kernel, rfl⟩
theorem zd_14_108_49 : zz_B zy_sayLayer_14_108 49 Instr.goto 55 52 := ⟨6, by decide +kernel, rfl, rfl⟩
theorem zd_14_108_72 : zz_D zy_sayLayer_14_108 72 (.aload_n 0) 1 73 := ⟨by decide +kernel, rfl⟩
theorem zd_14_108_73 : zz_D zy_sayLayer_14_108 73 (.aload_n 0) 1 74 := ⟨by decide +kernel, rfl⟩
theorem zd_14_108_74 : zz_D zy_sayLayer_14_108 74 (.getfield 106) 3 77 := ⟨by decide +kernel, rfl⟩
theorem zd_14_108_77 : zz_D zy_sayLayer_14_108 77 (.iload_n 1) 1 78 := ⟨by decide +kernel, rfl⟩
theorem zd_14_108_78 : zz_D zy_sayLayer_14_108 78 (.iaload) 1 79 := ⟨by decide +kernel, rfl⟩
theorem zd_14_108_79 : zz_D zy_sayLayer_14_108 79 (.invokevirtual 607) 3 82 := ⟨by decide +kernel, rfl⟩
theorem zd_14_108_82 : zz_B zy_sayLayer_14_108 82 Instr.goto 119 85 := ⟨37, by decide +kernel, rfl, rfl⟩
theorem zd_14_108_9 : zz_D zy_sayLayer_14_108 9 (.iconst 1) 1 10 := ⟨by decide +kernel, rfl⟩
theorem zd_14_108_10 : zz_B zy_sayLayer_14_108 10 Instr.goto 14 13 := ⟨4, by decide +kernel, rfl, rfl⟩
theorem zd_14_108_36 : zz_D zy_sayLayer_14_108 36 (.ldc2_w 534) 3 39 := ⟨by decide +kernel, rfl⟩
theorem zd_14_108_39 : zz_B zy_sayLayer_14_108 39 Instr.goto 55 42 := ⟨16, by decide +kernel, rfl, rfl⟩
theorem zd_14_108_123 : zz_D zy_sayLayer_14_108 123 (.aload_n 0) 1 124 := ⟨by decide +kernel, rfl⟩
theorem zd_14_108_124 : zz_D zy_sayLayer_14_108 124 (.ldc2_w 540) 3 127 := ⟨by decide +kernel, rfl⟩
theorem zd_14_108_127 : zz_D zy_sayLayer_14_108 127 (.invokevirtual 604) 3 130 := ⟨by decide +kernel, rfl⟩
theorem zd_14_108_130 : zz_D zy_sayLayer_14_108 130 (.aload_n 0) 1 131 := ⟨by decide +kernel, rfl⟩
theorem zd_14_108_131 : zz_D zy_sayLayer_14_108 131 (.aload_n 0) 1 132 := ⟨by decide +kernel, rfl⟩
theorem zd_14_108_132 : zz_D zy_sayLayer_14_108 132 (.getfield 94) 3 135 := ⟨by decide +kernel, rfl⟩
theorem zd_14_108_135 : zz_D zy_sayLayer_14_108 135 (.iload_n 1) 1 136 := ⟨by decide +kernel, rfl⟩
theorem zd_14_108_136 : zz_D zy_sayLayer_14_108 136 (.iconst 1) 1 137 := ⟨by decide +kernel, rfl⟩
theorem zd_14_108_137 : zz_D zy_sayLayer_14_108 137 (.iadd) 1 138 := ⟨by decide +kernel, rfl⟩
theorem zd_14_108_138 : zz_D zy_sayLayer_14_108 138 (.iaload) 1 139 := ⟨by decide +kernel, rfl⟩
theorem zd_14_108_139 : zz_D zy_sayLayer_14_108 139 (.invokevirtual 607) 3 142 := ⟨by decide +kernel, rfl⟩
theorem zd_14_108_142 : zz_D zy_sayLayer_14_108 142 (.aload_n 0) 1 143 := ⟨by decide +kernel, rfl⟩
theorem zd_14_108_143 : zz_D zy_sayLayer_14_108 143 (.ldc2_w 163) 3 146 := ⟨by decide +kernel, rfl⟩
theorem zd_14_108_146 : zz_D zy_sayLayer_14_108 146 (.invokevirtual 604) 3 149 := ⟨by decide +kernel, rfl⟩
theorem zd_14_108_149 : zz_D zy_sayLayer_14_108 149 (.aload_n 0) 1 150 := ⟨by decide +kernel, rfl⟩
theorem zd_14_108_150 : zz_D zy_sayLayer_14_108 150 (.aload_n 0) 1 151 := ⟨by decide +kernel, rfl⟩
theorem zd_14_108_151 : zz_D zy_sayLayer_14_108 151 (.getfield 124) 3 154 := ⟨by decide +kernel, rfl⟩
theorem zd_14_108_154 : zz_D zy_sayLayer_14_108 154 (.iload_n 1) 1 155 := ⟨by decide +kernel, rfl⟩
theorem zd_14_108_155 : zz_D zy_sayLayer_14_108 155 (.iaload) 1 156 := ⟨by decide +kernel, rfl⟩
theorem zd_14_108_156 : zz_D zy_sayLayer_14_108 156 (.invokevirtual 607) 3 159 := ⟨by decide +kernel, rfl⟩
theorem zd_14_108_194 : zz_D zy_sayLayer_14_108 194 (.aload_n 0) 1 195 := ⟨by decide +kernel, rfl⟩
theorem zd_14_108_195 : zz_D zy_sayLayer_14_108 195 (.getfield 118) 3 198 := ⟨by decide +kernel, rfl⟩
theorem zd_14_108_198 : zz_D zy_sayLayer_14_108 198 (.iload_n 1) 1 199 := ⟨by decide +kernel, rfl⟩
theorem zd_14_108_199 : zz_D zy_sayLayer_14_108 199 (.iaload) 1 200 := ⟨by decide +kernel, rfl⟩
theorem zd_14_108_200 : zz_B zy_sayLayer_14_108 200 (Instr.ifCond .le) 220 203 := ⟨20, by decide +kernel, rfl, rfl⟩
theorem zd_14_108_203 : zz_D zy_sayLayer_14_108 203 (.aload_n 0) 1 204 := ⟨by decide +kernel, rfl⟩
theorem zd_14_108_204 : zz_D zy_sayLayer_14_108 204 (.ldc2_w 542) 3 207 := ⟨by decide +kernel, rfl⟩
theorem zd_14_108_207 : zz_D zy_sayLayer_14_108 207 (.invokevirtual 604) 3 210 := ⟨by decide +kernel, rfl⟩
theorem zd_14_108_210 : zz_D zy_sayLayer_14_108 210 (.aload_n 0) 1 211 := ⟨by decide +kernel, rfl⟩
theorem zd_14_108_211 : zz_D zy_sayLayer_14_108 211 (.aload_n 0) 1 212 := ⟨by decide +kernel, rfl⟩
theorem zd_14_108_212 : zz_D zy_sayLayer_14_108 212 (.getfield 118) 3 215 := ⟨by decide +kernel, rfl⟩
theorem zd_14_108_215 : zz_D zy_sayLayer_14_108 215 (.iload_n 1) 1 216 := ⟨by decide +kernel, rfl⟩
theorem zd_14_108_216 : zz_D zy_sayLayer_14_108 216 (.iaload) 1 217 := ⟨by decide +kernel, rfl⟩
theorem zd_14_108_217 : zz_D zy_sayLayer_14_108 217 (.invokevirtual 607) 3 220 := ⟨by decide +kernel, rfl⟩
-- TensorForgeModel sayLayer (I)V
abbrev zr_sayLayer_14_108 : Room := { frames := 3, cells := 0, slots := 0, locals := 41 }
def zp_sayLayer_14_108 (p0 : Int) (S0 : zz_S) : zz_S → Prop := fun S => zz_G S ∧ zz_fr [(1079, 34)] [1101] (fun _ _ => False) S0 S
theorem zc_sayLayer_14_108 {g : mm_G} {l : Launch} (p0 : Int) (S0 : zz_S) (n : Nat) (hn : zz_end ≤ n) (G_S0 : zz_G S0) (hp0 : (-2147483648) ≤ p0 ∧ p0 ≤ 2147483647) : mm_Met g l zy_sayLayer_14_108 zr_sayLayer_14_108 [.ref 1079, zi p0] (zz_M S0 n) n (zz_QV n (zp_sayLayer_14_108 p0 S0)) := by
  refine zz_enter (by decide) (Nat.le_of_ble_eq_true rfl) (zz_less (ls1 := [some (.ref 1079), some (zi p0)]) ⟨rfl, ⟨rfl, trivial⟩⟩ ?_)
  have F_S0 : zz_fr [(1079, 34)] [1101] (fun _ _ => False) S0 S0 := zz_fr.refl
  refine zz_aload_n (x := 1079) rfl zd_14_108_0 ?_
  refine zz_getr (kd := 0) (z := 1106) zd_14_108_1 zf_Md_100 zT_1079 rfl (zz_ltn hn rfl) (zz_G.eq G_S0 1079 41 1106 rfl rfl) (by decide) 1106 rfl ?_
  refine zz_iload_n (x := p0) rfl zd_14_108_4 ?_
  have g1 := zz_G.r G_S0 1106 p0.toNat 0 2 rfl rfl
  refine zz_iald (z := S0 1106 p0.toNat) zd_14_108_5 zT_1106 rfl (zz_ltn hn rfl) (by decide) (by omega) rfl ?_
  refine zz_if_ne (by omega) zd_14_108_6 (fun c2 => ?_) (fun c2 => ?_)
  · refine zz_iconst zd_14_108_13 ?_
    refine zz_istore_n [some (.ref 1079), some (zi p0), some (zi 0)] zd_14_108_14 (by decide) rfl ?_
    refine zz_aload_n (x := 1079) rfl zd_14_108_15 ?_
    refine zz_getr (kd := 0) (z := 1106) zd_14_108_16 zf_Md_100 zT_1079 rfl (zz_ltn hn rfl) (zz_G.eq G_S0 1079 41 1106 rfl rfl) (by decide) 1106 rfl ?_
    refine zz_iload_n (x := p0) rfl zd_14_108_19 ?_
    refine zz_iald (z := S0 1106 p0.toNat) zd_14_108_20 zT_1106 rfl (zz_ltn hn rfl) (by decide) (by omega) rfl ?_
    refine zz_iconst zd_14_108_21 ?_
    refine zz_icmp_ne (by omega) (by omega) zd_14_108_22 (fun c3 => ?_) (fun c3 => ?_)
    · refine zz_iconst zd_14_108_29 ?_
      refine zz_istore_n [some (.ref 1079), some (zi p0), some (zi 0), some (zi 0)] zd_14_108_30 (by decide) rfl ?_
      refine zz_aload_n (x := 1079) rfl zd_14_108_31 ?_
      refine zz_iload_n (x := 0) rfl zd_14_108_32 ?_
      refine zz_if_eq (by omega) zd_14_108_33 (fun c4 => ?_) (fun c4 => ?_)
      · refine zz_iload_n (x := 0) rfl zd_14_108_42 ?_
        refine zz_if_eq (by omega) zd_14_108_43 (fun c5 => ?_) (fun c5 => ?_)
        · refine zz_ldc2 (z := 409072) zq_Md_536 (by decide) zd_14_108_52 ?_
          have g6 := zz_G.r G_S0 1079 34 0 200 rfl rfl
          refine zz_callVV [zl 409072] zd_14_108_55 zk_Md_604 zT_1079 (zz_ltn hn rfl) rfl rfl ⟨Nat.le_of_ble_eq_true rfl, Nat.le_of_ble_eq_true rfl⟩ ⟨rfl, rfl⟩ (Nat.zero_le _) (Nat.zero_le _) (zc_sayCode_14_106 409072 S0 n hn G_S0 (by omega) (by omega) (by omega)) (fun S7 hP => ?_)
          obtain ⟨G_S7, fS7, o9, o10⟩ := hP
          have F_S7 := zz_fr.trans F_S0 fS7 rfl zz_nv
          refine zz_aload_n (x := 1079) rfl zd_14_108_58 ?_
          refine zz_aload_n (x := 1079) rfl zd_14_108_59 ?_
          refine zz_getr (kd := 0) (z := 1107) zd_14_108_60 zf_Md_103 zT_1079 rfl (zz_ltn hn rfl) (zz_G.eq G_S7 1079 42 1107 rfl rfl) (by decide) 1107 rfl ?_
          refine zz_iload_n (x := p0) rfl zd_14_108_63 ?_
          have g11 := zz_G.r G_S0 1107 p0.toNat 0 10 rfl rfl
          refine zz_iald (z := S0 1107 p0.toNat) zd_14_108_64 zT_1107 rfl (zz_ltn hn rfl) (by decide) (by omega) (zz_rc fS7 (zz_nc1 rfl) rfl (fun h => h) rfl) ?_
          have g12 := zz_G.r G_S7 1079 34 0 200 rfl rfl
          refine zz_callVV [zi (S0 1107 p0.toNat)] zd_14_108_65 zk_Md_607 zT_1079 (zz_ltn hn rfl) rfl rfl ⟨Nat.le_of_ble_eq_true rfl, Nat.le_of_ble_eq_true rfl⟩ ⟨rfl, rfl⟩ (Nat.zero_le _) (Nat.zero_le _) (zc_sayCount_14_107 (S0 1107 p0.toNat) S7 n hn G_S7 (by omega) (by omega)) (fun S13 hP => ?_)
          obtain ⟨G_S13, fS13, o15, o16⟩ := hP
          have F_S13 := zz_fr.trans F_S7 fS13 rfl zz_nv
          refine zz_iload_n (x := 0) rfl zd_14_108_68 ?_
          refine zz_if_eq (by omega) zd_14_108_69 (fun c17 => ?_) (fun c17 => ?_)
          · refine zz_aload_n (x := 1079) rfl zd_14_108_85 ?_
            refine zz_ldc2 (z := 802) zq_Md_165 (by decide) zd_14_108_86 ?_
            have g18 := zz_G.r G_S13 1079 34 0 200 rfl rfl
            refine zz_callVV [zl 802] zd_14_108_89 zk_Md_604 zT_1079 (zz_ltn hn rfl) rfl rfl ⟨Nat.le_of_ble_eq_true rfl, Nat.le_of_ble_eq_true rfl⟩ ⟨rfl, rfl⟩ (Nat.zero_le _) (Nat.zero_le _) (zc_sayCode_14_106 802 S13 n hn G_S13 (by omega) (by omega) (by omega)) (fun S19 hP => ?_)
            obtain ⟨G_S19, fS19, o21, o22⟩ := hP
            have F_S19 := zz_fr.trans F_S13 fS19 rfl zz_nv
            refine zz_aload_n (x := 1079) rfl zd_14_108_92 ?_
            refine zz_aload_n (x := 1079) rfl zd_14_108_93 ?_
            refine zz_getr (kd := 0) (z := 1109) zd_14_108_94 zf_Md_109 zT_1079 rfl (zz_ltn hn rfl) (zz_G.eq G_S19 1079 44 1109 rfl rfl) (by decide) 1109 rfl ?_
            refine zz_iload_n (x := p0) rfl zd_14_108_97 ?_
            have g23 := zz_G.r G_S0 1109 p0.toNat 0 3 rfl rfl
            refine zz_iald (z := S0 1109 p0.toNat) zd_14_108_98 zT_1109 rfl (zz_ltn hn rfl) (by decide) (by omega) (zz_rc fS19 (zz_nc1 rfl) rfl (fun h => h) (zz_rc fS13 (zz_nc1 rfl) rfl (fun h => h) (zz_rc fS7 (zz_nc1 rfl) rfl (fun h => h) rfl))) ?_
            have g24 := zz_G.r G_S19 1079 34 0 200 rfl rfl
            refine zz_callVV [zi (S0 1109 p0.toNat)] zd_14_108_99 zk_Md_607 zT_1079 (zz_ltn hn rfl) rfl rfl ⟨Nat.le_of_ble_eq_true rfl, Nat.le_of_ble_eq_true rfl⟩ ⟨rfl, rfl⟩ (Nat.zero_le _) (Nat.zero_le _) (zc_sayCount_14_107 (S0 1109 p0.toNat) S19 n hn G_S19 (by omega) (by omega)) (fun S25 hP => ?_)
            obtain ⟨G_S25, fS25, o27, o28⟩ := hP
            have F_S25 := zz_fr.trans F_S19 fS25 rfl zz_nv
            refine zz_aload_n (x := 1079) rfl zd_14_108_102 ?_
            refine zz_ldc2 (z := 24) zq_Md_167 (by decide) zd_14_108_103 ?_
            have g29 := zz_G.r G_S25 1079 34 0 200 rfl rfl
            refine zz_callVV [zl 24] zd_14_108_106 zk_Md_604 zT_1079 (zz_ltn hn rfl) rfl rfl ⟨Nat.le_of_ble_eq_true rfl, Nat.le_of_ble_eq_true rfl⟩ ⟨rfl, rfl⟩ (Nat.zero_le _) (Nat.zero_le _) (zc_sayCode_14_106 24 S25 n hn G_S25 (by omega) (by omega) (by omega)) (fun S30 hP => ?_)
            obtain ⟨G_S30, fS30, o32, o33⟩ := hP
            have F_S30 := zz_fr.trans F_S25 fS30 rfl zz_nv
            refine zz_aload_n (x := 1079) rfl zd_14_108_109 ?_
            refine zz_aload_n (x := 1079) rfl zd_14_108_110 ?_
            refine zz_getr (kd := 0) (z := 1110) zd_14_108_111 zf_Md_112 zT_1079 rfl (zz_ltn hn rfl) (zz_G.eq G_S30 1079 45 1110 rfl rfl) (by decide) 1110 rfl ?_
            refine zz_iload_n (x := p0) rfl zd_14_108_114 ?_
            have g34 := zz_G.r G_S0 1110 p0.toNat 0 3 rfl rfl
            refine zz_iald (z := S0 1110 p0.toNat) zd_14_108_115 zT_1110 rfl (zz_ltn hn rfl) (by decide) (by omega) (zz_rc fS30 (zz_nc1 rfl) rfl (fun h => h) (zz_rc fS25 (zz_nc1 rfl) rfl (fun h => h) (zz_rc fS19 (zz_nc1 rfl) rfl (fun h => h) (zz_rc fS13 (zz_nc1 rfl) rfl (fun h => h) (zz_rc fS7 (zz_nc1 rfl) rfl (fun h => h) rfl))))) ?_
            have g35 := zz_G.r G_S30 1079 34 0 200 rfl rfl
            refine zz_callVV [zi (S0 1110 p0.toNat)] zd_14_108_116 zk_Md_607 zT_1079 (zz_ltn hn rfl) rfl rfl ⟨Nat.le_of_ble_eq_true rfl, Nat.le_of_ble_eq_true rfl⟩ ⟨rfl, rfl⟩ (Nat.zero_le _) (Nat.zero_le _) (zc_sayCount_14_107 (S0 1110 p0.toNat) S30 n hn G_S30 (by omega) (by omega)) (fun S36 hP => ?_)
            obtain ⟨G_S36, fS36, o38, o39⟩ := hP
            have F_S36 := zz_fr.trans F_S30 fS36 rfl zz_nv
            refine zz_iload_n (x := 0) rfl zd_14_108_119 ?_
            refine zz_if_eq (by omega) zd_14_108_120 (fun c40 => ?_) (fun c40 => ?_)
            · refine zz_iload_n (x := 0) rfl zd_14_108_159 ?_
              refine zz_if_ne (by omega) zd_14_108_160 (fun c41 => ?_) (fun c41 => ?_)
              · exfalso; omega
              · refine zz_aload_n (x := 1079) rfl zd_14_108_163 ?_
                refine zz_getr (kd := 0) (z := 1111) zd_14_108_164 zf_Md_115 zT_1079 rfl (zz_ltn hn rfl) (zz_G.eq G_S36 1079 46 1111 rfl rfl) (by decide) 1111 rfl ?_
                refine zz_iload_n (x := p0) rfl zd_14_108_167 ?_
                have g42 := zz_G.r G_S0 1111 p0.toNat 0 3 rfl rfl
                refine zz_iald (z := S0 1111 p0.toNat) zd_14_108_168 zT_1111 rfl (zz_ltn hn rfl) (by decide) (by omega) (zz_rc fS36 (zz_nc1 rfl) rfl (fun h => h) (zz_rc fS30 (zz_nc1 rfl) rfl (fun h => h) (zz_rc fS25 (zz_nc1 rfl) rfl (fun h => h) (zz_rc fS19 (zz_nc1 rfl) rfl (fun h => h) (zz_rc fS13 (zz_nc1 rfl) rfl (fun h => h) (zz_rc fS7 (zz_nc1 rfl) rfl (fun h => h) rfl)))))) ?_
                refine zz_iconst zd_14_108_169 ?_
                refine zz_icmp_le (by omega) (by omega) zd_14_108_170 (fun c43 => ?_) (fun c43 => ?_)
                · refine zz_iload_n (x := 0) rfl zd_14_108_190 ?_
                  refine zz_if_eq (by omega) zd_14_108_191 (fun c44 => ?_) (fun c44 => ?_)
                  · refine zz_aload_n (x := 1079) rfl zd_14_108_220 ?_
                    refine zz_getr (kd := 0) (z := 1113) zd_14_108_221 zf_Md_121 zT_1079 rfl (zz_ltn hn rfl) (zz_G.eq G_S36 1079 48 1113 rfl rfl) (by decide) 1113 rfl ?_
                    refine zz_iload_n (x := p0) rfl zd_14_108_224 ?_
                    have g45 := zz_G.r G_S0 1113 p0.toNat 0 31 rfl rfl
                    refine zz_iald (z := S0 1113 p0.toNat) zd_14_108_225 zT_1113 rfl (zz_ltn hn rfl) (by decide) (by omega) (zz_rc fS36 (zz_nc1 rfl) rfl (fun h => h) (zz_rc fS30 (zz_nc1 rfl) rfl (fun h => h) (zz_rc fS25 (zz_nc1 rfl) rfl (fun h => h) (zz_rc fS19 (zz_nc1 rfl) rfl (fun h => h) (zz_rc fS13 (zz_nc1 rfl) rfl (fun h => h) (zz_rc fS7 (zz_nc1 rfl) rfl (fun h => h) rfl)))))) ?_
                    refine zz_bipush (by decide) zd_14_108_226 ?_
                    refine zz_irem (by omega) (by omega) zd_14_108_228 (fun v46 hv46 av46 bv46 cv46 => ?_)
                    refine zz_if_le (by omega) zd_14_108_229 (fun c47 => ?_) (fun c47 => ?_)
                    · refine zz_aload_n (x := 1079) rfl zd_14_108_252 ?_
                      refine zz_getr (kd := 0) (z := 1113) zd_14_108_253 zf_Md_121 zT_1079 rfl (zz_ltn hn rfl) (zz_G.eq G_S36 1079 48 1113 rfl rfl) (by decide) 1113 rfl ?_
                      refine zz_iload_n (x := p0) rfl zd_14_108_256 ?_
                      refine zz_iald (z := S0 1113 p0.toNat) zd_14_108_257 zT_1113 rfl (zz_ltn hn rfl) (by decide) (by omega) (zz_rc fS36 (zz_nc1 rfl) rfl (fun h => h) (zz_rc fS30 (zz_nc1 rfl) rfl (fun h => h) (zz_rc fS25 (zz_nc1 rfl) rfl (fun h => h) (zz_rc fS19 (zz_nc1 rfl) rfl (fun h => h) (zz_rc fS13 (zz_nc1 rfl) rfl (fun h => h) (zz_rc fS7 (zz_nc1 rfl) rfl (fun h => h) rfl)))))) ?_
                      refine zz_bipush (by decide) zd_14_108_258 ?_
                      refine zz_icmp_le (by omega) (by omega) zd_14_108_260 (fun c48 => ?_) (fun c48 => ?_)
                      · exact zz_vret zd_14_108_270 rfl (Nat.zero_le _) (Nat.zero_le _) ⟨_, rfl, G_S36, F_S36⟩
                      · refine zz_aload_n (x := 1079) rfl zd_14_108_263 ?_
                        refine zz_ldc2 (z := 700594) zq_Md_546 (by decide) zd_14_108_264 ?_
                        have g49 := zz_G.r G_S36 1079 34 0 200 rfl rfl
                        refine zz_callVV [zl 700594] zd_14_108_267 zk_Md_604 zT_1079 (zz_ltn hn rfl) rfl rfl ⟨Nat.le_of_ble_eq_true rfl, Nat.le_of_ble_eq_true rfl⟩ ⟨rfl, rfl⟩ (Nat.zero_le _) (Nat.zero_le _) (zc_sayCode_14_106 700594 S36 n hn G_S36 (by omega) (by omega) (by omega)) (fun S50 hP => ?_)
                        obtain ⟨G_S50, fS50, o52, o53⟩ := hP
                        have F_S50 := zz_fr.trans F_S36 fS50 rfl zz_nv
                        exact zz_vret zd_14_108_270 rfl (Nat.zero_le _) (Nat.zero_le _) ⟨_, rfl, G_S50, F_S50⟩
                    · refine zz_aload_n (x := 1079) rfl zd_14_108_232 ?_
                      refine zz_ldc2 (z := 21177619) zq_Md_544 (by decide) zd_14_108_233 ?_
                      have g54 := zz_G.r G_S36 1079 34 0 200 rfl rfl
                      refine zz_callVV [zl 21177619] zd_14_108_236 zk_Md_604 zT_1079 (zz_ltn hn rfl) rfl rfl ⟨Nat.le_of_ble_eq_true rfl, Nat.le_of_ble_eq_true rfl⟩ ⟨rfl, rfl⟩ (Nat.zero_le _) (Nat.zero_le _) (zc_sayCode_14_106 21177619 S36 n hn G_S36 (by omega) (by omega) (by omega)) (fun S55 hP => ?_)
                      obtain ⟨G_S55, fS55, o57, o58⟩ := hP
                      have F_S55 := zz_fr.trans F_S36 fS55 rfl zz_nv
                      refine zz_aload_n (x := 1079) rfl zd_14_108_239 ?_
                      refine zz_aload_n (x := 1079) rfl zd_14_108_240 ?_
                      refine zz_getr (kd := 0) (z := 1113) zd_14_108_241 zf_Md_121 zT_1079 rfl (zz_ltn hn rfl) (zz_G.eq G_S55 1079 48 1113 rfl rfl) (by decide) 1113 rfl ?_
                      refine zz_iload_n (x := p0) rfl zd_14_108_244 ?_
                      refine zz_iald (z := S0 1113 p0.toNat) zd_14_108_245 zT_1113 rfl (zz_ltn hn rfl) (by decide) (by omega) (zz_rc fS55 (zz_nc1 rfl) rfl (fun h => h) (zz_rc fS36 (zz_nc1 rfl) rfl (fun h => h) (zz_rc fS30 (zz_nc1 rfl) rfl (fun h => h) (zz_rc fS25 (zz_nc1 rfl) rfl (fun h => h) (zz_rc fS19 (zz_nc1 rfl) rfl (fun h => h) (zz_rc fS13 (zz_nc1 rfl) rfl (fun h => h) (zz_rc fS7 (zz_nc1 rfl) rfl (fun h => h) rfl))))))) ?_
                      refine zz_bipush (by decide) zd_14_108_246 ?_
                      refine zz_irem (by omega) (by omega) zd_14_108_248 (fun v59 hv59 av59 bv59 cv59 => ?_)
                      have g60 := zz_G.r G_S55 1079 34 0 200 rfl rfl
                      refine zz_callVV [zi v59] zd_14_108_249 zk_Md_607 zT_1079 (zz_ltn hn rfl) rfl rfl ⟨Nat.le_of_ble_eq_true rfl, Nat.le_of_ble_eq_true rfl⟩ ⟨rfl, rfl⟩ (Nat.zero_le _) (Nat.zero_le _) (zc_sayCount_14_107 v59 S55 n hn G_S55 (by omega) (by omega)) (fun S61 hP => ?_)
                      obtain ⟨G_S61, fS61, o63, o64⟩ := hP
                      have F_S61 := zz_fr.trans F_S55 fS61 rfl zz_nv
                      refine zz_aload_n (x := 1079) rfl zd_14_108_252 ?_
                      refine zz_getr (kd := 0) (z := 1113) zd_14_108_253 zf_Md_121 zT_1079 rfl (zz_ltn hn rfl) (zz_G.eq G_S61 1079 48 1113 rfl rfl) (by decide) 1113 rfl ?_
                      refine zz_iload_n (x := p0) rfl zd_14_108_256 ?_
                      refine zz_iald (z := S0 1113 p0.toNat) zd_14_108_257 zT_1113 rfl (zz_ltn hn rfl) (by decide) (by omega) (zz_rc fS61 (zz_nc1 rfl) rfl (fun h => h) (zz_rc fS55 (zz_nc1 rfl) rfl (fun h => h) (zz_rc fS36 (zz_nc1 rfl) rfl (fun h => h) (zz_rc fS30 (zz_nc1 rfl) rfl (fun h => h) (zz_rc fS25 (zz_nc1 rfl) rfl (fun h => h) (zz_rc fS19 (zz_nc1 rfl) rfl (fun h => h) (zz_rc fS13 (zz_nc1 rfl) rfl (fun h => h) (zz_rc fS7 (zz_nc1 rfl) rfl (fun h => h) rfl)))))))) ?_
                      refine zz_bipush (by decide) zd_14_108_258 ?_
                      refine zz_icmp_le (by omega) (by omega) zd_14_108_260 (fun c65 => ?_) (fun c65 => ?_)
                      · exact zz_vret zd_14_108_270 rfl (Nat.zero_le _) (Nat.zero_le _) ⟨_, rfl, G_S61, F_S61⟩
                      · refine zz_aload_n (x := 1079) rfl zd_14_108_263 ?_
                        refine zz_ldc2 (z := 700594) zq_Md_546 (by decide) zd_14_108_264 ?_
                        have g66 := zz_G.r G_S61 1079 34 0 200 rfl rfl
                        refine zz_callVV [zl 700594] zd_14_108_267 zk_Md_604 zT_1079 (zz_ltn hn rfl) rfl rfl ⟨Nat.le_of_ble_eq_true rfl, Nat.le_of_ble_eq_true rfl⟩ ⟨rfl, rfl⟩ (Nat.zero_le _) (Nat.zero_le _) (zc_sayCode_14_106 700594 S61 n hn G_S61 (by omega) (by omega) (by omega)) (fun S67 hP => ?_)
                        obtain ⟨G_S67, fS67, o69, o70⟩ := hP
                        have F_S67 := zz_fr.trans F_S61 fS67 rfl zz_nv
                        exact zz_vret zd_14_108_270 rfl (Nat.zero_le _) (Nat.zero_le _) ⟨_, rfl, G_S67, F_S67⟩
                  · exfalso; omega
                · refine zz_aload_n (x := 1079) rfl zd_14_108_173 ?_
                  refine zz_ldc2 (z := 530067) zq_Md_171 (by decide) zd_14_108_174 ?_
                  have g71 := zz_G.r G_S36 1079 34 0 200 rfl rfl
                  refine zz_callVV [zl 530067] zd_14_108_177 zk_Md_604 zT_1079 (zz_ltn hn rfl) rfl rfl ⟨Nat.le_of_ble_eq_true rfl, Nat.le_of_ble_eq_true rfl⟩ ⟨rfl, rfl⟩ (Nat.zero_le _) (Nat.zero_le _) (zc_sayCode_14_106 530067 S36 n hn G_S36 (by omega) (by omega) (by omega)) (fun S72 hP => ?_)
                  obtain ⟨G_S72, fS72, o74, o75⟩ := hP
                  have F_S72 := zz_fr.trans F_S36 fS72 rfl zz_nv
                  refine zz_aload_n (x := 1079) rfl zd_14_108_180 ?_
                  refine zz_aload_n (x := 1079) rfl zd_14_108_181 ?_
                  refine zz_getr (kd := 0) (z := 1111) zd_14_108_182 zf_Md_115 zT_1079 rfl (zz_ltn hn rfl) (zz_G.eq G_S72 1079 46 1111 rfl rfl) (by decide) 1111 rfl ?_
                  refine zz_iload_n (x := p0) rfl zd_14_108_185 ?_
                  refine zz_iald (z := S0 1111 p0.toNat) zd_14_108_186 zT_1111 rfl (zz_ltn hn rfl) (by decide) (by omega) (zz_rc fS72 (zz_nc1 rfl) rfl (fun h => h) (zz_rc fS36 (zz_nc1 rfl) rfl (fun h => h) (zz_rc fS30 (zz_nc1 rfl) rfl (fun h => h) (zz_rc fS25 (zz_nc1 rfl) rfl (fun h => h) (zz_rc fS19 (zz_nc1 rfl) rfl (fun h => h) (zz_rc fS13 (zz_nc1 rfl) rfl (fun h => h) (zz_rc fS7 (zz_nc1 rfl) rfl (fun h => h) rfl))))))) ?_
                  have g76 := zz_G.r G_S72 1079 34 0 200 rfl rfl
                  refine zz_callVV [zi (S0 1111 p0.toNat)] zd_14_108_187 zk_Md_607 zT_1079 (zz_ltn hn rfl) rfl rfl ⟨Nat.le_of_ble_eq_true rfl, Nat.le_of_ble_eq_true rfl⟩ ⟨rfl, rfl⟩ (Nat.zero_le _) (Nat.zero_le _) (zc_sayCount_14_107 (S0 1111 p0.toNat) S72 n hn G_S72 (by omega) (by omega)) (fun S77 hP => ?_)
                  obtain ⟨G_S77, fS77, o79, o80⟩ := hP
                  have F_S77 := zz_fr.trans F_S72 fS77 rfl zz_nv
                  refine zz_iload_n (x := 0) rfl zd_14_108_190 ?_
                  refine zz_if_eq (by omega) zd_14_108_191 (fun c81 => ?_) (fun c81 => ?_)
                  · refine zz_aload_n (x := 1079) rfl zd_14_108_220 ?_
                    refine zz_getr (kd := 0) (z := 1113) zd_14_108_221 zf_Md_121 zT_1079 rfl (zz_ltn hn rfl) (zz_G.eq G_S77 1079 48 1113 rfl rfl) (by decide) 1113 rfl ?_
                    refine zz_iload_n (x := p0) rfl zd_14_108_224 ?_
                    have g82 := zz_G.r G_S0 1113 p0.toNat 0 31 rfl rfl
                    refine zz_iald (z := S0 1113 p0.toNat) zd_14_108_225 zT_1113 rfl (zz_ltn hn rfl) (by decide) (by omega) (zz_rc fS77 (zz_nc1 rfl) rfl (fun h => h) (zz_rc fS72 (zz_nc1 rfl) rfl (fun h => h) (zz_rc fS36 (zz_nc1 rfl) rfl (fun h => h) (zz_rc fS30 (zz_nc1 rfl) rfl (fun h => h) (zz_rc fS25 (zz_nc1 rfl) rfl (fun h => h) (zz_rc fS19 (zz_nc1 rfl) rfl (fun h => h) (zz_rc fS13 (zz_nc1 rfl) rfl (fun h => h) (zz_rc fS7 (zz_nc1 rfl) rfl (fun h => h) rfl)))))))) ?_
                    refine zz_bipush (by decide) zd_14_108_226 ?_
                    refine zz_irem (by omega) (by omega) zd_14_108_228 (fun v83 hv83 av83 bv83 cv83 => ?_)
                    refine zz_if_le (by omega) zd_14_108_229 (fun c84 => ?_) (fun c84 => ?_)
                    · refine zz_aload_n (x := 1079) rfl zd_14_108_252 ?_
                      refine zz_getr (kd := 0) (z := 1113) zd_14_108_253 zf_Md_121 zT_1079 rfl (zz_ltn hn rfl) (zz_G.eq G_S77 1079 48 1113 rfl rfl) (by decide) 1113 rfl ?_
                      refine zz_iload_n (x := p0) rfl zd_14_108_256 ?_
                      refine zz_iald (z := S0 1113 p0.toNat) zd_14_108_257 zT_1113 rfl (zz_ltn hn rfl) (by decide) (by omega) (zz_rc fS77 (zz_nc1 rfl) rfl (fun h => h) (zz_rc fS72 (zz_nc1 rfl) rfl (fun h => h) (zz_rc fS36 (zz_nc1 rfl) rfl (fun h => h) (zz_rc fS30 (zz_nc1 rfl) rfl (fun h => h) (zz_rc fS25 (zz_nc1 rfl) rfl (fun h => h) (zz_rc fS19 (zz_nc1 rfl) rfl (fun h => h) (zz_rc fS13 (zz_nc1 rfl) rfl (fun h => h) (zz_rc fS7 (zz_nc1 rfl) rfl (fun h => h) rfl)))))))) ?_
                      refine zz_bipush (by decide) zd_14_108_258 ?_
                      refine zz_icmp_le (by omega) (by omega) zd_14_108_260 (fun c85 => ?_) (fun c85 => ?_)
                      · exact zz_vret zd_14_108_270 rfl (Nat.zero_le _) (Nat.zero_le _) ⟨_, rfl, G_S77, F_S77⟩
                      · refine zz_aload_n (x := 1079) rfl zd_14_108_263 ?_
                        refine zz_ldc2 (z := 700594) zq_Md_546 (by decide) zd_14_108_264 ?_
                        have g86 := zz_G.r G_S77 1079 34 0 200 rfl rfl
                        refine zz_callVV [zl 700594] zd_14_108_267 zk_Md_604 zT_1079 (zz_ltn hn rfl) rfl rfl ⟨Nat.le_of_ble_eq_true rfl, Nat.le_of_ble_eq_true rfl⟩ ⟨rfl, rfl⟩ (Nat.zero_le _) (Nat.zero_le _) (zc_sayCode_14_106 700594 S77 n hn G_S77 (by omega) (by omega) (by omega)) (fun S87 hP => ?_)
                        obtain ⟨G_S87, fS87, o89, o90⟩ := hP
                        have F_S87 := zz_fr.trans F_S77 fS87 rfl zz_nv
                        exact zz_vret zd_14_108_270 rfl (Nat.zero_le _) (Nat.zero_le _) ⟨_, rfl, G_S87, F_S87⟩
                    · refine zz_aload_n (x := 1079) rfl zd_14_108_232 ?_
                      refine zz_ldc2 (z := 21177619) zq_Md_544 (by decide) zd_14_108_233 ?_
                      have g91 := zz_G.r G_S77 1079 34 0 200 rfl rfl
                      refine zz_callVV [zl 21177619] zd_14_108_236 zk_Md_604 zT_1079 (zz_ltn hn rfl) rfl rfl ⟨Nat.le_of_ble_eq_true rfl, Nat.le_of_ble_eq_true rfl⟩ ⟨rfl, rfl⟩ (Nat.zero_le _) (Nat.zero_le _) (zc_sayCode_14_106 21177619 S77 n hn G_S77 (by omega) (by omega) (by omega)) (fun S92 hP => ?_)
                      obtain ⟨G_S92, fS92, o94, o95⟩ := hP
                      have F_S92 := zz_fr.trans F_S77 fS92 rfl zz_nv
                      refine zz_aload_n (x := 1079) rfl zd_14_108_239 ?_
                      refine zz_aload_n (x := 1079) rfl zd_14_108_240 ?_
                      refine zz_getr (kd := 0) (z := 1113) zd_14_108_241 zf_Md_121 zT_1079 rfl (zz_ltn hn rfl) (zz_G.eq G_S92 1079 48 1113 rfl rfl) (by decide) 1113 rfl ?_
                      refine zz_iload_n (x := p0) rfl zd_14_108_244 ?_
                      refine zz_iald (z := S0 1113 p0.toNat) zd_14_108_245 zT_1113 rfl (zz_ltn hn rfl) (by decide) (by omega) (zz_rc fS92 (zz_nc1 rfl) rfl (fun h => h) (zz_rc fS77 (zz_nc1 rfl) rfl (fun h => h) (zz_rc fS72 (zz_nc1 rfl) rfl (fun h => h) (zz_rc fS36 (zz_nc1 rfl) rfl (fun h => h) (zz_rc fS30 (zz_nc1 rfl) rfl (fun h => h) (zz_rc fS25 (zz_nc1 rfl) rfl (fun h => h) (zz_rc fS19 (zz_nc1 rfl) rfl (fun h => h) (zz_rc fS13 (zz_nc1 rfl) rfl (fun h => h) (zz_rc fS7 (zz_nc1 rfl) rfl (fun h => h) rfl))))))))) ?_
                      refine zz_bipush (by decide) zd_14_108_246 ?_
                      refine zz_irem (by omega) (by omega) zd_14_108_248 (fun v96 hv96 av96 bv96 cv96 => ?_)
                      have g97 := zz_G.r G_S92 1079 34 0 200 rfl rfl
                      refine zz_callVV [zi v96] zd_14_108_249 zk_Md_607 zT_1079 (zz_ltn hn rfl) rfl rfl ⟨Nat.le_of_ble_eq_true rfl, Nat.le_of_ble_eq_true rfl⟩ ⟨rfl, rfl⟩ (Nat.zero_le _) (Nat.zero_le _) (zc_sayCount_14_107 v96 S92 n hn G_S92 (by omega) (by omega)) (fun S98 hP => ?_)
                      obtain ⟨G_S98, fS98, o100, o101⟩ := hP
                      have F_S98 := zz_fr.trans F_S92 fS98 rfl zz_nv
                      refine zz_aload_n (x := 1079) rfl zd_14_108_252 ?_
                      refine zz_getr (kd := 0) (z := 1113) zd_14_108_253 zf_Md_121 zT_1079 rfl (zz_ltn hn rfl) (zz_G.eq G_S98 1079 48 1113 rfl rfl) (by decide) 1113 rfl ?_
                      refine zz_iload_n (x := p0) rfl zd_14_108_256 ?_
                      refine zz_iald (z := S0 1113 p0.toNat) zd_14_108_257 zT_1113 rfl (zz_ltn hn rfl) (by decide) (by omega) (zz_rc fS98 (zz_nc1 rfl) rfl (fun h => h) (zz_rc fS92 (zz_nc1 rfl) rfl (fun h => h) (zz_rc fS77 (zz_nc1 rfl) rfl (fun h => h) (zz_rc fS72 (zz_nc1 rfl) rfl (fun h => h) (zz_rc fS36 (zz_nc1 rfl) rfl (fun h => h) (zz_rc fS30 (zz_nc1 rfl) rfl (fun h => h) (zz_rc fS25 (zz_nc1 rfl) rfl (fun h => h) (zz_rc fS19 (zz_nc1 rfl) rfl (fun h => h) (zz_rc fS13 (zz_nc1 rfl) rfl (fun h => h) (zz_rc fS7 (zz_nc1 rfl) rfl (fun h => h) rfl)))))))))) ?_
                      refine zz_bipush (by decide) zd_14_108_258 ?_
                      refine zz_icmp_le (by omega) (by omega) zd_14_108_260 (fun c102 => ?_) (fun c102 => ?_)
                      · exact zz_vret zd_14_108_270 rfl (Nat.zero_le _) (Nat.zero_le _) ⟨_, rfl, G_S98, F_S98⟩
                      · refine zz_aload_n (x := 1079) rfl zd_14_108_263 ?_
                        refine zz_ldc2 (z := 700594) zq_Md_546 (by decide) zd_14_108_264 ?_
                        have g103 := zz_G.r G_S98 1079 34 0 200 rfl rfl
                        refine zz_callVV [zl 700594] zd_14_108_267 zk_Md_604 zT_1079 (zz_ltn hn rfl) rfl rfl ⟨Nat.le_of_ble_eq_true rfl, Nat.le_of_ble_eq_true rfl⟩ ⟨rfl, rfl⟩ (Nat.zero_le _) (Nat.zero_le _) (zc_sayCode_14_106 700594 S98 n hn G_S98 (by omega) (by omega) (by omega)) (fun S104 hP => ?_)
                        obtain ⟨G_S104, fS104, o106, o107⟩ := hP
                        have F_S104 := zz_fr.trans F_S98 fS104 rfl zz_nv
                        exact zz_vret zd_14_108_270 rfl (Nat.zero_le _) (Nat.zero_le _) ⟨_, rfl, G_S104, F_S104⟩
                  · exfalso; omega
            · exfalso; omega
          · exfalso; omega
        · exfalso; omega
      · exfalso; omega
    · refine zz_iconst zd_14_108_25 ?_
      refine zz_goto zd_14_108_26 ?_
      refine zz_istore_n [some (.ref 1079), some (zi p0), some (zi 0), some (zi 1)] zd_14_108_30 (by decide) rfl ?_
      refine zz_aload_n (x := 1079) rfl zd_14_108_31 ?_
      refine zz_iload_n (x := 0) rfl zd_14_108_32 ?_
      refine zz_if_eq (by omega) zd_14_108_33 (fun c108 => ?_) (fun c108 => ?_)
      · refine zz_iload_n (x := 1) rfl zd_14_108_42 ?_
        refine zz_if_eq (by omega) zd_14_108_43 (fun c109 => ?_) (fun c109 => ?_)
        · exfalso; omega
        · refine zz_ldc2 (z := 4225) zq_Md_538 (by decide) zd_14_108_46 ?_
          refine zz_goto zd_14_108_49 ?_
          have g110 := zz_G.r G_S0 1079 34 0 200 rfl rfl
          refine zz_callVV [zl 4225] zd_14_108_55 zk_Md_604 zT_1079 (zz_ltn hn rfl) rfl rfl ⟨Nat.le_of_ble_eq_true rfl, Nat.le_of_ble_eq_true rfl⟩ ⟨rfl, rfl⟩ (Nat.zero_le _) (Nat.zero_le _) (zc_sayCode_14_106 4225 S0 n hn G_S0 (by omega) (by omega) (by omega)) (fun S111 hP => ?_)
          obtain ⟨G_S111, fS111, o113, o114⟩ := hP
          have F_S111 := zz_fr.trans F_S0 fS111 rfl zz_nv
          refine zz_aload_n (x := 1079) rfl zd_14_108_58 ?_
          refine zz_aload_n (x := 1079) rfl zd_14_108_59 ?_
          refine zz_getr (kd := 0) (z := 1107) zd_14_108_60 zf_Md_103 zT_1079 rfl (zz_ltn hn rfl) (zz_G.eq G_S111 1079 42 1107 rfl rfl) (by decide) 1107 rfl ?_
          refine zz_iload_n (x := p0) rfl zd_14_108_63 ?_
          have g115 := zz_G.r G_S0 1107 p0.toNat 0 10 rfl rfl
          refine zz_iald (z := S0 1107 p0.toNat) zd_14_108_64 zT_1107 rfl (zz_ltn hn rfl) (by decide) (by omega) (zz_rc fS111 (zz_nc1 rfl) rfl (fun h => h) rfl) ?_
          have g116 := zz_G.r G_S111 1079 34 0 200 rfl rfl
          refine zz_callVV [zi (S0 1107 p0.toNat)] zd_14_108_65 zk_Md_607 zT_1079 (zz_ltn hn rfl) rfl rfl ⟨Nat.le_of_ble_eq_true rfl, Nat.le_of_ble_eq_true rfl⟩ ⟨rfl, rfl⟩ (Nat.zero_le _) (Nat.zero_le _) (zc_sayCount_14_107 (S0 1107 p0.toNat) S111 n hn G_S111 (by omega) (by omega)) (fun S117 hP => ?_)
          obtain ⟨G_S117, fS117, o119, o120⟩ := hP
          have F_S117 := zz_fr.trans F_S111 fS117 rfl zz_nv
          refine zz_iload_n (x := 1) rfl zd_14_108_68 ?_
          refine zz_if_eq (by omega) zd_14_108_69 (fun c121 => ?_) (fun c121 => ?_)
          · exfalso; omega
          · refine zz_aload_n (x := 1079) rfl zd_14_108_72 ?_
            refine zz_aload_n (x := 1079) rfl zd_14_108_73 ?_
            refine zz_getr (kd := 0) (z := 1108) zd_14_108_74 zf_Md_106 zT_1079 rfl (zz_ltn hn rfl) (zz_G.eq G_S117 1079 43 1108 rfl rfl) (by decide) 1108 rfl ?_
            refine zz_iload_n (x := p0) rfl zd_14_108_77 ?_
            have g122 := zz_G.r G_S0 1108 p0.toNat 0 10 rfl rfl
            refine zz_iald (z := S0 1108 p0.toNat) zd_14_108_78 zT_1108 rfl (zz_ltn hn rfl) (by decide) (by omega) (zz_rc fS117 (zz_nc1 rfl) rfl (fun h => h) (zz_rc fS111 (zz_nc1 rfl) rfl (fun h => h) rfl)) ?_
            have g123 := zz_G.r G_S117 1079 34 0 200 rfl rfl
            refine zz_callVV [zi (S0 1108 p0.toNat)] zd_14_108_79 zk_Md_607 zT_1079 (zz_ltn hn rfl) rfl rfl ⟨Nat.le_of_ble_eq_true rfl, Nat.le_of_ble_eq_true rfl⟩ ⟨rfl, rfl⟩ (Nat.zero_le _) (Nat.zero_le _) (zc_sayCount_14_107 (S0 1108 p0.toNat) S117 n hn G_S117 (by omega) (by omega)) (fun S124 hP => ?_)
            obtain ⟨G_S124, fS124, o126, o127⟩ := hP
            have F_S124 := zz_fr.trans F_S117 fS124 rfl zz_nv
            refine zz_goto zd_14_108_82 ?_
            refine zz_iload_n (x := 0) rfl zd_14_108_119 ?_
            refine zz_if_eq (by omega) zd_14_108_120 (fun c128 => ?_) (fun c128 => ?_)
            · refine zz_iload_n (x := 1) rfl zd_14_108_159 ?_
              refine zz_if_ne (by omega) zd_14_108_160 (fun c129 => ?_) (fun c129 => ?_)
              · refine zz_iload_n (x := 0) rfl zd_14_108_190 ?_
                refine zz_if_eq (by omega) zd_14_108_191 (fun c130 => ?_) (fun c130 => ?_)
                · refine zz_aload_n (x := 1079) rfl zd_14_108_220 ?_
                  refine zz_getr (kd := 0) (z := 1113) zd_14_108_221 zf_Md_121 zT_1079 rfl (zz_ltn hn rfl) (zz_G.eq G_S124 1079 48 1113 rfl rfl) (by decide) 1113 rfl ?_
                  refine zz_iload_n (x := p0) rfl zd_14_108_224 ?_
                  have g131 := zz_G.r G_S0 1113 p0.toNat 0 31 rfl rfl
                  refine zz_iald (z := S0 1113 p0.toNat) zd_14_108_225 zT_1113 rfl (zz_ltn hn rfl) (by decide) (by omega) (zz_rc fS124 (zz_nc1 rfl) rfl (fun h => h) (zz_rc fS117 (zz_nc1 rfl) rfl (fun h => h) (zz_rc fS111 (zz_nc1 rfl) rfl (fun h => h) rfl))) ?_
                  refine zz_bipush (by decide) zd_14_108_226 ?_
                  refine zz_irem (by omega) (by omega) zd_14_108_228 (fun v132 hv132 av132 bv132 cv132 => ?_)
                  refine zz_if_le (by omega) zd_14_108_229 (fun c133 => ?_) (fun c133 => ?_)
                  · refine zz_aload_n (x := 1079) rfl zd_14_108_252 ?_
                    refine zz_getr (kd := 0) (z := 1113) zd_14_108_253 zf_Md_121 zT_1079 rfl (zz_ltn hn rfl) (zz_G.eq G_S124 1079 48 1113 rfl rfl) (by decide) 1113 rfl ?_
                    refine zz_iload_n (x := p0) rfl zd_14_108_256 ?_
                    refine zz_iald (z := S0 1113 p0.toNat) zd_14_108_257 zT_1113 rfl (zz_ltn hn rfl) (by decide) (by omega) (zz_rc fS124 (zz_nc1 rfl) rfl (fun h => h) (zz_rc fS117 (zz_nc1 rfl) rfl (fun h => h) (zz_rc fS111 (zz_nc1 rfl) rfl (fun h => h) rfl))) ?_
                    refine zz_bipush (by decide) zd_14_108_258 ?_
                    refine zz_icmp_le (by omega) (by omega) zd_14_108_260 (fun c134 => ?_) (fun c134 => ?_)
                    · exact zz_vret zd_14_108_270 rfl (Nat.zero_le _) (Nat.zero_le _) ⟨_, rfl, G_S124, F_S124⟩
                    · refine zz_aload_n (x := 1079) rfl zd_14_108_263 ?_
                      refine zz_ldc2 (z := 700594) zq_Md_546 (by decide) zd_14_108_264 ?_
                      have g135 := zz_G.r G_S124 1079 34 0 200 rfl rfl
                      refine zz_callVV [zl 700594] zd_14_108_267 zk_Md_604 zT_1079 (zz_ltn hn rfl) rfl rfl ⟨Nat.le_of_ble_eq_true rfl, Nat.le_of_ble_eq_true rfl⟩ ⟨rfl, rfl⟩ (Nat.zero_le _) (Nat.zero_le _) (zc_sayCode_14_106 700594 S124 n hn G_S124 (by omega) (by omega) (by omega)) (fun S136 hP => ?_)
                      obtain ⟨G_S136, fS136, o138, o139⟩ := hP
                      have F_S136 := zz_fr.trans F_S124 fS136 rfl zz_nv
                      exact zz_vret zd_14_108_270 rfl (Nat.zero_le _) (Nat.zero_le _) ⟨_, rfl, G_S136, F_S136⟩
                  · refine zz_aload_n (x := 1079) rfl zd_14_108_232 ?_
                    refine zz_ldc2 (z := 21177619) zq_Md_544 (by decide) zd_14_108_233 ?_
                    have g140 := zz_G.r G_S124 1079 34 0 200 rfl rfl
                    refine zz_callVV [zl 21177619] zd_14_108_236 zk_Md_604 zT_1079 (zz_ltn hn rfl) rfl rfl ⟨Nat.le_of_ble_eq_true rfl, Nat.le_of_ble_eq_true rfl⟩ ⟨rfl, rfl⟩ (Nat.zero_le _) (Nat.zero_le _) (zc_sayCode_14_106 21177619 S124 n hn G_S124 (by omega) (by omega) (by omega)) (fun S141 hP => ?_)
                    obtain ⟨G_S141, fS141, o143, o144⟩ := hP
                    have F_S141 := zz_fr.trans F_S124 fS141 rfl zz_nv
                    refine zz_aload_n (x := 1079) rfl zd_14_108_239 ?_
                    refine zz_aload_n (x := 1079) rfl zd_14_108_240 ?_
                    refine zz_getr (kd := 0) (z := 1113) zd_14_108_241 zf_Md_121 zT_1079 rfl (zz_ltn hn rfl) (zz_G.eq G_S141 1079 48 1113 rfl rfl) (by decide) 1113 rfl ?_
                    refine zz_iload_n (x := p0) rfl zd_14_108_244 ?_
                    refine zz_iald (z := S0 1113 p0.toNat) zd_14_108_245 zT_1113 rfl (zz_ltn hn rfl) (by decide) (by omega) (zz_rc fS141 (zz_nc1 rfl) rfl (fun h => h) (zz_rc fS124 (zz_nc1 rfl) rfl (fun h => h) (zz_rc fS117 (zz_nc1 rfl) rfl (fun h => h) (zz_rc fS111 (zz_nc1 rfl) rfl (fun h => h) rfl)))) ?_
                    refine zz_bipush (by decide) zd_14_108_246 ?_
                    refine zz_irem (by omega) (by omega) zd_14_108_248 (fun v145 hv145 av145 bv145 cv145 => ?_)
                    have g146 := zz_G.r G_S141 1079 34 0 200 rfl rfl
                    refine zz_callVV [zi v145] zd_14_108_249 zk_Md_607 zT_1079 (zz_ltn hn rfl) rfl rfl ⟨Nat.le_of_ble_eq_true rfl, Nat.le_of_ble_eq_true rfl⟩ ⟨rfl, rfl⟩ (Nat.zero_le _) (Nat.zero_le _) (zc_sayCount_14_107 v145 S141 n hn G_S141 (by omega) (by omega)) (fun S147 hP => ?_)
                    obtain ⟨G_S147, fS147, o149, o150⟩ := hP
                    have F_S147 := zz_fr.trans F_S141 fS147 rfl zz_nv
                    refine zz_aload_n (x := 1079) rfl zd_14_108_252 ?_
                    refine zz_getr (kd := 0) (z := 1113) zd_14_108_253 zf_Md_121 zT_1079 rfl (zz_ltn hn rfl) (zz_G.eq G_S147 1079 48 1113 rfl rfl) (by decide) 1113 rfl ?_
                    refine zz_iload_n (x := p0) rfl zd_14_108_256 ?_
                    refine zz_iald (z := S0 1113 p0.toNat) zd_14_108_257 zT_1113 rfl (zz_ltn hn rfl) (by decide) (by omega) (zz_rc fS147 (zz_nc1 rfl) rfl (fun h => h) (zz_rc fS141 (zz_nc1 rfl) rfl (fun h => h) (zz_rc fS124 (zz_nc1 rfl) rfl (fun h => h) (zz_rc fS117 (zz_nc1 rfl) rfl (fun h => h) (zz_rc fS111 (zz_nc1 rfl) rfl (fun h => h) rfl))))) ?_
                    refine zz_bipush (by decide) zd_14_108_258 ?_
                    refine zz_icmp_le (by omega) (by omega) zd_14_108_260 (fun c151 => ?_) (fun c151 => ?_)
                    · exact zz_vret zd_14_108_270 rfl (Nat.zero_le _) (Nat.zero_le _) ⟨_, rfl, G_S147, F_S147⟩
                    · refine zz_aload_n (x := 1079) rfl zd_14_108_263 ?_
                      refine zz_ldc2 (z := 700594) zq_Md_546 (by decide) zd_14_108_264 ?_
                      have g152 := zz_G.r G_S147 1079 34 0 200 rfl rfl
                      refine zz_callVV [zl 700594] zd_14_108_267 zk_Md_604 zT_1079 (zz_ltn hn rfl) rfl rfl ⟨Nat.le_of_ble_eq_true rfl, Nat.le_of_ble_eq_true rfl⟩ ⟨rfl, rfl⟩ (Nat.zero_le _) (Nat.zero_le _) (zc_sayCode_14_106 700594 S147 n hn G_S147 (by omega) (by omega) (by omega)) (fun S153 hP => ?_)
                      obtain ⟨G_S153, fS153, o155, o156⟩ := hP
                      have F_S153 := zz_fr.trans F_S147 fS153 rfl zz_nv
                      exact zz_vret zd_14_108_270 rfl (Nat.zero_le _) (Nat.zero_le _) ⟨_, rfl, G_S153, F_S153⟩
                · exfalso; omega
              · exfalso; omega
            · exfalso; omega
      · exfalso; omega
  · refine zz_iconst zd_14_108_9 ?_
    refine zz_goto zd_14_108_10 ?_
    refine zz_istore_n [some (.ref 1079), some (zi p0), some (zi 1)] zd_14_108_14 (by decide) rfl ?_
    refine zz_aload_n (x := 1079) rfl zd_14_108_15 ?_
    refine zz_getr (kd := 0) (z := 1106) zd_14_108_16 zf_Md_100 zT_1079 rfl (zz_ltn hn rfl) (zz_G.eq G_S0 1079 41 1106 rfl rfl) (by decide) 1106 rfl ?_
    refine zz_iload_n (x := p0) rfl zd_14_108_19 ?_
    refine zz_iald (z := S0 1106 p0.toNat) zd_14_108_20 zT_1106 rfl (zz_ltn hn rfl) (by decide) (by omega) rfl ?_
    refine zz_iconst zd_14_108_21 ?_
    refine zz_icmp_ne (by omega) (by omega) zd_14_108_22 (fun c157 => ?_) (fun c157 => ?_)
    · refine zz_iconst zd_14_108_29 ?_
      refine zz_istore_n [some (.ref 1079), some (zi p0), some (zi 1), some (zi 0)] zd_14_108_30 (by decide) rfl ?_
      refine zz_aload_n (x := 1079) rfl zd_14_108_31 ?_
      refine zz_iload_n (x := 1) rfl zd_14_108_32 ?_
      refine zz_if_eq (by omega) zd_14_108_33 (fun c158 => ?_) (fun c158 => ?_)
      · exfalso; omega
      · refine zz_ldc2 (z := 735715) zq_Md_534 (by decide) zd_14_108_36 ?_
        refine zz_goto zd_14_108_39 ?_
        have g159 := zz_G.r G_S0 1079 34 0 200 rfl rfl
        refine zz_callVV [zl 735715] zd_14_108_55 zk_Md_604 zT_1079 (zz_ltn hn rfl) rfl rfl ⟨Nat.le_of_ble_eq_true rfl, Nat.le_of_ble_eq_true rfl⟩ ⟨rfl, rfl⟩ (Nat.zero_le _) (Nat.zero_le _) (zc_sayCode_14_106 735715 S0 n hn G_S0 (by omega) (by omega) (by omega)) (fun S160 hP => ?_)
        obtain ⟨G_S160, fS160, o162, o163⟩ := hP
        have F_S160 := zz_fr.trans F_S0 fS160 rfl zz_nv
        refine zz_aload_n (x := 1079) rfl zd_14_108_58 ?_
        refine zz_aload_n (x := 1079) rfl zd_14_108_59 ?_
        refine zz_getr (kd := 0) (z := 1107) zd_14_108_60 zf_Md_103 zT_1079 rfl (zz_ltn hn rfl) (zz_G.eq G_S160 1079 42 1107 rfl rfl) (by decide) 1107 rfl ?_
        refine zz_iload_n (x := p0) rfl zd_14_108_63 ?_
        have g164 := zz_G.r G_S0 1107 p0.toNat 0 10 rfl rfl
        refine zz_iald (z := S0 1107 p0.toNat) zd_14_108_64 zT_1107 rfl (zz_ltn hn rfl) (by decide) (by omega) (zz_rc fS160 (zz_nc1 rfl) rfl (fun h => h) rfl) ?_
        have g165 := zz_G.r G_S160 1079 34 0 200 rfl rfl
        refine zz_callVV [zi (S0 1107 p0.toNat)] zd_14_108_65 zk_Md_607 zT_1079 (zz_ltn hn rfl) rfl rfl ⟨Nat.le_of_ble_eq_true rfl, Nat.le_of_ble_eq_true rfl⟩ ⟨rfl, rfl⟩ (Nat.zero_le _) (Nat.zero_le _) (zc_sayCount_14_107 (S0 1107 p0.toNat) S160 n hn G_S160 (by omega) (by omega)) (fun S166 hP => ?_)
        obtain ⟨G_S166, fS166, o168, o169⟩ := hP
        have F_S166 := zz_fr.trans F_S160 fS166 rfl zz_nv
        refine zz_iload_n (x := 0) rfl zd_14_108_68 ?_
        refine zz_if_eq (by omega) zd_14_108_69 (fun c170 => ?_) (fun c170 => ?_)
        · refine zz_aload_n (x := 1079) rfl zd_14_108_85 ?_
          refine zz_ldc2 (z := 802) zq_Md_165 (by decide) zd_14_108_86 ?_
          have g171 := zz_G.r G_S166 1079 34 0 200 rfl rfl
          refine zz_callVV [zl 802] zd_14_108_89 zk_Md_604 zT_1079 (zz_ltn hn rfl) rfl rfl ⟨Nat.le_of_ble_eq_true rfl, Nat.le_of_ble_eq_true rfl⟩ ⟨rfl, rfl⟩ (Nat.zero_le _) (Nat.zero_le _) (zc_sayCode_14_106 802 S166 n hn G_S166 (by omega) (by omega) (by omega)) (fun S172 hP => ?_)
          obtain ⟨G_S172, fS172, o174, o175⟩ := hP
          have F_S172 := zz_fr.trans F_S166 fS172 rfl zz_nv
          refine zz_aload_n (x := 1079) rfl zd_14_108_92 ?_
          refine zz_aload_n (x := 1079) rfl zd_14_108_93 ?_
          refine zz_getr (kd := 0) (z := 1109) zd_14_108_94 zf_Md_109 zT_1079 rfl (zz_ltn hn rfl) (zz_G.eq G_S172 1079 44 1109 rfl rfl) (by decide) 1109 rfl ?_
          refine zz_iload_n (x := p0) rfl zd_14_108_97 ?_
          have g176 := zz_G.r G_S0 1109 p0.toNat 0 3 rfl rfl
          refine zz_iald (z := S0 1109 p0.toNat) zd_14_108_98 zT_1109 rfl (zz_ltn hn rfl) (by decide) (by omega) (zz_rc fS172 (zz_nc1 rfl) rfl (fun h => h) (zz_rc fS166 (zz_nc1 rfl) rfl (fun h => h) (zz_rc fS160 (zz_nc1 rfl) rfl (fun h => h) rfl))) ?_
          have g177 := zz_G.r G_S172 1079 34 0 200 rfl rfl
          refine zz_callVV [zi (S0 1109 p0.toNat)] zd_14_108_99 zk_Md_607 zT_1079 (zz_ltn hn rfl) rfl rfl ⟨Nat.le_of_ble_eq_true rfl, Nat.le_of_ble_eq_true rfl⟩ ⟨rfl, rfl⟩ (Nat.zero_le _) (Nat.zero_le _) (zc_sayCount_14_107 (S0 1109 p0.toNat) S172 n hn G_S172 (by omega) (by omega)) (fun S178 hP => ?_)
          obtain ⟨G_S178, fS178, o180, o181⟩ := hP
          have F_S178 := zz_fr.trans F_S172 fS178 rfl zz_nv
          refine zz_aload_n (x := 1079) rfl zd_14_108_102 ?_
          refine zz_ldc2 (z := 24) zq_Md_167 (by decide) zd_14_108_103 ?_
          have g182 := zz_G.r G_S178 1079 34 0 200 rfl rfl
          refine zz_callVV [zl 24] zd_14_108_106 zk_Md_604 zT_1079 (zz_ltn hn rfl) rfl rfl ⟨Nat.le_of_ble_eq_true rfl, Nat.le_of_ble_eq_true rfl⟩ ⟨rfl, rfl⟩ (Nat.zero_le _) (Nat.zero_le _) (zc_sayCode_14_106 24 S178 n hn G_S178 (by omega) (by omega) (by omega)) (fun S183 hP => ?_)
          obtain ⟨G_S183, fS183, o185, o186⟩ := hP
          have F_S183 := zz_fr.trans F_S178 fS183 rfl zz_nv
          refine zz_aload_n (x := 1079) rfl zd_14_108_109 ?_
          refine zz_aload_n (x := 1079) rfl zd_14_108_110 ?_
          refine zz_getr (kd := 0) (z := 1110) zd_14_108_111 zf_Md_112 zT_1079 rfl (zz_ltn hn rfl) (zz_G.eq G_S183 1079 45 1110 rfl rfl) (by decide) 1110 rfl ?_
          refine zz_iload_n (x := p0) rfl zd_14_108_114 ?_
          have g187 := zz_G.r G_S0 1110 p0.toNat 0 3 rfl rfl
          refine zz_iald (z := S0 1110 p0.toNat) zd_14_108_115 zT_1110 rfl (zz_ltn hn rfl) (by decide) (by omega) (zz_rc fS183 (zz_nc1 rfl) rfl (fun h => h) (zz_rc fS178 (zz_nc1 rfl) rfl (fun h => h) (zz_rc fS172 (zz_nc1 rfl) rfl (fun h => h) (zz_rc fS166 (zz_nc1 rfl) rfl (fun h => h) (zz_rc fS160 (zz_nc1 rfl) rfl (fun h => h) rfl))))) ?_
          have g188 := zz_G.r G_S183 1079 34 0 200 rfl rfl
          refine zz_callVV [zi (S0 1110 p0.toNat)] zd_14_108_116 zk_Md_607 zT_1079 (zz_ltn hn rfl) rfl rfl ⟨Nat.le_of_ble_eq_true rfl, Nat.le_of_ble_eq_true rfl⟩ ⟨rfl, rfl⟩ (Nat.zero_le _) (Nat.zero_le _) (zc_sayCount_14_107 (S0 1110 p0.toNat) S183 n hn G_S183 (by omega) (by omega)) (fun S189 hP => ?_)
          obtain ⟨G_S189, fS189, o191, o192⟩ := hP
          have F_S189 := zz_fr.trans F_S183 fS189 rfl zz_nv
          refine zz_iload_n (x := 1) rfl zd_14_108_119 ?_
          refine zz_if_eq (by omega) zd_14_108_120 (fun c193 => ?_) (fun c193 => ?_)
          · exfalso; omega
          · refine zz_aload_n (x := 1079) rfl zd_14_108_123 ?_
            refine zz_ldc2 (z := 21094748847) zq_Md_540 (by decide) zd_14_108_124 ?_
            have g194 := zz_G.r G_S189 1079 34 0 200 rfl rfl
            refine zz_callVV [zl 21094748847] zd_14_108_127 zk_Md_604 zT_1079 (zz_ltn hn rfl) rfl rfl ⟨Nat.le_of_ble_eq_true rfl, Nat.le_of_ble_eq_true rfl⟩ ⟨rfl, rfl⟩ (Nat.zero_le _) (Nat.zero_le _) (zc_sayCode_14_106 21094748847 S189 n hn G_S189 (by omega) (by omega) (by omega)) (fun S195 hP => ?_)
            obtain ⟨G_S195, fS195, o197, o198⟩ := hP
            have F_S195 := zz_fr.trans F_S189 fS195 rfl zz_nv
            refine zz_aload_n (x := 1079) rfl zd_14_108_130 ?_
            refine zz_aload_n (x := 1079) rfl zd_14_108_131 ?_
            refine zz_getr (kd := 0) (z := 1104) zd_14_108_132 zf_Md_94 zT_1079 rfl (zz_ltn hn rfl) (zz_G.eq G_S195 1079 39 1104 rfl rfl) (by decide) 1104 rfl ?_
            refine zz_iload_n (x := p0) rfl zd_14_108_135 ?_
            refine zz_iconst zd_14_108_136 ?_
            refine zz_iadd zd_14_108_137 ?_
            refine zz_nrm (fun v199 hv199 ev199 => ?_)
            have g200 := zz_G.r G_S0 1104 v199.toNat 0 63 rfl rfl
            refine zz_iald (z := S0 1104 v199.toNat) zd_14_108_138 zT_1104 rfl (zz_ltn hn rfl) (by decide) (by omega) (zz_rc fS195 (zz_nc1 rfl) rfl (fun h => h) (zz_rc fS189 (zz_nc1 rfl) rfl (fun h => h) (zz_rc fS183 (zz_nc1 rfl) rfl (fun h => h) (zz_rc fS178 (zz_nc1 rfl) rfl (fun h => h) (zz_rc fS172 (zz_nc1 rfl) rfl (fun h => h) (zz_rc fS166 (zz_nc1 rfl) rfl (fun h => h) (zz_rc fS160 (zz_nc1 rfl) rfl (fun h => h) rfl))))))) ?_
            have g201 := zz_G.r G_S195 1079 34 0 200 rfl rfl
            refine zz_callVV [zi (S0 1104 v199.toNat)] zd_14_108_139 zk_Md_607 zT_1079 (zz_ltn hn rfl) rfl rfl ⟨Nat.le_of_ble_eq_true rfl, Nat.le_of_ble_eq_true rfl⟩ ⟨rfl, rfl⟩ (Nat.zero_le _) (Nat.zero_le _) (zc_sayCount_14_107 (S0 1104 v199.toNat) S195 n hn G_S195 (by omega) (by omega)) (fun S202 hP => ?_)
            obtain ⟨G_S202, fS202, o204, o205⟩ := hP
            have F_S202 := zz_fr.trans F_S195 fS202 rfl zz_nv
            refine zz_aload_n (x := 1079) rfl zd_14_108_142 ?_
            refine zz_ldc2 (z := 641) zq_Md_163 (by decide) zd_14_108_143 ?_
            have g206 := zz_G.r G_S202 1079 34 0 200 rfl rfl
            refine zz_callVV [zl 641] zd_14_108_146 zk_Md_604 zT_1079 (zz_ltn hn rfl) rfl rfl ⟨Nat.le_of_ble_eq_true rfl, Nat.le_of_ble_eq_true rfl⟩ ⟨rfl, rfl⟩ (Nat.zero_le _) (Nat.zero_le _) (zc_sayCode_14_106 641 S202 n hn G_S202 (by omega) (by omega) (by omega)) (fun S207 hP => ?_)
            obtain ⟨G_S207, fS207, o209, o210⟩ := hP
            have F_S207 := zz_fr.trans F_S202 fS207 rfl zz_nv
            refine zz_aload_n (x := 1079) rfl zd_14_108_149 ?_
            refine zz_aload_n (x := 1079) rfl zd_14_108_150 ?_
            refine zz_getr (kd := 0) (z := 1114) zd_14_108_151 zf_Md_124 zT_1079 rfl (zz_ltn hn rfl) (zz_G.eq G_S207 1079 49 1114 rfl rfl) (by decide) 1114 rfl ?_
            refine zz_iload_n (x := p0) rfl zd_14_108_154 ?_
            have g211 := zz_G.r G_S0 1114 p0.toNat 0 4096 rfl rfl
            refine zz_iald (z := S0 1114 p0.toNat) zd_14_108_155 zT_1114 rfl (zz_ltn hn rfl) (by decide) (by omega) (zz_rc fS207 (zz_nc1 rfl) rfl (fun h => h) (zz_rc fS202 (zz_nc1 rfl) rfl (fun h => h) (zz_rc fS195 (zz_nc1 rfl) rfl (fun h => h) (zz_rc fS189 (zz_nc1 rfl) rfl (fun h => h) (zz_rc fS183 (zz_nc1 rfl) rfl (fun h => h) (zz_rc fS178 (zz_nc1 rfl) rfl (fun h => h) (zz_rc fS172 (zz_nc1 rfl) rfl (fun h => h) (zz_rc fS166 (zz_nc1 rfl) rfl (fun h => h) (zz_rc fS160 (zz_nc1 rfl) rfl (fun h => h) rfl))))))))) ?_
            have g212 := zz_G.r G_S207 1079 34 0 200 rfl rfl
            refine zz_callVV [zi (S0 1114 p0.toNat)] zd_14_108_156 zk_Md_607 zT_1079 (zz_ltn hn rfl) rfl rfl ⟨Nat.le_of_ble_eq_true rfl, Nat.le_of_ble_eq_true rfl⟩ ⟨rfl, rfl⟩ (Nat.zero_le _) (Nat.zero_le _) (zc_sayCount_14_107 (S0 1114 p0.toNat) S207 n hn G_S207 (by omega) (by omega)) (fun S213 hP => ?_)
            obtain ⟨G_S213, fS213, o215, o216⟩ := hP
            have F_S213 := zz_fr.trans F_S207 fS213 rfl zz_nv
            refine zz_iload_n (x := 0) rfl zd_14_108_159 ?_
            refine zz_if_ne (by omega) zd_14_108_160 (fun c217 => ?_) (fun c217 => ?_)
            · exfalso; omega
            · refine zz_aload_n (x := 1079) rfl zd_14_108_163 ?_
              refine zz_getr (kd := 0) (z := 1111) zd_14_108_164 zf_Md_115 zT_1079 rfl (zz_ltn hn rfl) (zz_G.eq G_S213 1079 46 1111 rfl rfl) (by decide) 1111 rfl ?_
              refine zz_iload_n (x := p0) rfl zd_14_108_167 ?_
              have g218 := zz_G.r G_S0 1111 p0.toNat 0 3 rfl rfl
              refine zz_iald (z := S0 1111 p0.toNat) zd_14_108_168 zT_1111 rfl (zz_ltn hn rfl) (by decide) (by omega) (zz_rc fS213 (zz_nc1 rfl) rfl (fun h => h) (zz_rc fS207 (zz_nc1 rfl) rfl (fun h => h) (zz_rc fS202 (zz_nc1 rfl) rfl (fun h => h) (zz_rc fS195 (zz_nc1 rfl) rfl (fun h => h) (zz_rc fS189 (zz_nc1 rfl) rfl (fun h => h) (zz_rc fS183 (zz_nc1 rfl) rfl (fun h => h) (zz_rc fS178 (zz_nc1 rfl) rfl (fun h => h) (zz_rc fS172 (zz_nc1 rfl) rfl (fun h => h) (zz_rc fS166 (zz_nc1 rfl) rfl (fun h => h) (zz_rc fS160 (zz_nc1 rfl) rfl (fun h => h) rfl)))))))))) ?_
              refine zz_iconst zd_14_108_169 ?_
              refine zz_icmp_le (by omega) (by omega) zd_14_108_170 (fun c219 => ?_) (fun c219 => ?_)
              · refine zz_iload_n (x := 1) rfl zd_14_108_190 ?_
                refine zz_if_eq (by omega) zd_14_108_191 (fun c220 => ?_) (fun c220 => ?_)
                · exfalso; omega
                · refine zz_aload_n (x := 1079) rfl zd_14_108_194 ?_
                  refine zz_getr (kd := 0) (z := 1112) zd_14_108_195 zf_Md_118 zT_1079 rfl (zz_ltn hn rfl) (zz_G.eq G_S213 1079 47 1112 rfl rfl) (by decide) 1112 rfl ?_
                  refine zz_iload_n (x := p0) rfl zd_14_108_198 ?_
                  have g221 := zz_G.r G_S0 1112 p0.toNat 0 1 rfl rfl
                  refine zz_iald (z := S0 1112 p0.toNat) zd_14_108_199 zT_1112 rfl (zz_ltn hn rfl) (by decide) (by omega) (zz_rc fS213 (zz_nc1 rfl) rfl (fun h => h) (zz_rc fS207 (zz_nc1 rfl) rfl (fun h => h) (zz_rc fS202 (zz_nc1 rfl) rfl (fun h => h) (zz_rc fS195 (zz_nc1 rfl) rfl (fun h => h) (zz_rc fS189 (zz_nc1 rfl) rfl (fun h => h) (zz_rc fS183 (zz_nc1 rfl) rfl (fun h => h) (zz_rc fS178 (zz_nc1 rfl) rfl (fun h => h) (zz_rc fS172 (zz_nc1 rfl) rfl (fun h => h) (zz_rc fS166 (zz_nc1 rfl) rfl (fun h => h) (zz_rc fS160 (zz_nc1 rfl) rfl (fun h => h) rfl)))))))))) ?_
                  refine zz_if_le (by omega) zd_14_108_200 (fun c222 => ?_) (fun c222 => ?_)
                  · refine zz_aload_n (x := 1079) rfl zd_14_108_220 ?_
                    refine zz_getr (kd := 0) (z := 1113) zd_14_108_221 zf_Md_121 zT_1079 rfl (zz_ltn hn rfl) (zz_G.eq G_S213 1079 48 1113 rfl rfl) (by decide) 1113 rfl ?_
                    refine zz_iload_n (x := p0) rfl zd_14_108_224 ?_
                    have g223 := zz_G.r G_S0 1113 p0.toNat 0 31 rfl rfl
                    refine zz_iald (z := S0 1113 p0.toNat) zd_14_108_225 zT_1113 rfl (zz_ltn hn rfl) (by decide) (by omega) (zz_rc fS213 (zz_nc1 rfl) rfl (fun h => h) (zz_rc fS207 (zz_nc1 rfl) rfl (fun h => h) (zz_rc fS202 (zz_nc1 rfl) rfl (fun h => h) (zz_rc fS195 (zz_nc1 rfl) rfl (fun h => h) (zz_rc fS189 (zz_nc1 rfl) rfl (fun h => h) (zz_rc fS183 (zz_nc1 rfl) rfl (fun h => h) (zz_rc fS178 (zz_nc1 rfl) rfl (fun h => h) (zz_rc fS172 (zz_nc1 rfl) rfl (fun h => h) (zz_rc fS166 (zz_nc1 rfl) rfl (fun h => h) (zz_rc fS160 (zz_nc1 rfl) rfl (fun h => h) rfl)))))))))) ?_
                    refine zz_bipush (by decide) zd_14_108_226 ?_
                    refine zz_irem (by omega) (by omega) zd_14_108_228 (fun v224 hv224 av224 bv224 cv224 => ?_)
                    refine zz_if_le (by omega) zd_14_108_229 (fun c225 => ?_) (fun c225 => ?_)
                    · refine zz_aload_n (x := 1079) rfl zd_14_108_252 ?_
                      refine zz_getr (kd := 0) (z := 1113) zd_14_108_253 zf_Md_121 zT_1079 rfl (zz_ltn hn rfl) (zz_G.eq G_S213 1079 48 1113 rfl rfl) (by decide) 1113 rfl ?_
                      refine zz_iload_n (x := p0) rfl zd_14_108_256 ?_
                      refine zz_iald (z := S0 1113 p0.toNat) zd_14_108_257 zT_1113 rfl (zz_ltn hn rfl) (by decide) (by omega) (zz_rc fS213 (zz_nc1 rfl) rfl (fun h => h) (zz_rc fS207 (zz_nc1 rfl) rfl (fun h => h) (zz_rc fS202 (zz_nc1 rfl) rfl (fun h => h) (zz_rc fS195 (zz_nc1 rfl) rfl (fun h => h) (zz_rc fS189 (zz_nc1 rfl) rfl (fun h => h) (zz_rc fS183 (zz_nc1 rfl) rfl (fun h => h) (zz_rc fS178 (zz_nc1 rfl) rfl (fun h => h) (zz_rc fS172 (zz_nc1 rfl) rfl (fun h => h) (zz_rc fS166 (zz_nc1 rfl) rfl (fun h => h) (zz_rc fS160 (zz_nc1 rfl) rfl (fun h => h) rfl)))))))))) ?_
                      refine zz_bipush (by decide) zd_14_108_258 ?_
                      refine zz_icmp_le (by omega) (by omega) zd_14_108_260 (fun c226 => ?_) (fun c226 => ?_)
                      · exact zz_vret zd_14_108_270 rfl (Nat.zero_le _) (Nat.zero_le _) ⟨_, rfl, G_S213, F_S213⟩
                      · refine zz_aload_n (x := 1079) rfl zd_14_108_263 ?_
                        refine zz_ldc2 (z := 700594) zq_Md_546 (by decide) zd_14_108_264 ?_
                        have g227 := zz_G.r G_S213 1079 34 0 200 rfl rfl
                        refine zz_callVV [zl 700594] zd_14_108_267 zk_Md_604 zT_1079 (zz_ltn hn rfl) rfl rfl ⟨Nat.le_of_ble_eq_true rfl, Nat.le_of_ble_eq_true rfl⟩ ⟨rfl, rfl⟩ (Nat.zero_le _) (Nat.zero_le _) (zc_sayCode_14_106 700594 S213 n hn G_S213 (by omega) (by omega) (by omega)) (fun S228 hP => ?_)
                        obtain ⟨G_S228, fS228, o230, o231⟩ := hP
                        have F_S228 := zz_fr.trans F_S213 fS228 rfl zz_nv
                        exact zz_vret zd_14_108_270 rfl (Nat.zero_le _) (Nat.zero_le _) ⟨_, rfl, G_S228, F_S228⟩
                    · refine zz_aload_n (x := 1079) rfl zd_14_108_232 ?_
                      refine zz_ldc2 (z := 21177619) zq_Md_544 (by decide) zd_14_108_233 ?_
                      have g232 := zz_G.r G_S213 1079 34 0 200 rfl rfl
                      refine zz_callVV [zl 21177619] zd_14_108_236 zk_Md_604 zT_1079 (zz_ltn hn rfl) rfl rfl ⟨Nat.le_of_ble_eq_true rfl, Nat.le_of_ble_eq_true rfl⟩ ⟨rfl, rfl⟩ (Nat.zero_le _) (Nat.zero_le _) (zc_sayCode_14_106 21177619 S213 n hn G_S213 (by omega) (by omega) (by omega)) (fun S233 hP => ?_)
                      obtain ⟨G_S233, fS233, o235, o236⟩ := hP
                      have F_S233 := zz_fr.trans F_S213 fS233 rfl zz_nv
                      refine zz_aload_n (x := 1079) rfl zd_14_108_239 ?_
                      refine zz_aload_n (x := 1079) rfl zd_14_108_240 ?_
                      refine zz_getr (kd := 0) (z := 1113) zd_14_108_241 zf_Md_121 zT_1079 rfl (zz_ltn hn rfl) (zz_G.eq G_S233 1079 48 1113 rfl rfl) (by decide) 1113 rfl ?_
                      refine zz_iload_n (x := p0) rfl zd_14_108_244 ?_
                      refine zz_iald (z := S0 1113 p0.toNat) zd_14_108_245 zT_1113 rfl (zz_ltn hn rfl) (by decide) (by omega) (zz_rc fS233 (zz_nc1 rfl) rfl (fun h => h) (zz_rc fS213 (zz_nc1 rfl) rfl (fun h => h) (zz_rc fS207 (zz_nc1 rfl) rfl (fun h => h) (zz_rc fS202 (zz_nc1 rfl) rfl (fun h => h) (zz_rc fS195 (zz_nc1 rfl) rfl (fun h => h) (zz_rc fS189 (zz_nc1 rfl) rfl (fun h => h) (zz_rc fS183 (zz_nc1 rfl) rfl (fun h => h) (zz_rc fS178 (zz_nc1 rfl) rfl (fun h => h) (zz_rc fS172 (zz_nc1 rfl) rfl (fun h => h) (zz_rc fS166 (zz_nc1 rfl) rfl (fun h => h) (zz_rc fS160 (zz_nc1 rfl) rfl (fun h => h) rfl))))))))))) ?_
                      refine zz_bipush (by decide) zd_14_108_246 ?_
                      refine zz_irem (by omega) (by omega) zd_14_108_248 (fun v237 hv237 av237 bv237 cv237 => ?_)
                      have g238 := zz_G.r G_S233 1079 34 0 200 rfl rfl
                      refine zz_callVV [zi v237] zd_14_108_249 zk_Md_607 zT_1079 (zz_ltn hn rfl) rfl rfl ⟨Nat.le_of_ble_eq_true rfl, Nat.le_of_ble_eq_true rfl⟩ ⟨rfl, rfl⟩ (Nat.zero_le _) (Nat.zero_le _) (zc_sayCount_14_107 v237 S233 n hn G_S233 (by omega) (by omega)) (fun S239 hP => ?_)
                      obtain ⟨G_S239, fS239, o241, o242⟩ := hP
                      have F_S239 := zz_fr.trans F_S233 fS239 rfl zz_nv
                      refine zz_aload_n (x := 1079) rfl zd_14_108_252 ?_
                      refine zz_getr (kd := 0) (z := 1113) zd_14_108_253 zf_Md_121 zT_1079 rfl (zz_ltn hn rfl) (zz_G.eq G_S239 1079 48 1113 rfl rfl) (by decide) 1113 rfl ?_
                      refine zz_iload_n (x := p0) rfl zd_14_108_256 ?_
                      refine zz_iald (z := S0 1113 p0.toNat) zd_14_108_257 zT_1113 rfl (zz_ltn hn rfl) (by decide) (by omega) (zz_rc fS239 (zz_nc1 rfl) rfl (fun h => h) (zz_rc fS233 (zz_nc1 rfl) rfl (fun h => h) (zz_rc fS213 (zz_nc1 rfl) rfl (fun h => h) (zz_rc fS207 (zz_nc1 rfl) rfl (fun h => h) (zz_rc fS202 (zz_nc1 rfl) rfl (fun h => h) (zz_rc fS195 (zz_nc1 rfl) rfl (fun h => h) (zz_rc fS189 (zz_nc1 rfl) rfl (fun h => h) (zz_rc fS183 (zz_nc1 rfl) rfl (fun h => h) (zz_rc fS178 (zz_nc1 rfl) rfl (fun h => h) (zz_rc fS172 (zz_nc1 rfl) rfl (fun h => h) (zz_rc fS166 (zz_nc1 rfl) rfl (fun h => h) (zz_rc fS160 (zz_nc1 rfl) rfl (fun h => h) rfl)))))))))))) ?_
                      refine zz_bipush (by decide) zd_14_108_258 ?_
                      refine zz_icmp_le (by omega) (by omega) zd_14_108_260 (fun c243 => ?_) (fun c243 => ?_)
                      · exact zz_vret zd_14_108_270 rfl (Nat.zero_le _) (Nat.zero_le _) ⟨_, rfl, G_S239, F_S239⟩
                      · refine zz_aload_n (x := 1079) rfl zd_14_108_263 ?_
                        refine zz_ldc2 (z := 700594) zq_Md_546 (by decide) zd_14_108_264 ?_
                        have g244 := zz_G.r G_S239 1079 34 0 200 rfl rfl
                        refine zz_callVV [zl 700594] zd_14_108_267 zk_Md_604 zT_1079 (zz_ltn hn rfl) rfl rfl ⟨Nat.le_of_ble_eq_true rfl, Nat.le_of_ble_eq_true rfl⟩ ⟨rfl, rfl⟩ (Nat.zero_le _) (Nat.zero_le _) (zc_sayCode_14_106 700594 S239 n hn G_S239 (by omega) (by omega) (by omega)) (fun S245 hP => ?_)
                        obtain ⟨G_S245, fS245, o247, o248⟩ := hP
                        have F_S245 := zz_fr.trans F_S239 fS245 rfl zz_nv
                        exact zz_vret zd_14_108_270 rfl (Nat.zero_le _) (Nat.zero_le _) ⟨_, rfl, G_S245, F_S245⟩
                  · refine zz_aload_n (x := 1079) rfl zd_14_108_203 ?_
                    refine zz_ldc2 (z := 171141) zq_Md_542 (by decide) zd_14_108_204 ?_
                    have g249 := zz_G.r G_S213 1079 34 0 200 rfl rfl
                    refine zz_callVV [zl 171141] zd_14_108_207 zk_Md_604 zT_1079 (zz_ltn hn rfl) rfl rfl ⟨Nat.le_of_ble_eq_true rfl, Nat.le_of_ble_eq_true rfl⟩ ⟨rfl, rfl⟩ (Nat.zero_le _) (Nat.zero_le _) (zc_sayCode_14_106 171141 S213 n hn G_S213 (by omega) (by omega) (by omega)) (fun S250 hP => ?_)
                    obtain ⟨G_S250, fS250, o252, o253⟩ := hP
                    have F_S250 := zz_fr.trans F_S213 fS250 rfl zz_nv
                    refine zz_aload_n (x := 1079) rfl zd_14_108_210 ?_
                    refine zz_aload_n (x := 1079) rfl zd_14_108_211 ?_
                    refine zz_getr (kd := 0) (z := 1112) zd_14_108_212 zf_Md_118 zT_1079 rfl (zz_ltn hn rfl) (zz_G.eq G_S250 1079 47 1112 rfl rfl) (by decide) 1112 rfl ?_
                    refine zz_iload_n (x := p0) rfl zd_14_108_215 ?_
                    refine zz_iald (z := S0 1112 p0.toNat) zd_14_108_216 zT_1112 rfl (zz_ltn hn rfl) (by decide) (by omega) (zz_rc fS250 (zz_nc1 rfl) rfl (fun h => h) (zz_rc fS213 (zz_nc1 rfl) rfl (fun h => h) (zz_rc fS207 (zz_nc1 rfl) rfl (fun h => h) (zz_rc fS202 (zz_nc1 rfl) rfl (fun h => h) (zz_rc fS195 (zz_nc1 rfl) rfl (fun h => h) (zz_rc fS189 (zz_nc1 rfl) rfl (fun h => h) (zz_rc fS183 (zz_nc1 rfl) rfl (fun h => h) (zz_rc fS178 (zz_nc1 rfl) rfl (fun h => h) (zz_rc fS172 (zz_nc1 rfl) rfl (fun h => h) (zz_rc fS166 (zz_nc1 rfl) rfl (fun h => h) (zz_rc fS160 (zz_nc1 rfl) rfl (fun h => h) rfl))))))))))) ?_
                    have g254 := zz_G.r G_S250 1079 34 0 200 rfl rfl
                    refine zz_callVV [zi (S0 1112 p0.toNat)] zd_14_108_217 zk_Md_607 zT_1079 (zz_ltn hn rfl) rfl rfl ⟨Nat.le_of_ble_eq_true rfl, Nat.le_of_ble_eq_true rfl⟩ ⟨rfl, rfl⟩ (Nat.zero_le _) (Nat.zero_le _) (zc_sayCount_14_107 (S0 1112 p0.toNat) S250 n hn G_S250 (by omega) (by omega)) (fun S255 hP => ?_)
                    obtain ⟨G_S255, fS255, o257, o258⟩ := hP
                    have F_S255 := zz_fr.trans F_S250 fS255 rfl zz_nv
                    refine zz_aload_n (x := 1079) rfl zd_14_108_220 ?_
                    refine zz_getr (kd := 0) (z := 1113) zd_14_108_221 zf_Md_121 zT_1079 rfl (zz_ltn hn rfl) (zz_G.eq G_S255 1079 48 1113 rfl rfl) (by decide) 1113 rfl ?_
                    refine zz_iload_n (x := p0) rfl zd_14_108_224 ?_
                    have g259 := zz_G.r G_S0 1113 p0.toNat 0 31 rfl rfl
                    refine zz_iald (z := S0 1113 p0.toNat) zd_14_108_225 zT_1113 rfl (zz_ltn hn rfl) (by decide) (by omega) (zz_rc fS255 (zz_nc1 rfl) rfl (fun h => h) (zz_rc fS250 (zz_nc1 rfl) rfl (fun h => h) (zz_rc fS213 (zz_nc1 rfl) rfl (fun h => h) (zz_rc fS207 (zz_nc1 rfl) rfl (fun h => h) (zz_rc fS202 (zz_nc1 rfl) rfl (fun h => h) (zz_rc fS195 (zz_nc1 rfl) rfl (fun h => h) (zz_rc fS189 (zz_nc1 rfl) rfl (fun h => h) (zz_rc fS183 (zz_nc1 rfl) rfl (fun h => h) (zz_rc fS178 (zz_nc1 rfl) rfl (fun h => h) (zz_rc fS172 (zz_nc1 rfl) rfl (fun h => h) (zz_rc fS166 (zz_nc1 rfl) rfl (fun h => h) (zz_rc fS160 (zz_nc1 rfl) rfl (fun h => h) rfl)))))))))))) ?_
                    refine zz_bipush (by decide) zd_14_108_226 ?_
                    refine zz_irem (by omega) (by omega) zd_14_108_228 (fun v260 hv260 av260 bv260 cv260 => ?_)
                    refine zz_if_le (by omega) zd_14_108_229 (fun c261 => ?_) (fun c261 => ?_)
                    · refine zz_aload_n (x := 1079) rfl zd_14_108_252 ?_
                      refine zz_getr (kd := 0) (z := 1113) zd_14_108_253 zf_Md_121 zT_1079 rfl (zz_ltn hn rfl) (zz_G.eq G_S255 1079 48 1113 rfl rfl) (by decide) 1113 rfl ?_
                      refine zz_iload_n (x := p0) rfl zd_14_108_256 ?_
                      refine zz_iald (z := S0 1113 p0.toNat) zd_14_108_257 zT_1113 rfl (zz_ltn hn rfl) (by decide) (by omega) (zz_rc fS255 (zz_nc1 rfl) rfl (fun h => h) (zz_rc fS250 (zz_nc1 rfl) rfl (fun h => h) (zz_rc fS213 (zz_nc1 rfl) rfl (fun h => h) (zz_rc fS207 (zz_nc1 rfl) rfl (fun h => h) (zz_rc fS202 (zz_nc1 rfl) rfl (fun h => h) (zz_rc fS195 (zz_nc1 rfl) rfl (fun h => h) (zz_rc fS189 (zz_nc1 rfl) rfl (fun h => h) (zz_rc fS183 (zz_nc1 rfl) rfl (fun h => h) (zz_rc fS178 (zz_nc1 rfl) rfl (fun h => h) (zz_rc fS172 (zz_nc1 rfl) rfl (fun h => h) (zz_rc fS166 (zz_nc1 rfl) rfl (fun h => h) (zz_rc fS160 (zz_nc1 rfl) rfl (fun h => h) rfl)))))))))))) ?_
                      refine zz_bipush (by decide) zd_14_108_258 ?_
                      refine zz_icmp_le (by omega) (by omega) zd_14_108_260 (fun c262 => ?_) (fun c262 => ?_)
                      · exact zz_vret zd_14_108_270 rfl (Nat.zero_le _) (Nat.zero_le _) ⟨_, rfl, G_S255, F_S255⟩
                      · refine zz_aload_n (x := 1079) rfl zd_14_108_263 ?_
                        refine zz_ldc2 (z := 700594) zq_Md_546 (by decide) zd_14_108_264 ?_
                        have g263 := zz_G.r G_S255 1079 34 0 200 rfl rfl
                        refine zz_callVV [zl 700594] zd_14_108_267 zk_Md_604 zT_1079 (zz_ltn hn rfl) rfl rfl ⟨Nat.le_of_ble_eq_true rfl, Nat.le_of_ble_eq_true rfl⟩ ⟨rfl, rfl⟩ (Nat.zero_le _) (Nat.zero_le _) (zc_sayCode_14_106 700594 S255 n hn G_S255 (by omega) (by omega) (by omega)) (fun S264 hP => ?_)
                        obtain ⟨G_S264, fS264, o266, o267⟩ := hP
                        have F_S264 := zz_fr.trans F_S255 fS264 rfl zz_nv
                        exact zz_vret zd_14_108_270 rfl (Nat.zero_le _) (Nat.zero_le _) ⟨_, rfl, G_S264, F_S264⟩
                    · refine zz_aload_n (x := 1079) rfl zd_14_108_232 ?_
                      refine zz_ldc2 (z := 21177619) zq_Md_544 (by decide) zd_14_108_233 ?_
                      have g268 := zz_G.r G_S255 1079 34 0 200 rfl rfl
                      refine zz_callVV [zl 21177619] zd_14_108_236 zk_Md_604 zT_1079 (zz_ltn hn rfl) rfl rfl ⟨Nat.le_of_ble_eq_true rfl, Nat.le_of_ble_eq_true rfl⟩ ⟨rfl, rfl⟩ (Nat.zero_le _) (Nat.zero_le _) (zc_sayCode_14_106 21177619 S255 n hn G_S255 (by omega) (by omega) (by omega)) (fun S269 hP => ?_)
                      obtain ⟨G_S269, fS269, o271, o272⟩ := hP
                      have F_S269 := zz_fr.trans F_S255 fS269 rfl zz_nv
                      refine zz_aload_n (x := 1079) rfl zd_14_108_239 ?_
                      refine zz_aload_n (x := 1079) rfl zd_14_108_240 ?_
                      refine zz_getr (kd := 0) (z := 1113) zd_14_108_241 zf_Md_121 zT_1079 rfl (zz_ltn hn rfl) (zz_G.eq G_S269 1079 48 1113 rfl rfl) (by decide) 1113 rfl ?_
                      refine zz_iload_n (x := p0) rfl zd_14_108_244 ?_
                      refine zz_iald (z := S0 1113 p0.toNat) zd_14_108_245 zT_1113 rfl (zz_ltn hn rfl) (by decide) (by omega) (zz_rc fS269 (zz_nc1 rfl) rfl (fun h => h) (zz_rc fS255 (zz_nc1 rfl) rfl (fun h => h) (zz_rc fS250 (zz_nc1 rfl) rfl (fun h => h) (zz_rc fS213 (zz_nc1 rfl) rfl (fun h => h) (zz_rc fS207 (zz_nc1 rfl) rfl (fun h => h) (zz_rc fS202 (zz_nc1 rfl) rfl (fun h => h) (zz_rc fS195 (zz_nc1 rfl) rfl (fun h => h) (zz_rc fS189 (zz_nc1 rfl) rfl (fun h => h) (zz_rc fS183 (zz_nc1 rfl) rfl (fun h => h) (zz_rc fS178 (zz_nc1 rfl) rfl (fun h => h) (zz_rc fS172 (zz_nc1 rfl) rfl (fun h => h) (zz_rc fS166 (zz_nc1 rfl) rfl (fun h => h) (zz_rc fS160 (zz_nc1 rfl) rfl (fun h => h) rfl))))))))))))) ?_
                      refine zz_bipush (by decide) zd_14_108_246 ?_
                      refine zz_irem (by omega) (by omega) zd_14_108_248 (fun v273 hv273 av273 bv273 cv273 => ?_)
                      have g274 := zz_G.r G_S269 1079 34 0 200 rfl rfl
                      refine zz_callVV [zi v273] zd_14_108_249 zk_Md_607 zT_1079 (zz_ltn hn rfl) rfl rfl ⟨Nat.le_of_ble_eq_true rfl, Nat.le_of_ble_eq_true rfl⟩ ⟨rfl, rfl⟩ (Nat.zero_le _) (Nat.zero_le _) (zc_sayCount_14_107 v273 S269 n hn G_S269 (by omega) (by omega)) (fun S275 hP => ?_)
                      obtain ⟨G_S275, fS275, o277, o278⟩ := hP
                      have F_S275 := zz_fr.trans F_S269 fS275 rfl zz_nv
                      refine zz_aload_n (x := 1079) rfl zd_14_108_252 ?_
                      refine zz_getr (kd := 0) (z := 1113) zd_14_108_253 zf_Md_121 zT_1079 rfl (zz_ltn hn rfl) (zz_G.eq G_S275 1079 48 1113 rfl rfl) (by decide) 1113 rfl ?_
                      refine zz_iload_n (x := p0) rfl zd_14_108_256 ?_
                      refine zz_iald (z := S0 1113 p0.toNat) zd_14_108_257 zT_1113 rfl (zz_ltn hn rfl) (by decide) (by omega) (zz_rc fS275 (zz_nc1 rfl) rfl (fun h => h) (zz_rc fS269 (zz_nc1 rfl) rfl (fun h => h) (zz_rc fS255 (zz_nc1 rfl) rfl (fun h => h) (zz_rc fS250 (zz_nc1 rfl) rfl (fun h => h) (zz_rc fS213 (zz_nc1 rfl) rfl (fun h => h) (zz_rc fS207 (zz_nc1 rfl) rfl (fun h => h) (zz_rc fS202 (zz_nc1 rfl) rfl (fun h => h) (zz_rc fS195 (zz_nc1 rfl) rfl (fun h => h) (zz_rc fS189 (zz_nc1 rfl) rfl (fun h => h) (zz_rc fS183 (zz_nc1 rfl) rfl (fun h => h) (zz_rc fS178 (zz_nc1 rfl) rfl (fun h => h) (zz_rc fS172 (zz_nc1 rfl) rfl (fun h => h) (zz_rc fS166 (zz_nc1 rfl) rfl (fun h => h) (zz_rc fS160 (zz_nc1 rfl) rfl (fun h => h) rfl)))))))))))))) ?_
                      refine zz_bipush (by decide) zd_14_108_258 ?_
                      refine zz_icmp_le (by omega) (by omega) zd_14_108_260 (fun c279 => ?_) (fun c279 => ?_)
                      · exact zz_vret zd_14_108_270 rfl (Nat.zero_le _) (Nat.zero_le _) ⟨_, rfl, G_S275, F_S275⟩
                      · refine zz_aload_n (x := 1079) rfl zd_14_108_263 ?_
                        refine zz_ldc2 (z := 700594) zq_Md_546 (by decide) zd_14_108_264 ?_
                        have g280 := zz_G.r G_S275 1079 34 0 200 rfl rfl
                        refine zz_callVV [zl 700594] zd_14_108_267 zk_Md_604 zT_1079 (zz_ltn hn rfl) rfl rfl ⟨Nat.le_of_ble_eq_true rfl, Nat.le_of_ble_eq_true rfl⟩ ⟨rfl, rfl⟩ (Nat.zero_le _) (Nat.zero_le _) (zc_sayCode_14_106 700594 S275 n hn G_S275 (by omega) (by omega) (by omega)) (fun S281 hP => ?_)
                        obtain ⟨G_S281, fS281, o283, o284⟩ := hP
                        have F_S281 := zz_fr.trans F_S275 fS281 rfl zz_nv
                        exact zz_vret zd_14_108_270 rfl (Nat.zero_le _) (Nat.zero_le _) ⟨_, rfl, G_S281, F_S281⟩
              · refine zz_aload_n (x := 1079) rfl zd_14_108_173 ?_
                refine zz_ldc2 (z := 530067) zq_Md_171 (by decide) zd_14_108_174 ?_
                have g285 := zz_G.r G_S213 1079 34 0 200 rfl rfl
                refine zz_callVV [zl 530067] zd_14_108_177 zk_Md_604 zT_1079 (zz_ltn hn rfl) rfl rfl ⟨Nat.le_of_ble_eq_true rfl, Nat.le_of_ble_eq_true rfl⟩ ⟨rfl, rfl⟩ (Nat.zero_le _) (Nat.zero_le _) (zc_sayCode_14_106 530067 S213 n hn G_S213 (by omega) (by omega) (by omega)) (fun S286 hP => ?_)
                obtain ⟨G_S286, fS286, o288, o289⟩ := hP
                have F_S286 := zz_fr.trans F_S213 fS286 rfl zz_nv
                refine zz_aload_n (x := 1079) rfl zd_14_108_180 ?_
                refine zz_aload_n (x := 1079) rfl zd_14_108_181 ?_
                refine zz_getr (kd := 0) (z := 1111) zd_14_108_182 zf_Md_115 zT_1079 rfl (zz_ltn hn rfl) (zz_G.eq G_S286 1079 46 1111 rfl rfl) (by decide) 1111 rfl ?_
                refine zz_iload_n (x := p0) rfl zd_14_108_185 ?_
                refine zz_iald (z := S0 1111 p0.toNat) zd_14_108_186 zT_1111 rfl (zz_ltn hn rfl) (by decide) (by omega) (zz_rc fS286 (zz_nc1 rfl) rfl (fun h => h) (zz_rc fS213 (zz_nc1 rfl) rfl (fun h => h) (zz_rc fS207 (zz_nc1 rfl) rfl (fun h => h) (zz_rc fS202 (zz_nc1 rfl) rfl (fun h => h) (zz_rc fS195 (zz_nc1 rfl) rfl (fun h => h) (zz_rc fS189 (zz_nc1 rfl) rfl (fun h => h) (zz_rc fS183 (zz_nc1 rfl) rfl (fun h => h) (zz_rc fS178 (zz_nc1 rfl) rfl (fun h => h) (zz_rc fS172 (zz_nc1 rfl) rfl (fun h => h) (zz_rc fS166 (zz_nc1 rfl) rfl (fun h => h) (zz_rc fS160 (zz_nc1 rfl) rfl (fun h => h) rfl))))))))))) ?_
                have g290 := zz_G.r G_S286 1079 34 0 200 rfl rfl
                refine zz_callVV [zi (S0 1111 p0.toNat)] zd_14_108_187 zk_Md_607 zT_1079 (zz_ltn hn rfl) rfl rfl ⟨Nat.le_of_ble_eq_true rfl, Nat.le_of_ble_eq_true rfl⟩ ⟨rfl, rfl⟩ (Nat.zero_le _) (Nat.zero_le _) (zc_sayCount_14_107 (S0 1111 p0.toNat) S286 n hn G_S286 (by omega) (by omega)) (fun S291 hP => ?_)
                obtain ⟨G_S291, fS291, o293, o294⟩ := hP
                have F_S291 := zz_fr.trans F_S286 fS291 rfl zz_nv
                refine zz_iload_n (x := 1) rfl zd_14_108_190 ?_
                refine zz_if_eq (by omega) zd_14_108_191 (fun c295 => ?_) (fun c295 => ?_)
                · exfalso; omega
                · refine zz_aload_n (x := 1079) rfl zd_14_108_194 ?_
                  refine zz_getr (kd := 0) (z := 1112) zd_14_108_195 zf_Md_118 zT_1079 rfl (zz_ltn hn rfl) (zz_G.eq G_S291 1079 47 1112 rfl rfl) (by decide) 1112 rfl ?_
                  refine zz_iload_n (x := p0) rfl zd_14_108_198 ?_
                  have g296 := zz_G.r G_S0 1112 p0.toNat 0 1 rfl rfl
                  refine zz_iald (z := S0 1112 p0.toNat) zd_14_108_199 zT_1112 rfl (zz_ltn hn rfl) (by decide) (by omega) (zz_rc fS291 (zz_nc1 rfl) rfl (fun h => h) (zz_rc fS286 (zz_nc1 rfl) rfl (fun h => h) (zz_rc fS213 (zz_nc1 rfl) rfl (fun h => h) (zz_rc fS207 (zz_nc1 rfl) rfl (fun h => h) (zz_rc fS202 (zz_nc1 rfl) rfl (fun h => h) (zz_rc fS195 (zz_nc1 rfl) rfl (fun h => h) (zz_rc fS189 (zz_nc1 rfl) rfl (fun h => h) (zz_rc fS183 (zz_nc1 rfl) rfl (fun h => h) (zz_rc fS178 (zz_nc1 rfl) rfl (fun h => h) (zz_rc fS172 (zz_nc1 rfl) rfl (fun h => h) (zz_rc fS166 (zz_nc1 rfl) rfl (fun h => h) (zz_rc fS160 (zz_nc1 rfl) rfl (fun h => h) rfl)))))))))))) ?_
                  refine zz_if_le (by omega) zd_14_108_200 (fun c297 => ?_) (fun c297 => ?_)
                  · refine zz_aload_n (x := 1079) rfl zd_14_108_220 ?_
                    refine zz_getr (kd := 0) (z := 1113) zd_14_108_221 zf_Md_121 zT_1079 rfl (zz_ltn hn rfl) (zz_G.eq G_S291 1079 48 1113 rfl rfl) (by decide) 1113 rfl ?_
                    refine zz_iload_n (x := p0) rfl zd_14_108_224 ?_
                    have g298 := zz_G.r G_S0 1113 p0.toNat 0 31 rfl rfl
                    refine zz_iald (z := S0 1113 p0.toNat) zd_14_108_225 zT_1113 rfl (zz_ltn hn rfl) (by decide) (by omega) (zz_rc fS291 (zz_nc1 rfl) rfl (fun h => h) (zz_rc fS286 (zz_nc1 rfl) rfl (fun h => h) (zz_rc fS213 (zz_nc1 rfl) rfl (fun h => h) (zz_rc fS207 (zz_nc1 rfl) rfl (fun h => h) (zz_rc fS202 (zz_nc1 rfl) rfl (fun h => h) (zz_rc fS195 (zz_nc1 rfl) rfl (fun h => h) (zz_rc fS189 (zz_nc1 rfl) rfl (fun h => h) (zz_rc fS183 (zz_nc1 rfl) rfl (fun h => h) (zz_rc fS178 (zz_nc1 rfl) rfl (fun h => h) (zz_rc fS172 (zz_nc1 rfl) rfl (fun h => h) (zz_rc fS166 (zz_nc1 rfl) rfl (fun h => h) (zz_rc fS160 (zz_nc1 rfl) rfl (fun h => h) rfl)))))))))))) ?_
                    refine zz_bipush (by decide) zd_14_108_226 ?_
                    refine zz_irem (by omega) (by omega) zd_14_108_228 (fun v299 hv299 av299 bv299 cv299 => ?_)
                    refine zz_if_le (by omega) zd_14_108_229 (fun c300 => ?_) (fun c300 => ?_)
                    · refine zz_aload_n (x := 1079) rfl zd_14_108_252 ?_
                      refine zz_getr (kd := 0) (z := 1113) zd_14_108_253 zf_Md_121 zT_1079 rfl (zz_ltn hn rfl) (zz_G.eq G_S291 1079 48 1113 rfl rfl) (by decide) 1113 rfl ?_
                      refine zz_iload_n (x := p0) rfl zd_14_108_256 ?_
                      refine zz_iald (z := S0 1113 p0.toNat) zd_14_108_257 zT_1113 rfl (zz_ltn hn rfl) (by decide) (by omega) (zz_rc fS291 (zz_nc1 rfl) rfl (fun h => h) (zz_rc fS286 (zz_nc1 rfl) rfl (fun h => h) (zz_rc fS213 (zz_nc1 rfl) rfl (fun h => h) (zz_rc fS207 (zz_nc1 rfl) rfl (fun h => h) (zz_rc fS202 (zz_nc1 rfl) rfl (fun h => h) (zz_rc fS195 (zz_nc1 rfl) rfl (fun h => h) (zz_rc fS189 (zz_nc1 rfl) rfl (fun h => h) (zz_rc fS183 (zz_nc1 rfl) rfl (fun h => h) (zz_rc fS178 (zz_nc1 rfl) rfl (fun h => h) (zz_rc fS172 (zz_nc1 rfl) rfl (fun h => h) (zz_rc fS166 (zz_nc1 rfl) rfl (fun h => h) (zz_rc fS160 (zz_nc1 rfl) rfl (fun h => h) rfl)))))))))))) ?_
                      refine zz_bipush (by decide) zd_14_108_258 ?_
                      refine zz_icmp_le (by omega) (by omega) zd_14_108_260 (fun c301 => ?_) (fun c301 => ?_)
                      · exact zz_vret zd_14_108_270 rfl (Nat.zero_le _) (Nat.zero_le _) ⟨_, rfl, G_S291, F_S291⟩
                      · refine zz_aload_n (x := 1079) rfl zd_14_108_263 ?_
                        refine zz_ldc2 (z := 700594) zq_Md_546 (by decide) zd_14_108_264 ?_
                        have g302 := zz_G.r G_S291 1079 34 0 200 rfl rfl
                        refine zz_callVV [zl 700594] zd_14_108_267 zk_Md_604 zT_1079 (zz_ltn hn rfl) rfl rfl ⟨Nat.le_of_ble_eq_true rfl, Nat.le_of_ble_eq_true rfl⟩ ⟨rfl, rfl⟩ (Nat.zero_le _) (Nat.zero_le _) (zc_sayCode_14_106 700594 S291 n hn G_S291 (by omega) (by omega) (by omega)) (fun S303 hP => ?_)
                        obtain ⟨G_S303, fS303, o305, o306⟩ := hP
                        have F_S303 := zz_fr.trans F_S291 fS303 rfl zz_nv
                        exact zz_vret zd_14_108_270 rfl (Nat.zero_le _) (Nat.zero_le _) ⟨_, rfl, G_S303, F_S303⟩
                    · refine zz_aload_n (x := 1079) rfl zd_14_108_232 ?_
                      refine zz_ldc2 (z := 21177619) zq_Md_544 (by decide) zd_14_108_233 ?_
                      have g307 := zz_G.r G_S291 1079 34 0 200 rfl rfl
                      refine zz_callVV [zl 21177619] zd_14_108_236 zk_Md_604 zT_1079 (zz_ltn hn rfl) rfl rfl ⟨Nat.le_of_ble_eq_true rfl, Nat.le_of_ble_eq_true rfl⟩ ⟨rfl, rfl⟩ (Nat.zero_le _) (Nat.zero_le _) (zc_sayCode_14_106 21177619 S291 n hn G_S291 (by omega) (by omega) (by omega)) (fun S308 hP => ?_)
                      obtain ⟨G_S308, fS308, o310, o311⟩ := hP
                      have F_S308 := zz_fr.trans F_S291 fS308 rfl zz_nv
                      refine zz_aload_n (x := 1079) rfl zd_14_108_239 ?_
                      refine zz_aload_n (x := 1079) rfl zd_14_108_240 ?_
                      refine zz_getr (kd := 0) (z := 1113) zd_14_108_241 zf_Md_121 zT_1079 rfl (zz_ltn hn rfl) (zz_G.eq G_S308 1079 48 1113 rfl rfl) (by decide) 1113 rfl ?_
                      refine zz_iload_n (x := p0) rfl zd_14_108_244 ?_
                      refine zz_iald (z := S0 1113 p0.toNat) zd_14_108_245 zT_1113 rfl (zz_ltn hn rfl) (by decide) (by omega) (zz_rc fS308 (zz_nc1 rfl) rfl (fun h => h) (zz_rc fS291 (zz_nc1 rfl) rfl (fun h => h) (zz_rc fS286 (zz_nc1 rfl) rfl (fun h => h) (zz_rc fS213 (zz_nc1 rfl) rfl (fun h => h) (zz_rc fS207 (zz_nc1 rfl) rfl (fun h => h) (zz_rc fS202 (zz_nc1 rfl) rfl (fun h => h) (zz_rc fS195 (zz_nc1 rfl) rfl (fun h => h) (zz_rc fS189 (zz_nc1 rfl) rfl (fun h => h) (zz_rc fS183 (zz_nc1 rfl) rfl (fun h => h) (zz_rc fS178 (zz_nc1 rfl) rfl (fun h => h) (zz_rc fS172 (zz_nc1 rfl) rfl (fun h => h) (zz_rc fS166 (zz_nc1 rfl) rfl (fun h => h) (zz_rc fS160 (zz_nc1 rfl) rfl (fun h => h) rfl))))))))))))) ?_
                      refine zz_bipush (by decide) zd_14_108_246 ?_
                      refine zz_irem (by omega) (by omega) zd_14_108_248 (fun v312 hv312 av312 bv312 cv312 => ?_)
                      have g313 := zz_G.r G_S308 1079 34 0 200 rfl rfl
                      refine zz_callVV [zi v312] zd_14_108_249 zk_Md_607 zT_1079 (zz_ltn hn rfl) rfl rfl ⟨Nat.le_of_ble_eq_true rfl, Nat.le_of_ble_eq_true rfl⟩ ⟨rfl, rfl⟩ (Nat.zero_le _) (Nat.zero_le _) (zc_sayCount_14_107 v312 S308 n hn G_S308 (by omega) (by omega)) (fun S314 hP => ?_)
                      obtain ⟨G_S314, fS314, o316, o317⟩ := hP
                      have F_S314 := zz_fr.trans F_S308 fS314 rfl zz_nv
                      refine zz_aload_n (x := 1079) rfl zd_14_108_252 ?_
                      refine zz_getr (kd := 0) (z := 1113) zd_14_108_253 zf_Md_121 zT_1079 rfl (zz_ltn hn rfl) (zz_G.eq G_S314 1079 48 1113 rfl rfl) (by decide) 1113 rfl ?_
                      refine zz_iload_n (x := p0) rfl zd_14_108_256 ?_
                      refine zz_iald (z := S0 1113 p0.toNat) zd_14_108_257 zT_1113 rfl (zz_ltn hn rfl) (by decide) (by omega) (zz_rc fS314 (zz_nc1 rfl) rfl (fun h => h) (zz_rc fS308 (zz_nc1 rfl) rfl (fun h => h) (zz_rc fS291 (zz_nc1 rfl) rfl (fun h => h) (zz_rc fS286 (zz_nc1 rfl) rfl (fun h => h) (zz_rc fS213 (zz_nc1 rfl) rfl (fun h => h) (zz_rc fS207 (zz_nc1 rfl) rfl (fun h => h) (zz_rc fS202 (zz_nc1 rfl) rfl (fun h => h) (zz_rc fS195 (zz_nc1 rfl) rfl (fun h => h) (zz_rc fS189 (zz_nc1 rfl) rfl (fun h => h) (zz_rc fS183 (zz_nc1 rfl) rfl (fun h => h) (zz_rc fS178 (zz_nc1 rfl) rfl (fun h => h) (zz_rc fS172 (zz_nc1 rfl) rfl (fun h => h) (zz_rc fS166 (zz_nc1 rfl) rfl (fun h => h) (zz_rc fS160 (zz_nc1 rfl) rfl (fun h => h) rfl)))))))))))))) ?_
                      refine zz_bipush (by decide) zd_14_108_258 ?_
                      refine zz_icmp_le (by omega) (by omega) zd_14_108_260 (fun c318 => ?_) (fun c318 => ?_)
                      · exact zz_vret zd_14_108_270 rfl (Nat.zero_le _) (Nat.zero_le _) ⟨_, rfl, G_S314, F_S314⟩
                      · refine zz_aload_n (x := 1079) rfl zd_14_108_263 ?_
                        refine zz_ldc2 (z := 700594) zq_Md_546 (by decide) zd_14_108_264 ?_
                        have g319 := zz_G.r G_S314 1079 34 0 200 rfl rfl
                        refine zz_callVV [zl 700594] zd_14_108_267 zk_Md_604 zT_1079 (zz_ltn hn rfl) rfl rfl ⟨Nat.le_of_ble_eq_true rfl, Nat.le_of_ble_eq_true rfl⟩ ⟨rfl, rfl⟩ (Nat.zero_le _) (Nat.zero_le _) (zc_sayCode_14_106 700594 S314 n hn G_S314 (by omega) (by omega) (by omega)) (fun S320 hP => ?_)
                        obtain ⟨G_S320, fS320, o322, o323⟩ := hP
                        have F_S320 := zz_fr.trans F_S314 fS320 rfl zz_nv
                        exact zz_vret zd_14_108_270 rfl (Nat.zero_le _) (Nat.zero_le _) ⟨_, rfl, G_S320, F_S320⟩
                  · refine zz_aload_n (x := 1079) rfl zd_14_108_203 ?_
                    refine zz_ldc2 (z := 171141) zq_Md_542 (by decide) zd_14_108_204 ?_
                    have g324 := zz_G.r G_S291 1079 34 0 200 rfl rfl
                    refine zz_callVV [zl 171141] zd_14_108_207 zk_Md_604 zT_1079 (zz_ltn hn rfl) rfl rfl ⟨Nat.le_of_ble_eq_true rfl, Nat.le_of_ble_eq_true rfl⟩ ⟨rfl, rfl⟩ (Nat.zero_le _) (Nat.zero_le _) (zc_sayCode_14_106 171141 S291 n hn G_S291 (by omega) (by omega) (by omega)) (fun S325 hP => ?_)
                    obtain ⟨G_S325, fS325, o327, o328⟩ := hP
                    have F_S325 := zz_fr.trans F_S291 fS325 rfl zz_nv
                    refine zz_aload_n (x := 1079) rfl zd_14_108_210 ?_
                    refine zz_aload_n (x := 1079) rfl zd_14_108_211 ?_
                    refine zz_getr (kd := 0) (z := 1112) zd_14_108_212 zf_Md_118 zT_1079 rfl (zz_ltn hn rfl) (zz_G.eq G_S325 1079 47 1112 rfl rfl) (by decide) 1112 rfl ?_
                    refine zz_iload_n (x := p0) rfl zd_14_108_215 ?_
                    refine zz_iald (z := S0 1112 p0.toNat) zd_14_108_216 zT_1112 rfl (zz_ltn hn rfl) (by decide) (by omega) (zz_rc fS325 (zz_nc1 rfl) rfl (fun h => h) (zz_rc fS291 (zz_nc1 rfl) rfl (fun h => h) (zz_rc fS286 (zz_nc1 rfl) rfl (fun h => h) (zz_rc fS213 (zz_nc1 rfl) rfl (fun h => h) (zz_rc fS207 (zz_nc1 rfl) rfl (fun h => h) (zz_rc fS202 (zz_nc1 rfl) rfl (fun h => h) (zz_rc fS195 (zz_nc1 rfl) rfl (fun h => h) (zz_rc fS189 (zz_nc1 rfl) rfl (fun h => h) (zz_rc fS183 (zz_nc1 rfl) rfl (fun h => h) (zz_rc fS178 (zz_nc1 rfl) rfl (fun h => h) (zz_rc fS172 (zz_nc1 rfl) rfl (fun h => h) (zz_rc fS166 (zz_nc1 rfl) rfl (fun h => h) (zz_rc fS160 (zz_nc1 rfl) rfl (fun h => h) rfl))))))))))))) ?_
                    have g329 := zz_G.r G_S325 1079 34 0 200 rfl rfl
                    refine zz_callVV [zi (S0 1112 p0.toNat)] zd_14_108_217 zk_Md_607 zT_1079 (zz_ltn hn rfl) rfl rfl ⟨Nat.le_of_ble_eq_true rfl, Nat.le_of_ble_eq_true rfl⟩ ⟨rfl, rfl⟩ (Nat.zero_le _) (Nat.zero_le _) (zc_sayCount_14_107 (S0 1112 p0.toNat) S325 n hn G_S325 (by omega) (by omega)) (fun S330 hP => ?_)
                    obtain ⟨G_S330, fS330, o332, o333⟩ := hP
                    have F_S330 := zz_fr.trans F_S325 fS330 rfl zz_nv
                    refine zz_aload_n (x := 1079) rfl zd_14_108_220 ?_
                    refine zz_getr (kd := 0) (z := 1113) zd_14_108_221 zf_Md_121 zT_1079 rfl (zz_ltn hn rfl) (zz_G.eq G_S330 1079 48 1113 rfl rfl) (by decide) 1113 rfl ?_
                    refine zz_iload_n (x := p0) rfl zd_14_108_224 ?_
                    have g334 := zz_G.r G_S0 1113 p0.toNat 0 31 rfl rfl
                    refine zz_iald (z := S0 1113 p0.toNat) zd_14_108_225 zT_1113 rfl (zz_ltn hn rfl) (by decide) (by omega) (zz_rc fS330 (zz_nc1 rfl) rfl (fun h => h) (zz_rc fS325 (zz_nc1 rfl) rfl (fun h => h) (zz_rc fS291 (zz_nc1 rfl) rfl (fun h => h) (zz_rc fS286 (zz_nc1 rfl) rfl (fun h => h) (zz_rc fS213 (zz_nc1 rfl) rfl (fun h => h) (zz_rc fS207 (zz_nc1 rfl) rfl (fun h => h) (zz_rc fS202 (zz_nc1 rfl) rfl (fun h => h) (zz_rc fS195 (zz_nc1 rfl) rfl (fun h => h) (zz_rc fS189 (zz_nc1 rfl) rfl (fun h => h) (zz_rc fS183 (zz_nc1 rfl) rfl (fun h => h) (zz_rc fS178 (zz_nc1 rfl) rfl (fun h => h) (zz_rc fS172 (zz_nc1 rfl) rfl (fun h => h) (zz_rc fS166 (zz_nc1 rfl) rfl (fun h => h) (zz_rc fS160 (zz_nc1 rfl) rfl (fun h => h) rfl)))))))))))))) ?_
                    refine zz_bipush (by decide) zd_14_108_226 ?_
                    refine zz_irem (by omega) (by omega) zd_14_108_228 (fun v335 hv335 av335 bv335 cv335 => ?_)
                    refine zz_if_le (by omega) zd_14_108_229 (fun c336 => ?_) (fun c336 => ?_)
                    · refine zz_aload_n (x := 1079) rfl zd_14_108_252 ?_
                      refine zz_getr (kd := 0) (z := 1113) zd_14_108_253 zf_Md_121 zT_1079 rfl (zz_ltn hn rfl) (zz_G.eq G_S330 1079 48 1113 rfl rfl) (by decide) 1113 rfl ?_
                      refine zz_iload_n (x := p0) rfl zd_14_108_256 ?_
                      refine zz_iald (z := S0 1113 p0.toNat) zd_14_108_257 zT_1113 rfl (zz_ltn hn rfl) (by decide) (by omega) (zz_rc fS330 (zz_nc1 rfl) rfl (fun h => h) (zz_rc fS325 (zz_nc1 rfl) rfl (fun h => h) (zz_rc fS291 (zz_nc1 rfl) rfl (fun h => h) (zz_rc fS286 (zz_nc1 rfl) rfl (fun h => h) (zz_rc fS213 (zz_nc1 rfl) rfl (fun h => h) (zz_rc fS207 (zz_nc1 rfl) rfl (fun h => h) (zz_rc fS202 (zz_nc1 rfl) rfl (fun h => h) (zz_rc fS195 (zz_nc1 rfl) rfl (fun h => h) (zz_rc fS189 (zz_nc1 rfl) rfl (fun h => h) (zz_rc fS183 (zz_nc1 rfl) rfl (fun h => h) (zz_rc fS178 (zz_nc1 rfl) rfl (fun h => h) (zz_rc fS172 (zz_nc1 rfl) rfl (fun h => h) (zz_rc fS166 (zz_nc1 rfl) rfl (fun h => h) (zz_rc fS160 (zz_nc1 rfl) rfl (fun h => h) rfl)))))))))))))) ?_
                      refine zz_bipush (by decide) zd_14_108_258 ?_
                      refine zz_icmp_le (by omega) (by omega) zd_14_108_260 (fun c337 => ?_) (fun c337 => ?_)
                      · exact zz_vret zd_14_108_270 rfl (Nat.zero_le _) (Nat.zero_le _) ⟨_, rfl, G_S330, F_S330⟩
                      · refine zz_aload_n (x := 1079) rfl zd_14_108_263 ?_
                        refine zz_ldc2 (z := 700594) zq_Md_546 (by decide) zd_14_108_264 ?_
                        have g338 := zz_G.r G_S330 1079 34 0 200 rfl rfl
                        refine zz_callVV [zl 700594] zd_14_108_267 zk_Md_604 zT_1079 (zz_ltn hn rfl) rfl rfl ⟨Nat.le_of_ble_eq_true rfl, Nat.le_of_ble_eq_true rfl⟩ ⟨rfl, rfl⟩ (Nat.zero_le _) (Nat.zero_le _) (zc_sayCode_14_106 700594 S330 n hn G_S330 (by omega) (by omega) (by omega)) (fun S339 hP => ?_)
                        obtain ⟨G_S339, fS339, o341, o342⟩ := hP
                        have F_S339 := zz_fr.trans F_S330 fS339 rfl zz_nv
                        exact zz_vret zd_14_108_270 rfl (Nat.zero_le _) (Nat.zero_le _) ⟨_, rfl, G_S339, F_S339⟩
                    · refine zz_aload_n (x := 1079) rfl zd_14_108_232 ?_
                      refine zz_ldc2 (z := 21177619) zq_Md_544 (by decide) zd_14_108_233 ?_
                      have g343 := zz_G.r G_S330 1079 34 0 200 rfl rfl
                      refine zz_callVV [zl 21177619] zd_14_108_236 zk_Md_604 zT_1079 (zz_ltn hn rfl) rfl rfl ⟨Nat.le_of_ble_eq_true rfl, Nat.le_of_ble_eq_true rfl⟩ ⟨rfl, rfl⟩ (Nat.zero_le _) (Nat.zero_le _) (zc_sayCode_14_106 21177619 S330 n hn G_S330 (by omega) (by omega) (by omega)) (fun S344 hP => ?_)
                      obtain ⟨G_S344, fS344, o346, o347⟩ := hP
                      have F_S344 := zz_fr.trans F_S330 fS344 rfl zz_nv
                      refine zz_aload_n (x := 1079) rfl zd_14_108_239 ?_
                      refine zz_aload_n (x := 1079) rfl zd_14_108_240 ?_
                      refine zz_getr (kd := 0) (z := 1113) zd_14_108_241 zf_Md_121 zT_1079 rfl (zz_ltn hn rfl) (zz_G.eq G_S344 1079 48 1113 rfl rfl) (by decide) 1113 rfl ?_
                      refine zz_iload_n (x := p0) rfl zd_14_108_244 ?_
                      refine zz_iald (z := S0 1113 p0.toNat) zd_14_108_245 zT_1113 rfl (zz_ltn hn rfl) (by decide) (by omega) (zz_rc fS344 (zz_nc1 rfl) rfl (fun h => h) (zz_rc fS330 (zz_nc1 rfl) rfl (fun h => h) (zz_rc fS325 (zz_nc1 rfl) rfl (fun h => h) (zz_rc fS291 (zz_nc1 rfl) rfl (fun h => h) (zz_rc fS286 (zz_nc1 rfl) rfl (fun h => h) (zz_rc fS213 (zz_nc1 rfl) rfl (fun h => h) (zz_rc fS207 (zz_nc1 rfl) rfl (fun h => h) (zz_rc fS202 (zz_nc1 rfl) rfl (fun h => h) (zz_rc fS195 (zz_nc1 rfl) rfl (fun h => h) (zz_rc fS189 (zz_nc1 rfl) rfl (fun h => h) (zz_rc fS183 (zz_nc1 rfl) rfl (fun h => h) (zz_rc fS178 (zz_nc1 rfl) rfl (fun h => h) (zz_rc fS172 (zz_nc1 rfl) rfl (fun h => h) (zz_rc fS166 (zz_nc1 rfl) rfl (fun h => h) (zz_rc fS160 (zz_nc1 rfl) rfl (fun h => h) rfl))))))))))))))) ?_
                      refine zz_bipush (by decide) zd_14_108_246 ?_
                      refine zz_irem (by omega) (by omega) zd_14_108_248 (fun v348 hv348 av348 bv348 cv348 => ?_)
                      have g349 := zz_G.r G_S344 1079 34 0 200 rfl rfl
                      refine zz_callVV [zi v348] zd_14_108_249 zk_Md_607 zT_1079 (zz_ltn hn rfl) rfl rfl ⟨Nat.le_of_ble_eq_true rfl, Nat.le_of_ble_eq_true rfl⟩ ⟨rfl, rfl⟩ (Nat.zero_le _) (Nat.zero_le _) (zc_sayCount_14_107 v348 S344 n hn G_S344 (by omega) (by omega)) (fun S350 hP => ?_)
                      obtain ⟨G_S350, fS350, o352, o353⟩ := hP
                      have F_S350 := zz_fr.trans F_S344 fS350 rfl zz_nv
                      refine zz_aload_n (x := 1079) rfl zd_14_108_252 ?_
                      refine zz_getr (kd := 0) (z := 1113) zd_14_108_253 zf_Md_121 zT_1079 rfl (zz_ltn hn rfl) (zz_G.eq G_S350 1079 48 1113 rfl rfl) (by decide) 1113 rfl ?_
                      refine zz_iload_n (x := p0) rfl zd_14_108_256 ?_
                      refine zz_iald (z := S0 1113 p0.toNat) zd_14_108_257 zT_1113 rfl (zz_ltn hn rfl) (by decide) (by omega) (zz_rc fS350 (zz_nc1 rfl) rfl (fun h => h) (zz_rc fS344 (zz_nc1 rfl) rfl (fun h => h) (zz_rc fS330 (zz_nc1 rfl) rfl (fun h => h) (zz_rc fS325 (zz_nc1 rfl) rfl (fun h => h) (zz_rc fS291 (zz_nc1 rfl) rfl (fun h => h) (zz_rc fS286 (zz_nc1 rfl) rfl (fun h => h) (zz_rc fS213 (zz_nc1 rfl) rfl (fun h => h) (zz_rc fS207 (zz_nc1 rfl) rfl (fun h => h) (zz_rc fS202 (zz_nc1 rfl) rfl (fun h => h) (zz_rc fS195 (zz_nc1 rfl) rfl (fun h => h) (zz_rc fS189 (zz_nc1 rfl) rfl (fun h => h) (zz_rc fS183 (zz_nc1 rfl) rfl (fun h => h) (zz_rc fS178 (zz_nc1 rfl) rfl (fun h => h) (zz_rc fS172 (zz_nc1 rfl) rfl (fun h => h) (zz_rc fS166 (zz_nc1 rfl) rfl (fun h => h) (zz_rc fS160 (zz_nc1 rfl) rfl (fun h => h) rfl)))))))))))))))) ?_
                      refine zz_bipush (by decide) zd_14_108_258 ?_
                      refine zz_icmp_le (by omega) (by omega) zd_14_108_260 (fun c354 => ?_) (fun c354 => ?_)
                      · exact zz_vret zd_14_108_270 rfl (Nat.zero_le _) (Nat.zero_le _) ⟨_, rfl, G_S350, F_S350⟩
                      · refine zz_aload_n (x := 1079) rfl zd_14_108_263 ?_
                        refine zz_ldc2 (z := 700594) zq_Md_546 (by decide) zd_14_108_264 ?_
                        have g355 := zz_G.r G_S350 1079 34 0 200 rfl rfl
                        refine zz_callVV [zl 700594] zd_14_108_267 zk_Md_604 zT_1079 (zz_ltn hn rfl) rfl rfl ⟨Nat.le_of_ble_eq_true rfl, Nat.le_of_ble_eq_true rfl⟩ ⟨rfl, rfl⟩ (Nat.zero_le _) (Nat.zero_le _) (zc_sayCode_14_106 700594 S350 n hn G_S350 (by omega) (by omega) (by omega)) (fun S356 hP => ?_)
                        obtain ⟨G_S356, fS356, o358, o359⟩ := hP
                        have F_S356 := zz_fr.trans F_S350 fS356 rfl zz_nv
                        exact zz_vret zd_14_108_270 rfl (Nat.zero_le _) (Nat.zero_le _) ⟨_, rfl, G_S356, F_S356⟩
        · exfalso; omega
    · exfalso; omega
abbrev zy_networkSign_14_109 : mm_Y := (⟨"TensorForgeModel", "networkSign", "(II)I"⟩, prog_14_method_109_code, 3, (some .int))
theorem zyw_networkSign_14_109 : mm_Yw zy_networkSign_14_109 2 := ⟨mm_tb_1 2260 (by decide +kernel) rfl, mm_tb_1 12 (by decide +kernel) rfl, ⟨by decide, by decide⟩, by decide +kernel⟩
theorem zd_14_109_0 : zz_D zy_networkSign_14_109 0 (.aload_n 0) 1 1 := ⟨by decide +kernel, rfl⟩
theorem zd_14_109_1 : zz_D zy_networkSign_14_109 1 (.iload_n 1) 1 2 := ⟨by decide +kernel, rfl⟩
theorem zd_14_109_2 : zz_D zy_networkSign_14_109 2 (.i2l) 1 3 := ⟨by decide +kernel, rfl⟩
theorem zd_14_109_3 : zz_D zy_networkSign_14_109 3 (.lconst 0) 1 4 := ⟨by decide +kernel, rfl⟩
theorem zd_14_109_4 : zz_D zy_networkSign_14_109 4 (.aload_n 0) 1 5 := ⟨by decide +kernel, rfl⟩
theorem zd_14_109_5 : zz_D zy_networkSign_14_109 5 (.getfield 85) 3 8 := ⟨by decide +kernel, rfl⟩
theorem zd_14_109_8 : zz_D zy_networkSign_14_109 8 (.iconst 1) 1 9 := ⟨by decide +kernel, rfl⟩
theorem zd_14_109_9 : zz_D zy_networkSign_14_109 9 (.isub) 1 10 := ⟨by decide +kernel, rfl⟩
theorem zd_14_109_10 : zz_D zy_networkSign_14_109 10 (.i2l) 1 11 := ⟨by decide +kernel, rfl⟩
theorem zd_14_109_11 : zz_D zy_networkSign_14_109 11 (.invokestatic 192) 3 14 := ⟨by decide +kernel, rfl⟩
theorem zd_14_109_14 : zz_B zy_networkSign_14_109 14 (Instr.ifCond .eq) 21 17 := ⟨7, by decide +kernel, rfl, rfl⟩
theorem zd_14_109_21 : zz_D zy_networkSign_14_109 21 (.iconst 1) 1 22 := ⟨by decide +kernel, rfl⟩
theorem zd_14_109_22 : zz_B zy_networkSign_14_109 22 Instr.goto 26 25 := ⟨4, by decide +kernel, rfl, rfl⟩
theorem zd_14_109_26 : zz_D zy_networkSign_14_109 26 (.iconst 0) 1 27 := ⟨by decide +kernel, rfl⟩
theorem zd_14_109_27 : zz_D zy_networkSign_14_109 27 (.iconst 0) 1 28 := ⟨by decide +kernel, rfl⟩
theorem zd_14_109_28 : zz_D zy_networkSign_14_109 28 (.invokevirtual 196) 3 31 := ⟨by decide +kernel, rfl⟩
theorem zd_14_109_31 : zz_B zy_networkSign_14_109 31 (Instr.ifCond .eq) 36 34 := ⟨5, by decide +kernel, rfl, rfl⟩
theorem zd_14_109_34 : zz_D zy_networkSign_14_109 34 (.iconst 0) 1 35 := ⟨by decide +kernel, rfl⟩
theorem zd_14_109_35 : zz_D zy_networkSign_14_109 35 (.ireturn) 1 36 := ⟨by decide +kernel, rfl⟩
theorem zd_14_109_17 : zz_D zy_networkSign_14_109 17 (.iload_n 2) 1 18 := ⟨by decide +kernel, rfl⟩
theorem zd_14_109_18 : zz_B zy_networkSign_14_109 18 (Instr.ifCond .ge) 25 21 := ⟨7, by decide +kernel, rfl, rfl⟩
theorem zd_14_109_25 : zz_D zy_networkSign_14_109 25 (.iconst 0) 1 26 := ⟨by decide +kernel, rfl⟩
theorem zd_14_109_36 : zz_D zy_networkSign_14_109 36 (.aload_n 0) 1 37 := ⟨by decide +kernel, rfl⟩
theorem zd_14_109_37 : zz_D zy_networkSign_14_109 37 (.iconst 0) 1 38 := ⟨by decide +kernel, rfl⟩
theorem zd_14_109_38 : zz_D zy_networkSign_14_109 38 (.putfield 385) 3 41 := ⟨by decide +kernel, rfl⟩
theorem zd_14_109_41 : zz_D zy_networkSign_14_109 41 (.iload_n 1) 1 42 := ⟨by decide +kernel, rfl⟩
theorem zd_14_109_42 : zz_B zy_networkSign_14_109 42 (Instr.ifCond .ne) 99 45 := ⟨57, by decide +kernel, rfl, rfl⟩
theorem zd_14_109_99 : zz_D zy_networkSign_14_109 99 (.aload_n 0) 1 100 := ⟨by decide +kernel, rfl⟩
theorem zd_14_109_100 : zz_D zy_networkSign_14_109 100 (.iload_n 1) 1 101 := ⟨by decide +kernel, rfl⟩
theorem zd_14_109_101 : zz_D zy_networkSign_14_109 101 (.iconst 1) 1 102 := ⟨by decide +kernel, rfl⟩
theorem zd_14_109_102 : zz_D zy_networkSign_14_109 102 (.isub) 1 103 := ⟨by decide +kernel, rfl⟩
theorem zd_14_109_103 : zz_D zy_networkSign_14_109 103 (.invokevirtual 610) 3 106 := ⟨by decide +kernel, rfl⟩
theorem zk_Md_610 : mm_Vl "TensorForgeModel" 610 11 1 zy_sayLayer_14_108 := ⟨zyw_sayLayer_14_108, (R_Md, F_Md, 69), rfl, mm_tb_1 2269 (by decide +kernel) rfl, mm_tb_1 2271 (by decide +kernel) rfl, mm_tb_s 154 (by decide +kernel) rfl⟩
theorem zd_14_109_106 : zz_D zy_networkSign_14_109 106 (.aload_n 0) 1 107 := ⟨by decide +kernel, rfl⟩
theorem zd_14_109_107 : zz_D zy_networkSign_14_109 107 (.ldc2_w 407) 3 110 := ⟨by decide +kernel, rfl⟩
theorem zd_14_109_110 : zz_D zy_networkSign_14_109 110 (.invokevirtual 388) 3 113 := ⟨by decide +kernel, rfl⟩
theorem zd_14_109_113 : zz_D zy_networkSign_14_109 113 (.iload_n 2) 1 114 := ⟨by decide +kernel, rfl⟩
theorem zd_14_109_114 : zz_D zy_networkSign_14_109 114 (.aload_n 0) 1 115 := ⟨by decide +kernel, rfl⟩
theorem zd_14_109_115 : zz_D zy_networkSign_14_109 115 (.getfield 385) 3 118 := ⟨by decide +kernel, rfl⟩
theorem zd_14_109_118 : zz_B zy_networkSign_14_109 118 (Instr.if_icmp .ge) 130 121 := ⟨12, by decide +kernel, rfl, rfl⟩
theorem zd_14_109_130 : zz_D zy_networkSign_14_109 130 (.iconst (-1)) 1 131 := ⟨by decide +kernel, rfl⟩
theorem zd_14_109_131 : zz_D zy_networkSign_14_109 131 (.ireturn) 1 132 := ⟨by decide +kernel, rfl⟩
theorem zd_14_109_121 : zz_D zy_networkSign_14_109 121 (.aload_n 0) 1 122 := ⟨by decide +kernel, rfl⟩
theorem zd_14_109_122 : zz_D zy_networkSign_14_109 122 (.getfield 82) 3 125 := ⟨by decide +kernel, rfl⟩
theorem zd_14_109_125 : zz_D zy_networkSign_14_109 125 (.iload_n 2) 1 126 := ⟨by decide +kernel, rfl⟩
theorem zd_14_109_126 : zz_D zy_networkSign_14_109 126 (.iaload) 1 127 := ⟨by decide +kernel, rfl⟩
theorem zd_14_109_127 : zz_B zy_networkSign_14_109 127 Instr.goto 131 130 := ⟨4, by decide +kernel, rfl, rfl⟩
theorem zd_14_109_45 : zz_D zy_networkSign_14_109 45 (.aload_n 0) 1 46 := ⟨by decide +kernel, rfl⟩
theorem zd_14_109_46 : zz_D zy_networkSign_14_109 46 (.ldc2_w 532) 3 49 := ⟨by decide +kernel, rfl⟩
theorem zd_14_109_49 : zz_D zy_networkSign_14_109 49 (.invokevirtual 604) 3 52 := ⟨by decide +kernel, rfl⟩
theorem zd_14_109_52 : zz_D zy_networkSign_14_109 52 (.aload_n 0) 1 53 := ⟨by decide +kernel, rfl⟩
theorem zd_14_109_53 : zz_D zy_networkSign_14_109 53 (.aload_n 0) 1 54 := ⟨by decide +kernel, rfl⟩
theorem zd_14_109_54 : zz_D zy_networkSign_14_109 54 (.getfield 88) 3 57 := ⟨by decide +kernel, rfl⟩
theorem zd_14_109_57 : zz_D zy_networkSign_14_109 57 (.iconst 0) 1 58 := ⟨by decide +kernel, rfl⟩
theorem zd_14_109_58 : zz_D zy_networkSign_14_109 58 (.iaload) 1 59 := ⟨by decide +kernel, rfl⟩
theorem zd_14_109_59 : zz_D zy_networkSign_14_109 59 (.invokevirtual 607) 3 62 := ⟨by decide +kernel, rfl⟩
theorem zd_14_109_62 : zz_D zy_networkSign_14_109 62 (.aload_n 0) 1 63 := ⟨by decide +kernel, rfl⟩
theorem zd_14_109_63 : zz_D zy_networkSign_14_109 63 (.ldc2_w 167) 3 66 := ⟨by decide +kernel, rfl⟩
theorem zd_14_109_66 : zz_D zy_networkSign_14_109 66 (.invokevirtual 604) 3 69 := ⟨by decide +kernel, rfl⟩
theorem zd_14_109_69 : zz_D zy_networkSign_14_109 69 (.aload_n 0) 1 70 := ⟨by decide +kernel, rfl⟩
theorem zd_14_109_70 : zz_D zy_networkSign_14_109 70 (.aload_n 0) 1 71 := ⟨by decide +kernel, rfl⟩
theorem zd_14_109_71 : zz_D zy_networkSign_14_109 71 (.getfield 91) 3 74 := ⟨by decide +kernel, rfl⟩
theorem zd_14_109_74 : zz_D zy_networkSign_14_109 74 (.iconst 0) 1 75 := ⟨by decide +kernel, rfl⟩
theorem zd_14_109_75 : zz_D zy_networkSign_14_109 75 (.iaload) 1 76 := ⟨by decide +kernel, rfl⟩
theorem zd_14_109_76 : zz_D zy_networkSign_14_109 76 (.invokevirtual 607) 3 79 := ⟨by decide +kernel, rfl⟩
theorem zd_14_109_79 : zz_D zy_networkSign_14_109 79 (.aload_n 0) 1 80 := ⟨by decide +kernel, rfl⟩
theorem zd_14_109_80 : zz_D zy_networkSign_14_109 80 (.ldc2_w 167) 3 83 := ⟨by decide +kernel, rfl⟩
theorem zd_14_109_83 : zz_D zy_networkSign_14_109 83 (.invokevirtual 604) 3 86 := ⟨by decide +kernel, rfl⟩
theorem zd_14_109_86 : zz_D zy_networkSign_14_109 86 (.aload_n 0) 1 87 := ⟨by decide +kernel, rfl⟩
theorem zd_14_109_87 : zz_D zy_networkSign_14_109 87 (.aload_n 0) 1 88 := ⟨by decide +kernel, rfl⟩
theorem zd_14_109_88 : zz_D zy_networkSign_14_109 88 (.getfield 94) 3 91 := ⟨by decide +kernel, rfl⟩
theorem zd_14_109_91 : zz_D zy_networkSign_14_109 91 (.iconst 0) 1 92 := ⟨by decide +kernel, rfl⟩
theorem zd_14_109_92 : zz_D zy_networkSign_14_109 92 (.iaload) 1 93 := ⟨by decide +kernel, rfl⟩
theorem zd_14_109_93 : zz_D zy_networkSign_14_109 93 (.invokevirtual 607) 3 96 := ⟨by decide +kernel, rfl⟩
theorem zd_14_109_96 : zz_B zy_networkSign_14_109 96 Instr.goto 106 99 := ⟨10, by decide +kernel, rfl, rfl⟩

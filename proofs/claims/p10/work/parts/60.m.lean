-- TensorForgeModel sayNumber (I)V
abbrev zr_sayNumber_14_59 : Room := { frames := 1, cells := 0, slots := 0, locals := 14 }
def zp_sayNumber_14_59 (p0 : Int) (S0 : zz_S) : zz_S → Prop := fun S => zz_G S ∧ zz_fr [(1079, 34)] [1101] (fun _ _ => False) S0 S ∧ (S 1079 34 ≤ S0 1079 34 + 4) ∧ (S 1079 34 ≥ S0 1079 34)
theorem zb_sayNumber_14_59_4 {g : mm_G} {l : Launch} (p0 : Int) (S0 : zz_S) (n : Nat) (hn : zz_end ≤ n) (G_S0 : zz_G S0) (hp0 : (-2147483648) ≤ p0 ∧ p0 ≤ 2147483647) (hq : S0 1079 34 ≤ 195) (x2 : Int) (S : zz_S) (G_S : zz_G S) (F_S : zz_fr [(1079, 34)] [1101] (fun _ _ => False) S0 S) (i4_0 : 0 ≤ x2 ∧ x2 ≤ 1000) (i4_1 : S 1079 34 ≥ S0 1079 34) (i4_2 : (x2 = 1000 ∧ S 1079 34 ≤ S0 1079 34 + 0) ∨ (x2 = 100 ∧ S 1079 34 ≤ S0 1079 34 + 1) ∨ (x2 = 10 ∧ S 1079 34 ≤ S0 1079 34 + 2) ∨ (x2 = 1 ∧ S 1079 34 ≤ S0 1079 34 + 3) ∨ (x2 = 0 ∧ S 1079 34 ≤ S0 1079 34 + 4)) (R : Nat) (hR : x2.toNat = R) (k4 : ∀ (x2 : Int) (S : zz_S), zz_G S → zz_fr [(1079, 34)] [1101] (fun _ _ => False) S0 S → (0 ≤ x2 ∧ x2 ≤ 1000) → (S 1079 34 ≥ S0 1079 34) → ((x2 = 1000 ∧ S 1079 34 ≤ S0 1079 34 + 0) ∨ (x2 = 100 ∧ S 1079 34 ≤ S0 1079 34 + 1) ∨ (x2 = 10 ∧ S 1079 34 ≤ S0 1079 34 + 2) ∨ (x2 = 1 ∧ S 1079 34 ≤ S0 1079 34 + 3) ∨ (x2 = 0 ∧ S 1079 34 ≤ S0 1079 34 + 4)) → x2.toNat < R → zz_E g l zy_sayNumber_14_59 zr_sayNumber_14_59 (zz_QV n (zp_sayNumber_14_59 p0 S0)) S n 4 [some (.ref 1079), some (zi p0), some (zi x2)] [] 0 0) : zz_E g l zy_sayNumber_14_59 zr_sayNumber_14_59 (zz_QV n (zp_sayNumber_14_59 p0 S0)) S n 4 [some (.ref 1079), some (zi p0), some (zi x2)] [] 0 0 := by
  refine zz_iload_n (x := x2) rfl zd_14_59_4 ?_
  refine zz_if_le (by omega) zd_14_59_5 (fun c2 => ?_) (fun c2 => ?_)
  · have g3 := zz_G.r G_S 1079 34 0 200 rfl rfl
    exact zz_vret zd_14_59_41 rfl (Nat.zero_le _) (Nat.zero_le _) ⟨_, rfl, G_S, F_S, by omega, by omega⟩
  · refine zz_iload_n (x := p0) rfl zd_14_59_8 ?_
    refine zz_iload_n (x := x2) rfl zd_14_59_9 ?_
    refine zz_icmp_ge (by omega) (by omega) zd_14_59_10 (fun c4 => ?_) (fun c4 => ?_)
    · refine zz_aload_n (x := 1079) rfl zd_14_59_18 ?_
      refine zz_ldc2 (z := 48) zq_Md_350 (by decide) zd_14_59_19 ?_
      refine zz_iload_n (x := p0) rfl zd_14_59_22 ?_
      refine zz_iload_n (x := x2) rfl zd_14_59_23 ?_
      refine zz_idiv (by omega) (by omega) zd_14_59_24 (fun v5 hv5 av5 bv5 cv5 => ?_)
      have m6 := zz_divb (by omega) (by omega) av5
      refine zz_bipush (by decide) zd_14_59_25 ?_
      refine zz_irem (by omega) (by omega) zd_14_59_27 (fun v7 hv7 av7 bv7 cv7 => ?_)
      refine zz_i2l (by omega) zd_14_59_28 ?_
      refine zz_ladd zd_14_59_29 ?_
      have g8 := zz_G.r G_S 1079 34 0 200 rfl rfl
      refine zz_callVV [zl (48 + v7)] zd_14_59_30 zk_Md_388 zT_1079 (zz_ltn hn rfl) rfl rfl ⟨Nat.le_of_ble_eq_true rfl, Nat.le_of_ble_eq_true rfl⟩ ⟨rfl, rfl⟩ (Nat.zero_le _) (Nat.zero_le _) (zc_say_14_57 (48 + v7) S n hn G_S (by omega) (by omega)) (fun S9 hP => ?_)
      obtain ⟨G_S9, fS9, o11⟩ := hP
      have F_S9 := zz_fr.trans F_S fS9 rfl zz_nv
      refine zz_iload_n (x := x2) rfl zd_14_59_33 ?_
      refine zz_bipush (by decide) zd_14_59_34 ?_
      refine zz_idiv (by omega) (by omega) zd_14_59_36 (fun v12 hv12 av12 bv12 cv12 => ?_)
      refine zz_istore_n [some (.ref 1079), some (zi p0), some (zi v12)] zd_14_59_37 (by decide) rfl ?_
      refine zz_goto zd_14_59_38 ?_
      have g13 := zz_G.r G_S9 1079 34 0 200 rfl rfl
      refine zz_less (ls1 := [some (.ref 1079), some (zi p0), some (zi v12)]) ⟨rfl, ⟨rfl, ⟨rfl, trivial⟩⟩⟩ ?_
      exact k4 v12 S9 G_S9 F_S9 (by omega) (by omega) (by omega) (by omega)
    · refine zz_iload_n (x := x2) rfl zd_14_59_13 ?_
      refine zz_iconst zd_14_59_14 ?_
      refine zz_icmp_ne (by omega) (by omega) zd_14_59_15 (fun c14 => ?_) (fun c14 => ?_)
      · refine zz_iload_n (x := x2) rfl zd_14_59_33 ?_
        refine zz_bipush (by decide) zd_14_59_34 ?_
        refine zz_idiv (by omega) (by omega) zd_14_59_36 (fun v15 hv15 av15 bv15 cv15 => ?_)
        refine zz_istore_n [some (.ref 1079), some (zi p0), some (zi v15)] zd_14_59_37 (by decide) rfl ?_
        refine zz_goto zd_14_59_38 ?_
        have g16 := zz_G.r G_S 1079 34 0 200 rfl rfl
        refine zz_less (ls1 := [some (.ref 1079), some (zi p0), some (zi v15)]) ⟨rfl, ⟨rfl, ⟨rfl, trivial⟩⟩⟩ ?_
        exact k4 v15 S G_S F_S (by omega) (by omega) (by omega) (by omega)
      · refine zz_aload_n (x := 1079) rfl zd_14_59_18 ?_
        refine zz_ldc2 (z := 48) zq_Md_350 (by decide) zd_14_59_19 ?_
        refine zz_iload_n (x := p0) rfl zd_14_59_22 ?_
        refine zz_iload_n (x := x2) rfl zd_14_59_23 ?_
        refine zz_idiv (by omega) (by omega) zd_14_59_24 (fun v17 hv17 av17 bv17 cv17 => ?_)
        refine zz_bipush (by decide) zd_14_59_25 ?_
        refine zz_irem (by omega) (by omega) zd_14_59_27 (fun v18 hv18 av18 bv18 cv18 => ?_)
        refine zz_i2l (by omega) zd_14_59_28 ?_
        refine zz_ladd zd_14_59_29 ?_
        have g19 := zz_G.r G_S 1079 34 0 200 rfl rfl
        refine zz_callVV [zl (48 + v18)] zd_14_59_30 zk_Md_388 zT_1079 (zz_ltn hn rfl) rfl rfl ⟨Nat.le_of_ble_eq_true rfl, Nat.le_of_ble_eq_true rfl⟩ ⟨rfl, rfl⟩ (Nat.zero_le _) (Nat.zero_le _) (zc_say_14_57 (48 + v18) S n hn G_S (by omega) (by omega)) (fun S20 hP => ?_)
        obtain ⟨G_S20, fS20, o22⟩ := hP
        have F_S20 := zz_fr.trans F_S fS20 rfl zz_nv
        refine zz_iload_n (x := x2) rfl zd_14_59_33 ?_
        refine zz_bipush (by decide) zd_14_59_34 ?_
        refine zz_idiv (by omega) (by omega) zd_14_59_36 (fun v23 hv23 av23 bv23 cv23 => ?_)
        refine zz_istore_n [some (.ref 1079), some (zi p0), some (zi v23)] zd_14_59_37 (by decide) rfl ?_
        refine zz_goto zd_14_59_38 ?_
        have g24 := zz_G.r G_S20 1079 34 0 200 rfl rfl
        refine zz_less (ls1 := [some (.ref 1079), some (zi p0), some (zi v23)]) ⟨rfl, ⟨rfl, ⟨rfl, trivial⟩⟩⟩ ?_
        exact k4 v23 S20 G_S20 F_S20 (by omega) (by omega) (by omega) (by omega)
theorem zi_sayNumber_14_59 {g : mm_G} {l : Launch} (p0 : Int) (S0 : zz_S) (n : Nat) (hn : zz_end ≤ n) (G_S0 : zz_G S0) (hp0 : (-2147483648) ≤ p0 ∧ p0 ≤ 2147483647) (hq : S0 1079 34 ≤ 195) : ∀ N : Nat, (∀ (x2 : Int) (S : zz_S), zz_G S → zz_fr [(1079, 34)] [1101] (fun _ _ => False) S0 S → (0 ≤ x2 ∧ x2 ≤ 1000) → (S 1079 34 ≥ S0 1079 34) → ((x2 = 1000 ∧ S 1079 34 ≤ S0 1079 34 + 0) ∨ (x2 = 100 ∧ S 1079 34 ≤ S0 1079 34 + 1) ∨ (x2 = 10 ∧ S 1079 34 ≤ S0 1079 34 + 2) ∨ (x2 = 1 ∧ S 1079 34 ≤ S0 1079 34 + 3) ∨ (x2 = 0 ∧ S 1079 34 ≤ S0 1079 34 + 4)) → x2.toNat < N → zz_E g l zy_sayNumber_14_59 zr_sayNumber_14_59 (zz_QV n (zp_sayNumber_14_59 p0 S0)) S n 4 [some (.ref 1079), some (zi p0), some (zi x2)] [] 0 0) := by
  intro N
  induction N with
  | zero => exact fun x2 S _ _ _ _ _ h => absurd h (Nat.not_lt_zero _)
  | succ N ih =>
    exact fun x2 S a b j0 j1 j2 hR => zb_sayNumber_14_59_4 p0 S0 n hn G_S0 hp0 hq x2 S a b j0 j1 j2 _ rfl (fun x2 S a b j0 j1 j2 h => ih x2 S a b j0 j1 j2 (Nat.lt_of_lt_of_le h (Nat.le_of_lt_succ hR)))
theorem zc_sayNumber_14_59 {g : mm_G} {l : Launch} (p0 : Int) (S0 : zz_S) (n : Nat) (hn : zz_end ≤ n) (G_S0 : zz_G S0) (hp0 : (-2147483648) ≤ p0 ∧ p0 ≤ 2147483647) (hq : S0 1079 34 ≤ 195) : mm_Met g l zy_sayNumber_14_59 zr_sayNumber_14_59 [.ref 1079, zi p0] (zz_M S0 n) n (zz_QV n (zp_sayNumber_14_59 p0 S0)) := by
  refine zz_enter (by decide) (Nat.le_of_ble_eq_true rfl) (zz_less (ls1 := [some (.ref 1079), some (zi p0)]) ⟨rfl, ⟨rfl, trivial⟩⟩ ?_)
  have F_S0 : zz_fr [(1079, 34)] [1101] (fun _ _ => False) S0 S0 := zz_fr.refl
  have k4 : ∀ (x2 : Int) (S : zz_S), zz_G S → zz_fr [(1079, 34)] [1101] (fun _ _ => False) S0 S → (0 ≤ x2 ∧ x2 ≤ 1000) → (S 1079 34 ≥ S0 1079 34) → ((x2 = 1000 ∧ S 1079 34 ≤ S0 1079 34 + 0) ∨ (x2 = 100 ∧ S 1079 34 ≤ S0 1079 34 + 1) ∨ (x2 = 10 ∧ S 1079 34 ≤ S0 1079 34 + 2) ∨ (x2 = 1 ∧ S 1079 34 ≤ S0 1079 34 + 3) ∨ (x2 = 0 ∧ S 1079 34 ≤ S0 1079 34 + 4)) → zz_E g l zy_sayNumber_14_59 zr_sayNumber_14_59 (zz_QV n (zp_sayNumber_14_59 p0 S0)) S n 4 [some (.ref 1079), some (zi p0), some (zi x2)] [] 0 0 := fun x2 S a b j0 j1 j2 => (zi_sayNumber_14_59 (g := g) (l := l) p0 S0 n hn G_S0 hp0 hq _) x2 S a b j0 j1 j2 (Nat.lt_succ_self _)
  refine zz_sipush (by decide) zd_14_59_0 ?_
  refine zz_istore_n [some (.ref 1079), some (zi p0), some (zi 1000)] zd_14_59_3 (by decide) rfl ?_
  have g1 := zz_G.r G_S0 1079 34 0 200 rfl rfl
  refine zz_less (ls1 := [some (.ref 1079), some (zi p0), some (zi 1000)]) ⟨rfl, ⟨rfl, ⟨rfl, trivial⟩⟩⟩ ?_
  exact k4 1000 S0 G_S0 F_S0 (by omega) (by omega) (by omega)
abbrev zy_sayField_14_60 : mm_Y := (⟨"TensorForgeModel", "sayField", "(II)V"⟩, prog_14_method_60_code, 3, none)
theorem zyw_sayField_14_60 : mm_Yw zy_sayField_14_60 2 := ⟨mm_tb_1 2059 (by decide +kernel) rfl, mm_tb_1 12 (by decide +kernel) rfl, ⟨by decide, by decide⟩, by decide +kernel⟩
theorem zk_Md_393 : mm_Vl "TensorForgeModel" 393 11 1 zy_sayWord_14_58 := ⟨zyw_sayWord_14_58, (R_Md, F_Md, 69), rfl, mm_tb_1 2046 (by decide +kernel) rfl, mm_tb_1 2048 (by decide +kernel) rfl, mm_tb_s 115 (by decide +kernel) rfl⟩
theorem zk_Md_396 : mm_Vl "TensorForgeModel" 396 11 1 zy_sayNumber_14_59 := ⟨zyw_sayNumber_14_59, (R_Md, F_Md, 69), rfl, mm_tb_1 2060 (by decide +kernel) rfl, mm_tb_1 2062 (by decide +kernel) rfl, mm_tb_s 118 (by decide +kernel) rfl⟩
theorem zg_14_60_0 : (decode zy_sayField_14_60.2.1 0 = .ok ((.aload_n 0), 1)) ∧ (decode zy_sayField_14_60.2.1 1 = .ok ((.getfield 36), 3)) ∧ (decode zy_sayField_14_60.2.1 4 = .ok ((.iload_n 2), 1)) ∧ (decode zy_sayField_14_60.2.1 5 = .ok ((.iaload), 1)) ∧ (decode zy_sayField_14_60.2.1 6 = .ok ((Instr.ifCond .eq) 25, 3)) ∧ (decode zy_sayField_14_60.2.1 31 = .ok ((.return_), 1)) ∧ (decode zy_sayField_14_60.2.1 9 = .ok ((.aload_n 0), 1)) ∧ (decode zy_sayField_14_60.2.1 10 = .ok ((.iload_n 1), 1)) ∧ (decode zy_sayField_14_60.2.1 11 = .ok ((.invokevirtual 393), 3)) ∧ (decode zy_sayField_14_60.2.1 14 = .ok ((.aload_n 0), 1)) := by decide +kernel
theorem zd_14_60_0 : zz_D zy_sayField_14_60 0 (.aload_n 0) 1 1 := ⟨zg_14_60_0.1, rfl⟩
theorem zd_14_60_1 : zz_D zy_sayField_14_60 1 (.getfield 36) 3 4 := ⟨zg_14_60_0.2.1, rfl⟩
theorem zd_14_60_4 : zz_D zy_sayField_14_60 4 (.iload_n 2) 1 5 := ⟨zg_14_60_0.2.2.1, rfl⟩
theorem zd_14_60_5 : zz_D zy_sayField_14_60 5 (.iaload) 1 6 := ⟨zg_14_60_0.2.2.2.1, rfl⟩
theorem zd_14_60_6 : zz_B zy_sayField_14_60 6 (Instr.ifCond .eq) 31 9 := ⟨25, zg_14_60_0.2.2.2.2.1, rfl, rfl⟩
theorem zd_14_60_31 : zz_D zy_sayField_14_60 31 (.return_) 1 32 := ⟨zg_14_60_0.2.2.2.2.2.1, rfl⟩
theorem zd_14_60_9 : zz_D zy_sayField_14_60 9 (.aload_n 0) 1 10 := ⟨zg_14_60_0.2.2.2.2.2.2.1, rfl⟩
theorem zd_14_60_10 : zz_D zy_sayField_14_60 10 (.iload_n 1) 1 11 := ⟨zg_14_60_0.2.2.2.2.2.2.2.1, rfl⟩
theorem zd_14_60_11 : zz_D zy_sayField_14_60 11 (.invokevirtual 393) 3 14 := ⟨zg_14_60_0.2.2.2.2.2.2.2.2.1, rfl⟩
theorem zd_14_60_14 : zz_D zy_sayField_14_60 14 (.aload_n 0) 1 15 := ⟨zg_14_60_0.2.2.2.2.2.2.2.2.2, rfl⟩
theorem zg_14_60_15 : (decode zy_sayField_14_60.2.1 15 = .ok ((.ldc2_w 327), 3)) ∧ (decode zy_sayField_14_60.2.1 18 = .ok ((.invokevirtual 388), 3)) ∧ (decode zy_sayField_14_60.2.1 21 = .ok ((.aload_n 0), 1)) ∧ (decode zy_sayField_14_60.2.1 22 = .ok ((.aload_n 0), 1)) ∧ (decode zy_sayField_14_60.2.1 23 = .ok ((.getfield 36), 3)) ∧ (decode zy_sayField_14_60.2.1 26 = .ok ((.iload_n 2), 1)) ∧ (decode zy_sayField_14_60.2.1 27 = .ok ((.iaload), 1)) ∧ (decode zy_sayField_14_60.2.1 28 = .ok ((.invokevirtual 396), 3)) := by decide +kernel
theorem zd_14_60_15 : zz_D zy_sayField_14_60 15 (.ldc2_w 327) 3 18 := ⟨zg_14_60_15.1, rfl⟩
theorem zd_14_60_18 : zz_D zy_sayField_14_60 18 (.invokevirtual 388) 3 21 := ⟨zg_14_60_15.2.1, rfl⟩
theorem zd_14_60_21 : zz_D zy_sayField_14_60 21 (.aload_n 0) 1 22 := ⟨zg_14_60_15.2.2.1, rfl⟩
theorem zd_14_60_22 : zz_D zy_sayField_14_60 22 (.aload_n 0) 1 23 := ⟨zg_14_60_15.2.2.2.1, rfl⟩
theorem zd_14_60_23 : zz_D zy_sayField_14_60 23 (.getfield 36) 3 26 := ⟨zg_14_60_15.2.2.2.2.1, rfl⟩
theorem zd_14_60_26 : zz_D zy_sayField_14_60 26 (.iload_n 2) 1 27 := ⟨zg_14_60_15.2.2.2.2.2.1, rfl⟩
theorem zd_14_60_27 : zz_D zy_sayField_14_60 27 (.iaload) 1 28 := ⟨zg_14_60_15.2.2.2.2.2.2.1, rfl⟩
theorem zd_14_60_28 : zz_D zy_sayField_14_60 28 (.invokevirtual 396) 3 31 := ⟨zg_14_60_15.2.2.2.2.2.2.2, rfl⟩
-- TensorForgeModel sayField (II)V
abbrev zr_sayField_14_60 : Room := { frames := 2, cells := 0, slots := 0, locals := 29 }
def zp_sayField_14_60 (p0 : Int) (p1 : Int) (S0 : zz_S) : zz_S → Prop := fun S => zz_G S ∧ zz_fr [(1079, 34)] [1101] (fun _ _ => False) S0 S ∧ (S 1079 34 ≤ S0 1079 34 + 14) ∧ (S 1079 34 ≥ S0 1079 34)
theorem zc_sayField_14_60 {g : mm_G} {l : Launch} (p0 : Int) (p1 : Int) (S0 : zz_S) (n : Nat) (hn : zz_end ≤ n) (G_S0 : zz_G S0) (hp0 : 0 ≤ p0 ∧ p0 ≤ 23) (hp1 : 0 ≤ p1 ∧ p1 ≤ 11) (hq : S0 1079 34 ≤ 180) : mm_Met g l zy_sayField_14_60 zr_sayField_14_60 [.ref 1079, zi p0, zi p1] (zz_M S0 n) n (zz_QV n (zp_sayField_14_60 p0 p1 S0)) := by
  refine zz_enter (by decide) (Nat.le_of_ble_eq_true rfl) (zz_less (ls1 := [some (.ref 1079), some (zi p0), some (zi p1)]) ⟨rfl, ⟨rfl, ⟨rfl, trivial⟩⟩⟩ ?_)
  have F_S0 : zz_fr [(1079, 34)] [1101] (fun _ _ => False) S0 S0 := zz_fr.refl
  refine zz_aload_n (x := 1079) rfl zd_14_60_0 ?_
  refine zz_getr (kd := 0) (z := 1087) zd_14_60_1 zf_Md_36 zT_1079 rfl (zz_ltn hn rfl) (zz_G.eq G_S0 1079 11 1087 rfl rfl) (by decide) 1087 rfl ?_
  refine zz_iload_n (x := p1) rfl zd_14_60_4 ?_
  have g1 := zz_G.r G_S0 1087 p1.toNat (-2147483648) 2147483647 rfl rfl
  refine zz_iald (z := S0 1087 p1.toNat) zd_14_60_5 zT_1087 rfl (zz_ltn hn rfl) (by decide) (by omega) rfl ?_
  refine zz_if_eq (by omega) zd_14_60_6 (fun c2 => ?_) (fun c2 => ?_)
  · have g3 := zz_G.r G_S0 1079 34 0 200 rfl rfl
    exact zz_vret zd_14_60_31 rfl (Nat.zero_le _) (Nat.zero_le _) ⟨_, rfl, G_S0, F_S0, by omega, by omega⟩
  · refine zz_aload_n (x := 1079) rfl zd_14_60_9 ?_
    refine zz_iload_n (x := p0) rfl zd_14_60_10 ?_
    have g4 := zz_G.r G_S0 1079 34 0 200 rfl rfl
    refine zz_callVV [zi p0] zd_14_60_11 zk_Md_393 zT_1079 (zz_ltn hn rfl) rfl rfl ⟨Nat.le_of_ble_eq_true rfl, Nat.le_of_ble_eq_true rfl⟩ ⟨rfl, rfl⟩ (Nat.zero_le _) (Nat.zero_le _) (zc_sayWord_14_58 p0 S0 n hn G_S0 (by omega) (by omega)) (fun S5 hP => ?_)
    obtain ⟨G_S5, fS5, o7, o8⟩ := hP
    have F_S5 := zz_fr.trans F_S0 fS5 rfl zz_nv
    refine zz_aload_n (x := 1079) rfl zd_14_60_14 ?_
    refine zz_ldc2 (z := 32) zq_Md_327 (by decide) zd_14_60_15 ?_
    have g9 := zz_G.r G_S5 1079 34 0 200 rfl rfl
    refine zz_callVV [zl 32] zd_14_60_18 zk_Md_388 zT_1079 (zz_ltn hn rfl) rfl rfl ⟨Nat.le_of_ble_eq_true rfl, Nat.le_of_ble_eq_true rfl⟩ ⟨rfl, rfl⟩ (Nat.zero_le _) (Nat.zero_le _) (zc_say_14_57 32 S5 n hn G_S5 (by omega) (by omega)) (fun S10 hP => ?_)
    obtain ⟨G_S10, fS10, o12⟩ := hP
    have F_S10 := zz_fr.trans F_S5 fS10 rfl zz_nv
    refine zz_aload_n (x := 1079) rfl zd_14_60_21 ?_
    refine zz_aload_n (x := 1079) rfl zd_14_60_22 ?_
    refine zz_getr (kd := 0) (z := 1087) zd_14_60_23 zf_Md_36 zT_1079 rfl (zz_ltn hn rfl) (zz_G.eq G_S10 1079 11 1087 rfl rfl) (by decide) 1087 rfl ?_
    refine zz_iload_n (x := p1) rfl zd_14_60_26 ?_
    refine zz_iald (z := S0 1087 p1.toNat) zd_14_60_27 zT_1087 rfl (zz_ltn hn rfl) (by decide) (by omega) (zz_rc fS10 (zz_nc1 rfl) rfl (fun h => h) (zz_rc fS5 (zz_nc1 rfl) rfl (fun h => h) rfl)) ?_
    have g13 := zz_G.r G_S10 1079 34 0 200 rfl rfl
    refine zz_callVV [zi (S0 1087 p1.toNat)] zd_14_60_28 zk_Md_396 zT_1079 (zz_ltn hn rfl) rfl rfl ⟨Nat.le_of_ble_eq_true rfl, Nat.le_of_ble_eq_true rfl⟩ ⟨rfl, rfl⟩ (Nat.zero_le _) (Nat.zero_le _) (zc_sayNumber_14_59 (S0 1087 p1.toNat) S10 n hn G_S10 (by omega) (by omega)) (fun S14 hP => ?_)
    obtain ⟨G_S14, fS14, o16, o17⟩ := hP
    have F_S14 := zz_fr.trans F_S10 fS14 rfl zz_nv
    have g18 := zz_G.r G_S14 1079 34 0 200 rfl rfl
    exact zz_vret zd_14_60_31 rfl (Nat.zero_le _) (Nat.zero_le _) ⟨_, rfl, G_S14, F_S14, by omega, by omega⟩
abbrev zy_sayFlag_14_61 : mm_Y := (⟨"TensorForgeModel", "sayFlag", "(I)V"⟩, prog_14_method_61_code, 2, none)
theorem zyw_sayFlag_14_61 : mm_Yw zy_sayFlag_14_61 1 := ⟨mm_tb_1 2067 (by decide +kernel) rfl, mm_tb_1 12 (by decide +kernel) rfl, ⟨by decide, by decide⟩, by decide +kernel⟩
theorem zg_14_61_0 : (decode zy_sayFlag_14_61.2.1 0 = .ok ((.aload_n 0), 1)) ∧ (decode zy_sayFlag_14_61.2.1 1 = .ok ((.getfield 36), 3)) ∧ (decode zy_sayFlag_14_61.2.1 4 = .ok ((.iload_n 1), 1)) ∧ (decode zy_sayFlag_14_61.2.1 5 = .ok ((.iaload), 1)) ∧ (decode zy_sayFlag_14_61.2.1 6 = .ok ((Instr.ifCond .eq) 37, 3)) ∧ (decode zy_sayFlag_14_61.2.1 43 = .ok ((.return_), 1)) ∧ (decode zy_sayFlag_14_61.2.1 9 = .ok ((.aload_n 0), 1)) ∧ (decode zy_sayFlag_14_61.2.1 10 = .ok ((.iload_n 1), 1)) ∧ (decode zy_sayFlag_14_61.2.1 11 = .ok ((.iconst 3), 1)) ∧ (decode zy_sayFlag_14_61.2.1 12 = .ok ((Instr.if_icmp .ge) 8, 3)) := by decide +kernel
theorem zd_14_61_0 : zz_D zy_sayFlag_14_61 0 (.aload_n 0) 1 1 := ⟨zg_14_61_0.1, rfl⟩
theorem zd_14_61_1 : zz_D zy_sayFlag_14_61 1 (.getfield 36) 3 4 := ⟨zg_14_61_0.2.1, rfl⟩
theorem zd_14_61_4 : zz_D zy_sayFlag_14_61 4 (.iload_n 1) 1 5 := ⟨zg_14_61_0.2.2.1, rfl⟩
theorem zd_14_61_5 : zz_D zy_sayFlag_14_61 5 (.iaload) 1 6 := ⟨zg_14_61_0.2.2.2.1, rfl⟩
theorem zd_14_61_6 : zz_B zy_sayFlag_14_61 6 (Instr.ifCond .eq) 43 9 := ⟨37, zg_14_61_0.2.2.2.2.1, rfl, rfl⟩
theorem zd_14_61_43 : zz_D zy_sayFlag_14_61 43 (.return_) 1 44 := ⟨zg_14_61_0.2.2.2.2.2.1, rfl⟩
theorem zd_14_61_9 : zz_D zy_sayFlag_14_61 9 (.aload_n 0) 1 10 := ⟨zg_14_61_0.2.2.2.2.2.2.1, rfl⟩
theorem zd_14_61_10 : zz_D zy_sayFlag_14_61 10 (.iload_n 1) 1 11 := ⟨zg_14_61_0.2.2.2.2.2.2.2.1, rfl⟩
theorem zd_14_61_11 : zz_D zy_sayFlag_14_61 11 (.iconst 3) 1 12 := ⟨zg_14_61_0.2.2.2.2.2.2.2.2.1, rfl⟩
theorem zd_14_61_12 : zz_B zy_sayFlag_14_61 12 (Instr.if_icmp .ge) 20 15 := ⟨8, zg_14_61_0.2.2.2.2.2.2.2.2.2, rfl, rfl⟩
theorem zg_14_61_20 : (decode zy_sayFlag_14_61.2.1 20 = .ok ((.bipush 18), 2)) ∧ (decode zy_sayFlag_14_61.2.1 22 = .ok ((.invokevirtual 393), 3)) ∧ (decode zy_sayFlag_14_61.2.1 25 = .ok ((.aload_n 0), 1)) ∧ (decode zy_sayFlag_14_61.2.1 26 = .ok ((.iload_n 1), 1)) ∧ (decode zy_sayFlag_14_61.2.1 27 = .ok ((.iconst 2), 1)) ∧ (decode zy_sayFlag_14_61.2.1 28 = .ok ((.irem), 1)) ∧ (decode zy_sayFlag_14_61.2.1 29 = .ok ((.iconst 1), 1)) ∧ (decode zy_sayFlag_14_61.2.1 30 = .ok ((Instr.if_icmp .ne) 8, 3)) ∧ (decode zy_sayFlag_14_61.2.1 38 = .ok ((.bipush 20), 2)) ∧ (decode zy_sayFlag_14_61.2.1 40 = .ok ((.invokevirtual 393), 3)) := by decide +kernel
theorem zd_14_61_20 : zz_D zy_sayFlag_14_61 20 (.bipush 18) 2 22 := ⟨zg_14_61_20.1, rfl⟩
theorem zd_14_61_22 : zz_D zy_sayFlag_14_61 22 (.invokevirtual 393) 3 25 := ⟨zg_14_61_20.2.1, rfl⟩
theorem zd_14_61_25 : zz_D zy_sayFlag_14_61 25 (.aload_n 0) 1 26 := ⟨zg_14_61_20.2.2.1, rfl⟩
theorem zd_14_61_26 : zz_D zy_sayFlag_14_61 26 (.iload_n 1) 1 27 := ⟨zg_14_61_20.2.2.2.1, rfl⟩
theorem zd_14_61_27 : zz_D zy_sayFlag_14_61 27 (.iconst 2) 1 28 := ⟨zg_14_61_20.2.2.2.2.1, rfl⟩
theorem zd_14_61_28 : zz_D zy_sayFlag_14_61 28 (.irem) 1 29 := ⟨zg_14_61_20.2.2.2.2.2.1, rfl⟩
theorem zd_14_61_29 : zz_D zy_sayFlag_14_61 29 (.iconst 1) 1 30 := ⟨zg_14_61_20.2.2.2.2.2.2.1, rfl⟩
theorem zd_14_61_30 : zz_B zy_sayFlag_14_61 30 (Instr.if_icmp .ne) 38 33 := ⟨8, zg_14_61_20.2.2.2.2.2.2.2.1, rfl, rfl⟩
theorem zd_14_61_38 : zz_D zy_sayFlag_14_61 38 (.bipush 20) 2 40 := ⟨zg_14_61_20.2.2.2.2.2.2.2.2.1, rfl⟩
theorem zd_14_61_40 : zz_D zy_sayFlag_14_61 40 (.invokevirtual 393) 3 43 := ⟨zg_14_61_20.2.2.2.2.2.2.2.2.2, rfl⟩
theorem zg_14_61_33 : (decode zy_sayFlag_14_61.2.1 33 = .ok ((.bipush 19), 2)) ∧ (decode zy_sayFlag_14_61.2.1 35 = .ok (Instr.goto 5, 3)) ∧ (decode zy_sayFlag_14_61.2.1 15 = .ok ((.bipush 17), 2)) ∧ (decode zy_sayFlag_14_61.2.1 17 = .ok (Instr.goto 5, 3)) := by decide +kernel
theorem zd_14_61_33 : zz_D zy_sayFlag_14_61 33 (.bipush 19) 2 35 := ⟨zg_14_61_33.1, rfl⟩
theorem zd_14_61_35 : zz_B zy_sayFlag_14_61 35 Instr.goto 40 38 := ⟨5, zg_14_61_33.2.1, rfl, rfl⟩
theorem zd_14_61_15 : zz_D zy_sayFlag_14_61 15 (.bipush 17) 2 17 := ⟨zg_14_61_33.2.2.1, rfl⟩
theorem zd_14_61_17 : zz_B zy_sayFlag_14_61 17 Instr.goto 22 20 := ⟨5, zg_14_61_33.2.2.2, rfl, rfl⟩
-- TensorForgeModel sayFlag (I)V
abbrev zr_sayFlag_14_61 : Room := { frames := 2, cells := 0, slots := 0, locals := 29 }
def zp_sayFlag_14_61 (p0 : Int) (S0 : zz_S) : zz_S → Prop := fun S => zz_G S ∧ zz_fr [(1079, 34)] [1101] (fun _ _ => False) S0 S ∧ (S 1079 34 ≤ S0 1079 34 + 18) ∧ (S 1079 34 ≥ S0 1079 34)
theorem zc_sayFlag_14_61 {g : mm_G} {l : Launch} (p0 : Int) (S0 : zz_S) (n : Nat) (hn : zz_end ≤ n) (G_S0 : zz_G S0) (hp0 : 0 ≤ p0 ∧ p0 ≤ 11) (hq : S0 1079 34 ≤ 180) : mm_Met g l zy_sayFlag_14_61 zr_sayFlag_14_61 [.ref 1079, zi p0] (zz_M S0 n) n (zz_QV n (zp_sayFlag_14_61 p0 S0)) := by
  refine zz_enter (by decide) (Nat.le_of_ble_eq_true rfl) (zz_less (ls1 := [some (.ref 1079), some (zi p0)]) ⟨rfl, ⟨rfl, trivial⟩⟩ ?_)
  have F_S0 : zz_fr [(1079, 34)] [1101] (fun _ _ => False) S0 S0 := zz_fr.refl
  refine zz_aload_n (x := 1079) rfl zd_14_61_0 ?_
  refine zz_getr (kd := 0) (z := 1087) zd_14_61_1 zf_Md_36 zT_1079 rfl (zz_ltn hn rfl) (zz_G.eq G_S0 1079 11 1087 rfl rfl) (by decide) 1087 rfl ?_
  refine zz_iload_n (x := p0) rfl zd_14_61_4 ?_
  have g1 := zz_G.r G_S0 1087 p0.toNat (-2147483648) 2147483647 rfl rfl
  refine zz_iald (z := S0 1087 p0.toNat) zd_14_61_5 zT_1087 rfl (zz_ltn hn rfl) (by decide) (by omega) rfl ?_
  refine zz_if_eq (by omega) zd_14_61_6 (fun c2 => ?_) (fun c2 => ?_)
  · have g3 := zz_G.r G_S0 1079 34 0 200 rfl rfl
    exact zz_vret zd_14_61_43 rfl (Nat.zero_le _) (Nat.zero_le _) ⟨_, rfl, G_S0, F_S0, by omega, by omega⟩
  · refine zz_aload_n (x := 1079) rfl zd_14_61_9 ?_
    refine zz_iload_n (x := p0) rfl zd_14_61_10 ?_
    refine zz_iconst zd_14_61_11 ?_
    refine zz_icmp_ge (by omega) (by omega) zd_14_61_12 (fun c4 => ?_) (fun c4 => ?_)
    · refine zz_bipush (by decide) zd_14_61_20 ?_
      have g5 := zz_G.r G_S0 1079 34 0 200 rfl rfl
      refine zz_callVV [zi 18] zd_14_61_22 zk_Md_393 zT_1079 (zz_ltn hn rfl) rfl rfl ⟨Nat.le_of_ble_eq_true rfl, Nat.le_of_ble_eq_true rfl⟩ ⟨rfl, rfl⟩ (Nat.zero_le _) (Nat.zero_le _) (zc_sayWord_14_58 18 S0 n hn G_S0 (by omega) (by omega)) (fun S6 hP => ?_)
      obtain ⟨G_S6, fS6, o8, o9⟩ := hP
      have F_S6 := zz_fr.trans F_S0 fS6 rfl zz_nv
      refine zz_aload_n (x := 1079) rfl zd_14_61_25 ?_
      refine zz_iload_n (x := p0) rfl zd_14_61_26 ?_
      refine zz_iconst zd_14_61_27 ?_
      refine zz_irem (by omega) (by omega) zd_14_61_28 (fun v10 hv10 av10 bv10 cv10 => ?_)
      refine zz_iconst zd_14_61_29 ?_
      refine zz_icmp_ne (by omega) (by omega) zd_14_61_30 (fun c11 => ?_) (fun c11 => ?_)
      · refine zz_bipush (by decide) zd_14_61_38 ?_
        have g12 := zz_G.r G_S6 1079 34 0 200 rfl rfl
        refine zz_callVV [zi 20] zd_14_61_40 zk_Md_393 zT_1079 (zz_ltn hn rfl) rfl rfl ⟨Nat.le_of_ble_eq_true rfl, Nat.le_of_ble_eq_true rfl⟩ ⟨rfl, rfl⟩ (Nat.zero_le _) (Nat.zero_le _) (zc_sayWord_14_58 20 S6 n hn G_S6 (by omega) (by omega)) (fun S13 hP => ?_)
        obtain ⟨G_S13, fS13, o15, o16⟩ := hP
        have F_S13 := zz_fr.trans F_S6 fS13 rfl zz_nv
        have g17 := zz_G.r G_S13 1079 34 0 200 rfl rfl
        exact zz_vret zd_14_61_43 rfl (Nat.zero_le _) (Nat.zero_le _) ⟨_, rfl, G_S13, F_S13, by omega, by omega⟩
      · refine zz_bipush (by decide) zd_14_61_33 ?_
        refine zz_goto zd_14_61_35 ?_
        have g18 := zz_G.r G_S6 1079 34 0 200 rfl rfl
        refine zz_callVV [zi 19] zd_14_61_40 zk_Md_393 zT_1079 (zz_ltn hn rfl) rfl rfl ⟨Nat.le_of_ble_eq_true rfl, Nat.le_of_ble_eq_true rfl⟩ ⟨rfl, rfl⟩ (Nat.zero_le _) (Nat.zero_le _) (zc_sayWord_14_58 19 S6 n hn G_S6 (by omega) (by omega)) (fun S19 hP => ?_)
        obtain ⟨G_S19, fS19, o21, o22⟩ := hP
        have F_S19 := zz_fr.trans F_S6 fS19 rfl zz_nv
        have g23 := zz_G.r G_S19 1079 34 0 200 rfl rfl
        exact zz_vret zd_14_61_43 rfl (Nat.zero_le _) (Nat.zero_le _) ⟨_, rfl, G_S19, F_S19, by omega, by omega⟩
    · refine zz_bipush (by decide) zd_14_61_15 ?_
      refine zz_goto zd_14_61_17 ?_
      have g24 := zz_G.r G_S0 1079 34 0 200 rfl rfl
      refine zz_callVV [zi 17] zd_14_61_22 zk_Md_393 zT_1079 (zz_ltn hn rfl) rfl rfl ⟨Nat.le_of_ble_eq_true rfl, Nat.le_of_ble_eq_true rfl⟩ ⟨rfl, rfl⟩ (Nat.zero_le _) (Nat.zero_le _) (zc_sayWord_14_58 17 S0 n hn G_S0 (by omega) (by omega)) (fun S25 hP => ?_)
      obtain ⟨G_S25, fS25, o27, o28⟩ := hP
      have F_S25 := zz_fr.trans F_S0 fS25 rfl zz_nv
      refine zz_aload_n (x := 1079) rfl zd_14_61_25 ?_
      refine zz_iload_n (x := p0) rfl zd_14_61_26 ?_
      refine zz_iconst zd_14_61_27 ?_
      refine zz_irem (by omega) (by omega) zd_14_61_28 (fun v29 hv29 av29 bv29 cv29 => ?_)
      refine zz_iconst zd_14_61_29 ?_
      refine zz_icmp_ne (by omega) (by omega) zd_14_61_30 (fun c30 => ?_) (fun c30 => ?_)
      · refine zz_bipush (by decide) zd_14_61_38 ?_
        have g31 := zz_G.r G_S25 1079 34 0 200 rfl rfl
        refine zz_callVV [zi 20] zd_14_61_40 zk_Md_393 zT_1079 (zz_ltn hn rfl) rfl rfl ⟨Nat.le_of_ble_eq_true rfl, Nat.le_of_ble_eq_true rfl⟩ ⟨rfl, rfl⟩ (Nat.zero_le _) (Nat.zero_le _) (zc_sayWord_14_58 20 S25 n hn G_S25 (by omega) (by omega)) (fun S32 hP => ?_)
        obtain ⟨G_S32, fS32, o34, o35⟩ := hP
        have F_S32 := zz_fr.trans F_S25 fS32 rfl zz_nv
        have g36 := zz_G.r G_S32 1079 34 0 200 rfl rfl
        exact zz_vret zd_14_61_43 rfl (Nat.zero_le _) (Nat.zero_le _) ⟨_, rfl, G_S32, F_S32, by omega, by omega⟩
      · refine zz_bipush (by decide) zd_14_61_33 ?_
        refine zz_goto zd_14_61_35 ?_
        have g37 := zz_G.r G_S25 1079 34 0 200 rfl rfl
        refine zz_callVV [zi 19] zd_14_61_40 zk_Md_393 zT_1079 (zz_ltn hn rfl) rfl rfl ⟨Nat.le_of_ble_eq_true rfl, Nat.le_of_ble_eq_true rfl⟩ ⟨rfl, rfl⟩ (Nat.zero_le _) (Nat.zero_le _) (zc_sayWord_14_58 19 S25 n hn G_S25 (by omega) (by omega)) (fun S38 hP => ?_)
        obtain ⟨G_S38, fS38, o40, o41⟩ := hP
        have F_S38 := zz_fr.trans F_S25 fS38 rfl zz_nv
        have g42 := zz_G.r G_S38 1079 34 0 200 rfl rfl
        exact zz_vret zd_14_61_43 rfl (Nat.zero_le _) (Nat.zero_le _) ⟨_, rfl, G_S38, F_S38, by omega, by omega⟩
abbrev zy_listing_14_62 : mm_Y := (⟨"TensorForgeModel", "listing", "(II)I"⟩, prog_14_method_62_code, 4, (some .int))
theorem zyw_listing_14_62 : mm_Yw zy_listing_14_62 2 := ⟨mm_tb_1 2045 (by decide +kernel) rfl, mm_tb_1 12 (by decide +kernel) rfl, ⟨by decide, by decide⟩, by decide +kernel⟩
theorem zq_Md_399 : Cond.constantLong "TensorForgeModel" 399 (63 : Int64) ∈ mm_tb := mm_tb_1 2055 (by decide +kernel) rfl
theorem zk_Md_401 : mm_Vl "TensorForgeModel" 401 11 2 zy_sayField_14_60 := ⟨zyw_sayField_14_60, (R_Md, F_Md, 69), rfl, mm_tb_1 2056 (by decide +kernel) rfl, mm_tb_1 2058 (by decide +kernel) rfl, mm_tb_s 117 (by decide +kernel) rfl⟩
theorem zk_Md_404 : mm_Vl "TensorForgeModel" 404 11 1 zy_sayFlag_14_61 := ⟨zyw_sayFlag_14_61, (R_Md, F_Md, 69), rfl, mm_tb_1 2064 (by decide +kernel) rfl, mm_tb_1 2066 (by decide +kernel) rfl, mm_tb_s 119 (by decide +kernel) rfl⟩
theorem zq_Md_407 : Cond.constantLong "TensorForgeModel" 407 (10 : Int64) ∈ mm_tb := mm_tb_1 2068 (by decide +kernel) rfl
theorem zg_14_62_0 : (decode zy_listing_14_62.2.1 0 = .ok ((.aload_n 0), 1)) ∧ (decode zy_listing_14_62.2.1 1 = .ok ((.iload_n 1), 1)) ∧ (decode zy_listing_14_62.2.1 2 = .ok ((.i2l), 1)) ∧ (decode zy_listing_14_62.2.1 3 = .ok ((.lconst 0), 1)) ∧ (decode zy_listing_14_62.2.1 4 = .ok ((.aload_n 0), 1)) ∧ (decode zy_listing_14_62.2.1 5 = .ok ((.getfield 224), 3)) ∧ (decode zy_listing_14_62.2.1 8 = .ok ((.iconst 1), 1)) ∧ (decode zy_listing_14_62.2.1 9 = .ok ((.isub), 1)) ∧ (decode zy_listing_14_62.2.1 10 = .ok ((.i2l), 1)) ∧ (decode zy_listing_14_62.2.1 11 = .ok ((.invokestatic 192), 3)) := by decide +kernel
theorem zd_14_62_0 : zz_D zy_listing_14_62 0 (.aload_n 0) 1 1 := ⟨zg_14_62_0.1, rfl⟩
theorem zd_14_62_1 : zz_D zy_listing_14_62 1 (.iload_n 1) 1 2 := ⟨zg_14_62_0.2.1, rfl⟩
theorem zd_14_62_2 : zz_D zy_listing_14_62 2 (.i2l) 1 3 := ⟨zg_14_62_0.2.2.1, rfl⟩
theorem zd_14_62_3 : zz_D zy_listing_14_62 3 (.lconst 0) 1 4 := ⟨zg_14_62_0.2.2.2.1, rfl⟩
theorem zd_14_62_4 : zz_D zy_listing_14_62 4 (.aload_n 0) 1 5 := ⟨zg_14_62_0.2.2.2.2.1, rfl⟩
theorem zd_14_62_5 : zz_D zy_listing_14_62 5 (.getfield 224) 3 8 := ⟨zg_14_62_0.2.2.2.2.2.1, rfl⟩
theorem zd_14_62_8 : zz_D zy_listing_14_62 8 (.iconst 1) 1 9 := ⟨zg_14_62_0.2.2.2.2.2.2.1, rfl⟩
theorem zd_14_62_9 : zz_D zy_listing_14_62 9 (.isub) 1 10 := ⟨zg_14_62_0.2.2.2.2.2.2.2.1, rfl⟩
theorem zd_14_62_10 : zz_D zy_listing_14_62 10 (.i2l) 1 11 := ⟨zg_14_62_0.2.2.2.2.2.2.2.2.1, rfl⟩
theorem zd_14_62_11 : zz_D zy_listing_14_62 11 (.invokestatic 192) 3 14 := ⟨zg_14_62_0.2.2.2.2.2.2.2.2.2, rfl⟩
theorem zg_14_62_14 : (decode zy_listing_14_62.2.1 14 = .ok ((Instr.ifCond .eq) 7, 3)) ∧ (decode zy_listing_14_62.2.1 21 = .ok ((.iconst 1), 1)) ∧ (decode zy_listing_14_62.2.1 22 = .ok (Instr.goto 4, 3)) ∧ (decode zy_listing_14_62.2.1 26 = .ok ((.iconst 0), 1)) ∧ (decode zy_listing_14_62.2.1 27 = .ok ((.iconst 0), 1)) ∧ (decode zy_listing_14_62.2.1 28 = .ok ((.invokevirtual 196), 3)) ∧ (decode zy_listing_14_62.2.1 31 = .ok ((Instr.ifCond .eq) 5, 3)) ∧ (decode zy_listing_14_62.2.1 34 = .ok ((.iconst 0), 1)) ∧ (decode zy_listing_14_62.2.1 35 = .ok ((.ireturn), 1)) ∧ (decode zy_listing_14_62.2.1 17 = .ok ((.iload_n 2), 1)) := by decide +kernel
theorem zd_14_62_14 : zz_B zy_listing_14_62 14 (Instr.ifCond .eq) 21 17 := ⟨7, zg_14_62_14.1, rfl, rfl⟩
theorem zd_14_62_21 : zz_D zy_listing_14_62 21 (.iconst 1) 1 22 := ⟨zg_14_62_14.2.1, rfl⟩
theorem zd_14_62_22 : zz_B zy_listing_14_62 22 Instr.goto 26 25 := ⟨4, zg_14_62_14.2.2.1, rfl, rfl⟩
theorem zd_14_62_26 : zz_D zy_listing_14_62 26 (.iconst 0) 1 27 := ⟨zg_14_62_14.2.2.2.1, rfl⟩
theorem zd_14_62_27 : zz_D zy_listing_14_62 27 (.iconst 0) 1 28 := ⟨zg_14_62_14.2.2.2.2.1, rfl⟩
theorem zd_14_62_28 : zz_D zy_listing_14_62 28 (.invokevirtual 196) 3 31 := ⟨zg_14_62_14.2.2.2.2.2.1, rfl⟩
theorem zd_14_62_31 : zz_B zy_listing_14_62 31 (Instr.ifCond .eq) 36 34 := ⟨5, zg_14_62_14.2.2.2.2.2.2.1, rfl, rfl⟩
theorem zd_14_62_34 : zz_D zy_listing_14_62 34 (.iconst 0) 1 35 := ⟨zg_14_62_14.2.2.2.2.2.2.2.1, rfl⟩
theorem zd_14_62_35 : zz_D zy_listing_14_62 35 (.ireturn) 1 36 := ⟨zg_14_62_14.2.2.2.2.2.2.2.2.1, rfl⟩
theorem zd_14_62_17 : zz_D zy_listing_14_62 17 (.iload_n 2) 1 18 := ⟨zg_14_62_14.2.2.2.2.2.2.2.2.2, rfl⟩
theorem zg_14_62_18 : (decode zy_listing_14_62.2.1 18 = .ok ((Instr.ifCond .ge) 7, 3)) ∧ (decode zy_listing_14_62.2.1 25 = .ok ((.iconst 0), 1)) ∧ (decode zy_listing_14_62.2.1 36 = .ok ((.aload_n 0), 1)) ∧ (decode zy_listing_14_62.2.1 37 = .ok ((.aload_n 0), 1)) ∧ (decode zy_listing_14_62.2.1 38 = .ok ((.getfield 29), 3)) ∧ (decode zy_listing_14_62.2.1 41 = .ok ((.iload_n 1), 1)) ∧ (decode zy_listing_14_62.2.1 42 = .ok ((.laload), 1)) ∧ (decode zy_listing_14_62.2.1 43 = .ok ((.invokevirtual 234), 3)) ∧ (decode zy_listing_14_62.2.1 46 = .ok ((.aload_n 0), 1)) ∧ (decode zy_listing_14_62.2.1 47 = .ok ((.iconst 0), 1)) := by decide +kernel
theorem zd_14_62_18 : zz_B zy_listing_14_62 18 (Instr.ifCond .ge) 25 21 := ⟨7, zg_14_62_18.1, rfl, rfl⟩
theorem zd_14_62_25 : zz_D zy_listing_14_62 25 (.iconst 0) 1 26 := ⟨zg_14_62_18.2.1, rfl⟩
theorem zd_14_62_36 : zz_D zy_listing_14_62 36 (.aload_n 0) 1 37 := ⟨zg_14_62_18.2.2.1, rfl⟩
theorem zd_14_62_37 : zz_D zy_listing_14_62 37 (.aload_n 0) 1 38 := ⟨zg_14_62_18.2.2.2.1, rfl⟩
theorem zd_14_62_38 : zz_D zy_listing_14_62 38 (.getfield 29) 3 41 := ⟨zg_14_62_18.2.2.2.2.1, rfl⟩
theorem zd_14_62_41 : zz_D zy_listing_14_62 41 (.iload_n 1) 1 42 := ⟨zg_14_62_18.2.2.2.2.2.1, rfl⟩
theorem zd_14_62_42 : zz_D zy_listing_14_62 42 (.laload) 1 43 := ⟨zg_14_62_18.2.2.2.2.2.2.1, rfl⟩
theorem zd_14_62_43 : zz_D zy_listing_14_62 43 (.invokevirtual 234) 3 46 := ⟨zg_14_62_18.2.2.2.2.2.2.2.1, rfl⟩
theorem zd_14_62_46 : zz_D zy_listing_14_62 46 (.aload_n 0) 1 47 := ⟨zg_14_62_18.2.2.2.2.2.2.2.2.1, rfl⟩
theorem zd_14_62_47 : zz_D zy_listing_14_62 47 (.iconst 0) 1 48 := ⟨zg_14_62_18.2.2.2.2.2.2.2.2.2, rfl⟩
theorem zg_14_62_48 : (decode zy_listing_14_62.2.1 48 = .ok ((.putfield 385), 3)) ∧ (decode zy_listing_14_62.2.1 51 = .ok ((.aload_n 0), 1)) ∧ (decode zy_listing_14_62.2.1 52 = .ok ((.getfield 36), 3)) ∧ (decode zy_listing_14_62.2.1 55 = .ok ((.iconst 0), 1)) ∧ (decode zy_listing_14_62.2.1 56 = .ok ((.iaload), 1)) ∧ (decode zy_listing_14_62.2.1 57 = .ok ((.i2l), 1)) ∧ (decode zy_listing_14_62.2.1 58 = .ok ((.lconst 1), 1)) ∧ (decode zy_listing_14_62.2.1 59 = .ok ((.ldc2_w 238), 3)) ∧ (decode zy_listing_14_62.2.1 62 = .ok ((.invokestatic 192), 3)) ∧ (decode zy_listing_14_62.2.1 65 = .ok ((Instr.ifCond .eq) 16, 3)) := by decide +kernel
theorem zd_14_62_48 : zz_D zy_listing_14_62 48 (.putfield 385) 3 51 := ⟨zg_14_62_48.1, rfl⟩
theorem zd_14_62_51 : zz_D zy_listing_14_62 51 (.aload_n 0) 1 52 := ⟨zg_14_62_48.2.1, rfl⟩
theorem zd_14_62_52 : zz_D zy_listing_14_62 52 (.getfield 36) 3 55 := ⟨zg_14_62_48.2.2.1, rfl⟩
theorem zd_14_62_55 : zz_D zy_listing_14_62 55 (.iconst 0) 1 56 := ⟨zg_14_62_48.2.2.2.1, rfl⟩
theorem zd_14_62_56 : zz_D zy_listing_14_62 56 (.iaload) 1 57 := ⟨zg_14_62_48.2.2.2.2.1, rfl⟩
theorem zd_14_62_57 : zz_D zy_listing_14_62 57 (.i2l) 1 58 := ⟨zg_14_62_48.2.2.2.2.2.1, rfl⟩
theorem zd_14_62_58 : zz_D zy_listing_14_62 58 (.lconst 1) 1 59 := ⟨zg_14_62_48.2.2.2.2.2.2.1, rfl⟩
theorem zd_14_62_59 : zz_D zy_listing_14_62 59 (.ldc2_w 238) 3 62 := ⟨zg_14_62_48.2.2.2.2.2.2.2.1, rfl⟩
theorem zd_14_62_62 : zz_D zy_listing_14_62 62 (.invokestatic 192) 3 65 := ⟨zg_14_62_48.2.2.2.2.2.2.2.2.1, rfl⟩
theorem zd_14_62_65 : zz_B zy_listing_14_62 65 (Instr.ifCond .eq) 81 68 := ⟨16, zg_14_62_48.2.2.2.2.2.2.2.2.2, rfl, rfl⟩
theorem zg_14_62_81 : (decode zy_listing_14_62.2.1 81 = .ok ((.aload_n 0), 1)) ∧ (decode zy_listing_14_62.2.1 82 = .ok ((.ldc2_w 399), 3)) ∧ (decode zy_listing_14_62.2.1 85 = .ok ((.invokevirtual 388), 3)) ∧ (decode zy_listing_14_62.2.1 88 = .ok ((.aload_n 0), 1)) ∧ (decode zy_listing_14_62.2.1 89 = .ok ((.bipush 10), 2)) ∧ (decode zy_listing_14_62.2.1 91 = .ok ((.iconst 5), 1)) ∧ (decode zy_listing_14_62.2.1 92 = .ok ((.invokevirtual 401), 3)) ∧ (decode zy_listing_14_62.2.1 95 = .ok ((.aload_n 0), 1)) ∧ (decode zy_listing_14_62.2.1 96 = .ok ((.getfield 36), 3)) ∧ (decode zy_listing_14_62.2.1 99 = .ok ((.bipush 6), 2)) := by decide +kernel
theorem zd_14_62_81 : zz_D zy_listing_14_62 81 (.aload_n 0) 1 82 := ⟨zg_14_62_81.1, rfl⟩
theorem zd_14_62_82 : zz_D zy_listing_14_62 82 (.ldc2_w 399) 3 85 := ⟨zg_14_62_81.2.1, rfl⟩
theorem zd_14_62_85 : zz_D zy_listing_14_62 85 (.invokevirtual 388) 3 88 := ⟨zg_14_62_81.2.2.1, rfl⟩
theorem zd_14_62_88 : zz_D zy_listing_14_62 88 (.aload_n 0) 1 89 := ⟨zg_14_62_81.2.2.2.1, rfl⟩
theorem zd_14_62_89 : zz_D zy_listing_14_62 89 (.bipush 10) 2 91 := ⟨zg_14_62_81.2.2.2.2.1, rfl⟩
theorem zd_14_62_91 : zz_D zy_listing_14_62 91 (.iconst 5) 1 92 := ⟨zg_14_62_81.2.2.2.2.2.1, rfl⟩
theorem zd_14_62_92 : zz_D zy_listing_14_62 92 (.invokevirtual 401) 3 95 := ⟨zg_14_62_81.2.2.2.2.2.2.1, rfl⟩
theorem zd_14_62_95 : zz_D zy_listing_14_62 95 (.aload_n 0) 1 96 := ⟨zg_14_62_81.2.2.2.2.2.2.2.1, rfl⟩
theorem zd_14_62_96 : zz_D zy_listing_14_62 96 (.getfield 36) 3 99 := ⟨zg_14_62_81.2.2.2.2.2.2.2.2.1, rfl⟩
theorem zd_14_62_99 : zz_D zy_listing_14_62 99 (.bipush 6) 2 101 := ⟨zg_14_62_81.2.2.2.2.2.2.2.2.2, rfl⟩
theorem zg_14_62_101 : (decode zy_listing_14_62.2.1 101 = .ok ((.iaload), 1)) ∧ (decode zy_listing_14_62.2.1 102 = .ok ((Instr.ifCond .ne) 13, 3)) ∧ (decode zy_listing_14_62.2.1 115 = .ok ((.aload_n 0), 1)) ∧ (decode zy_listing_14_62.2.1 116 = .ok ((.bipush 11), 2)) ∧ (decode zy_listing_14_62.2.1 118 = .ok ((.invokevirtual 393), 3)) ∧ (decode zy_listing_14_62.2.1 121 = .ok ((.aload_n 0), 1)) ∧ (decode zy_listing_14_62.2.1 122 = .ok ((.ldc2_w 327), 3)) ∧ (decode zy_listing_14_62.2.1 125 = .ok ((.invokevirtual 388), 3)) ∧ (decode zy_listing_14_62.2.1 128 = .ok ((.aload_n 0), 1)) ∧ (decode zy_listing_14_62.2.1 129 = .ok ((.aload_n 0), 1)) := by decide +kernel
theorem zd_14_62_101 : zz_D zy_listing_14_62 101 (.iaload) 1 102 := ⟨zg_14_62_101.1, rfl⟩
theorem zd_14_62_102 : zz_B zy_listing_14_62 102 (Instr.ifCond .ne) 115 105 := ⟨13, zg_14_62_101.2.1, rfl, rfl⟩
theorem zd_14_62_115 : zz_D zy_listing_14_62 115 (.aload_n 0) 1 116 := ⟨zg_14_62_101.2.2.1, rfl⟩
theorem zd_14_62_116 : zz_D zy_listing_14_62 116 (.bipush 11) 2 118 := ⟨zg_14_62_101.2.2.2.1, rfl⟩
theorem zd_14_62_118 : zz_D zy_listing_14_62 118 (.invokevirtual 393) 3 121 := ⟨zg_14_62_101.2.2.2.2.1, rfl⟩
theorem zd_14_62_121 : zz_D zy_listing_14_62 121 (.aload_n 0) 1 122 := ⟨zg_14_62_101.2.2.2.2.2.1, rfl⟩
theorem zd_14_62_122 : zz_D zy_listing_14_62 122 (.ldc2_w 327) 3 125 := ⟨zg_14_62_101.2.2.2.2.2.2.1, rfl⟩
theorem zd_14_62_125 : zz_D zy_listing_14_62 125 (.invokevirtual 388) 3 128 := ⟨zg_14_62_101.2.2.2.2.2.2.2.1, rfl⟩
theorem zd_14_62_128 : zz_D zy_listing_14_62 128 (.aload_n 0) 1 129 := ⟨zg_14_62_101.2.2.2.2.2.2.2.2.1, rfl⟩
theorem zd_14_62_129 : zz_D zy_listing_14_62 129 (.aload_n 0) 1 130 := ⟨zg_14_62_101.2.2.2.2.2.2.2.2.2, rfl⟩
theorem zg_14_62_130 : (decode zy_listing_14_62.2.1 130 = .ok ((.getfield 36), 3)) ∧ (decode zy_listing_14_62.2.1 133 = .ok ((.bipush 6), 2)) ∧ (decode zy_listing_14_62.2.1 135 = .ok ((.iaload), 1)) ∧ (decode zy_listing_14_62.2.1 136 = .ok ((.invokevirtual 396), 3)) ∧ (decode zy_listing_14_62.2.1 139 = .ok ((.aload_n 0), 1)) ∧ (decode zy_listing_14_62.2.1 140 = .ok ((.bipush 12), 2)) ∧ (decode zy_listing_14_62.2.1 142 = .ok ((.invokevirtual 393), 3)) ∧ (decode zy_listing_14_62.2.1 145 = .ok ((.aload_n 0), 1)) ∧ (decode zy_listing_14_62.2.1 146 = .ok ((.ldc2_w 327), 3)) ∧ (decode zy_listing_14_62.2.1 149 = .ok ((.invokevirtual 388), 3)) := by decide +kernel
theorem zd_14_62_130 : zz_D zy_listing_14_62 130 (.getfield 36) 3 133 := ⟨zg_14_62_130.1, rfl⟩
theorem zd_14_62_133 : zz_D zy_listing_14_62 133 (.bipush 6) 2 135 := ⟨zg_14_62_130.2.1, rfl⟩
theorem zd_14_62_135 : zz_D zy_listing_14_62 135 (.iaload) 1 136 := ⟨zg_14_62_130.2.2.1, rfl⟩
theorem zd_14_62_136 : zz_D zy_listing_14_62 136 (.invokevirtual 396) 3 139 := ⟨zg_14_62_130.2.2.2.1, rfl⟩
theorem zd_14_62_139 : zz_D zy_listing_14_62 139 (.aload_n 0) 1 140 := ⟨zg_14_62_130.2.2.2.2.1, rfl⟩
theorem zd_14_62_140 : zz_D zy_listing_14_62 140 (.bipush 12) 2 142 := ⟨zg_14_62_130.2.2.2.2.2.1, rfl⟩
theorem zd_14_62_142 : zz_D zy_listing_14_62 142 (.invokevirtual 393) 3 145 := ⟨zg_14_62_130.2.2.2.2.2.2.1, rfl⟩
theorem zd_14_62_145 : zz_D zy_listing_14_62 145 (.aload_n 0) 1 146 := ⟨zg_14_62_130.2.2.2.2.2.2.2.1, rfl⟩
theorem zd_14_62_146 : zz_D zy_listing_14_62 146 (.ldc2_w 327) 3 149 := ⟨zg_14_62_130.2.2.2.2.2.2.2.2.1, rfl⟩
theorem zd_14_62_149 : zz_D zy_listing_14_62 149 (.invokevirtual 388) 3 152 := ⟨zg_14_62_130.2.2.2.2.2.2.2.2.2, rfl⟩
theorem zg_14_62_152 : (decode zy_listing_14_62.2.1 152 = .ok ((.aload_n 0), 1)) ∧ (decode zy_listing_14_62.2.1 153 = .ok ((.aload_n 0), 1)) ∧ (decode zy_listing_14_62.2.1 154 = .ok ((.getfield 36), 3)) ∧ (decode zy_listing_14_62.2.1 157 = .ok ((.bipush 7), 2)) ∧ (decode zy_listing_14_62.2.1 159 = .ok ((.iaload), 1)) ∧ (decode zy_listing_14_62.2.1 160 = .ok ((.invokevirtual 396), 3)) ∧ (decode zy_listing_14_62.2.1 163 = .ok ((.aload_n 0), 1)) ∧ (decode zy_listing_14_62.2.1 164 = .ok ((.bipush 13), 2)) ∧ (decode zy_listing_14_62.2.1 166 = .ok ((.bipush 8), 2)) ∧ (decode zy_listing_14_62.2.1 168 = .ok ((.invokevirtual 401), 3)) := by decide +kernel
theorem zd_14_62_152 : zz_D zy_listing_14_62 152 (.aload_n 0) 1 153 := ⟨zg_14_62_152.1, rfl⟩
theorem zd_14_62_153 : zz_D zy_listing_14_62 153 (.aload_n 0) 1 154 := ⟨zg_14_62_152.2.1, rfl⟩
theorem zd_14_62_154 : zz_D zy_listing_14_62 154 (.getfield 36) 3 157 := ⟨zg_14_62_152.2.2.1, rfl⟩
theorem zd_14_62_157 : zz_D zy_listing_14_62 157 (.bipush 7) 2 159 := ⟨zg_14_62_152.2.2.2.1, rfl⟩
theorem zd_14_62_159 : zz_D zy_listing_14_62 159 (.iaload) 1 160 := ⟨zg_14_62_152.2.2.2.2.1, rfl⟩
theorem zd_14_62_160 : zz_D zy_listing_14_62 160 (.invokevirtual 396) 3 163 := ⟨zg_14_62_152.2.2.2.2.2.1, rfl⟩
theorem zd_14_62_163 : zz_D zy_listing_14_62 163 (.aload_n 0) 1 164 := ⟨zg_14_62_152.2.2.2.2.2.2.1, rfl⟩
theorem zd_14_62_164 : zz_D zy_listing_14_62 164 (.bipush 13) 2 166 := ⟨zg_14_62_152.2.2.2.2.2.2.2.1, rfl⟩
theorem zd_14_62_166 : zz_D zy_listing_14_62 166 (.bipush 8) 2 168 := ⟨zg_14_62_152.2.2.2.2.2.2.2.2.1, rfl⟩
theorem zd_14_62_168 : zz_D zy_listing_14_62 168 (.invokevirtual 401) 3 171 := ⟨zg_14_62_152.2.2.2.2.2.2.2.2.2, rfl⟩
theorem zg_14_62_171 : (decode zy_listing_14_62.2.1 171 = .ok ((.aload_n 0), 1)) ∧ (decode zy_listing_14_62.2.1 172 = .ok ((.bipush 14), 2)) ∧ (decode zy_listing_14_62.2.1 174 = .ok ((.bipush 9), 2)) ∧ (decode zy_listing_14_62.2.1 176 = .ok ((.invokevirtual 401), 3)) ∧ (decode zy_listing_14_62.2.1 179 = .ok ((.aload_n 0), 1)) ∧ (decode zy_listing_14_62.2.1 180 = .ok ((.bipush 15), 2)) ∧ (decode zy_listing_14_62.2.1 182 = .ok ((.bipush 10), 2)) ∧ (decode zy_listing_14_62.2.1 184 = .ok ((.invokevirtual 401), 3)) ∧ (decode zy_listing_14_62.2.1 187 = .ok ((.aload_n 0), 1)) ∧ (decode zy_listing_14_62.2.1 188 = .ok ((.bipush 16), 2)) := by decide +kernel
theorem zd_14_62_171 : zz_D zy_listing_14_62 171 (.aload_n 0) 1 172 := ⟨zg_14_62_171.1, rfl⟩
theorem zd_14_62_172 : zz_D zy_listing_14_62 172 (.bipush 14) 2 174 := ⟨zg_14_62_171.2.1, rfl⟩
theorem zd_14_62_174 : zz_D zy_listing_14_62 174 (.bipush 9) 2 176 := ⟨zg_14_62_171.2.2.1, rfl⟩
theorem zd_14_62_176 : zz_D zy_listing_14_62 176 (.invokevirtual 401) 3 179 := ⟨zg_14_62_171.2.2.2.1, rfl⟩
theorem zd_14_62_179 : zz_D zy_listing_14_62 179 (.aload_n 0) 1 180 := ⟨zg_14_62_171.2.2.2.2.1, rfl⟩
theorem zd_14_62_180 : zz_D zy_listing_14_62 180 (.bipush 15) 2 182 := ⟨zg_14_62_171.2.2.2.2.2.1, rfl⟩
theorem zd_14_62_182 : zz_D zy_listing_14_62 182 (.bipush 10) 2 184 := ⟨zg_14_62_171.2.2.2.2.2.2.1, rfl⟩
theorem zd_14_62_184 : zz_D zy_listing_14_62 184 (.invokevirtual 401) 3 187 := ⟨zg_14_62_171.2.2.2.2.2.2.2.1, rfl⟩
theorem zd_14_62_187 : zz_D zy_listing_14_62 187 (.aload_n 0) 1 188 := ⟨zg_14_62_171.2.2.2.2.2.2.2.2.1, rfl⟩
theorem zd_14_62_188 : zz_D zy_listing_14_62 188 (.bipush 16) 2 190 := ⟨zg_14_62_171.2.2.2.2.2.2.2.2.2, rfl⟩
theorem zg_14_62_190 : (decode zy_listing_14_62.2.1 190 = .ok ((.bipush 11), 2)) ∧ (decode zy_listing_14_62.2.1 192 = .ok ((.invokevirtual 401), 3)) ∧ (decode zy_listing_14_62.2.1 195 = .ok ((.iconst 1), 1)) ∧ (decode zy_listing_14_62.2.1 196 = .ok ((.istore_n 3), 1)) ∧ (decode zy_listing_14_62.2.1 105 = .ok ((.aload_n 0), 1)) ∧ (decode zy_listing_14_62.2.1 106 = .ok ((.getfield 36), 3)) ∧ (decode zy_listing_14_62.2.1 109 = .ok ((.bipush 7), 2)) ∧ (decode zy_listing_14_62.2.1 111 = .ok ((.iaload), 1)) ∧ (decode zy_listing_14_62.2.1 112 = .ok ((Instr.ifCond .eq) 51, 3)) ∧ (decode zy_listing_14_62.2.1 68 = .ok ((.aload_n 0), 1)) := by decide +kernel
theorem zd_14_62_190 : zz_D zy_listing_14_62 190 (.bipush 11) 2 192 := ⟨zg_14_62_190.1, rfl⟩
theorem zd_14_62_192 : zz_D zy_listing_14_62 192 (.invokevirtual 401) 3 195 := ⟨zg_14_62_190.2.1, rfl⟩
theorem zd_14_62_195 : zz_D zy_listing_14_62 195 (.iconst 1) 1 196 := ⟨zg_14_62_190.2.2.1, rfl⟩
theorem zd_14_62_196 : zz_D zy_listing_14_62 196 (.istore_n 3) 1 197 := ⟨zg_14_62_190.2.2.2.1, rfl⟩
theorem zd_14_62_105 : zz_D zy_listing_14_62 105 (.aload_n 0) 1 106 := ⟨zg_14_62_190.2.2.2.2.1, rfl⟩
theorem zd_14_62_106 : zz_D zy_listing_14_62 106 (.getfield 36) 3 109 := ⟨zg_14_62_190.2.2.2.2.2.1, rfl⟩
theorem zd_14_62_109 : zz_D zy_listing_14_62 109 (.bipush 7) 2 111 := ⟨zg_14_62_190.2.2.2.2.2.2.1, rfl⟩
theorem zd_14_62_111 : zz_D zy_listing_14_62 111 (.iaload) 1 112 := ⟨zg_14_62_190.2.2.2.2.2.2.2.1, rfl⟩
theorem zd_14_62_112 : zz_B zy_listing_14_62 112 (Instr.ifCond .eq) 163 115 := ⟨51, zg_14_62_190.2.2.2.2.2.2.2.2.1, rfl, rfl⟩
theorem zd_14_62_68 : zz_D zy_listing_14_62 68 (.aload_n 0) 1 69 := ⟨zg_14_62_190.2.2.2.2.2.2.2.2.2, rfl⟩
theorem zg_14_62_69 : (decode zy_listing_14_62.2.1 69 = .ok ((.aload_n 0), 1)) ∧ (decode zy_listing_14_62.2.1 70 = .ok ((.getfield 36), 3)) ∧ (decode zy_listing_14_62.2.1 73 = .ok ((.iconst 0), 1)) ∧ (decode zy_listing_14_62.2.1 74 = .ok ((.iaload), 1)) ∧ (decode zy_listing_14_62.2.1 75 = .ok ((.invokevirtual 393), 3)) ∧ (decode zy_listing_14_62.2.1 78 = .ok (Instr.goto 10, 3)) ∧ (decode zy_listing_14_62.2.1 197 = .ok ((.iload_n 3), 1)) ∧ (decode zy_listing_14_62.2.1 198 = .ok ((.iconst 5), 1)) ∧ (decode zy_listing_14_62.2.1 199 = .ok ((Instr.if_icmp .ge) 14, 3)) ∧ (decode zy_listing_14_62.2.1 202 = .ok ((.aload_n 0), 1)) := by decide +kernel
theorem zd_14_62_69 : zz_D zy_listing_14_62 69 (.aload_n 0) 1 70 := ⟨zg_14_62_69.1, rfl⟩
theorem zd_14_62_70 : zz_D zy_listing_14_62 70 (.getfield 36) 3 73 := ⟨zg_14_62_69.2.1, rfl⟩
theorem zd_14_62_73 : zz_D zy_listing_14_62 73 (.iconst 0) 1 74 := ⟨zg_14_62_69.2.2.1, rfl⟩
theorem zd_14_62_74 : zz_D zy_listing_14_62 74 (.iaload) 1 75 := ⟨zg_14_62_69.2.2.2.1, rfl⟩
theorem zd_14_62_75 : zz_D zy_listing_14_62 75 (.invokevirtual 393) 3 78 := ⟨zg_14_62_69.2.2.2.2.1, rfl⟩
theorem zd_14_62_78 : zz_B zy_listing_14_62 78 Instr.goto 88 81 := ⟨10, zg_14_62_69.2.2.2.2.2.1, rfl, rfl⟩
theorem zd_14_62_197 : zz_D zy_listing_14_62 197 (.iload_n 3) 1 198 := ⟨zg_14_62_69.2.2.2.2.2.2.1, rfl⟩
theorem zd_14_62_198 : zz_D zy_listing_14_62 198 (.iconst 5) 1 199 := ⟨zg_14_62_69.2.2.2.2.2.2.2.1, rfl⟩
theorem zd_14_62_199 : zz_B zy_listing_14_62 199 (Instr.if_icmp .ge) 213 202 := ⟨14, zg_14_62_69.2.2.2.2.2.2.2.2.1, rfl, rfl⟩
theorem zd_14_62_202 : zz_D zy_listing_14_62 202 (.aload_n 0) 1 203 := ⟨zg_14_62_69.2.2.2.2.2.2.2.2.2, rfl⟩
theorem zg_14_62_203 : (decode zy_listing_14_62.2.1 203 = .ok ((.iload_n 3), 1)) ∧ (decode zy_listing_14_62.2.1 204 = .ok ((.invokevirtual 404), 3)) ∧ (decode zy_listing_14_62.2.1 207 = .ok ((.iinc 3 1), 3)) ∧ (decode zy_listing_14_62.2.1 210 = .ok (Instr.goto (-13), 3)) ∧ (decode zy_listing_14_62.2.1 213 = .ok ((.aload_n 0), 1)) ∧ (decode zy_listing_14_62.2.1 214 = .ok ((.ldc2_w 407), 3)) ∧ (decode zy_listing_14_62.2.1 217 = .ok ((.invokevirtual 388), 3)) ∧ (decode zy_listing_14_62.2.1 220 = .ok ((.iload_n 2), 1)) ∧ (decode zy_listing_14_62.2.1 221 = .ok ((.aload_n 0), 1)) ∧ (decode zy_listing_14_62.2.1 222 = .ok ((.getfield 385), 3)) := by decide +kernel
theorem zd_14_62_203 : zz_D zy_listing_14_62 203 (.iload_n 3) 1 204 := ⟨zg_14_62_203.1, rfl⟩
theorem zd_14_62_204 : zz_D zy_listing_14_62 204 (.invokevirtual 404) 3 207 := ⟨zg_14_62_203.2.1, rfl⟩
theorem zd_14_62_207 : zz_D zy_listing_14_62 207 (.iinc 3 1) 3 210 := ⟨zg_14_62_203.2.2.1, rfl⟩
theorem zd_14_62_210 : zz_B zy_listing_14_62 210 Instr.goto 197 213 := ⟨(-13), zg_14_62_203.2.2.2.1, rfl, rfl⟩
theorem zd_14_62_213 : zz_D zy_listing_14_62 213 (.aload_n 0) 1 214 := ⟨zg_14_62_203.2.2.2.2.1, rfl⟩
theorem zd_14_62_214 : zz_D zy_listing_14_62 214 (.ldc2_w 407) 3 217 := ⟨zg_14_62_203.2.2.2.2.2.1, rfl⟩
theorem zd_14_62_217 : zz_D zy_listing_14_62 217 (.invokevirtual 388) 3 220 := ⟨zg_14_62_203.2.2.2.2.2.2.1, rfl⟩
theorem zd_14_62_220 : zz_D zy_listing_14_62 220 (.iload_n 2) 1 221 := ⟨zg_14_62_203.2.2.2.2.2.2.2.1, rfl⟩
theorem zd_14_62_221 : zz_D zy_listing_14_62 221 (.aload_n 0) 1 222 := ⟨zg_14_62_203.2.2.2.2.2.2.2.2.1, rfl⟩
theorem zd_14_62_222 : zz_D zy_listing_14_62 222 (.getfield 385) 3 225 := ⟨zg_14_62_203.2.2.2.2.2.2.2.2.2, rfl⟩
theorem zg_14_62_225 : (decode zy_listing_14_62.2.1 225 = .ok ((Instr.if_icmp .ge) 12, 3)) ∧ (decode zy_listing_14_62.2.1 237 = .ok ((.iconst (-1)), 1)) ∧ (decode zy_listing_14_62.2.1 238 = .ok ((.ireturn), 1)) ∧ (decode zy_listing_14_62.2.1 228 = .ok ((.aload_n 0), 1)) ∧ (decode zy_listing_14_62.2.1 229 = .ok ((.getfield 82), 3)) ∧ (decode zy_listing_14_62.2.1 232 = .ok ((.iload_n 2), 1)) ∧ (decode zy_listing_14_62.2.1 233 = .ok ((.iaload), 1)) ∧ (decode zy_listing_14_62.2.1 234 = .ok (Instr.goto 4, 3)) := by decide +kernel
theorem zd_14_62_225 : zz_B zy_listing_14_62 225 (Instr.if_icmp .ge) 237 228 := ⟨12, zg_14_62_225.1, rfl, rfl⟩
theorem zd_14_62_237 : zz_D zy_listing_14_62 237 (.iconst (-1)) 1 238 := ⟨zg_14_62_225.2.1, rfl⟩
theorem zd_14_62_238 : zz_D zy_listing_14_62 238 (.ireturn) 1 239 := ⟨zg_14_62_225.2.2.1, rfl⟩
theorem zd_14_62_228 : zz_D zy_listing_14_62 228 (.aload_n 0) 1 229 := ⟨zg_14_62_225.2.2.2.1, rfl⟩
theorem zd_14_62_229 : zz_D zy_listing_14_62 229 (.getfield 82) 3 232 := ⟨zg_14_62_225.2.2.2.2.1, rfl⟩
theorem zd_14_62_232 : zz_D zy_listing_14_62 232 (.iload_n 2) 1 233 := ⟨zg_14_62_225.2.2.2.2.2.1, rfl⟩
theorem zd_14_62_233 : zz_D zy_listing_14_62 233 (.iaload) 1 234 := ⟨zg_14_62_225.2.2.2.2.2.2.1, rfl⟩
theorem zd_14_62_234 : zz_B zy_listing_14_62 234 Instr.goto 238 237 := ⟨4, zg_14_62_225.2.2.2.2.2.2.2, rfl, rfl⟩
-- TensorForgeModel listing (II)I
abbrev zr_listing_14_62 : Room := { frames := 3, cells := 0, slots := 0, locals := 49 }
def zp_listing_14_62 (p0 : Int) (p1 : Int) (S0 : zz_S) : Int → zz_S → Prop := fun r S => zz_G S ∧ zz_fr [(1079, 0), (1079, 34), (1087, 0), (1087, 1), (1087, 2), (1087, 3), (1087, 4), (1087, 5), (1087, 6), (1087, 7), (1087, 8), (1087, 9), (1087, 10), (1087, 11)] [1101] (fun _ _ => False) S0 S ∧ ((-2147483648) ≤ r ∧ r ≤ 2147483647)
theorem zb_listing_14_62_197 {g : mm_G} {l : Launch} (p0 : Int) (p1 : Int) (S0 : zz_S) (n : Nat) (hn : zz_end ≤ n) (G_S0 : zz_G S0) (hp0 : (-2147483648) ≤ p0 ∧ p0 ≤ 2147483647) (hp1 : (-2147483648) ≤ p1 ∧ p1 ≤ 2147483647) (x3 : Int) (S : zz_S) (G_S : zz_G S) (F_S : zz_fr [(1079, 0), (1079, 34), (1087, 0), (1087, 1), (1087, 2), (1087, 3), (1087, 4), (1087, 5), (1087, 6), (1087, 7), (1087, 8), (1087, 9), (1087, 10), (1087, 11)] [1101] (fun _ _ => False) S0 S) (i197_0 : 1 ≤ x3 ∧ x3 ≤ 5) (i197_1 : 0 ≤ p0 ∧ p0 ≤ (S0 1079 7) - 1) (i197_2 : p1 ≥ 0) (i197_3 : 0 ≤ p0 ∧ p0 ≤ 599) (i197_4 : 0 ≤ p1 ∧ p1 ≤ 2147483647) (i197_5 : S 1079 34 ≤ 107 + 18 * (x3 - 1)) (R : Nat) (hR : (5 - x3).toNat = R) (k197 : ∀ (x3 : Int) (S : zz_S), zz_G S → zz_fr [(1079, 0), (1079, 34), (1087, 0), (1087, 1), (1087, 2), (1087, 3), (1087, 4), (1087, 5), (1087, 6), (1087, 7), (1087, 8), (1087, 9), (1087, 10), (1087, 11)] [1101] (fun _ _ => False) S0 S → (1 ≤ x3 ∧ x3 ≤ 5) → (0 ≤ p0 ∧ p0 ≤ (S0 1079 7) - 1) → (p1 ≥ 0) → (0 ≤ p0 ∧ p0 ≤ 599) → (0 ≤ p1 ∧ p1 ≤ 2147483647) → (S 1079 34 ≤ 107 + 18 * (x3 - 1)) → (5 - x3).toNat < R → zz_E g l zy_listing_14_62 zr_listing_14_62 (zz_QI n (zp_listing_14_62 p0 p1 S0)) S n 197 [some (.ref 1079), none, some (zi p1), some (zi x3)] [] 0 0) : zz_E g l zy_listing_14_62 zr_listing_14_62 (zz_QI n (zp_listing_14_62 p0 p1 S0)) S n 197 [some (.ref 1079), none, some (zi p1), some (zi x3)] [] 0 0 := by
  refine zz_iload_n (x := x3) rfl zd_14_62_197 ?_
  refine zz_iconst zd_14_62_198 ?_
  refine zz_icmp_ge (by omega) (by omega) zd_14_62_199 (fun c321 => ?_) (fun c321 => ?_)
  · refine zz_aload_n (x := 1079) rfl zd_14_62_213 ?_
    refine zz_ldc2 (z := 10) zq_Md_407 (by decide) zd_14_62_214 ?_
    have g322 := zz_G.r G_S 1079 34 0 200 rfl rfl
    refine zz_callVV [zl 10] zd_14_62_217 zk_Md_388 zT_1079 (zz_ltn hn rfl) rfl rfl ⟨Nat.le_of_ble_eq_true rfl, Nat.le_of_ble_eq_true rfl⟩ ⟨rfl, rfl⟩ (Nat.zero_le _) (Nat.zero_le _) (zc_say_14_57 10 S n hn G_S (by omega) (by omega)) (fun S323 hP => ?_)
    obtain ⟨G_S323, fS323, o325⟩ := hP
    have F_S323 := zz_fr.trans F_S fS323 rfl zz_nv
    refine zz_iload_n (x := p1) rfl zd_14_62_220 ?_
    refine zz_aload_n (x := 1079) rfl zd_14_62_221 ?_
    have g326 := zz_G.r G_S323 1079 34 0 200 rfl rfl
    refine zz_geti (z := S323 1079 34) zd_14_62_222 zf_Md_385 zT_1079 rfl (zz_ltn hn rfl) rfl ?_
    refine zz_icmp_ge (by omega) (by omega) zd_14_62_225 (fun c327 => ?_) (fun c327 => ?_)
    · refine zz_iconst zd_14_62_237 ?_
      exact zz_iret zd_14_62_238 rfl (Nat.zero_le _) (Nat.zero_le _) ⟨_, _, rfl, G_S323, F_S323, by omega⟩
    · refine zz_aload_n (x := 1079) rfl zd_14_62_228 ?_
      refine zz_getr (kd := 0) (z := 1101) zd_14_62_229 zf_Md_82 zT_1079 rfl (zz_ltn hn rfl) (zz_G.eq G_S323 1079 35 1101 rfl rfl) (by decide) 1101 rfl ?_
      refine zz_iload_n (x := p1) rfl zd_14_62_232 ?_
      have g328 := zz_G.r G_S323 1101 p1.toNat (-2147483648) 2147483647 rfl rfl
      refine zz_iald (z := S323 1101 p1.toNat) zd_14_62_233 zT_1101 rfl (zz_ltn hn rfl) (by decide) (by omega) rfl ?_
      refine zz_goto zd_14_62_234 ?_
      exact zz_iret zd_14_62_238 rfl (Nat.zero_le _) (Nat.zero_le _) ⟨_, _, rfl, G_S323, F_S323, by omega⟩
  · refine zz_aload_n (x := 1079) rfl zd_14_62_202 ?_
    refine zz_iload_n (x := x3) rfl zd_14_62_203 ?_
    have g329 := zz_G.r G_S 1079 34 0 200 rfl rfl
    refine zz_callVV [zi x3] zd_14_62_204 zk_Md_404 zT_1079 (zz_ltn hn rfl) rfl rfl ⟨Nat.le_of_ble_eq_true rfl, Nat.le_of_ble_eq_true rfl⟩ ⟨rfl, rfl⟩ (Nat.zero_le _) (Nat.zero_le _) (zc_sayFlag_14_61 x3 S n hn G_S (by omega) (by omega)) (fun S330 hP => ?_)
    obtain ⟨G_S330, fS330, o332, o333⟩ := hP
    have F_S330 := zz_fr.trans F_S fS330 rfl zz_nv
    refine zz_iinc [some (.ref 1079), none, some (zi p1), some (zi (x3 + 1))] zd_14_62_207 rfl rfl ?_
    refine zz_goto zd_14_62_210 ?_
    have g334 := zz_G.r G_S330 1079 34 0 200 rfl rfl
    refine zz_less (ls1 := [some (.ref 1079), none, some (zi p1), some (zi (x3 + 1))]) ⟨rfl, ⟨rfl, ⟨rfl, trivial⟩⟩⟩ ?_
    exact k197 (x3 + 1) S330 G_S330 F_S330 (by omega) (by omega) (by omega) (by omega) (by omega) (by omega) (by omega)
theorem zi_listing_14_62 {g : mm_G} {l : Launch} (p0 : Int) (p1 : Int) (S0 : zz_S) (n : Nat) (hn : zz_end ≤ n) (G_S0 : zz_G S0) (hp0 : (-2147483648) ≤ p0 ∧ p0 ≤ 2147483647) (hp1 : (-2147483648) ≤ p1 ∧ p1 ≤ 2147483647) : ∀ N : Nat, (∀ (x3 : Int) (S : zz_S), zz_G S → zz_fr [(1079, 0), (1079, 34), (1087, 0), (1087, 1), (1087, 2), (1087, 3), (1087, 4), (1087, 5), (1087, 6), (1087, 7), (1087, 8), (1087, 9), (1087, 10), (1087, 11)] [1101] (fun _ _ => False) S0 S → (1 ≤ x3 ∧ x3 ≤ 5) → (0 ≤ p0 ∧ p0 ≤ (S0 1079 7) - 1) → (p1 ≥ 0) → (0 ≤ p0 ∧ p0 ≤ 599) → (0 ≤ p1 ∧ p1 ≤ 2147483647) → (S 1079 34 ≤ 107 + 18 * (x3 - 1)) → (5 - x3).toNat < N → zz_E g l zy_listing_14_62 zr_listing_14_62 (zz_QI n (zp_listing_14_62 p0 p1 S0)) S n 197 [some (.ref 1079), none, some (zi p1), some (zi x3)] [] 0 0) := by
  intro N
  induction N with
  | zero => exact fun x3 S _ _ _ _ _ _ _ _ h => absurd h (Nat.not_lt_zero _)
  | succ N ih =>
    exact fun x3 S a b j0 j1 j2 j3 j4 j5 hR => zb_listing_14_62_197 p0 p1 S0 n hn G_S0 hp0 hp1 x3 S a b j0 j1 j2 j3 j4 j5 _ rfl (fun x3 S a b j0 j1 j2 j3 j4 j5 h => ih x3 S a b j0 j1 j2 j3 j4 j5 (Nat.lt_of_lt_of_le h (Nat.le_of_lt_succ hR)))
theorem zc_listing_14_62 {g : mm_G} {l : Launch} (p0 : Int) (p1 : Int) (S0 : zz_S) (n : Nat) (hn : zz_end ≤ n) (G_S0 : zz_G S0) (hp0 : (-2147483648) ≤ p0 ∧ p0 ≤ 2147483647) (hp1 : (-2147483648) ≤ p1 ∧ p1 ≤ 2147483647) : mm_Met g l zy_listing_14_62 zr_listing_14_62 [.ref 1079, zi p0, zi p1] (zz_M S0 n) n (zz_QI n (zp_listing_14_62 p0 p1 S0)) := by
  refine zz_enter (by decide) (Nat.le_of_ble_eq_true rfl) (zz_less (ls1 := [some (.ref 1079), some (zi p0), some (zi p1)]) ⟨rfl, ⟨rfl, ⟨rfl, trivial⟩⟩⟩ ?_)
  have F_S0 : zz_fr [(1079, 0), (1079, 34), (1087, 0), (1087, 1), (1087, 2), (1087, 3), (1087, 4), (1087, 5), (1087, 6), (1087, 7), (1087, 8), (1087, 9), (1087, 10), (1087, 11)] [1101] (fun _ _ => False) S0 S0 := zz_fr.refl
  have k197 : ∀ (x3 : Int) (S : zz_S), zz_G S → zz_fr [(1079, 0), (1079, 34), (1087, 0), (1087, 1), (1087, 2), (1087, 3), (1087, 4), (1087, 5), (1087, 6), (1087, 7), (1087, 8), (1087, 9), (1087, 10), (1087, 11)] [1101] (fun _ _ => False) S0 S → (1 ≤ x3 ∧ x3 ≤ 5) → (0 ≤ p0 ∧ p0 ≤ (S0 1079 7) - 1) → (p1 ≥ 0) → (0 ≤ p0 ∧ p0 ≤ 599) → (0 ≤ p1 ∧ p1 ≤ 2147483647) → (S 1079 34 ≤ 107 + 18 * (x3 - 1)) → zz_E g l zy_listing_14_62 zr_listing_14_62 (zz_QI n (zp_listing_14_62 p0 p1 S0)) S n 197 [some (.ref 1079), none, some (zi p1), some (zi x3)] [] 0 0 := fun x3 S a b j0 j1 j2 j3 j4 j5 => (zi_listing_14_62 (g := g) (l := l) p0 p1 S0 n hn G_S0 hp0 hp1 _) x3 S a b j0 j1 j2 j3 j4 j5 (Nat.lt_succ_self _)
  refine zz_aload_n (x := 1079) rfl zd_14_62_0 ?_
  refine zz_iload_n (x := p0) rfl zd_14_62_1 ?_
  refine zz_i2l (by omega) zd_14_62_2 ?_
  refine zz_lconst (z := 0) (by decide) zd_14_62_3 ?_
  refine zz_aload_n (x := 1079) rfl zd_14_62_4 ?_
  have g1 := zz_G.r G_S0 1079 7 0 600 rfl rfl
  refine zz_geti (z := S0 1079 7) zd_14_62_5 zf_Md_224 zT_1079 rfl (zz_ltn hn rfl) rfl ?_
  refine zz_iconst zd_14_62_8 ?_
  refine zz_isub zd_14_62_9 ?_
  refine zz_i2l (by omega) zd_14_62_10 ?_
  refine zz_callSI [zl p0, zl 0, zl ((S0 1079 7) - 1)] zd_14_62_11 zk_Md_192 rfl rfl ⟨Nat.le_of_ble_eq_true rfl, Nat.le_of_ble_eq_true rfl⟩ ⟨rfl, rfl⟩ (Nat.zero_le _) (Nat.zero_le _) (zc_in_14_4 p0 0 ((S0 1079 7) - 1) S0 n hn G_S0 (by omega) (by omega) (by omega)) (fun v3 S2 hP => ?_)
  obtain ⟨rfl, o4, o5⟩ := hP
  rcases (by omega : v3 = 0 ∨ v3 = 1) with rfl | rfl
  · have n6 : p0 < 0 ∨ (S0 1079 7) - 1 < p0 := by omega
    clear o5
    refine zz_if_eq (by omega) zd_14_62_14 (fun c7 => ?_) (fun c7 => ?_)
    · refine zz_iconst zd_14_62_21 ?_
      refine zz_goto zd_14_62_22 ?_
      refine zz_iconst zd_14_62_26 ?_
      refine zz_iconst zd_14_62_27 ?_
      refine zz_callVI [zi 1, zi 0, zi 0] zd_14_62_28 zk_Md_196 zT_1079 (zz_ltn hn rfl) rfl rfl ⟨Nat.le_of_ble_eq_true rfl, Nat.le_of_ble_eq_true rfl⟩ ⟨rfl, rfl⟩ (Nat.zero_le _) (Nat.zero_le _) (zc_refuse_14_3 1 0 0 S0 n hn G_S0 (by omega) (by omega) (by omega)) (fun v9 S8 hP => ?_)
      obtain ⟨G_S8, fS8, o10, o11⟩ := hP
      have F_S8 := zz_fr.trans F_S0 fS8 rfl zz_nv
      rcases (by omega : v9 = 0 ∨ v9 = 1) with rfl | rfl
      · exfalso; omega
      · have e12 : S8 1079 0 = 1 := by omega
        clear o11
        refine zz_if_eq (by omega) zd_14_62_31 (fun c13 => ?_) (fun c13 => ?_)
        · exfalso; omega
        · refine zz_iconst zd_14_62_34 ?_
          exact zz_iret zd_14_62_35 rfl (Nat.zero_le _) (Nat.zero_le _) ⟨_, _, rfl, G_S8, F_S8, by omega⟩
    · exfalso; omega
  · have n14 : 0 ≤ p0 ∧ p0 ≤ (S0 1079 7) - 1 := by omega
    clear o5
    refine zz_if_eq (by omega) zd_14_62_14 (fun c15 => ?_) (fun c15 => ?_)
    · exfalso; omega
    · refine zz_iload_n (x := p1) rfl zd_14_62_17 ?_
      refine zz_if_ge (by omega) zd_14_62_18 (fun c16 => ?_) (fun c16 => ?_)
      · refine zz_iconst zd_14_62_25 ?_
        refine zz_iconst zd_14_62_26 ?_
        refine zz_iconst zd_14_62_27 ?_
        refine zz_callVI [zi 0, zi 0, zi 0] zd_14_62_28 zk_Md_196 zT_1079 (zz_ltn hn rfl) rfl rfl ⟨Nat.le_of_ble_eq_true rfl, Nat.le_of_ble_eq_true rfl⟩ ⟨rfl, rfl⟩ (Nat.zero_le _) (Nat.zero_le _) (zc_refuse_14_3 0 0 0 S0 n hn G_S0 (by omega) (by omega) (by omega)) (fun v18 S17 hP => ?_)
        obtain ⟨G_S17, fS17, o19, o20⟩ := hP
        have F_S17 := zz_fr.trans F_S0 fS17 rfl zz_nv
        rcases (by omega : v18 = 0 ∨ v18 = 1) with rfl | rfl
        · have e21 : S17 1079 0 = 0 := by omega
          clear o20
          refine zz_if_eq (by omega) zd_14_62_31 (fun c22 => ?_) (fun c22 => ?_)
          · refine zz_aload_n (x := 1079) rfl zd_14_62_36 ?_
            refine zz_aload_n (x := 1079) rfl zd_14_62_37 ?_
            refine zz_getr (kd := 0) (z := 1085) zd_14_62_38 zf_Md_29 zT_1079 rfl (zz_ltn hn rfl) (zz_G.eq G_S17 1079 8 1085 rfl rfl) (by decide) 1085 rfl ?_
            refine zz_iload_n (x := p0) rfl zd_14_62_41 ?_
            have g23 := zz_G.r G_S0 1085 p0.toNat (-9223372036854775808) 9223372036854775807 rfl rfl
            refine zz_lald (z := S0 1085 p0.toNat) zd_14_62_42 zT_1085 rfl (zz_ltn hn rfl) (by decide) (by omega) (zz_rc fS17 (zz_nc1 rfl) rfl (fun h => h) rfl) ?_
            refine zz_callVV [zl (S0 1085 p0.toNat)] zd_14_62_43 zk_Md_234 zT_1079 (zz_ltn hn rfl) rfl rfl ⟨Nat.le_of_ble_eq_true rfl, Nat.le_of_ble_eq_true rfl⟩ ⟨rfl, rfl⟩ (Nat.zero_le _) (Nat.zero_le _) (zc_take_14_18 (S0 1085 p0.toNat) S17 n hn G_S17 (by omega)) (fun S24 hP => ?_)
            obtain ⟨G_S24, fS24, o26, o27, o28, o29, o30, o31, o32, o33, o34, o35, o36, o37⟩ := hP
            have F_S24 := zz_fr.trans F_S17 fS24 rfl zz_nv
            refine zz_aload_n (x := 1079) rfl zd_14_62_46 ?_
            refine zz_iconst zd_14_62_47 ?_
            refine zz_puti zd_14_62_48 zf_Md_385 zT_1079 rfl (zz_ltn hn rfl) (fun S38 qS38 => ?_)
            have G_S38 := zz_G.put G_S24 qS38 0 200 rfl (by omega)
            have F_S38 := zz_fr.puts F_S24 qS38 rfl
            refine zz_aload_n (x := 1079) rfl zd_14_62_51 ?_
            refine zz_getr (kd := 0) (z := 1087) zd_14_62_52 zf_Md_36 zT_1079 rfl (zz_ltn hn rfl) (zz_G.eq G_S38 1079 11 1087 rfl rfl) (by decide) 1087 rfl ?_
            refine zz_iconst zd_14_62_55 ?_
            have g39 := zz_G.r G_S24 1087 0 (-2147483648) 2147483647 rfl rfl
            refine zz_iald (z := S24 1087 0) zd_14_62_56 zT_1087 rfl (zz_ltn hn rfl) (by decide) (by decide) (zz_ro qS38 (fun h => absurd h.1 (by decide)) rfl) ?_
            refine zz_i2l (by omega) zd_14_62_57 ?_
            refine zz_lconst (z := 1) (by decide) zd_14_62_58 ?_
            refine zz_ldc2 (z := 9) zq_Md_238 (by decide) zd_14_62_59 ?_
            refine zz_callSI [zl (S24 1087 0), zl 1, zl 9] zd_14_62_62 zk_Md_192 rfl rfl ⟨Nat.le_of_ble_eq_true rfl, Nat.le_of_ble_eq_true rfl⟩ ⟨rfl, rfl⟩ (Nat.zero_le _) (Nat.zero_le _) (zc_in_14_4 (S24 1087 0) 1 9 S38 n hn G_S38 (by omega) (by omega) (by omega)) (fun v41 S40 hP => ?_)
            obtain ⟨rfl, o42, o43⟩ := hP
            rcases (by omega : v41 = 0 ∨ v41 = 1) with rfl | rfl
            · have n44 : S24 1087 0 < 1 ∨ 9 < S24 1087 0 := by omega
              clear o43
              refine zz_if_eq (by omega) zd_14_62_65 (fun c45 => ?_) (fun c45 => ?_)
              · refine zz_aload_n (x := 1079) rfl zd_14_62_81 ?_
                refine zz_ldc2 (z := 63) zq_Md_399 (by decide) zd_14_62_82 ?_
                have e46 : S38 1079 34 = 0 := (zz_rs qS38)
                refine zz_callVV [zl 63] zd_14_62_85 zk_Md_388 zT_1079 (zz_ltn hn rfl) rfl rfl ⟨Nat.le_of_ble_eq_true rfl, Nat.le_of_ble_eq_true rfl⟩ ⟨rfl, rfl⟩ (Nat.zero_le _) (Nat.zero_le _) (zc_say_14_57 63 S38 n hn G_S38 (by omega) (by omega)) (fun S47 hP => ?_)
                obtain ⟨G_S47, fS47, o49⟩ := hP
                have F_S47 := zz_fr.trans F_S38 fS47 rfl zz_nv
                refine zz_aload_n (x := 1079) rfl zd_14_62_88 ?_
                refine zz_bipush (by decide) zd_14_62_89 ?_
                refine zz_iconst zd_14_62_91 ?_
                have g50 := zz_G.r G_S47 1079 34 0 200 rfl rfl
                refine zz_callVV [zi 10, zi 5] zd_14_62_92 zk_Md_401 zT_1079 (zz_ltn hn rfl) rfl rfl ⟨Nat.le_of_ble_eq_true rfl, Nat.le_of_ble_eq_true rfl⟩ ⟨rfl, rfl⟩ (Nat.zero_le _) (Nat.zero_le _) (zc_sayField_14_60 10 5 S47 n hn G_S47 (by omega) (by omega) (by omega)) (fun S51 hP => ?_)
                obtain ⟨G_S51, fS51, o53, o54⟩ := hP
                have F_S51 := zz_fr.trans F_S47 fS51 rfl zz_nv
                refine zz_aload_n (x := 1079) rfl zd_14_62_95 ?_
                refine zz_getr (kd := 0) (z := 1087) zd_14_62_96 zf_Md_36 zT_1079 rfl (zz_ltn hn rfl) (zz_G.eq G_S51 1079 11 1087 rfl rfl) (by decide) 1087 rfl ?_
                refine zz_bipush (by decide) zd_14_62_99 ?_
                have g55 := zz_G.r G_S24 1087 6 (-2147483648) 2147483647 rfl rfl
                refine zz_iald (z := S24 1087 6) zd_14_62_101 zT_1087 rfl (zz_ltn hn rfl) (by decide) (by decide) (zz_rc fS51 (zz_nc1 rfl) rfl (fun h => h) (zz_rc fS47 (zz_nc1 rfl) rfl (fun h => h) (zz_ro qS38 (fun h => absurd h.1 (by decide)) rfl))) ?_
                refine zz_if_ne (by omega) zd_14_62_102 (fun c56 => ?_) (fun c56 => ?_)
                · refine zz_aload_n (x := 1079) rfl zd_14_62_115 ?_
                  refine zz_bipush (by decide) zd_14_62_116 ?_
                  have g57 := zz_G.r G_S51 1079 34 0 200 rfl rfl
                  refine zz_callVV [zi 11] zd_14_62_118 zk_Md_393 zT_1079 (zz_ltn hn rfl) rfl rfl ⟨Nat.le_of_ble_eq_true rfl, Nat.le_of_ble_eq_true rfl⟩ ⟨rfl, rfl⟩ (Nat.zero_le _) (Nat.zero_le _) (zc_sayWord_14_58 11 S51 n hn G_S51 (by omega) (by omega)) (fun S58 hP => ?_)
                  obtain ⟨G_S58, fS58, o60, o61⟩ := hP
                  have F_S58 := zz_fr.trans F_S51 fS58 rfl zz_nv
                  refine zz_aload_n (x := 1079) rfl zd_14_62_121 ?_
                  refine zz_ldc2 (z := 32) zq_Md_327 (by decide) zd_14_62_122 ?_
                  have g62 := zz_G.r G_S58 1079 34 0 200 rfl rfl
                  refine zz_callVV [zl 32] zd_14_62_125 zk_Md_388 zT_1079 (zz_ltn hn rfl) rfl rfl ⟨Nat.le_of_ble_eq_true rfl, Nat.le_of_ble_eq_true rfl⟩ ⟨rfl, rfl⟩ (Nat.zero_le _) (Nat.zero_le _) (zc_say_14_57 32 S58 n hn G_S58 (by omega) (by omega)) (fun S63 hP => ?_)
                  obtain ⟨G_S63, fS63, o65⟩ := hP
                  have F_S63 := zz_fr.trans F_S58 fS63 rfl zz_nv
                  refine zz_aload_n (x := 1079) rfl zd_14_62_128 ?_
                  refine zz_aload_n (x := 1079) rfl zd_14_62_129 ?_
                  refine zz_getr (kd := 0) (z := 1087) zd_14_62_130 zf_Md_36 zT_1079 rfl (zz_ltn hn rfl) (zz_G.eq G_S63 1079 11 1087 rfl rfl) (by decide) 1087 rfl ?_
                  refine zz_bipush (by decide) zd_14_62_133 ?_
                  refine zz_iald (z := S24 1087 6) zd_14_62_135 zT_1087 rfl (zz_ltn hn rfl) (by decide) (by decide) (zz_rc fS63 (zz_nc1 rfl) rfl (fun h => h) (zz_rc fS58 (zz_nc1 rfl) rfl (fun h => h) (zz_rc fS51 (zz_nc1 rfl) rfl (fun h => h) (zz_rc fS47 (zz_nc1 rfl) rfl (fun h => h) (zz_ro qS38 (fun h => absurd h.1 (by decide)) rfl))))) ?_
                  have g66 := zz_G.r G_S63 1079 34 0 200 rfl rfl
                  refine zz_callVV [zi (S24 1087 6)] zd_14_62_136 zk_Md_396 zT_1079 (zz_ltn hn rfl) rfl rfl ⟨Nat.le_of_ble_eq_true rfl, Nat.le_of_ble_eq_true rfl⟩ ⟨rfl, rfl⟩ (Nat.zero_le _) (Nat.zero_le _) (zc_sayNumber_14_59 (S24 1087 6) S63 n hn G_S63 (by omega) (by omega)) (fun S67 hP => ?_)
                  obtain ⟨G_S67, fS67, o69, o70⟩ := hP
                  have F_S67 := zz_fr.trans F_S63 fS67 rfl zz_nv
                  refine zz_aload_n (x := 1079) rfl zd_14_62_139 ?_
                  refine zz_bipush (by decide) zd_14_62_140 ?_
                  have g71 := zz_G.r G_S67 1079 34 0 200 rfl rfl
                  refine zz_callVV [zi 12] zd_14_62_142 zk_Md_393 zT_1079 (zz_ltn hn rfl) rfl rfl ⟨Nat.le_of_ble_eq_true rfl, Nat.le_of_ble_eq_true rfl⟩ ⟨rfl, rfl⟩ (Nat.zero_le _) (Nat.zero_le _) (zc_sayWord_14_58 12 S67 n hn G_S67 (by omega) (by omega)) (fun S72 hP => ?_)
                  obtain ⟨G_S72, fS72, o74, o75⟩ := hP
                  have F_S72 := zz_fr.trans F_S67 fS72 rfl zz_nv
                  refine zz_aload_n (x := 1079) rfl zd_14_62_145 ?_
                  refine zz_ldc2 (z := 32) zq_Md_327 (by decide) zd_14_62_146 ?_
                  have g76 := zz_G.r G_S72 1079 34 0 200 rfl rfl
                  refine zz_callVV [zl 32] zd_14_62_149 zk_Md_388 zT_1079 (zz_ltn hn rfl) rfl rfl ⟨Nat.le_of_ble_eq_true rfl, Nat.le_of_ble_eq_true rfl⟩ ⟨rfl, rfl⟩ (Nat.zero_le _) (Nat.zero_le _) (zc_say_14_57 32 S72 n hn G_S72 (by omega) (by omega)) (fun S77 hP => ?_)
                  obtain ⟨G_S77, fS77, o79⟩ := hP
                  have F_S77 := zz_fr.trans F_S72 fS77 rfl zz_nv
                  refine zz_aload_n (x := 1079) rfl zd_14_62_152 ?_
                  refine zz_aload_n (x := 1079) rfl zd_14_62_153 ?_
                  refine zz_getr (kd := 0) (z := 1087) zd_14_62_154 zf_Md_36 zT_1079 rfl (zz_ltn hn rfl) (zz_G.eq G_S77 1079 11 1087 rfl rfl) (by decide) 1087 rfl ?_
                  refine zz_bipush (by decide) zd_14_62_157 ?_
                  have g80 := zz_G.r G_S24 1087 7 (-2147483648) 2147483647 rfl rfl
                  refine zz_iald (z := S24 1087 7) zd_14_62_159 zT_1087 rfl (zz_ltn hn rfl) (by decide) (by decide) (zz_rc fS77 (zz_nc1 rfl) rfl (fun h => h) (zz_rc fS72 (zz_nc1 rfl) rfl (fun h => h) (zz_rc fS67 (zz_nc1 rfl) rfl (fun h => h) (zz_rc fS63 (zz_nc1 rfl) rfl (fun h => h) (zz_rc fS58 (zz_nc1 rfl) rfl (fun h => h) (zz_rc fS51 (zz_nc1 rfl) rfl (fun h => h) (zz_rc fS47 (zz_nc1 rfl) rfl (fun h => h) (zz_ro qS38 (fun h => absurd h.1 (by decide)) rfl)))))))) ?_
                  have g81 := zz_G.r G_S77 1079 34 0 200 rfl rfl
                  refine zz_callVV [zi (S24 1087 7)] zd_14_62_160 zk_Md_396 zT_1079 (zz_ltn hn rfl) rfl rfl ⟨Nat.le_of_ble_eq_true rfl, Nat.le_of_ble_eq_true rfl⟩ ⟨rfl, rfl⟩ (Nat.zero_le _) (Nat.zero_le _) (zc_sayNumber_14_59 (S24 1087 7) S77 n hn G_S77 (by omega) (by omega)) (fun S82 hP => ?_)
                  obtain ⟨G_S82, fS82, o84, o85⟩ := hP
                  have F_S82 := zz_fr.trans F_S77 fS82 rfl zz_nv
                  refine zz_aload_n (x := 1079) rfl zd_14_62_163 ?_
                  refine zz_bipush (by decide) zd_14_62_164 ?_
                  refine zz_bipush (by decide) zd_14_62_166 ?_
                  have g86 := zz_G.r G_S82 1079 34 0 200 rfl rfl
                  refine zz_callVV [zi 13, zi 8] zd_14_62_168 zk_Md_401 zT_1079 (zz_ltn hn rfl) rfl rfl ⟨Nat.le_of_ble_eq_true rfl, Nat.le_of_ble_eq_true rfl⟩ ⟨rfl, rfl⟩ (Nat.zero_le _) (Nat.zero_le _) (zc_sayField_14_60 13 8 S82 n hn G_S82 (by omega) (by omega) (by omega)) (fun S87 hP => ?_)
                  obtain ⟨G_S87, fS87, o89, o90⟩ := hP
                  have F_S87 := zz_fr.trans F_S82 fS87 rfl zz_nv
                  refine zz_aload_n (x := 1079) rfl zd_14_62_171 ?_
                  refine zz_bipush (by decide) zd_14_62_172 ?_
                  refine zz_bipush (by decide) zd_14_62_174 ?_
                  have g91 := zz_G.r G_S87 1079 34 0 200 rfl rfl
                  refine zz_callVV [zi 14, zi 9] zd_14_62_176 zk_Md_401 zT_1079 (zz_ltn hn rfl) rfl rfl ⟨Nat.le_of_ble_eq_true rfl, Nat.le_of_ble_eq_true rfl⟩ ⟨rfl, rfl⟩ (Nat.zero_le _) (Nat.zero_le _) (zc_sayField_14_60 14 9 S87 n hn G_S87 (by omega) (by omega) (by omega)) (fun S92 hP => ?_)
                  obtain ⟨G_S92, fS92, o94, o95⟩ := hP
                  have F_S92 := zz_fr.trans F_S87 fS92 rfl zz_nv
                  refine zz_aload_n (x := 1079) rfl zd_14_62_179 ?_
                  refine zz_bipush (by decide) zd_14_62_180 ?_
                  refine zz_bipush (by decide) zd_14_62_182 ?_
                  have g96 := zz_G.r G_S92 1079 34 0 200 rfl rfl
                  refine zz_callVV [zi 15, zi 10] zd_14_62_184 zk_Md_401 zT_1079 (zz_ltn hn rfl) rfl rfl ⟨Nat.le_of_ble_eq_true rfl, Nat.le_of_ble_eq_true rfl⟩ ⟨rfl, rfl⟩ (Nat.zero_le _) (Nat.zero_le _) (zc_sayField_14_60 15 10 S92 n hn G_S92 (by omega) (by omega) (by omega)) (fun S97 hP => ?_)
                  obtain ⟨G_S97, fS97, o99, o100⟩ := hP
                  have F_S97 := zz_fr.trans F_S92 fS97 rfl zz_nv
                  refine zz_aload_n (x := 1079) rfl zd_14_62_187 ?_
                  refine zz_bipush (by decide) zd_14_62_188 ?_
                  refine zz_bipush (by decide) zd_14_62_190 ?_
                  have g101 := zz_G.r G_S97 1079 34 0 200 rfl rfl
                  refine zz_callVV [zi 16, zi 11] zd_14_62_192 zk_Md_401 zT_1079 (zz_ltn hn rfl) rfl rfl ⟨Nat.le_of_ble_eq_true rfl, Nat.le_of_ble_eq_true rfl⟩ ⟨rfl, rfl⟩ (Nat.zero_le _) (Nat.zero_le _) (zc_sayField_14_60 16 11 S97 n hn G_S97 (by omega) (by omega) (by omega)) (fun S102 hP => ?_)
                  obtain ⟨G_S102, fS102, o104, o105⟩ := hP
                  have F_S102 := zz_fr.trans F_S97 fS102 rfl zz_nv
                  refine zz_iconst zd_14_62_195 ?_
                  refine zz_istore_n [some (.ref 1079), some (zi p0), some (zi p1), some (zi 1)] zd_14_62_196 (by decide) rfl ?_
                  have g106 := zz_G.r G_S102 1079 34 0 200 rfl rfl
                  refine zz_less (ls1 := [some (.ref 1079), none, some (zi p1), some (zi 1)]) ⟨rfl, ⟨rfl, ⟨rfl, trivial⟩⟩⟩ ?_
                  exact k197 1 S102 G_S102 F_S102 (by omega) (by omega) (by omega) (by omega) (by omega) (by omega)
                · refine zz_aload_n (x := 1079) rfl zd_14_62_105 ?_
                  refine zz_getr (kd := 0) (z := 1087) zd_14_62_106 zf_Md_36 zT_1079 rfl (zz_ltn hn rfl) (zz_G.eq G_S51 1079 11 1087 rfl rfl) (by decide) 1087 rfl ?_
                  refine zz_bipush (by decide) zd_14_62_109 ?_
                  have g107 := zz_G.r G_S24 1087 7 (-2147483648) 2147483647 rfl rfl
                  refine zz_iald (z := S24 1087 7) zd_14_62_111 zT_1087 rfl (zz_ltn hn rfl) (by decide) (by decide) (zz_rc fS51 (zz_nc1 rfl) rfl (fun h => h) (zz_rc fS47 (zz_nc1 rfl) rfl (fun h => h) (zz_ro qS38 (fun h => absurd h.1 (by decide)) rfl))) ?_
                  refine zz_if_eq (by omega) zd_14_62_112 (fun c108 => ?_) (fun c108 => ?_)
                  · refine zz_aload_n (x := 1079) rfl zd_14_62_163 ?_
                    refine zz_bipush (by decide) zd_14_62_164 ?_
                    refine zz_bipush (by decide) zd_14_62_166 ?_
                    have g109 := zz_G.r G_S51 1079 34 0 200 rfl rfl
                    refine zz_callVV [zi 13, zi 8] zd_14_62_168 zk_Md_401 zT_1079 (zz_ltn hn rfl) rfl rfl ⟨Nat.le_of_ble_eq_true rfl, Nat.le_of_ble_eq_true rfl⟩ ⟨rfl, rfl⟩ (Nat.zero_le _) (Nat.zero_le _) (zc_sayField_14_60 13 8 S51 n hn G_S51 (by omega) (by omega) (by omega)) (fun S110 hP => ?_)
                    obtain ⟨G_S110, fS110, o112, o113⟩ := hP
                    have F_S110 := zz_fr.trans F_S51 fS110 rfl zz_nv
                    refine zz_aload_n (x := 1079) rfl zd_14_62_171 ?_
                    refine zz_bipush (by decide) zd_14_62_172 ?_
                    refine zz_bipush (by decide) zd_14_62_174 ?_
                    have g114 := zz_G.r G_S110 1079 34 0 200 rfl rfl
                    refine zz_callVV [zi 14, zi 9] zd_14_62_176 zk_Md_401 zT_1079 (zz_ltn hn rfl) rfl rfl ⟨Nat.le_of_ble_eq_true rfl, Nat.le_of_ble_eq_true rfl⟩ ⟨rfl, rfl⟩ (Nat.zero_le _) (Nat.zero_le _) (zc_sayField_14_60 14 9 S110 n hn G_S110 (by omega) (by omega) (by omega)) (fun S115 hP => ?_)
                    obtain ⟨G_S115, fS115, o117, o118⟩ := hP
                    have F_S115 := zz_fr.trans F_S110 fS115 rfl zz_nv
                    refine zz_aload_n (x := 1079) rfl zd_14_62_179 ?_
                    refine zz_bipush (by decide) zd_14_62_180 ?_
                    refine zz_bipush (by decide) zd_14_62_182 ?_
                    have g119 := zz_G.r G_S115 1079 34 0 200 rfl rfl
                    refine zz_callVV [zi 15, zi 10] zd_14_62_184 zk_Md_401 zT_1079 (zz_ltn hn rfl) rfl rfl ⟨Nat.le_of_ble_eq_true rfl, Nat.le_of_ble_eq_true rfl⟩ ⟨rfl, rfl⟩ (Nat.zero_le _) (Nat.zero_le _) (zc_sayField_14_60 15 10 S115 n hn G_S115 (by omega) (by omega) (by omega)) (fun S120 hP => ?_)
                    obtain ⟨G_S120, fS120, o122, o123⟩ := hP
                    have F_S120 := zz_fr.trans F_S115 fS120 rfl zz_nv
                    refine zz_aload_n (x := 1079) rfl zd_14_62_187 ?_
                    refine zz_bipush (by decide) zd_14_62_188 ?_
                    refine zz_bipush (by decide) zd_14_62_190 ?_
                    have g124 := zz_G.r G_S120 1079 34 0 200 rfl rfl
                    refine zz_callVV [zi 16, zi 11] zd_14_62_192 zk_Md_401 zT_1079 (zz_ltn hn rfl) rfl rfl ⟨Nat.le_of_ble_eq_true rfl, Nat.le_of_ble_eq_true rfl⟩ ⟨rfl, rfl⟩ (Nat.zero_le _) (Nat.zero_le _) (zc_sayField_14_60 16 11 S120 n hn G_S120 (by omega) (by omega) (by omega)) (fun S125 hP => ?_)
                    obtain ⟨G_S125, fS125, o127, o128⟩ := hP
                    have F_S125 := zz_fr.trans F_S120 fS125 rfl zz_nv
                    refine zz_iconst zd_14_62_195 ?_
                    refine zz_istore_n [some (.ref 1079), some (zi p0), some (zi p1), some (zi 1)] zd_14_62_196 (by decide) rfl ?_
                    have g129 := zz_G.r G_S125 1079 34 0 200 rfl rfl
                    refine zz_less (ls1 := [some (.ref 1079), none, some (zi p1), some (zi 1)]) ⟨rfl, ⟨rfl, ⟨rfl, trivial⟩⟩⟩ ?_
                    exact k197 1 S125 G_S125 F_S125 (by omega) (by omega) (by omega) (by omega) (by omega) (by omega)
                  · refine zz_aload_n (x := 1079) rfl zd_14_62_115 ?_
                    refine zz_bipush (by decide) zd_14_62_116 ?_
                    have g130 := zz_G.r G_S51 1079 34 0 200 rfl rfl
                    refine zz_callVV [zi 11] zd_14_62_118 zk_Md_393 zT_1079 (zz_ltn hn rfl) rfl rfl ⟨Nat.le_of_ble_eq_true rfl, Nat.le_of_ble_eq_true rfl⟩ ⟨rfl, rfl⟩ (Nat.zero_le _) (Nat.zero_le _) (zc_sayWord_14_58 11 S51 n hn G_S51 (by omega) (by omega)) (fun S131 hP => ?_)
                    obtain ⟨G_S131, fS131, o133, o134⟩ := hP
                    have F_S131 := zz_fr.trans F_S51 fS131 rfl zz_nv
                    refine zz_aload_n (x := 1079) rfl zd_14_62_121 ?_
                    refine zz_ldc2 (z := 32) zq_Md_327 (by decide) zd_14_62_122 ?_
                    have g135 := zz_G.r G_S131 1079 34 0 200 rfl rfl
                    refine zz_callVV [zl 32] zd_14_62_125 zk_Md_388 zT_1079 (zz_ltn hn rfl) rfl rfl ⟨Nat.le_of_ble_eq_true rfl, Nat.le_of_ble_eq_true rfl⟩ ⟨rfl, rfl⟩ (Nat.zero_le _) (Nat.zero_le _) (zc_say_14_57 32 S131 n hn G_S131 (by omega) (by omega)) (fun S136 hP => ?_)
                    obtain ⟨G_S136, fS136, o138⟩ := hP
                    have F_S136 := zz_fr.trans F_S131 fS136 rfl zz_nv
                    refine zz_aload_n (x := 1079) rfl zd_14_62_128 ?_
                    refine zz_aload_n (x := 1079) rfl zd_14_62_129 ?_
                    refine zz_getr (kd := 0) (z := 1087) zd_14_62_130 zf_Md_36 zT_1079 rfl (zz_ltn hn rfl) (zz_G.eq G_S136 1079 11 1087 rfl rfl) (by decide) 1087 rfl ?_
                    refine zz_bipush (by decide) zd_14_62_133 ?_
                    refine zz_iald (z := S24 1087 6) zd_14_62_135 zT_1087 rfl (zz_ltn hn rfl) (by decide) (by decide) (zz_rc fS136 (zz_nc1 rfl) rfl (fun h => h) (zz_rc fS131 (zz_nc1 rfl) rfl (fun h => h) (zz_rc fS51 (zz_nc1 rfl) rfl (fun h => h) (zz_rc fS47 (zz_nc1 rfl) rfl (fun h => h) (zz_ro qS38 (fun h => absurd h.1 (by decide)) rfl))))) ?_
                    have g139 := zz_G.r G_S136 1079 34 0 200 rfl rfl
                    refine zz_callVV [zi (S24 1087 6)] zd_14_62_136 zk_Md_396 zT_1079 (zz_ltn hn rfl) rfl rfl ⟨Nat.le_of_ble_eq_true rfl, Nat.le_of_ble_eq_true rfl⟩ ⟨rfl, rfl⟩ (Nat.zero_le _) (Nat.zero_le _) (zc_sayNumber_14_59 (S24 1087 6) S136 n hn G_S136 (by omega) (by omega)) (fun S140 hP => ?_)
                    obtain ⟨G_S140, fS140, o142, o143⟩ := hP
                    have F_S140 := zz_fr.trans F_S136 fS140 rfl zz_nv
                    refine zz_aload_n (x := 1079) rfl zd_14_62_139 ?_
                    refine zz_bipush (by decide) zd_14_62_140 ?_
                    have g144 := zz_G.r G_S140 1079 34 0 200 rfl rfl
                    refine zz_callVV [zi 12] zd_14_62_142 zk_Md_393 zT_1079 (zz_ltn hn rfl) rfl rfl ⟨Nat.le_of_ble_eq_true rfl, Nat.le_of_ble_eq_true rfl⟩ ⟨rfl, rfl⟩ (Nat.zero_le _) (Nat.zero_le _) (zc_sayWord_14_58 12 S140 n hn G_S140 (by omega) (by omega)) (fun S145 hP => ?_)
                    obtain ⟨G_S145, fS145, o147, o148⟩ := hP
                    have F_S145 := zz_fr.trans F_S140 fS145 rfl zz_nv
                    refine zz_aload_n (x := 1079) rfl zd_14_62_145 ?_
                    refine zz_ldc2 (z := 32) zq_Md_327 (by decide) zd_14_62_146 ?_
                    have g149 := zz_G.r G_S145 1079 34 0 200 rfl rfl
                    refine zz_callVV [zl 32] zd_14_62_149 zk_Md_388 zT_1079 (zz_ltn hn rfl) rfl rfl ⟨Nat.le_of_ble_eq_true rfl, Nat.le_of_ble_eq_true rfl⟩ ⟨rfl, rfl⟩ (Nat.zero_le _) (Nat.zero_le _) (zc_say_14_57 32 S145 n hn G_S145 (by omega) (by omega)) (fun S150 hP => ?_)
                    obtain ⟨G_S150, fS150, o152⟩ := hP
                    have F_S150 := zz_fr.trans F_S145 fS150 rfl zz_nv
                    refine zz_aload_n (x := 1079) rfl zd_14_62_152 ?_
                    refine zz_aload_n (x := 1079) rfl zd_14_62_153 ?_
                    refine zz_getr (kd := 0) (z := 1087) zd_14_62_154 zf_Md_36 zT_1079 rfl (zz_ltn hn rfl) (zz_G.eq G_S150 1079 11 1087 rfl rfl) (by decide) 1087 rfl ?_
                    refine zz_bipush (by decide) zd_14_62_157 ?_
                    refine zz_iald (z := S24 1087 7) zd_14_62_159 zT_1087 rfl (zz_ltn hn rfl) (by decide) (by decide) (zz_rc fS150 (zz_nc1 rfl) rfl (fun h => h) (zz_rc fS145 (zz_nc1 rfl) rfl (fun h => h) (zz_rc fS140 (zz_nc1 rfl) rfl (fun h => h) (zz_rc fS136 (zz_nc1 rfl) rfl (fun h => h) (zz_rc fS131 (zz_nc1 rfl) rfl (fun h => h) (zz_rc fS51 (zz_nc1 rfl) rfl (fun h => h) (zz_rc fS47 (zz_nc1 rfl) rfl (fun h => h) (zz_ro qS38 (fun h => absurd h.1 (by decide)) rfl)))))))) ?_
                    have g153 := zz_G.r G_S150 1079 34 0 200 rfl rfl
                    refine zz_callVV [zi (S24 1087 7)] zd_14_62_160 zk_Md_396 zT_1079 (zz_ltn hn rfl) rfl rfl ⟨Nat.le_of_ble_eq_true rfl, Nat.le_of_ble_eq_true rfl⟩ ⟨rfl, rfl⟩ (Nat.zero_le _) (Nat.zero_le _) (zc_sayNumber_14_59 (S24 1087 7) S150 n hn G_S150 (by omega) (by omega)) (fun S154 hP => ?_)
                    obtain ⟨G_S154, fS154, o156, o157⟩ := hP
                    have F_S154 := zz_fr.trans F_S150 fS154 rfl zz_nv
                    refine zz_aload_n (x := 1079) rfl zd_14_62_163 ?_
                    refine zz_bipush (by decide) zd_14_62_164 ?_
                    refine zz_bipush (by decide) zd_14_62_166 ?_
                    have g158 := zz_G.r G_S154 1079 34 0 200 rfl rfl
                    refine zz_callVV [zi 13, zi 8] zd_14_62_168 zk_Md_401 zT_1079 (zz_ltn hn rfl) rfl rfl ⟨Nat.le_of_ble_eq_true rfl, Nat.le_of_ble_eq_true rfl⟩ ⟨rfl, rfl⟩ (Nat.zero_le _) (Nat.zero_le _) (zc_sayField_14_60 13 8 S154 n hn G_S154 (by omega) (by omega) (by omega)) (fun S159 hP => ?_)
                    obtain ⟨G_S159, fS159, o161, o162⟩ := hP
                    have F_S159 := zz_fr.trans F_S154 fS159 rfl zz_nv
                    refine zz_aload_n (x := 1079) rfl zd_14_62_171 ?_
                    refine zz_bipush (by decide) zd_14_62_172 ?_
                    refine zz_bipush (by decide) zd_14_62_174 ?_
                    have g163 := zz_G.r G_S159 1079 34 0 200 rfl rfl
                    refine zz_callVV [zi 14, zi 9] zd_14_62_176 zk_Md_401 zT_1079 (zz_ltn hn rfl) rfl rfl ⟨Nat.le_of_ble_eq_true rfl, Nat.le_of_ble_eq_true rfl⟩ ⟨rfl, rfl⟩ (Nat.zero_le _) (Nat.zero_le _) (zc_sayField_14_60 14 9 S159 n hn G_S159 (by omega) (by omega) (by omega)) (fun S164 hP => ?_)
                    obtain ⟨G_S164, fS164, o166, o167⟩ := hP
                    have F_S164 := zz_fr.trans F_S159 fS164 rfl zz_nv
                    refine zz_aload_n (x := 1079) rfl zd_14_62_179 ?_
                    refine zz_bipush (by decide) zd_14_62_180 ?_
                    refine zz_bipush (by decide) zd_14_62_182 ?_
                    have g168 := zz_G.r G_S164 1079 34 0 200 rfl rfl
                    refine zz_callVV [zi 15, zi 10] zd_14_62_184 zk_Md_401 zT_1079 (zz_ltn hn rfl) rfl rfl ⟨Nat.le_of_ble_eq_true rfl, Nat.le_of_ble_eq_true rfl⟩ ⟨rfl, rfl⟩ (Nat.zero_le _) (Nat.zero_le _) (zc_sayField_14_60 15 10 S164 n hn G_S164 (by omega) (by omega) (by omega)) (fun S169 hP => ?_)
                    obtain ⟨G_S169, fS169, o171, o172⟩ := hP
                    have F_S169 := zz_fr.trans F_S164 fS169 rfl zz_nv
                    refine zz_aload_n (x := 1079) rfl zd_14_62_187 ?_
                    refine zz_bipush (by decide) zd_14_62_188 ?_
                    refine zz_bipush (by decide) zd_14_62_190 ?_
                    have g173 := zz_G.r G_S169 1079 34 0 200 rfl rfl
                    refine zz_callVV [zi 16, zi 11] zd_14_62_192 zk_Md_401 zT_1079 (zz_ltn hn rfl) rfl rfl ⟨Nat.le_of_ble_eq_true rfl, Nat.le_of_ble_eq_true rfl⟩ ⟨rfl, rfl⟩ (Nat.zero_le _) (Nat.zero_le _) (zc_sayField_14_60 16 11 S169 n hn G_S169 (by omega) (by omega) (by omega)) (fun S174 hP => ?_)
                    obtain ⟨G_S174, fS174, o176, o177⟩ := hP
                    have F_S174 := zz_fr.trans F_S169 fS174 rfl zz_nv
                    refine zz_iconst zd_14_62_195 ?_
                    refine zz_istore_n [some (.ref 1079), some (zi p0), some (zi p1), some (zi 1)] zd_14_62_196 (by decide) rfl ?_
                    have g178 := zz_G.r G_S174 1079 34 0 200 rfl rfl
                    refine zz_less (ls1 := [some (.ref 1079), none, some (zi p1), some (zi 1)]) ⟨rfl, ⟨rfl, ⟨rfl, trivial⟩⟩⟩ ?_
                    exact k197 1 S174 G_S174 F_S174 (by omega) (by omega) (by omega) (by omega) (by omega) (by omega)
              · exfalso; omega
            · have n179 : 1 ≤ S24 1087 0 ∧ S24 1087 0 ≤ 9 := by omega
              clear o43
              refine zz_if_eq (by omega) zd_14_62_65 (fun c180 => ?_) (fun c180 => ?_)
              · exfalso; omega
              · refine zz_aload_n (x := 1079) rfl zd_14_62_68 ?_
                refine zz_aload_n (x := 1079) rfl zd_14_62_69 ?_
                refine zz_getr (kd := 0) (z := 1087) zd_14_62_70 zf_Md_36 zT_1079 rfl (zz_ltn hn rfl) (zz_G.eq G_S38 1079 11 1087 rfl rfl) (by decide) 1087 rfl ?_
                refine zz_iconst zd_14_62_73 ?_
                refine zz_iald (z := S24 1087 0) zd_14_62_74 zT_1087 rfl (zz_ltn hn rfl) (by decide) (by decide) (zz_ro qS38 (fun h => absurd h.1 (by decide)) rfl) ?_
                have e181 : S38 1079 34 = 0 := (zz_rs qS38)
                refine zz_callVV [zi (S24 1087 0)] zd_14_62_75 zk_Md_393 zT_1079 (zz_ltn hn rfl) rfl rfl ⟨Nat.le_of_ble_eq_true rfl, Nat.le_of_ble_eq_true rfl⟩ ⟨rfl, rfl⟩ (Nat.zero_le _) (Nat.zero_le _) (zc_sayWord_14_58 (S24 1087 0) S38 n hn G_S38 (by omega) (by omega)) (fun S182 hP => ?_)
                obtain ⟨G_S182, fS182, o184, o185⟩ := hP
                have F_S182 := zz_fr.trans F_S38 fS182 rfl zz_nv
                refine zz_goto zd_14_62_78 ?_
                refine zz_aload_n (x := 1079) rfl zd_14_62_88 ?_
                refine zz_bipush (by decide) zd_14_62_89 ?_
                refine zz_iconst zd_14_62_91 ?_
                have g186 := zz_G.r G_S182 1079 34 0 200 rfl rfl
                refine zz_callVV [zi 10, zi 5] zd_14_62_92 zk_Md_401 zT_1079 (zz_ltn hn rfl) rfl rfl ⟨Nat.le_of_ble_eq_true rfl, Nat.le_of_ble_eq_true rfl⟩ ⟨rfl, rfl⟩ (Nat.zero_le _) (Nat.zero_le _) (zc_sayField_14_60 10 5 S182 n hn G_S182 (by omega) (by omega) (by omega)) (fun S187 hP => ?_)
                obtain ⟨G_S187, fS187, o189, o190⟩ := hP
                have F_S187 := zz_fr.trans F_S182 fS187 rfl zz_nv
                refine zz_aload_n (x := 1079) rfl zd_14_62_95 ?_
                refine zz_getr (kd := 0) (z := 1087) zd_14_62_96 zf_Md_36 zT_1079 rfl (zz_ltn hn rfl) (zz_G.eq G_S187 1079 11 1087 rfl rfl) (by decide) 1087 rfl ?_
                refine zz_bipush (by decide) zd_14_62_99 ?_
                have g191 := zz_G.r G_S24 1087 6 (-2147483648) 2147483647 rfl rfl
                refine zz_iald (z := S24 1087 6) zd_14_62_101 zT_1087 rfl (zz_ltn hn rfl) (by decide) (by decide) (zz_rc fS187 (zz_nc1 rfl) rfl (fun h => h) (zz_rc fS182 (zz_nc1 rfl) rfl (fun h => h) (zz_ro qS38 (fun h => absurd h.1 (by decide)) rfl))) ?_
                refine zz_if_ne (by omega) zd_14_62_102 (fun c192 => ?_) (fun c192 => ?_)
                · refine zz_aload_n (x := 1079) rfl zd_14_62_115 ?_
                  refine zz_bipush (by decide) zd_14_62_116 ?_
                  have g193 := zz_G.r G_S187 1079 34 0 200 rfl rfl
                  refine zz_callVV [zi 11] zd_14_62_118 zk_Md_393 zT_1079 (zz_ltn hn rfl) rfl rfl ⟨Nat.le_of_ble_eq_true rfl, Nat.le_of_ble_eq_true rfl⟩ ⟨rfl, rfl⟩ (Nat.zero_le _) (Nat.zero_le _) (zc_sayWord_14_58 11 S187 n hn G_S187 (by omega) (by omega)) (fun S194 hP => ?_)
                  obtain ⟨G_S194, fS194, o196, o197⟩ := hP
                  have F_S194 := zz_fr.trans F_S187 fS194 rfl zz_nv
                  refine zz_aload_n (x := 1079) rfl zd_14_62_121 ?_
                  refine zz_ldc2 (z := 32) zq_Md_327 (by decide) zd_14_62_122 ?_
                  have g198 := zz_G.r G_S194 1079 34 0 200 rfl rfl
                  refine zz_callVV [zl 32] zd_14_62_125 zk_Md_388 zT_1079 (zz_ltn hn rfl) rfl rfl ⟨Nat.le_of_ble_eq_true rfl, Nat.le_of_ble_eq_true rfl⟩ ⟨rfl, rfl⟩ (Nat.zero_le _) (Nat.zero_le _) (zc_say_14_57 32 S194 n hn G_S194 (by omega) (by omega)) (fun S199 hP => ?_)
                  obtain ⟨G_S199, fS199, o201⟩ := hP
                  have F_S199 := zz_fr.trans F_S194 fS199 rfl zz_nv
                  refine zz_aload_n (x := 1079) rfl zd_14_62_128 ?_
                  refine zz_aload_n (x := 1079) rfl zd_14_62_129 ?_
                  refine zz_getr (kd := 0) (z := 1087) zd_14_62_130 zf_Md_36 zT_1079 rfl (zz_ltn hn rfl) (zz_G.eq G_S199 1079 11 1087 rfl rfl) (by decide) 1087 rfl ?_
                  refine zz_bipush (by decide) zd_14_62_133 ?_
                  refine zz_iald (z := S24 1087 6) zd_14_62_135 zT_1087 rfl (zz_ltn hn rfl) (by decide) (by decide) (zz_rc fS199 (zz_nc1 rfl) rfl (fun h => h) (zz_rc fS194 (zz_nc1 rfl) rfl (fun h => h) (zz_rc fS187 (zz_nc1 rfl) rfl (fun h => h) (zz_rc fS182 (zz_nc1 rfl) rfl (fun h => h) (zz_ro qS38 (fun h => absurd h.1 (by decide)) rfl))))) ?_
                  have g202 := zz_G.r G_S199 1079 34 0 200 rfl rfl
                  refine zz_callVV [zi (S24 1087 6)] zd_14_62_136 zk_Md_396 zT_1079 (zz_ltn hn rfl) rfl rfl ⟨Nat.le_of_ble_eq_true rfl, Nat.le_of_ble_eq_true rfl⟩ ⟨rfl, rfl⟩ (Nat.zero_le _) (Nat.zero_le _) (zc_sayNumber_14_59 (S24 1087 6) S199 n hn G_S199 (by omega) (by omega)) (fun S203 hP => ?_)
                  obtain ⟨G_S203, fS203, o205, o206⟩ := hP
                  have F_S203 := zz_fr.trans F_S199 fS203 rfl zz_nv
                  refine zz_aload_n (x := 1079) rfl zd_14_62_139 ?_
                  refine zz_bipush (by decide) zd_14_62_140 ?_
                  have g207 := zz_G.r G_S203 1079 34 0 200 rfl rfl
                  refine zz_callVV [zi 12] zd_14_62_142 zk_Md_393 zT_1079 (zz_ltn hn rfl) rfl rfl ⟨Nat.le_of_ble_eq_true rfl, Nat.le_of_ble_eq_true rfl⟩ ⟨rfl, rfl⟩ (Nat.zero_le _) (Nat.zero_le _) (zc_sayWord_14_58 12 S203 n hn G_S203 (by omega) (by omega)) (fun S208 hP => ?_)
                  obtain ⟨G_S208, fS208, o210, o211⟩ := hP
                  have F_S208 := zz_fr.trans F_S203 fS208 rfl zz_nv
                  refine zz_aload_n (x := 1079) rfl zd_14_62_145 ?_
                  refine zz_ldc2 (z := 32) zq_Md_327 (by decide) zd_14_62_146 ?_
                  have g212 := zz_G.r G_S208 1079 34 0 200 rfl rfl
                  refine zz_callVV [zl 32] zd_14_62_149 zk_Md_388 zT_1079 (zz_ltn hn rfl) rfl rfl ⟨Nat.le_of_ble_eq_true rfl, Nat.le_of_ble_eq_true rfl⟩ ⟨rfl, rfl⟩ (Nat.zero_le _) (Nat.zero_le _) (zc_say_14_57 32 S208 n hn G_S208 (by omega) (by omega)) (fun S213 hP => ?_)
                  obtain ⟨G_S213, fS213, o215⟩ := hP
                  have F_S213 := zz_fr.trans F_S208 fS213 rfl zz_nv
                  refine zz_aload_n (x := 1079) rfl zd_14_62_152 ?_
                  refine zz_aload_n (x := 1079) rfl zd_14_62_153 ?_
                  refine zz_getr (kd := 0) (z := 1087) zd_14_62_154 zf_Md_36 zT_1079 rfl (zz_ltn hn rfl) (zz_G.eq G_S213 1079 11 1087 rfl rfl) (by decide) 1087 rfl ?_
                  refine zz_bipush (by decide) zd_14_62_157 ?_
                  have g216 := zz_G.r G_S24 1087 7 (-2147483648) 2147483647 rfl rfl
                  refine zz_iald (z := S24 1087 7) zd_14_62_159 zT_1087 rfl (zz_ltn hn rfl) (by decide) (by decide) (zz_rc fS213 (zz_nc1 rfl) rfl (fun h => h) (zz_rc fS208 (zz_nc1 rfl) rfl (fun h => h) (zz_rc fS203 (zz_nc1 rfl) rfl (fun h => h) (zz_rc fS199 (zz_nc1 rfl) rfl (fun h => h) (zz_rc fS194 (zz_nc1 rfl) rfl (fun h => h) (zz_rc fS187 (zz_nc1 rfl) rfl (fun h => h) (zz_rc fS182 (zz_nc1 rfl) rfl (fun h => h) (zz_ro qS38 (fun h => absurd h.1 (by decide)) rfl)))))))) ?_
                  have g217 := zz_G.r G_S213 1079 34 0 200 rfl rfl
                  refine zz_callVV [zi (S24 1087 7)] zd_14_62_160 zk_Md_396 zT_1079 (zz_ltn hn rfl) rfl rfl ⟨Nat.le_of_ble_eq_true rfl, Nat.le_of_ble_eq_true rfl⟩ ⟨rfl, rfl⟩ (Nat.zero_le _) (Nat.zero_le _) (zc_sayNumber_14_59 (S24 1087 7) S213 n hn G_S213 (by omega) (by omega)) (fun S218 hP => ?_)
                  obtain ⟨G_S218, fS218, o220, o221⟩ := hP
                  have F_S218 := zz_fr.trans F_S213 fS218 rfl zz_nv
                  refine zz_aload_n (x := 1079) rfl zd_14_62_163 ?_
                  refine zz_bipush (by decide) zd_14_62_164 ?_
                  refine zz_bipush (by decide) zd_14_62_166 ?_
                  have g222 := zz_G.r G_S218 1079 34 0 200 rfl rfl
                  refine zz_callVV [zi 13, zi 8] zd_14_62_168 zk_Md_401 zT_1079 (zz_ltn hn rfl) rfl rfl ⟨Nat.le_of_ble_eq_true rfl, Nat.le_of_ble_eq_true rfl⟩ ⟨rfl, rfl⟩ (Nat.zero_le _) (Nat.zero_le _) (zc_sayField_14_60 13 8 S218 n hn G_S218 (by omega) (by omega) (by omega)) (fun S223 hP => ?_)
                  obtain ⟨G_S223, fS223, o225, o226⟩ := hP
                  have F_S223 := zz_fr.trans F_S218 fS223 rfl zz_nv
                  refine zz_aload_n (x := 1079) rfl zd_14_62_171 ?_
                  refine zz_bipush (by decide) zd_14_62_172 ?_
                  refine zz_bipush (by decide) zd_14_62_174 ?_
                  have g227 := zz_G.r G_S223 1079 34 0 200 rfl rfl
                  refine zz_callVV [zi 14, zi 9] zd_14_62_176 zk_Md_401 zT_1079 (zz_ltn hn rfl) rfl rfl ⟨Nat.le_of_ble_eq_true rfl, Nat.le_of_ble_eq_true rfl⟩ ⟨rfl, rfl⟩ (Nat.zero_le _) (Nat.zero_le _) (zc_sayField_14_60 14 9 S223 n hn G_S223 (by omega) (by omega) (by omega)) (fun S228 hP => ?_)
                  obtain ⟨G_S228, fS228, o230, o231⟩ := hP
                  have F_S228 := zz_fr.trans F_S223 fS228 rfl zz_nv
                  refine zz_aload_n (x := 1079) rfl zd_14_62_179 ?_
                  refine zz_bipush (by decide) zd_14_62_180 ?_
                  refine zz_bipush (by decide) zd_14_62_182 ?_
                  have g232 := zz_G.r G_S228 1079 34 0 200 rfl rfl
                  refine zz_callVV [zi 15, zi 10] zd_14_62_184 zk_Md_401 zT_1079 (zz_ltn hn rfl) rfl rfl ⟨Nat.le_of_ble_eq_true rfl, Nat.le_of_ble_eq_true rfl⟩ ⟨rfl, rfl⟩ (Nat.zero_le _) (Nat.zero_le _) (zc_sayField_14_60 15 10 S228 n hn G_S228 (by omega) (by omega) (by omega)) (fun S233 hP => ?_)
                  obtain ⟨G_S233, fS233, o235, o236⟩ := hP
                  have F_S233 := zz_fr.trans F_S228 fS233 rfl zz_nv
                  refine zz_aload_n (x := 1079) rfl zd_14_62_187 ?_
                  refine zz_bipush (by decide) zd_14_62_188 ?_
                  refine zz_bipush (by decide) zd_14_62_190 ?_
                  have g237 := zz_G.r G_S233 1079 34 0 200 rfl rfl
                  refine zz_callVV [zi 16, zi 11] zd_14_62_192 zk_Md_401 zT_1079 (zz_ltn hn rfl) rfl rfl ⟨Nat.le_of_ble_eq_true rfl, Nat.le_of_ble_eq_true rfl⟩ ⟨rfl, rfl⟩ (Nat.zero_le _) (Nat.zero_le _) (zc_sayField_14_60 16 11 S233 n hn G_S233 (by omega) (by omega) (by omega)) (fun S238 hP => ?_)
                  obtain ⟨G_S238, fS238, o240, o241⟩ := hP
                  have F_S238 := zz_fr.trans F_S233 fS238 rfl zz_nv
                  refine zz_iconst zd_14_62_195 ?_
                  refine zz_istore_n [some (.ref 1079), some (zi p0), some (zi p1), some (zi 1)] zd_14_62_196 (by decide) rfl ?_
                  have g242 := zz_G.r G_S238 1079 34 0 200 rfl rfl
                  refine zz_less (ls1 := [some (.ref 1079), none, some (zi p1), some (zi 1)]) ⟨rfl, ⟨rfl, ⟨rfl, trivial⟩⟩⟩ ?_
                  exact k197 1 S238 G_S238 F_S238 (by omega) (by omega) (by omega) (by omega) (by omega) (by omega)
                · refine zz_aload_n (x := 1079) rfl zd_14_62_105 ?_
                  refine zz_getr (kd := 0) (z := 1087) zd_14_62_106 zf_Md_36 zT_1079 rfl (zz_ltn hn rfl) (zz_G.eq G_S187 1079 11 1087 rfl rfl) (by decide) 1087 rfl ?_
                  refine zz_bipush (by decide) zd_14_62_109 ?_
                  have g243 := zz_G.r G_S24 1087 7 (-2147483648) 2147483647 rfl rfl
                  refine zz_iald (z := S24 1087 7) zd_14_62_111 zT_1087 rfl (zz_ltn hn rfl) (by decide) (by decide) (zz_rc fS187 (zz_nc1 rfl) rfl (fun h => h) (zz_rc fS182 (zz_nc1 rfl) rfl (fun h => h) (zz_ro qS38 (fun h => absurd h.1 (by decide)) rfl))) ?_
                  refine zz_if_eq (by omega) zd_14_62_112 (fun c244 => ?_) (fun c244 => ?_)
                  · refine zz_aload_n (x := 1079) rfl zd_14_62_163 ?_
                    refine zz_bipush (by decide) zd_14_62_164 ?_
                    refine zz_bipush (by decide) zd_14_62_166 ?_
                    have g245 := zz_G.r G_S187 1079 34 0 200 rfl rfl
                    refine zz_callVV [zi 13, zi 8] zd_14_62_168 zk_Md_401 zT_1079 (zz_ltn hn rfl) rfl rfl ⟨Nat.le_of_ble_eq_true rfl, Nat.le_of_ble_eq_true rfl⟩ ⟨rfl, rfl⟩ (Nat.zero_le _) (Nat.zero_le _) (zc_sayField_14_60 13 8 S187 n hn G_S187 (by omega) (by omega) (by omega)) (fun S246 hP => ?_)
                    obtain ⟨G_S246, fS246, o248, o249⟩ := hP
                    have F_S246 := zz_fr.trans F_S187 fS246 rfl zz_nv
                    refine zz_aload_n (x := 1079) rfl zd_14_62_171 ?_
                    refine zz_bipush (by decide) zd_14_62_172 ?_
                    refine zz_bipush (by decide) zd_14_62_174 ?_
                    have g250 := zz_G.r G_S246 1079 34 0 200 rfl rfl
                    refine zz_callVV [zi 14, zi 9] zd_14_62_176 zk_Md_401 zT_1079 (zz_ltn hn rfl) rfl rfl ⟨Nat.le_of_ble_eq_true rfl, Nat.le_of_ble_eq_true rfl⟩ ⟨rfl, rfl⟩ (Nat.zero_le _) (Nat.zero_le _) (zc_sayField_14_60 14 9 S246 n hn G_S246 (by omega) (by omega) (by omega)) (fun S251 hP => ?_)
                    obtain ⟨G_S251, fS251, o253, o254⟩ := hP
                    have F_S251 := zz_fr.trans F_S246 fS251 rfl zz_nv
                    refine zz_aload_n (x := 1079) rfl zd_14_62_179 ?_
                    refine zz_bipush (by decide) zd_14_62_180 ?_
                    refine zz_bipush (by decide) zd_14_62_182 ?_
                    have g255 := zz_G.r G_S251 1079 34 0 200 rfl rfl
                    refine zz_callVV [zi 15, zi 10] zd_14_62_184 zk_Md_401 zT_1079 (zz_ltn hn rfl) rfl rfl ⟨Nat.le_of_ble_eq_true rfl, Nat.le_of_ble_eq_true rfl⟩ ⟨rfl, rfl⟩ (Nat.zero_le _) (Nat.zero_le _) (zc_sayField_14_60 15 10 S251 n hn G_S251 (by omega) (by omega) (by omega)) (fun S256 hP => ?_)
                    obtain ⟨G_S256, fS256, o258, o259⟩ := hP
                    have F_S256 := zz_fr.trans F_S251 fS256 rfl zz_nv
                    refine zz_aload_n (x := 1079) rfl zd_14_62_187 ?_
                    refine zz_bipush (by decide) zd_14_62_188 ?_
                    refine zz_bipush (by decide) zd_14_62_190 ?_
                    have g260 := zz_G.r G_S256 1079 34 0 200 rfl rfl
                    refine zz_callVV [zi 16, zi 11] zd_14_62_192 zk_Md_401 zT_1079 (zz_ltn hn rfl) rfl rfl ⟨Nat.le_of_ble_eq_true rfl, Nat.le_of_ble_eq_true rfl⟩ ⟨rfl, rfl⟩ (Nat.zero_le _) (Nat.zero_le _) (zc_sayField_14_60 16 11 S256 n hn G_S256 (by omega) (by omega) (by omega)) (fun S261 hP => ?_)
                    obtain ⟨G_S261, fS261, o263, o264⟩ := hP
                    have F_S261 := zz_fr.trans F_S256 fS261 rfl zz_nv
                    refine zz_iconst zd_14_62_195 ?_
                    refine zz_istore_n [some (.ref 1079), some (zi p0), some (zi p1), some (zi 1)] zd_14_62_196 (by decide) rfl ?_
                    have g265 := zz_G.r G_S261 1079 34 0 200 rfl rfl
                    refine zz_less (ls1 := [some (.ref 1079), none, some (zi p1), some (zi 1)]) ⟨rfl, ⟨rfl, ⟨rfl, trivial⟩⟩⟩ ?_
                    exact k197 1 S261 G_S261 F_S261 (by omega) (by omega) (by omega) (by omega) (by omega) (by omega)
                  · refine zz_aload_n (x := 1079) rfl zd_14_62_115 ?_
                    refine zz_bipush (by decide) zd_14_62_116 ?_
                    have g266 := zz_G.r G_S187 1079 34 0 200 rfl rfl
                    refine zz_callVV [zi 11] zd_14_62_118 zk_Md_393 zT_1079 (zz_ltn hn rfl) rfl rfl ⟨Nat.le_of_ble_eq_true rfl, Nat.le_of_ble_eq_true rfl⟩ ⟨rfl, rfl⟩ (Nat.zero_le _) (Nat.zero_le _) (zc_sayWord_14_58 11 S187 n hn G_S187 (by omega) (by omega)) (fun S267 hP => ?_)
                    obtain ⟨G_S267, fS267, o269, o270⟩ := hP
                    have F_S267 := zz_fr.trans F_S187 fS267 rfl zz_nv
                    refine zz_aload_n (x := 1079) rfl zd_14_62_121 ?_
                    refine zz_ldc2 (z := 32) zq_Md_327 (by decide) zd_14_62_122 ?_
                    have g271 := zz_G.r G_S267 1079 34 0 200 rfl rfl
                    refine zz_callVV [zl 32] zd_14_62_125 zk_Md_388 zT_1079 (zz_ltn hn rfl) rfl rfl ⟨Nat.le_of_ble_eq_true rfl, Nat.le_of_ble_eq_true rfl⟩ ⟨rfl, rfl⟩ (Nat.zero_le _) (Nat.zero_le _) (zc_say_14_57 32 S267 n hn G_S267 (by omega) (by omega)) (fun S272 hP => ?_)
                    obtain ⟨G_S272, fS272, o274⟩ := hP
                    have F_S272 := zz_fr.trans F_S267 fS272 rfl zz_nv
                    refine zz_aload_n (x := 1079) rfl zd_14_62_128 ?_
                    refine zz_aload_n (x := 1079) rfl zd_14_62_129 ?_
                    refine zz_getr (kd := 0) (z := 1087) zd_14_62_130 zf_Md_36 zT_1079 rfl (zz_ltn hn rfl) (zz_G.eq G_S272 1079 11 1087 rfl rfl) (by decide) 1087 rfl ?_
                    refine zz_bipush (by decide) zd_14_62_133 ?_
                    refine zz_iald (z := S24 1087 6) zd_14_62_135 zT_1087 rfl (zz_ltn hn rfl) (by decide) (by decide) (zz_rc fS272 (zz_nc1 rfl) rfl (fun h => h) (zz_rc fS267 (zz_nc1 rfl) rfl (fun h => h) (zz_rc fS187 (zz_nc1 rfl) rfl (fun h => h) (zz_rc fS182 (zz_nc1 rfl) rfl (fun h => h) (zz_ro qS38 (fun h => absurd h.1 (by decide)) rfl))))) ?_
                    have g275 := zz_G.r G_S272 1079 34 0 200 rfl rfl
                    refine zz_callVV [zi (S24 1087 6)] zd_14_62_136 zk_Md_396 zT_1079 (zz_ltn hn rfl) rfl rfl ⟨Nat.le_of_ble_eq_true rfl, Nat.le_of_ble_eq_true rfl⟩ ⟨rfl, rfl⟩ (Nat.zero_le _) (Nat.zero_le _) (zc_sayNumber_14_59 (S24 1087 6) S272 n hn G_S272 (by omega) (by omega)) (fun S276 hP => ?_)
                    obtain ⟨G_S276, fS276, o278, o279⟩ := hP
                    have F_S276 := zz_fr.trans F_S272 fS276 rfl zz_nv
                    refine zz_aload_n (x := 1079) rfl zd_14_62_139 ?_
                    refine zz_bipush (by decide) zd_14_62_140 ?_
                    have g280 := zz_G.r G_S276 1079 34 0 200 rfl rfl
                    refine zz_callVV [zi 12] zd_14_62_142 zk_Md_393 zT_1079 (zz_ltn hn rfl) rfl rfl ⟨Nat.le_of_ble_eq_true rfl, Nat.le_of_ble_eq_true rfl⟩ ⟨rfl, rfl⟩ (Nat.zero_le _) (Nat.zero_le _) (zc_sayWord_14_58 12 S276 n hn G_S276 (by omega) (by omega)) (fun S281 hP => ?_)
                    obtain ⟨G_S281, fS281, o283, o284⟩ := hP
                    have F_S281 := zz_fr.trans F_S276 fS281 rfl zz_nv
                    refine zz_aload_n (x := 1079) rfl zd_14_62_145 ?_
                    refine zz_ldc2 (z := 32) zq_Md_327 (by decide) zd_14_62_146 ?_
                    have g285 := zz_G.r G_S281 1079 34 0 200 rfl rfl
                    refine zz_callVV [zl 32] zd_14_62_149 zk_Md_388 zT_1079 (zz_ltn hn rfl) rfl rfl ⟨Nat.le_of_ble_eq_true rfl, Nat.le_of_ble_eq_true rfl⟩ ⟨rfl, rfl⟩ (Nat.zero_le _) (Nat.zero_le _) (zc_say_14_57 32 S281 n hn G_S281 (by omega) (by omega)) (fun S286 hP => ?_)
                    obtain ⟨G_S286, fS286, o288⟩ := hP
                    have F_S286 := zz_fr.trans F_S281 fS286 rfl zz_nv
                    refine zz_aload_n (x := 1079) rfl zd_14_62_152 ?_
                    refine zz_aload_n (x := 1079) rfl zd_14_62_153 ?_
                    refine zz_getr (kd := 0) (z := 1087) zd_14_62_154 zf_Md_36 zT_1079 rfl (zz_ltn hn rfl) (zz_G.eq G_S286 1079 11 1087 rfl rfl) (by decide) 1087 rfl ?_
                    refine zz_bipush (by decide) zd_14_62_157 ?_
                    refine zz_iald (z := S24 1087 7) zd_14_62_159 zT_1087 rfl (zz_ltn hn rfl) (by decide) (by decide) (zz_rc fS286 (zz_nc1 rfl) rfl (fun h => h) (zz_rc fS281 (zz_nc1 rfl) rfl (fun h => h) (zz_rc fS276 (zz_nc1 rfl) rfl (fun h => h) (zz_rc fS272 (zz_nc1 rfl) rfl (fun h => h) (zz_rc fS267 (zz_nc1 rfl) rfl (fun h => h) (zz_rc fS187 (zz_nc1 rfl) rfl (fun h => h) (zz_rc fS182 (zz_nc1 rfl) rfl (fun h => h) (zz_ro qS38 (fun h => absurd h.1 (by decide)) rfl)))))))) ?_
                    have g289 := zz_G.r G_S286 1079 34 0 200 rfl rfl
                    refine zz_callVV [zi (S24 1087 7)] zd_14_62_160 zk_Md_396 zT_1079 (zz_ltn hn rfl) rfl rfl ⟨Nat.le_of_ble_eq_true rfl, Nat.le_of_ble_eq_true rfl⟩ ⟨rfl, rfl⟩ (Nat.zero_le _) (Nat.zero_le _) (zc_sayNumber_14_59 (S24 1087 7) S286 n hn G_S286 (by omega) (by omega)) (fun S290 hP => ?_)
                    obtain ⟨G_S290, fS290, o292, o293⟩ := hP
                    have F_S290 := zz_fr.trans F_S286 fS290 rfl zz_nv
                    refine zz_aload_n (x := 1079) rfl zd_14_62_163 ?_
                    refine zz_bipush (by decide) zd_14_62_164 ?_
                    refine zz_bipush (by decide) zd_14_62_166 ?_
                    have g294 := zz_G.r G_S290 1079 34 0 200 rfl rfl
                    refine zz_callVV [zi 13, zi 8] zd_14_62_168 zk_Md_401 zT_1079 (zz_ltn hn rfl) rfl rfl ⟨Nat.le_of_ble_eq_true rfl, Nat.le_of_ble_eq_true rfl⟩ ⟨rfl, rfl⟩ (Nat.zero_le _) (Nat.zero_le _) (zc_sayField_14_60 13 8 S290 n hn G_S290 (by omega) (by omega) (by omega)) (fun S295 hP => ?_)
                    obtain ⟨G_S295, fS295, o297, o298⟩ := hP
                    have F_S295 := zz_fr.trans F_S290 fS295 rfl zz_nv
                    refine zz_aload_n (x := 1079) rfl zd_14_62_171 ?_
                    refine zz_bipush (by decide) zd_14_62_172 ?_
                    refine zz_bipush (by decide) zd_14_62_174 ?_
                    have g299 := zz_G.r G_S295 1079 34 0 200 rfl rfl
                    refine zz_callVV [zi 14, zi 9] zd_14_62_176 zk_Md_401 zT_1079 (zz_ltn hn rfl) rfl rfl ⟨Nat.le_of_ble_eq_true rfl, Nat.le_of_ble_eq_true rfl⟩ ⟨rfl, rfl⟩ (Nat.zero_le _) (Nat.zero_le _) (zc_sayField_14_60 14 9 S295 n hn G_S295 (by omega) (by omega) (by omega)) (fun S300 hP => ?_)
                    obtain ⟨G_S300, fS300, o302, o303⟩ := hP
                    have F_S300 := zz_fr.trans F_S295 fS300 rfl zz_nv
                    refine zz_aload_n (x := 1079) rfl zd_14_62_179 ?_
                    refine zz_bipush (by decide) zd_14_62_180 ?_
                    refine zz_bipush (by decide) zd_14_62_182 ?_
                    have g304 := zz_G.r G_S300 1079 34 0 200 rfl rfl
                    refine zz_callVV [zi 15, zi 10] zd_14_62_184 zk_Md_401 zT_1079 (zz_ltn hn rfl) rfl rfl ⟨Nat.le_of_ble_eq_true rfl, Nat.le_of_ble_eq_true rfl⟩ ⟨rfl, rfl⟩ (Nat.zero_le _) (Nat.zero_le _) (zc_sayField_14_60 15 10 S300 n hn G_S300 (by omega) (by omega) (by omega)) (fun S305 hP => ?_)
                    obtain ⟨G_S305, fS305, o307, o308⟩ := hP
                    have F_S305 := zz_fr.trans F_S300 fS305 rfl zz_nv
                    refine zz_aload_n (x := 1079) rfl zd_14_62_187 ?_
                    refine zz_bipush (by decide) zd_14_62_188 ?_
                    refine zz_bipush (by decide) zd_14_62_190 ?_
                    have g309 := zz_G.r G_S305 1079 34 0 200 rfl rfl
                    refine zz_callVV [zi 16, zi 11] zd_14_62_192 zk_Md_401 zT_1079 (zz_ltn hn rfl) rfl rfl ⟨Nat.le_of_ble_eq_true rfl, Nat.le_of_ble_eq_true rfl⟩ ⟨rfl, rfl⟩ (Nat.zero_le _) (Nat.zero_le _) (zc_sayField_14_60 16 11 S305 n hn G_S305 (by omega) (by omega) (by omega)) (fun S310 hP => ?_)
                    obtain ⟨G_S310, fS310, o312, o313⟩ := hP
                    have F_S310 := zz_fr.trans F_S305 fS310 rfl zz_nv
                    refine zz_iconst zd_14_62_195 ?_
                    refine zz_istore_n [some (.ref 1079), some (zi p0), some (zi p1), some (zi 1)] zd_14_62_196 (by decide) rfl ?_
                    have g314 := zz_G.r G_S310 1079 34 0 200 rfl rfl
                    refine zz_less (ls1 := [some (.ref 1079), none, some (zi p1), some (zi 1)]) ⟨rfl, ⟨rfl, ⟨rfl, trivial⟩⟩⟩ ?_
                    exact k197 1 S310 G_S310 F_S310 (by omega) (by omega) (by omega) (by omega) (by omega) (by omega)
          · exfalso; omega
        · exfalso; omega
      · refine zz_iconst zd_14_62_21 ?_
        refine zz_goto zd_14_62_22 ?_
        refine zz_iconst zd_14_62_26 ?_
        refine zz_iconst zd_14_62_27 ?_
        refine zz_callVI [zi 1, zi 0, zi 0] zd_14_62_28 zk_Md_196 zT_1079 (zz_ltn hn rfl) rfl rfl ⟨Nat.le_of_ble_eq_true rfl, Nat.le_of_ble_eq_true rfl⟩ ⟨rfl, rfl⟩ (Nat.zero_le _) (Nat.zero_le _) (zc_refuse_14_3 1 0 0 S0 n hn G_S0 (by omega) (by omega) (by omega)) (fun v316 S315 hP => ?_)
        obtain ⟨G_S315, fS315, o317, o318⟩ := hP
        have F_S315 := zz_fr.trans F_S0 fS315 rfl zz_nv
        rcases (by omega : v316 = 0 ∨ v316 = 1) with rfl | rfl
        · exfalso; omega
        · have e319 : S315 1079 0 = 1 := by omega
          clear o318
          refine zz_if_eq (by omega) zd_14_62_31 (fun c320 => ?_) (fun c320 => ?_)
          · exfalso; omega
          · refine zz_iconst zd_14_62_34 ?_
            exact zz_iret zd_14_62_35 rfl (Nat.zero_le _) (Nat.zero_le _) ⟨_, _, rfl, G_S315, F_S315, by omega⟩
abbrev zy_input_14_63 : mm_Y := (⟨"TensorForgeModel", "input", "(III)V"⟩, prog_14_method_63_code, 5, none)
theorem zyw_input_14_63 : mm_Yw zy_input_14_63 3 := ⟨mm_tb_1 2072 (by decide +kernel) rfl, mm_tb_1 12 (by decide +kernel) rfl, ⟨by decide, by decide⟩, by decide +kernel⟩
theorem zq_Md_409 : Cond.constantLong "TensorForgeModel" 409 (2048 : Int64) ∈ mm_tb := mm_tb_1 2073 (by decide +kernel) rfl
theorem zk_Md_183 : mm_Vl "TensorForgeModel" 183 11 3 zy_form_14_5 := ⟨zyw_form_14_5, (R_Md, F_Md, 69), rfl, mm_tb_1 1607 (by decide +kernel) rfl, mm_tb_1 1609 (by decide +kernel) rfl, mm_tb_s 85 (by decide +kernel) rfl⟩
theorem zg_14_63_0 : (decode zy_input_14_63.2.1 0 = .ok ((.iload_n 1), 1)) ∧ (decode zy_input_14_63.2.1 1 = .ok ((.i2l), 1)) ∧ (decode zy_input_14_63.2.1 2 = .ok ((.lconst 1), 1)) ∧ (decode zy_input_14_63.2.1 3 = .ok ((.ldc2_w 399), 3)) ∧ (decode zy_input_14_63.2.1 6 = .ok ((.invokestatic 192), 3)) ∧ (decode zy_input_14_63.2.1 9 = .ok ((Instr.ifCond .eq) 46, 3)) ∧ (decode zy_input_14_63.2.1 55 = .ok ((.iconst 0), 1)) ∧ (decode zy_input_14_63.2.1 56 = .ok ((.istore 4), 2)) ∧ (decode zy_input_14_63.2.1 58 = .ok ((.aload_n 0), 1)) ∧ (decode zy_input_14_63.2.1 59 = .ok ((.iload 4), 2)) := by decide +kernel
theorem zd_14_63_0 : zz_D zy_input_14_63 0 (.iload_n 1) 1 1 := ⟨zg_14_63_0.1, rfl⟩
theorem zd_14_63_1 : zz_D zy_input_14_63 1 (.i2l) 1 2 := ⟨zg_14_63_0.2.1, rfl⟩
theorem zd_14_63_2 : zz_D zy_input_14_63 2 (.lconst 1) 1 3 := ⟨zg_14_63_0.2.2.1, rfl⟩
theorem zd_14_63_3 : zz_D zy_input_14_63 3 (.ldc2_w 399) 3 6 := ⟨zg_14_63_0.2.2.2.1, rfl⟩
theorem zd_14_63_6 : zz_D zy_input_14_63 6 (.invokestatic 192) 3 9 := ⟨zg_14_63_0.2.2.2.2.1, rfl⟩
theorem zd_14_63_9 : zz_B zy_input_14_63 9 (Instr.ifCond .eq) 55 12 := ⟨46, zg_14_63_0.2.2.2.2.2.1, rfl, rfl⟩
theorem zd_14_63_55 : zz_D zy_input_14_63 55 (.iconst 0) 1 56 := ⟨zg_14_63_0.2.2.2.2.2.2.1, rfl⟩
theorem zd_14_63_56 : zz_D zy_input_14_63 56 (.istore 4) 2 58 := ⟨zg_14_63_0.2.2.2.2.2.2.2.1, rfl⟩
theorem zd_14_63_58 : zz_D zy_input_14_63 58 (.aload_n 0) 1 59 := ⟨zg_14_63_0.2.2.2.2.2.2.2.2.1, rfl⟩
theorem zd_14_63_59 : zz_D zy_input_14_63 59 (.iload 4) 2 61 := ⟨zg_14_63_0.2.2.2.2.2.2.2.2.2, rfl⟩
theorem zg_14_63_61 : (decode zy_input_14_63.2.1 61 = .ok ((Instr.ifCond .ne) 7, 3)) ∧ (decode zy_input_14_63.2.1 64 = .ok ((.iconst 1), 1)) ∧ (decode zy_input_14_63.2.1 65 = .ok (Instr.goto 4, 3)) ∧ (decode zy_input_14_63.2.1 69 = .ok ((.iconst 0), 1)) ∧ (decode zy_input_14_63.2.1 70 = .ok ((.iconst 0), 1)) ∧ (decode zy_input_14_63.2.1 71 = .ok ((.invokevirtual 196), 3)) ∧ (decode zy_input_14_63.2.1 74 = .ok ((Instr.ifCond .ne) 10, 3)) ∧ (decode zy_input_14_63.2.1 84 = .ok ((.return_), 1)) ∧ (decode zy_input_14_63.2.1 12 = .ok ((.iload_n 2), 1)) ∧ (decode zy_input_14_63.2.1 13 = .ok ((.i2l), 1)) := by decide +kernel
theorem zd_14_63_61 : zz_B zy_input_14_63 61 (Instr.ifCond .ne) 68 64 := ⟨7, zg_14_63_61.1, rfl, rfl⟩
theorem zd_14_63_64 : zz_D zy_input_14_63 64 (.iconst 1) 1 65 := ⟨zg_14_63_61.2.1, rfl⟩
theorem zd_14_63_65 : zz_B zy_input_14_63 65 Instr.goto 69 68 := ⟨4, zg_14_63_61.2.2.1, rfl, rfl⟩
theorem zd_14_63_69 : zz_D zy_input_14_63 69 (.iconst 0) 1 70 := ⟨zg_14_63_61.2.2.2.1, rfl⟩
theorem zd_14_63_70 : zz_D zy_input_14_63 70 (.iconst 0) 1 71 := ⟨zg_14_63_61.2.2.2.2.1, rfl⟩
theorem zd_14_63_71 : zz_D zy_input_14_63 71 (.invokevirtual 196) 3 74 := ⟨zg_14_63_61.2.2.2.2.2.1, rfl⟩
theorem zd_14_63_74 : zz_B zy_input_14_63 74 (Instr.ifCond .ne) 84 77 := ⟨10, zg_14_63_61.2.2.2.2.2.2.1, rfl, rfl⟩
theorem zd_14_63_84 : zz_D zy_input_14_63 84 (.return_) 1 85 := ⟨zg_14_63_61.2.2.2.2.2.2.2.1, rfl⟩
theorem zd_14_63_12 : zz_D zy_input_14_63 12 (.iload_n 2) 1 13 := ⟨zg_14_63_61.2.2.2.2.2.2.2.2.1, rfl⟩
theorem zd_14_63_13 : zz_D zy_input_14_63 13 (.i2l) 1 14 := ⟨zg_14_63_61.2.2.2.2.2.2.2.2.2, rfl⟩
theorem zg_14_63_14 : (decode zy_input_14_63.2.1 14 = .ok ((.lconst 1), 1)) ∧ (decode zy_input_14_63.2.1 15 = .ok ((.ldc2_w 399), 3)) ∧ (decode zy_input_14_63.2.1 18 = .ok ((.invokestatic 192), 3)) ∧ (decode zy_input_14_63.2.1 21 = .ok ((Instr.ifCond .eq) 34, 3)) ∧ (decode zy_input_14_63.2.1 24 = .ok ((.iload_n 3), 1)) ∧ (decode zy_input_14_63.2.1 25 = .ok ((.i2l), 1)) ∧ (decode zy_input_14_63.2.1 26 = .ok ((.lconst 1), 1)) ∧ (decode zy_input_14_63.2.1 27 = .ok ((.ldc2_w 399), 3)) ∧ (decode zy_input_14_63.2.1 30 = .ok ((.invokestatic 192), 3)) ∧ (decode zy_input_14_63.2.1 33 = .ok ((Instr.ifCond .eq) 22, 3)) := by decide +kernel
theorem zd_14_63_14 : zz_D zy_input_14_63 14 (.lconst 1) 1 15 := ⟨zg_14_63_14.1, rfl⟩
theorem zd_14_63_15 : zz_D zy_input_14_63 15 (.ldc2_w 399) 3 18 := ⟨zg_14_63_14.2.1, rfl⟩
theorem zd_14_63_18 : zz_D zy_input_14_63 18 (.invokestatic 192) 3 21 := ⟨zg_14_63_14.2.2.1, rfl⟩
theorem zd_14_63_21 : zz_B zy_input_14_63 21 (Instr.ifCond .eq) 55 24 := ⟨34, zg_14_63_14.2.2.2.1, rfl, rfl⟩
theorem zd_14_63_24 : zz_D zy_input_14_63 24 (.iload_n 3) 1 25 := ⟨zg_14_63_14.2.2.2.2.1, rfl⟩
theorem zd_14_63_25 : zz_D zy_input_14_63 25 (.i2l) 1 26 := ⟨zg_14_63_14.2.2.2.2.2.1, rfl⟩
theorem zd_14_63_26 : zz_D zy_input_14_63 26 (.lconst 1) 1 27 := ⟨zg_14_63_14.2.2.2.2.2.2.1, rfl⟩
theorem zd_14_63_27 : zz_D zy_input_14_63 27 (.ldc2_w 399) 3 30 := ⟨zg_14_63_14.2.2.2.2.2.2.2.1, rfl⟩
theorem zd_14_63_30 : zz_D zy_input_14_63 30 (.invokestatic 192) 3 33 := ⟨zg_14_63_14.2.2.2.2.2.2.2.2.1, rfl⟩
theorem zd_14_63_33 : zz_B zy_input_14_63 33 (Instr.ifCond .eq) 55 36 := ⟨22, zg_14_63_14.2.2.2.2.2.2.2.2.2, rfl, rfl⟩
theorem zg_14_63_36 : (decode zy_input_14_63.2.1 36 = .ok ((.iload_n 1), 1)) ∧ (decode zy_input_14_63.2.1 37 = .ok ((.i2l), 1)) ∧ (decode zy_input_14_63.2.1 38 = .ok ((.iload_n 2), 1)) ∧ (decode zy_input_14_63.2.1 39 = .ok ((.i2l), 1)) ∧ (decode zy_input_14_63.2.1 40 = .ok ((.lmul), 1)) ∧ (decode zy_input_14_63.2.1 41 = .ok ((.iload_n 3), 1)) ∧ (decode zy_input_14_63.2.1 42 = .ok ((.i2l), 1)) ∧ (decode zy_input_14_63.2.1 43 = .ok ((.lmul), 1)) ∧ (decode zy_input_14_63.2.1 44 = .ok ((.ldc2_w 409), 3)) ∧ (decode zy_input_14_63.2.1 47 = .ok ((.lcmp), 1)) := by decide +kernel
theorem zd_14_63_36 : zz_D zy_input_14_63 36 (.iload_n 1) 1 37 := ⟨zg_14_63_36.1, rfl⟩
theorem zd_14_63_37 : zz_D zy_input_14_63 37 (.i2l) 1 38 := ⟨zg_14_63_36.2.1, rfl⟩
theorem zd_14_63_38 : zz_D zy_input_14_63 38 (.iload_n 2) 1 39 := ⟨zg_14_63_36.2.2.1, rfl⟩
theorem zd_14_63_39 : zz_D zy_input_14_63 39 (.i2l) 1 40 := ⟨zg_14_63_36.2.2.2.1, rfl⟩
theorem zd_14_63_40 : zz_D zy_input_14_63 40 (.lmul) 1 41 := ⟨zg_14_63_36.2.2.2.2.1, rfl⟩
theorem zd_14_63_41 : zz_D zy_input_14_63 41 (.iload_n 3) 1 42 := ⟨zg_14_63_36.2.2.2.2.2.1, rfl⟩
theorem zd_14_63_42 : zz_D zy_input_14_63 42 (.i2l) 1 43 := ⟨zg_14_63_36.2.2.2.2.2.2.1, rfl⟩
theorem zd_14_63_43 : zz_D zy_input_14_63 43 (.lmul) 1 44 := ⟨zg_14_63_36.2.2.2.2.2.2.2.1, rfl⟩
theorem zd_14_63_44 : zz_D zy_input_14_63 44 (.ldc2_w 409) 3 47 := ⟨zg_14_63_36.2.2.2.2.2.2.2.2.1, rfl⟩
theorem zd_14_63_47 : zz_D zy_input_14_63 47 (.lcmp) 1 48 := ⟨zg_14_63_36.2.2.2.2.2.2.2.2.2, rfl⟩
theorem zg_14_63_48 : (decode zy_input_14_63.2.1 48 = .ok ((Instr.ifCond .gt) 7, 3)) ∧ (decode zy_input_14_63.2.1 51 = .ok ((.iconst 1), 1)) ∧ (decode zy_input_14_63.2.1 52 = .ok (Instr.goto 4, 3)) ∧ (decode zy_input_14_63.2.1 68 = .ok ((.iconst 0), 1)) ∧ (decode zy_input_14_63.2.1 77 = .ok ((.aload_n 0), 1)) ∧ (decode zy_input_14_63.2.1 78 = .ok ((.iload_n 1), 1)) ∧ (decode zy_input_14_63.2.1 79 = .ok ((.iload_n 2), 1)) ∧ (decode zy_input_14_63.2.1 80 = .ok ((.iload_n 3), 1)) ∧ (decode zy_input_14_63.2.1 81 = .ok ((.invokevirtual 183), 3)) := by decide +kernel
theorem zd_14_63_48 : zz_B zy_input_14_63 48 (Instr.ifCond .gt) 55 51 := ⟨7, zg_14_63_48.1, rfl, rfl⟩
theorem zd_14_63_51 : zz_D zy_input_14_63 51 (.iconst 1) 1 52 := ⟨zg_14_63_48.2.1, rfl⟩
theorem zd_14_63_52 : zz_B zy_input_14_63 52 Instr.goto 56 55 := ⟨4, zg_14_63_48.2.2.1, rfl, rfl⟩
theorem zd_14_63_68 : zz_D zy_input_14_63 68 (.iconst 0) 1 69 := ⟨zg_14_63_48.2.2.2.1, rfl⟩
theorem zd_14_63_77 : zz_D zy_input_14_63 77 (.aload_n 0) 1 78 := ⟨zg_14_63_48.2.2.2.2.1, rfl⟩
theorem zd_14_63_78 : zz_D zy_input_14_63 78 (.iload_n 1) 1 79 := ⟨zg_14_63_48.2.2.2.2.2.1, rfl⟩
theorem zd_14_63_79 : zz_D zy_input_14_63 79 (.iload_n 2) 1 80 := ⟨zg_14_63_48.2.2.2.2.2.2.1, rfl⟩
theorem zd_14_63_80 : zz_D zy_input_14_63 80 (.iload_n 3) 1 81 := ⟨zg_14_63_48.2.2.2.2.2.2.2.1, rfl⟩
theorem zd_14_63_81 : zz_D zy_input_14_63 81 (.invokevirtual 183) 3 84 := ⟨zg_14_63_48.2.2.2.2.2.2.2.2, rfl⟩
-- TensorForgeModel input (III)V
abbrev zr_input_14_63 : Room := { frames := 1, cells := 0, slots := 0, locals := 17 }
def zp_input_14_63 (p0 : Int) (p1 : Int) (p2 : Int) (S0 : zz_S) : zz_S → Prop := fun S => zz_G S ∧ zz_fr [(1079, 0), (1079, 36), (1102, 0), (1103, 0), (1104, 0), (1105, 0), (1105, 1)] [] (fun _ _ => False) S0 S ∧ (S 1079 0 = 0 → S 1079 36 = 1) ∧ (1 ≤ S0 1079 36 → 1 ≤ S 1079 36) ∧ ((1 ≤ p0 ∧ p0 ≤ 63 ∧ 1 ≤ p1 ∧ p1 ≤ 63 ∧ 1 ≤ p2 ∧ p2 ≤ 63 ∧ (p0 * p1) * p2 ≤ 2048 ∧ S 1079 0 = 0) ∨ ((p0 < 1 ∨ 63 < p0 ∨ p1 < 1 ∨ 63 < p1 ∨ p2 < 1 ∨ 63 < p2 ∨ 2048 < (p0 * p1) * p2) ∧ S 1079 0 = 1)) ∧ (zz_Hr S)
theorem zc_input_14_63 {g : mm_G} {l : Launch} (p0 : Int) (p1 : Int) (p2 : Int) (S0 : zz_S) (n : Nat) (hn : zz_end ≤ n) (G_S0 : zz_G S0) (hp0 : (-2147483648) ≤ p0 ∧ p0 ≤ 2147483647) (hp1 : (-2147483648) ≤ p1 ∧ p1 ≤ 2147483647) (hp2 : (-2147483648) ≤ p2 ∧ p2 ≤ 2147483647) (R_S0 : zz_Hr S0) : mm_Met g l zy_input_14_63 zr_input_14_63 [.ref 1079, zi p0, zi p1, zi p2] (zz_M S0 n) n (zz_QV n (zp_input_14_63 p0 p1 p2 S0)) := by
  refine zz_enter (by decide) (Nat.le_of_ble_eq_true rfl) (zz_less (ls1 := [some (.ref 1079), some (zi p0), some (zi p1), some (zi p2)]) ⟨rfl, ⟨rfl, ⟨rfl, ⟨rfl, trivial⟩⟩⟩⟩ ?_)
  have F_S0 : zz_fr [(1079, 0), (1079, 36), (1102, 0), (1103, 0), (1104, 0), (1105, 0), (1105, 1)] [] (fun _ _ => False) S0 S0 := zz_fr.refl
  refine zz_iload_n (x := p0) rfl zd_14_63_0 ?_
  refine zz_i2l (by omega) zd_14_63_1 ?_
  refine zz_lconst (z := 1) (by decide) zd_14_63_2 ?_
  refine zz_ldc2 (z := 63) zq_Md_399 (by decide) zd_14_63_3 ?_
  refine zz_callSI [zl p0, zl 1, zl 63] zd_14_63_6 zk_Md_192 rfl rfl ⟨Nat.le_of_ble_eq_true rfl, Nat.le_of_ble_eq_true rfl⟩ ⟨rfl, rfl⟩ (Nat.zero_le _) (Nat.zero_le _) (zc_in_14_4 p0 1 63 S0 n hn G_S0 (by omega) (by omega) (by omega)) (fun v2 S1 hP => ?_)
  obtain ⟨rfl, o3, o4⟩ := hP
  rcases (by omega : v2 = 0 ∨ v2 = 1) with rfl | rfl
  · have n5 : p0 < 1 ∨ 63 < p0 := by omega
    clear o4
    refine zz_if_eq (by omega) zd_14_63_9 (fun c6 => ?_) (fun c6 => ?_)
    · refine zz_iconst zd_14_63_55 ?_
      refine zz_istore [some (.ref 1079), some (zi p0), some (zi p1), some (zi p2), some (zi 0)] zd_14_63_56 (by decide) rfl ?_
      refine zz_aload_n (x := 1079) rfl zd_14_63_58 ?_
      refine zz_iload (x := 0) rfl zd_14_63_59 ?_
      refine zz_if_ne (by omega) zd_14_63_61 (fun c7 => ?_) (fun c7 => ?_)
      · exfalso; omega
      · refine zz_iconst zd_14_63_64 ?_
        refine zz_goto zd_14_63_65 ?_
        refine zz_iconst zd_14_63_69 ?_
        refine zz_iconst zd_14_63_70 ?_
        refine zz_callVI [zi 1, zi 0, zi 0] zd_14_63_71 zk_Md_196 zT_1079 (zz_ltn hn rfl) rfl rfl ⟨Nat.le_of_ble_eq_true rfl, Nat.le_of_ble_eq_true rfl⟩ ⟨rfl, rfl⟩ (Nat.zero_le _) (Nat.zero_le _) (zc_refuse_14_3 1 0 0 S0 n hn G_S0 (by omega) (by omega) (by omega)) (fun v9 S8 hP => ?_)
        obtain ⟨G_S8, fS8, o10, o11⟩ := hP
        have F_S8 := zz_fr.trans F_S0 fS8 rfl zz_nv
        have R_S8 : zz_Hr S8 := zz_Hr.fr fS8 rfl rfl (fun b j h => h.elim) R_S0
        rcases (by omega : v9 = 0 ∨ v9 = 1) with rfl | rfl
        · exfalso; omega
        · have e12 : S8 1079 0 = 1 := by omega
          clear o11
          refine zz_if_ne (by omega) zd_14_63_74 (fun c13 => ?_) (fun c13 => ?_)
          · have g14 := zz_G.r G_S0 1079 36 0 11 rfl rfl
            have e15 : S8 1079 36 = S0 1079 36 := (zz_rc fS8 rfl rfl (fun h => h) rfl)
            exact zz_vret zd_14_63_84 rfl (Nat.zero_le _) (Nat.zero_le _) ⟨_, rfl, G_S8, F_S8, by omega, by omega, by omega, R_S8⟩
          · exfalso; omega
    · exfalso; omega
  · have n16 : 1 ≤ p0 ∧ p0 ≤ 63 := by omega
    clear o4
    refine zz_if_eq (by omega) zd_14_63_9 (fun c17 => ?_) (fun c17 => ?_)
    · exfalso; omega
    · refine zz_iload_n (x := p1) rfl zd_14_63_12 ?_
      refine zz_i2l (by omega) zd_14_63_13 ?_
      refine zz_lconst (z := 1) (by decide) zd_14_63_14 ?_
      refine zz_ldc2 (z := 63) zq_Md_399 (by decide) zd_14_63_15 ?_
      refine zz_callSI [zl p1, zl 1, zl 63] zd_14_63_18 zk_Md_192 rfl rfl ⟨Nat.le_of_ble_eq_true rfl, Nat.le_of_ble_eq_true rfl⟩ ⟨rfl, rfl⟩ (Nat.zero_le _) (Nat.zero_le _) (zc_in_14_4 p1 1 63 S0 n hn G_S0 (by omega) (by omega) (by omega)) (fun v19 S18 hP => ?_)
      obtain ⟨rfl, o20, o21⟩ := hP
      rcases (by omega : v19 = 0 ∨ v19 = 1) with rfl | rfl
      · have n22 : p1 < 1 ∨ 63 < p1 := by omega
        clear o21
        refine zz_if_eq (by omega) zd_14_63_21 (fun c23 => ?_) (fun c23 => ?_)
        · refine zz_iconst zd_14_63_55 ?_
          refine zz_istore [some (.ref 1079), some (zi p0), some (zi p1), some (zi p2), some (zi 0)] zd_14_63_56 (by decide) rfl ?_
          refine zz_aload_n (x := 1079) rfl zd_14_63_58 ?_
          refine zz_iload (x := 0) rfl zd_14_63_59 ?_
          refine zz_if_ne (by omega) zd_14_63_61 (fun c24 => ?_) (fun c24 => ?_)
          · exfalso; omega
          · refine zz_iconst zd_14_63_64 ?_
            refine zz_goto zd_14_63_65 ?_
            refine zz_iconst zd_14_63_69 ?_
            refine zz_iconst zd_14_63_70 ?_
            refine zz_callVI [zi 1, zi 0, zi 0] zd_14_63_71 zk_Md_196 zT_1079 (zz_ltn hn rfl) rfl rfl ⟨Nat.le_of_ble_eq_true rfl, Nat.le_of_ble_eq_true rfl⟩ ⟨rfl, rfl⟩ (Nat.zero_le _) (Nat.zero_le _) (zc_refuse_14_3 1 0 0 S0 n hn G_S0 (by omega) (by omega) (by omega)) (fun v26 S25 hP => ?_)
            obtain ⟨G_S25, fS25, o27, o28⟩ := hP
            have F_S25 := zz_fr.trans F_S0 fS25 rfl zz_nv
            have R_S25 : zz_Hr S25 := zz_Hr.fr fS25 rfl rfl (fun b j h => h.elim) R_S0
            rcases (by omega : v26 = 0 ∨ v26 = 1) with rfl | rfl
            · exfalso; omega
            · have e29 : S25 1079 0 = 1 := by omega
              clear o28
              refine zz_if_ne (by omega) zd_14_63_74 (fun c30 => ?_) (fun c30 => ?_)
              · have g31 := zz_G.r G_S0 1079 36 0 11 rfl rfl
                have e32 : S25 1079 36 = S0 1079 36 := (zz_rc fS25 rfl rfl (fun h => h) rfl)
                exact zz_vret zd_14_63_84 rfl (Nat.zero_le _) (Nat.zero_le _) ⟨_, rfl, G_S25, F_S25, by omega, by omega, by omega, R_S25⟩
              · exfalso; omega
        · exfalso; omega
      · have n33 : 1 ≤ p1 ∧ p1 ≤ 63 := by omega
        clear o21
        refine zz_if_eq (by omega) zd_14_63_21 (fun c34 => ?_) (fun c34 => ?_)
        · exfalso; omega
        · refine zz_iload_n (x := p2) rfl zd_14_63_24 ?_
          refine zz_i2l (by omega) zd_14_63_25 ?_
          refine zz_lconst (z := 1) (by decide) zd_14_63_26 ?_
          refine zz_ldc2 (z := 63) zq_Md_399 (by decide) zd_14_63_27 ?_
          refine zz_callSI [zl p2, zl 1, zl 63] zd_14_63_30 zk_Md_192 rfl rfl ⟨Nat.le_of_ble_eq_true rfl, Nat.le_of_ble_eq_true rfl⟩ ⟨rfl, rfl⟩ (Nat.zero_le _) (Nat.zero_le _) (zc_in_14_4 p2 1 63 S0 n hn G_S0 (by omega) (by omega) (by omega)) (fun v36 S35 hP => ?_)
          obtain ⟨rfl, o37, o38⟩ := hP
          rcases (by omega : v36 = 0 ∨ v36 = 1) with rfl | rfl
          · have n39 : p2 < 1 ∨ 63 < p2 := by omega
            clear o38
            refine zz_if_eq (by omega) zd_14_63_33 (fun c40 => ?_) (fun c40 => ?_)
            · refine zz_iconst zd_14_63_55 ?_
              refine zz_istore [some (.ref 1079), some (zi p0), some (zi p1), some (zi p2), some (zi 0)] zd_14_63_56 (by decide) rfl ?_
              refine zz_aload_n (x := 1079) rfl zd_14_63_58 ?_
              refine zz_iload (x := 0) rfl zd_14_63_59 ?_
              refine zz_if_ne (by omega) zd_14_63_61 (fun c41 => ?_) (fun c41 => ?_)
              · exfalso; omega
              · refine zz_iconst zd_14_63_64 ?_
                refine zz_goto zd_14_63_65 ?_
                refine zz_iconst zd_14_63_69 ?_
                refine zz_iconst zd_14_63_70 ?_
                refine zz_callVI [zi 1, zi 0, zi 0] zd_14_63_71 zk_Md_196 zT_1079 (zz_ltn hn rfl) rfl rfl ⟨Nat.le_of_ble_eq_true rfl, Nat.le_of_ble_eq_true rfl⟩ ⟨rfl, rfl⟩ (Nat.zero_le _) (Nat.zero_le _) (zc_refuse_14_3 1 0 0 S0 n hn G_S0 (by omega) (by omega) (by omega)) (fun v43 S42 hP => ?_)
                obtain ⟨G_S42, fS42, o44, o45⟩ := hP
                have F_S42 := zz_fr.trans F_S0 fS42 rfl zz_nv
                have R_S42 : zz_Hr S42 := zz_Hr.fr fS42 rfl rfl (fun b j h => h.elim) R_S0
                rcases (by omega : v43 = 0 ∨ v43 = 1) with rfl | rfl
                · exfalso; omega
                · have e46 : S42 1079 0 = 1 := by omega
                  clear o45
                  refine zz_if_ne (by omega) zd_14_63_74 (fun c47 => ?_) (fun c47 => ?_)
                  · have g48 := zz_G.r G_S0 1079 36 0 11 rfl rfl
                    have e49 : S42 1079 36 = S0 1079 36 := (zz_rc fS42 rfl rfl (fun h => h) rfl)
                    exact zz_vret zd_14_63_84 rfl (Nat.zero_le _) (Nat.zero_le _) ⟨_, rfl, G_S42, F_S42, by omega, by omega, by omega, R_S42⟩
                  · exfalso; omega
            · exfalso; omega
          · have n50 : 1 ≤ p2 ∧ p2 ≤ 63 := by omega
            clear o38
            refine zz_if_eq (by omega) zd_14_63_33 (fun c51 => ?_) (fun c51 => ?_)
            · exfalso; omega
            · refine zz_iload_n (x := p0) rfl zd_14_63_36 ?_
              refine zz_i2l (by omega) zd_14_63_37 ?_
              refine zz_iload_n (x := p1) rfl zd_14_63_38 ?_
              refine zz_i2l (by omega) zd_14_63_39 ?_
              refine zz_lmul zd_14_63_40 ?_
              have m52 := zz_mulb (a := p0) (b := p1) 63 63 3969 (by omega) (by omega) (by decide)
              refine zz_iload_n (x := p2) rfl zd_14_63_41 ?_
              refine zz_i2l (by omega) zd_14_63_42 ?_
              refine zz_lmul zd_14_63_43 ?_
              have m53 := zz_mulb (a := p0 * p1) (b := p2) 3969 63 250047 (by omega) (by omega) (by decide)
              refine zz_ldc2 (z := 2048) zq_Md_409 (by decide) zd_14_63_44 ?_
              refine zz_lcmp (by omega) (by omega) zd_14_63_47 (fun v54 hv54 => ?_)
              refine zz_if_gt (by omega) zd_14_63_48 (fun c55 => ?_) (fun c55 => ?_)
              · refine zz_iconst zd_14_63_55 ?_
                refine zz_istore [some (.ref 1079), some (zi p0), some (zi p1), some (zi p2), some (zi 0)] zd_14_63_56 (by decide) rfl ?_
                refine zz_aload_n (x := 1079) rfl zd_14_63_58 ?_
                refine zz_iload (x := 0) rfl zd_14_63_59 ?_
                refine zz_if_ne (by omega) zd_14_63_61 (fun c56 => ?_) (fun c56 => ?_)
                · exfalso; omega
                · refine zz_iconst zd_14_63_64 ?_
                  refine zz_goto zd_14_63_65 ?_
                  refine zz_iconst zd_14_63_69 ?_
                  refine zz_iconst zd_14_63_70 ?_
                  refine zz_callVI [zi 1, zi 0, zi 0] zd_14_63_71 zk_Md_196 zT_1079 (zz_ltn hn rfl) rfl rfl ⟨Nat.le_of_ble_eq_true rfl, Nat.le_of_ble_eq_true rfl⟩ ⟨rfl, rfl⟩ (Nat.zero_le _) (Nat.zero_le _) (zc_refuse_14_3 1 0 0 S0 n hn G_S0 (by omega) (by omega) (by omega)) (fun v58 S57 hP => ?_)
                  obtain ⟨G_S57, fS57, o59, o60⟩ := hP
                  have F_S57 := zz_fr.trans F_S0 fS57 rfl zz_nv
                  have R_S57 : zz_Hr S57 := zz_Hr.fr fS57 rfl rfl (fun b j h => h.elim) R_S0
                  rcases (by omega : v58 = 0 ∨ v58 = 1) with rfl | rfl
                  · exfalso; omega
                  · have e61 : S57 1079 0 = 1 := by omega
                    clear o60
                    refine zz_if_ne (by omega) zd_14_63_74 (fun c62 => ?_) (fun c62 => ?_)
                    · have g63 := zz_G.r G_S0 1079 36 0 11 rfl rfl
                      have e64 : S57 1079 36 = S0 1079 36 := (zz_rc fS57 rfl rfl (fun h => h) rfl)
                      exact zz_vret zd_14_63_84 rfl (Nat.zero_le _) (Nat.zero_le _) ⟨_, rfl, G_S57, F_S57, by omega, by omega, by omega, R_S57⟩
                    · exfalso; omega
              · refine zz_iconst zd_14_63_51 ?_
                refine zz_goto zd_14_63_52 ?_
                refine zz_istore [some (.ref 1079), some (zi p0), some (zi p1), some (zi p2), some (zi 1)] zd_14_63_56 (by decide) rfl ?_
                refine zz_aload_n (x := 1079) rfl zd_14_63_58 ?_
                refine zz_iload (x := 1) rfl zd_14_63_59 ?_
                refine zz_if_ne (by omega) zd_14_63_61 (fun c65 => ?_) (fun c65 => ?_)
                · refine zz_iconst zd_14_63_68 ?_
                  refine zz_iconst zd_14_63_69 ?_
                  refine zz_iconst zd_14_63_70 ?_
                  refine zz_callVI [zi 0, zi 0, zi 0] zd_14_63_71 zk_Md_196 zT_1079 (zz_ltn hn rfl) rfl rfl ⟨Nat.le_of_ble_eq_true rfl, Nat.le_of_ble_eq_true rfl⟩ ⟨rfl, rfl⟩ (Nat.zero_le _) (Nat.zero_le _) (zc_refuse_14_3 0 0 0 S0 n hn G_S0 (by omega) (by omega) (by omega)) (fun v67 S66 hP => ?_)
                  obtain ⟨G_S66, fS66, o68, o69⟩ := hP
                  have F_S66 := zz_fr.trans F_S0 fS66 rfl zz_nv
                  have R_S66 : zz_Hr S66 := zz_Hr.fr fS66 rfl rfl (fun b j h => h.elim) R_S0
                  rcases (by omega : v67 = 0 ∨ v67 = 1) with rfl | rfl
                  · have e70 : S66 1079 0 = 0 := by omega
                    clear o69
                    refine zz_if_ne (by omega) zd_14_63_74 (fun c71 => ?_) (fun c71 => ?_)
                    · exfalso; omega
                    · refine zz_aload_n (x := 1079) rfl zd_14_63_77 ?_
                      refine zz_iload_n (x := p0) rfl zd_14_63_78 ?_
                      refine zz_iload_n (x := p1) rfl zd_14_63_79 ?_
                      refine zz_iload_n (x := p2) rfl zd_14_63_80 ?_
                      refine zz_callVV [zi p0, zi p1, zi p2] zd_14_63_81 zk_Md_183 zT_1079 (zz_ltn hn rfl) rfl rfl ⟨Nat.le_of_ble_eq_true rfl, Nat.le_of_ble_eq_true rfl⟩ ⟨rfl, rfl⟩ (Nat.zero_le _) (Nat.zero_le _) (zc_form_14_5 p0 p1 p2 S66 n hn G_S66 (by omega) (by omega) (by omega) R_S66 (by omega)) (fun S72 hP => ?_)
                      obtain ⟨G_S72, fS72, o74, o75, o76⟩ := hP
                      have F_S72 := zz_fr.trans F_S66 fS72 rfl zz_nv
                      have R_S72 : zz_Hr S72 := o76
                      have e77 : S72 1079 0 = S66 1079 0 := (zz_rc fS72 rfl rfl (fun h => h) rfl)
                      have g78 := zz_G.r G_S72 1079 36 0 11 rfl rfl
                      exact zz_vret zd_14_63_84 rfl (Nat.zero_le _) (Nat.zero_le _) ⟨_, rfl, G_S72, F_S72, by omega, by omega, by omega, R_S72⟩
                  · exfalso; omega
                · exfalso; omega
abbrev zy_resultsOf_14_64 : mm_Y := (⟨"TensorForgeModel", "resultsOf", "(IIII)I"⟩, prog_14_method_64_code, 5, (some .int))
theorem zyw_resultsOf_14_64 : mm_Yw zy_resultsOf_14_64 4 := ⟨mm_tb_1 2087 (by decide +kernel) rfl, mm_tb_1 12 (by decide +kernel) rfl, ⟨by decide, by decide⟩, by decide +kernel⟩
theorem zg_14_64_0 : (decode zy_resultsOf_14_64.2.1 0 = .ok ((.iload_n 0), 1)) ∧ (decode zy_resultsOf_14_64.2.1 1 = .ok ((.iconst 2), 1)) ∧ (decode zy_resultsOf_14_64.2.1 2 = .ok ((.iload_n 3), 1)) ∧ (decode zy_resultsOf_14_64.2.1 3 = .ok ((.imul), 1)) ∧ (decode zy_resultsOf_14_64.2.1 4 = .ok ((.iadd), 1)) ∧ (decode zy_resultsOf_14_64.2.1 5 = .ok ((.iload_n 1), 1)) ∧ (decode zy_resultsOf_14_64.2.1 6 = .ok ((.isub), 1)) ∧ (decode zy_resultsOf_14_64.2.1 7 = .ok ((.istore 4), 2)) ∧ (decode zy_resultsOf_14_64.2.1 9 = .ok ((.iload 4), 2)) ∧ (decode zy_resultsOf_14_64.2.1 11 = .ok ((Instr.ifCond .ge) 7, 3)) := by decide +kernel
theorem zd_14_64_0 : zz_D zy_resultsOf_14_64 0 (.iload_n 0) 1 1 := ⟨zg_14_64_0.1, rfl⟩
theorem zd_14_64_1 : zz_D zy_resultsOf_14_64 1 (.iconst 2) 1 2 := ⟨zg_14_64_0.2.1, rfl⟩
theorem zd_14_64_2 : zz_D zy_resultsOf_14_64 2 (.iload_n 3) 1 3 := ⟨zg_14_64_0.2.2.1, rfl⟩
theorem zd_14_64_3 : zz_D zy_resultsOf_14_64 3 (.imul) 1 4 := ⟨zg_14_64_0.2.2.2.1, rfl⟩
theorem zd_14_64_4 : zz_D zy_resultsOf_14_64 4 (.iadd) 1 5 := ⟨zg_14_64_0.2.2.2.2.1, rfl⟩
theorem zd_14_64_5 : zz_D zy_resultsOf_14_64 5 (.iload_n 1) 1 6 := ⟨zg_14_64_0.2.2.2.2.2.1, rfl⟩
theorem zd_14_64_6 : zz_D zy_resultsOf_14_64 6 (.isub) 1 7 := ⟨zg_14_64_0.2.2.2.2.2.2.1, rfl⟩
theorem zd_14_64_7 : zz_D zy_resultsOf_14_64 7 (.istore 4) 2 9 := ⟨zg_14_64_0.2.2.2.2.2.2.2.1, rfl⟩
theorem zd_14_64_9 : zz_D zy_resultsOf_14_64 9 (.iload 4) 2 11 := ⟨zg_14_64_0.2.2.2.2.2.2.2.2.1, rfl⟩
theorem zd_14_64_11 : zz_B zy_resultsOf_14_64 11 (Instr.ifCond .ge) 18 14 := ⟨7, zg_14_64_0.2.2.2.2.2.2.2.2.2, rfl, rfl⟩
theorem zg_14_64_18 : (decode zy_resultsOf_14_64.2.1 18 = .ok ((.iload 4), 2)) ∧ (decode zy_resultsOf_14_64.2.1 20 = .ok ((.iload_n 2), 1)) ∧ (decode zy_resultsOf_14_64.2.1 21 = .ok ((.idiv), 1)) ∧ (decode zy_resultsOf_14_64.2.1 22 = .ok ((.iconst 1), 1)) ∧ (decode zy_resultsOf_14_64.2.1 23 = .ok ((.iadd), 1)) ∧ (decode zy_resultsOf_14_64.2.1 24 = .ok ((.ireturn), 1)) ∧ (decode zy_resultsOf_14_64.2.1 14 = .ok ((.iconst 0), 1)) ∧ (decode zy_resultsOf_14_64.2.1 15 = .ok (Instr.goto 9, 3)) := by decide +kernel
theorem zd_14_64_18 : zz_D zy_resultsOf_14_64 18 (.iload 4) 2 20 := ⟨zg_14_64_18.1, rfl⟩
theorem zd_14_64_20 : zz_D zy_resultsOf_14_64 20 (.iload_n 2) 1 21 := ⟨zg_14_64_18.2.1, rfl⟩
theorem zd_14_64_21 : zz_D zy_resultsOf_14_64 21 (.idiv) 1 22 := ⟨zg_14_64_18.2.2.1, rfl⟩
theorem zd_14_64_22 : zz_D zy_resultsOf_14_64 22 (.iconst 1) 1 23 := ⟨zg_14_64_18.2.2.2.1, rfl⟩
theorem zd_14_64_23 : zz_D zy_resultsOf_14_64 23 (.iadd) 1 24 := ⟨zg_14_64_18.2.2.2.2.1, rfl⟩
theorem zd_14_64_24 : zz_D zy_resultsOf_14_64 24 (.ireturn) 1 25 := ⟨zg_14_64_18.2.2.2.2.2.1, rfl⟩
theorem zd_14_64_14 : zz_D zy_resultsOf_14_64 14 (.iconst 0) 1 15 := ⟨zg_14_64_18.2.2.2.2.2.2.1, rfl⟩
theorem zd_14_64_15 : zz_B zy_resultsOf_14_64 15 Instr.goto 24 18 := ⟨9, zg_14_64_18.2.2.2.2.2.2.2, rfl, rfl⟩
-- TensorForgeModel resultsOf (IIII)I
abbrev zr_resultsOf_14_64 : Room := { frames := 0, cells := 0, slots := 0, locals := 0 }
def zp_resultsOf_14_64 (p0 : Int) (p1 : Int) (p2 : Int) (p3 : Int) (S0 : zz_S) : Int → zz_S → Prop := fun r S => S0 = S ∧ (0 ≤ r ∧ r ≤ 65) ∧ (r ≤ p0 + 2 * p3) ∧ (1 ≤ r → p2 * (r - 1) + p1 ≤ p0 + 2 * p3)
theorem zc_resultsOf_14_64 {g : mm_G} {l : Launch} (p0 : Int) (p1 : Int) (p2 : Int) (p3 : Int) (S0 : zz_S) (n : Nat) (hn : zz_end ≤ n) (G_S0 : zz_G S0) (hp0 : 0 ≤ p0 ∧ p0 ≤ 63) (hp1 : 1 ≤ p1 ∧ p1 ≤ 3) (hp2 : 1 ≤ p2 ∧ p2 ≤ 3) (hp3 : 0 ≤ p3 ∧ p3 ≤ 1) : mm_Met g l zy_resultsOf_14_64 zr_resultsOf_14_64 [zi p0, zi p1, zi p2, zi p3] (zz_M S0 n) n (zz_QI n (zp_resultsOf_14_64 p0 p1 p2 p3 S0)) := by
  refine zz_enter (by decide) (Nat.le_of_ble_eq_true rfl) (zz_less (ls1 := [some (zi p0), some (zi p1), some (zi p2), some (zi p3)]) ⟨rfl, ⟨rfl, ⟨rfl, ⟨rfl, trivial⟩⟩⟩⟩ ?_)
  rcases (by omega : p2 = 1 ∨ p2 = 2 ∨ p2 = 3) with rfl | rfl | rfl
  · refine zz_iload_n (x := p0) rfl zd_14_64_0 ?_
    refine zz_iconst zd_14_64_1 ?_
    refine zz_iload_n (x := p3) rfl zd_14_64_2 ?_
    refine zz_imul zd_14_64_3 ?_
    refine zz_iadd zd_14_64_4 ?_
    refine zz_iload_n (x := p1) rfl zd_14_64_5 ?_
    refine zz_isub zd_14_64_6 ?_
    refine zz_istore [some (zi p0), some (zi p1), some (zi 1), some (zi p3), some (zi ((p0 + (2 * p3)) - p1))] zd_14_64_7 (by decide) rfl ?_
    refine zz_iload (x := (p0 + (2 * p3)) - p1) rfl zd_14_64_9 ?_
    refine zz_if_ge (by omega) zd_14_64_11 (fun c1 => ?_) (fun c1 => ?_)
    · refine zz_iload (x := (p0 + (2 * p3)) - p1) rfl zd_14_64_18 ?_
      refine zz_iload_n (x := 1) rfl zd_14_64_20 ?_
      refine zz_idiv (by omega) (by omega) zd_14_64_21 (fun v2 hv2 av2 bv2 cv2 => ?_)
      obtain rfl : v2 = ((p0 + (2 * p3)) - p1) / 1 := by omega
      refine zz_iconst zd_14_64_22 ?_
      refine zz_iadd zd_14_64_23 ?_
      exact zz_iret zd_14_64_24 rfl (Nat.zero_le _) (Nat.zero_le _) ⟨_, _, rfl, rfl, by omega, by omega, by omega⟩
    · refine zz_iconst zd_14_64_14 ?_
      refine zz_goto zd_14_64_15 ?_
      exact zz_iret zd_14_64_24 rfl (Nat.zero_le _) (Nat.zero_le _) ⟨_, _, rfl, rfl, by omega, by omega, by omega⟩
  · refine zz_iload_n (x := p0) rfl zd_14_64_0 ?_
    refine zz_iconst zd_14_64_1 ?_
    refine zz_iload_n (x := p3) rfl zd_14_64_2 ?_
    refine zz_imul zd_14_64_3 ?_
    refine zz_iadd zd_14_64_4 ?_
    refine zz_iload_n (x := p1) rfl zd_14_64_5 ?_
    refine zz_isub zd_14_64_6 ?_
    refine zz_istore [some (zi p0), some (zi p1), some (zi 2), some (zi p3), some (zi ((p0 + (2 * p3)) - p1))] zd_14_64_7 (by decide) rfl ?_
    refine zz_iload (x := (p0 + (2 * p3)) - p1) rfl zd_14_64_9 ?_
    refine zz_if_ge (by omega) zd_14_64_11 (fun c3 => ?_) (fun c3 => ?_)
    · refine zz_iload (x := (p0 + (2 * p3)) - p1) rfl zd_14_64_18 ?_
      refine zz_iload_n (x := 2) rfl zd_14_64_20 ?_
      refine zz_idiv (by omega) (by omega) zd_14_64_21 (fun v4 hv4 av4 bv4 cv4 => ?_)
      obtain rfl : v4 = ((p0 + (2 * p3)) - p1) / 2 := by omega
      refine zz_iconst zd_14_64_22 ?_
      refine zz_iadd zd_14_64_23 ?_
      exact zz_iret zd_14_64_24 rfl (Nat.zero_le _) (Nat.zero_le _) ⟨_, _, rfl, rfl, by omega, by omega, by omega⟩
    · refine zz_iconst zd_14_64_14 ?_
      refine zz_goto zd_14_64_15 ?_
      exact zz_iret zd_14_64_24 rfl (Nat.zero_le _) (Nat.zero_le _) ⟨_, _, rfl, rfl, by omega, by omega, by omega⟩
  · refine zz_iload_n (x := p0) rfl zd_14_64_0 ?_
    refine zz_iconst zd_14_64_1 ?_
    refine zz_iload_n (x := p3) rfl zd_14_64_2 ?_
    refine zz_imul zd_14_64_3 ?_
    refine zz_iadd zd_14_64_4 ?_
    refine zz_iload_n (x := p1) rfl zd_14_64_5 ?_
    refine zz_isub zd_14_64_6 ?_
    refine zz_istore [some (zi p0), some (zi p1), some (zi 3), some (zi p3), some (zi ((p0 + (2 * p3)) - p1))] zd_14_64_7 (by decide) rfl ?_
    refine zz_iload (x := (p0 + (2 * p3)) - p1) rfl zd_14_64_9 ?_
    refine zz_if_ge (by omega) zd_14_64_11 (fun c5 => ?_) (fun c5 => ?_)
    · refine zz_iload (x := (p0 + (2 * p3)) - p1) rfl zd_14_64_18 ?_
      refine zz_iload_n (x := 3) rfl zd_14_64_20 ?_
      refine zz_idiv (by omega) (by omega) zd_14_64_21 (fun v6 hv6 av6 bv6 cv6 => ?_)
      obtain rfl : v6 = ((p0 + (2 * p3)) - p1) / 3 := by omega
      refine zz_iconst zd_14_64_22 ?_
      refine zz_iadd zd_14_64_23 ?_
      exact zz_iret zd_14_64_24 rfl (Nat.zero_le _) (Nat.zero_le _) ⟨_, _, rfl, rfl, by omega, by omega, by omega⟩
    · refine zz_iconst zd_14_64_14 ?_
      refine zz_goto zd_14_64_15 ?_
      exact zz_iret zd_14_64_24 rfl (Nat.zero_le _) (Nat.zero_le _) ⟨_, _, rfl, rfl, by omega, by omega, by omega⟩
abbrev zy_add_14_65 : mm_Y := (⟨"TensorForgeModel", "add", "(IIIII)I"⟩, prog_14_method_65_code, 7, (some .int))
theorem zyw_add_14_65 : mm_Yw zy_add_14_65 5 := ⟨mm_tb_1 2092 (by decide +kernel) rfl, mm_tb_1 12 (by decide +kernel) rfl, ⟨by decide, by decide⟩, by decide +kernel⟩
theorem zf_Md_100 : mm_Fl "TensorForgeModel" 100 11 41 (.array .int) true := ⟨R_Md, F_Md, 69, t_Md, rfl, i_Md, by decide, mm_tb_1 1652 (by decide +kernel) rfl, rfl, t_Md_ok, n_Md, rfl, by decide +kernel⟩
theorem zf_Md_103 : mm_Fl "TensorForgeModel" 103 11 42 (.array .int) true := ⟨R_Md, F_Md, 69, t_Md, rfl, i_Md, by decide, mm_tb_1 1653 (by decide +kernel) rfl, rfl, t_Md_ok, n_Md, rfl, by decide +kernel⟩
theorem zg_14_65_0 : (decode zy_add_14_65.2.1 0 = .ok ((.iload_n 3), 1)) ∧ (decode zy_add_14_65.2.1 1 = .ok ((.iload 4), 2)) ∧ (decode zy_add_14_65.2.1 3 = .ok ((.imul), 1)) ∧ (decode zy_add_14_65.2.1 4 = .ok ((.iload 5), 2)) ∧ (decode zy_add_14_65.2.1 6 = .ok ((.imul), 1)) ∧ (decode zy_add_14_65.2.1 7 = .ok ((.istore 6), 2)) ∧ (decode zy_add_14_65.2.1 9 = .ok ((.aload_n 0), 1)) ∧ (decode zy_add_14_65.2.1 10 = .ok ((.iconst 0), 1)) ∧ (decode zy_add_14_65.2.1 11 = .ok ((.iconst 0), 1)) ∧ (decode zy_add_14_65.2.1 12 = .ok ((.aload_n 0), 1)) := by decide +kernel
theorem zd_14_65_0 : zz_D zy_add_14_65 0 (.iload_n 3) 1 1 := ⟨zg_14_65_0.1, rfl⟩
theorem zd_14_65_1 : zz_D zy_add_14_65 1 (.iload 4) 2 3 := ⟨zg_14_65_0.2.1, rfl⟩
theorem zd_14_65_3 : zz_D zy_add_14_65 3 (.imul) 1 4 := ⟨zg_14_65_0.2.2.1, rfl⟩
theorem zd_14_65_4 : zz_D zy_add_14_65 4 (.iload 5) 2 6 := ⟨zg_14_65_0.2.2.2.1, rfl⟩
theorem zd_14_65_6 : zz_D zy_add_14_65 6 (.imul) 1 7 := ⟨zg_14_65_0.2.2.2.2.1, rfl⟩
theorem zd_14_65_7 : zz_D zy_add_14_65 7 (.istore 6) 2 9 := ⟨zg_14_65_0.2.2.2.2.2.1, rfl⟩
theorem zd_14_65_9 : zz_D zy_add_14_65 9 (.aload_n 0) 1 10 := ⟨zg_14_65_0.2.2.2.2.2.2.1, rfl⟩
theorem zd_14_65_10 : zz_D zy_add_14_65 10 (.iconst 0) 1 11 := ⟨zg_14_65_0.2.2.2.2.2.2.2.1, rfl⟩
theorem zd_14_65_11 : zz_D zy_add_14_65 11 (.iconst 0) 1 12 := ⟨zg_14_65_0.2.2.2.2.2.2.2.2.1, rfl⟩
theorem zd_14_65_12 : zz_D zy_add_14_65 12 (.aload_n 0) 1 13 := ⟨zg_14_65_0.2.2.2.2.2.2.2.2.2, rfl⟩
theorem zg_14_65_13 : (decode zy_add_14_65.2.1 13 = .ok ((.getfield 85), 3)) ∧ (decode zy_add_14_65.2.1 16 = .ok ((.bipush 10), 2)) ∧ (decode zy_add_14_65.2.1 18 = .ok ((Instr.if_icmp .gt) 21, 3)) ∧ (decode zy_add_14_65.2.1 39 = .ok ((.iconst 1), 1)) ∧ (decode zy_add_14_65.2.1 40 = .ok (Instr.goto 4, 3)) ∧ (decode zy_add_14_65.2.1 44 = .ok ((.invokevirtual 196), 3)) ∧ (decode zy_add_14_65.2.1 47 = .ok ((Instr.ifCond .eq) 5, 3)) ∧ (decode zy_add_14_65.2.1 50 = .ok ((.iconst 0), 1)) ∧ (decode zy_add_14_65.2.1 51 = .ok ((.ireturn), 1)) ∧ (decode zy_add_14_65.2.1 21 = .ok ((.aload_n 0), 1)) := by decide +kernel
theorem zd_14_65_13 : zz_D zy_add_14_65 13 (.getfield 85) 3 16 := ⟨zg_14_65_13.1, rfl⟩
theorem zd_14_65_16 : zz_D zy_add_14_65 16 (.bipush 10) 2 18 := ⟨zg_14_65_13.2.1, rfl⟩
theorem zd_14_65_18 : zz_B zy_add_14_65 18 (Instr.if_icmp .gt) 39 21 := ⟨21, zg_14_65_13.2.2.1, rfl, rfl⟩
theorem zd_14_65_39 : zz_D zy_add_14_65 39 (.iconst 1) 1 40 := ⟨zg_14_65_13.2.2.2.1, rfl⟩
theorem zd_14_65_40 : zz_B zy_add_14_65 40 Instr.goto 44 43 := ⟨4, zg_14_65_13.2.2.2.2.1, rfl, rfl⟩
theorem zd_14_65_44 : zz_D zy_add_14_65 44 (.invokevirtual 196) 3 47 := ⟨zg_14_65_13.2.2.2.2.2.1, rfl⟩
theorem zd_14_65_47 : zz_B zy_add_14_65 47 (Instr.ifCond .eq) 52 50 := ⟨5, zg_14_65_13.2.2.2.2.2.2.1, rfl, rfl⟩
theorem zd_14_65_50 : zz_D zy_add_14_65 50 (.iconst 0) 1 51 := ⟨zg_14_65_13.2.2.2.2.2.2.2.1, rfl⟩
theorem zd_14_65_51 : zz_D zy_add_14_65 51 (.ireturn) 1 52 := ⟨zg_14_65_13.2.2.2.2.2.2.2.2.1, rfl⟩
theorem zd_14_65_21 : zz_D zy_add_14_65 21 (.aload_n 0) 1 22 := ⟨zg_14_65_13.2.2.2.2.2.2.2.2.2, rfl⟩
theorem zg_14_65_22 : (decode zy_add_14_65.2.1 22 = .ok ((.getfield 97), 3)) ∧ (decode zy_add_14_65.2.1 25 = .ok ((.aload_n 0), 1)) ∧ (decode zy_add_14_65.2.1 26 = .ok ((.getfield 85), 3)) ∧ (decode zy_add_14_65.2.1 29 = .ok ((.iaload), 1)) ∧ (decode zy_add_14_65.2.1 30 = .ok ((.iload 6), 2)) ∧ (decode zy_add_14_65.2.1 32 = .ok ((.iadd), 1)) ∧ (decode zy_add_14_65.2.1 33 = .ok ((.sipush 2048), 3)) ∧ (decode zy_add_14_65.2.1 36 = .ok ((Instr.if_icmp .le) 7, 3)) ∧ (decode zy_add_14_65.2.1 43 = .ok ((.iconst 0), 1)) ∧ (decode zy_add_14_65.2.1 52 = .ok ((.aload_n 0), 1)) := by decide +kernel
theorem zd_14_65_22 : zz_D zy_add_14_65 22 (.getfield 97) 3 25 := ⟨zg_14_65_22.1, rfl⟩
theorem zd_14_65_25 : zz_D zy_add_14_65 25 (.aload_n 0) 1 26 := ⟨zg_14_65_22.2.1, rfl⟩
theorem zd_14_65_26 : zz_D zy_add_14_65 26 (.getfield 85) 3 29 := ⟨zg_14_65_22.2.2.1, rfl⟩
theorem zd_14_65_29 : zz_D zy_add_14_65 29 (.iaload) 1 30 := ⟨zg_14_65_22.2.2.2.1, rfl⟩
theorem zd_14_65_30 : zz_D zy_add_14_65 30 (.iload 6) 2 32 := ⟨zg_14_65_22.2.2.2.2.1, rfl⟩
theorem zd_14_65_32 : zz_D zy_add_14_65 32 (.iadd) 1 33 := ⟨zg_14_65_22.2.2.2.2.2.1, rfl⟩
theorem zd_14_65_33 : zz_D zy_add_14_65 33 (.sipush 2048) 3 36 := ⟨zg_14_65_22.2.2.2.2.2.2.1, rfl⟩
theorem zd_14_65_36 : zz_B zy_add_14_65 36 (Instr.if_icmp .le) 43 39 := ⟨7, zg_14_65_22.2.2.2.2.2.2.2.1, rfl, rfl⟩
theorem zd_14_65_43 : zz_D zy_add_14_65 43 (.iconst 0) 1 44 := ⟨zg_14_65_22.2.2.2.2.2.2.2.2.1, rfl⟩
theorem zd_14_65_52 : zz_D zy_add_14_65 52 (.aload_n 0) 1 53 := ⟨zg_14_65_22.2.2.2.2.2.2.2.2.2, rfl⟩
theorem zg_14_65_53 : (decode zy_add_14_65.2.1 53 = .ok ((.getfield 100), 3)) ∧ (decode zy_add_14_65.2.1 56 = .ok ((.aload_n 0), 1)) ∧ (decode zy_add_14_65.2.1 57 = .ok ((.getfield 85), 3)) ∧ (decode zy_add_14_65.2.1 60 = .ok ((.iconst 1), 1)) ∧ (decode zy_add_14_65.2.1 61 = .ok ((.isub), 1)) ∧ (decode zy_add_14_65.2.1 62 = .ok ((.iload_n 1), 1)) ∧ (decode zy_add_14_65.2.1 63 = .ok ((.iastore), 1)) ∧ (decode zy_add_14_65.2.1 64 = .ok ((.aload_n 0), 1)) ∧ (decode zy_add_14_65.2.1 65 = .ok ((.getfield 103), 3)) ∧ (decode zy_add_14_65.2.1 68 = .ok ((.aload_n 0), 1)) := by decide +kernel
theorem zd_14_65_53 : zz_D zy_add_14_65 53 (.getfield 100) 3 56 := ⟨zg_14_65_53.1, rfl⟩
theorem zd_14_65_56 : zz_D zy_add_14_65 56 (.aload_n 0) 1 57 := ⟨zg_14_65_53.2.1, rfl⟩
theorem zd_14_65_57 : zz_D zy_add_14_65 57 (.getfield 85) 3 60 := ⟨zg_14_65_53.2.2.1, rfl⟩
theorem zd_14_65_60 : zz_D zy_add_14_65 60 (.iconst 1) 1 61 := ⟨zg_14_65_53.2.2.2.1, rfl⟩
theorem zd_14_65_61 : zz_D zy_add_14_65 61 (.isub) 1 62 := ⟨zg_14_65_53.2.2.2.2.1, rfl⟩
theorem zd_14_65_62 : zz_D zy_add_14_65 62 (.iload_n 1) 1 63 := ⟨zg_14_65_53.2.2.2.2.2.1, rfl⟩
theorem zd_14_65_63 : zz_D zy_add_14_65 63 (.iastore) 1 64 := ⟨zg_14_65_53.2.2.2.2.2.2.1, rfl⟩
theorem zd_14_65_64 : zz_D zy_add_14_65 64 (.aload_n 0) 1 65 := ⟨zg_14_65_53.2.2.2.2.2.2.2.1, rfl⟩
theorem zd_14_65_65 : zz_D zy_add_14_65 65 (.getfield 103) 3 68 := ⟨zg_14_65_53.2.2.2.2.2.2.2.2.1, rfl⟩
theorem zd_14_65_68 : zz_D zy_add_14_65 68 (.aload_n 0) 1 69 := ⟨zg_14_65_53.2.2.2.2.2.2.2.2.2, rfl⟩
theorem zg_14_65_69 : (decode zy_add_14_65.2.1 69 = .ok ((.getfield 85), 3)) ∧ (decode zy_add_14_65.2.1 72 = .ok ((.iconst 1), 1)) ∧ (decode zy_add_14_65.2.1 73 = .ok ((.isub), 1)) ∧ (decode zy_add_14_65.2.1 74 = .ok ((.iload_n 2), 1)) ∧ (decode zy_add_14_65.2.1 75 = .ok ((.iastore), 1)) ∧ (decode zy_add_14_65.2.1 76 = .ok ((.aload_n 0), 1)) ∧ (decode zy_add_14_65.2.1 77 = .ok ((.getfield 88), 3)) ∧ (decode zy_add_14_65.2.1 80 = .ok ((.aload_n 0), 1)) ∧ (decode zy_add_14_65.2.1 81 = .ok ((.getfield 85), 3)) ∧ (decode zy_add_14_65.2.1 84 = .ok ((.iload_n 3), 1)) := by decide +kernel
theorem zd_14_65_69 : zz_D zy_add_14_65 69 (.getfield 85) 3 72 := ⟨zg_14_65_69.1, rfl⟩
theorem zd_14_65_72 : zz_D zy_add_14_65 72 (.iconst 1) 1 73 := ⟨zg_14_65_69.2.1, rfl⟩
theorem zd_14_65_73 : zz_D zy_add_14_65 73 (.isub) 1 74 := ⟨zg_14_65_69.2.2.1, rfl⟩
theorem zd_14_65_74 : zz_D zy_add_14_65 74 (.iload_n 2) 1 75 := ⟨zg_14_65_69.2.2.2.1, rfl⟩
theorem zd_14_65_75 : zz_D zy_add_14_65 75 (.iastore) 1 76 := ⟨zg_14_65_69.2.2.2.2.1, rfl⟩
theorem zd_14_65_76 : zz_D zy_add_14_65 76 (.aload_n 0) 1 77 := ⟨zg_14_65_69.2.2.2.2.2.1, rfl⟩
theorem zd_14_65_77 : zz_D zy_add_14_65 77 (.getfield 88) 3 80 := ⟨zg_14_65_69.2.2.2.2.2.2.1, rfl⟩
theorem zd_14_65_80 : zz_D zy_add_14_65 80 (.aload_n 0) 1 81 := ⟨zg_14_65_69.2.2.2.2.2.2.2.1, rfl⟩
theorem zd_14_65_81 : zz_D zy_add_14_65 81 (.getfield 85) 3 84 := ⟨zg_14_65_69.2.2.2.2.2.2.2.2.1, rfl⟩
theorem zd_14_65_84 : zz_D zy_add_14_65 84 (.iload_n 3) 1 85 := ⟨zg_14_65_69.2.2.2.2.2.2.2.2.2, rfl⟩
theorem zg_14_65_85 : (decode zy_add_14_65.2.1 85 = .ok ((.iastore), 1)) ∧ (decode zy_add_14_65.2.1 86 = .ok ((.aload_n 0), 1)) ∧ (decode zy_add_14_65.2.1 87 = .ok ((.getfield 91), 3)) ∧ (decode zy_add_14_65.2.1 90 = .ok ((.aload_n 0), 1)) ∧ (decode zy_add_14_65.2.1 91 = .ok ((.getfield 85), 3)) ∧ (decode zy_add_14_65.2.1 94 = .ok ((.iload 4), 2)) ∧ (decode zy_add_14_65.2.1 96 = .ok ((.iastore), 1)) ∧ (decode zy_add_14_65.2.1 97 = .ok ((.aload_n 0), 1)) ∧ (decode zy_add_14_65.2.1 98 = .ok ((.getfield 94), 3)) ∧ (decode zy_add_14_65.2.1 101 = .ok ((.aload_n 0), 1)) := by decide +kernel
theorem zd_14_65_85 : zz_D zy_add_14_65 85 (.iastore) 1 86 := ⟨zg_14_65_85.1, rfl⟩
theorem zd_14_65_86 : zz_D zy_add_14_65 86 (.aload_n 0) 1 87 := ⟨zg_14_65_85.2.1, rfl⟩
theorem zd_14_65_87 : zz_D zy_add_14_65 87 (.getfield 91) 3 90 := ⟨zg_14_65_85.2.2.1, rfl⟩
theorem zd_14_65_90 : zz_D zy_add_14_65 90 (.aload_n 0) 1 91 := ⟨zg_14_65_85.2.2.2.1, rfl⟩
theorem zd_14_65_91 : zz_D zy_add_14_65 91 (.getfield 85) 3 94 := ⟨zg_14_65_85.2.2.2.2.1, rfl⟩
theorem zd_14_65_94 : zz_D zy_add_14_65 94 (.iload 4) 2 96 := ⟨zg_14_65_85.2.2.2.2.2.1, rfl⟩
theorem zd_14_65_96 : zz_D zy_add_14_65 96 (.iastore) 1 97 := ⟨zg_14_65_85.2.2.2.2.2.2.1, rfl⟩
theorem zd_14_65_97 : zz_D zy_add_14_65 97 (.aload_n 0) 1 98 := ⟨zg_14_65_85.2.2.2.2.2.2.2.1, rfl⟩
theorem zd_14_65_98 : zz_D zy_add_14_65 98 (.getfield 94) 3 101 := ⟨zg_14_65_85.2.2.2.2.2.2.2.2.1, rfl⟩
theorem zd_14_65_101 : zz_D zy_add_14_65 101 (.aload_n 0) 1 102 := ⟨zg_14_65_85.2.2.2.2.2.2.2.2.2, rfl⟩
theorem zg_14_65_102 : (decode zy_add_14_65.2.1 102 = .ok ((.getfield 85), 3)) ∧ (decode zy_add_14_65.2.1 105 = .ok ((.iload 5), 2)) ∧ (decode zy_add_14_65.2.1 107 = .ok ((.iastore), 1)) ∧ (decode zy_add_14_65.2.1 108 = .ok ((.aload_n 0), 1)) ∧ (decode zy_add_14_65.2.1 109 = .ok ((.getfield 97), 3)) ∧ (decode zy_add_14_65.2.1 112 = .ok ((.aload_n 0), 1)) ∧ (decode zy_add_14_65.2.1 113 = .ok ((.getfield 85), 3)) ∧ (decode zy_add_14_65.2.1 116 = .ok ((.iconst 1), 1)) ∧ (decode zy_add_14_65.2.1 117 = .ok ((.iadd), 1)) ∧ (decode zy_add_14_65.2.1 118 = .ok ((.aload_n 0), 1)) := by decide +kernel
theorem zd_14_65_102 : zz_D zy_add_14_65 102 (.getfield 85) 3 105 := ⟨zg_14_65_102.1, rfl⟩
theorem zd_14_65_105 : zz_D zy_add_14_65 105 (.iload 5) 2 107 := ⟨zg_14_65_102.2.1, rfl⟩
theorem zd_14_65_107 : zz_D zy_add_14_65 107 (.iastore) 1 108 := ⟨zg_14_65_102.2.2.1, rfl⟩
theorem zd_14_65_108 : zz_D zy_add_14_65 108 (.aload_n 0) 1 109 := ⟨zg_14_65_102.2.2.2.1, rfl⟩
theorem zd_14_65_109 : zz_D zy_add_14_65 109 (.getfield 97) 3 112 := ⟨zg_14_65_102.2.2.2.2.1, rfl⟩
theorem zd_14_65_112 : zz_D zy_add_14_65 112 (.aload_n 0) 1 113 := ⟨zg_14_65_102.2.2.2.2.2.1, rfl⟩
theorem zd_14_65_113 : zz_D zy_add_14_65 113 (.getfield 85) 3 116 := ⟨zg_14_65_102.2.2.2.2.2.2.1, rfl⟩
theorem zd_14_65_116 : zz_D zy_add_14_65 116 (.iconst 1) 1 117 := ⟨zg_14_65_102.2.2.2.2.2.2.2.1, rfl⟩
theorem zd_14_65_117 : zz_D zy_add_14_65 117 (.iadd) 1 118 := ⟨zg_14_65_102.2.2.2.2.2.2.2.2.1, rfl⟩
theorem zd_14_65_118 : zz_D zy_add_14_65 118 (.aload_n 0) 1 119 := ⟨zg_14_65_102.2.2.2.2.2.2.2.2.2, rfl⟩
theorem zg_14_65_119 : (decode zy_add_14_65.2.1 119 = .ok ((.getfield 97), 3)) ∧ (decode zy_add_14_65.2.1 122 = .ok ((.aload_n 0), 1)) ∧ (decode zy_add_14_65.2.1 123 = .ok ((.getfield 85), 3)) ∧ (decode zy_add_14_65.2.1 126 = .ok ((.iaload), 1)) ∧ (decode zy_add_14_65.2.1 127 = .ok ((.iload 6), 2)) ∧ (decode zy_add_14_65.2.1 129 = .ok ((.iadd), 1)) ∧ (decode zy_add_14_65.2.1 130 = .ok ((.iastore), 1)) ∧ (decode zy_add_14_65.2.1 131 = .ok ((.aload_n 0), 1)) ∧ (decode zy_add_14_65.2.1 132 = .ok ((.dup), 1)) ∧ (decode zy_add_14_65.2.1 133 = .ok ((.getfield 85), 3)) := by decide +kernel
theorem zd_14_65_119 : zz_D zy_add_14_65 119 (.getfield 97) 3 122 := ⟨zg_14_65_119.1, rfl⟩
theorem zd_14_65_122 : zz_D zy_add_14_65 122 (.aload_n 0) 1 123 := ⟨zg_14_65_119.2.1, rfl⟩
theorem zd_14_65_123 : zz_D zy_add_14_65 123 (.getfield 85) 3 126 := ⟨zg_14_65_119.2.2.1, rfl⟩
theorem zd_14_65_126 : zz_D zy_add_14_65 126 (.iaload) 1 127 := ⟨zg_14_65_119.2.2.2.1, rfl⟩
theorem zd_14_65_127 : zz_D zy_add_14_65 127 (.iload 6) 2 129 := ⟨zg_14_65_119.2.2.2.2.1, rfl⟩
theorem zd_14_65_129 : zz_D zy_add_14_65 129 (.iadd) 1 130 := ⟨zg_14_65_119.2.2.2.2.2.1, rfl⟩
theorem zd_14_65_130 : zz_D zy_add_14_65 130 (.iastore) 1 131 := ⟨zg_14_65_119.2.2.2.2.2.2.1, rfl⟩
theorem zd_14_65_131 : zz_D zy_add_14_65 131 (.aload_n 0) 1 132 := ⟨zg_14_65_119.2.2.2.2.2.2.2.1, rfl⟩
theorem zd_14_65_132 : zz_D zy_add_14_65 132 (.dup) 1 133 := ⟨zg_14_65_119.2.2.2.2.2.2.2.2.1, rfl⟩
theorem zd_14_65_133 : zz_D zy_add_14_65 133 (.getfield 85) 3 136 := ⟨zg_14_65_119.2.2.2.2.2.2.2.2.2, rfl⟩
theorem zg_14_65_136 : (decode zy_add_14_65.2.1 136 = .ok ((.iconst 1), 1)) ∧ (decode zy_add_14_65.2.1 137 = .ok ((.iadd), 1)) ∧ (decode zy_add_14_65.2.1 138 = .ok ((.putfield 85), 3)) ∧ (decode zy_add_14_65.2.1 141 = .ok ((.aload_n 0), 1)) ∧ (decode zy_add_14_65.2.1 142 = .ok ((.getfield 85), 3)) ∧ (decode zy_add_14_65.2.1 145 = .ok ((.iconst 1), 1)) ∧ (decode zy_add_14_65.2.1 146 = .ok ((.isub), 1)) ∧ (decode zy_add_14_65.2.1 147 = .ok ((.ireturn), 1)) := by decide +kernel
theorem zd_14_65_136 : zz_D zy_add_14_65 136 (.iconst 1) 1 137 := ⟨zg_14_65_136.1, rfl⟩
theorem zd_14_65_137 : zz_D zy_add_14_65 137 (.iadd) 1 138 := ⟨zg_14_65_136.2.1, rfl⟩
theorem zd_14_65_138 : zz_D zy_add_14_65 138 (.putfield 85) 3 141 := ⟨zg_14_65_136.2.2.1, rfl⟩
theorem zd_14_65_141 : zz_D zy_add_14_65 141 (.aload_n 0) 1 142 := ⟨zg_14_65_136.2.2.2.1, rfl⟩
theorem zd_14_65_142 : zz_D zy_add_14_65 142 (.getfield 85) 3 145 := ⟨zg_14_65_136.2.2.2.2.1, rfl⟩
theorem zd_14_65_145 : zz_D zy_add_14_65 145 (.iconst 1) 1 146 := ⟨zg_14_65_136.2.2.2.2.2.1, rfl⟩
theorem zd_14_65_146 : zz_D zy_add_14_65 146 (.isub) 1 147 := ⟨zg_14_65_136.2.2.2.2.2.2.1, rfl⟩
theorem zd_14_65_147 : zz_D zy_add_14_65 147 (.ireturn) 1 148 := ⟨zg_14_65_136.2.2.2.2.2.2.2, rfl⟩
-- TensorForgeModel add (IIIII)I
abbrev zr_add_14_65 : Room := { frames := 1, cells := 0, slots := 0, locals := 15 }
def zp_add_14_65 (p0 : Int) (p1 : Int) (p2 : Int) (p3 : Int) (p4 : Int) (S0 : zz_S) : Int → zz_S → Prop := fun r S => zz_G S ∧ zz_fr [(1079, 0), (1079, 36)] [] (fun a i => (a = 1102 ∧ i = (S0 1079 36).toNat) ∨ (a = 1103 ∧ i = (S0 1079 36).toNat) ∨ (a = 1104 ∧ i = (S0 1079 36).toNat) ∨ (a = 1105 ∧ i = ((S0 1079 36) + 1).toNat) ∨ (a = 1106 ∧ i = ((S0 1079 36) - 1).toNat) ∨ (a = 1107 ∧ i = ((S0 1079 36) - 1).toNat)) S0 S ∧ (0 ≤ r ∧ r ≤ 10) ∧ ((S 1079 0 = 3 ∧ S 1079 36 = S0 1079 36) ∨ (S 1079 0 = 0 ∧ S0 1079 36 ≤ 10 ∧ r = S0 1079 36 ∧ S 1079 36 = S0 1079 36 + 1)) ∧ (S 1079 0 = 3 → zz_Hr S0 → zz_Hr S) ∧ (S 1079 0 = 0 → S 1102 (S0 1079 36).toNat = p2 ∧ S 1103 (S0 1079 36).toNat = p3 ∧ S 1104 (S0 1079 36).toNat = p4 ∧ S 1105 (S0 1079 36).toNat = S0 1105 (S0 1079 36).toNat ∧ S0 1105 (S0 1079 36).toNat + (p2 * p3) * p4 ≤ 2048 ∧ S 1106 (S0 1079 36 - 1).toNat = p0 ∧ S 1107 (S0 1079 36 - 1).toNat = p1)
theorem zc_add_14_65 {g : mm_G} {l : Launch} (p0 : Int) (p1 : Int) (p2 : Int) (p3 : Int) (p4 : Int) (S0 : zz_S) (n : Nat) (hn : zz_end ≤ n) (G_S0 : zz_G S0) (hp0 : 0 ≤ p0 ∧ p0 ≤ 2) (hp1 : 0 ≤ p1 ∧ p1 ≤ 10) (hp2 : 0 ≤ p2 ∧ p2 ≤ 63) (hp3 : 0 ≤ p3 ∧ p3 ≤ 63) (hp4 : 0 ≤ p4 ∧ p4 ≤ 63) (hq : 1 ≤ S0 1079 36) : mm_Met g l zy_add_14_65 zr_add_14_65 [.ref 1079, zi p0, zi p1, zi p2, zi p3, zi p4] (zz_M S0 n) n (zz_QI n (zp_add_14_65 p0 p1 p2 p3 p4 S0)) := by
  refine zz_enter (by decide) (Nat.le_of_ble_eq_true rfl) (zz_less (ls1 := [some (.ref 1079), some (zi p0), some (zi p1), some (zi p2), some (zi p3), some (zi p4)]) ⟨rfl, ⟨rfl, ⟨rfl, ⟨rfl, ⟨rfl, ⟨rfl, trivial⟩⟩⟩⟩⟩⟩ ?_)
  have F_S0 : zz_fr [(1079, 0), (1079, 36)] [] (fun a i => (a = 1102 ∧ i = (S0 1079 36).toNat) ∨ (a = 1103 ∧ i = (S0 1079 36).toNat) ∨ (a = 1104 ∧ i = (S0 1079 36).toNat) ∨ (a = 1105 ∧ i = ((S0 1079 36) + 1).toNat) ∨ (a = 1106 ∧ i = ((S0 1079 36) - 1).toNat) ∨ (a = 1107 ∧ i = ((S0 1079 36) - 1).toNat)) S0 S0 := zz_fr.refl
  refine zz_iload_n (x := p2) rfl zd_14_65_0 ?_
  refine zz_iload (x := p3) rfl zd_14_65_1 ?_
  refine zz_imul zd_14_65_3 ?_
  have m1 := zz_mulb (a := p2) (b := p3) 63 63 3969 (by omega) (by omega) (by decide)
  refine zz_iload (x := p4) rfl zd_14_65_4 ?_
  refine zz_imul zd_14_65_6 ?_
  have m2 := zz_mulb (a := p2 * p3) (b := p4) 3969 63 250047 (by omega) (by omega) (by decide)
  refine zz_istore [some (.ref 1079), some (zi p0), some (zi p1), some (zi p2), some (zi p3), some (zi p4), some (zi ((p2 * p3) * p4))] zd_14_65_7 (by decide) rfl ?_
  refine zz_aload_n (x := 1079) rfl zd_14_65_9 ?_
  refine zz_iconst zd_14_65_10 ?_
  refine zz_iconst zd_14_65_11 ?_
  refine zz_aload_n (x := 1079) rfl zd_14_65_12 ?_
  have g3 := zz_G.r G_S0 1079 36 0 11 rfl rfl
  refine zz_geti (z := S0 1079 36) zd_14_65_13 zf_Md_85 zT_1079 rfl (zz_ltn hn rfl) rfl ?_
  refine zz_bipush (by decide) zd_14_65_16 ?_
  refine zz_icmp_gt (by omega) (by omega) zd_14_65_18 (fun c4 => ?_) (fun c4 => ?_)
  · refine zz_iconst zd_14_65_39 ?_
    refine zz_goto zd_14_65_40 ?_
    refine zz_callVI [zi 0, zi 0, zi 1] zd_14_65_44 zk_Md_196 zT_1079 (zz_ltn hn rfl) rfl rfl ⟨Nat.le_of_ble_eq_true rfl, Nat.le_of_ble_eq_true rfl⟩ ⟨rfl, rfl⟩ (Nat.zero_le _) (Nat.zero_le _) (zc_refuse_14_3 0 0 1 S0 n hn G_S0 (by omega) (by omega) (by omega)) (fun v6 S5 hP => ?_)
    obtain ⟨G_S5, fS5, o7, o8⟩ := hP
    have F_S5 := zz_fr.trans F_S0 fS5 rfl zz_nv
    rcases (by omega : v6 = 0 ∨ v6 = 1) with rfl | rfl
    · exfalso; omega
    · have e9 : S5 1079 0 = 3 := by omega
      clear o8
      refine zz_if_eq (by omega) zd_14_65_47 (fun c10 => ?_) (fun c10 => ?_)
      · exfalso; omega
      · refine zz_iconst zd_14_65_50 ?_
        have e11 : S5 1079 36 = S0 1079 36 := (zz_rc fS5 rfl rfl (fun h => h) rfl)
        have g12 := zz_G.r G_S0 1102 ((S0 1079 36).toNat) 0 63 rfl rfl
        have e13 : S5 1102 (S0 1079 36).toNat = S0 1102 (S0 1079 36).toNat := (zz_rc fS5 (zz_nc1 rfl) rfl (fun h => h) rfl)
        have g14 := zz_G.r G_S0 1103 ((S0 1079 36).toNat) 0 63 rfl rfl
        have e15 : S5 1103 (S0 1079 36).toNat = S0 1103 (S0 1079 36).toNat := (zz_rc fS5 (zz_nc1 rfl) rfl (fun h => h) rfl)
        have g16 := zz_G.r G_S0 1104 ((S0 1079 36).toNat) 0 63 rfl rfl
        have e17 : S5 1104 (S0 1079 36).toNat = S0 1104 (S0 1079 36).toNat := (zz_rc fS5 (zz_nc1 rfl) rfl (fun h => h) rfl)
        have g18 := zz_G.r G_S0 1105 ((S0 1079 36).toNat) (0) (if (S0 1079 36).toNat = 0 then 0 else 10000000) rfl rfl
        have e19 : S5 1105 (S0 1079 36).toNat = S0 1105 (S0 1079 36).toNat := (zz_rc fS5 (zz_nc1 rfl) rfl (fun h => h) rfl)
        have g20 := zz_G.r G_S0 1106 ((S0 1079 36 - 1).toNat) 0 2 rfl rfl
        have e21 : S5 1106 (S0 1079 36 - 1).toNat = S0 1106 (S0 1079 36 - 1).toNat := (zz_rc fS5 (zz_nc1 rfl) rfl (fun h => h) rfl)
        have g22 := zz_G.r G_S0 1107 ((S0 1079 36 - 1).toNat) 0 10 rfl rfl
        have e23 : S5 1107 (S0 1079 36 - 1).toNat = S0 1107 (S0 1079 36 - 1).toNat := (zz_rc fS5 (zz_nc1 rfl) rfl (fun h => h) rfl)
        exact zz_iret zd_14_65_51 rfl (Nat.zero_le _) (Nat.zero_le _) ⟨_, _, rfl, G_S5, F_S5, by omega, by omega, fun _ h => zz_Hr.fr fS5 rfl rfl (fun b j h => h.elim) h, by omega⟩
  · refine zz_aload_n (x := 1079) rfl zd_14_65_21 ?_
    refine zz_getr (kd := 0) (z := 1105) zd_14_65_22 zf_Md_97 zT_1079 rfl (zz_ltn hn rfl) (zz_G.eq G_S0 1079 40 1105 rfl rfl) (by decide) 1105 rfl ?_
    refine zz_aload_n (x := 1079) rfl zd_14_65_25 ?_
    refine zz_geti (z := S0 1079 36) zd_14_65_26 zf_Md_85 zT_1079 rfl (zz_ltn hn rfl) rfl ?_
    have g24 := zz_G.r G_S0 1105 ((S0 1079 36).toNat) (0) (if (S0 1079 36).toNat = 0 then 0 else 10000000) rfl rfl
    refine zz_iald (z := S0 1105 ((S0 1079 36).toNat)) zd_14_65_29 zT_1105 rfl (zz_ltn hn rfl) (by decide) (by omega) rfl ?_
    refine zz_iload (x := (p2 * p3) * p4) rfl zd_14_65_30 ?_
    refine zz_iadd zd_14_65_32 ?_
    refine zz_nme (fun v25 ev25 => ?_)
    refine zz_sipush (by decide) zd_14_65_33 ?_
    refine zz_icmp_le (by omega) (by omega) zd_14_65_36 (fun c26 => ?_) (fun c26 => ?_)
    · refine zz_iconst zd_14_65_43 ?_
      refine zz_callVI [zi 0, zi 0, zi 0] zd_14_65_44 zk_Md_196 zT_1079 (zz_ltn hn rfl) rfl rfl ⟨Nat.le_of_ble_eq_true rfl, Nat.le_of_ble_eq_true rfl⟩ ⟨rfl, rfl⟩ (Nat.zero_le _) (Nat.zero_le _) (zc_refuse_14_3 0 0 0 S0 n hn G_S0 (by omega) (by omega) (by omega)) (fun v28 S27 hP => ?_)
      obtain ⟨G_S27, fS27, o29, o30⟩ := hP
      have F_S27 := zz_fr.trans F_S0 fS27 rfl zz_nv
      rcases (by omega : v28 = 0 ∨ v28 = 1) with rfl | rfl
      · have e31 : S27 1079 0 = 0 := by omega
        clear o30
        refine zz_if_eq (by omega) zd_14_65_47 (fun c32 => ?_) (fun c32 => ?_)
        · refine zz_aload_n (x := 1079) rfl zd_14_65_52 ?_
          refine zz_getr (kd := 0) (z := 1106) zd_14_65_53 zf_Md_100 zT_1079 rfl (zz_ltn hn rfl) (zz_G.eq G_S27 1079 41 1106 rfl rfl) (by decide) 1106 rfl ?_
          refine zz_aload_n (x := 1079) rfl zd_14_65_56 ?_
          refine zz_geti (z := S0 1079 36) zd_14_65_57 zf_Md_85 zT_1079 rfl (zz_ltn hn rfl) (zz_rc fS27 rfl rfl (fun h => h) rfl) ?_
          refine zz_iconst zd_14_65_60 ?_
          refine zz_isub zd_14_65_61 ?_
          refine zz_iload_n (x := p0) rfl zd_14_65_62 ?_
          refine zz_iast zd_14_65_63 zT_1106 rfl (zz_ltn hn rfl) (by decide) (by omega) (fun S33 qS33 => ?_)
          have G_S33 := zz_G.put G_S27 qS33 0 2 rfl (by omega)
          have F_S33 := zz_fr.putv F_S27 qS33 (Or.inr (Or.inr (Or.inr (Or.inr (Or.inl ⟨rfl, rfl⟩)))))
          refine zz_aload_n (x := 1079) rfl zd_14_65_64 ?_
          refine zz_getr (kd := 0) (z := 1107) zd_14_65_65 zf_Md_103 zT_1079 rfl (zz_ltn hn rfl) (zz_G.eq G_S33 1079 42 1107 rfl rfl) (by decide) 1107 rfl ?_
          refine zz_aload_n (x := 1079) rfl zd_14_65_68 ?_
          refine zz_geti (z := S0 1079 36) zd_14_65_69 zf_Md_85 zT_1079 rfl (zz_ltn hn rfl) (zz_ro qS33 (fun h => absurd h.1 (by decide)) (zz_rc fS27 rfl rfl (fun h => h) rfl)) ?_
          refine zz_iconst zd_14_65_72 ?_
          refine zz_isub zd_14_65_73 ?_
          refine zz_iload_n (x := p1) rfl zd_14_65_74 ?_
          refine zz_iast zd_14_65_75 zT_1107 rfl (zz_ltn hn rfl) (by decide) (by omega) (fun S34 qS34 => ?_)
          have G_S34 := zz_G.put G_S33 qS34 0 10 rfl (by omega)
          have F_S34 := zz_fr.putv F_S33 qS34 (Or.inr (Or.inr (Or.inr (Or.inr (Or.inr (⟨rfl, rfl⟩))))))
          refine zz_aload_n (x := 1079) rfl zd_14_65_76 ?_
          refine zz_getr (kd := 0) (z := 1102) zd_14_65_77 zf_Md_88 zT_1079 rfl (zz_ltn hn rfl) (zz_G.eq G_S34 1079 37 1102 rfl rfl) (by decide) 1102 rfl ?_
          refine zz_aload_n (x := 1079) rfl zd_14_65_80 ?_
          refine zz_geti (z := S0 1079 36) zd_14_65_81 zf_Md_85 zT_1079 rfl (zz_ltn hn rfl) (zz_ro qS34 (fun h => absurd h.1 (by decide)) (zz_ro qS33 (fun h => absurd h.1 (by decide)) (zz_rc fS27 rfl rfl (fun h => h) rfl))) ?_
          refine zz_iload_n (x := p2) rfl zd_14_65_84 ?_
          refine zz_iast zd_14_65_85 zT_1102 rfl (zz_ltn hn rfl) (by decide) (by omega) (fun S35 qS35 => ?_)
          have G_S35 := zz_G.put G_S34 qS35 0 63 rfl (by omega)
          have F_S35 := zz_fr.putv F_S34 qS35 (Or.inl ⟨rfl, rfl⟩)
          refine zz_aload_n (x := 1079) rfl zd_14_65_86 ?_
          refine zz_getr (kd := 0) (z := 1103) zd_14_65_87 zf_Md_91 zT_1079 rfl (zz_ltn hn rfl) (zz_G.eq G_S35 1079 38 1103 rfl rfl) (by decide) 1103 rfl ?_
          refine zz_aload_n (x := 1079) rfl zd_14_65_90 ?_
          refine zz_geti (z := S0 1079 36) zd_14_65_91 zf_Md_85 zT_1079 rfl (zz_ltn hn rfl) (zz_ro qS35 (fun h => absurd h.1 (by decide)) (zz_ro qS34 (fun h => absurd h.1 (by decide)) (zz_ro qS33 (fun h => absurd h.1 (by decide)) (zz_rc fS27 rfl rfl (fun h => h) rfl)))) ?_
          refine zz_iload (x := p3) rfl zd_14_65_94 ?_
          refine zz_iast zd_14_65_96 zT_1103 rfl (zz_ltn hn rfl) (by decide) (by omega) (fun S36 qS36 => ?_)
          have G_S36 := zz_G.put G_S35 qS36 0 63 rfl (by omega)
          have F_S36 := zz_fr.putv F_S35 qS36 (Or.inr (Or.inl ⟨rfl, rfl⟩))
          refine zz_aload_n (x := 1079) rfl zd_14_65_97 ?_
          refine zz_getr (kd := 0) (z := 1104) zd_14_65_98 zf_Md_94 zT_1079 rfl (zz_ltn hn rfl) (zz_G.eq G_S36 1079 39 1104 rfl rfl) (by decide) 1104 rfl ?_
          refine zz_aload_n (x := 1079) rfl zd_14_65_101 ?_
          refine zz_geti (z := S0 1079 36) zd_14_65_102 zf_Md_85 zT_1079 rfl (zz_ltn hn rfl) (zz_ro qS36 (fun h => absurd h.1 (by decide)) (zz_ro qS35 (fun h => absurd h.1 (by decide)) (zz_ro qS34 (fun h => absurd h.1 (by decide)) (zz_ro qS33 (fun h => absurd h.1 (by decide)) (zz_rc fS27 rfl rfl (fun h => h) rfl))))) ?_
          refine zz_iload (x := p4) rfl zd_14_65_105 ?_
          refine zz_iast zd_14_65_107 zT_1104 rfl (zz_ltn hn rfl) (by decide) (by omega) (fun S37 qS37 => ?_)
          have G_S37 := zz_G.put G_S36 qS37 0 63 rfl (by omega)
          have F_S37 := zz_fr.putv F_S36 qS37 (Or.inr (Or.inr (Or.inl ⟨rfl, rfl⟩)))
          refine zz_aload_n (x := 1079) rfl zd_14_65_108 ?_
          refine zz_getr (kd := 0) (z := 1105) zd_14_65_109 zf_Md_97 zT_1079 rfl (zz_ltn hn rfl) (zz_G.eq G_S37 1079 40 1105 rfl rfl) (by decide) 1105 rfl ?_
          refine zz_aload_n (x := 1079) rfl zd_14_65_112 ?_
          refine zz_geti (z := S0 1079 36) zd_14_65_113 zf_Md_85 zT_1079 rfl (zz_ltn hn rfl) (zz_ro qS37 (fun h => absurd h.1 (by decide)) (zz_ro qS36 (fun h => absurd h.1 (by decide)) (zz_ro qS35 (fun h => absurd h.1 (by decide)) (zz_ro qS34 (fun h => absurd h.1 (by decide)) (zz_ro qS33 (fun h => absurd h.1 (by decide)) (zz_rc fS27 rfl rfl (fun h => h) rfl)))))) ?_
          refine zz_iconst zd_14_65_116 ?_
          refine zz_iadd zd_14_65_117 ?_
          refine zz_aload_n (x := 1079) rfl zd_14_65_118 ?_
          refine zz_getr (kd := 0) (z := 1105) zd_14_65_119 zf_Md_97 zT_1079 rfl (zz_ltn hn rfl) (zz_G.eq G_S37 1079 40 1105 rfl rfl) (by decide) 1105 rfl ?_
          refine zz_aload_n (x := 1079) rfl zd_14_65_122 ?_
          refine zz_geti (z := S0 1079 36) zd_14_65_123 zf_Md_85 zT_1079 rfl (zz_ltn hn rfl) (zz_ro qS37 (fun h => absurd h.1 (by decide)) (zz_ro qS36 (fun h => absurd h.1 (by decide)) (zz_ro qS35 (fun h => absurd h.1 (by decide)) (zz_ro qS34 (fun h => absurd h.1 (by decide)) (zz_ro qS33 (fun h => absurd h.1 (by decide)) (zz_rc fS27 rfl rfl (fun h => h) rfl)))))) ?_
          refine zz_iald (z := S0 1105 ((S0 1079 36).toNat)) zd_14_65_126 zT_1105 rfl (zz_ltn hn rfl) (by decide) (by omega) (zz_ro qS37 (fun h => absurd h.1 (by decide)) (zz_ro qS36 (fun h => absurd h.1 (by decide)) (zz_ro qS35 (fun h => absurd h.1 (by decide)) (zz_ro qS34 (fun h => absurd h.1 (by decide)) (zz_ro qS33 (fun h => absurd h.1 (by decide)) (zz_rc fS27 (zz_nc1 rfl) rfl (fun h => h) rfl)))))) ?_
          refine zz_iload (x := (p2 * p3) * p4) rfl zd_14_65_127 ?_
          refine zz_iadd zd_14_65_129 ?_
          refine zz_nme (fun v38 ev38 => ?_)
          refine zz_iast zd_14_65_130 zT_1105 rfl (zz_ltn hn rfl) (by decide) (by omega) (fun S39 qS39 => ?_)
          have G_S39 := zz_G.put G_S37 qS39 (0) (if ((S0 1079 36) + 1).toNat = 0 then 0 else 10000000) rfl (by omega)
          have F_S39 := zz_fr.putv F_S37 qS39 (Or.inr (Or.inr (Or.inr (Or.inl ⟨rfl, rfl⟩))))
          refine zz_aload_n (x := 1079) rfl zd_14_65_131 ?_
          refine zz_dup rfl zd_14_65_132 ?_
          refine zz_geti (z := S0 1079 36) zd_14_65_133 zf_Md_85 zT_1079 rfl (zz_ltn hn rfl) (zz_ro qS39 (fun h => absurd h.1 (by decide)) (zz_ro qS37 (fun h => absurd h.1 (by decide)) (zz_ro qS36 (fun h => absurd h.1 (by decide)) (zz_ro qS35 (fun h => absurd h.1 (by decide)) (zz_ro qS34 (fun h => absurd h.1 (by decide)) (zz_ro qS33 (fun h => absurd h.1 (by decide)) (zz_rc fS27 rfl rfl (fun h => h) rfl))))))) ?_
          refine zz_iconst zd_14_65_136 ?_
          refine zz_iadd zd_14_65_137 ?_
          refine zz_puti zd_14_65_138 zf_Md_85 zT_1079 rfl (zz_ltn hn rfl) (fun S40 qS40 => ?_)
          have G_S40 := zz_G.put G_S39 qS40 0 11 rfl (by omega)
          have F_S40 := zz_fr.puts F_S39 qS40 rfl
          refine zz_aload_n (x := 1079) rfl zd_14_65_141 ?_
          refine zz_geti (z := (S0 1079 36) + 1) zd_14_65_142 zf_Md_85 zT_1079 rfl (zz_ltn hn rfl) (zz_rs qS40) ?_
          refine zz_iconst zd_14_65_145 ?_
          refine zz_isub zd_14_65_146 ?_
          have e41 : S40 1079 0 = S27 1079 0 := (zz_ro qS40 (fun h => absurd h.2 (by decide)) (zz_ro qS39 (fun h => absurd h.1 (by decide)) (zz_ro qS37 (fun h => absurd h.1 (by decide)) (zz_ro qS36 (fun h => absurd h.1 (by decide)) (zz_ro qS35 (fun h => absurd h.1 (by decide)) (zz_ro qS34 (fun h => absurd h.1 (by decide)) (zz_ro qS33 (fun h => absurd h.1 (by decide)) rfl)))))))
          have e42 : S40 1079 36 = (S0 1079 36) + 1 := (zz_rs qS40)
          have e43 : S40 1102 (S0 1079 36).toNat = p2 := (zz_ro qS40 (fun h => absurd h.1 (by decide)) (zz_ro qS39 (fun h => absurd h.1 (by decide)) (zz_ro qS37 (fun h => absurd h.1 (by decide)) (zz_ro qS36 (fun h => absurd h.1 (by decide)) (zz_rs qS35)))))
          have e44 : S40 1103 (S0 1079 36).toNat = p3 := (zz_ro qS40 (fun h => absurd h.1 (by decide)) (zz_ro qS39 (fun h => absurd h.1 (by decide)) (zz_ro qS37 (fun h => absurd h.1 (by decide)) (zz_rs qS36))))
          have e45 : S40 1104 (S0 1079 36).toNat = p4 := (zz_ro qS40 (fun h => absurd h.1 (by decide)) (zz_ro qS39 (fun h => absurd h.1 (by decide)) (zz_rs qS37)))
          have e46 : S40 1105 (S0 1079 36).toNat = S0 1105 (S0 1079 36).toNat := (zz_ro qS40 (fun h => absurd h.1 (by decide)) (zz_ro qS39 (fun h => absurd h.2 (by omega)) (zz_ro qS37 (fun h => absurd h.1 (by decide)) (zz_ro qS36 (fun h => absurd h.1 (by decide)) (zz_ro qS35 (fun h => absurd h.1 (by decide)) (zz_ro qS34 (fun h => absurd h.1 (by decide)) (zz_ro qS33 (fun h => absurd h.1 (by decide)) (zz_rc fS27 (zz_nc1 rfl) rfl (fun h => h) rfl))))))))
          have e47 : S40 1106 (S0 1079 36 - 1).toNat = p0 := (zz_ro qS40 (fun h => absurd h.1 (by decide)) (zz_ro qS39 (fun h => absurd h.1 (by decide)) (zz_ro qS37 (fun h => absurd h.1 (by decide)) (zz_ro qS36 (fun h => absurd h.1 (by decide)) (zz_ro qS35 (fun h => absurd h.1 (by decide)) (zz_ro qS34 (fun h => absurd h.1 (by decide)) (zz_rs qS33)))))))
          have e48 : S40 1107 (S0 1079 36 - 1).toNat = p1 := (zz_ro qS40 (fun h => absurd h.1 (by decide)) (zz_ro qS39 (fun h => absurd h.1 (by decide)) (zz_ro qS37 (fun h => absurd h.1 (by decide)) (zz_ro qS36 (fun h => absurd h.1 (by decide)) (zz_ro qS35 (fun h => absurd h.1 (by decide)) (zz_rs qS34))))))
          exact zz_iret zd_14_65_147 rfl (Nat.zero_le _) (Nat.zero_le _) ⟨_, _, rfl, G_S40, F_S40, by omega, by omega, fun h => absurd h (by omega), by omega⟩
        · exfalso; omega
      · exfalso; omega
    · refine zz_iconst zd_14_65_39 ?_
      refine zz_goto zd_14_65_40 ?_
      refine zz_callVI [zi 0, zi 0, zi 1] zd_14_65_44 zk_Md_196 zT_1079 (zz_ltn hn rfl) rfl rfl ⟨Nat.le_of_ble_eq_true rfl, Nat.le_of_ble_eq_true rfl⟩ ⟨rfl, rfl⟩ (Nat.zero_le _) (Nat.zero_le _) (zc_refuse_14_3 0 0 1 S0 n hn G_S0 (by omega) (by omega) (by omega)) (fun v50 S49 hP => ?_)
      obtain ⟨G_S49, fS49, o51, o52⟩ := hP
      have F_S49 := zz_fr.trans F_S0 fS49 rfl zz_nv
      rcases (by omega : v50 = 0 ∨ v50 = 1) with rfl | rfl
      · exfalso; omega
      · have e53 : S49 1079 0 = 3 := by omega
        clear o52
        refine zz_if_eq (by omega) zd_14_65_47 (fun c54 => ?_) (fun c54 => ?_)
        · exfalso; omega
        · refine zz_iconst zd_14_65_50 ?_
          have e55 : S49 1079 36 = S0 1079 36 := (zz_rc fS49 rfl rfl (fun h => h) rfl)
          have g56 := zz_G.r G_S0 1102 ((S0 1079 36).toNat) 0 63 rfl rfl
          have e57 : S49 1102 (S0 1079 36).toNat = S0 1102 (S0 1079 36).toNat := (zz_rc fS49 (zz_nc1 rfl) rfl (fun h => h) rfl)
          have g58 := zz_G.r G_S0 1103 ((S0 1079 36).toNat) 0 63 rfl rfl
          have e59 : S49 1103 (S0 1079 36).toNat = S0 1103 (S0 1079 36).toNat := (zz_rc fS49 (zz_nc1 rfl) rfl (fun h => h) rfl)
          have g60 := zz_G.r G_S0 1104 ((S0 1079 36).toNat) 0 63 rfl rfl
          have e61 : S49 1104 (S0 1079 36).toNat = S0 1104 (S0 1079 36).toNat := (zz_rc fS49 (zz_nc1 rfl) rfl (fun h => h) rfl)
          have e62 : S49 1105 (S0 1079 36).toNat = S0 1105 (S0 1079 36).toNat := (zz_rc fS49 (zz_nc1 rfl) rfl (fun h => h) rfl)
          have g63 := zz_G.r G_S0 1106 ((S0 1079 36 - 1).toNat) 0 2 rfl rfl
          have e64 : S49 1106 (S0 1079 36 - 1).toNat = S0 1106 (S0 1079 36 - 1).toNat := (zz_rc fS49 (zz_nc1 rfl) rfl (fun h => h) rfl)
          have g65 := zz_G.r G_S0 1107 ((S0 1079 36 - 1).toNat) 0 10 rfl rfl
          have e66 : S49 1107 (S0 1079 36 - 1).toNat = S0 1107 (S0 1079 36 - 1).toNat := (zz_rc fS49 (zz_nc1 rfl) rfl (fun h => h) rfl)
          exact zz_iret zd_14_65_51 rfl (Nat.zero_le _) (Nat.zero_le _) ⟨_, _, rfl, G_S49, F_S49, by omega, by omega, fun _ h => zz_Hr.fr fS49 rfl rfl (fun b j h => h.elim) h, by omega⟩
abbrev zy_isTensor_14_66 : mm_Y := (⟨"TensorForgeModel", "isTensor", "(I)Z"⟩, prog_14_method_66_code, 2, (some .boolean))
theorem zyw_isTensor_14_66 : mm_Yw zy_isTensor_14_66 1 := ⟨mm_tb_1 2081 (by decide +kernel) rfl, mm_tb_1 12 (by decide +kernel) rfl, ⟨by decide, by decide⟩, by decide +kernel⟩
theorem zg_14_66_0 : (decode zy_isTensor_14_66.2.1 0 = .ok ((.iload_n 1), 1)) ∧ (decode zy_isTensor_14_66.2.1 1 = .ok ((.i2l), 1)) ∧ (decode zy_isTensor_14_66.2.1 2 = .ok ((.lconst 0), 1)) ∧ (decode zy_isTensor_14_66.2.1 3 = .ok ((.aload_n 0), 1)) ∧ (decode zy_isTensor_14_66.2.1 4 = .ok ((.getfield 85), 3)) ∧ (decode zy_isTensor_14_66.2.1 7 = .ok ((.iconst 1), 1)) ∧ (decode zy_isTensor_14_66.2.1 8 = .ok ((.isub), 1)) ∧ (decode zy_isTensor_14_66.2.1 9 = .ok ((.i2l), 1)) ∧ (decode zy_isTensor_14_66.2.1 10 = .ok ((.invokestatic 192), 3)) ∧ (decode zy_isTensor_14_66.2.1 13 = .ok ((.ireturn), 1)) := by decide +kernel
theorem zd_14_66_0 : zz_D zy_isTensor_14_66 0 (.iload_n 1) 1 1 := ⟨zg_14_66_0.1, rfl⟩
theorem zd_14_66_1 : zz_D zy_isTensor_14_66 1 (.i2l) 1 2 := ⟨zg_14_66_0.2.1, rfl⟩
theorem zd_14_66_2 : zz_D zy_isTensor_14_66 2 (.lconst 0) 1 3 := ⟨zg_14_66_0.2.2.1, rfl⟩
theorem zd_14_66_3 : zz_D zy_isTensor_14_66 3 (.aload_n 0) 1 4 := ⟨zg_14_66_0.2.2.2.1, rfl⟩
theorem zd_14_66_4 : zz_D zy_isTensor_14_66 4 (.getfield 85) 3 7 := ⟨zg_14_66_0.2.2.2.2.1, rfl⟩
theorem zd_14_66_7 : zz_D zy_isTensor_14_66 7 (.iconst 1) 1 8 := ⟨zg_14_66_0.2.2.2.2.2.1, rfl⟩
theorem zd_14_66_8 : zz_D zy_isTensor_14_66 8 (.isub) 1 9 := ⟨zg_14_66_0.2.2.2.2.2.2.1, rfl⟩
theorem zd_14_66_9 : zz_D zy_isTensor_14_66 9 (.i2l) 1 10 := ⟨zg_14_66_0.2.2.2.2.2.2.2.1, rfl⟩
theorem zd_14_66_10 : zz_D zy_isTensor_14_66 10 (.invokestatic 192) 3 13 := ⟨zg_14_66_0.2.2.2.2.2.2.2.2.1, rfl⟩
theorem zd_14_66_13 : zz_D zy_isTensor_14_66 13 (.ireturn) 1 14 := ⟨zg_14_66_0.2.2.2.2.2.2.2.2.2, rfl⟩

-- TensorForgeModel emit (I)V
abbrev zr_emit_14_77 : Room := { frames := 2, cells := 0, slots := 0, locals := 31 }
def zp_emit_14_77 (p0 : Int) (S0 : zz_S) : zz_S → Prop := fun S => zz_G S ∧ zz_fr [(1079, 10)] [1086, 1087] (fun _ _ => False) S0 S ∧ (S 1079 10 = S0 1079 10 + 1)
theorem zb_emit_14_77_2 {g : mm_G} {l : Launch} (p0 : Int) (S0 : zz_S) (n : Nat) (hn : zz_end ≤ n) (G_S0 : zz_G S0) (hp0 : (-2147483648) ≤ p0 ∧ p0 ≤ 2147483647) (hq : S0 1079 10 ≤ 999000) (x2 : Int) (S : zz_S) (G_S : zz_G S) (F_S : zz_fr [(1079, 10)] [1086, 1087] (fun _ _ => False) S0 S) (i2_0 : 0 ≤ x2 ∧ x2 ≤ 4) (i2_1 : S 1079 10 = S0 1079 10) (R : Nat) (hR : (4 - x2).toNat = R) (k2 : ∀ (x2 : Int) (S : zz_S), zz_G S → zz_fr [(1079, 10)] [1086, 1087] (fun _ _ => False) S0 S → (0 ≤ x2 ∧ x2 ≤ 4) → (S 1079 10 = S0 1079 10) → (4 - x2).toNat < R → zz_E g l zy_emit_14_77 zr_emit_14_77 (zz_QV n (zp_emit_14_77 p0 S0)) S n 2 [some (.ref 1079), some (zi p0), some (zi x2)] [] 0 0) : zz_E g l zy_emit_14_77 zr_emit_14_77 (zz_QV n (zp_emit_14_77 p0 S0)) S n 2 [some (.ref 1079), some (zi p0), some (zi x2)] [] 0 0 := by
  refine zz_iload_n (x := x2) rfl zd_14_77_2 ?_
  refine zz_iconst zd_14_77_3 ?_
  refine zz_icmp_ge (by omega) (by omega) zd_14_77_4 (fun c2 => ?_) (fun c2 => ?_)
  · refine zz_aload_n (x := 1079) rfl zd_14_77_26 ?_
    have g3 := zz_G.r G_S 1079 10 0 1000000 rfl rfl
    refine zz_geti (z := S 1079 10) zd_14_77_27 zf_Md_372 zT_1079 rfl (zz_ltn hn rfl) rfl ?_
    refine zz_sipush (by decide) zd_14_77_30 ?_
    refine zz_icmp_ge (by omega) (by omega) zd_14_77_33 (fun c4 => ?_) (fun c4 => ?_)
    · refine zz_aload_n (x := 1079) rfl zd_14_77_49 ?_
      refine zz_dup rfl zd_14_77_50 ?_
      refine zz_geti (z := S 1079 10) zd_14_77_51 zf_Md_372 zT_1079 rfl (zz_ltn hn rfl) rfl ?_
      refine zz_iconst zd_14_77_54 ?_
      refine zz_iadd zd_14_77_55 ?_
      refine zz_puti zd_14_77_56 zf_Md_372 zT_1079 rfl (zz_ltn hn rfl) (fun S5 qS5 => ?_)
      have G_S5 := zz_G.put G_S qS5 0 1000000 rfl (by omega)
      have F_S5 := zz_fr.puts F_S qS5 rfl
      have e6 : S5 1079 10 = (S 1079 10) + 1 := (zz_rs qS5)
      exact zz_vret zd_14_77_59 rfl (Nat.zero_le _) (Nat.zero_le _) ⟨_, rfl, G_S5, F_S5, by omega⟩
    · refine zz_aload_n (x := 1079) rfl zd_14_77_36 ?_
      refine zz_getr (kd := 0) (z := 1086) zd_14_77_37 zf_Md_33 zT_1079 rfl (zz_ltn hn rfl) (zz_G.eq G_S 1079 9 1086 rfl rfl) (by decide) 1086 rfl ?_
      refine zz_aload_n (x := 1079) rfl zd_14_77_40 ?_
      refine zz_geti (z := S 1079 10) zd_14_77_41 zf_Md_372 zT_1079 rfl (zz_ltn hn rfl) rfl ?_
      refine zz_aload_n (x := 1079) rfl zd_14_77_44 ?_
      refine zz_callVJ [] zd_14_77_45 zk_Md_378 zT_1079 (zz_ltn hn rfl) rfl rfl ⟨Nat.le_of_ble_eq_true rfl, Nat.le_of_ble_eq_true rfl⟩ ⟨rfl, rfl⟩ (Nat.zero_le _) (Nat.zero_le _) (zc_wordOfFields_14_53  S n hn G_S ) (fun v8 S7 hP => ?_)
      obtain ⟨rfl, o9⟩ := hP
      refine zz_last zd_14_77_48 zT_1086 rfl (zz_ltn hn rfl) (by decide) (by omega) (fun S10 qS10 => ?_)
      have G_S10 := zz_G.put G_S qS10 (-9223372036854775808) 9223372036854775807 rfl (by omega)
      have F_S10 := zz_fr.putc F_S qS10 rfl
      refine zz_aload_n (x := 1079) rfl zd_14_77_49 ?_
      refine zz_dup rfl zd_14_77_50 ?_
      refine zz_geti (z := S 1079 10) zd_14_77_51 zf_Md_372 zT_1079 rfl (zz_ltn hn rfl) (zz_ro qS10 (fun h => absurd h.1 (by decide)) rfl) ?_
      refine zz_iconst zd_14_77_54 ?_
      refine zz_iadd zd_14_77_55 ?_
      refine zz_puti zd_14_77_56 zf_Md_372 zT_1079 rfl (zz_ltn hn rfl) (fun S11 qS11 => ?_)
      have G_S11 := zz_G.put G_S10 qS11 0 1000000 rfl (by omega)
      have F_S11 := zz_fr.puts F_S10 qS11 rfl
      have e12 : S11 1079 10 = (S 1079 10) + 1 := (zz_rs qS11)
      exact zz_vret zd_14_77_59 rfl (Nat.zero_le _) (Nat.zero_le _) ⟨_, rfl, G_S11, F_S11, by omega⟩
  · refine zz_aload_n (x := 1079) rfl zd_14_77_7 ?_
    refine zz_getr (kd := 0) (z := 1087) zd_14_77_8 zf_Md_36 zT_1079 rfl (zz_ltn hn rfl) (zz_G.eq G_S 1079 11 1087 rfl rfl) (by decide) 1087 rfl ?_
    refine zz_iload_n (x := x2) rfl zd_14_77_11 ?_
    refine zz_iconst zd_14_77_12 ?_
    refine zz_iadd zd_14_77_13 ?_
    refine zz_iload_n (x := p0) rfl zd_14_77_14 ?_
    refine zz_iload_n (x := x2) rfl zd_14_77_15 ?_
    refine zz_ishr zd_14_77_16 (fun v13 hv13 ev13 => ?_)
    refine zz_iconst zd_14_77_17 ?_
    refine zz_iand (by omega) (by omega) zd_14_77_18 (fun v14 hv14 av14 bv14 ev14 => ?_)
    refine zz_iast zd_14_77_19 zT_1087 rfl (zz_ltn hn rfl) (by decide) (by omega) (fun S15 qS15 => ?_)
    have G_S15 := zz_G.put G_S qS15 (-2147483648) 2147483647 rfl (by omega)
    have F_S15 := zz_fr.putc F_S qS15 rfl
    refine zz_iinc [some (.ref 1079), some (zi p0), some (zi (x2 + 1))] zd_14_77_20 rfl rfl ?_
    refine zz_goto zd_14_77_23 ?_
    have g16 := zz_G.r G_S 1079 10 0 1000000 rfl rfl
    have e17 : S15 1079 10 = S 1079 10 := (zz_ro qS15 (fun h => absurd h.1 (by decide)) rfl)
    refine zz_less (ls1 := [some (.ref 1079), some (zi p0), some (zi (x2 + 1))]) ⟨rfl, ⟨rfl, ⟨rfl, trivial⟩⟩⟩ ?_
    exact k2 (x2 + 1) S15 G_S15 F_S15 (by omega) (by omega) (by omega)
theorem zi_emit_14_77 {g : mm_G} {l : Launch} (p0 : Int) (S0 : zz_S) (n : Nat) (hn : zz_end ≤ n) (G_S0 : zz_G S0) (hp0 : (-2147483648) ≤ p0 ∧ p0 ≤ 2147483647) (hq : S0 1079 10 ≤ 999000) : ∀ N : Nat, (∀ (x2 : Int) (S : zz_S), zz_G S → zz_fr [(1079, 10)] [1086, 1087] (fun _ _ => False) S0 S → (0 ≤ x2 ∧ x2 ≤ 4) → (S 1079 10 = S0 1079 10) → (4 - x2).toNat < N → zz_E g l zy_emit_14_77 zr_emit_14_77 (zz_QV n (zp_emit_14_77 p0 S0)) S n 2 [some (.ref 1079), some (zi p0), some (zi x2)] [] 0 0) := by
  intro N
  induction N with
  | zero => exact fun x2 S _ _ _ _ h => absurd h (Nat.not_lt_zero _)
  | succ N ih =>
    exact fun x2 S a b j0 j1 hR => zb_emit_14_77_2 p0 S0 n hn G_S0 hp0 hq x2 S a b j0 j1 _ rfl (fun x2 S a b j0 j1 h => ih x2 S a b j0 j1 (Nat.lt_of_lt_of_le h (Nat.le_of_lt_succ hR)))
theorem zc_emit_14_77 {g : mm_G} {l : Launch} (p0 : Int) (S0 : zz_S) (n : Nat) (hn : zz_end ≤ n) (G_S0 : zz_G S0) (hp0 : (-2147483648) ≤ p0 ∧ p0 ≤ 2147483647) (hq : S0 1079 10 ≤ 999000) : mm_Met g l zy_emit_14_77 zr_emit_14_77 [.ref 1079, zi p0] (zz_M S0 n) n (zz_QV n (zp_emit_14_77 p0 S0)) := by
  refine zz_enter (by decide) (Nat.le_of_ble_eq_true rfl) (zz_less (ls1 := [some (.ref 1079), some (zi p0)]) ⟨rfl, ⟨rfl, trivial⟩⟩ ?_)
  have F_S0 : zz_fr [(1079, 10)] [1086, 1087] (fun _ _ => False) S0 S0 := zz_fr.refl
  have k2 : ∀ (x2 : Int) (S : zz_S), zz_G S → zz_fr [(1079, 10)] [1086, 1087] (fun _ _ => False) S0 S → (0 ≤ x2 ∧ x2 ≤ 4) → (S 1079 10 = S0 1079 10) → zz_E g l zy_emit_14_77 zr_emit_14_77 (zz_QV n (zp_emit_14_77 p0 S0)) S n 2 [some (.ref 1079), some (zi p0), some (zi x2)] [] 0 0 := fun x2 S a b j0 j1 => (zi_emit_14_77 (g := g) (l := l) p0 S0 n hn G_S0 hp0 hq _) x2 S a b j0 j1 (Nat.lt_succ_self _)
  refine zz_iconst zd_14_77_0 ?_
  refine zz_istore_n [some (.ref 1079), some (zi p0), some (zi 0)] zd_14_77_1 (by decide) rfl ?_
  have g1 := zz_G.r G_S0 1079 10 0 1000000 rfl rfl
  refine zz_less (ls1 := [some (.ref 1079), some (zi p0), some (zi 0)]) ⟨rfl, ⟨rfl, ⟨rfl, trivial⟩⟩⟩ ?_
  exact k2 0 S0 G_S0 F_S0 (by omega) (by omega)
abbrev zy_set_14_78 : mm_Y := (⟨"TensorForgeModel", "set", "(IIII)V"⟩, prog_14_method_78_code, 5, none)
theorem zyw_set_14_78 : mm_Yw zy_set_14_78 4 := ⟨mm_tb_1 2159 (by decide +kernel) rfl, mm_tb_1 12 (by decide +kernel) rfl, ⟨by decide, by decide⟩, by decide +kernel⟩
theorem zg_14_78_0 : zq_at zy_set_14_78.2.1 0 42 ∧ zq_at zy_set_14_78.2.1 1 180 ∧ zq_at zy_set_14_78.2.1 2 0 ∧ zq_at zy_set_14_78.2.1 3 36 ∧ zq_at zy_set_14_78.2.1 4 3 ∧ zq_at zy_set_14_78.2.1 5 27 ∧ zq_at zy_set_14_78.2.1 6 79 ∧ zq_at zy_set_14_78.2.1 7 42 ∧ zq_at zy_set_14_78.2.1 8 180 ∧ zq_at zy_set_14_78.2.1 9 0 ∧ zq_at zy_set_14_78.2.1 10 36 ∧ zq_at zy_set_14_78.2.1 11 8 ∧ zq_at zy_set_14_78.2.1 12 28 ∧ zq_at zy_set_14_78.2.1 13 79 ∧ zq_at zy_set_14_78.2.1 14 42 ∧ zq_at zy_set_14_78.2.1 15 180 ∧ zq_at zy_set_14_78.2.1 16 0 ∧ zq_at zy_set_14_78.2.1 17 36 ∧ zq_at zy_set_14_78.2.1 18 16 ∧ zq_at zy_set_14_78.2.1 19 6 ∧ zq_at zy_set_14_78.2.1 20 29 ∧ zq_at zy_set_14_78.2.1 21 79 ∧ zq_at zy_set_14_78.2.1 22 42 := by decide +kernel
theorem zd_14_78_0 : zz_D zy_set_14_78 0 (.aload_n 0) 1 1 := ⟨zq_42 zg_14_78_0.1, rfl⟩
theorem zd_14_78_1 : zz_D zy_set_14_78 1 (.getfield 36) 3 4 := ⟨zq_180 zg_14_78_0.2.1 zg_14_78_0.2.2.1 zg_14_78_0.2.2.2.1 rfl, rfl⟩
theorem zd_14_78_4 : zz_D zy_set_14_78 4 (.iconst 0) 1 5 := ⟨zq_3 zg_14_78_0.2.2.2.2.1, rfl⟩
theorem zd_14_78_5 : zz_D zy_set_14_78 5 (.iload_n 1) 1 6 := ⟨zq_27 zg_14_78_0.2.2.2.2.2.1, rfl⟩
theorem zd_14_78_6 : zz_D zy_set_14_78 6 (.iastore) 1 7 := ⟨zq_79 zg_14_78_0.2.2.2.2.2.2.1, rfl⟩
theorem zd_14_78_7 : zz_D zy_set_14_78 7 (.aload_n 0) 1 8 := ⟨zq_42 zg_14_78_0.2.2.2.2.2.2.2.1, rfl⟩
theorem zd_14_78_8 : zz_D zy_set_14_78 8 (.getfield 36) 3 11 := ⟨zq_180 zg_14_78_0.2.2.2.2.2.2.2.2.1 zg_14_78_0.2.2.2.2.2.2.2.2.2.1 zg_14_78_0.2.2.2.2.2.2.2.2.2.2.1 rfl, rfl⟩
theorem zd_14_78_11 : zz_D zy_set_14_78 11 (.iconst 5) 1 12 := ⟨zq_8 zg_14_78_0.2.2.2.2.2.2.2.2.2.2.2.1, rfl⟩
theorem zd_14_78_12 : zz_D zy_set_14_78 12 (.iload_n 2) 1 13 := ⟨zq_28 zg_14_78_0.2.2.2.2.2.2.2.2.2.2.2.2.1, rfl⟩
theorem zd_14_78_13 : zz_D zy_set_14_78 13 (.iastore) 1 14 := ⟨zq_79 zg_14_78_0.2.2.2.2.2.2.2.2.2.2.2.2.2.1, rfl⟩
theorem zd_14_78_14 : zz_D zy_set_14_78 14 (.aload_n 0) 1 15 := ⟨zq_42 zg_14_78_0.2.2.2.2.2.2.2.2.2.2.2.2.2.2.1, rfl⟩
theorem zd_14_78_15 : zz_D zy_set_14_78 15 (.getfield 36) 3 18 := ⟨zq_180 zg_14_78_0.2.2.2.2.2.2.2.2.2.2.2.2.2.2.2.1 zg_14_78_0.2.2.2.2.2.2.2.2.2.2.2.2.2.2.2.2.1 zg_14_78_0.2.2.2.2.2.2.2.2.2.2.2.2.2.2.2.2.2.1 rfl, rfl⟩
theorem zd_14_78_18 : zz_D zy_set_14_78 18 (.bipush 6) 2 20 := ⟨zq_16 zg_14_78_0.2.2.2.2.2.2.2.2.2.2.2.2.2.2.2.2.2.2.1 zg_14_78_0.2.2.2.2.2.2.2.2.2.2.2.2.2.2.2.2.2.2.2.1 (by decide), rfl⟩
theorem zd_14_78_20 : zz_D zy_set_14_78 20 (.iload_n 3) 1 21 := ⟨zq_29 zg_14_78_0.2.2.2.2.2.2.2.2.2.2.2.2.2.2.2.2.2.2.2.2.1, rfl⟩
theorem zd_14_78_21 : zz_D zy_set_14_78 21 (.iastore) 1 22 := ⟨zq_79 zg_14_78_0.2.2.2.2.2.2.2.2.2.2.2.2.2.2.2.2.2.2.2.2.2.1, rfl⟩
theorem zd_14_78_22 : zz_D zy_set_14_78 22 (.aload_n 0) 1 23 := ⟨zq_42 zg_14_78_0.2.2.2.2.2.2.2.2.2.2.2.2.2.2.2.2.2.2.2.2.2.2, rfl⟩
theorem zg_14_78_23 : zq_at zy_set_14_78.2.1 23 180 ∧ zq_at zy_set_14_78.2.1 24 0 ∧ zq_at zy_set_14_78.2.1 25 36 ∧ zq_at zy_set_14_78.2.1 26 16 ∧ zq_at zy_set_14_78.2.1 27 7 ∧ zq_at zy_set_14_78.2.1 28 21 ∧ zq_at zy_set_14_78.2.1 29 4 ∧ zq_at zy_set_14_78.2.1 30 79 ∧ zq_at zy_set_14_78.2.1 31 42 ∧ zq_at zy_set_14_78.2.1 32 180 ∧ zq_at zy_set_14_78.2.1 33 0 ∧ zq_at zy_set_14_78.2.1 34 36 ∧ zq_at zy_set_14_78.2.1 35 16 ∧ zq_at zy_set_14_78.2.1 36 8 ∧ zq_at zy_set_14_78.2.1 37 3 ∧ zq_at zy_set_14_78.2.1 38 79 ∧ zq_at zy_set_14_78.2.1 39 42 ∧ zq_at zy_set_14_78.2.1 40 180 ∧ zq_at zy_set_14_78.2.1 41 0 ∧ zq_at zy_set_14_78.2.1 42 36 ∧ zq_at zy_set_14_78.2.1 43 16 ∧ zq_at zy_set_14_78.2.1 44 9 ∧ zq_at zy_set_14_78.2.1 45 3 ∧ zq_at zy_set_14_78.2.1 46 79 := by decide +kernel
theorem zd_14_78_23 : zz_D zy_set_14_78 23 (.getfield 36) 3 26 := ⟨zq_180 zg_14_78_23.1 zg_14_78_23.2.1 zg_14_78_23.2.2.1 rfl, rfl⟩
theorem zd_14_78_26 : zz_D zy_set_14_78 26 (.bipush 7) 2 28 := ⟨zq_16 zg_14_78_23.2.2.2.1 zg_14_78_23.2.2.2.2.1 (by decide), rfl⟩
theorem zd_14_78_28 : zz_D zy_set_14_78 28 (.iload 4) 2 30 := ⟨zq_21 zg_14_78_23.2.2.2.2.2.1 zg_14_78_23.2.2.2.2.2.2.1, rfl⟩
theorem zd_14_78_30 : zz_D zy_set_14_78 30 (.iastore) 1 31 := ⟨zq_79 zg_14_78_23.2.2.2.2.2.2.2.1, rfl⟩
theorem zd_14_78_31 : zz_D zy_set_14_78 31 (.aload_n 0) 1 32 := ⟨zq_42 zg_14_78_23.2.2.2.2.2.2.2.2.1, rfl⟩
theorem zd_14_78_32 : zz_D zy_set_14_78 32 (.getfield 36) 3 35 := ⟨zq_180 zg_14_78_23.2.2.2.2.2.2.2.2.2.1 zg_14_78_23.2.2.2.2.2.2.2.2.2.2.1 zg_14_78_23.2.2.2.2.2.2.2.2.2.2.2.1 rfl, rfl⟩
theorem zd_14_78_35 : zz_D zy_set_14_78 35 (.bipush 8) 2 37 := ⟨zq_16 zg_14_78_23.2.2.2.2.2.2.2.2.2.2.2.2.1 zg_14_78_23.2.2.2.2.2.2.2.2.2.2.2.2.2.1 (by decide), rfl⟩
theorem zd_14_78_37 : zz_D zy_set_14_78 37 (.iconst 0) 1 38 := ⟨zq_3 zg_14_78_23.2.2.2.2.2.2.2.2.2.2.2.2.2.2.1, rfl⟩
theorem zd_14_78_38 : zz_D zy_set_14_78 38 (.iastore) 1 39 := ⟨zq_79 zg_14_78_23.2.2.2.2.2.2.2.2.2.2.2.2.2.2.2.1, rfl⟩
theorem zd_14_78_39 : zz_D zy_set_14_78 39 (.aload_n 0) 1 40 := ⟨zq_42 zg_14_78_23.2.2.2.2.2.2.2.2.2.2.2.2.2.2.2.2.1, rfl⟩
theorem zd_14_78_40 : zz_D zy_set_14_78 40 (.getfield 36) 3 43 := ⟨zq_180 zg_14_78_23.2.2.2.2.2.2.2.2.2.2.2.2.2.2.2.2.2.1 zg_14_78_23.2.2.2.2.2.2.2.2.2.2.2.2.2.2.2.2.2.2.1 zg_14_78_23.2.2.2.2.2.2.2.2.2.2.2.2.2.2.2.2.2.2.2.1 rfl, rfl⟩
theorem zd_14_78_43 : zz_D zy_set_14_78 43 (.bipush 9) 2 45 := ⟨zq_16 zg_14_78_23.2.2.2.2.2.2.2.2.2.2.2.2.2.2.2.2.2.2.2.2.1 zg_14_78_23.2.2.2.2.2.2.2.2.2.2.2.2.2.2.2.2.2.2.2.2.2.1 (by decide), rfl⟩
theorem zd_14_78_45 : zz_D zy_set_14_78 45 (.iconst 0) 1 46 := ⟨zq_3 zg_14_78_23.2.2.2.2.2.2.2.2.2.2.2.2.2.2.2.2.2.2.2.2.2.2.1, rfl⟩
theorem zd_14_78_46 : zz_D zy_set_14_78 46 (.iastore) 1 47 := ⟨zq_79 zg_14_78_23.2.2.2.2.2.2.2.2.2.2.2.2.2.2.2.2.2.2.2.2.2.2.2, rfl⟩
theorem zg_14_78_47 : zq_at zy_set_14_78.2.1 47 42 ∧ zq_at zy_set_14_78.2.1 48 180 ∧ zq_at zy_set_14_78.2.1 49 0 ∧ zq_at zy_set_14_78.2.1 50 36 ∧ zq_at zy_set_14_78.2.1 51 16 ∧ zq_at zy_set_14_78.2.1 52 10 ∧ zq_at zy_set_14_78.2.1 53 3 ∧ zq_at zy_set_14_78.2.1 54 79 ∧ zq_at zy_set_14_78.2.1 55 42 ∧ zq_at zy_set_14_78.2.1 56 180 ∧ zq_at zy_set_14_78.2.1 57 0 ∧ zq_at zy_set_14_78.2.1 58 36 ∧ zq_at zy_set_14_78.2.1 59 16 ∧ zq_at zy_set_14_78.2.1 60 11 ∧ zq_at zy_set_14_78.2.1 61 3 ∧ zq_at zy_set_14_78.2.1 62 79 ∧ zq_at zy_set_14_78.2.1 63 177 := by decide +kernel
theorem zd_14_78_47 : zz_D zy_set_14_78 47 (.aload_n 0) 1 48 := ⟨zq_42 zg_14_78_47.1, rfl⟩
theorem zd_14_78_48 : zz_D zy_set_14_78 48 (.getfield 36) 3 51 := ⟨zq_180 zg_14_78_47.2.1 zg_14_78_47.2.2.1 zg_14_78_47.2.2.2.1 rfl, rfl⟩
theorem zd_14_78_51 : zz_D zy_set_14_78 51 (.bipush 10) 2 53 := ⟨zq_16 zg_14_78_47.2.2.2.2.1 zg_14_78_47.2.2.2.2.2.1 (by decide), rfl⟩
theorem zd_14_78_53 : zz_D zy_set_14_78 53 (.iconst 0) 1 54 := ⟨zq_3 zg_14_78_47.2.2.2.2.2.2.1, rfl⟩
theorem zd_14_78_54 : zz_D zy_set_14_78 54 (.iastore) 1 55 := ⟨zq_79 zg_14_78_47.2.2.2.2.2.2.2.1, rfl⟩
theorem zd_14_78_55 : zz_D zy_set_14_78 55 (.aload_n 0) 1 56 := ⟨zq_42 zg_14_78_47.2.2.2.2.2.2.2.2.1, rfl⟩
theorem zd_14_78_56 : zz_D zy_set_14_78 56 (.getfield 36) 3 59 := ⟨zq_180 zg_14_78_47.2.2.2.2.2.2.2.2.2.1 zg_14_78_47.2.2.2.2.2.2.2.2.2.2.1 zg_14_78_47.2.2.2.2.2.2.2.2.2.2.2.1 rfl, rfl⟩
theorem zd_14_78_59 : zz_D zy_set_14_78 59 (.bipush 11) 2 61 := ⟨zq_16 zg_14_78_47.2.2.2.2.2.2.2.2.2.2.2.2.1 zg_14_78_47.2.2.2.2.2.2.2.2.2.2.2.2.2.1 (by decide), rfl⟩
theorem zd_14_78_61 : zz_D zy_set_14_78 61 (.iconst 0) 1 62 := ⟨zq_3 zg_14_78_47.2.2.2.2.2.2.2.2.2.2.2.2.2.2.1, rfl⟩
theorem zd_14_78_62 : zz_D zy_set_14_78 62 (.iastore) 1 63 := ⟨zq_79 zg_14_78_47.2.2.2.2.2.2.2.2.2.2.2.2.2.2.2.1, rfl⟩
theorem zd_14_78_63 : zz_D zy_set_14_78 63 (.return_) 1 64 := ⟨zq_177 zg_14_78_47.2.2.2.2.2.2.2.2.2.2.2.2.2.2.2.2, rfl⟩
-- TensorForgeModel set (IIII)V
abbrev zr_set_14_78 : Room := { frames := 0, cells := 0, slots := 0, locals := 0 }
def zp_set_14_78 (p0 : Int) (p1 : Int) (p2 : Int) (p3 : Int) (S0 : zz_S) : zz_S → Prop := fun S => zz_G S ∧ zz_fr [] [1087] (fun _ _ => False) S0 S
theorem zc_set_14_78 {g : mm_G} {l : Launch} (p0 : Int) (p1 : Int) (p2 : Int) (p3 : Int) (S0 : zz_S) (n : Nat) (hn : zz_end ≤ n) (G_S0 : zz_G S0) (hp0 : (-2147483648) ≤ p0 ∧ p0 ≤ 2147483647) (hp1 : (-2147483648) ≤ p1 ∧ p1 ≤ 2147483647) (hp2 : (-2147483648) ≤ p2 ∧ p2 ≤ 2147483647) (hp3 : (-2147483648) ≤ p3 ∧ p3 ≤ 2147483647) : mm_Met g l zy_set_14_78 zr_set_14_78 [.ref 1079, zi p0, zi p1, zi p2, zi p3] (zz_M S0 n) n (zz_QV n (zp_set_14_78 p0 p1 p2 p3 S0)) := by
  refine zz_enter (by decide) (Nat.le_of_ble_eq_true rfl) (zz_less (ls1 := [some (.ref 1079), some (zi p0), some (zi p1), some (zi p2), some (zi p3)]) ⟨rfl, ⟨rfl, ⟨rfl, ⟨rfl, ⟨rfl, trivial⟩⟩⟩⟩⟩ ?_)
  have F_S0 : zz_fr [] [1087] (fun _ _ => False) S0 S0 := zz_fr.refl
  refine zz_aload_n (x := 1079) rfl zd_14_78_0 ?_
  refine zz_getr (kd := 0) (z := 1087) zd_14_78_1 zf_Md_36 zT_1079 rfl (zz_ltn hn rfl) (zz_G.eq G_S0 1079 11 1087 rfl rfl) (by decide) 1087 rfl ?_
  refine zz_iconst zd_14_78_4 ?_
  refine zz_iload_n (x := p0) rfl zd_14_78_5 ?_
  refine zz_iast zd_14_78_6 zT_1087 rfl (zz_ltn hn rfl) (by decide) (by decide) (fun S1 qS1 => ?_)
  have G_S1 := zz_G.put G_S0 qS1 (-2147483648) 2147483647 rfl (by omega)
  have F_S1 := zz_fr.putc F_S0 qS1 rfl
  refine zz_aload_n (x := 1079) rfl zd_14_78_7 ?_
  refine zz_getr (kd := 0) (z := 1087) zd_14_78_8 zf_Md_36 zT_1079 rfl (zz_ltn hn rfl) (zz_G.eq G_S1 1079 11 1087 rfl rfl) (by decide) 1087 rfl ?_
  refine zz_iconst zd_14_78_11 ?_
  refine zz_iload_n (x := p1) rfl zd_14_78_12 ?_
  refine zz_iast zd_14_78_13 zT_1087 rfl (zz_ltn hn rfl) (by decide) (by decide) (fun S2 qS2 => ?_)
  have G_S2 := zz_G.put G_S1 qS2 (-2147483648) 2147483647 rfl (by omega)
  have F_S2 := zz_fr.putc F_S1 qS2 rfl
  refine zz_aload_n (x := 1079) rfl zd_14_78_14 ?_
  refine zz_getr (kd := 0) (z := 1087) zd_14_78_15 zf_Md_36 zT_1079 rfl (zz_ltn hn rfl) (zz_G.eq G_S2 1079 11 1087 rfl rfl) (by decide) 1087 rfl ?_
  refine zz_bipush (by decide) zd_14_78_18 ?_
  refine zz_iload_n (x := p2) rfl zd_14_78_20 ?_
  refine zz_iast zd_14_78_21 zT_1087 rfl (zz_ltn hn rfl) (by decide) (by decide) (fun S3 qS3 => ?_)
  have G_S3 := zz_G.put G_S2 qS3 (-2147483648) 2147483647 rfl (by omega)
  have F_S3 := zz_fr.putc F_S2 qS3 rfl
  refine zz_aload_n (x := 1079) rfl zd_14_78_22 ?_
  refine zz_getr (kd := 0) (z := 1087) zd_14_78_23 zf_Md_36 zT_1079 rfl (zz_ltn hn rfl) (zz_G.eq G_S3 1079 11 1087 rfl rfl) (by decide) 1087 rfl ?_
  refine zz_bipush (by decide) zd_14_78_26 ?_
  refine zz_iload (x := p3) rfl zd_14_78_28 ?_
  refine zz_iast zd_14_78_30 zT_1087 rfl (zz_ltn hn rfl) (by decide) (by decide) (fun S4 qS4 => ?_)
  have G_S4 := zz_G.put G_S3 qS4 (-2147483648) 2147483647 rfl (by omega)
  have F_S4 := zz_fr.putc F_S3 qS4 rfl
  refine zz_aload_n (x := 1079) rfl zd_14_78_31 ?_
  refine zz_getr (kd := 0) (z := 1087) zd_14_78_32 zf_Md_36 zT_1079 rfl (zz_ltn hn rfl) (zz_G.eq G_S4 1079 11 1087 rfl rfl) (by decide) 1087 rfl ?_
  refine zz_bipush (by decide) zd_14_78_35 ?_
  refine zz_iconst zd_14_78_37 ?_
  refine zz_iast zd_14_78_38 zT_1087 rfl (zz_ltn hn rfl) (by decide) (by decide) (fun S5 qS5 => ?_)
  have G_S5 := zz_G.put G_S4 qS5 (-2147483648) 2147483647 rfl (by omega)
  have F_S5 := zz_fr.putc F_S4 qS5 rfl
  refine zz_aload_n (x := 1079) rfl zd_14_78_39 ?_
  refine zz_getr (kd := 0) (z := 1087) zd_14_78_40 zf_Md_36 zT_1079 rfl (zz_ltn hn rfl) (zz_G.eq G_S5 1079 11 1087 rfl rfl) (by decide) 1087 rfl ?_
  refine zz_bipush (by decide) zd_14_78_43 ?_
  refine zz_iconst zd_14_78_45 ?_
  refine zz_iast zd_14_78_46 zT_1087 rfl (zz_ltn hn rfl) (by decide) (by decide) (fun S6 qS6 => ?_)
  have G_S6 := zz_G.put G_S5 qS6 (-2147483648) 2147483647 rfl (by omega)
  have F_S6 := zz_fr.putc F_S5 qS6 rfl
  refine zz_aload_n (x := 1079) rfl zd_14_78_47 ?_
  refine zz_getr (kd := 0) (z := 1087) zd_14_78_48 zf_Md_36 zT_1079 rfl (zz_ltn hn rfl) (zz_G.eq G_S6 1079 11 1087 rfl rfl) (by decide) 1087 rfl ?_
  refine zz_bipush (by decide) zd_14_78_51 ?_
  refine zz_iconst zd_14_78_53 ?_
  refine zz_iast zd_14_78_54 zT_1087 rfl (zz_ltn hn rfl) (by decide) (by decide) (fun S7 qS7 => ?_)
  have G_S7 := zz_G.put G_S6 qS7 (-2147483648) 2147483647 rfl (by omega)
  have F_S7 := zz_fr.putc F_S6 qS7 rfl
  refine zz_aload_n (x := 1079) rfl zd_14_78_55 ?_
  refine zz_getr (kd := 0) (z := 1087) zd_14_78_56 zf_Md_36 zT_1079 rfl (zz_ltn hn rfl) (zz_G.eq G_S7 1079 11 1087 rfl rfl) (by decide) 1087 rfl ?_
  refine zz_bipush (by decide) zd_14_78_59 ?_
  refine zz_iconst zd_14_78_61 ?_
  refine zz_iast zd_14_78_62 zT_1087 rfl (zz_ltn hn rfl) (by decide) (by decide) (fun S8 qS8 => ?_)
  have G_S8 := zz_G.put G_S7 qS8 (-2147483648) 2147483647 rfl (by omega)
  have F_S8 := zz_fr.putc F_S7 qS8 rfl
  exact zz_vret zd_14_78_63 rfl (Nat.zero_le _) (Nat.zero_le _) ⟨_, rfl, G_S8, F_S8⟩
abbrev zy_with_14_79 : mm_Y := (⟨"TensorForgeModel", "with", "(IIII)V"⟩, prog_14_method_79_code, 5, none)
theorem zyw_with_14_79 : mm_Yw zy_with_14_79 4 := ⟨mm_tb_1 2167 (by decide +kernel) rfl, mm_tb_1 12 (by decide +kernel) rfl, ⟨by decide, by decide⟩, by decide +kernel⟩
theorem zg_14_79_0 : zq_at zy_with_14_79.2.1 0 42 ∧ zq_at zy_with_14_79.2.1 1 180 ∧ zq_at zy_with_14_79.2.1 2 0 ∧ zq_at zy_with_14_79.2.1 3 36 ∧ zq_at zy_with_14_79.2.1 4 16 ∧ zq_at zy_with_14_79.2.1 5 8 ∧ zq_at zy_with_14_79.2.1 6 27 ∧ zq_at zy_with_14_79.2.1 7 79 ∧ zq_at zy_with_14_79.2.1 8 42 ∧ zq_at zy_with_14_79.2.1 9 180 ∧ zq_at zy_with_14_79.2.1 10 0 ∧ zq_at zy_with_14_79.2.1 11 36 ∧ zq_at zy_with_14_79.2.1 12 16 ∧ zq_at zy_with_14_79.2.1 13 9 ∧ zq_at zy_with_14_79.2.1 14 28 ∧ zq_at zy_with_14_79.2.1 15 79 ∧ zq_at zy_with_14_79.2.1 16 42 ∧ zq_at zy_with_14_79.2.1 17 180 ∧ zq_at zy_with_14_79.2.1 18 0 ∧ zq_at zy_with_14_79.2.1 19 36 ∧ zq_at zy_with_14_79.2.1 20 16 ∧ zq_at zy_with_14_79.2.1 21 10 ∧ zq_at zy_with_14_79.2.1 22 29 ∧ zq_at zy_with_14_79.2.1 23 79 := by decide +kernel
theorem zd_14_79_0 : zz_D zy_with_14_79 0 (.aload_n 0) 1 1 := ⟨zq_42 zg_14_79_0.1, rfl⟩
theorem zd_14_79_1 : zz_D zy_with_14_79 1 (.getfield 36) 3 4 := ⟨zq_180 zg_14_79_0.2.1 zg_14_79_0.2.2.1 zg_14_79_0.2.2.2.1 rfl, rfl⟩
theorem zd_14_79_4 : zz_D zy_with_14_79 4 (.bipush 8) 2 6 := ⟨zq_16 zg_14_79_0.2.2.2.2.1 zg_14_79_0.2.2.2.2.2.1 (by decide), rfl⟩
theorem zd_14_79_6 : zz_D zy_with_14_79 6 (.iload_n 1) 1 7 := ⟨zq_27 zg_14_79_0.2.2.2.2.2.2.1, rfl⟩
theorem zd_14_79_7 : zz_D zy_with_14_79 7 (.iastore) 1 8 := ⟨zq_79 zg_14_79_0.2.2.2.2.2.2.2.1, rfl⟩
theorem zd_14_79_8 : zz_D zy_with_14_79 8 (.aload_n 0) 1 9 := ⟨zq_42 zg_14_79_0.2.2.2.2.2.2.2.2.1, rfl⟩
theorem zd_14_79_9 : zz_D zy_with_14_79 9 (.getfield 36) 3 12 := ⟨zq_180 zg_14_79_0.2.2.2.2.2.2.2.2.2.1 zg_14_79_0.2.2.2.2.2.2.2.2.2.2.1 zg_14_79_0.2.2.2.2.2.2.2.2.2.2.2.1 rfl, rfl⟩
theorem zd_14_79_12 : zz_D zy_with_14_79 12 (.bipush 9) 2 14 := ⟨zq_16 zg_14_79_0.2.2.2.2.2.2.2.2.2.2.2.2.1 zg_14_79_0.2.2.2.2.2.2.2.2.2.2.2.2.2.1 (by decide), rfl⟩
theorem zd_14_79_14 : zz_D zy_with_14_79 14 (.iload_n 2) 1 15 := ⟨zq_28 zg_14_79_0.2.2.2.2.2.2.2.2.2.2.2.2.2.2.1, rfl⟩
theorem zd_14_79_15 : zz_D zy_with_14_79 15 (.iastore) 1 16 := ⟨zq_79 zg_14_79_0.2.2.2.2.2.2.2.2.2.2.2.2.2.2.2.1, rfl⟩
theorem zd_14_79_16 : zz_D zy_with_14_79 16 (.aload_n 0) 1 17 := ⟨zq_42 zg_14_79_0.2.2.2.2.2.2.2.2.2.2.2.2.2.2.2.2.1, rfl⟩
theorem zd_14_79_17 : zz_D zy_with_14_79 17 (.getfield 36) 3 20 := ⟨zq_180 zg_14_79_0.2.2.2.2.2.2.2.2.2.2.2.2.2.2.2.2.2.1 zg_14_79_0.2.2.2.2.2.2.2.2.2.2.2.2.2.2.2.2.2.2.1 zg_14_79_0.2.2.2.2.2.2.2.2.2.2.2.2.2.2.2.2.2.2.2.1 rfl, rfl⟩
theorem zd_14_79_20 : zz_D zy_with_14_79 20 (.bipush 10) 2 22 := ⟨zq_16 zg_14_79_0.2.2.2.2.2.2.2.2.2.2.2.2.2.2.2.2.2.2.2.2.1 zg_14_79_0.2.2.2.2.2.2.2.2.2.2.2.2.2.2.2.2.2.2.2.2.2.1 (by decide), rfl⟩
theorem zd_14_79_22 : zz_D zy_with_14_79 22 (.iload_n 3) 1 23 := ⟨zq_29 zg_14_79_0.2.2.2.2.2.2.2.2.2.2.2.2.2.2.2.2.2.2.2.2.2.2.1, rfl⟩
theorem zd_14_79_23 : zz_D zy_with_14_79 23 (.iastore) 1 24 := ⟨zq_79 zg_14_79_0.2.2.2.2.2.2.2.2.2.2.2.2.2.2.2.2.2.2.2.2.2.2.2, rfl⟩
theorem zg_14_79_24 : zq_at zy_with_14_79.2.1 24 42 ∧ zq_at zy_with_14_79.2.1 25 180 ∧ zq_at zy_with_14_79.2.1 26 0 ∧ zq_at zy_with_14_79.2.1 27 36 ∧ zq_at zy_with_14_79.2.1 28 16 ∧ zq_at zy_with_14_79.2.1 29 11 ∧ zq_at zy_with_14_79.2.1 30 21 ∧ zq_at zy_with_14_79.2.1 31 4 ∧ zq_at zy_with_14_79.2.1 32 79 ∧ zq_at zy_with_14_79.2.1 33 177 := by decide +kernel
theorem zd_14_79_24 : zz_D zy_with_14_79 24 (.aload_n 0) 1 25 := ⟨zq_42 zg_14_79_24.1, rfl⟩
theorem zd_14_79_25 : zz_D zy_with_14_79 25 (.getfield 36) 3 28 := ⟨zq_180 zg_14_79_24.2.1 zg_14_79_24.2.2.1 zg_14_79_24.2.2.2.1 rfl, rfl⟩
theorem zd_14_79_28 : zz_D zy_with_14_79 28 (.bipush 11) 2 30 := ⟨zq_16 zg_14_79_24.2.2.2.2.1 zg_14_79_24.2.2.2.2.2.1 (by decide), rfl⟩
theorem zd_14_79_30 : zz_D zy_with_14_79 30 (.iload 4) 2 32 := ⟨zq_21 zg_14_79_24.2.2.2.2.2.2.1 zg_14_79_24.2.2.2.2.2.2.2.1, rfl⟩
theorem zd_14_79_32 : zz_D zy_with_14_79 32 (.iastore) 1 33 := ⟨zq_79 zg_14_79_24.2.2.2.2.2.2.2.2.1, rfl⟩
theorem zd_14_79_33 : zz_D zy_with_14_79 33 (.return_) 1 34 := ⟨zq_177 zg_14_79_24.2.2.2.2.2.2.2.2.2, rfl⟩
-- TensorForgeModel with (IIII)V
abbrev zr_with_14_79 : Room := { frames := 0, cells := 0, slots := 0, locals := 0 }
def zp_with_14_79 (p0 : Int) (p1 : Int) (p2 : Int) (p3 : Int) (S0 : zz_S) : zz_S → Prop := fun S => zz_G S ∧ zz_fr [] [1087] (fun _ _ => False) S0 S
theorem zc_with_14_79 {g : mm_G} {l : Launch} (p0 : Int) (p1 : Int) (p2 : Int) (p3 : Int) (S0 : zz_S) (n : Nat) (hn : zz_end ≤ n) (G_S0 : zz_G S0) (hp0 : (-2147483648) ≤ p0 ∧ p0 ≤ 2147483647) (hp1 : (-2147483648) ≤ p1 ∧ p1 ≤ 2147483647) (hp2 : (-2147483648) ≤ p2 ∧ p2 ≤ 2147483647) (hp3 : (-2147483648) ≤ p3 ∧ p3 ≤ 2147483647) : mm_Met g l zy_with_14_79 zr_with_14_79 [.ref 1079, zi p0, zi p1, zi p2, zi p3] (zz_M S0 n) n (zz_QV n (zp_with_14_79 p0 p1 p2 p3 S0)) := by
  refine zz_enter (by decide) (Nat.le_of_ble_eq_true rfl) (zz_less (ls1 := [some (.ref 1079), some (zi p0), some (zi p1), some (zi p2), some (zi p3)]) ⟨rfl, ⟨rfl, ⟨rfl, ⟨rfl, ⟨rfl, trivial⟩⟩⟩⟩⟩ ?_)
  have F_S0 : zz_fr [] [1087] (fun _ _ => False) S0 S0 := zz_fr.refl
  refine zz_aload_n (x := 1079) rfl zd_14_79_0 ?_
  refine zz_getr (kd := 0) (z := 1087) zd_14_79_1 zf_Md_36 zT_1079 rfl (zz_ltn hn rfl) (zz_G.eq G_S0 1079 11 1087 rfl rfl) (by decide) 1087 rfl ?_
  refine zz_bipush (by decide) zd_14_79_4 ?_
  refine zz_iload_n (x := p0) rfl zd_14_79_6 ?_
  refine zz_iast zd_14_79_7 zT_1087 rfl (zz_ltn hn rfl) (by decide) (by decide) (fun S1 qS1 => ?_)
  have G_S1 := zz_G.put G_S0 qS1 (-2147483648) 2147483647 rfl (by omega)
  have F_S1 := zz_fr.putc F_S0 qS1 rfl
  refine zz_aload_n (x := 1079) rfl zd_14_79_8 ?_
  refine zz_getr (kd := 0) (z := 1087) zd_14_79_9 zf_Md_36 zT_1079 rfl (zz_ltn hn rfl) (zz_G.eq G_S1 1079 11 1087 rfl rfl) (by decide) 1087 rfl ?_
  refine zz_bipush (by decide) zd_14_79_12 ?_
  refine zz_iload_n (x := p1) rfl zd_14_79_14 ?_
  refine zz_iast zd_14_79_15 zT_1087 rfl (zz_ltn hn rfl) (by decide) (by decide) (fun S2 qS2 => ?_)
  have G_S2 := zz_G.put G_S1 qS2 (-2147483648) 2147483647 rfl (by omega)
  have F_S2 := zz_fr.putc F_S1 qS2 rfl
  refine zz_aload_n (x := 1079) rfl zd_14_79_16 ?_
  refine zz_getr (kd := 0) (z := 1087) zd_14_79_17 zf_Md_36 zT_1079 rfl (zz_ltn hn rfl) (zz_G.eq G_S2 1079 11 1087 rfl rfl) (by decide) 1087 rfl ?_
  refine zz_bipush (by decide) zd_14_79_20 ?_
  refine zz_iload_n (x := p2) rfl zd_14_79_22 ?_
  refine zz_iast zd_14_79_23 zT_1087 rfl (zz_ltn hn rfl) (by decide) (by decide) (fun S3 qS3 => ?_)
  have G_S3 := zz_G.put G_S2 qS3 (-2147483648) 2147483647 rfl (by omega)
  have F_S3 := zz_fr.putc F_S2 qS3 rfl
  refine zz_aload_n (x := 1079) rfl zd_14_79_24 ?_
  refine zz_getr (kd := 0) (z := 1087) zd_14_79_25 zf_Md_36 zT_1079 rfl (zz_ltn hn rfl) (zz_G.eq G_S3 1079 11 1087 rfl rfl) (by decide) 1087 rfl ?_
  refine zz_bipush (by decide) zd_14_79_28 ?_
  refine zz_iload (x := p3) rfl zd_14_79_30 ?_
  refine zz_iast zd_14_79_32 zT_1087 rfl (zz_ltn hn rfl) (by decide) (by decide) (fun S4 qS4 => ?_)
  have G_S4 := zz_G.put G_S3 qS4 (-2147483648) 2147483647 rfl (by omega)
  have F_S4 := zz_fr.putc F_S3 qS4 rfl
  exact zz_vret zd_14_79_33 rfl (Nat.zero_le _) (Nat.zero_le _) ⟨_, rfl, G_S4, F_S4⟩
abbrev zy_half_14_80 : mm_Y := (⟨"TensorForgeModel", "half", "()I"⟩, prog_14_method_80_code, 1, (some .int))
theorem zyw_half_14_80 : mm_Yw zy_half_14_80 0 := ⟨mm_tb_1 2179 (by decide +kernel) rfl, mm_tb_1 12 (by decide +kernel) rfl, ⟨by decide, by decide⟩, by decide +kernel⟩
theorem zf_Md_447 : mm_Fl "TensorForgeModel" 447 11 51 .int false := ⟨R_Md, F_Md, 69, t_Md, rfl, i_Md, by decide, mm_tb_1 1662 (by decide +kernel) rfl, rfl, t_Md_ok, n_Md, rfl, by decide +kernel⟩
theorem zg_14_80_0 : zq_at zy_half_14_80.2.1 0 17 ∧ zq_at zy_half_14_80.2.1 1 1 ∧ zq_at zy_half_14_80.2.1 2 0 ∧ zq_at zy_half_14_80.2.1 3 42 ∧ zq_at zy_half_14_80.2.1 4 180 ∧ zq_at zy_half_14_80.2.1 5 1 ∧ zq_at zy_half_14_80.2.1 6 191 ∧ zq_at zy_half_14_80.2.1 7 5 ∧ zq_at zy_half_14_80.2.1 8 112 ∧ zq_at zy_half_14_80.2.1 9 104 ∧ zq_at zy_half_14_80.2.1 10 172 := by decide +kernel
theorem zd_14_80_0 : zz_D zy_half_14_80 0 (.sipush 256) 3 3 := ⟨zq_17 zg_14_80_0.1 zg_14_80_0.2.1 zg_14_80_0.2.2.1 (by decide), rfl⟩
theorem zd_14_80_3 : zz_D zy_half_14_80 3 (.aload_n 0) 1 4 := ⟨zq_42 zg_14_80_0.2.2.2.1, rfl⟩
theorem zd_14_80_4 : zz_D zy_half_14_80 4 (.getfield 447) 3 7 := ⟨zq_180 zg_14_80_0.2.2.2.2.1 zg_14_80_0.2.2.2.2.2.1 zg_14_80_0.2.2.2.2.2.2.1 rfl, rfl⟩
theorem zd_14_80_7 : zz_D zy_half_14_80 7 (.iconst 2) 1 8 := ⟨zq_5 zg_14_80_0.2.2.2.2.2.2.2.1, rfl⟩
theorem zd_14_80_8 : zz_D zy_half_14_80 8 (.irem) 1 9 := ⟨zq_112 zg_14_80_0.2.2.2.2.2.2.2.2.1, rfl⟩
theorem zd_14_80_9 : zz_D zy_half_14_80 9 (.imul) 1 10 := ⟨zq_104 zg_14_80_0.2.2.2.2.2.2.2.2.2.1, rfl⟩
theorem zd_14_80_10 : zz_D zy_half_14_80 10 (.ireturn) 1 11 := ⟨zq_172 zg_14_80_0.2.2.2.2.2.2.2.2.2.2, rfl⟩
-- TensorForgeModel half ()I
abbrev zr_half_14_80 : Room := { frames := 0, cells := 0, slots := 0, locals := 0 }
def zp_half_14_80  (S0 : zz_S) : Int → zz_S → Prop := fun r S => S0 = S ∧ ((-2147483648) ≤ r ∧ r ≤ 2147483647)
theorem zc_half_14_80 {g : mm_G} {l : Launch}  (S0 : zz_S) (n : Nat) (hn : zz_end ≤ n) (G_S0 : zz_G S0)  : mm_Met g l zy_half_14_80 zr_half_14_80 [.ref 1079] (zz_M S0 n) n (zz_QI n (zp_half_14_80  S0)) := by
  refine zz_enter (by decide) (Nat.le_of_ble_eq_true rfl) (zz_less (ls1 := [some (.ref 1079)]) ⟨rfl, trivial⟩ ?_)
  refine zz_sipush (by decide) zd_14_80_0 ?_
  refine zz_aload_n (x := 1079) rfl zd_14_80_3 ?_
  have g1 := zz_G.r G_S0 1079 51 (-2147483648) 2147483647 rfl rfl
  refine zz_geti (z := S0 1079 51) zd_14_80_4 zf_Md_447 zT_1079 rfl (zz_ltn hn rfl) rfl ?_
  refine zz_iconst zd_14_80_7 ?_
  refine zz_irem (by omega) (by omega) zd_14_80_8 (fun v2 hv2 av2 bv2 cv2 => ?_)
  refine zz_imul zd_14_80_9 ?_
  exact zz_iret zd_14_80_10 rfl (Nat.zero_le _) (Nat.zero_le _) ⟨_, _, rfl, rfl, by omega⟩
abbrev zy_quarter_14_81 : mm_Y := (⟨"TensorForgeModel", "quarter", "()I"⟩, prog_14_method_81_code, 1, (some .int))
theorem zyw_quarter_14_81 : mm_Yw zy_quarter_14_81 0 := ⟨mm_tb_1 2163 (by decide +kernel) rfl, mm_tb_1 12 (by decide +kernel) rfl, ⟨by decide, by decide⟩, by decide +kernel⟩
theorem zf_Md_450 : mm_Fl "TensorForgeModel" 450 11 50 .int false := ⟨R_Md, F_Md, 69, t_Md, rfl, i_Md, by decide, mm_tb_1 1661 (by decide +kernel) rfl, rfl, t_Md_ok, n_Md, rfl, by decide +kernel⟩
theorem zg_14_81_0 : zq_at zy_quarter_14_81.2.1 0 17 ∧ zq_at zy_quarter_14_81.2.1 1 0 ∧ zq_at zy_quarter_14_81.2.1 2 128 ∧ zq_at zy_quarter_14_81.2.1 3 42 ∧ zq_at zy_quarter_14_81.2.1 4 180 ∧ zq_at zy_quarter_14_81.2.1 5 1 ∧ zq_at zy_quarter_14_81.2.1 6 194 ∧ zq_at zy_quarter_14_81.2.1 7 5 ∧ zq_at zy_quarter_14_81.2.1 8 112 ∧ zq_at zy_quarter_14_81.2.1 9 104 ∧ zq_at zy_quarter_14_81.2.1 10 172 := by decide +kernel
theorem zd_14_81_0 : zz_D zy_quarter_14_81 0 (.sipush 128) 3 3 := ⟨zq_17 zg_14_81_0.1 zg_14_81_0.2.1 zg_14_81_0.2.2.1 (by decide), rfl⟩
theorem zd_14_81_3 : zz_D zy_quarter_14_81 3 (.aload_n 0) 1 4 := ⟨zq_42 zg_14_81_0.2.2.2.1, rfl⟩
theorem zd_14_81_4 : zz_D zy_quarter_14_81 4 (.getfield 450) 3 7 := ⟨zq_180 zg_14_81_0.2.2.2.2.1 zg_14_81_0.2.2.2.2.2.1 zg_14_81_0.2.2.2.2.2.2.1 rfl, rfl⟩
theorem zd_14_81_7 : zz_D zy_quarter_14_81 7 (.iconst 2) 1 8 := ⟨zq_5 zg_14_81_0.2.2.2.2.2.2.2.1, rfl⟩
theorem zd_14_81_8 : zz_D zy_quarter_14_81 8 (.irem) 1 9 := ⟨zq_112 zg_14_81_0.2.2.2.2.2.2.2.2.1, rfl⟩
theorem zd_14_81_9 : zz_D zy_quarter_14_81 9 (.imul) 1 10 := ⟨zq_104 zg_14_81_0.2.2.2.2.2.2.2.2.2.1, rfl⟩
theorem zd_14_81_10 : zz_D zy_quarter_14_81 10 (.ireturn) 1 11 := ⟨zq_172 zg_14_81_0.2.2.2.2.2.2.2.2.2.2, rfl⟩
-- TensorForgeModel quarter ()I
abbrev zr_quarter_14_81 : Room := { frames := 0, cells := 0, slots := 0, locals := 0 }
def zp_quarter_14_81  (S0 : zz_S) : Int → zz_S → Prop := fun r S => S0 = S ∧ ((-2147483648) ≤ r ∧ r ≤ 2147483647)
theorem zc_quarter_14_81 {g : mm_G} {l : Launch}  (S0 : zz_S) (n : Nat) (hn : zz_end ≤ n) (G_S0 : zz_G S0)  : mm_Met g l zy_quarter_14_81 zr_quarter_14_81 [.ref 1079] (zz_M S0 n) n (zz_QI n (zp_quarter_14_81  S0)) := by
  refine zz_enter (by decide) (Nat.le_of_ble_eq_true rfl) (zz_less (ls1 := [some (.ref 1079)]) ⟨rfl, trivial⟩ ?_)
  refine zz_sipush (by decide) zd_14_81_0 ?_
  refine zz_aload_n (x := 1079) rfl zd_14_81_3 ?_
  have g1 := zz_G.r G_S0 1079 50 (-2147483648) 2147483647 rfl rfl
  refine zz_geti (z := S0 1079 50) zd_14_81_4 zf_Md_450 zT_1079 rfl (zz_ltn hn rfl) rfl ?_
  refine zz_iconst zd_14_81_7 ?_
  refine zz_irem (by omega) (by omega) zd_14_81_8 (fun v2 hv2 av2 bv2 cv2 => ?_)
  refine zz_imul zd_14_81_9 ?_
  exact zz_iret zd_14_81_10 rfl (Nat.zero_le _) (Nat.zero_le _) ⟨_, _, rfl, rfl, by omega⟩
abbrev zy_load_14_82 : mm_Y := (⟨"TensorForgeModel", "load", "(Z)V"⟩, prog_14_method_82_code, 3, none)
theorem zyw_load_14_82 : mm_Yw zy_load_14_82 1 := ⟨mm_tb_1 2171 (by decide +kernel) rfl, mm_tb_1 12 (by decide +kernel) rfl, ⟨by decide, by decide⟩, by decide +kernel⟩
theorem zf_Md_453 : mm_Fl "TensorForgeModel" 453 11 57 .int false := ⟨R_Md, F_Md, 69, t_Md, rfl, i_Md, by decide, mm_tb_1 1668 (by decide +kernel) rfl, rfl, t_Md_ok, n_Md, rfl, by decide +kernel⟩
theorem zf_Md_456 : mm_Fl "TensorForgeModel" 456 11 60 .int false := ⟨R_Md, F_Md, 69, t_Md, rfl, i_Md, by decide, mm_tb_1 1671 (by decide +kernel) rfl, rfl, t_Md_ok, n_Md, rfl, by decide +kernel⟩
theorem zk_Md_459 : mm_Vl "TensorForgeModel" 459 11 1 zy_emit_14_77 := ⟨zyw_emit_14_77, (R_Md, F_Md, 69), rfl, mm_tb_1 2172 (by decide +kernel) rfl, mm_tb_1 2174 (by decide +kernel) rfl, mm_tb_s 135 (by decide +kernel) rfl⟩
theorem zg_14_82_0 : zq_at zy_load_14_82.2.1 0 42 ∧ zq_at zy_load_14_82.2.1 1 89 ∧ zq_at zy_load_14_82.2.1 2 180 ∧ zq_at zy_load_14_82.2.1 3 1 ∧ zq_at zy_load_14_82.2.1 4 197 ∧ zq_at zy_load_14_82.2.1 5 4 ∧ zq_at zy_load_14_82.2.1 6 96 ∧ zq_at zy_load_14_82.2.1 7 181 ∧ zq_at zy_load_14_82.2.1 8 1 ∧ zq_at zy_load_14_82.2.1 9 197 ∧ zq_at zy_load_14_82.2.1 10 27 ∧ zq_at zy_load_14_82.2.1 11 154 ∧ zq_at zy_load_14_82.2.1 12 0 ∧ zq_at zy_load_14_82.2.1 13 48 ∧ zq_at zy_load_14_82.2.1 59 177 ∧ zq_at zy_load_14_82.2.1 14 42 ∧ zq_at zy_load_14_82.2.1 15 180 ∧ zq_at zy_load_14_82.2.1 16 1 ∧ zq_at zy_load_14_82.2.1 17 197 ∧ zq_at zy_load_14_82.2.1 18 4 ∧ zq_at zy_load_14_82.2.1 19 160 ∧ zq_at zy_load_14_82.2.1 20 0 ∧ zq_at zy_load_14_82.2.1 21 15 ∧ zq_at zy_load_14_82.2.1 34 3 := by decide +kernel
theorem zd_14_82_0 : zz_D zy_load_14_82 0 (.aload_n 0) 1 1 := ⟨zq_42 zg_14_82_0.1, rfl⟩
theorem zd_14_82_1 : zz_D zy_load_14_82 1 (.dup) 1 2 := ⟨zq_89 zg_14_82_0.2.1, rfl⟩
theorem zd_14_82_2 : zz_D zy_load_14_82 2 (.getfield 453) 3 5 := ⟨zq_180 zg_14_82_0.2.2.1 zg_14_82_0.2.2.2.1 zg_14_82_0.2.2.2.2.1 rfl, rfl⟩
theorem zd_14_82_5 : zz_D zy_load_14_82 5 (.iconst 1) 1 6 := ⟨zq_4 zg_14_82_0.2.2.2.2.2.1, rfl⟩
theorem zd_14_82_6 : zz_D zy_load_14_82 6 (.iadd) 1 7 := ⟨zq_96 zg_14_82_0.2.2.2.2.2.2.1, rfl⟩
theorem zd_14_82_7 : zz_D zy_load_14_82 7 (.putfield 453) 3 10 := ⟨zq_181 zg_14_82_0.2.2.2.2.2.2.2.1 zg_14_82_0.2.2.2.2.2.2.2.2.1 zg_14_82_0.2.2.2.2.2.2.2.2.2.1 rfl, rfl⟩
theorem zd_14_82_10 : zz_D zy_load_14_82 10 (.iload_n 1) 1 11 := ⟨zq_27 zg_14_82_0.2.2.2.2.2.2.2.2.2.2.1, rfl⟩
theorem zd_14_82_11 : zz_B zy_load_14_82 11 (Instr.ifCond .ne) 59 14 := ⟨48, zq_154 zg_14_82_0.2.2.2.2.2.2.2.2.2.2.2.1 zg_14_82_0.2.2.2.2.2.2.2.2.2.2.2.2.1 zg_14_82_0.2.2.2.2.2.2.2.2.2.2.2.2.2.1 (by decide), rfl, rfl⟩
theorem zd_14_82_59 : zz_D zy_load_14_82 59 (.return_) 1 60 := ⟨zq_177 zg_14_82_0.2.2.2.2.2.2.2.2.2.2.2.2.2.2.1, rfl⟩
theorem zd_14_82_14 : zz_D zy_load_14_82 14 (.aload_n 0) 1 15 := ⟨zq_42 zg_14_82_0.2.2.2.2.2.2.2.2.2.2.2.2.2.2.2.1, rfl⟩
theorem zd_14_82_15 : zz_D zy_load_14_82 15 (.getfield 453) 3 18 := ⟨zq_180 zg_14_82_0.2.2.2.2.2.2.2.2.2.2.2.2.2.2.2.2.1 zg_14_82_0.2.2.2.2.2.2.2.2.2.2.2.2.2.2.2.2.2.1 zg_14_82_0.2.2.2.2.2.2.2.2.2.2.2.2.2.2.2.2.2.2.1 rfl, rfl⟩
theorem zd_14_82_18 : zz_D zy_load_14_82 18 (.iconst 1) 1 19 := ⟨zq_4 zg_14_82_0.2.2.2.2.2.2.2.2.2.2.2.2.2.2.2.2.2.2.2.1, rfl⟩
theorem zd_14_82_19 : zz_B zy_load_14_82 19 (Instr.if_icmp .ne) 34 22 := ⟨15, zq_160 zg_14_82_0.2.2.2.2.2.2.2.2.2.2.2.2.2.2.2.2.2.2.2.2.1 zg_14_82_0.2.2.2.2.2.2.2.2.2.2.2.2.2.2.2.2.2.2.2.2.2.1 zg_14_82_0.2.2.2.2.2.2.2.2.2.2.2.2.2.2.2.2.2.2.2.2.2.2.1 (by decide), rfl, rfl⟩
theorem zd_14_82_34 : zz_D zy_load_14_82 34 (.iconst 0) 1 35 := ⟨zq_3 zg_14_82_0.2.2.2.2.2.2.2.2.2.2.2.2.2.2.2.2.2.2.2.2.2.2.2, rfl⟩
theorem zg_14_82_35 : zq_at zy_load_14_82.2.1 35 42 ∧ zq_at zy_load_14_82.2.1 36 180 ∧ zq_at zy_load_14_82.2.1 37 1 ∧ zq_at zy_load_14_82.2.1 38 197 ∧ zq_at zy_load_14_82.2.1 39 42 ∧ zq_at zy_load_14_82.2.1 40 180 ∧ zq_at zy_load_14_82.2.1 41 1 ∧ zq_at zy_load_14_82.2.1 42 200 ∧ zq_at zy_load_14_82.2.1 43 160 ∧ zq_at zy_load_14_82.2.1 44 0 ∧ zq_at zy_load_14_82.2.1 45 8 ∧ zq_at zy_load_14_82.2.1 51 3 ∧ zq_at zy_load_14_82.2.1 52 128 ∧ zq_at zy_load_14_82.2.1 53 61 ∧ zq_at zy_load_14_82.2.1 54 42 ∧ zq_at zy_load_14_82.2.1 55 28 ∧ zq_at zy_load_14_82.2.1 56 182 ∧ zq_at zy_load_14_82.2.1 57 1 ∧ zq_at zy_load_14_82.2.1 58 203 ∧ zq_at zy_load_14_82.2.1 46 16 ∧ zq_at zy_load_14_82.2.1 47 8 ∧ zq_at zy_load_14_82.2.1 48 167 ∧ zq_at zy_load_14_82.2.1 49 0 ∧ zq_at zy_load_14_82.2.1 50 4 := by decide +kernel
theorem zd_14_82_35 : zz_D zy_load_14_82 35 (.aload_n 0) 1 36 := ⟨zq_42 zg_14_82_35.1, rfl⟩
theorem zd_14_82_36 : zz_D zy_load_14_82 36 (.getfield 453) 3 39 := ⟨zq_180 zg_14_82_35.2.1 zg_14_82_35.2.2.1 zg_14_82_35.2.2.2.1 rfl, rfl⟩
theorem zd_14_82_39 : zz_D zy_load_14_82 39 (.aload_n 0) 1 40 := ⟨zq_42 zg_14_82_35.2.2.2.2.1, rfl⟩
theorem zd_14_82_40 : zz_D zy_load_14_82 40 (.getfield 456) 3 43 := ⟨zq_180 zg_14_82_35.2.2.2.2.2.1 zg_14_82_35.2.2.2.2.2.2.1 zg_14_82_35.2.2.2.2.2.2.2.1 rfl, rfl⟩
theorem zd_14_82_43 : zz_B zy_load_14_82 43 (Instr.if_icmp .ne) 51 46 := ⟨8, zq_160 zg_14_82_35.2.2.2.2.2.2.2.2.1 zg_14_82_35.2.2.2.2.2.2.2.2.2.1 zg_14_82_35.2.2.2.2.2.2.2.2.2.2.1 (by decide), rfl, rfl⟩
theorem zd_14_82_51 : zz_D zy_load_14_82 51 (.iconst 0) 1 52 := ⟨zq_3 zg_14_82_35.2.2.2.2.2.2.2.2.2.2.2.1, rfl⟩
theorem zd_14_82_52 : zz_D zy_load_14_82 52 (.ior) 1 53 := ⟨zq_128 zg_14_82_35.2.2.2.2.2.2.2.2.2.2.2.2.1, rfl⟩
theorem zd_14_82_53 : zz_D zy_load_14_82 53 (.istore_n 2) 1 54 := ⟨zq_61 zg_14_82_35.2.2.2.2.2.2.2.2.2.2.2.2.2.1, rfl⟩
theorem zd_14_82_54 : zz_D zy_load_14_82 54 (.aload_n 0) 1 55 := ⟨zq_42 zg_14_82_35.2.2.2.2.2.2.2.2.2.2.2.2.2.2.1, rfl⟩
theorem zd_14_82_55 : zz_D zy_load_14_82 55 (.iload_n 2) 1 56 := ⟨zq_28 zg_14_82_35.2.2.2.2.2.2.2.2.2.2.2.2.2.2.2.1, rfl⟩
theorem zd_14_82_56 : zz_D zy_load_14_82 56 (.invokevirtual 459) 3 59 := ⟨zq_182 zg_14_82_35.2.2.2.2.2.2.2.2.2.2.2.2.2.2.2.2.1 zg_14_82_35.2.2.2.2.2.2.2.2.2.2.2.2.2.2.2.2.2.1 zg_14_82_35.2.2.2.2.2.2.2.2.2.2.2.2.2.2.2.2.2.2.1 rfl, rfl⟩
theorem zd_14_82_46 : zz_D zy_load_14_82 46 (.bipush 8) 2 48 := ⟨zq_16 zg_14_82_35.2.2.2.2.2.2.2.2.2.2.2.2.2.2.2.2.2.2.2.1 zg_14_82_35.2.2.2.2.2.2.2.2.2.2.2.2.2.2.2.2.2.2.2.2.1 (by decide), rfl⟩
theorem zd_14_82_48 : zz_B zy_load_14_82 48 Instr.goto 52 51 := ⟨4, zq_167 zg_14_82_35.2.2.2.2.2.2.2.2.2.2.2.2.2.2.2.2.2.2.2.2.2.1 zg_14_82_35.2.2.2.2.2.2.2.2.2.2.2.2.2.2.2.2.2.2.2.2.2.2.1 zg_14_82_35.2.2.2.2.2.2.2.2.2.2.2.2.2.2.2.2.2.2.2.2.2.2.2 (by decide), rfl, rfl⟩
theorem zg_14_82_22 : zq_at zy_load_14_82.2.1 22 42 ∧ zq_at zy_load_14_82.2.1 23 180 ∧ zq_at zy_load_14_82.2.1 24 1 ∧ zq_at zy_load_14_82.2.1 25 191 ∧ zq_at zy_load_14_82.2.1 26 4 ∧ zq_at zy_load_14_82.2.1 27 164 ∧ zq_at zy_load_14_82.2.1 28 0 ∧ zq_at zy_load_14_82.2.1 29 7 ∧ zq_at zy_load_14_82.2.1 30 5 ∧ zq_at zy_load_14_82.2.1 31 167 ∧ zq_at zy_load_14_82.2.1 32 0 ∧ zq_at zy_load_14_82.2.1 33 4 := by decide +kernel
theorem zd_14_82_22 : zz_D zy_load_14_82 22 (.aload_n 0) 1 23 := ⟨zq_42 zg_14_82_22.1, rfl⟩
theorem zd_14_82_23 : zz_D zy_load_14_82 23 (.getfield 447) 3 26 := ⟨zq_180 zg_14_82_22.2.1 zg_14_82_22.2.2.1 zg_14_82_22.2.2.2.1 rfl, rfl⟩
theorem zd_14_82_26 : zz_D zy_load_14_82 26 (.iconst 1) 1 27 := ⟨zq_4 zg_14_82_22.2.2.2.2.1, rfl⟩
theorem zd_14_82_27 : zz_B zy_load_14_82 27 (Instr.if_icmp .le) 34 30 := ⟨7, zq_164 zg_14_82_22.2.2.2.2.2.1 zg_14_82_22.2.2.2.2.2.2.1 zg_14_82_22.2.2.2.2.2.2.2.1 (by decide), rfl, rfl⟩
theorem zd_14_82_30 : zz_D zy_load_14_82 30 (.iconst 2) 1 31 := ⟨zq_5 zg_14_82_22.2.2.2.2.2.2.2.2.1, rfl⟩
theorem zd_14_82_31 : zz_B zy_load_14_82 31 Instr.goto 35 34 := ⟨4, zq_167 zg_14_82_22.2.2.2.2.2.2.2.2.2.1 zg_14_82_22.2.2.2.2.2.2.2.2.2.2.1 zg_14_82_22.2.2.2.2.2.2.2.2.2.2.2 (by decide), rfl, rfl⟩

-- java/util/Arrays fill ([II)V
abbrev zr_fill_27_103_1046 : Room := { frames := 0, cells := 0, slots := 0, locals := 0 }
def zp_fill_27_103_1046 (p1 : Int) (S0 : zz_S) : zz_S → Prop := fun S => zz_G S ∧ zz_fr [] [1046] (fun _ _ => False) S0 S
theorem zb_fill_27_103_1046_5 {g : mm_G} {l : Launch} (p1 : Int) (S0 : zz_S) (n : Nat) (hn : zz_end ≤ n) (G_S0 : zz_G S0) (hp1 : (-2147483648) ≤ p1 ∧ p1 ≤ 2147483647) (x2 : Int) (S : zz_S) (G_S : zz_G S) (F_S : zz_fr [] [1046] (fun _ _ => False) S0 S) (i5_0 : 0 ≤ x2 ∧ x2 ≤ 600) (R : Nat) (hR : (600 - x2).toNat = R) (k5 : ∀ (x2 : Int) (S : zz_S), zz_G S → zz_fr [] [1046] (fun _ _ => False) S0 S → (0 ≤ x2 ∧ x2 ≤ 600) → (600 - x2).toNat < R → zz_E g l zy_fill_27_103 zr_fill_27_103_1046 (zz_QV n (zp_fill_27_103_1046 p1 S0)) S n 5 [some (.ref 1046), some (zi p1), some (zi x2), some (zi 600)] [] 0 0) : zz_E g l zy_fill_27_103 zr_fill_27_103_1046 (zz_QV n (zp_fill_27_103_1046 p1 S0)) S n 5 [some (.ref 1046), some (zi p1), some (zi x2), some (zi 600)] [] 0 0 := by
  refine zz_iload_n (x := x2) rfl zd_27_103_5 ?_
  refine zz_iload_n (x := 600) rfl zd_27_103_6 ?_
  refine zz_icmp_ge (by omega) (by omega) zd_27_103_7 (fun c1 => ?_) (fun c1 => ?_)
  · exact zz_vret zd_27_103_20 rfl (Nat.zero_le _) (Nat.zero_le _) ⟨_, rfl, G_S, F_S⟩
  · refine zz_aload_n (x := 1046) rfl zd_27_103_10 ?_
    refine zz_iload_n (x := x2) rfl zd_27_103_11 ?_
    refine zz_iload_n (x := p1) rfl zd_27_103_12 ?_
    refine zz_iast zd_27_103_13 zT_1046 rfl (zz_ltn hn rfl) (by decide) (by omega) (fun S2 qS2 => ?_)
    have G_S2 := zz_G.put G_S qS2 (-2147483648) 2147483647 rfl (by omega)
    have F_S2 := zz_fr.putc F_S qS2 rfl
    refine zz_iinc [some (.ref 1046), some (zi p1), some (zi (x2 + 1)), some (zi 600)] zd_27_103_14 rfl rfl ?_
    refine zz_goto zd_27_103_17 ?_
    refine zz_less (ls1 := [some (.ref 1046), some (zi p1), some (zi (x2 + 1)), some (zi 600)]) ⟨rfl, ⟨rfl, ⟨rfl, ⟨rfl, trivial⟩⟩⟩⟩ ?_
    exact k5 (x2 + 1) S2 G_S2 F_S2 (by omega) (by omega)
theorem zi_fill_27_103_1046 {g : mm_G} {l : Launch} (p1 : Int) (S0 : zz_S) (n : Nat) (hn : zz_end ≤ n) (G_S0 : zz_G S0) (hp1 : (-2147483648) ≤ p1 ∧ p1 ≤ 2147483647) : ∀ N : Nat, (∀ (x2 : Int) (S : zz_S), zz_G S → zz_fr [] [1046] (fun _ _ => False) S0 S → (0 ≤ x2 ∧ x2 ≤ 600) → (600 - x2).toNat < N → zz_E g l zy_fill_27_103 zr_fill_27_103_1046 (zz_QV n (zp_fill_27_103_1046 p1 S0)) S n 5 [some (.ref 1046), some (zi p1), some (zi x2), some (zi 600)] [] 0 0) := by
  intro N
  induction N with
  | zero => exact fun x2 S _ _ _ h => absurd h (Nat.not_lt_zero _)
  | succ N ih =>
    exact fun x2 S a b j0 hR => zb_fill_27_103_1046_5 p1 S0 n hn G_S0 hp1 x2 S a b j0 _ rfl (fun x2 S a b j0 h => ih x2 S a b j0 (Nat.lt_of_lt_of_le h (Nat.le_of_lt_succ hR)))
theorem zc_fill_27_103_1046 {g : mm_G} {l : Launch} (p1 : Int) (S0 : zz_S) (n : Nat) (hn : zz_end ≤ n) (G_S0 : zz_G S0) (hp1 : (-2147483648) ≤ p1 ∧ p1 ≤ 2147483647) : mm_Met g l zy_fill_27_103 zr_fill_27_103_1046 [.ref 1046, zi p1] (zz_M S0 n) n (zz_QV n (zp_fill_27_103_1046 p1 S0)) := by
  refine zz_enter (by decide) (Nat.le_of_ble_eq_true rfl) (zz_less (ls1 := [some (.ref 1046), some (zi p1)]) ⟨rfl, ⟨rfl, trivial⟩⟩ ?_)
  have F_S0 : zz_fr [] [1046] (fun _ _ => False) S0 S0 := zz_fr.refl
  have k5 : ∀ (x2 : Int) (S : zz_S), zz_G S → zz_fr [] [1046] (fun _ _ => False) S0 S → (0 ≤ x2 ∧ x2 ≤ 600) → zz_E g l zy_fill_27_103 zr_fill_27_103_1046 (zz_QV n (zp_fill_27_103_1046 p1 S0)) S n 5 [some (.ref 1046), some (zi p1), some (zi x2), some (zi 600)] [] 0 0 := fun x2 S a b j0 => (zi_fill_27_103_1046 (g := g) (l := l) p1 S0 n hn G_S0 hp1 _) x2 S a b j0 (Nat.lt_succ_self _)
  refine zz_iconst zd_27_103_0 ?_
  refine zz_istore_n [some (.ref 1046), some (zi p1), some (zi 0)] zd_27_103_1 (by decide) rfl ?_
  refine zz_aload_n (x := 1046) rfl zd_27_103_2 ?_
  refine zz_alen zd_27_103_3 zT_1046 rfl (zz_ltn hn rfl) ?_
  refine zz_istore_n [some (.ref 1046), some (zi p1), some (zi 0), some (zi 600)] zd_27_103_4 (by decide) rfl ?_
  refine zz_less (ls1 := [some (.ref 1046), some (zi p1), some (zi 0), some (zi 600)]) ⟨rfl, ⟨rfl, ⟨rfl, ⟨rfl, trivial⟩⟩⟩⟩ ?_
  exact k5 0 S0 G_S0 F_S0 (by omega)
theorem zg_10_3_60 : zq_at zy_prepare_10_3.2.1 60 42 ∧ zq_at zy_prepare_10_3.2.1 61 180 ∧ zq_at zy_prepare_10_3.2.1 62 0 ∧ zq_at zy_prepare_10_3.2.1 63 32 ∧ zq_at zy_prepare_10_3.2.1 64 2 ∧ zq_at zy_prepare_10_3.2.1 65 184 ∧ zq_at zy_prepare_10_3.2.1 66 0 ∧ zq_at zy_prepare_10_3.2.1 67 92 := by decide +kernel
theorem zd_10_3_60 : zz_D zy_prepare_10_3 60 (.aload_n 0) 1 61 := ⟨zq_42 zg_10_3_60.1, rfl⟩
theorem zd_10_3_61 : zz_D zy_prepare_10_3 61 (.getfield 32) 3 64 := ⟨zq_180 zg_10_3_60.2.1 zg_10_3_60.2.2.1 zg_10_3_60.2.2.2.1 rfl, rfl⟩
theorem zd_10_3_64 : zz_D zy_prepare_10_3 64 (.iconst (-1)) 1 65 := ⟨zq_2 zg_10_3_60.2.2.2.2.1, rfl⟩
theorem zd_10_3_65 : zz_D zy_prepare_10_3 65 (.invokestatic 92) 3 68 := ⟨zq_184 zg_10_3_60.2.2.2.2.2.1 zg_10_3_60.2.2.2.2.2.2.1 zg_10_3_60.2.2.2.2.2.2.2 rfl, rfl⟩
-- java/util/Arrays fill ([II)V
abbrev zr_fill_27_103_1048 : Room := { frames := 0, cells := 0, slots := 0, locals := 0 }
def zp_fill_27_103_1048 (p1 : Int) (S0 : zz_S) : zz_S → Prop := fun S => zz_G S ∧ zz_fr [] [1048] (fun _ _ => False) S0 S
theorem zb_fill_27_103_1048_5 {g : mm_G} {l : Launch} (p1 : Int) (S0 : zz_S) (n : Nat) (hn : zz_end ≤ n) (G_S0 : zz_G S0) (hp1 : (-1) ≤ p1 ∧ p1 ≤ 600) (x2 : Int) (S : zz_S) (G_S : zz_G S) (F_S : zz_fr [] [1048] (fun _ _ => False) S0 S) (i5_0 : 0 ≤ x2 ∧ x2 ≤ 3) (R : Nat) (hR : (3 - x2).toNat = R) (k5 : ∀ (x2 : Int) (S : zz_S), zz_G S → zz_fr [] [1048] (fun _ _ => False) S0 S → (0 ≤ x2 ∧ x2 ≤ 3) → (3 - x2).toNat < R → zz_E g l zy_fill_27_103 zr_fill_27_103_1048 (zz_QV n (zp_fill_27_103_1048 p1 S0)) S n 5 [some (.ref 1048), some (zi p1), some (zi x2), some (zi 3)] [] 0 0) : zz_E g l zy_fill_27_103 zr_fill_27_103_1048 (zz_QV n (zp_fill_27_103_1048 p1 S0)) S n 5 [some (.ref 1048), some (zi p1), some (zi x2), some (zi 3)] [] 0 0 := by
  refine zz_iload_n (x := x2) rfl zd_27_103_5 ?_
  refine zz_iload_n (x := 3) rfl zd_27_103_6 ?_
  refine zz_icmp_ge (by omega) (by omega) zd_27_103_7 (fun c1 => ?_) (fun c1 => ?_)
  · exact zz_vret zd_27_103_20 rfl (Nat.zero_le _) (Nat.zero_le _) ⟨_, rfl, G_S, F_S⟩
  · refine zz_aload_n (x := 1048) rfl zd_27_103_10 ?_
    refine zz_iload_n (x := x2) rfl zd_27_103_11 ?_
    refine zz_iload_n (x := p1) rfl zd_27_103_12 ?_
    refine zz_iast zd_27_103_13 zT_1048 rfl (zz_ltn hn rfl) (by decide) (by omega) (fun S2 qS2 => ?_)
    have G_S2 := zz_G.put G_S qS2 (-1) 600 rfl (by omega)
    have F_S2 := zz_fr.putc F_S qS2 rfl
    refine zz_iinc [some (.ref 1048), some (zi p1), some (zi (x2 + 1)), some (zi 3)] zd_27_103_14 rfl rfl ?_
    refine zz_goto zd_27_103_17 ?_
    refine zz_less (ls1 := [some (.ref 1048), some (zi p1), some (zi (x2 + 1)), some (zi 3)]) ⟨rfl, ⟨rfl, ⟨rfl, ⟨rfl, trivial⟩⟩⟩⟩ ?_
    exact k5 (x2 + 1) S2 G_S2 F_S2 (by omega) (by omega)
theorem zi_fill_27_103_1048 {g : mm_G} {l : Launch} (p1 : Int) (S0 : zz_S) (n : Nat) (hn : zz_end ≤ n) (G_S0 : zz_G S0) (hp1 : (-1) ≤ p1 ∧ p1 ≤ 600) : ∀ N : Nat, (∀ (x2 : Int) (S : zz_S), zz_G S → zz_fr [] [1048] (fun _ _ => False) S0 S → (0 ≤ x2 ∧ x2 ≤ 3) → (3 - x2).toNat < N → zz_E g l zy_fill_27_103 zr_fill_27_103_1048 (zz_QV n (zp_fill_27_103_1048 p1 S0)) S n 5 [some (.ref 1048), some (zi p1), some (zi x2), some (zi 3)] [] 0 0) := by
  intro N
  induction N with
  | zero => exact fun x2 S _ _ _ h => absurd h (Nat.not_lt_zero _)
  | succ N ih =>
    exact fun x2 S a b j0 hR => zb_fill_27_103_1048_5 p1 S0 n hn G_S0 hp1 x2 S a b j0 _ rfl (fun x2 S a b j0 h => ih x2 S a b j0 (Nat.lt_of_lt_of_le h (Nat.le_of_lt_succ hR)))
theorem zc_fill_27_103_1048 {g : mm_G} {l : Launch} (p1 : Int) (S0 : zz_S) (n : Nat) (hn : zz_end ≤ n) (G_S0 : zz_G S0) (hp1 : (-1) ≤ p1 ∧ p1 ≤ 600) : mm_Met g l zy_fill_27_103 zr_fill_27_103_1048 [.ref 1048, zi p1] (zz_M S0 n) n (zz_QV n (zp_fill_27_103_1048 p1 S0)) := by
  refine zz_enter (by decide) (Nat.le_of_ble_eq_true rfl) (zz_less (ls1 := [some (.ref 1048), some (zi p1)]) ⟨rfl, ⟨rfl, trivial⟩⟩ ?_)
  have F_S0 : zz_fr [] [1048] (fun _ _ => False) S0 S0 := zz_fr.refl
  have k5 : ∀ (x2 : Int) (S : zz_S), zz_G S → zz_fr [] [1048] (fun _ _ => False) S0 S → (0 ≤ x2 ∧ x2 ≤ 3) → zz_E g l zy_fill_27_103 zr_fill_27_103_1048 (zz_QV n (zp_fill_27_103_1048 p1 S0)) S n 5 [some (.ref 1048), some (zi p1), some (zi x2), some (zi 3)] [] 0 0 := fun x2 S a b j0 => (zi_fill_27_103_1048 (g := g) (l := l) p1 S0 n hn G_S0 hp1 _) x2 S a b j0 (Nat.lt_succ_self _)
  refine zz_iconst zd_27_103_0 ?_
  refine zz_istore_n [some (.ref 1048), some (zi p1), some (zi 0)] zd_27_103_1 (by decide) rfl ?_
  refine zz_aload_n (x := 1048) rfl zd_27_103_2 ?_
  refine zz_alen zd_27_103_3 zT_1048 rfl (zz_ltn hn rfl) ?_
  refine zz_istore_n [some (.ref 1048), some (zi p1), some (zi 0), some (zi 3)] zd_27_103_4 (by decide) rfl ?_
  refine zz_less (ls1 := [some (.ref 1048), some (zi p1), some (zi 0), some (zi 3)]) ⟨rfl, ⟨rfl, ⟨rfl, ⟨rfl, trivial⟩⟩⟩⟩ ?_
  exact k5 0 S0 G_S0 F_S0 (by omega)
abbrev zy_nextOf_10_6 : mm_Y := (⟨"TensorForge$Run", "nextOf", "(II)I"⟩, prog_10_method_6_code, 4, (some .int))
theorem zyw_nextOf_10_6 : mm_Yw zy_nextOf_10_6 2 := ⟨mm_tb_1 718 (by decide +kernel) rfl, mm_tb_1 6 (by decide +kernel) rfl, ⟨by decide, by decide⟩, by decide +kernel⟩
theorem zk_Run_107 : mm_Sl "TensorForge$Run" 107 1 zy_unitOf_12_10 := ⟨zyw_unitOf_12_10, mm_tb_1 719 (by decide +kernel) rfl, mm_tb_1 520 (by decide +kernel) rfl⟩
theorem zg_10_3_68 : zq_at zy_prepare_10_3.2.1 68 3 ∧ zq_at zy_prepare_10_3.2.1 69 62 ∧ zq_at zy_prepare_10_3.2.1 70 29 ∧ zq_at zy_prepare_10_3.2.1 71 6 ∧ zq_at zy_prepare_10_3.2.1 72 162 ∧ zq_at zy_prepare_10_3.2.1 73 0 ∧ zq_at zy_prepare_10_3.2.1 74 21 ∧ zq_at zy_prepare_10_3.2.1 75 42 ∧ zq_at zy_prepare_10_3.2.1 76 180 ∧ zq_at zy_prepare_10_3.2.1 77 0 ∧ zq_at zy_prepare_10_3.2.1 78 29 ∧ zq_at zy_prepare_10_3.2.1 79 29 ∧ zq_at zy_prepare_10_3.2.1 80 42 ∧ zq_at zy_prepare_10_3.2.1 81 29 ∧ zq_at zy_prepare_10_3.2.1 82 3 ∧ zq_at zy_prepare_10_3.2.1 83 182 ∧ zq_at zy_prepare_10_3.2.1 84 0 ∧ zq_at zy_prepare_10_3.2.1 85 98 := by decide +kernel
theorem zd_10_3_68 : zz_D zy_prepare_10_3 68 (.iconst 0) 1 69 := ⟨zq_3 zg_10_3_68.1, rfl⟩
theorem zd_10_3_69 : zz_D zy_prepare_10_3 69 (.istore_n 3) 1 70 := ⟨zq_62 zg_10_3_68.2.1, rfl⟩
theorem zd_10_3_70 : zz_D zy_prepare_10_3 70 (.iload_n 3) 1 71 := ⟨zq_29 zg_10_3_68.2.2.1, rfl⟩
theorem zd_10_3_71 : zz_D zy_prepare_10_3 71 (.iconst 3) 1 72 := ⟨zq_6 zg_10_3_68.2.2.2.1, rfl⟩
theorem zd_10_3_72 : zz_B zy_prepare_10_3 72 (Instr.if_icmp .ge) 93 75 := ⟨21, zq_162 zg_10_3_68.2.2.2.2.1 zg_10_3_68.2.2.2.2.2.1 zg_10_3_68.2.2.2.2.2.2.1 (by decide), rfl, rfl⟩
theorem zd_10_3_75 : zz_D zy_prepare_10_3 75 (.aload_n 0) 1 76 := ⟨zq_42 zg_10_3_68.2.2.2.2.2.2.2.1, rfl⟩
theorem zd_10_3_76 : zz_D zy_prepare_10_3 76 (.getfield 29) 3 79 := ⟨zq_180 zg_10_3_68.2.2.2.2.2.2.2.2.1 zg_10_3_68.2.2.2.2.2.2.2.2.2.1 zg_10_3_68.2.2.2.2.2.2.2.2.2.2.1 rfl, rfl⟩
theorem zd_10_3_79 : zz_D zy_prepare_10_3 79 (.iload_n 3) 1 80 := ⟨zq_29 zg_10_3_68.2.2.2.2.2.2.2.2.2.2.2.1, rfl⟩
theorem zd_10_3_80 : zz_D zy_prepare_10_3 80 (.aload_n 0) 1 81 := ⟨zq_42 zg_10_3_68.2.2.2.2.2.2.2.2.2.2.2.2.1, rfl⟩
theorem zd_10_3_81 : zz_D zy_prepare_10_3 81 (.iload_n 3) 1 82 := ⟨zq_29 zg_10_3_68.2.2.2.2.2.2.2.2.2.2.2.2.2.1, rfl⟩
theorem zd_10_3_82 : zz_D zy_prepare_10_3 82 (.iconst 0) 1 83 := ⟨zq_3 zg_10_3_68.2.2.2.2.2.2.2.2.2.2.2.2.2.2.1, rfl⟩
theorem zd_10_3_83 : zz_D zy_prepare_10_3 83 (.invokevirtual 98) 3 86 := ⟨zq_182 zg_10_3_68.2.2.2.2.2.2.2.2.2.2.2.2.2.2.2.1 zg_10_3_68.2.2.2.2.2.2.2.2.2.2.2.2.2.2.2.2.1 zg_10_3_68.2.2.2.2.2.2.2.2.2.2.2.2.2.2.2.2.2 rfl, rfl⟩
theorem zg_10_6_0 : zq_at zy_nextOf_10_6.2.1 0 28 ∧ zq_at zy_nextOf_10_6.2.1 1 62 ∧ zq_at zy_nextOf_10_6.2.1 2 29 ∧ zq_at zy_nextOf_10_6.2.1 3 42 ∧ zq_at zy_nextOf_10_6.2.1 4 180 ∧ zq_at zy_nextOf_10_6.2.1 5 0 ∧ zq_at zy_nextOf_10_6.2.1 6 46 ∧ zq_at zy_nextOf_10_6.2.1 7 162 ∧ zq_at zy_nextOf_10_6.2.1 8 0 ∧ zq_at zy_nextOf_10_6.2.1 9 24 ∧ zq_at zy_nextOf_10_6.2.1 31 2 ∧ zq_at zy_nextOf_10_6.2.1 32 172 ∧ zq_at zy_nextOf_10_6.2.1 10 42 ∧ zq_at zy_nextOf_10_6.2.1 11 180 ∧ zq_at zy_nextOf_10_6.2.1 12 0 ∧ zq_at zy_nextOf_10_6.2.1 13 19 ∧ zq_at zy_nextOf_10_6.2.1 14 29 ∧ zq_at zy_nextOf_10_6.2.1 15 47 ∧ zq_at zy_nextOf_10_6.2.1 16 184 ∧ zq_at zy_nextOf_10_6.2.1 17 0 ∧ zq_at zy_nextOf_10_6.2.1 18 107 ∧ zq_at zy_nextOf_10_6.2.1 19 27 := by decide +kernel
theorem zd_10_6_0 : zz_D zy_nextOf_10_6 0 (.iload_n 2) 1 1 := ⟨zq_28 zg_10_6_0.1, rfl⟩
theorem zd_10_6_1 : zz_D zy_nextOf_10_6 1 (.istore_n 3) 1 2 := ⟨zq_62 zg_10_6_0.2.1, rfl⟩
theorem zd_10_6_2 : zz_D zy_nextOf_10_6 2 (.iload_n 3) 1 3 := ⟨zq_29 zg_10_6_0.2.2.1, rfl⟩
theorem zd_10_6_3 : zz_D zy_nextOf_10_6 3 (.aload_n 0) 1 4 := ⟨zq_42 zg_10_6_0.2.2.2.1, rfl⟩
theorem zd_10_6_4 : zz_D zy_nextOf_10_6 4 (.getfield 46) 3 7 := ⟨zq_180 zg_10_6_0.2.2.2.2.1 zg_10_6_0.2.2.2.2.2.1 zg_10_6_0.2.2.2.2.2.2.1 rfl, rfl⟩
theorem zd_10_6_7 : zz_B zy_nextOf_10_6 7 (Instr.if_icmp .ge) 31 10 := ⟨24, zq_162 zg_10_6_0.2.2.2.2.2.2.2.1 zg_10_6_0.2.2.2.2.2.2.2.2.1 zg_10_6_0.2.2.2.2.2.2.2.2.2.1 (by decide), rfl, rfl⟩
theorem zd_10_6_31 : zz_D zy_nextOf_10_6 31 (.iconst (-1)) 1 32 := ⟨zq_2 zg_10_6_0.2.2.2.2.2.2.2.2.2.2.1, rfl⟩
theorem zd_10_6_32 : zz_D zy_nextOf_10_6 32 (.ireturn) 1 33 := ⟨zq_172 zg_10_6_0.2.2.2.2.2.2.2.2.2.2.2.1, rfl⟩
theorem zd_10_6_10 : zz_D zy_nextOf_10_6 10 (.aload_n 0) 1 11 := ⟨zq_42 zg_10_6_0.2.2.2.2.2.2.2.2.2.2.2.2.1, rfl⟩
theorem zd_10_6_11 : zz_D zy_nextOf_10_6 11 (.getfield 19) 3 14 := ⟨zq_180 zg_10_6_0.2.2.2.2.2.2.2.2.2.2.2.2.2.1 zg_10_6_0.2.2.2.2.2.2.2.2.2.2.2.2.2.2.1 zg_10_6_0.2.2.2.2.2.2.2.2.2.2.2.2.2.2.2.1 rfl, rfl⟩
theorem zd_10_6_14 : zz_D zy_nextOf_10_6 14 (.iload_n 3) 1 15 := ⟨zq_29 zg_10_6_0.2.2.2.2.2.2.2.2.2.2.2.2.2.2.2.2.1, rfl⟩
theorem zd_10_6_15 : zz_D zy_nextOf_10_6 15 (.laload) 1 16 := ⟨zq_47 zg_10_6_0.2.2.2.2.2.2.2.2.2.2.2.2.2.2.2.2.2.1, rfl⟩
theorem zd_10_6_16 : zz_D zy_nextOf_10_6 16 (.invokestatic 107) 3 19 := ⟨zq_184 zg_10_6_0.2.2.2.2.2.2.2.2.2.2.2.2.2.2.2.2.2.2.1 zg_10_6_0.2.2.2.2.2.2.2.2.2.2.2.2.2.2.2.2.2.2.2.1 zg_10_6_0.2.2.2.2.2.2.2.2.2.2.2.2.2.2.2.2.2.2.2.2.1 rfl, rfl⟩
theorem zd_10_6_19 : zz_D zy_nextOf_10_6 19 (.iload_n 1) 1 20 := ⟨zq_27 zg_10_6_0.2.2.2.2.2.2.2.2.2.2.2.2.2.2.2.2.2.2.2.2.2, rfl⟩
theorem zg_10_6_20 : zq_at zy_nextOf_10_6.2.1 20 160 ∧ zq_at zy_nextOf_10_6.2.1 21 0 ∧ zq_at zy_nextOf_10_6.2.1 22 5 ∧ zq_at zy_nextOf_10_6.2.1 25 132 ∧ zq_at zy_nextOf_10_6.2.1 26 3 ∧ zq_at zy_nextOf_10_6.2.1 27 1 ∧ zq_at zy_nextOf_10_6.2.1 28 167 ∧ zq_at zy_nextOf_10_6.2.1 29 255 ∧ zq_at zy_nextOf_10_6.2.1 30 230 ∧ zq_at zy_nextOf_10_6.2.1 23 29 ∧ zq_at zy_nextOf_10_6.2.1 24 172 := by decide +kernel
theorem zd_10_6_20 : zz_B zy_nextOf_10_6 20 (Instr.if_icmp .ne) 25 23 := ⟨5, zq_160 zg_10_6_20.1 zg_10_6_20.2.1 zg_10_6_20.2.2.1 (by decide), rfl, rfl⟩
theorem zd_10_6_25 : zz_D zy_nextOf_10_6 25 (.iinc 3 1) 3 28 := ⟨zq_132 zg_10_6_20.2.2.2.1 zg_10_6_20.2.2.2.2.1 zg_10_6_20.2.2.2.2.2.1 (by decide), rfl⟩
theorem zd_10_6_28 : zz_B zy_nextOf_10_6 28 Instr.goto 2 31 := ⟨(-26), zq_167 zg_10_6_20.2.2.2.2.2.2.1 zg_10_6_20.2.2.2.2.2.2.2.1 zg_10_6_20.2.2.2.2.2.2.2.2.1 (by decide), rfl, rfl⟩
theorem zd_10_6_23 : zz_D zy_nextOf_10_6 23 (.iload_n 3) 1 24 := ⟨zq_29 zg_10_6_20.2.2.2.2.2.2.2.2.2.1, rfl⟩
theorem zd_10_6_24 : zz_D zy_nextOf_10_6 24 (.ireturn) 1 25 := ⟨zq_172 zg_10_6_20.2.2.2.2.2.2.2.2.2.2, rfl⟩
-- TensorForge$Run nextOf (II)I
abbrev zr_nextOf_10_6 : Room := { frames := 2, cells := 0, slots := 0, locals := 28 }
def zp_nextOf_10_6 (p0 : Int) (p1 : Int) (S0 : zz_S) : Int → zz_S → Prop := fun r S => S0 = S ∧ ((-1) ≤ r ∧ r ≤ 599)
theorem zb_nextOf_10_6_2 {g : mm_G} {l : Launch} (p0 : Int) (p1 : Int) (S0 : zz_S) (n : Nat) (hn : zz_end ≤ n) (G_S0 : zz_G S0) (hp0 : (-2147483648) ≤ p0 ∧ p0 ≤ 2147483647) (hp1 : 0 ≤ p1 ∧ p1 ≤ 600) (x3 : Int) (S : zz_S) (G_S : zz_G S) (F_S : zz_fr [] [] (fun _ _ => False) S0 S) (i2_0 : 0 ≤ x3 ∧ x3 ≤ 600) (R : Nat) (hR : (S0 1042 9 - x3).toNat = R) (k2 : ∀ (x3 : Int) (S : zz_S), zz_G S → zz_fr [] [] (fun _ _ => False) S0 S → (0 ≤ x3 ∧ x3 ≤ 600) → (S0 1042 9 - x3).toNat < R → zz_E g l zy_nextOf_10_6 zr_nextOf_10_6 (zz_QI n (zp_nextOf_10_6 p0 p1 S0)) S n 2 [some (.ref 1042), some (zi p0), none, some (zi x3)] [] 0 0) : zz_E g l zy_nextOf_10_6 zr_nextOf_10_6 (zz_QI n (zp_nextOf_10_6 p0 p1 S0)) S n 2 [some (.ref 1042), some (zi p0), none, some (zi x3)] [] 0 0 := by
  refine zz_iload_n (x := x3) rfl zd_10_6_2 ?_
  refine zz_aload_n (x := 1042) rfl zd_10_6_3 ?_
  have g2 := zz_G.r G_S0 1042 9 0 600 rfl rfl
  refine zz_geti (z := S0 1042 9) zd_10_6_4 zf_Run_46 zT_1042 rfl (zz_ltn hn rfl) (zz_rc F_S rfl rfl (fun h => h) rfl) ?_
  refine zz_icmp_ge (by omega) (by omega) zd_10_6_7 (fun c3 => ?_) (fun c3 => ?_)
  · refine zz_iconst zd_10_6_31 ?_
    exact zz_iret zd_10_6_32 rfl (Nat.zero_le _) (Nat.zero_le _) ⟨_, _, rfl, zz_fr.eq F_S, by omega⟩
  · refine zz_aload_n (x := 1042) rfl zd_10_6_10 ?_
    refine zz_getr (kd := 0) (z := 1044) zd_10_6_11 zf_Run_19 zT_1042 rfl (zz_ltn hn rfl) (zz_G.eq G_S 1042 2 1044 rfl rfl) (by decide) 1044 rfl ?_
    refine zz_iload_n (x := x3) rfl zd_10_6_14 ?_
    have g4 := zz_G.r G_S0 1044 x3.toNat (-9223372036854775808) 9223372036854775807 rfl rfl
    refine zz_lald (z := S0 1044 x3.toNat) zd_10_6_15 zT_1044 rfl (zz_ltn hn rfl) (by decide) (by omega) (zz_rc F_S (zz_nc1 rfl) rfl (fun h => h) rfl) ?_
    refine zz_callSI [zl (S0 1044 x3.toNat)] zd_10_6_16 zk_Run_107 rfl rfl ⟨Nat.le_of_ble_eq_true rfl, Nat.le_of_ble_eq_true rfl⟩ ⟨rfl, rfl⟩ (Nat.zero_le _) (Nat.zero_le _) (zc_unitOf_12_10 (S0 1044 x3.toNat) S n hn G_S (by omega)) (fun v6 S5 hP => ?_)
    obtain ⟨rfl, o7, o8⟩ := hP
    refine zz_iload_n (x := p0) rfl zd_10_6_19 ?_
    refine zz_icmp_ne (by omega) (by omega) zd_10_6_20 (fun c9 => ?_) (fun c9 => ?_)
    · refine zz_iinc [some (.ref 1042), some (zi p0), none, some (zi (x3 + 1))] zd_10_6_25 rfl rfl ?_
      refine zz_goto zd_10_6_28 ?_
      refine zz_less (ls1 := [some (.ref 1042), some (zi p0), none, some (zi (x3 + 1))]) ⟨rfl, ⟨rfl, ⟨rfl, trivial⟩⟩⟩ ?_
      exact k2 (x3 + 1) S G_S F_S (by omega) (by omega)
    · refine zz_iload_n (x := x3) rfl zd_10_6_23 ?_
      exact zz_iret zd_10_6_24 rfl (Nat.zero_le _) (Nat.zero_le _) ⟨_, _, rfl, zz_fr.eq F_S, by omega⟩
theorem zi_nextOf_10_6 {g : mm_G} {l : Launch} (p0 : Int) (p1 : Int) (S0 : zz_S) (n : Nat) (hn : zz_end ≤ n) (G_S0 : zz_G S0) (hp0 : (-2147483648) ≤ p0 ∧ p0 ≤ 2147483647) (hp1 : 0 ≤ p1 ∧ p1 ≤ 600) : ∀ N : Nat, (∀ (x3 : Int) (S : zz_S), zz_G S → zz_fr [] [] (fun _ _ => False) S0 S → (0 ≤ x3 ∧ x3 ≤ 600) → (S0 1042 9 - x3).toNat < N → zz_E g l zy_nextOf_10_6 zr_nextOf_10_6 (zz_QI n (zp_nextOf_10_6 p0 p1 S0)) S n 2 [some (.ref 1042), some (zi p0), none, some (zi x3)] [] 0 0) := by
  intro N
  induction N with
  | zero => exact fun x3 S _ _ _ h => absurd h (Nat.not_lt_zero _)
  | succ N ih =>
    exact fun x3 S a b j0 hR => zb_nextOf_10_6_2 p0 p1 S0 n hn G_S0 hp0 hp1 x3 S a b j0 _ rfl (fun x3 S a b j0 h => ih x3 S a b j0 (Nat.lt_of_lt_of_le h (Nat.le_of_lt_succ hR)))
theorem zc_nextOf_10_6 {g : mm_G} {l : Launch} (p0 : Int) (p1 : Int) (S0 : zz_S) (n : Nat) (hn : zz_end ≤ n) (G_S0 : zz_G S0) (hp0 : (-2147483648) ≤ p0 ∧ p0 ≤ 2147483647) (hp1 : 0 ≤ p1 ∧ p1 ≤ 600) : mm_Met g l zy_nextOf_10_6 zr_nextOf_10_6 [.ref 1042, zi p0, zi p1] (zz_M S0 n) n (zz_QI n (zp_nextOf_10_6 p0 p1 S0)) := by
  refine zz_enter (by decide) (Nat.le_of_ble_eq_true rfl) (zz_less (ls1 := [some (.ref 1042), some (zi p0), some (zi p1)]) ⟨rfl, ⟨rfl, ⟨rfl, trivial⟩⟩⟩ ?_)
  have F_S0 : zz_fr [] [] (fun _ _ => False) S0 S0 := zz_fr.refl
  have k2 : ∀ (x3 : Int) (S : zz_S), zz_G S → zz_fr [] [] (fun _ _ => False) S0 S → (0 ≤ x3 ∧ x3 ≤ 600) → zz_E g l zy_nextOf_10_6 zr_nextOf_10_6 (zz_QI n (zp_nextOf_10_6 p0 p1 S0)) S n 2 [some (.ref 1042), some (zi p0), none, some (zi x3)] [] 0 0 := fun x3 S a b j0 => (zi_nextOf_10_6 (g := g) (l := l) p0 p1 S0 n hn G_S0 hp0 hp1 _) x3 S a b j0 (Nat.lt_succ_self _)
  refine zz_iload_n (x := p1) rfl zd_10_6_0 ?_
  refine zz_istore_n [some (.ref 1042), some (zi p0), some (zi p1), some (zi p1)] zd_10_6_1 (by decide) rfl ?_
  have g1 := zz_G.r G_S0 1042 9 0 600 rfl rfl
  refine zz_less (ls1 := [some (.ref 1042), some (zi p0), none, some (zi p1)]) ⟨rfl, ⟨rfl, ⟨rfl, trivial⟩⟩⟩ ?_
  exact k2 p1 S0 G_S0 F_S0 (by omega)
theorem zk_Run_98 : mm_Vl "TensorForge$Run" 98 5 2 zy_nextOf_10_6 := ⟨zyw_nextOf_10_6, (R_Run, F_Run, 10), rfl, mm_tb_1 715 (by decide +kernel) rfl, mm_tb_1 717 (by decide +kernel) rfl, mm_tb_s 15 (by decide +kernel) rfl⟩
theorem zg_10_3_86 : zq_at zy_prepare_10_3.2.1 86 79 ∧ zq_at zy_prepare_10_3.2.1 87 132 ∧ zq_at zy_prepare_10_3.2.1 88 3 ∧ zq_at zy_prepare_10_3.2.1 89 1 ∧ zq_at zy_prepare_10_3.2.1 90 167 ∧ zq_at zy_prepare_10_3.2.1 91 255 ∧ zq_at zy_prepare_10_3.2.1 92 236 ∧ zq_at zy_prepare_10_3.2.1 93 177 := by decide +kernel
theorem zd_10_3_86 : zz_D zy_prepare_10_3 86 (.iastore) 1 87 := ⟨zq_79 zg_10_3_86.1, rfl⟩
theorem zd_10_3_87 : zz_D zy_prepare_10_3 87 (.iinc 3 1) 3 90 := ⟨zq_132 zg_10_3_86.2.1 zg_10_3_86.2.2.1 zg_10_3_86.2.2.2.1 (by decide), rfl⟩
theorem zd_10_3_90 : zz_B zy_prepare_10_3 90 Instr.goto 70 93 := ⟨(-20), zq_167 zg_10_3_86.2.2.2.2.1 zg_10_3_86.2.2.2.2.2.1 zg_10_3_86.2.2.2.2.2.2.1 (by decide), rfl, rfl⟩
theorem zd_10_3_93 : zz_D zy_prepare_10_3 93 (.return_) 1 94 := ⟨zq_177 zg_10_3_86.2.2.2.2.2.2.2, rfl⟩
-- TensorForge$Run prepare ([JI)V
abbrev zr_prepare_10_3 : Room := { frames := 3, cells := 0, slots := 0, locals := 56 }
def zp_prepare_10_3 (p0 : Int) (p1 : Int) (S0 : zz_S) : zz_S → Prop := fun S => zz_G S ∧ zz_fr [(1042, 9)] [1043, 1044, 1045, 1046, 1047, 1048] (fun _ _ => False) S0 S
theorem zb_prepare_10_3_70 {g : mm_G} {l : Launch} (p0 : Int) (p1 : Int) (S0 : zz_S) (n : Nat) (hn : zz_end ≤ n) (G_S0 : zz_G S0) (hp0 : 0 ≤ p0 ∧ p0 ≤ 1) (hp1 : (-2147483648) ≤ p1 ∧ p1 ≤ 2147483647) (x3 : Int) (S : zz_S) (G_S : zz_G S) (F_S : zz_fr [(1042, 9)] [1043, 1044, 1045, 1046, 1047, 1048] (fun _ _ => False) S0 S) (i70_0 : 0 ≤ x3 ∧ x3 ≤ 3) (R : Nat) (hR : (3 - x3).toNat = R) (k70 : ∀ (x3 : Int) (S : zz_S), zz_G S → zz_fr [(1042, 9)] [1043, 1044, 1045, 1046, 1047, 1048] (fun _ _ => False) S0 S → (0 ≤ x3 ∧ x3 ≤ 3) → (3 - x3).toNat < R → zz_E g l zy_prepare_10_3 zr_prepare_10_3 (zz_QV n (zp_prepare_10_3 p0 p1 S0)) S n 70 [some (.ref 1042), none, none, some (zi x3)] [] 0 0) : zz_E g l zy_prepare_10_3 zr_prepare_10_3 (zz_QV n (zp_prepare_10_3 p0 p1 S0)) S n 70 [some (.ref 1042), none, none, some (zi x3)] [] 0 0 := by
  have b_p0 := zz_rf4 (z := p0) (by omega)
  refine zz_iload_n (x := x3) rfl zd_10_3_70 ?_
  refine zz_iconst zd_10_3_71 ?_
  refine zz_icmp_ge (by omega) (by omega) zd_10_3_72 (fun c14 => ?_) (fun c14 => ?_)
  · exact zz_vret zd_10_3_93 rfl (Nat.zero_le _) (Nat.zero_le _) ⟨_, rfl, G_S, F_S⟩
  · refine zz_aload_n (x := 1042) rfl zd_10_3_75 ?_
    refine zz_getr (kd := 0) (z := 1047) zd_10_3_76 zf_Run_29 zT_1042 rfl (zz_ltn hn rfl) (zz_G.eq G_S 1042 5 1047 rfl rfl) (by decide) 1047 rfl ?_
    refine zz_iload_n (x := x3) rfl zd_10_3_79 ?_
    refine zz_aload_n (x := 1042) rfl zd_10_3_80 ?_
    refine zz_iload_n (x := x3) rfl zd_10_3_81 ?_
    refine zz_iconst zd_10_3_82 ?_
    refine zz_callVI [zi x3, zi 0] zd_10_3_83 zk_Run_98 zT_1042 (zz_ltn hn rfl) rfl rfl ⟨Nat.le_of_ble_eq_true rfl, Nat.le_of_ble_eq_true rfl⟩ ⟨rfl, rfl⟩ (Nat.zero_le _) (Nat.zero_le _) (zc_nextOf_10_6 x3 0 S n hn G_S (by omega) (by omega)) (fun v16 S15 hP => ?_)
    obtain ⟨rfl, o17⟩ := hP
    refine zz_iast zd_10_3_86 zT_1047 rfl (zz_ltn hn rfl) (by decide) (by omega) (fun S18 qS18 => ?_)
    have G_S18 := zz_G.put G_S qS18 (-1) 600 rfl (by omega)
    have F_S18 := zz_fr.putc F_S qS18 rfl
    refine zz_iinc [some (.ref 1042), none, none, some (zi (x3 + 1))] zd_10_3_87 rfl rfl ?_
    refine zz_goto zd_10_3_90 ?_
    refine zz_less (ls1 := [some (.ref 1042), none, none, some (zi (x3 + 1))]) ⟨rfl, ⟨rfl, trivial⟩⟩ ?_
    exact k70 (x3 + 1) S18 G_S18 F_S18 (by omega) (by omega)
theorem zi_prepare_10_3 {g : mm_G} {l : Launch} (p0 : Int) (p1 : Int) (S0 : zz_S) (n : Nat) (hn : zz_end ≤ n) (G_S0 : zz_G S0) (hp0 : 0 ≤ p0 ∧ p0 ≤ 1) (hp1 : (-2147483648) ≤ p1 ∧ p1 ≤ 2147483647) : ∀ N : Nat, (∀ (x3 : Int) (S : zz_S), zz_G S → zz_fr [(1042, 9)] [1043, 1044, 1045, 1046, 1047, 1048] (fun _ _ => False) S0 S → (0 ≤ x3 ∧ x3 ≤ 3) → (3 - x3).toNat < N → zz_E g l zy_prepare_10_3 zr_prepare_10_3 (zz_QV n (zp_prepare_10_3 p0 p1 S0)) S n 70 [some (.ref 1042), none, none, some (zi x3)] [] 0 0) := by
  intro N
  induction N with
  | zero => exact fun x3 S _ _ _ h => absurd h (Nat.not_lt_zero _)
  | succ N ih =>
    exact fun x3 S a b j0 hR => zb_prepare_10_3_70 p0 p1 S0 n hn G_S0 hp0 hp1 x3 S a b j0 _ rfl (fun x3 S a b j0 h => ih x3 S a b j0 (Nat.lt_of_lt_of_le h (Nat.le_of_lt_succ hR)))
theorem zc_prepare_10_3 {g : mm_G} {l : Launch} (p0 : Int) (p1 : Int) (S0 : zz_S) (n : Nat) (hn : zz_end ≤ n) (G_S0 : zz_G S0) (hp0 : 0 ≤ p0 ∧ p0 ≤ 1) (hp1 : (-2147483648) ≤ p1 ∧ p1 ≤ 2147483647) : mm_Met g l zy_prepare_10_3 zr_prepare_10_3 [.ref 1042, .ref (zz_rf 4 p0), zi p1] (zz_M S0 n) n (zz_QV n (zp_prepare_10_3 p0 p1 S0)) := by
  refine zz_enter (by decide) (Nat.le_of_ble_eq_true rfl) (zz_less (ls1 := [some (.ref 1042), some (.ref (zz_rf 4 p0)), some (zi p1)]) ⟨rfl, ⟨rfl, ⟨rfl, trivial⟩⟩⟩ ?_)
  have F_S0 : zz_fr [(1042, 9)] [1043, 1044, 1045, 1046, 1047, 1048] (fun _ _ => False) S0 S0 := zz_fr.refl
  have k70 : ∀ (x3 : Int) (S : zz_S), zz_G S → zz_fr [(1042, 9)] [1043, 1044, 1045, 1046, 1047, 1048] (fun _ _ => False) S0 S → (0 ≤ x3 ∧ x3 ≤ 3) → zz_E g l zy_prepare_10_3 zr_prepare_10_3 (zz_QV n (zp_prepare_10_3 p0 p1 S0)) S n 70 [some (.ref 1042), none, none, some (zi x3)] [] 0 0 := fun x3 S a b j0 => (zi_prepare_10_3 (g := g) (l := l) p0 p1 S0 n hn G_S0 hp0 hp1 _) x3 S a b j0 (Nat.lt_succ_self _)
  have b_p0 := zz_rf4 (z := p0) (by omega)
  refine zz_aload_n (x := 1042) rfl zd_10_3_0 ?_
  refine zz_iconst zd_10_3_1 ?_
  refine zz_iload_n (x := p1) rfl zd_10_3_2 ?_
  refine zz_aload_n (x := zz_rf 4 p0) rfl zd_10_3_3 ?_
  refine zz_alen zd_10_3_4 (zT_k4 (by omega)) rfl (zN_k4 hn (by omega)) ?_
  refine zz_aload_n (x := 1042) rfl zd_10_3_5 ?_
  refine zz_getr (kd := 0) (z := 1044) zd_10_3_6 zf_Run_19 zT_1042 rfl (zz_ltn hn rfl) (zz_G.eq G_S0 1042 2 1044 rfl rfl) (by decide) 1044 rfl ?_
  refine zz_alen zd_10_3_9 zT_1044 rfl (zz_ltn hn rfl) ?_
  refine zz_mmin (by omega) (by omega) zd_10_3_10 zm_Run_77 ⟨Nat.le_of_ble_eq_true rfl, Nat.le_of_ble_eq_true rfl⟩ (Nat.zero_le _) (Nat.zero_le _) (fun v1 hv1 => ?_)
  refine zz_mmin (by omega) (by omega) zd_10_3_13 zm_Run_77 ⟨Nat.le_of_ble_eq_true rfl, Nat.le_of_ble_eq_true rfl⟩ (Nat.zero_le _) (Nat.zero_le _) (fun v2 hv2 => ?_)
  refine zz_mmax (by omega) (by omega) zd_10_3_16 zm_Run_83 ⟨Nat.le_of_ble_eq_true rfl, Nat.le_of_ble_eq_true rfl⟩ (Nat.zero_le _) (Nat.zero_le _) (fun v3 hv3 => ?_)
  refine zz_puti zd_10_3_19 zf_Run_46 zT_1042 rfl (zz_ltn hn rfl) (fun S4 qS4 => ?_)
  have G_S4 := zz_G.put G_S0 qS4 0 600 rfl (by omega)
  have F_S4 := zz_fr.puts F_S0 qS4 rfl
  refine zz_aload_n (x := zz_rf 4 p0) rfl zd_10_3_22 ?_
  refine zz_iconst zd_10_3_23 ?_
  refine zz_aload_n (x := 1042) rfl zd_10_3_24 ?_
  refine zz_getr (kd := 0) (z := 1044) zd_10_3_25 zf_Run_19 zT_1042 rfl (zz_ltn hn rfl) (zz_G.eq G_S4 1042 2 1044 rfl rfl) (by decide) 1044 rfl ?_
  refine zz_iconst zd_10_3_28 ?_
  refine zz_aload_n (x := 1042) rfl zd_10_3_29 ?_
  refine zz_geti (z := v3) zd_10_3_30 zf_Run_46 zT_1042 rfl (zz_ltn hn rfl) (zz_rs qS4) ?_
  refine zz_copyl zd_10_3_33 zac_Run_86 (zT_k4 (by omega)) zT_1044 rfl rfl (zN_k4 hn (by omega)) (zz_ltn hn rfl) (fun _ => rfl) (by omega) (by decide) ⟨Nat.le_of_ble_eq_true rfl, Nat.le_of_ble_eq_true rfl⟩ G_S4 (fun S5 G_S5 fS5 => ?_)
  have F_S5 := zz_fr.trans F_S4 fS5 rfl zz_nv
  refine zz_aload_n (x := 1042) rfl zd_10_3_36 ?_
  refine zz_getr (kd := 0) (z := 1043) zd_10_3_37 zf_Run_15 zT_1042 rfl (zz_ltn hn rfl) (zz_G.eq G_S5 1042 1 1043 rfl rfl) (by decide) 1043 rfl ?_
  refine zz_iconst zd_10_3_40 ?_
  refine zz_callSV [.ref 1043, zi 0] zd_10_3_41 zk_Run_92 rfl rfl ⟨Nat.le_of_ble_eq_true rfl, Nat.le_of_ble_eq_true rfl⟩ ⟨rfl, rfl⟩ (Nat.zero_le _) (Nat.zero_le _) (zc_fill_27_103_1043 0 S5 n hn G_S5 (by omega)) (fun S6 hP => ?_)
  obtain ⟨G_S6, fS6⟩ := hP
  have F_S6 := zz_fr.trans F_S5 fS6 rfl zz_nv
  refine zz_aload_n (x := 1042) rfl zd_10_3_44 ?_
  refine zz_getr (kd := 0) (z := 1045) zd_10_3_45 zf_Run_23 zT_1042 rfl (zz_ltn hn rfl) (zz_G.eq G_S6 1042 3 1045 rfl rfl) (by decide) 1045 rfl ?_
  refine zz_iconst zd_10_3_48 ?_
  refine zz_callSV [.ref 1045, zi (-1)] zd_10_3_49 zk_Run_92 rfl rfl ⟨Nat.le_of_ble_eq_true rfl, Nat.le_of_ble_eq_true rfl⟩ ⟨rfl, rfl⟩ (Nat.zero_le _) (Nat.zero_le _) (zc_fill_27_103_1045 (-1) S6 n hn G_S6 (by omega)) (fun S8 hP => ?_)
  obtain ⟨G_S8, fS8⟩ := hP
  have F_S8 := zz_fr.trans F_S6 fS8 rfl zz_nv
  refine zz_aload_n (x := 1042) rfl zd_10_3_52 ?_
  refine zz_getr (kd := 0) (z := 1046) zd_10_3_53 zf_Run_26 zT_1042 rfl (zz_ltn hn rfl) (zz_G.eq G_S8 1042 4 1046 rfl rfl) (by decide) 1046 rfl ?_
  refine zz_iconst zd_10_3_56 ?_
  refine zz_callSV [.ref 1046, zi (-1)] zd_10_3_57 zk_Run_92 rfl rfl ⟨Nat.le_of_ble_eq_true rfl, Nat.le_of_ble_eq_true rfl⟩ ⟨rfl, rfl⟩ (Nat.zero_le _) (Nat.zero_le _) (zc_fill_27_103_1046 (-1) S8 n hn G_S8 (by omega)) (fun S10 hP => ?_)
  obtain ⟨G_S10, fS10⟩ := hP
  have F_S10 := zz_fr.trans F_S8 fS10 rfl zz_nv
  refine zz_aload_n (x := 1042) rfl zd_10_3_60 ?_
  refine zz_getr (kd := 0) (z := 1048) zd_10_3_61 zf_Run_32 zT_1042 rfl (zz_ltn hn rfl) (zz_G.eq G_S10 1042 6 1048 rfl rfl) (by decide) 1048 rfl ?_
  refine zz_iconst zd_10_3_64 ?_
  refine zz_callSV [.ref 1048, zi (-1)] zd_10_3_65 zk_Run_92 rfl rfl ⟨Nat.le_of_ble_eq_true rfl, Nat.le_of_ble_eq_true rfl⟩ ⟨rfl, rfl⟩ (Nat.zero_le _) (Nat.zero_le _) (zc_fill_27_103_1048 (-1) S10 n hn G_S10 (by omega)) (fun S12 hP => ?_)
  obtain ⟨G_S12, fS12⟩ := hP
  have F_S12 := zz_fr.trans F_S10 fS12 rfl zz_nv
  refine zz_iconst zd_10_3_68 ?_
  refine zz_istore_n [some (.ref 1042), some (.ref (zz_rf 4 p0)), some (zi p1), some (zi 0)] zd_10_3_69 (by decide) rfl ?_
  refine zz_less (ls1 := [some (.ref 1042), none, none, some (zi 0)]) ⟨rfl, ⟨rfl, trivial⟩⟩ ?_
  exact k70 0 S12 G_S12 F_S12 (by omega)
theorem zk_Run_50 : mm_Vl "TensorForge$Run" 50 5 2 zy_prepare_10_3 := ⟨zyw_prepare_10_3, (R_Run, F_Run, 10), rfl, mm_tb_1 701 (by decide +kernel) rfl, mm_tb_1 703 (by decide +kernel) rfl, mm_tb_s 14 (by decide +kernel) rfl⟩
abbrev zy_firstForbidden_10_4 : mm_Y := (⟨"TensorForge$Run", "firstForbidden", "()I"⟩, prog_10_method_4_code, 2, (some .int))
theorem zyw_firstForbidden_10_4 : mm_Yw zy_firstForbidden_10_4 0 := ⟨mm_tb_1 723 (by decide +kernel) rfl, mm_tb_1 6 (by decide +kernel) rfl, ⟨by decide, by decide⟩, by decide +kernel⟩
theorem zk_Run_101 : mm_Vl "TensorForge$Run" 101 3 1 zy_forbids_6_6 := ⟨zyw_forbids_6_6, (R_Machine, F_Machine, 14), rfl, mm_tb_1 724 (by decide +kernel) rfl, mm_tb_1 486 (by decide +kernel) rfl, mm_tb_1 487 (by decide +kernel) rfl⟩
theorem zg_10_2_6 : zq_at zy_follow_10_2.2.1 6 42 ∧ zq_at zy_follow_10_2.2.1 7 182 ∧ zq_at zy_follow_10_2.2.1 8 0 ∧ zq_at zy_follow_10_2.2.1 9 54 := by decide +kernel
theorem zd_10_2_6 : zz_D zy_follow_10_2 6 (.aload_n 0) 1 7 := ⟨zq_42 zg_10_2_6.1, rfl⟩
theorem zd_10_2_7 : zz_D zy_follow_10_2 7 (.invokevirtual 54) 3 10 := ⟨zq_182 zg_10_2_6.2.1 zg_10_2_6.2.2.1 zg_10_2_6.2.2.2 rfl, rfl⟩
theorem zg_10_4_0 : zq_at zy_firstForbidden_10_4.2.1 0 3 ∧ zq_at zy_firstForbidden_10_4.2.1 1 60 ∧ zq_at zy_firstForbidden_10_4.2.1 2 27 ∧ zq_at zy_firstForbidden_10_4.2.1 3 42 ∧ zq_at zy_firstForbidden_10_4.2.1 4 180 ∧ zq_at zy_firstForbidden_10_4.2.1 5 0 ∧ zq_at zy_firstForbidden_10_4.2.1 6 46 ∧ zq_at zy_firstForbidden_10_4.2.1 7 162 ∧ zq_at zy_firstForbidden_10_4.2.1 8 0 ∧ zq_at zy_firstForbidden_10_4.2.1 9 27 ∧ zq_at zy_firstForbidden_10_4.2.1 34 2 ∧ zq_at zy_firstForbidden_10_4.2.1 35 172 ∧ zq_at zy_firstForbidden_10_4.2.1 10 42 ∧ zq_at zy_firstForbidden_10_4.2.1 11 180 ∧ zq_at zy_firstForbidden_10_4.2.1 12 0 ∧ zq_at zy_firstForbidden_10_4.2.1 13 9 ∧ zq_at zy_firstForbidden_10_4.2.1 14 42 ∧ zq_at zy_firstForbidden_10_4.2.1 15 180 ∧ zq_at zy_firstForbidden_10_4.2.1 16 0 ∧ zq_at zy_firstForbidden_10_4.2.1 17 19 ∧ zq_at zy_firstForbidden_10_4.2.1 18 27 ∧ zq_at zy_firstForbidden_10_4.2.1 19 47 := by decide +kernel
theorem zd_10_4_0 : zz_D zy_firstForbidden_10_4 0 (.iconst 0) 1 1 := ⟨zq_3 zg_10_4_0.1, rfl⟩
theorem zd_10_4_1 : zz_D zy_firstForbidden_10_4 1 (.istore_n 1) 1 2 := ⟨zq_60 zg_10_4_0.2.1, rfl⟩
theorem zd_10_4_2 : zz_D zy_firstForbidden_10_4 2 (.iload_n 1) 1 3 := ⟨zq_27 zg_10_4_0.2.2.1, rfl⟩
theorem zd_10_4_3 : zz_D zy_firstForbidden_10_4 3 (.aload_n 0) 1 4 := ⟨zq_42 zg_10_4_0.2.2.2.1, rfl⟩
theorem zd_10_4_4 : zz_D zy_firstForbidden_10_4 4 (.getfield 46) 3 7 := ⟨zq_180 zg_10_4_0.2.2.2.2.1 zg_10_4_0.2.2.2.2.2.1 zg_10_4_0.2.2.2.2.2.2.1 rfl, rfl⟩
theorem zd_10_4_7 : zz_B zy_firstForbidden_10_4 7 (Instr.if_icmp .ge) 34 10 := ⟨27, zq_162 zg_10_4_0.2.2.2.2.2.2.2.1 zg_10_4_0.2.2.2.2.2.2.2.2.1 zg_10_4_0.2.2.2.2.2.2.2.2.2.1 (by decide), rfl, rfl⟩
theorem zd_10_4_34 : zz_D zy_firstForbidden_10_4 34 (.iconst (-1)) 1 35 := ⟨zq_2 zg_10_4_0.2.2.2.2.2.2.2.2.2.2.1, rfl⟩
theorem zd_10_4_35 : zz_D zy_firstForbidden_10_4 35 (.ireturn) 1 36 := ⟨zq_172 zg_10_4_0.2.2.2.2.2.2.2.2.2.2.2.1, rfl⟩
theorem zd_10_4_10 : zz_D zy_firstForbidden_10_4 10 (.aload_n 0) 1 11 := ⟨zq_42 zg_10_4_0.2.2.2.2.2.2.2.2.2.2.2.2.1, rfl⟩
theorem zd_10_4_11 : zz_D zy_firstForbidden_10_4 11 (.getfield 9) 3 14 := ⟨zq_180 zg_10_4_0.2.2.2.2.2.2.2.2.2.2.2.2.2.1 zg_10_4_0.2.2.2.2.2.2.2.2.2.2.2.2.2.2.1 zg_10_4_0.2.2.2.2.2.2.2.2.2.2.2.2.2.2.2.1 rfl, rfl⟩
theorem zd_10_4_14 : zz_D zy_firstForbidden_10_4 14 (.aload_n 0) 1 15 := ⟨zq_42 zg_10_4_0.2.2.2.2.2.2.2.2.2.2.2.2.2.2.2.2.1, rfl⟩
theorem zd_10_4_15 : zz_D zy_firstForbidden_10_4 15 (.getfield 19) 3 18 := ⟨zq_180 zg_10_4_0.2.2.2.2.2.2.2.2.2.2.2.2.2.2.2.2.2.1 zg_10_4_0.2.2.2.2.2.2.2.2.2.2.2.2.2.2.2.2.2.2.1 zg_10_4_0.2.2.2.2.2.2.2.2.2.2.2.2.2.2.2.2.2.2.2.1 rfl, rfl⟩
theorem zd_10_4_18 : zz_D zy_firstForbidden_10_4 18 (.iload_n 1) 1 19 := ⟨zq_27 zg_10_4_0.2.2.2.2.2.2.2.2.2.2.2.2.2.2.2.2.2.2.2.2.1, rfl⟩
theorem zd_10_4_19 : zz_D zy_firstForbidden_10_4 19 (.laload) 1 20 := ⟨zq_47 zg_10_4_0.2.2.2.2.2.2.2.2.2.2.2.2.2.2.2.2.2.2.2.2.2, rfl⟩
theorem zg_10_4_20 : zq_at zy_firstForbidden_10_4.2.1 20 182 ∧ zq_at zy_firstForbidden_10_4.2.1 21 0 ∧ zq_at zy_firstForbidden_10_4.2.1 22 101 ∧ zq_at zy_firstForbidden_10_4.2.1 23 153 ∧ zq_at zy_firstForbidden_10_4.2.1 24 0 ∧ zq_at zy_firstForbidden_10_4.2.1 25 5 ∧ zq_at zy_firstForbidden_10_4.2.1 28 132 ∧ zq_at zy_firstForbidden_10_4.2.1 29 1 ∧ zq_at zy_firstForbidden_10_4.2.1 30 1 ∧ zq_at zy_firstForbidden_10_4.2.1 31 167 ∧ zq_at zy_firstForbidden_10_4.2.1 32 255 ∧ zq_at zy_firstForbidden_10_4.2.1 33 227 ∧ zq_at zy_firstForbidden_10_4.2.1 26 27 ∧ zq_at zy_firstForbidden_10_4.2.1 27 172 := by decide +kernel
theorem zd_10_4_20 : zz_D zy_firstForbidden_10_4 20 (.invokevirtual 101) 3 23 := ⟨zq_182 zg_10_4_20.1 zg_10_4_20.2.1 zg_10_4_20.2.2.1 rfl, rfl⟩
theorem zd_10_4_23 : zz_B zy_firstForbidden_10_4 23 (Instr.ifCond .eq) 28 26 := ⟨5, zq_153 zg_10_4_20.2.2.2.1 zg_10_4_20.2.2.2.2.1 zg_10_4_20.2.2.2.2.2.1 (by decide), rfl, rfl⟩
theorem zd_10_4_28 : zz_D zy_firstForbidden_10_4 28 (.iinc 1 1) 3 31 := ⟨zq_132 zg_10_4_20.2.2.2.2.2.2.1 zg_10_4_20.2.2.2.2.2.2.2.1 zg_10_4_20.2.2.2.2.2.2.2.2.1 (by decide), rfl⟩
theorem zd_10_4_31 : zz_B zy_firstForbidden_10_4 31 Instr.goto 2 34 := ⟨(-29), zq_167 zg_10_4_20.2.2.2.2.2.2.2.2.2.1 zg_10_4_20.2.2.2.2.2.2.2.2.2.2.1 zg_10_4_20.2.2.2.2.2.2.2.2.2.2.2.1 (by decide), rfl, rfl⟩
theorem zd_10_4_26 : zz_D zy_firstForbidden_10_4 26 (.iload_n 1) 1 27 := ⟨zq_27 zg_10_4_20.2.2.2.2.2.2.2.2.2.2.2.2.1, rfl⟩
theorem zd_10_4_27 : zz_D zy_firstForbidden_10_4 27 (.ireturn) 1 28 := ⟨zq_172 zg_10_4_20.2.2.2.2.2.2.2.2.2.2.2.2.2, rfl⟩
-- TensorForge$Run firstForbidden ()I
abbrev zr_firstForbidden_10_4 : Room := { frames := 5, cells := 0, slots := 0, locals := 90 }
def zp_firstForbidden_10_4  (S0 : zz_S) : Int → zz_S → Prop := fun r S => zz_G S ∧ zz_fr [(1038, 0), (1038, 1), (1038, 2), (1038, 3), (1038, 4), (1039, 0), (1039, 1), (1039, 2), (1039, 3), (1039, 4), (1040, 0), (1040, 1), (1040, 2), (1040, 3), (1040, 4), (1041, 0), (1041, 1), (1041, 2), (1041, 3), (1041, 4)] [] (fun _ _ => False) S0 S ∧ ((-1) ≤ r ∧ r ≤ 599) ∧ (r = -1 → ∀ u : Nat, (u : Int) < S0 1042 9 → zz_lcl (S0 1044 u) (S0 1031 6))
theorem zb_firstForbidden_10_4_2 {g : mm_G} {l : Launch}  (S0 : zz_S) (n : Nat) (hn : zz_end ≤ n) (G_S0 : zz_G S0)  (x1 : Int) (S : zz_S) (G_S : zz_G S) (F_S : zz_fr [(1038, 0), (1038, 1), (1038, 2), (1038, 3), (1038, 4), (1039, 0), (1039, 1), (1039, 2), (1039, 3), (1039, 4), (1040, 0), (1040, 1), (1040, 2), (1040, 3), (1040, 4), (1041, 0), (1041, 1), (1041, 2), (1041, 3), (1041, 4)] [] (fun _ _ => False) S0 S) (i2_0 : 0 ≤ x1 ∧ x1 ≤ 600) (i2_1 : ∀ u : Nat, (u : Int) < x1 → zz_lcl (S0 1044 u) (S0 1031 6)) (R : Nat) (hR : (S0 1042 9 - x1).toNat = R) (k2 : ∀ (x1 : Int) (S : zz_S), zz_G S → zz_fr [(1038, 0), (1038, 1), (1038, 2), (1038, 3), (1038, 4), (1039, 0), (1039, 1), (1039, 2), (1039, 3), (1039, 4), (1040, 0), (1040, 1), (1040, 2), (1040, 3), (1040, 4), (1041, 0), (1041, 1), (1041, 2), (1041, 3), (1041, 4)] [] (fun _ _ => False) S0 S → (0 ≤ x1 ∧ x1 ≤ 600) → (∀ u : Nat, (u : Int) < x1 → zz_lcl (S0 1044 u) (S0 1031 6)) → (S0 1042 9 - x1).toNat < R → zz_E g l zy_firstForbidden_10_4 zr_firstForbidden_10_4 (zz_QI n (zp_firstForbidden_10_4  S0)) S n 2 [some (.ref 1042), some (zi x1)] [] 0 0) : zz_E g l zy_firstForbidden_10_4 zr_firstForbidden_10_4 (zz_QI n (zp_firstForbidden_10_4  S0)) S n 2 [some (.ref 1042), some (zi x1)] [] 0 0 := by
  refine zz_iload_n (x := x1) rfl zd_10_4_2 ?_
  refine zz_aload_n (x := 1042) rfl zd_10_4_3 ?_
  have g3 := zz_G.r G_S0 1042 9 0 600 rfl rfl
  refine zz_geti (z := S0 1042 9) zd_10_4_4 zf_Run_46 zT_1042 rfl (zz_ltn hn rfl) (zz_rc F_S rfl rfl (fun h => h) rfl) ?_
  refine zz_icmp_ge (by omega) (by omega) zd_10_4_7 (fun c4 => ?_) (fun c4 => ?_)
  · refine zz_iconst zd_10_4_34 ?_
    exact zz_iret zd_10_4_35 rfl (Nat.zero_le _) (Nat.zero_le _) ⟨_, _, rfl, G_S, F_S, by omega, fun hr u hu => i2_1 u (by omega)⟩
  · refine zz_aload_n (x := 1042) rfl zd_10_4_10 ?_
    refine zz_getr (kd := 0) (z := 1031) zd_10_4_11 zf_Run_9 zT_1042 rfl (zz_ltn hn rfl) (zz_G.eq G_S 1042 0 1031 rfl rfl) (by decide) 1031 rfl ?_
    refine zz_aload_n (x := 1042) rfl zd_10_4_14 ?_
    refine zz_getr (kd := 0) (z := 1044) zd_10_4_15 zf_Run_19 zT_1042 rfl (zz_ltn hn rfl) (zz_G.eq G_S 1042 2 1044 rfl rfl) (by decide) 1044 rfl ?_
    refine zz_iload_n (x := x1) rfl zd_10_4_18 ?_
    have g5 := zz_G.r G_S0 1044 x1.toNat (-9223372036854775808) 9223372036854775807 rfl rfl
    refine zz_lald (z := S0 1044 x1.toNat) zd_10_4_19 zT_1044 rfl (zz_ltn hn rfl) (by decide) (by omega) (zz_rc F_S (zz_nc1 rfl) rfl (fun h => h) rfl) ?_
    have g6 := zz_G.r G_S0 1031 6 2 8 rfl rfl
    have e7 : S 1031 6 = S0 1031 6 := (zz_rc F_S rfl rfl (fun h => h) rfl)
    refine zz_callVI [zl (S0 1044 x1.toNat)] zd_10_4_20 zk_Run_101 zT_1031 (zz_ltn hn rfl) rfl rfl ⟨Nat.le_of_ble_eq_true rfl, Nat.le_of_ble_eq_true rfl⟩ ⟨rfl, rfl⟩ (Nat.zero_le _) (Nat.zero_le _) (zc_forbids_6_6 (S0 1044 x1.toNat) S n hn G_S (by omega)) (fun v9 S8 hP => ?_)
    obtain ⟨G_S8, fS8, o10, o11, o12⟩ := hP
    have F_S8 := zz_fr.trans F_S fS8 rfl zz_nv
    rcases (by omega : v9 = 0 ∨ v9 = 1) with rfl | rfl
    · refine zz_if_eq (by omega) zd_10_4_23 (fun c13 => ?_) (fun c13 => ?_)
      · refine zz_iinc [some (.ref 1042), some (zi (x1 + 1))] zd_10_4_28 rfl rfl ?_
        refine zz_goto zd_10_4_31 ?_
        refine zz_less (ls1 := [some (.ref 1042), some (zi (x1 + 1))]) ⟨rfl, ⟨rfl, trivial⟩⟩ ?_
        exact k2 (x1 + 1) S8 G_S8 F_S8 (by omega) (fun u h1 => (Decidable.em ((u : Int) = x1)).elim (fun hu => by have e9 : u = x1.toNat := (by omega); subst e9; have h9 := o11 rfl; rw [show S 1031 6 = S0 1031 6 by omega] at h9; exact h9) (fun hu => i2_1 u (by omega))) (by omega)
      · exfalso; omega
    · refine zz_if_eq (by omega) zd_10_4_23 (fun c14 => ?_) (fun c14 => ?_)
      · exfalso; omega
      · refine zz_iload_n (x := x1) rfl zd_10_4_26 ?_
        exact zz_iret zd_10_4_27 rfl (Nat.zero_le _) (Nat.zero_le _) ⟨_, _, rfl, G_S8, F_S8, by omega, fun hr u hu => i2_1 u (by omega)⟩
theorem zi_firstForbidden_10_4 {g : mm_G} {l : Launch}  (S0 : zz_S) (n : Nat) (hn : zz_end ≤ n) (G_S0 : zz_G S0)  : ∀ N : Nat, (∀ (x1 : Int) (S : zz_S), zz_G S → zz_fr [(1038, 0), (1038, 1), (1038, 2), (1038, 3), (1038, 4), (1039, 0), (1039, 1), (1039, 2), (1039, 3), (1039, 4), (1040, 0), (1040, 1), (1040, 2), (1040, 3), (1040, 4), (1041, 0), (1041, 1), (1041, 2), (1041, 3), (1041, 4)] [] (fun _ _ => False) S0 S → (0 ≤ x1 ∧ x1 ≤ 600) → (∀ u : Nat, (u : Int) < x1 → zz_lcl (S0 1044 u) (S0 1031 6)) → (S0 1042 9 - x1).toNat < N → zz_E g l zy_firstForbidden_10_4 zr_firstForbidden_10_4 (zz_QI n (zp_firstForbidden_10_4  S0)) S n 2 [some (.ref 1042), some (zi x1)] [] 0 0) := by
  intro N
  induction N with
  | zero => exact fun x1 S _ _ _ _ h => absurd h (Nat.not_lt_zero _)
  | succ N ih =>
    exact fun x1 S a b j0 j1 hR => zb_firstForbidden_10_4_2  S0 n hn G_S0  x1 S a b j0 j1 _ rfl (fun x1 S a b j0 j1 h => ih x1 S a b j0 j1 (Nat.lt_of_lt_of_le h (Nat.le_of_lt_succ hR)))
theorem zc_firstForbidden_10_4 {g : mm_G} {l : Launch}  (S0 : zz_S) (n : Nat) (hn : zz_end ≤ n) (G_S0 : zz_G S0)  : mm_Met g l zy_firstForbidden_10_4 zr_firstForbidden_10_4 [.ref 1042] (zz_M S0 n) n (zz_QI n (zp_firstForbidden_10_4  S0)) := by
  refine zz_enter (by decide) (Nat.le_of_ble_eq_true rfl) (zz_less (ls1 := [some (.ref 1042)]) ⟨rfl, trivial⟩ ?_)
  have F_S0 : zz_fr [(1038, 0), (1038, 1), (1038, 2), (1038, 3), (1038, 4), (1039, 0), (1039, 1), (1039, 2), (1039, 3), (1039, 4), (1040, 0), (1040, 1), (1040, 2), (1040, 3), (1040, 4), (1041, 0), (1041, 1), (1041, 2), (1041, 3), (1041, 4)] [] (fun _ _ => False) S0 S0 := zz_fr.refl
  have k2 : ∀ (x1 : Int) (S : zz_S), zz_G S → zz_fr [(1038, 0), (1038, 1), (1038, 2), (1038, 3), (1038, 4), (1039, 0), (1039, 1), (1039, 2), (1039, 3), (1039, 4), (1040, 0), (1040, 1), (1040, 2), (1040, 3), (1040, 4), (1041, 0), (1041, 1), (1041, 2), (1041, 3), (1041, 4)] [] (fun _ _ => False) S0 S → (0 ≤ x1 ∧ x1 ≤ 600) → (∀ u : Nat, (u : Int) < x1 → zz_lcl (S0 1044 u) (S0 1031 6)) → zz_E g l zy_firstForbidden_10_4 zr_firstForbidden_10_4 (zz_QI n (zp_firstForbidden_10_4  S0)) S n 2 [some (.ref 1042), some (zi x1)] [] 0 0 := fun x1 S a b j0 j1 => (zi_firstForbidden_10_4 (g := g) (l := l)  S0 n hn G_S0  _) x1 S a b j0 j1 (Nat.lt_succ_self _)
  refine zz_iconst zd_10_4_0 ?_
  refine zz_istore_n [some (.ref 1042), some (zi 0)] zd_10_4_1 (by decide) rfl ?_
  have g1 := zz_G.r G_S0 1031 6 2 8 rfl rfl
  have g2 := zz_G.r G_S0 1042 9 0 600 rfl rfl
  refine zz_less (ls1 := [some (.ref 1042), some (zi 0)]) ⟨rfl, ⟨rfl, trivial⟩⟩ ?_
  exact k2 0 S0 G_S0 F_S0 (by omega) (fun u h1 => absurd h1 (by omega))
theorem zk_Run_54 : mm_Vl "TensorForge$Run" 54 5 0 zy_firstForbidden_10_4 := ⟨zyw_firstForbidden_10_4, (R_Run, F_Run, 10), rfl, mm_tb_1 720 (by decide +kernel) rfl, mm_tb_1 722 (by decide +kernel) rfl, mm_tb_s 16 (by decide +kernel) rfl⟩
abbrev zy_tell_10_5 : mm_Y := (⟨"TensorForge$Run", "tell", "(III)V"⟩, prog_10_method_5_code, 4, none)
theorem zyw_tell_10_5 : mm_Yw zy_tell_10_5 3 := ⟨mm_tb_1 728 (by decide +kernel) rfl, mm_tb_1 6 (by decide +kernel) rfl, ⟨by decide, by decide⟩, by decide +kernel⟩
theorem zg_10_2_10 : zq_at zy_follow_10_2.2.1 10 62 ∧ zq_at zy_follow_10_2.2.1 11 29 ∧ zq_at zy_follow_10_2.2.1 12 2 ∧ zq_at zy_follow_10_2.2.1 13 159 ∧ zq_at zy_follow_10_2.2.1 14 0 ∧ zq_at zy_follow_10_2.2.1 15 11 ∧ zq_at zy_follow_10_2.2.1 24 3 ∧ zq_at zy_follow_10_2.2.1 25 54 ∧ zq_at zy_follow_10_2.2.1 26 4 ∧ zq_at zy_follow_10_2.2.1 27 3 ∧ zq_at zy_follow_10_2.2.1 28 54 ∧ zq_at zy_follow_10_2.2.1 29 5 ∧ zq_at zy_follow_10_2.2.1 16 42 ∧ zq_at zy_follow_10_2.2.1 17 5 ∧ zq_at zy_follow_10_2.2.1 18 29 ∧ zq_at zy_follow_10_2.2.1 19 3 ∧ zq_at zy_follow_10_2.2.1 20 182 ∧ zq_at zy_follow_10_2.2.1 21 0 ∧ zq_at zy_follow_10_2.2.1 22 58 := by decide +kernel
theorem zd_10_2_10 : zz_D zy_follow_10_2 10 (.istore_n 3) 1 11 := ⟨zq_62 zg_10_2_10.1, rfl⟩
theorem zd_10_2_11 : zz_D zy_follow_10_2 11 (.iload_n 3) 1 12 := ⟨zq_29 zg_10_2_10.2.1, rfl⟩
theorem zd_10_2_12 : zz_D zy_follow_10_2 12 (.iconst (-1)) 1 13 := ⟨zq_2 zg_10_2_10.2.2.1, rfl⟩
theorem zd_10_2_13 : zz_B zy_follow_10_2 13 (Instr.if_icmp .eq) 24 16 := ⟨11, zq_159 zg_10_2_10.2.2.2.1 zg_10_2_10.2.2.2.2.1 zg_10_2_10.2.2.2.2.2.1 (by decide), rfl, rfl⟩
theorem zd_10_2_24 : zz_D zy_follow_10_2 24 (.iconst 0) 1 25 := ⟨zq_3 zg_10_2_10.2.2.2.2.2.2.1, rfl⟩
theorem zd_10_2_25 : zz_D zy_follow_10_2 25 (.istore 4) 2 27 := ⟨zq_54 zg_10_2_10.2.2.2.2.2.2.2.1 zg_10_2_10.2.2.2.2.2.2.2.2.1, rfl⟩
theorem zd_10_2_27 : zz_D zy_follow_10_2 27 (.iconst 0) 1 28 := ⟨zq_3 zg_10_2_10.2.2.2.2.2.2.2.2.2.1, rfl⟩
theorem zd_10_2_28 : zz_D zy_follow_10_2 28 (.istore 5) 2 30 := ⟨zq_54 zg_10_2_10.2.2.2.2.2.2.2.2.2.2.1 zg_10_2_10.2.2.2.2.2.2.2.2.2.2.2.1, rfl⟩
theorem zd_10_2_16 : zz_D zy_follow_10_2 16 (.aload_n 0) 1 17 := ⟨zq_42 zg_10_2_10.2.2.2.2.2.2.2.2.2.2.2.2.1, rfl⟩
theorem zd_10_2_17 : zz_D zy_follow_10_2 17 (.iconst 2) 1 18 := ⟨zq_5 zg_10_2_10.2.2.2.2.2.2.2.2.2.2.2.2.2.1, rfl⟩
theorem zd_10_2_18 : zz_D zy_follow_10_2 18 (.iload_n 3) 1 19 := ⟨zq_29 zg_10_2_10.2.2.2.2.2.2.2.2.2.2.2.2.2.2.1, rfl⟩
theorem zd_10_2_19 : zz_D zy_follow_10_2 19 (.iconst 0) 1 20 := ⟨zq_3 zg_10_2_10.2.2.2.2.2.2.2.2.2.2.2.2.2.2.2.1, rfl⟩
theorem zd_10_2_20 : zz_D zy_follow_10_2 20 (.invokevirtual 58) 3 23 := ⟨zq_182 zg_10_2_10.2.2.2.2.2.2.2.2.2.2.2.2.2.2.2.2.1 zg_10_2_10.2.2.2.2.2.2.2.2.2.2.2.2.2.2.2.2.2.1 zg_10_2_10.2.2.2.2.2.2.2.2.2.2.2.2.2.2.2.2.2.2 rfl, rfl⟩
theorem zg_10_5_0 : zq_at zy_tell_10_5.2.1 0 42 ∧ zq_at zy_tell_10_5.2.1 1 180 ∧ zq_at zy_tell_10_5.2.1 2 0 ∧ zq_at zy_tell_10_5.2.1 3 15 ∧ zq_at zy_tell_10_5.2.1 4 3 ∧ zq_at zy_tell_10_5.2.1 5 27 ∧ zq_at zy_tell_10_5.2.1 6 79 ∧ zq_at zy_tell_10_5.2.1 7 42 ∧ zq_at zy_tell_10_5.2.1 8 180 ∧ zq_at zy_tell_10_5.2.1 9 0 ∧ zq_at zy_tell_10_5.2.1 10 15 ∧ zq_at zy_tell_10_5.2.1 11 4 ∧ zq_at zy_tell_10_5.2.1 12 28 ∧ zq_at zy_tell_10_5.2.1 13 79 ∧ zq_at zy_tell_10_5.2.1 14 42 ∧ zq_at zy_tell_10_5.2.1 15 180 ∧ zq_at zy_tell_10_5.2.1 16 0 ∧ zq_at zy_tell_10_5.2.1 17 15 ∧ zq_at zy_tell_10_5.2.1 18 5 ∧ zq_at zy_tell_10_5.2.1 19 29 ∧ zq_at zy_tell_10_5.2.1 20 79 ∧ zq_at zy_tell_10_5.2.1 21 177 := by decide +kernel
theorem zd_10_5_0 : zz_D zy_tell_10_5 0 (.aload_n 0) 1 1 := ⟨zq_42 zg_10_5_0.1, rfl⟩
theorem zd_10_5_1 : zz_D zy_tell_10_5 1 (.getfield 15) 3 4 := ⟨zq_180 zg_10_5_0.2.1 zg_10_5_0.2.2.1 zg_10_5_0.2.2.2.1 rfl, rfl⟩
theorem zd_10_5_4 : zz_D zy_tell_10_5 4 (.iconst 0) 1 5 := ⟨zq_3 zg_10_5_0.2.2.2.2.1, rfl⟩
theorem zd_10_5_5 : zz_D zy_tell_10_5 5 (.iload_n 1) 1 6 := ⟨zq_27 zg_10_5_0.2.2.2.2.2.1, rfl⟩
theorem zd_10_5_6 : zz_D zy_tell_10_5 6 (.iastore) 1 7 := ⟨zq_79 zg_10_5_0.2.2.2.2.2.2.1, rfl⟩
theorem zd_10_5_7 : zz_D zy_tell_10_5 7 (.aload_n 0) 1 8 := ⟨zq_42 zg_10_5_0.2.2.2.2.2.2.2.1, rfl⟩
theorem zd_10_5_8 : zz_D zy_tell_10_5 8 (.getfield 15) 3 11 := ⟨zq_180 zg_10_5_0.2.2.2.2.2.2.2.2.1 zg_10_5_0.2.2.2.2.2.2.2.2.2.1 zg_10_5_0.2.2.2.2.2.2.2.2.2.2.1 rfl, rfl⟩
theorem zd_10_5_11 : zz_D zy_tell_10_5 11 (.iconst 1) 1 12 := ⟨zq_4 zg_10_5_0.2.2.2.2.2.2.2.2.2.2.2.1, rfl⟩
theorem zd_10_5_12 : zz_D zy_tell_10_5 12 (.iload_n 2) 1 13 := ⟨zq_28 zg_10_5_0.2.2.2.2.2.2.2.2.2.2.2.2.1, rfl⟩
theorem zd_10_5_13 : zz_D zy_tell_10_5 13 (.iastore) 1 14 := ⟨zq_79 zg_10_5_0.2.2.2.2.2.2.2.2.2.2.2.2.2.1, rfl⟩
theorem zd_10_5_14 : zz_D zy_tell_10_5 14 (.aload_n 0) 1 15 := ⟨zq_42 zg_10_5_0.2.2.2.2.2.2.2.2.2.2.2.2.2.2.1, rfl⟩
theorem zd_10_5_15 : zz_D zy_tell_10_5 15 (.getfield 15) 3 18 := ⟨zq_180 zg_10_5_0.2.2.2.2.2.2.2.2.2.2.2.2.2.2.2.1 zg_10_5_0.2.2.2.2.2.2.2.2.2.2.2.2.2.2.2.2.1 zg_10_5_0.2.2.2.2.2.2.2.2.2.2.2.2.2.2.2.2.2.1 rfl, rfl⟩
theorem zd_10_5_18 : zz_D zy_tell_10_5 18 (.iconst 2) 1 19 := ⟨zq_5 zg_10_5_0.2.2.2.2.2.2.2.2.2.2.2.2.2.2.2.2.2.2.1, rfl⟩
theorem zd_10_5_19 : zz_D zy_tell_10_5 19 (.iload_n 3) 1 20 := ⟨zq_29 zg_10_5_0.2.2.2.2.2.2.2.2.2.2.2.2.2.2.2.2.2.2.2.1, rfl⟩
theorem zd_10_5_20 : zz_D zy_tell_10_5 20 (.iastore) 1 21 := ⟨zq_79 zg_10_5_0.2.2.2.2.2.2.2.2.2.2.2.2.2.2.2.2.2.2.2.2.1, rfl⟩
theorem zd_10_5_21 : zz_D zy_tell_10_5 21 (.return_) 1 22 := ⟨zq_177 zg_10_5_0.2.2.2.2.2.2.2.2.2.2.2.2.2.2.2.2.2.2.2.2.2, rfl⟩
-- TensorForge$Run tell (III)V
abbrev zr_tell_10_5 : Room := { frames := 0, cells := 0, slots := 0, locals := 0 }
def zp_tell_10_5 (p0 : Int) (p1 : Int) (p2 : Int) (S0 : zz_S) : zz_S → Prop := fun S => zz_G S ∧ zz_fr [] [1043] (fun _ _ => False) S0 S
theorem zc_tell_10_5 {g : mm_G} {l : Launch} (p0 : Int) (p1 : Int) (p2 : Int) (S0 : zz_S) (n : Nat) (hn : zz_end ≤ n) (G_S0 : zz_G S0) (hp0 : (-2147483648) ≤ p0 ∧ p0 ≤ 2147483647) (hp1 : (-2147483648) ≤ p1 ∧ p1 ≤ 2147483647) (hp2 : (-2147483648) ≤ p2 ∧ p2 ≤ 2147483647) : mm_Met g l zy_tell_10_5 zr_tell_10_5 [.ref 1042, zi p0, zi p1, zi p2] (zz_M S0 n) n (zz_QV n (zp_tell_10_5 p0 p1 p2 S0)) := by
  refine zz_enter (by decide) (Nat.le_of_ble_eq_true rfl) (zz_less (ls1 := [some (.ref 1042), some (zi p0), some (zi p1), some (zi p2)]) ⟨rfl, ⟨rfl, ⟨rfl, ⟨rfl, trivial⟩⟩⟩⟩ ?_)
  have F_S0 : zz_fr [] [1043] (fun _ _ => False) S0 S0 := zz_fr.refl
  refine zz_aload_n (x := 1042) rfl zd_10_5_0 ?_
  refine zz_getr (kd := 0) (z := 1043) zd_10_5_1 zf_Run_15 zT_1042 rfl (zz_ltn hn rfl) (zz_G.eq G_S0 1042 1 1043 rfl rfl) (by decide) 1043 rfl ?_
  refine zz_iconst zd_10_5_4 ?_
  refine zz_iload_n (x := p0) rfl zd_10_5_5 ?_
  refine zz_iast zd_10_5_6 zT_1043 rfl (zz_ltn hn rfl) (by decide) (by decide) (fun S1 qS1 => ?_)
  have G_S1 := zz_G.put G_S0 qS1 (-2147483648) 2147483647 rfl (by omega)
  have F_S1 := zz_fr.putc F_S0 qS1 rfl
  refine zz_aload_n (x := 1042) rfl zd_10_5_7 ?_
  refine zz_getr (kd := 0) (z := 1043) zd_10_5_8 zf_Run_15 zT_1042 rfl (zz_ltn hn rfl) (zz_G.eq G_S1 1042 1 1043 rfl rfl) (by decide) 1043 rfl ?_
  refine zz_iconst zd_10_5_11 ?_
  refine zz_iload_n (x := p1) rfl zd_10_5_12 ?_
  refine zz_iast zd_10_5_13 zT_1043 rfl (zz_ltn hn rfl) (by decide) (by decide) (fun S2 qS2 => ?_)
  have G_S2 := zz_G.put G_S1 qS2 (-2147483648) 2147483647 rfl (by omega)
  have F_S2 := zz_fr.putc F_S1 qS2 rfl
  refine zz_aload_n (x := 1042) rfl zd_10_5_14 ?_
  refine zz_getr (kd := 0) (z := 1043) zd_10_5_15 zf_Run_15 zT_1042 rfl (zz_ltn hn rfl) (zz_G.eq G_S2 1042 1 1043 rfl rfl) (by decide) 1043 rfl ?_
  refine zz_iconst zd_10_5_18 ?_
  refine zz_iload_n (x := p2) rfl zd_10_5_19 ?_
  refine zz_iast zd_10_5_20 zT_1043 rfl (zz_ltn hn rfl) (by decide) (by decide) (fun S3 qS3 => ?_)
  have G_S3 := zz_G.put G_S2 qS3 (-2147483648) 2147483647 rfl (by omega)
  have F_S3 := zz_fr.putc F_S2 qS3 rfl
  exact zz_vret zd_10_5_21 rfl (Nat.zero_le _) (Nat.zero_le _) ⟨_, rfl, G_S3, F_S3⟩
theorem zk_Run_58 : mm_Vl "TensorForge$Run" 58 5 3 zy_tell_10_5 := ⟨zyw_tell_10_5, (R_Run, F_Run, 10), rfl, mm_tb_1 725 (by decide +kernel) rfl, mm_tb_1 727 (by decide +kernel) rfl, mm_tb_s 17 (by decide +kernel) rfl⟩
abbrev zy_endUpTo_10_7 : mm_Y := (⟨"TensorForge$Run", "endUpTo", "(I)V"⟩, prog_10_method_7_code, 4, none)
theorem zyw_endUpTo_10_7 : mm_Yw zy_endUpTo_10_7 1 := ⟨mm_tb_1 732 (by decide +kernel) rfl, mm_tb_1 6 (by decide +kernel) rfl, ⟨by decide, by decide⟩, by decide +kernel⟩
abbrev zy_pushTokens_10_21 : mm_Y := (⟨"TensorForge$Run", "pushTokens", "(IJ)V"⟩, prog_10_method_21_code, 4, none)
theorem zyw_pushTokens_10_21 : mm_Yw zy_pushTokens_10_21 2 := ⟨mm_tb_1 736 (by decide +kernel) rfl, mm_tb_1 6 (by decide +kernel) rfl, ⟨by decide, by decide⟩, by decide +kernel⟩
abbrev zy_pushedBefore_10_15 : mm_Y := (⟨"TensorForge$Run", "pushedBefore", "(I)I"⟩, prog_10_method_15_code, 1, (some .int))
theorem zyw_pushedBefore_10_15 : mm_Yw zy_pushedBefore_10_15 1 := ⟨mm_tb_1 739 (by decide +kernel) rfl, mm_tb_1 6 (by decide +kernel) rfl, ⟨by decide, by decide⟩, by decide +kernel⟩
theorem zg_10_2_23 : zq_at zy_follow_10_2.2.1 23 177 ∧ zq_at zy_follow_10_2.2.1 30 21 ∧ zq_at zy_follow_10_2.2.1 31 5 ∧ zq_at zy_follow_10_2.2.1 32 17 ∧ zq_at zy_follow_10_2.2.1 33 2 ∧ zq_at zy_follow_10_2.2.1 34 89 ∧ zq_at zy_follow_10_2.2.1 35 163 ∧ zq_at zy_follow_10_2.2.1 36 0 ∧ zq_at zy_follow_10_2.2.1 37 85 ∧ zq_at zy_follow_10_2.2.1 38 42 ∧ zq_at zy_follow_10_2.2.1 39 21 ∧ zq_at zy_follow_10_2.2.1 40 4 ∧ zq_at zy_follow_10_2.2.1 41 182 ∧ zq_at zy_follow_10_2.2.1 42 0 ∧ zq_at zy_follow_10_2.2.1 43 62 := by decide +kernel
theorem zd_10_2_23 : zz_D zy_follow_10_2 23 (.return_) 1 24 := ⟨zq_177 zg_10_2_23.1, rfl⟩
theorem zd_10_2_30 : zz_D zy_follow_10_2 30 (.iload 5) 2 32 := ⟨zq_21 zg_10_2_23.2.1 zg_10_2_23.2.2.1, rfl⟩
theorem zd_10_2_32 : zz_D zy_follow_10_2 32 (.sipush 601) 3 35 := ⟨zq_17 zg_10_2_23.2.2.2.1 zg_10_2_23.2.2.2.2.1 zg_10_2_23.2.2.2.2.2.1 (by decide), rfl⟩
theorem zd_10_2_35 : zz_B zy_follow_10_2 35 (Instr.if_icmp .gt) 120 38 := ⟨85, zq_163 zg_10_2_23.2.2.2.2.2.2.1 zg_10_2_23.2.2.2.2.2.2.2.1 zg_10_2_23.2.2.2.2.2.2.2.2.1 (by decide), rfl, rfl⟩
theorem zd_10_2_38 : zz_D zy_follow_10_2 38 (.aload_n 0) 1 39 := ⟨zq_42 zg_10_2_23.2.2.2.2.2.2.2.2.2.1, rfl⟩
theorem zd_10_2_39 : zz_D zy_follow_10_2 39 (.iload 4) 2 41 := ⟨zq_21 zg_10_2_23.2.2.2.2.2.2.2.2.2.2.1 zg_10_2_23.2.2.2.2.2.2.2.2.2.2.2.1, rfl⟩
theorem zd_10_2_41 : zz_D zy_follow_10_2 41 (.invokevirtual 62) 3 44 := ⟨zq_182 zg_10_2_23.2.2.2.2.2.2.2.2.2.2.2.2.1 zg_10_2_23.2.2.2.2.2.2.2.2.2.2.2.2.2.1 zg_10_2_23.2.2.2.2.2.2.2.2.2.2.2.2.2.2 rfl, rfl⟩
theorem zg_10_7_0 : zq_at zy_endUpTo_10_7.2.1 0 3 ∧ zq_at zy_endUpTo_10_7.2.1 1 61 ∧ zq_at zy_endUpTo_10_7.2.1 2 28 ∧ zq_at zy_endUpTo_10_7.2.1 3 6 ∧ zq_at zy_endUpTo_10_7.2.1 4 162 ∧ zq_at zy_endUpTo_10_7.2.1 5 0 ∧ zq_at zy_endUpTo_10_7.2.1 6 56 ∧ zq_at zy_endUpTo_10_7.2.1 7 42 ∧ zq_at zy_endUpTo_10_7.2.1 8 180 ∧ zq_at zy_endUpTo_10_7.2.1 9 0 ∧ zq_at zy_endUpTo_10_7.2.1 10 32 ∧ zq_at zy_endUpTo_10_7.2.1 11 28 ∧ zq_at zy_endUpTo_10_7.2.1 12 46 ∧ zq_at zy_endUpTo_10_7.2.1 13 62 ∧ zq_at zy_endUpTo_10_7.2.1 14 29 ∧ zq_at zy_endUpTo_10_7.2.1 15 155 ∧ zq_at zy_endUpTo_10_7.2.1 16 0 ∧ zq_at zy_endUpTo_10_7.2.1 17 39 ∧ zq_at zy_endUpTo_10_7.2.1 54 132 ∧ zq_at zy_endUpTo_10_7.2.1 55 2 ∧ zq_at zy_endUpTo_10_7.2.1 56 1 ∧ zq_at zy_endUpTo_10_7.2.1 57 167 ∧ zq_at zy_endUpTo_10_7.2.1 58 255 ∧ zq_at zy_endUpTo_10_7.2.1 59 201 := by decide +kernel
theorem zd_10_7_0 : zz_D zy_endUpTo_10_7 0 (.iconst 0) 1 1 := ⟨zq_3 zg_10_7_0.1, rfl⟩
theorem zd_10_7_1 : zz_D zy_endUpTo_10_7 1 (.istore_n 2) 1 2 := ⟨zq_61 zg_10_7_0.2.1, rfl⟩
theorem zd_10_7_2 : zz_D zy_endUpTo_10_7 2 (.iload_n 2) 1 3 := ⟨zq_28 zg_10_7_0.2.2.1, rfl⟩
theorem zd_10_7_3 : zz_D zy_endUpTo_10_7 3 (.iconst 3) 1 4 := ⟨zq_6 zg_10_7_0.2.2.2.1, rfl⟩
theorem zd_10_7_4 : zz_B zy_endUpTo_10_7 4 (Instr.if_icmp .ge) 60 7 := ⟨56, zq_162 zg_10_7_0.2.2.2.2.1 zg_10_7_0.2.2.2.2.2.1 zg_10_7_0.2.2.2.2.2.2.1 (by decide), rfl, rfl⟩
theorem zd_10_7_7 : zz_D zy_endUpTo_10_7 7 (.aload_n 0) 1 8 := ⟨zq_42 zg_10_7_0.2.2.2.2.2.2.2.1, rfl⟩
theorem zd_10_7_8 : zz_D zy_endUpTo_10_7 8 (.getfield 32) 3 11 := ⟨zq_180 zg_10_7_0.2.2.2.2.2.2.2.2.1 zg_10_7_0.2.2.2.2.2.2.2.2.2.1 zg_10_7_0.2.2.2.2.2.2.2.2.2.2.1 rfl, rfl⟩
theorem zd_10_7_11 : zz_D zy_endUpTo_10_7 11 (.iload_n 2) 1 12 := ⟨zq_28 zg_10_7_0.2.2.2.2.2.2.2.2.2.2.2.1, rfl⟩
theorem zd_10_7_12 : zz_D zy_endUpTo_10_7 12 (.iaload) 1 13 := ⟨zq_46 zg_10_7_0.2.2.2.2.2.2.2.2.2.2.2.2.1, rfl⟩
theorem zd_10_7_13 : zz_D zy_endUpTo_10_7 13 (.istore_n 3) 1 14 := ⟨zq_62 zg_10_7_0.2.2.2.2.2.2.2.2.2.2.2.2.2.1, rfl⟩
theorem zd_10_7_14 : zz_D zy_endUpTo_10_7 14 (.iload_n 3) 1 15 := ⟨zq_29 zg_10_7_0.2.2.2.2.2.2.2.2.2.2.2.2.2.2.1, rfl⟩
theorem zd_10_7_15 : zz_B zy_endUpTo_10_7 15 (Instr.ifCond .lt) 54 18 := ⟨39, zq_155 zg_10_7_0.2.2.2.2.2.2.2.2.2.2.2.2.2.2.2.1 zg_10_7_0.2.2.2.2.2.2.2.2.2.2.2.2.2.2.2.2.1 zg_10_7_0.2.2.2.2.2.2.2.2.2.2.2.2.2.2.2.2.2.1 (by decide), rfl, rfl⟩
theorem zd_10_7_54 : zz_D zy_endUpTo_10_7 54 (.iinc 2 1) 3 57 := ⟨zq_132 zg_10_7_0.2.2.2.2.2.2.2.2.2.2.2.2.2.2.2.2.2.2.1 zg_10_7_0.2.2.2.2.2.2.2.2.2.2.2.2.2.2.2.2.2.2.2.1 zg_10_7_0.2.2.2.2.2.2.2.2.2.2.2.2.2.2.2.2.2.2.2.2.1 (by decide), rfl⟩
theorem zd_10_7_57 : zz_B zy_endUpTo_10_7 57 Instr.goto 2 60 := ⟨(-55), zq_167 zg_10_7_0.2.2.2.2.2.2.2.2.2.2.2.2.2.2.2.2.2.2.2.2.2.1 zg_10_7_0.2.2.2.2.2.2.2.2.2.2.2.2.2.2.2.2.2.2.2.2.2.2.1 zg_10_7_0.2.2.2.2.2.2.2.2.2.2.2.2.2.2.2.2.2.2.2.2.2.2.2 (by decide), rfl, rfl⟩
theorem zg_10_7_18 : zq_at zy_endUpTo_10_7.2.1 18 29 ∧ zq_at zy_endUpTo_10_7.2.1 19 42 ∧ zq_at zy_endUpTo_10_7.2.1 20 180 ∧ zq_at zy_endUpTo_10_7.2.1 21 0 ∧ zq_at zy_endUpTo_10_7.2.1 22 46 ∧ zq_at zy_endUpTo_10_7.2.1 23 162 ∧ zq_at zy_endUpTo_10_7.2.1 24 0 ∧ zq_at zy_endUpTo_10_7.2.1 25 31 ∧ zq_at zy_endUpTo_10_7.2.1 26 42 ∧ zq_at zy_endUpTo_10_7.2.1 27 180 ∧ zq_at zy_endUpTo_10_7.2.1 28 0 ∧ zq_at zy_endUpTo_10_7.2.1 29 26 ∧ zq_at zy_endUpTo_10_7.2.1 30 29 ∧ zq_at zy_endUpTo_10_7.2.1 31 46 ∧ zq_at zy_endUpTo_10_7.2.1 32 27 ∧ zq_at zy_endUpTo_10_7.2.1 33 163 ∧ zq_at zy_endUpTo_10_7.2.1 34 0 ∧ zq_at zy_endUpTo_10_7.2.1 35 21 ∧ zq_at zy_endUpTo_10_7.2.1 36 42 ∧ zq_at zy_endUpTo_10_7.2.1 37 28 ∧ zq_at zy_endUpTo_10_7.2.1 38 42 ∧ zq_at zy_endUpTo_10_7.2.1 39 180 ∧ zq_at zy_endUpTo_10_7.2.1 40 0 ∧ zq_at zy_endUpTo_10_7.2.1 41 19 := by decide +kernel
theorem zd_10_7_18 : zz_D zy_endUpTo_10_7 18 (.iload_n 3) 1 19 := ⟨zq_29 zg_10_7_18.1, rfl⟩
theorem zd_10_7_19 : zz_D zy_endUpTo_10_7 19 (.aload_n 0) 1 20 := ⟨zq_42 zg_10_7_18.2.1, rfl⟩
theorem zd_10_7_20 : zz_D zy_endUpTo_10_7 20 (.getfield 46) 3 23 := ⟨zq_180 zg_10_7_18.2.2.1 zg_10_7_18.2.2.2.1 zg_10_7_18.2.2.2.2.1 rfl, rfl⟩
theorem zd_10_7_23 : zz_B zy_endUpTo_10_7 23 (Instr.if_icmp .ge) 54 26 := ⟨31, zq_162 zg_10_7_18.2.2.2.2.2.1 zg_10_7_18.2.2.2.2.2.2.1 zg_10_7_18.2.2.2.2.2.2.2.1 (by decide), rfl, rfl⟩
theorem zd_10_7_26 : zz_D zy_endUpTo_10_7 26 (.aload_n 0) 1 27 := ⟨zq_42 zg_10_7_18.2.2.2.2.2.2.2.2.1, rfl⟩
theorem zd_10_7_27 : zz_D zy_endUpTo_10_7 27 (.getfield 26) 3 30 := ⟨zq_180 zg_10_7_18.2.2.2.2.2.2.2.2.2.1 zg_10_7_18.2.2.2.2.2.2.2.2.2.2.1 zg_10_7_18.2.2.2.2.2.2.2.2.2.2.2.1 rfl, rfl⟩
theorem zd_10_7_30 : zz_D zy_endUpTo_10_7 30 (.iload_n 3) 1 31 := ⟨zq_29 zg_10_7_18.2.2.2.2.2.2.2.2.2.2.2.2.1, rfl⟩
theorem zd_10_7_31 : zz_D zy_endUpTo_10_7 31 (.iaload) 1 32 := ⟨zq_46 zg_10_7_18.2.2.2.2.2.2.2.2.2.2.2.2.2.1, rfl⟩
theorem zd_10_7_32 : zz_D zy_endUpTo_10_7 32 (.iload_n 1) 1 33 := ⟨zq_27 zg_10_7_18.2.2.2.2.2.2.2.2.2.2.2.2.2.2.1, rfl⟩
theorem zd_10_7_33 : zz_B zy_endUpTo_10_7 33 (Instr.if_icmp .gt) 54 36 := ⟨21, zq_163 zg_10_7_18.2.2.2.2.2.2.2.2.2.2.2.2.2.2.2.1 zg_10_7_18.2.2.2.2.2.2.2.2.2.2.2.2.2.2.2.2.1 zg_10_7_18.2.2.2.2.2.2.2.2.2.2.2.2.2.2.2.2.2.1 (by decide), rfl, rfl⟩
theorem zd_10_7_36 : zz_D zy_endUpTo_10_7 36 (.aload_n 0) 1 37 := ⟨zq_42 zg_10_7_18.2.2.2.2.2.2.2.2.2.2.2.2.2.2.2.2.2.2.1, rfl⟩
theorem zd_10_7_37 : zz_D zy_endUpTo_10_7 37 (.iload_n 2) 1 38 := ⟨zq_28 zg_10_7_18.2.2.2.2.2.2.2.2.2.2.2.2.2.2.2.2.2.2.2.1, rfl⟩
theorem zd_10_7_38 : zz_D zy_endUpTo_10_7 38 (.aload_n 0) 1 39 := ⟨zq_42 zg_10_7_18.2.2.2.2.2.2.2.2.2.2.2.2.2.2.2.2.2.2.2.2.1, rfl⟩
theorem zd_10_7_39 : zz_D zy_endUpTo_10_7 39 (.getfield 19) 3 42 := ⟨zq_180 zg_10_7_18.2.2.2.2.2.2.2.2.2.2.2.2.2.2.2.2.2.2.2.2.2.1 zg_10_7_18.2.2.2.2.2.2.2.2.2.2.2.2.2.2.2.2.2.2.2.2.2.2.1 zg_10_7_18.2.2.2.2.2.2.2.2.2.2.2.2.2.2.2.2.2.2.2.2.2.2.2 rfl, rfl⟩
theorem zg_10_7_42 : zq_at zy_endUpTo_10_7.2.1 42 29 ∧ zq_at zy_endUpTo_10_7.2.1 43 47 ∧ zq_at zy_endUpTo_10_7.2.1 44 182 ∧ zq_at zy_endUpTo_10_7.2.1 45 0 ∧ zq_at zy_endUpTo_10_7.2.1 46 113 := by decide +kernel
theorem zd_10_7_42 : zz_D zy_endUpTo_10_7 42 (.iload_n 3) 1 43 := ⟨zq_29 zg_10_7_42.1, rfl⟩
theorem zd_10_7_43 : zz_D zy_endUpTo_10_7 43 (.laload) 1 44 := ⟨zq_47 zg_10_7_42.2.1, rfl⟩
theorem zd_10_7_44 : zz_D zy_endUpTo_10_7 44 (.invokevirtual 113) 3 47 := ⟨zq_182 zg_10_7_42.2.2.1 zg_10_7_42.2.2.2.1 zg_10_7_42.2.2.2.2 rfl, rfl⟩
theorem zg_10_21_0 : zq_at zy_pushTokens_10_21.2.1 0 42 ∧ zq_at zy_pushTokens_10_21.2.1 1 27 ∧ zq_at zy_pushTokens_10_21.2.1 2 184 ∧ zq_at zy_pushTokens_10_21.2.1 3 0 ∧ zq_at zy_pushTokens_10_21.2.1 4 170 := by decide +kernel
theorem zd_10_21_0 : zz_D zy_pushTokens_10_21 0 (.aload_n 0) 1 1 := ⟨zq_42 zg_10_21_0.1, rfl⟩
theorem zd_10_21_1 : zz_D zy_pushTokens_10_21 1 (.iload_n 1) 1 2 := ⟨zq_27 zg_10_21_0.2.1, rfl⟩
theorem zd_10_21_2 : zz_D zy_pushTokens_10_21 2 (.invokestatic 170) 3 5 := ⟨zq_184 zg_10_21_0.2.2.1 zg_10_21_0.2.2.2.1 zg_10_21_0.2.2.2.2 rfl, rfl⟩
theorem zg_10_15_0 : zq_at zy_pushedBefore_10_15.2.1 0 5 ∧ zq_at zy_pushedBefore_10_15.2.1 1 26 ∧ zq_at zy_pushedBefore_10_15.2.1 2 104 ∧ zq_at zy_pushedBefore_10_15.2.1 3 4 ∧ zq_at zy_pushedBefore_10_15.2.1 4 100 ∧ zq_at zy_pushedBefore_10_15.2.1 5 172 := by decide +kernel
theorem zd_10_15_0 : zz_D zy_pushedBefore_10_15 0 (.iconst 2) 1 1 := ⟨zq_5 zg_10_15_0.1, rfl⟩
theorem zd_10_15_1 : zz_D zy_pushedBefore_10_15 1 (.iload_n 0) 1 2 := ⟨zq_26 zg_10_15_0.2.1, rfl⟩
theorem zd_10_15_2 : zz_D zy_pushedBefore_10_15 2 (.imul) 1 3 := ⟨zq_104 zg_10_15_0.2.2.1, rfl⟩
theorem zd_10_15_3 : zz_D zy_pushedBefore_10_15 3 (.iconst 1) 1 4 := ⟨zq_4 zg_10_15_0.2.2.2.1, rfl⟩
theorem zd_10_15_4 : zz_D zy_pushedBefore_10_15 4 (.isub) 1 5 := ⟨zq_100 zg_10_15_0.2.2.2.2.1, rfl⟩
theorem zd_10_15_5 : zz_D zy_pushedBefore_10_15 5 (.ireturn) 1 6 := ⟨zq_172 zg_10_15_0.2.2.2.2.2, rfl⟩
-- TensorForge$Run pushedBefore (I)I
abbrev zr_pushedBefore_10_15 : Room := { frames := 0, cells := 0, slots := 0, locals := 0 }
def zp_pushedBefore_10_15 (p0 : Int) (S0 : zz_S) : Int → zz_S → Prop := fun r S => S0 = S ∧ ((-1) ≤ r ∧ r ≤ 3)
theorem zc_pushedBefore_10_15 {g : mm_G} {l : Launch} (p0 : Int) (S0 : zz_S) (n : Nat) (hn : zz_end ≤ n) (G_S0 : zz_G S0) (hp0 : 0 ≤ p0 ∧ p0 ≤ 2) : mm_Met g l zy_pushedBefore_10_15 zr_pushedBefore_10_15 [zi p0] (zz_M S0 n) n (zz_QI n (zp_pushedBefore_10_15 p0 S0)) := by
  refine zz_enter (by decide) (Nat.le_of_ble_eq_true rfl) (zz_less (ls1 := [some (zi p0)]) ⟨rfl, trivial⟩ ?_)
  refine zz_iconst zd_10_15_0 ?_
  refine zz_iload_n (x := p0) rfl zd_10_15_1 ?_
  refine zz_imul zd_10_15_2 ?_
  refine zz_iconst zd_10_15_3 ?_
  refine zz_isub zd_10_15_4 ?_
  exact zz_iret zd_10_15_5 rfl (Nat.zero_le _) (Nat.zero_le _) ⟨_, _, rfl, rfl, by omega⟩
theorem zk_Run_170 : mm_Sl "TensorForge$Run" 170 1 zy_pushedBefore_10_15 := ⟨zyw_pushedBefore_10_15, mm_tb_1 737 (by decide +kernel) rfl, mm_tb_1 738 (by decide +kernel) rfl⟩
theorem zk_Run_163 : mm_Sl "TensorForge$Run" 163 2 zy_get_12_2 := ⟨zyw_get_12_2, mm_tb_1 740 (by decide +kernel) rfl, mm_tb_1 493 (by decide +kernel) rfl⟩
abbrev zy_addTokens_10_18 : mm_Y := (⟨"TensorForge$Run", "addTokens", "(II)V"⟩, prog_10_method_18_code, 3, none)
theorem zyw_addTokens_10_18 : mm_Yw zy_addTokens_10_18 2 := ⟨mm_tb_1 744 (by decide +kernel) rfl, mm_tb_1 6 (by decide +kernel) rfl, ⟨by decide, by decide⟩, by decide +kernel⟩
theorem zg_10_21_5 : zq_at zy_pushTokens_10_21.2.1 5 32 ∧ zq_at zy_pushTokens_10_21.2.1 6 6 ∧ zq_at zy_pushTokens_10_21.2.1 7 184 ∧ zq_at zy_pushTokens_10_21.2.1 8 0 ∧ zq_at zy_pushTokens_10_21.2.1 9 163 ∧ zq_at zy_pushTokens_10_21.2.1 10 182 ∧ zq_at zy_pushTokens_10_21.2.1 11 0 ∧ zq_at zy_pushTokens_10_21.2.1 12 166 := by decide +kernel
theorem zd_10_21_5 : zz_D zy_pushTokens_10_21 5 (.lload_n 2) 1 6 := ⟨zq_32 zg_10_21_5.1, rfl⟩
theorem zd_10_21_6 : zz_D zy_pushTokens_10_21 6 (.iconst 3) 1 7 := ⟨zq_6 zg_10_21_5.2.1, rfl⟩
theorem zd_10_21_7 : zz_D zy_pushTokens_10_21 7 (.invokestatic 163) 3 10 := ⟨zq_184 zg_10_21_5.2.2.1 zg_10_21_5.2.2.2.1 zg_10_21_5.2.2.2.2.1 rfl, rfl⟩
theorem zd_10_21_10 : zz_D zy_pushTokens_10_21 10 (.invokevirtual 166) 3 13 := ⟨zq_182 zg_10_21_5.2.2.2.2.2.1 zg_10_21_5.2.2.2.2.2.2.1 zg_10_21_5.2.2.2.2.2.2.2 rfl, rfl⟩
theorem zg_10_18_0 : zq_at zy_addTokens_10_18.2.1 0 27 ∧ zq_at zy_addTokens_10_18.2.1 1 155 ∧ zq_at zy_addTokens_10_18.2.1 2 0 ∧ zq_at zy_addTokens_10_18.2.1 3 25 ∧ zq_at zy_addTokens_10_18.2.1 26 177 ∧ zq_at zy_addTokens_10_18.2.1 4 16 ∧ zq_at zy_addTokens_10_18.2.1 5 6 ∧ zq_at zy_addTokens_10_18.2.1 6 27 ∧ zq_at zy_addTokens_10_18.2.1 7 96 ∧ zq_at zy_addTokens_10_18.2.1 8 16 ∧ zq_at zy_addTokens_10_18.2.1 9 10 ∧ zq_at zy_addTokens_10_18.2.1 10 162 ∧ zq_at zy_addTokens_10_18.2.1 11 0 ∧ zq_at zy_addTokens_10_18.2.1 12 16 ∧ zq_at zy_addTokens_10_18.2.1 13 42 ∧ zq_at zy_addTokens_10_18.2.1 14 180 ∧ zq_at zy_addTokens_10_18.2.1 15 0 ∧ zq_at zy_addTokens_10_18.2.1 16 15 ∧ zq_at zy_addTokens_10_18.2.1 17 16 ∧ zq_at zy_addTokens_10_18.2.1 18 6 ∧ zq_at zy_addTokens_10_18.2.1 19 27 ∧ zq_at zy_addTokens_10_18.2.1 20 96 ∧ zq_at zy_addTokens_10_18.2.1 21 92 ∧ zq_at zy_addTokens_10_18.2.1 22 46 := by decide +kernel
theorem zd_10_18_0 : zz_D zy_addTokens_10_18 0 (.iload_n 1) 1 1 := ⟨zq_27 zg_10_18_0.1, rfl⟩
theorem zd_10_18_1 : zz_B zy_addTokens_10_18 1 (Instr.ifCond .lt) 26 4 := ⟨25, zq_155 zg_10_18_0.2.1 zg_10_18_0.2.2.1 zg_10_18_0.2.2.2.1 (by decide), rfl, rfl⟩
theorem zd_10_18_26 : zz_D zy_addTokens_10_18 26 (.return_) 1 27 := ⟨zq_177 zg_10_18_0.2.2.2.2.1, rfl⟩
theorem zd_10_18_4 : zz_D zy_addTokens_10_18 4 (.bipush 6) 2 6 := ⟨zq_16 zg_10_18_0.2.2.2.2.2.1 zg_10_18_0.2.2.2.2.2.2.1 (by decide), rfl⟩
theorem zd_10_18_6 : zz_D zy_addTokens_10_18 6 (.iload_n 1) 1 7 := ⟨zq_27 zg_10_18_0.2.2.2.2.2.2.2.1, rfl⟩
theorem zd_10_18_7 : zz_D zy_addTokens_10_18 7 (.iadd) 1 8 := ⟨zq_96 zg_10_18_0.2.2.2.2.2.2.2.2.1, rfl⟩
theorem zd_10_18_8 : zz_D zy_addTokens_10_18 8 (.bipush 10) 2 10 := ⟨zq_16 zg_10_18_0.2.2.2.2.2.2.2.2.2.1 zg_10_18_0.2.2.2.2.2.2.2.2.2.2.1 (by decide), rfl⟩
theorem zd_10_18_10 : zz_B zy_addTokens_10_18 10 (Instr.if_icmp .ge) 26 13 := ⟨16, zq_162 zg_10_18_0.2.2.2.2.2.2.2.2.2.2.2.1 zg_10_18_0.2.2.2.2.2.2.2.2.2.2.2.2.1 zg_10_18_0.2.2.2.2.2.2.2.2.2.2.2.2.2.1 (by decide), rfl, rfl⟩
theorem zd_10_18_13 : zz_D zy_addTokens_10_18 13 (.aload_n 0) 1 14 := ⟨zq_42 zg_10_18_0.2.2.2.2.2.2.2.2.2.2.2.2.2.2.1, rfl⟩
theorem zd_10_18_14 : zz_D zy_addTokens_10_18 14 (.getfield 15) 3 17 := ⟨zq_180 zg_10_18_0.2.2.2.2.2.2.2.2.2.2.2.2.2.2.2.1 zg_10_18_0.2.2.2.2.2.2.2.2.2.2.2.2.2.2.2.2.1 zg_10_18_0.2.2.2.2.2.2.2.2.2.2.2.2.2.2.2.2.2.1 rfl, rfl⟩
theorem zd_10_18_17 : zz_D zy_addTokens_10_18 17 (.bipush 6) 2 19 := ⟨zq_16 zg_10_18_0.2.2.2.2.2.2.2.2.2.2.2.2.2.2.2.2.2.2.1 zg_10_18_0.2.2.2.2.2.2.2.2.2.2.2.2.2.2.2.2.2.2.2.1 (by decide), rfl⟩
theorem zd_10_18_19 : zz_D zy_addTokens_10_18 19 (.iload_n 1) 1 20 := ⟨zq_27 zg_10_18_0.2.2.2.2.2.2.2.2.2.2.2.2.2.2.2.2.2.2.2.2.1, rfl⟩
theorem zd_10_18_20 : zz_D zy_addTokens_10_18 20 (.iadd) 1 21 := ⟨zq_96 zg_10_18_0.2.2.2.2.2.2.2.2.2.2.2.2.2.2.2.2.2.2.2.2.2.1, rfl⟩
theorem zd_10_18_21 : zz_D zy_addTokens_10_18 21 (.dup2) 1 22 := ⟨zq_92 zg_10_18_0.2.2.2.2.2.2.2.2.2.2.2.2.2.2.2.2.2.2.2.2.2.2.1, rfl⟩
theorem zd_10_18_22 : zz_D zy_addTokens_10_18 22 (.iaload) 1 23 := ⟨zq_46 zg_10_18_0.2.2.2.2.2.2.2.2.2.2.2.2.2.2.2.2.2.2.2.2.2.2.2, rfl⟩
theorem zg_10_18_23 : zq_at zy_addTokens_10_18.2.1 23 28 ∧ zq_at zy_addTokens_10_18.2.1 24 96 ∧ zq_at zy_addTokens_10_18.2.1 25 79 := by decide +kernel
theorem zd_10_18_23 : zz_D zy_addTokens_10_18 23 (.iload_n 2) 1 24 := ⟨zq_28 zg_10_18_23.1, rfl⟩
theorem zd_10_18_24 : zz_D zy_addTokens_10_18 24 (.iadd) 1 25 := ⟨zq_96 zg_10_18_23.2.1, rfl⟩
theorem zd_10_18_25 : zz_D zy_addTokens_10_18 25 (.iastore) 1 26 := ⟨zq_79 zg_10_18_23.2.2, rfl⟩
-- TensorForge$Run addTokens (II)V
abbrev zr_addTokens_10_18 : Room := { frames := 0, cells := 0, slots := 0, locals := 0 }
def zp_addTokens_10_18 (p0 : Int) (p1 : Int) (S0 : zz_S) : zz_S → Prop := fun S => zz_G S ∧ zz_fr [] [1043] (fun _ _ => False) S0 S
theorem zc_addTokens_10_18 {g : mm_G} {l : Launch} (p0 : Int) (p1 : Int) (S0 : zz_S) (n : Nat) (hn : zz_end ≤ n) (G_S0 : zz_G S0) (hp0 : (-4) ≤ p0 ∧ p0 ≤ 10) (hp1 : (-2147483648) ≤ p1 ∧ p1 ≤ 2147483647) : mm_Met g l zy_addTokens_10_18 zr_addTokens_10_18 [.ref 1042, zi p0, zi p1] (zz_M S0 n) n (zz_QV n (zp_addTokens_10_18 p0 p1 S0)) := by
  refine zz_enter (by decide) (Nat.le_of_ble_eq_true rfl) (zz_less (ls1 := [some (.ref 1042), some (zi p0), some (zi p1)]) ⟨rfl, ⟨rfl, ⟨rfl, trivial⟩⟩⟩ ?_)
  have F_S0 : zz_fr [] [1043] (fun _ _ => False) S0 S0 := zz_fr.refl
  refine zz_iload_n (x := p0) rfl zd_10_18_0 ?_
  refine zz_if_lt (by omega) zd_10_18_1 (fun c1 => ?_) (fun c1 => ?_)
  · exact zz_vret zd_10_18_26 rfl (Nat.zero_le _) (Nat.zero_le _) ⟨_, rfl, G_S0, F_S0⟩
  · refine zz_bipush (by decide) zd_10_18_4 ?_
    refine zz_iload_n (x := p0) rfl zd_10_18_6 ?_
    refine zz_iadd zd_10_18_7 ?_
    refine zz_bipush (by decide) zd_10_18_8 ?_
    refine zz_icmp_ge (by omega) (by omega) zd_10_18_10 (fun c2 => ?_) (fun c2 => ?_)
    · exact zz_vret zd_10_18_26 rfl (Nat.zero_le _) (Nat.zero_le _) ⟨_, rfl, G_S0, F_S0⟩
    · refine zz_aload_n (x := 1042) rfl zd_10_18_13 ?_
      refine zz_getr (kd := 0) (z := 1043) zd_10_18_14 zf_Run_15 zT_1042 rfl (zz_ltn hn rfl) (zz_G.eq G_S0 1042 1 1043 rfl rfl) (by decide) 1043 rfl ?_
      refine zz_bipush (by decide) zd_10_18_17 ?_
      refine zz_iload_n (x := p0) rfl zd_10_18_19 ?_
      refine zz_iadd zd_10_18_20 ?_
      refine zz_dup2_11 rfl rfl zd_10_18_21 ?_
      have g3 := zz_G.r G_S0 1043 ((6 + p0).toNat) (-2147483648) 2147483647 rfl rfl
      refine zz_iald (z := S0 1043 ((6 + p0).toNat)) zd_10_18_22 zT_1043 rfl (zz_ltn hn rfl) (by decide) (by omega) rfl ?_
      refine zz_iload_n (x := p1) rfl zd_10_18_23 ?_
      refine zz_iadd zd_10_18_24 ?_
      refine zz_nrm (fun v4 hv4 ev4 => ?_)
      refine zz_iast zd_10_18_25 zT_1043 rfl (zz_ltn hn rfl) (by decide) (by omega) (fun S5 qS5 => ?_)
      have G_S5 := zz_G.put G_S0 qS5 (-2147483648) 2147483647 rfl (by omega)
      have F_S5 := zz_fr.putc F_S0 qS5 rfl
      exact zz_vret zd_10_18_26 rfl (Nat.zero_le _) (Nat.zero_le _) ⟨_, rfl, G_S5, F_S5⟩
theorem zk_Run_166 : mm_Vl "TensorForge$Run" 166 5 2 zy_addTokens_10_18 := ⟨zyw_addTokens_10_18, (R_Run, F_Run, 10), rfl, mm_tb_1 741 (by decide +kernel) rfl, mm_tb_1 743 (by decide +kernel) rfl, mm_tb_s 20 (by decide +kernel) rfl⟩
abbrev zy_pushedBehind_10_16 : mm_Y := (⟨"TensorForge$Run", "pushedBehind", "(I)I"⟩, prog_10_method_16_code, 1, (some .int))
theorem zyw_pushedBehind_10_16 : mm_Yw zy_pushedBehind_10_16 1 := ⟨mm_tb_1 747 (by decide +kernel) rfl, mm_tb_1 6 (by decide +kernel) rfl, ⟨by decide, by decide⟩, by decide +kernel⟩
theorem zg_10_21_13 : zq_at zy_pushTokens_10_21.2.1 13 42 ∧ zq_at zy_pushTokens_10_21.2.1 14 27 ∧ zq_at zy_pushTokens_10_21.2.1 15 184 ∧ zq_at zy_pushTokens_10_21.2.1 16 0 ∧ zq_at zy_pushTokens_10_21.2.1 17 173 := by decide +kernel
theorem zd_10_21_13 : zz_D zy_pushTokens_10_21 13 (.aload_n 0) 1 14 := ⟨zq_42 zg_10_21_13.1, rfl⟩
theorem zd_10_21_14 : zz_D zy_pushTokens_10_21 14 (.iload_n 1) 1 15 := ⟨zq_27 zg_10_21_13.2.1, rfl⟩
theorem zd_10_21_15 : zz_D zy_pushTokens_10_21 15 (.invokestatic 173) 3 18 := ⟨zq_184 zg_10_21_13.2.2.1 zg_10_21_13.2.2.2.1 zg_10_21_13.2.2.2.2 rfl, rfl⟩
theorem zg_10_16_0 : zq_at zy_pushedBehind_10_16.2.1 0 5 ∧ zq_at zy_pushedBehind_10_16.2.1 1 26 ∧ zq_at zy_pushedBehind_10_16.2.1 2 104 ∧ zq_at zy_pushedBehind_10_16.2.1 3 172 := by decide +kernel
theorem zd_10_16_0 : zz_D zy_pushedBehind_10_16 0 (.iconst 2) 1 1 := ⟨zq_5 zg_10_16_0.1, rfl⟩
theorem zd_10_16_1 : zz_D zy_pushedBehind_10_16 1 (.iload_n 0) 1 2 := ⟨zq_26 zg_10_16_0.2.1, rfl⟩
theorem zd_10_16_2 : zz_D zy_pushedBehind_10_16 2 (.imul) 1 3 := ⟨zq_104 zg_10_16_0.2.2.1, rfl⟩
theorem zd_10_16_3 : zz_D zy_pushedBehind_10_16 3 (.ireturn) 1 4 := ⟨zq_172 zg_10_16_0.2.2.2, rfl⟩
-- TensorForge$Run pushedBehind (I)I
abbrev zr_pushedBehind_10_16 : Room := { frames := 0, cells := 0, slots := 0, locals := 0 }
def zp_pushedBehind_10_16 (p0 : Int) (S0 : zz_S) : Int → zz_S → Prop := fun r S => S0 = S ∧ (0 ≤ r ∧ r ≤ 4)
theorem zc_pushedBehind_10_16 {g : mm_G} {l : Launch} (p0 : Int) (S0 : zz_S) (n : Nat) (hn : zz_end ≤ n) (G_S0 : zz_G S0) (hp0 : 0 ≤ p0 ∧ p0 ≤ 2) : mm_Met g l zy_pushedBehind_10_16 zr_pushedBehind_10_16 [zi p0] (zz_M S0 n) n (zz_QI n (zp_pushedBehind_10_16 p0 S0)) := by
  refine zz_enter (by decide) (Nat.le_of_ble_eq_true rfl) (zz_less (ls1 := [some (zi p0)]) ⟨rfl, trivial⟩ ?_)
  refine zz_iconst zd_10_16_0 ?_
  refine zz_iload_n (x := p0) rfl zd_10_16_1 ?_
  refine zz_imul zd_10_16_2 ?_
  exact zz_iret zd_10_16_3 rfl (Nat.zero_le _) (Nat.zero_le _) ⟨_, _, rfl, rfl, by omega⟩
theorem zk_Run_173 : mm_Sl "TensorForge$Run" 173 1 zy_pushedBehind_10_16 := ⟨zyw_pushedBehind_10_16, mm_tb_1 745 (by decide +kernel) rfl, mm_tb_1 746 (by decide +kernel) rfl⟩
theorem zg_10_21_18 : zq_at zy_pushTokens_10_21.2.1 18 32 ∧ zq_at zy_pushTokens_10_21.2.1 19 7 ∧ zq_at zy_pushTokens_10_21.2.1 20 184 ∧ zq_at zy_pushTokens_10_21.2.1 21 0 ∧ zq_at zy_pushTokens_10_21.2.1 22 163 ∧ zq_at zy_pushTokens_10_21.2.1 23 182 ∧ zq_at zy_pushTokens_10_21.2.1 24 0 ∧ zq_at zy_pushTokens_10_21.2.1 25 166 ∧ zq_at zy_pushTokens_10_21.2.1 26 177 := by decide +kernel
theorem zd_10_21_18 : zz_D zy_pushTokens_10_21 18 (.lload_n 2) 1 19 := ⟨zq_32 zg_10_21_18.1, rfl⟩
theorem zd_10_21_19 : zz_D zy_pushTokens_10_21 19 (.iconst 4) 1 20 := ⟨zq_7 zg_10_21_18.2.1, rfl⟩
theorem zd_10_21_20 : zz_D zy_pushTokens_10_21 20 (.invokestatic 163) 3 23 := ⟨zq_184 zg_10_21_18.2.2.1 zg_10_21_18.2.2.2.1 zg_10_21_18.2.2.2.2.1 rfl, rfl⟩
theorem zd_10_21_23 : zz_D zy_pushTokens_10_21 23 (.invokevirtual 166) 3 26 := ⟨zq_182 zg_10_21_18.2.2.2.2.2.1 zg_10_21_18.2.2.2.2.2.2.1 zg_10_21_18.2.2.2.2.2.2.2.1 rfl, rfl⟩
theorem zd_10_21_26 : zz_D zy_pushTokens_10_21 26 (.return_) 1 27 := ⟨zq_177 zg_10_21_18.2.2.2.2.2.2.2.2, rfl⟩
-- TensorForge$Run pushTokens (IJ)V
abbrev zr_pushTokens_10_21 : Room := { frames := 1, cells := 0, slots := 0, locals := 16 }
def zp_pushTokens_10_21 (p0 : Int) (p1 : Int) (S0 : zz_S) : zz_S → Prop := fun S => zz_G S ∧ zz_fr [] [1043] (fun _ _ => False) S0 S
theorem zc_pushTokens_10_21 {g : mm_G} {l : Launch} (p0 : Int) (p1 : Int) (S0 : zz_S) (n : Nat) (hn : zz_end ≤ n) (G_S0 : zz_G S0) (hp0 : 0 ≤ p0 ∧ p0 ≤ 2) (hp1 : (-9223372036854775808) ≤ p1 ∧ p1 ≤ 9223372036854775807) : mm_Met g l zy_pushTokens_10_21 zr_pushTokens_10_21 [.ref 1042, zi p0, zl p1] (zz_M S0 n) n (zz_QV n (zp_pushTokens_10_21 p0 p1 S0)) := by
  refine zz_enter (by decide) (Nat.le_of_ble_eq_true rfl) (zz_less (ls1 := [some (.ref 1042), some (zi p0), some (zl p1), none]) ⟨rfl, ⟨rfl, ⟨rfl, trivial⟩⟩⟩ ?_)
  have F_S0 : zz_fr [] [1043] (fun _ _ => False) S0 S0 := zz_fr.refl
  refine zz_aload_n (x := 1042) rfl zd_10_21_0 ?_
  refine zz_iload_n (x := p0) rfl zd_10_21_1 ?_
  refine zz_callSI [zi p0] zd_10_21_2 zk_Run_170 rfl rfl ⟨Nat.le_of_ble_eq_true rfl, Nat.le_of_ble_eq_true rfl⟩ ⟨rfl, rfl⟩ (Nat.zero_le _) (Nat.zero_le _) (zc_pushedBefore_10_15 p0 S0 n hn G_S0 (by omega)) (fun v2 S1 hP => ?_)
  obtain ⟨rfl, o3⟩ := hP
  refine zz_lload_n (x := p1) rfl zd_10_21_5 ?_
  refine zz_iconst zd_10_21_6 ?_
  refine zz_callSI [zl p1, zi 3] zd_10_21_7 zk_Run_163 rfl rfl ⟨Nat.le_of_ble_eq_true rfl, Nat.le_of_ble_eq_true rfl⟩ ⟨rfl, rfl⟩ (Nat.zero_le _) (Nat.zero_le _) (zc_get_12_2x_3 p1 S0 n hn G_S0 (by omega)) (fun v5 S4 hP => ?_)
  obtain ⟨rfl, o6, o7⟩ := hP
  subst o7
  refine zz_callVV [zi v2, zi (zz_fy p1 6 1)] zd_10_21_10 zk_Run_166 zT_1042 (zz_ltn hn rfl) rfl rfl ⟨Nat.le_of_ble_eq_true rfl, Nat.le_of_ble_eq_true rfl⟩ ⟨rfl, rfl⟩ (Nat.zero_le _) (Nat.zero_le _) (zc_addTokens_10_18 v2 (zz_fy p1 6 1) S0 n hn G_S0 (by omega) (by omega)) (fun S8 hP => ?_)
  obtain ⟨G_S8, fS8⟩ := hP
  have F_S8 := zz_fr.trans F_S0 fS8 rfl zz_nv
  refine zz_aload_n (x := 1042) rfl zd_10_21_13 ?_
  refine zz_iload_n (x := p0) rfl zd_10_21_14 ?_
  refine zz_callSI [zi p0] zd_10_21_15 zk_Run_173 rfl rfl ⟨Nat.le_of_ble_eq_true rfl, Nat.le_of_ble_eq_true rfl⟩ ⟨rfl, rfl⟩ (Nat.zero_le _) (Nat.zero_le _) (zc_pushedBehind_10_16 p0 S8 n hn G_S8 (by omega)) (fun v11 S10 hP => ?_)
  obtain ⟨rfl, o12⟩ := hP
  refine zz_lload_n (x := p1) rfl zd_10_21_18 ?_
  refine zz_iconst zd_10_21_19 ?_
  refine zz_callSI [zl p1, zi 4] zd_10_21_20 zk_Run_163 rfl rfl ⟨Nat.le_of_ble_eq_true rfl, Nat.le_of_ble_eq_true rfl⟩ ⟨rfl, rfl⟩ (Nat.zero_le _) (Nat.zero_le _) (zc_get_12_2x_4 p1 S8 n hn G_S8 (by omega)) (fun v14 S13 hP => ?_)
  obtain ⟨rfl, o15, o16⟩ := hP
  subst o16
  refine zz_callVV [zi v11, zi (zz_fy p1 7 1)] zd_10_21_23 zk_Run_166 zT_1042 (zz_ltn hn rfl) rfl rfl ⟨Nat.le_of_ble_eq_true rfl, Nat.le_of_ble_eq_true rfl⟩ ⟨rfl, rfl⟩ (Nat.zero_le _) (Nat.zero_le _) (zc_addTokens_10_18 v11 (zz_fy p1 7 1) S8 n hn G_S8 (by omega) (by omega)) (fun S17 hP => ?_)
  obtain ⟨G_S17, fS17⟩ := hP
  have F_S17 := zz_fr.trans F_S8 fS17 rfl zz_nv
  exact zz_vret zd_10_21_26 rfl (Nat.zero_le _) (Nat.zero_le _) ⟨_, rfl, G_S17, F_S17⟩
theorem zk_Run_113 : mm_Vl "TensorForge$Run" 113 5 2 zy_pushTokens_10_21 := ⟨zyw_pushTokens_10_21, (R_Run, F_Run, 10), rfl, mm_tb_1 733 (by decide +kernel) rfl, mm_tb_1 735 (by decide +kernel) rfl, mm_tb_s 19 (by decide +kernel) rfl⟩
theorem zg_10_7_47 : zq_at zy_endUpTo_10_7.2.1 47 42 ∧ zq_at zy_endUpTo_10_7.2.1 48 180 ∧ zq_at zy_endUpTo_10_7.2.1 49 0 ∧ zq_at zy_endUpTo_10_7.2.1 50 32 ∧ zq_at zy_endUpTo_10_7.2.1 51 28 ∧ zq_at zy_endUpTo_10_7.2.1 52 2 ∧ zq_at zy_endUpTo_10_7.2.1 53 79 ∧ zq_at zy_endUpTo_10_7.2.1 60 177 := by decide +kernel
theorem zd_10_7_47 : zz_D zy_endUpTo_10_7 47 (.aload_n 0) 1 48 := ⟨zq_42 zg_10_7_47.1, rfl⟩
theorem zd_10_7_48 : zz_D zy_endUpTo_10_7 48 (.getfield 32) 3 51 := ⟨zq_180 zg_10_7_47.2.1 zg_10_7_47.2.2.1 zg_10_7_47.2.2.2.1 rfl, rfl⟩
theorem zd_10_7_51 : zz_D zy_endUpTo_10_7 51 (.iload_n 2) 1 52 := ⟨zq_28 zg_10_7_47.2.2.2.2.1, rfl⟩
theorem zd_10_7_52 : zz_D zy_endUpTo_10_7 52 (.iconst (-1)) 1 53 := ⟨zq_2 zg_10_7_47.2.2.2.2.2.1, rfl⟩
theorem zd_10_7_53 : zz_D zy_endUpTo_10_7 53 (.iastore) 1 54 := ⟨zq_79 zg_10_7_47.2.2.2.2.2.2.1, rfl⟩
theorem zd_10_7_60 : zz_D zy_endUpTo_10_7 60 (.return_) 1 61 := ⟨zq_177 zg_10_7_47.2.2.2.2.2.2.2, rfl⟩
-- TensorForge$Run endUpTo (I)V
abbrev zr_endUpTo_10_7 : Room := { frames := 2, cells := 0, slots := 0, locals := 31 }
def zp_endUpTo_10_7 (p0 : Int) (S0 : zz_S) : zz_S → Prop := fun S => zz_G S ∧ zz_fr [] [1043, 1048] (fun _ _ => False) S0 S
theorem zb_endUpTo_10_7_2 {g : mm_G} {l : Launch} (p0 : Int) (S0 : zz_S) (n : Nat) (hn : zz_end ≤ n) (G_S0 : zz_G S0) (hp0 : (-2147483648) ≤ p0 ∧ p0 ≤ 2147483647) (x2 : Int) (S : zz_S) (G_S : zz_G S) (F_S : zz_fr [] [1043, 1048] (fun _ _ => False) S0 S) (i2_0 : 0 ≤ x2 ∧ x2 ≤ 3) (R : Nat) (hR : (3 - x2).toNat = R) (k2 : ∀ (x2 : Int) (S : zz_S), zz_G S → zz_fr [] [1043, 1048] (fun _ _ => False) S0 S → (0 ≤ x2 ∧ x2 ≤ 3) → (3 - x2).toNat < R → zz_E g l zy_endUpTo_10_7 zr_endUpTo_10_7 (zz_QV n (zp_endUpTo_10_7 p0 S0)) S n 2 [some (.ref 1042), some (zi p0), some (zi x2)] [] 0 0) : zz_E g l zy_endUpTo_10_7 zr_endUpTo_10_7 (zz_QV n (zp_endUpTo_10_7 p0 S0)) S n 2 [some (.ref 1042), some (zi p0), some (zi x2)] [] 0 0 := by
  refine zz_iload_n (x := x2) rfl zd_10_7_2 ?_
  refine zz_iconst zd_10_7_3 ?_
  refine zz_icmp_ge (by omega) (by omega) zd_10_7_4 (fun c1 => ?_) (fun c1 => ?_)
  · exact zz_vret zd_10_7_60 rfl (Nat.zero_le _) (Nat.zero_le _) ⟨_, rfl, G_S, F_S⟩
  · refine zz_aload_n (x := 1042) rfl zd_10_7_7 ?_
    refine zz_getr (kd := 0) (z := 1048) zd_10_7_8 zf_Run_32 zT_1042 rfl (zz_ltn hn rfl) (zz_G.eq G_S 1042 6 1048 rfl rfl) (by decide) 1048 rfl ?_
    refine zz_iload_n (x := x2) rfl zd_10_7_11 ?_
    have g2 := zz_G.r G_S 1048 x2.toNat (-1) 600 rfl rfl
    refine zz_iald (z := S 1048 x2.toNat) zd_10_7_12 zT_1048 rfl (zz_ltn hn rfl) (by decide) (by omega) rfl ?_
    refine zz_istore_n [some (.ref 1042), some (zi p0), some (zi x2), some (zi (S 1048 x2.toNat))] zd_10_7_13 (by decide) rfl ?_
    refine zz_iload_n (x := S 1048 x2.toNat) rfl zd_10_7_14 ?_
    refine zz_if_lt (by omega) zd_10_7_15 (fun c3 => ?_) (fun c3 => ?_)
    · refine zz_iinc [some (.ref 1042), some (zi p0), some (zi (x2 + 1)), some (zi (S 1048 x2.toNat))] zd_10_7_54 rfl rfl ?_
      refine zz_goto zd_10_7_57 ?_
      refine zz_less (ls1 := [some (.ref 1042), some (zi p0), some (zi (x2 + 1))]) ⟨rfl, ⟨rfl, ⟨rfl, trivial⟩⟩⟩ ?_
      exact k2 (x2 + 1) S G_S F_S (by omega) (by omega)
    · refine zz_iload_n (x := S 1048 x2.toNat) rfl zd_10_7_18 ?_
      refine zz_aload_n (x := 1042) rfl zd_10_7_19 ?_
      have g4 := zz_G.r G_S0 1042 9 0 600 rfl rfl
      refine zz_geti (z := S0 1042 9) zd_10_7_20 zf_Run_46 zT_1042 rfl (zz_ltn hn rfl) (zz_rc F_S rfl rfl (fun h => h) rfl) ?_
      refine zz_icmp_ge (by omega) (by omega) zd_10_7_23 (fun c5 => ?_) (fun c5 => ?_)
      · refine zz_iinc [some (.ref 1042), some (zi p0), some (zi (x2 + 1)), some (zi (S 1048 x2.toNat))] zd_10_7_54 rfl rfl ?_
        refine zz_goto zd_10_7_57 ?_
        refine zz_less (ls1 := [some (.ref 1042), some (zi p0), some (zi (x2 + 1))]) ⟨rfl, ⟨rfl, ⟨rfl, trivial⟩⟩⟩ ?_
        exact k2 (x2 + 1) S G_S F_S (by omega) (by omega)
      · refine zz_aload_n (x := 1042) rfl zd_10_7_26 ?_
        refine zz_getr (kd := 0) (z := 1046) zd_10_7_27 zf_Run_26 zT_1042 rfl (zz_ltn hn rfl) (zz_G.eq G_S 1042 4 1046 rfl rfl) (by decide) 1046 rfl ?_
        refine zz_iload_n (x := S 1048 x2.toNat) rfl zd_10_7_30 ?_
        have g6 := zz_G.r G_S0 1046 ((S 1048 x2.toNat).toNat) (-2147483648) 2147483647 rfl rfl
        refine zz_iald (z := S0 1046 ((S 1048 x2.toNat).toNat)) zd_10_7_31 zT_1046 rfl (zz_ltn hn rfl) (by decide) (by omega) (zz_rc F_S (zz_nc1 rfl) rfl (fun h => h) rfl) ?_
        refine zz_iload_n (x := p0) rfl zd_10_7_32 ?_
        refine zz_icmp_gt (by omega) (by omega) zd_10_7_33 (fun c7 => ?_) (fun c7 => ?_)
        · refine zz_iinc [some (.ref 1042), some (zi p0), some (zi (x2 + 1)), some (zi (S 1048 x2.toNat))] zd_10_7_54 rfl rfl ?_
          refine zz_goto zd_10_7_57 ?_
          refine zz_less (ls1 := [some (.ref 1042), some (zi p0), some (zi (x2 + 1))]) ⟨rfl, ⟨rfl, ⟨rfl, trivial⟩⟩⟩ ?_
          exact k2 (x2 + 1) S G_S F_S (by omega) (by omega)
        · refine zz_aload_n (x := 1042) rfl zd_10_7_36 ?_
          refine zz_iload_n (x := x2) rfl zd_10_7_37 ?_
          refine zz_aload_n (x := 1042) rfl zd_10_7_38 ?_
          refine zz_getr (kd := 0) (z := 1044) zd_10_7_39 zf_Run_19 zT_1042 rfl (zz_ltn hn rfl) (zz_G.eq G_S 1042 2 1044 rfl rfl) (by decide) 1044 rfl ?_
          refine zz_iload_n (x := S 1048 x2.toNat) rfl zd_10_7_42 ?_
          have g8 := zz_G.r G_S0 1044 ((S 1048 x2.toNat).toNat) (-9223372036854775808) 9223372036854775807 rfl rfl
          refine zz_lald (z := S0 1044 ((S 1048 x2.toNat).toNat)) zd_10_7_43 zT_1044 rfl (zz_ltn hn rfl) (by decide) (by omega) (zz_rc F_S (zz_nc1 rfl) rfl (fun h => h) rfl) ?_
          refine zz_callVV [zi x2, zl (S0 1044 ((S 1048 x2.toNat).toNat))] zd_10_7_44 zk_Run_113 zT_1042 (zz_ltn hn rfl) rfl rfl ⟨Nat.le_of_ble_eq_true rfl, Nat.le_of_ble_eq_true rfl⟩ ⟨rfl, rfl⟩ (Nat.zero_le _) (Nat.zero_le _) (zc_pushTokens_10_21 x2 (S0 1044 ((S 1048 x2.toNat).toNat)) S n hn G_S (by omega) (by omega)) (fun S9 hP => ?_)
          obtain ⟨G_S9, fS9⟩ := hP
          have F_S9 := zz_fr.trans F_S fS9 rfl zz_nv
          refine zz_aload_n (x := 1042) rfl zd_10_7_47 ?_
          refine zz_getr (kd := 0) (z := 1048) zd_10_7_48 zf_Run_32 zT_1042 rfl (zz_ltn hn rfl) (zz_G.eq G_S9 1042 6 1048 rfl rfl) (by decide) 1048 rfl ?_
          refine zz_iload_n (x := x2) rfl zd_10_7_51 ?_
          refine zz_iconst zd_10_7_52 ?_
          refine zz_iast zd_10_7_53 zT_1048 rfl (zz_ltn hn rfl) (by decide) (by omega) (fun S11 qS11 => ?_)
          have G_S11 := zz_G.put G_S9 qS11 (-1) 600 rfl (by omega)
          have F_S11 := zz_fr.putc F_S9 qS11 rfl
          refine zz_iinc [some (.ref 1042), some (zi p0), some (zi (x2 + 1)), some (zi (S 1048 x2.toNat))] zd_10_7_54 rfl rfl ?_
          refine zz_goto zd_10_7_57 ?_
          refine zz_less (ls1 := [some (.ref 1042), some (zi p0), some (zi (x2 + 1))]) ⟨rfl, ⟨rfl, ⟨rfl, trivial⟩⟩⟩ ?_
          exact k2 (x2 + 1) S11 G_S11 F_S11 (by omega) (by omega)
theorem zi_endUpTo_10_7 {g : mm_G} {l : Launch} (p0 : Int) (S0 : zz_S) (n : Nat) (hn : zz_end ≤ n) (G_S0 : zz_G S0) (hp0 : (-2147483648) ≤ p0 ∧ p0 ≤ 2147483647) : ∀ N : Nat, (∀ (x2 : Int) (S : zz_S), zz_G S → zz_fr [] [1043, 1048] (fun _ _ => False) S0 S → (0 ≤ x2 ∧ x2 ≤ 3) → (3 - x2).toNat < N → zz_E g l zy_endUpTo_10_7 zr_endUpTo_10_7 (zz_QV n (zp_endUpTo_10_7 p0 S0)) S n 2 [some (.ref 1042), some (zi p0), some (zi x2)] [] 0 0) := by
  intro N
  induction N with
  | zero => exact fun x2 S _ _ _ h => absurd h (Nat.not_lt_zero _)
  | succ N ih =>
    exact fun x2 S a b j0 hR => zb_endUpTo_10_7_2 p0 S0 n hn G_S0 hp0 x2 S a b j0 _ rfl (fun x2 S a b j0 h => ih x2 S a b j0 (Nat.lt_of_lt_of_le h (Nat.le_of_lt_succ hR)))
theorem zc_endUpTo_10_7 {g : mm_G} {l : Launch} (p0 : Int) (S0 : zz_S) (n : Nat) (hn : zz_end ≤ n) (G_S0 : zz_G S0) (hp0 : (-2147483648) ≤ p0 ∧ p0 ≤ 2147483647) : mm_Met g l zy_endUpTo_10_7 zr_endUpTo_10_7 [.ref 1042, zi p0] (zz_M S0 n) n (zz_QV n (zp_endUpTo_10_7 p0 S0)) := by
  refine zz_enter (by decide) (Nat.le_of_ble_eq_true rfl) (zz_less (ls1 := [some (.ref 1042), some (zi p0)]) ⟨rfl, ⟨rfl, trivial⟩⟩ ?_)
  have F_S0 : zz_fr [] [1043, 1048] (fun _ _ => False) S0 S0 := zz_fr.refl
  have k2 : ∀ (x2 : Int) (S : zz_S), zz_G S → zz_fr [] [1043, 1048] (fun _ _ => False) S0 S → (0 ≤ x2 ∧ x2 ≤ 3) → zz_E g l zy_endUpTo_10_7 zr_endUpTo_10_7 (zz_QV n (zp_endUpTo_10_7 p0 S0)) S n 2 [some (.ref 1042), some (zi p0), some (zi x2)] [] 0 0 := fun x2 S a b j0 => (zi_endUpTo_10_7 (g := g) (l := l) p0 S0 n hn G_S0 hp0 _) x2 S a b j0 (Nat.lt_succ_self _)
  refine zz_iconst zd_10_7_0 ?_
  refine zz_istore_n [some (.ref 1042), some (zi p0), some (zi 0)] zd_10_7_1 (by decide) rfl ?_
  refine zz_less (ls1 := [some (.ref 1042), some (zi p0), some (zi 0)]) ⟨rfl, ⟨rfl, ⟨rfl, trivial⟩⟩⟩ ?_
  exact k2 0 S0 G_S0 F_S0 (by omega)
theorem zk_Run_62 : mm_Vl "TensorForge$Run" 62 5 1 zy_endUpTo_10_7 := ⟨zyw_endUpTo_10_7, (R_Run, F_Run, 10), rfl, mm_tb_1 729 (by decide +kernel) rfl, mm_tb_1 731 (by decide +kernel) rfl, mm_tb_s 18 (by decide +kernel) rfl⟩
abbrev zy_beginAt_10_8 : mm_Y := (⟨"TensorForge$Run", "beginAt", "(I)I"⟩, prog_10_method_8_code, 4, (some .int))
theorem zyw_beginAt_10_8 : mm_Yw zy_beginAt_10_8 1 := ⟨mm_tb_1 751 (by decide +kernel) rfl, mm_tb_1 6 (by decide +kernel) rfl, ⟨by decide, by decide⟩, by decide +kernel⟩
abbrev zy_hasTokens_10_19 : mm_Y := (⟨"TensorForge$Run", "hasTokens", "(IJ)Z"⟩, prog_10_method_19_code, 4, (some .boolean))
theorem zyw_hasTokens_10_19 : mm_Yw zy_hasTokens_10_19 2 := ⟨mm_tb_1 755 (by decide +kernel) rfl, mm_tb_1 6 (by decide +kernel) rfl, ⟨by decide, by decide⟩, by decide +kernel⟩
theorem zk_Run_150 : mm_Sl "TensorForge$Run" 150 2 zy_has_12_3 := ⟨zyw_has_12_3, mm_tb_1 756 (by decide +kernel) rfl, mm_tb_1 505 (by decide +kernel) rfl⟩
abbrev zy_poppedBehind_10_14 : mm_Y := (⟨"TensorForge$Run", "poppedBehind", "(I)I"⟩, prog_10_method_14_code, 1, (some .int))
theorem zyw_poppedBehind_10_14 : mm_Yw zy_poppedBehind_10_14 1 := ⟨mm_tb_1 766 (by decide +kernel) rfl, mm_tb_1 6 (by decide +kernel) rfl, ⟨by decide, by decide⟩, by decide +kernel⟩
theorem zg_10_2_44 : zq_at zy_follow_10_2.2.1 44 42 ∧ zq_at zy_follow_10_2.2.1 45 21 ∧ zq_at zy_follow_10_2.2.1 46 4 ∧ zq_at zy_follow_10_2.2.1 47 182 ∧ zq_at zy_follow_10_2.2.1 48 0 ∧ zq_at zy_follow_10_2.2.1 49 66 := by decide +kernel
theorem zd_10_2_44 : zz_D zy_follow_10_2 44 (.aload_n 0) 1 45 := ⟨zq_42 zg_10_2_44.1, rfl⟩
theorem zd_10_2_45 : zz_D zy_follow_10_2 45 (.iload 4) 2 47 := ⟨zq_21 zg_10_2_44.2.1 zg_10_2_44.2.2.1, rfl⟩
theorem zd_10_2_47 : zz_D zy_follow_10_2 47 (.invokevirtual 66) 3 50 := ⟨zq_182 zg_10_2_44.2.2.2.1 zg_10_2_44.2.2.2.2.1 zg_10_2_44.2.2.2.2.2 rfl, rfl⟩
theorem zg_10_8_0 : zq_at zy_beginAt_10_8.2.1 0 3 ∧ zq_at zy_beginAt_10_8.2.1 1 61 ∧ zq_at zy_beginAt_10_8.2.1 2 28 ∧ zq_at zy_beginAt_10_8.2.1 3 6 ∧ zq_at zy_beginAt_10_8.2.1 4 162 ∧ zq_at zy_beginAt_10_8.2.1 5 0 ∧ zq_at zy_beginAt_10_8.2.1 6 88 ∧ zq_at zy_beginAt_10_8.2.1 7 42 ∧ zq_at zy_beginAt_10_8.2.1 8 180 ∧ zq_at zy_beginAt_10_8.2.1 9 0 ∧ zq_at zy_beginAt_10_8.2.1 10 29 ∧ zq_at zy_beginAt_10_8.2.1 11 28 ∧ zq_at zy_beginAt_10_8.2.1 12 46 ∧ zq_at zy_beginAt_10_8.2.1 13 62 ∧ zq_at zy_beginAt_10_8.2.1 14 29 ∧ zq_at zy_beginAt_10_8.2.1 15 155 ∧ zq_at zy_beginAt_10_8.2.1 16 0 ∧ zq_at zy_beginAt_10_8.2.1 17 71 ∧ zq_at zy_beginAt_10_8.2.1 86 132 ∧ zq_at zy_beginAt_10_8.2.1 87 2 ∧ zq_at zy_beginAt_10_8.2.1 88 1 ∧ zq_at zy_beginAt_10_8.2.1 89 167 ∧ zq_at zy_beginAt_10_8.2.1 90 255 ∧ zq_at zy_beginAt_10_8.2.1 91 169 := by decide +kernel
theorem zd_10_8_0 : zz_D zy_beginAt_10_8 0 (.iconst 0) 1 1 := ⟨zq_3 zg_10_8_0.1, rfl⟩
theorem zd_10_8_1 : zz_D zy_beginAt_10_8 1 (.istore_n 2) 1 2 := ⟨zq_61 zg_10_8_0.2.1, rfl⟩
theorem zd_10_8_2 : zz_D zy_beginAt_10_8 2 (.iload_n 2) 1 3 := ⟨zq_28 zg_10_8_0.2.2.1, rfl⟩
theorem zd_10_8_3 : zz_D zy_beginAt_10_8 3 (.iconst 3) 1 4 := ⟨zq_6 zg_10_8_0.2.2.2.1, rfl⟩
theorem zd_10_8_4 : zz_B zy_beginAt_10_8 4 (Instr.if_icmp .ge) 92 7 := ⟨88, zq_162 zg_10_8_0.2.2.2.2.1 zg_10_8_0.2.2.2.2.2.1 zg_10_8_0.2.2.2.2.2.2.1 (by decide), rfl, rfl⟩
theorem zd_10_8_7 : zz_D zy_beginAt_10_8 7 (.aload_n 0) 1 8 := ⟨zq_42 zg_10_8_0.2.2.2.2.2.2.2.1, rfl⟩
theorem zd_10_8_8 : zz_D zy_beginAt_10_8 8 (.getfield 29) 3 11 := ⟨zq_180 zg_10_8_0.2.2.2.2.2.2.2.2.1 zg_10_8_0.2.2.2.2.2.2.2.2.2.1 zg_10_8_0.2.2.2.2.2.2.2.2.2.2.1 rfl, rfl⟩
theorem zd_10_8_11 : zz_D zy_beginAt_10_8 11 (.iload_n 2) 1 12 := ⟨zq_28 zg_10_8_0.2.2.2.2.2.2.2.2.2.2.2.1, rfl⟩
theorem zd_10_8_12 : zz_D zy_beginAt_10_8 12 (.iaload) 1 13 := ⟨zq_46 zg_10_8_0.2.2.2.2.2.2.2.2.2.2.2.2.1, rfl⟩
theorem zd_10_8_13 : zz_D zy_beginAt_10_8 13 (.istore_n 3) 1 14 := ⟨zq_62 zg_10_8_0.2.2.2.2.2.2.2.2.2.2.2.2.2.1, rfl⟩
theorem zd_10_8_14 : zz_D zy_beginAt_10_8 14 (.iload_n 3) 1 15 := ⟨zq_29 zg_10_8_0.2.2.2.2.2.2.2.2.2.2.2.2.2.2.1, rfl⟩
theorem zd_10_8_15 : zz_B zy_beginAt_10_8 15 (Instr.ifCond .lt) 86 18 := ⟨71, zq_155 zg_10_8_0.2.2.2.2.2.2.2.2.2.2.2.2.2.2.2.1 zg_10_8_0.2.2.2.2.2.2.2.2.2.2.2.2.2.2.2.2.1 zg_10_8_0.2.2.2.2.2.2.2.2.2.2.2.2.2.2.2.2.2.1 (by decide), rfl, rfl⟩
theorem zd_10_8_86 : zz_D zy_beginAt_10_8 86 (.iinc 2 1) 3 89 := ⟨zq_132 zg_10_8_0.2.2.2.2.2.2.2.2.2.2.2.2.2.2.2.2.2.2.1 zg_10_8_0.2.2.2.2.2.2.2.2.2.2.2.2.2.2.2.2.2.2.2.1 zg_10_8_0.2.2.2.2.2.2.2.2.2.2.2.2.2.2.2.2.2.2.2.2.1 (by decide), rfl⟩
theorem zd_10_8_89 : zz_B zy_beginAt_10_8 89 Instr.goto 2 92 := ⟨(-87), zq_167 zg_10_8_0.2.2.2.2.2.2.2.2.2.2.2.2.2.2.2.2.2.2.2.2.2.1 zg_10_8_0.2.2.2.2.2.2.2.2.2.2.2.2.2.2.2.2.2.2.2.2.2.2.1 zg_10_8_0.2.2.2.2.2.2.2.2.2.2.2.2.2.2.2.2.2.2.2.2.2.2.2 (by decide), rfl, rfl⟩
theorem zg_10_8_18 : zq_at zy_beginAt_10_8.2.1 18 29 ∧ zq_at zy_beginAt_10_8.2.1 19 42 ∧ zq_at zy_beginAt_10_8.2.1 20 180 ∧ zq_at zy_beginAt_10_8.2.1 21 0 ∧ zq_at zy_beginAt_10_8.2.1 22 46 ∧ zq_at zy_beginAt_10_8.2.1 23 162 ∧ zq_at zy_beginAt_10_8.2.1 24 0 ∧ zq_at zy_beginAt_10_8.2.1 25 63 ∧ zq_at zy_beginAt_10_8.2.1 26 42 ∧ zq_at zy_beginAt_10_8.2.1 27 180 ∧ zq_at zy_beginAt_10_8.2.1 28 0 ∧ zq_at zy_beginAt_10_8.2.1 29 32 ∧ zq_at zy_beginAt_10_8.2.1 30 28 ∧ zq_at zy_beginAt_10_8.2.1 31 46 ∧ zq_at zy_beginAt_10_8.2.1 32 2 ∧ zq_at zy_beginAt_10_8.2.1 33 160 ∧ zq_at zy_beginAt_10_8.2.1 34 0 ∧ zq_at zy_beginAt_10_8.2.1 35 53 ∧ zq_at zy_beginAt_10_8.2.1 36 42 ∧ zq_at zy_beginAt_10_8.2.1 37 28 ∧ zq_at zy_beginAt_10_8.2.1 38 42 ∧ zq_at zy_beginAt_10_8.2.1 39 180 ∧ zq_at zy_beginAt_10_8.2.1 40 0 ∧ zq_at zy_beginAt_10_8.2.1 41 19 := by decide +kernel
theorem zd_10_8_18 : zz_D zy_beginAt_10_8 18 (.iload_n 3) 1 19 := ⟨zq_29 zg_10_8_18.1, rfl⟩
theorem zd_10_8_19 : zz_D zy_beginAt_10_8 19 (.aload_n 0) 1 20 := ⟨zq_42 zg_10_8_18.2.1, rfl⟩
theorem zd_10_8_20 : zz_D zy_beginAt_10_8 20 (.getfield 46) 3 23 := ⟨zq_180 zg_10_8_18.2.2.1 zg_10_8_18.2.2.2.1 zg_10_8_18.2.2.2.2.1 rfl, rfl⟩
theorem zd_10_8_23 : zz_B zy_beginAt_10_8 23 (Instr.if_icmp .ge) 86 26 := ⟨63, zq_162 zg_10_8_18.2.2.2.2.2.1 zg_10_8_18.2.2.2.2.2.2.1 zg_10_8_18.2.2.2.2.2.2.2.1 (by decide), rfl, rfl⟩
theorem zd_10_8_26 : zz_D zy_beginAt_10_8 26 (.aload_n 0) 1 27 := ⟨zq_42 zg_10_8_18.2.2.2.2.2.2.2.2.1, rfl⟩
theorem zd_10_8_27 : zz_D zy_beginAt_10_8 27 (.getfield 32) 3 30 := ⟨zq_180 zg_10_8_18.2.2.2.2.2.2.2.2.2.1 zg_10_8_18.2.2.2.2.2.2.2.2.2.2.1 zg_10_8_18.2.2.2.2.2.2.2.2.2.2.2.1 rfl, rfl⟩
theorem zd_10_8_30 : zz_D zy_beginAt_10_8 30 (.iload_n 2) 1 31 := ⟨zq_28 zg_10_8_18.2.2.2.2.2.2.2.2.2.2.2.2.1, rfl⟩
theorem zd_10_8_31 : zz_D zy_beginAt_10_8 31 (.iaload) 1 32 := ⟨zq_46 zg_10_8_18.2.2.2.2.2.2.2.2.2.2.2.2.2.1, rfl⟩
theorem zd_10_8_32 : zz_D zy_beginAt_10_8 32 (.iconst (-1)) 1 33 := ⟨zq_2 zg_10_8_18.2.2.2.2.2.2.2.2.2.2.2.2.2.2.1, rfl⟩
theorem zd_10_8_33 : zz_B zy_beginAt_10_8 33 (Instr.if_icmp .ne) 86 36 := ⟨53, zq_160 zg_10_8_18.2.2.2.2.2.2.2.2.2.2.2.2.2.2.2.1 zg_10_8_18.2.2.2.2.2.2.2.2.2.2.2.2.2.2.2.2.1 zg_10_8_18.2.2.2.2.2.2.2.2.2.2.2.2.2.2.2.2.2.1 (by decide), rfl, rfl⟩
theorem zd_10_8_36 : zz_D zy_beginAt_10_8 36 (.aload_n 0) 1 37 := ⟨zq_42 zg_10_8_18.2.2.2.2.2.2.2.2.2.2.2.2.2.2.2.2.2.2.1, rfl⟩
theorem zd_10_8_37 : zz_D zy_beginAt_10_8 37 (.iload_n 2) 1 38 := ⟨zq_28 zg_10_8_18.2.2.2.2.2.2.2.2.2.2.2.2.2.2.2.2.2.2.2.1, rfl⟩
theorem zd_10_8_38 : zz_D zy_beginAt_10_8 38 (.aload_n 0) 1 39 := ⟨zq_42 zg_10_8_18.2.2.2.2.2.2.2.2.2.2.2.2.2.2.2.2.2.2.2.2.1, rfl⟩
theorem zd_10_8_39 : zz_D zy_beginAt_10_8 39 (.getfield 19) 3 42 := ⟨zq_180 zg_10_8_18.2.2.2.2.2.2.2.2.2.2.2.2.2.2.2.2.2.2.2.2.2.1 zg_10_8_18.2.2.2.2.2.2.2.2.2.2.2.2.2.2.2.2.2.2.2.2.2.2.1 zg_10_8_18.2.2.2.2.2.2.2.2.2.2.2.2.2.2.2.2.2.2.2.2.2.2.2 rfl, rfl⟩
theorem zg_10_8_42 : zq_at zy_beginAt_10_8.2.1 42 29 ∧ zq_at zy_beginAt_10_8.2.1 43 47 ∧ zq_at zy_beginAt_10_8.2.1 44 182 ∧ zq_at zy_beginAt_10_8.2.1 45 0 ∧ zq_at zy_beginAt_10_8.2.1 46 117 := by decide +kernel
theorem zd_10_8_42 : zz_D zy_beginAt_10_8 42 (.iload_n 3) 1 43 := ⟨zq_29 zg_10_8_42.1, rfl⟩
theorem zd_10_8_43 : zz_D zy_beginAt_10_8 43 (.laload) 1 44 := ⟨zq_47 zg_10_8_42.2.1, rfl⟩
theorem zd_10_8_44 : zz_D zy_beginAt_10_8 44 (.invokevirtual 117) 3 47 := ⟨zq_182 zg_10_8_42.2.2.1 zg_10_8_42.2.2.2.1 zg_10_8_42.2.2.2.2 rfl, rfl⟩
theorem zg_10_19_0 : zq_at zy_hasTokens_10_19.2.1 0 32 ∧ zq_at zy_hasTokens_10_19.2.1 1 4 ∧ zq_at zy_hasTokens_10_19.2.1 2 184 ∧ zq_at zy_hasTokens_10_19.2.1 3 0 ∧ zq_at zy_hasTokens_10_19.2.1 4 150 ∧ zq_at zy_hasTokens_10_19.2.1 5 153 ∧ zq_at zy_hasTokens_10_19.2.1 6 0 ∧ zq_at zy_hasTokens_10_19.2.1 7 14 ∧ zq_at zy_hasTokens_10_19.2.1 19 32 ∧ zq_at zy_hasTokens_10_19.2.1 20 5 ∧ zq_at zy_hasTokens_10_19.2.1 21 184 ∧ zq_at zy_hasTokens_10_19.2.1 22 0 ∧ zq_at zy_hasTokens_10_19.2.1 23 150 ∧ zq_at zy_hasTokens_10_19.2.1 24 153 ∧ zq_at zy_hasTokens_10_19.2.1 25 0 ∧ zq_at zy_hasTokens_10_19.2.1 26 14 ∧ zq_at zy_hasTokens_10_19.2.1 38 4 ∧ zq_at zy_hasTokens_10_19.2.1 39 167 ∧ zq_at zy_hasTokens_10_19.2.1 40 0 ∧ zq_at zy_hasTokens_10_19.2.1 41 4 ∧ zq_at zy_hasTokens_10_19.2.1 43 172 ∧ zq_at zy_hasTokens_10_19.2.1 27 42 ∧ zq_at zy_hasTokens_10_19.2.1 28 27 := by decide +kernel
theorem zd_10_19_0 : zz_D zy_hasTokens_10_19 0 (.lload_n 2) 1 1 := ⟨zq_32 zg_10_19_0.1, rfl⟩
theorem zd_10_19_1 : zz_D zy_hasTokens_10_19 1 (.iconst 1) 1 2 := ⟨zq_4 zg_10_19_0.2.1, rfl⟩
theorem zd_10_19_2 : zz_D zy_hasTokens_10_19 2 (.invokestatic 150) 3 5 := ⟨zq_184 zg_10_19_0.2.2.1 zg_10_19_0.2.2.2.1 zg_10_19_0.2.2.2.2.1 rfl, rfl⟩
theorem zd_10_19_5 : zz_B zy_hasTokens_10_19 5 (Instr.ifCond .eq) 19 8 := ⟨14, zq_153 zg_10_19_0.2.2.2.2.2.1 zg_10_19_0.2.2.2.2.2.2.1 zg_10_19_0.2.2.2.2.2.2.2.1 (by decide), rfl, rfl⟩
theorem zd_10_19_19 : zz_D zy_hasTokens_10_19 19 (.lload_n 2) 1 20 := ⟨zq_32 zg_10_19_0.2.2.2.2.2.2.2.2.1, rfl⟩
theorem zd_10_19_20 : zz_D zy_hasTokens_10_19 20 (.iconst 2) 1 21 := ⟨zq_5 zg_10_19_0.2.2.2.2.2.2.2.2.2.1, rfl⟩
theorem zd_10_19_21 : zz_D zy_hasTokens_10_19 21 (.invokestatic 150) 3 24 := ⟨zq_184 zg_10_19_0.2.2.2.2.2.2.2.2.2.2.1 zg_10_19_0.2.2.2.2.2.2.2.2.2.2.2.1 zg_10_19_0.2.2.2.2.2.2.2.2.2.2.2.2.1 rfl, rfl⟩
theorem zd_10_19_24 : zz_B zy_hasTokens_10_19 24 (Instr.ifCond .eq) 38 27 := ⟨14, zq_153 zg_10_19_0.2.2.2.2.2.2.2.2.2.2.2.2.2.1 zg_10_19_0.2.2.2.2.2.2.2.2.2.2.2.2.2.2.1 zg_10_19_0.2.2.2.2.2.2.2.2.2.2.2.2.2.2.2.1 (by decide), rfl, rfl⟩
theorem zd_10_19_38 : zz_D zy_hasTokens_10_19 38 (.iconst 1) 1 39 := ⟨zq_4 zg_10_19_0.2.2.2.2.2.2.2.2.2.2.2.2.2.2.2.2.1, rfl⟩
theorem zd_10_19_39 : zz_B zy_hasTokens_10_19 39 Instr.goto 43 42 := ⟨4, zq_167 zg_10_19_0.2.2.2.2.2.2.2.2.2.2.2.2.2.2.2.2.2.1 zg_10_19_0.2.2.2.2.2.2.2.2.2.2.2.2.2.2.2.2.2.2.1 zg_10_19_0.2.2.2.2.2.2.2.2.2.2.2.2.2.2.2.2.2.2.2.1 (by decide), rfl, rfl⟩
theorem zd_10_19_43 : zz_D zy_hasTokens_10_19 43 (.ireturn) 1 44 := ⟨zq_172 zg_10_19_0.2.2.2.2.2.2.2.2.2.2.2.2.2.2.2.2.2.2.2.2.1, rfl⟩
theorem zd_10_19_27 : zz_D zy_hasTokens_10_19 27 (.aload_n 0) 1 28 := ⟨zq_42 zg_10_19_0.2.2.2.2.2.2.2.2.2.2.2.2.2.2.2.2.2.2.2.2.2.1, rfl⟩
theorem zd_10_19_28 : zz_D zy_hasTokens_10_19 28 (.iload_n 1) 1 29 := ⟨zq_27 zg_10_19_0.2.2.2.2.2.2.2.2.2.2.2.2.2.2.2.2.2.2.2.2.2.2, rfl⟩
theorem zg_10_19_29 : zq_at zy_hasTokens_10_19.2.1 29 184 ∧ zq_at zy_hasTokens_10_19.2.1 30 0 ∧ zq_at zy_hasTokens_10_19.2.1 31 160 := by decide +kernel
theorem zd_10_19_29 : zz_D zy_hasTokens_10_19 29 (.invokestatic 160) 3 32 := ⟨zq_184 zg_10_19_29.1 zg_10_19_29.2.1 zg_10_19_29.2.2 rfl, rfl⟩
theorem zg_10_14_0 : zq_at zy_poppedBehind_10_14.2.1 0 5 ∧ zq_at zy_poppedBehind_10_14.2.1 1 26 ∧ zq_at zy_poppedBehind_10_14.2.1 2 104 ∧ zq_at zy_poppedBehind_10_14.2.1 3 4 ∧ zq_at zy_poppedBehind_10_14.2.1 4 96 ∧ zq_at zy_poppedBehind_10_14.2.1 5 172 := by decide +kernel
theorem zd_10_14_0 : zz_D zy_poppedBehind_10_14 0 (.iconst 2) 1 1 := ⟨zq_5 zg_10_14_0.1, rfl⟩
theorem zd_10_14_1 : zz_D zy_poppedBehind_10_14 1 (.iload_n 0) 1 2 := ⟨zq_26 zg_10_14_0.2.1, rfl⟩
theorem zd_10_14_2 : zz_D zy_poppedBehind_10_14 2 (.imul) 1 3 := ⟨zq_104 zg_10_14_0.2.2.1, rfl⟩
theorem zd_10_14_3 : zz_D zy_poppedBehind_10_14 3 (.iconst 1) 1 4 := ⟨zq_4 zg_10_14_0.2.2.2.1, rfl⟩
theorem zd_10_14_4 : zz_D zy_poppedBehind_10_14 4 (.iadd) 1 5 := ⟨zq_96 zg_10_14_0.2.2.2.2.1, rfl⟩
theorem zd_10_14_5 : zz_D zy_poppedBehind_10_14 5 (.ireturn) 1 6 := ⟨zq_172 zg_10_14_0.2.2.2.2.2, rfl⟩
-- TensorForge$Run poppedBehind (I)I
abbrev zr_poppedBehind_10_14 : Room := { frames := 0, cells := 0, slots := 0, locals := 0 }
def zp_poppedBehind_10_14 (p0 : Int) (S0 : zz_S) : Int → zz_S → Prop := fun r S => S0 = S ∧ (1 ≤ r ∧ r ≤ 5)
theorem zc_poppedBehind_10_14 {g : mm_G} {l : Launch} (p0 : Int) (S0 : zz_S) (n : Nat) (hn : zz_end ≤ n) (G_S0 : zz_G S0) (hp0 : 0 ≤ p0 ∧ p0 ≤ 2) : mm_Met g l zy_poppedBehind_10_14 zr_poppedBehind_10_14 [zi p0] (zz_M S0 n) n (zz_QI n (zp_poppedBehind_10_14 p0 S0)) := by
  refine zz_enter (by decide) (Nat.le_of_ble_eq_true rfl) (zz_less (ls1 := [some (zi p0)]) ⟨rfl, trivial⟩ ?_)
  refine zz_iconst zd_10_14_0 ?_
  refine zz_iload_n (x := p0) rfl zd_10_14_1 ?_
  refine zz_imul zd_10_14_2 ?_
  refine zz_iconst zd_10_14_3 ?_
  refine zz_iadd zd_10_14_4 ?_
  exact zz_iret zd_10_14_5 rfl (Nat.zero_le _) (Nat.zero_le _) ⟨_, _, rfl, rfl, by omega⟩
theorem zk_Run_160 : mm_Sl "TensorForge$Run" 160 1 zy_poppedBehind_10_14 := ⟨zyw_poppedBehind_10_14, mm_tb_1 764 (by decide +kernel) rfl, mm_tb_1 765 (by decide +kernel) rfl⟩
abbrev zy_tokens_10_17 : mm_Y := (⟨"TensorForge$Run", "tokens", "(I)I"⟩, prog_10_method_17_code, 2, (some .int))
theorem zyw_tokens_10_17 : mm_Yw zy_tokens_10_17 1 := ⟨mm_tb_1 763 (by decide +kernel) rfl, mm_tb_1 6 (by decide +kernel) rfl, ⟨by decide, by decide⟩, by decide +kernel⟩
theorem zg_10_19_32 : zq_at zy_hasTokens_10_19.2.1 32 182 ∧ zq_at zy_hasTokens_10_19.2.1 33 0 ∧ zq_at zy_hasTokens_10_19.2.1 34 157 := by decide +kernel
theorem zd_10_19_32 : zz_D zy_hasTokens_10_19 32 (.invokevirtual 157) 3 35 := ⟨zq_182 zg_10_19_32.1 zg_10_19_32.2.1 zg_10_19_32.2.2 rfl, rfl⟩
theorem zg_10_17_0 : zq_at zy_tokens_10_17.2.1 0 27 ∧ zq_at zy_tokens_10_17.2.1 1 155 ∧ zq_at zy_tokens_10_17.2.1 2 0 ∧ zq_at zy_tokens_10_17.2.1 3 12 ∧ zq_at zy_tokens_10_17.2.1 13 3 ∧ zq_at zy_tokens_10_17.2.1 14 167 ∧ zq_at zy_tokens_10_17.2.1 15 0 ∧ zq_at zy_tokens_10_17.2.1 16 12 ∧ zq_at zy_tokens_10_17.2.1 26 172 ∧ zq_at zy_tokens_10_17.2.1 4 16 ∧ zq_at zy_tokens_10_17.2.1 5 6 ∧ zq_at zy_tokens_10_17.2.1 6 27 ∧ zq_at zy_tokens_10_17.2.1 7 96 ∧ zq_at zy_tokens_10_17.2.1 8 16 ∧ zq_at zy_tokens_10_17.2.1 9 10 ∧ zq_at zy_tokens_10_17.2.1 10 161 ∧ zq_at zy_tokens_10_17.2.1 11 0 ∧ zq_at zy_tokens_10_17.2.1 12 7 ∧ zq_at zy_tokens_10_17.2.1 17 42 ∧ zq_at zy_tokens_10_17.2.1 18 180 ∧ zq_at zy_tokens_10_17.2.1 19 0 ∧ zq_at zy_tokens_10_17.2.1 20 15 ∧ zq_at zy_tokens_10_17.2.1 21 16 ∧ zq_at zy_tokens_10_17.2.1 22 6 := by decide +kernel
theorem zd_10_17_0 : zz_D zy_tokens_10_17 0 (.iload_n 1) 1 1 := ⟨zq_27 zg_10_17_0.1, rfl⟩
theorem zd_10_17_1 : zz_B zy_tokens_10_17 1 (Instr.ifCond .lt) 13 4 := ⟨12, zq_155 zg_10_17_0.2.1 zg_10_17_0.2.2.1 zg_10_17_0.2.2.2.1 (by decide), rfl, rfl⟩
theorem zd_10_17_13 : zz_D zy_tokens_10_17 13 (.iconst 0) 1 14 := ⟨zq_3 zg_10_17_0.2.2.2.2.1, rfl⟩
theorem zd_10_17_14 : zz_B zy_tokens_10_17 14 Instr.goto 26 17 := ⟨12, zq_167 zg_10_17_0.2.2.2.2.2.1 zg_10_17_0.2.2.2.2.2.2.1 zg_10_17_0.2.2.2.2.2.2.2.1 (by decide), rfl, rfl⟩
theorem zd_10_17_26 : zz_D zy_tokens_10_17 26 (.ireturn) 1 27 := ⟨zq_172 zg_10_17_0.2.2.2.2.2.2.2.2.1, rfl⟩
theorem zd_10_17_4 : zz_D zy_tokens_10_17 4 (.bipush 6) 2 6 := ⟨zq_16 zg_10_17_0.2.2.2.2.2.2.2.2.2.1 zg_10_17_0.2.2.2.2.2.2.2.2.2.2.1 (by decide), rfl⟩
theorem zd_10_17_6 : zz_D zy_tokens_10_17 6 (.iload_n 1) 1 7 := ⟨zq_27 zg_10_17_0.2.2.2.2.2.2.2.2.2.2.2.1, rfl⟩
theorem zd_10_17_7 : zz_D zy_tokens_10_17 7 (.iadd) 1 8 := ⟨zq_96 zg_10_17_0.2.2.2.2.2.2.2.2.2.2.2.2.1, rfl⟩
theorem zd_10_17_8 : zz_D zy_tokens_10_17 8 (.bipush 10) 2 10 := ⟨zq_16 zg_10_17_0.2.2.2.2.2.2.2.2.2.2.2.2.2.1 zg_10_17_0.2.2.2.2.2.2.2.2.2.2.2.2.2.2.1 (by decide), rfl⟩
theorem zd_10_17_10 : zz_B zy_tokens_10_17 10 (Instr.if_icmp .lt) 17 13 := ⟨7, zq_161 zg_10_17_0.2.2.2.2.2.2.2.2.2.2.2.2.2.2.2.1 zg_10_17_0.2.2.2.2.2.2.2.2.2.2.2.2.2.2.2.2.1 zg_10_17_0.2.2.2.2.2.2.2.2.2.2.2.2.2.2.2.2.2.1 (by decide), rfl, rfl⟩
theorem zd_10_17_17 : zz_D zy_tokens_10_17 17 (.aload_n 0) 1 18 := ⟨zq_42 zg_10_17_0.2.2.2.2.2.2.2.2.2.2.2.2.2.2.2.2.2.2.1, rfl⟩
theorem zd_10_17_18 : zz_D zy_tokens_10_17 18 (.getfield 15) 3 21 := ⟨zq_180 zg_10_17_0.2.2.2.2.2.2.2.2.2.2.2.2.2.2.2.2.2.2.2.1 zg_10_17_0.2.2.2.2.2.2.2.2.2.2.2.2.2.2.2.2.2.2.2.2.1 zg_10_17_0.2.2.2.2.2.2.2.2.2.2.2.2.2.2.2.2.2.2.2.2.2.1 rfl, rfl⟩
theorem zd_10_17_21 : zz_D zy_tokens_10_17 21 (.bipush 6) 2 23 := ⟨zq_16 zg_10_17_0.2.2.2.2.2.2.2.2.2.2.2.2.2.2.2.2.2.2.2.2.2.2.1 zg_10_17_0.2.2.2.2.2.2.2.2.2.2.2.2.2.2.2.2.2.2.2.2.2.2.2 (by decide), rfl⟩
theorem zg_10_17_23 : zq_at zy_tokens_10_17.2.1 23 27 ∧ zq_at zy_tokens_10_17.2.1 24 96 ∧ zq_at zy_tokens_10_17.2.1 25 46 := by decide +kernel
theorem zd_10_17_23 : zz_D zy_tokens_10_17 23 (.iload_n 1) 1 24 := ⟨zq_27 zg_10_17_23.1, rfl⟩
theorem zd_10_17_24 : zz_D zy_tokens_10_17 24 (.iadd) 1 25 := ⟨zq_96 zg_10_17_23.2.1, rfl⟩
theorem zd_10_17_25 : zz_D zy_tokens_10_17 25 (.iaload) 1 26 := ⟨zq_46 zg_10_17_23.2.2, rfl⟩
-- TensorForge$Run tokens (I)I
abbrev zr_tokens_10_17 : Room := { frames := 0, cells := 0, slots := 0, locals := 0 }
def zp_tokens_10_17 (p0 : Int) (S0 : zz_S) : Int → zz_S → Prop := fun r S => S0 = S ∧ ((-2147483648) ≤ r ∧ r ≤ 2147483647)
theorem zc_tokens_10_17 {g : mm_G} {l : Launch} (p0 : Int) (S0 : zz_S) (n : Nat) (hn : zz_end ≤ n) (G_S0 : zz_G S0) (hp0 : (-4) ≤ p0 ∧ p0 ≤ 10) : mm_Met g l zy_tokens_10_17 zr_tokens_10_17 [.ref 1042, zi p0] (zz_M S0 n) n (zz_QI n (zp_tokens_10_17 p0 S0)) := by
  refine zz_enter (by decide) (Nat.le_of_ble_eq_true rfl) (zz_less (ls1 := [some (.ref 1042), some (zi p0)]) ⟨rfl, ⟨rfl, trivial⟩⟩ ?_)
  refine zz_iload_n (x := p0) rfl zd_10_17_0 ?_
  refine zz_if_lt (by omega) zd_10_17_1 (fun c1 => ?_) (fun c1 => ?_)
  · refine zz_iconst zd_10_17_13 ?_
    refine zz_goto zd_10_17_14 ?_
    exact zz_iret zd_10_17_26 rfl (Nat.zero_le _) (Nat.zero_le _) ⟨_, _, rfl, rfl, by omega⟩
  · refine zz_bipush (by decide) zd_10_17_4 ?_
    refine zz_iload_n (x := p0) rfl zd_10_17_6 ?_
    refine zz_iadd zd_10_17_7 ?_
    refine zz_bipush (by decide) zd_10_17_8 ?_
    refine zz_icmp_lt (by omega) (by omega) zd_10_17_10 (fun c2 => ?_) (fun c2 => ?_)
    · refine zz_aload_n (x := 1042) rfl zd_10_17_17 ?_
      refine zz_getr (kd := 0) (z := 1043) zd_10_17_18 zf_Run_15 zT_1042 rfl (zz_ltn hn rfl) (zz_G.eq G_S0 1042 1 1043 rfl rfl) (by decide) 1043 rfl ?_
      refine zz_bipush (by decide) zd_10_17_21 ?_
      refine zz_iload_n (x := p0) rfl zd_10_17_23 ?_
      refine zz_iadd zd_10_17_24 ?_
      have g3 := zz_G.r G_S0 1043 ((6 + p0).toNat) (-2147483648) 2147483647 rfl rfl
      refine zz_iald (z := S0 1043 ((6 + p0).toNat)) zd_10_17_25 zT_1043 rfl (zz_ltn hn rfl) (by decide) (by omega) rfl ?_
      exact zz_iret zd_10_17_26 rfl (Nat.zero_le _) (Nat.zero_le _) ⟨_, _, rfl, rfl, by omega⟩
    · refine zz_iconst zd_10_17_13 ?_
      refine zz_goto zd_10_17_14 ?_
      exact zz_iret zd_10_17_26 rfl (Nat.zero_le _) (Nat.zero_le _) ⟨_, _, rfl, rfl, by omega⟩
theorem zk_Run_157 : mm_Vl "TensorForge$Run" 157 5 1 zy_tokens_10_17 := ⟨zyw_tokens_10_17, (R_Run, F_Run, 10), rfl, mm_tb_1 760 (by decide +kernel) rfl, mm_tb_1 762 (by decide +kernel) rfl, mm_tb_s 23 (by decide +kernel) rfl⟩
abbrev zy_poppedBefore_10_13 : mm_Y := (⟨"TensorForge$Run", "poppedBefore", "(I)I"⟩, prog_10_method_13_code, 1, (some .int))
theorem zyw_poppedBefore_10_13 : mm_Yw zy_poppedBefore_10_13 1 := ⟨mm_tb_1 759 (by decide +kernel) rfl, mm_tb_1 6 (by decide +kernel) rfl, ⟨by decide, by decide⟩, by decide +kernel⟩
theorem zg_10_19_35 : zq_at zy_hasTokens_10_19.2.1 35 158 ∧ zq_at zy_hasTokens_10_19.2.1 36 0 ∧ zq_at zy_hasTokens_10_19.2.1 37 7 ∧ zq_at zy_hasTokens_10_19.2.1 42 3 ∧ zq_at zy_hasTokens_10_19.2.1 8 42 ∧ zq_at zy_hasTokens_10_19.2.1 9 27 ∧ zq_at zy_hasTokens_10_19.2.1 10 184 ∧ zq_at zy_hasTokens_10_19.2.1 11 0 ∧ zq_at zy_hasTokens_10_19.2.1 12 154 := by decide +kernel
theorem zd_10_19_35 : zz_B zy_hasTokens_10_19 35 (Instr.ifCond .le) 42 38 := ⟨7, zq_158 zg_10_19_35.1 zg_10_19_35.2.1 zg_10_19_35.2.2.1 (by decide), rfl, rfl⟩
theorem zd_10_19_42 : zz_D zy_hasTokens_10_19 42 (.iconst 0) 1 43 := ⟨zq_3 zg_10_19_35.2.2.2.1, rfl⟩
theorem zd_10_19_8 : zz_D zy_hasTokens_10_19 8 (.aload_n 0) 1 9 := ⟨zq_42 zg_10_19_35.2.2.2.2.1, rfl⟩
theorem zd_10_19_9 : zz_D zy_hasTokens_10_19 9 (.iload_n 1) 1 10 := ⟨zq_27 zg_10_19_35.2.2.2.2.2.1, rfl⟩
theorem zd_10_19_10 : zz_D zy_hasTokens_10_19 10 (.invokestatic 154) 3 13 := ⟨zq_184 zg_10_19_35.2.2.2.2.2.2.1 zg_10_19_35.2.2.2.2.2.2.2.1 zg_10_19_35.2.2.2.2.2.2.2.2 rfl, rfl⟩
theorem zg_10_13_0 : zq_at zy_poppedBefore_10_13.2.1 0 5 ∧ zq_at zy_poppedBefore_10_13.2.1 1 26 ∧ zq_at zy_poppedBefore_10_13.2.1 2 4 ∧ zq_at zy_poppedBefore_10_13.2.1 3 100 ∧ zq_at zy_poppedBefore_10_13.2.1 4 104 ∧ zq_at zy_poppedBefore_10_13.2.1 5 172 := by decide +kernel
theorem zd_10_13_0 : zz_D zy_poppedBefore_10_13 0 (.iconst 2) 1 1 := ⟨zq_5 zg_10_13_0.1, rfl⟩
theorem zd_10_13_1 : zz_D zy_poppedBefore_10_13 1 (.iload_n 0) 1 2 := ⟨zq_26 zg_10_13_0.2.1, rfl⟩
theorem zd_10_13_2 : zz_D zy_poppedBefore_10_13 2 (.iconst 1) 1 3 := ⟨zq_4 zg_10_13_0.2.2.1, rfl⟩
theorem zd_10_13_3 : zz_D zy_poppedBefore_10_13 3 (.isub) 1 4 := ⟨zq_100 zg_10_13_0.2.2.2.1, rfl⟩
theorem zd_10_13_4 : zz_D zy_poppedBefore_10_13 4 (.imul) 1 5 := ⟨zq_104 zg_10_13_0.2.2.2.2.1, rfl⟩
theorem zd_10_13_5 : zz_D zy_poppedBefore_10_13 5 (.ireturn) 1 6 := ⟨zq_172 zg_10_13_0.2.2.2.2.2, rfl⟩
-- TensorForge$Run poppedBefore (I)I
abbrev zr_poppedBefore_10_13 : Room := { frames := 0, cells := 0, slots := 0, locals := 0 }
def zp_poppedBefore_10_13 (p0 : Int) (S0 : zz_S) : Int → zz_S → Prop := fun r S => S0 = S ∧ ((-2) ≤ r ∧ r ≤ 2)
theorem zc_poppedBefore_10_13 {g : mm_G} {l : Launch} (p0 : Int) (S0 : zz_S) (n : Nat) (hn : zz_end ≤ n) (G_S0 : zz_G S0) (hp0 : 0 ≤ p0 ∧ p0 ≤ 2) : mm_Met g l zy_poppedBefore_10_13 zr_poppedBefore_10_13 [zi p0] (zz_M S0 n) n (zz_QI n (zp_poppedBefore_10_13 p0 S0)) := by
  refine zz_enter (by decide) (Nat.le_of_ble_eq_true rfl) (zz_less (ls1 := [some (zi p0)]) ⟨rfl, trivial⟩ ?_)
  refine zz_iconst zd_10_13_0 ?_
  refine zz_iload_n (x := p0) rfl zd_10_13_1 ?_
  refine zz_iconst zd_10_13_2 ?_
  refine zz_isub zd_10_13_3 ?_
  refine zz_imul zd_10_13_4 ?_
  exact zz_iret zd_10_13_5 rfl (Nat.zero_le _) (Nat.zero_le _) ⟨_, _, rfl, rfl, by omega⟩
theorem zk_Run_154 : mm_Sl "TensorForge$Run" 154 1 zy_poppedBefore_10_13 := ⟨zyw_poppedBefore_10_13, mm_tb_1 757 (by decide +kernel) rfl, mm_tb_1 758 (by decide +kernel) rfl⟩
theorem zg_10_19_13 : zq_at zy_hasTokens_10_19.2.1 13 182 ∧ zq_at zy_hasTokens_10_19.2.1 14 0 ∧ zq_at zy_hasTokens_10_19.2.1 15 157 ∧ zq_at zy_hasTokens_10_19.2.1 16 158 ∧ zq_at zy_hasTokens_10_19.2.1 17 0 ∧ zq_at zy_hasTokens_10_19.2.1 18 26 := by decide +kernel
theorem zd_10_19_13 : zz_D zy_hasTokens_10_19 13 (.invokevirtual 157) 3 16 := ⟨zq_182 zg_10_19_13.1 zg_10_19_13.2.1 zg_10_19_13.2.2.1 rfl, rfl⟩
theorem zd_10_19_16 : zz_B zy_hasTokens_10_19 16 (Instr.ifCond .le) 42 19 := ⟨26, zq_158 zg_10_19_13.2.2.2.1 zg_10_19_13.2.2.2.2.1 zg_10_19_13.2.2.2.2.2 (by decide), rfl, rfl⟩
-- TensorForge$Run hasTokens (IJ)Z
abbrev zr_hasTokens_10_19 : Room := { frames := 2, cells := 0, slots := 0, locals := 28 }
def zp_hasTokens_10_19 (p0 : Int) (p1 : Int) (S0 : zz_S) : Int → zz_S → Prop := fun r S => S0 = S ∧ (0 ≤ r ∧ r ≤ 1)
theorem zc_hasTokens_10_19 {g : mm_G} {l : Launch} (p0 : Int) (p1 : Int) (S0 : zz_S) (n : Nat) (hn : zz_end ≤ n) (G_S0 : zz_G S0) (hp0 : 0 ≤ p0 ∧ p0 ≤ 2) (hp1 : (-9223372036854775808) ≤ p1 ∧ p1 ≤ 9223372036854775807) : mm_Met g l zy_hasTokens_10_19 zr_hasTokens_10_19 [.ref 1042, zi p0, zl p1] (zz_M S0 n) n (zz_QI n (zp_hasTokens_10_19 p0 p1 S0)) := by
  refine zz_enter (by decide) (Nat.le_of_ble_eq_true rfl) (zz_less (ls1 := [some (.ref 1042), some (zi p0), some (zl p1), none]) ⟨rfl, ⟨rfl, ⟨rfl, trivial⟩⟩⟩ ?_)
  refine zz_lload_n (x := p1) rfl zd_10_19_0 ?_
  refine zz_iconst zd_10_19_1 ?_
  refine zz_callSI [zl p1, zi 1] zd_10_19_2 zk_Run_150 rfl rfl ⟨Nat.le_of_ble_eq_true rfl, Nat.le_of_ble_eq_true rfl⟩ ⟨rfl, rfl⟩ (Nat.zero_le _) (Nat.zero_le _) (zc_has_12_3x_1 p1 S0 n hn G_S0 (by omega)) (fun v2 S1 hP => ?_)
  obtain ⟨rfl, o3, o4⟩ := hP
  rcases (by omega : v2 = 0 ∨ v2 = 1) with rfl | rfl
  · refine zz_if_eq (by omega) zd_10_19_5 (fun c5 => ?_) (fun c5 => ?_)
    · refine zz_lload_n (x := p1) rfl zd_10_19_19 ?_
      refine zz_iconst zd_10_19_20 ?_
      refine zz_callSI [zl p1, zi 2] zd_10_19_21 zk_Run_150 rfl rfl ⟨Nat.le_of_ble_eq_true rfl, Nat.le_of_ble_eq_true rfl⟩ ⟨rfl, rfl⟩ (Nat.zero_le _) (Nat.zero_le _) (zc_has_12_3x_2 p1 S0 n hn G_S0 (by omega)) (fun v7 S6 hP => ?_)
      obtain ⟨rfl, o8, o9⟩ := hP
      rcases (by omega : v7 = 0 ∨ v7 = 1) with rfl | rfl
      · refine zz_if_eq (by omega) zd_10_19_24 (fun c10 => ?_) (fun c10 => ?_)
        · refine zz_iconst zd_10_19_38 ?_
          refine zz_goto zd_10_19_39 ?_
          exact zz_zret zd_10_19_43 rfl (by omega) (Nat.zero_le _) (Nat.zero_le _) ⟨_, _, rfl, rfl, by omega⟩
        · exfalso; omega
      · refine zz_if_eq (by omega) zd_10_19_24 (fun c11 => ?_) (fun c11 => ?_)
        · exfalso; omega
        · refine zz_aload_n (x := 1042) rfl zd_10_19_27 ?_
          refine zz_iload_n (x := p0) rfl zd_10_19_28 ?_
          refine zz_callSI [zi p0] zd_10_19_29 zk_Run_160 rfl rfl ⟨Nat.le_of_ble_eq_true rfl, Nat.le_of_ble_eq_true rfl⟩ ⟨rfl, rfl⟩ (Nat.zero_le _) (Nat.zero_le _) (zc_poppedBehind_10_14 p0 S0 n hn G_S0 (by omega)) (fun v13 S12 hP => ?_)
          obtain ⟨rfl, o14⟩ := hP
          refine zz_callVI [zi v13] zd_10_19_32 zk_Run_157 zT_1042 (zz_ltn hn rfl) rfl rfl ⟨Nat.le_of_ble_eq_true rfl, Nat.le_of_ble_eq_true rfl⟩ ⟨rfl, rfl⟩ (Nat.zero_le _) (Nat.zero_le _) (zc_tokens_10_17 v13 S0 n hn G_S0 (by omega)) (fun v16 S15 hP => ?_)
          obtain ⟨rfl, o17⟩ := hP
          refine zz_if_le (by omega) zd_10_19_35 (fun c18 => ?_) (fun c18 => ?_)
          · refine zz_iconst zd_10_19_42 ?_
            exact zz_zret zd_10_19_43 rfl (by omega) (Nat.zero_le _) (Nat.zero_le _) ⟨_, _, rfl, rfl, by omega⟩
          · refine zz_iconst zd_10_19_38 ?_
            refine zz_goto zd_10_19_39 ?_
            exact zz_zret zd_10_19_43 rfl (by omega) (Nat.zero_le _) (Nat.zero_le _) ⟨_, _, rfl, rfl, by omega⟩
    · exfalso; omega
  · refine zz_if_eq (by omega) zd_10_19_5 (fun c19 => ?_) (fun c19 => ?_)
    · exfalso; omega
    · refine zz_aload_n (x := 1042) rfl zd_10_19_8 ?_
      refine zz_iload_n (x := p0) rfl zd_10_19_9 ?_
      refine zz_callSI [zi p0] zd_10_19_10 zk_Run_154 rfl rfl ⟨Nat.le_of_ble_eq_true rfl, Nat.le_of_ble_eq_true rfl⟩ ⟨rfl, rfl⟩ (Nat.zero_le _) (Nat.zero_le _) (zc_poppedBefore_10_13 p0 S0 n hn G_S0 (by omega)) (fun v21 S20 hP => ?_)
      obtain ⟨rfl, o22⟩ := hP
      refine zz_callVI [zi v21] zd_10_19_13 zk_Run_157 zT_1042 (zz_ltn hn rfl) rfl rfl ⟨Nat.le_of_ble_eq_true rfl, Nat.le_of_ble_eq_true rfl⟩ ⟨rfl, rfl⟩ (Nat.zero_le _) (Nat.zero_le _) (zc_tokens_10_17 v21 S0 n hn G_S0 (by omega)) (fun v24 S23 hP => ?_)
      obtain ⟨rfl, o25⟩ := hP
      refine zz_if_le (by omega) zd_10_19_16 (fun c26 => ?_) (fun c26 => ?_)
      · refine zz_iconst zd_10_19_42 ?_
        exact zz_zret zd_10_19_43 rfl (by omega) (Nat.zero_le _) (Nat.zero_le _) ⟨_, _, rfl, rfl, by omega⟩
      · refine zz_lload_n (x := p1) rfl zd_10_19_19 ?_
        refine zz_iconst zd_10_19_20 ?_
        refine zz_callSI [zl p1, zi 2] zd_10_19_21 zk_Run_150 rfl rfl ⟨Nat.le_of_ble_eq_true rfl, Nat.le_of_ble_eq_true rfl⟩ ⟨rfl, rfl⟩ (Nat.zero_le _) (Nat.zero_le _) (zc_has_12_3x_2 p1 S0 n hn G_S0 (by omega)) (fun v28 S27 hP => ?_)
        obtain ⟨rfl, o29, o30⟩ := hP
        rcases (by omega : v28 = 0 ∨ v28 = 1) with rfl | rfl
        · refine zz_if_eq (by omega) zd_10_19_24 (fun c31 => ?_) (fun c31 => ?_)
          · refine zz_iconst zd_10_19_38 ?_
            refine zz_goto zd_10_19_39 ?_
            exact zz_zret zd_10_19_43 rfl (by omega) (Nat.zero_le _) (Nat.zero_le _) ⟨_, _, rfl, rfl, by omega⟩
          · exfalso; omega
        · refine zz_if_eq (by omega) zd_10_19_24 (fun c32 => ?_) (fun c32 => ?_)
          · exfalso; omega
          · refine zz_aload_n (x := 1042) rfl zd_10_19_27 ?_
            refine zz_iload_n (x := p0) rfl zd_10_19_28 ?_
            refine zz_callSI [zi p0] zd_10_19_29 zk_Run_160 rfl rfl ⟨Nat.le_of_ble_eq_true rfl, Nat.le_of_ble_eq_true rfl⟩ ⟨rfl, rfl⟩ (Nat.zero_le _) (Nat.zero_le _) (zc_poppedBehind_10_14 p0 S0 n hn G_S0 (by omega)) (fun v34 S33 hP => ?_)
            obtain ⟨rfl, o35⟩ := hP
            refine zz_callVI [zi v34] zd_10_19_32 zk_Run_157 zT_1042 (zz_ltn hn rfl) rfl rfl ⟨Nat.le_of_ble_eq_true rfl, Nat.le_of_ble_eq_true rfl⟩ ⟨rfl, rfl⟩ (Nat.zero_le _) (Nat.zero_le _) (zc_tokens_10_17 v34 S0 n hn G_S0 (by omega)) (fun v37 S36 hP => ?_)
            obtain ⟨rfl, o38⟩ := hP
            refine zz_if_le (by omega) zd_10_19_35 (fun c39 => ?_) (fun c39 => ?_)
            · refine zz_iconst zd_10_19_42 ?_
              exact zz_zret zd_10_19_43 rfl (by omega) (Nat.zero_le _) (Nat.zero_le _) ⟨_, _, rfl, rfl, by omega⟩
            · refine zz_iconst zd_10_19_38 ?_
              refine zz_goto zd_10_19_39 ?_
              exact zz_zret zd_10_19_43 rfl (by omega) (Nat.zero_le _) (Nat.zero_le _) ⟨_, _, rfl, rfl, by omega⟩
theorem zk_Run_117 : mm_Vl "TensorForge$Run" 117 5 2 zy_hasTokens_10_19 := ⟨zyw_hasTokens_10_19, (R_Run, F_Run, 10), rfl, mm_tb_1 752 (by decide +kernel) rfl, mm_tb_1 754 (by decide +kernel) rfl, mm_tb_s 22 (by decide +kernel) rfl⟩
theorem zf_Run_121 : mm_Fl "TensorForge$Run" 121 3 6 .int false := ⟨R_Machine, F_Machine, 14, t_Machine, rfl, i_Machine, by decide, mm_tb_1 192 (by decide +kernel) rfl, rfl, t_Machine_ok, n_Machine, rfl, by decide +kernel⟩
theorem zg_10_8_47 : zq_at zy_beginAt_10_8.2.1 47 153 ∧ zq_at zy_beginAt_10_8.2.1 48 0 ∧ zq_at zy_beginAt_10_8.2.1 49 39 ∧ zq_at zy_beginAt_10_8.2.1 50 42 ∧ zq_at zy_beginAt_10_8.2.1 51 180 ∧ zq_at zy_beginAt_10_8.2.1 52 0 ∧ zq_at zy_beginAt_10_8.2.1 53 42 ∧ zq_at zy_beginAt_10_8.2.1 54 42 ∧ zq_at zy_beginAt_10_8.2.1 55 180 ∧ zq_at zy_beginAt_10_8.2.1 56 0 ∧ zq_at zy_beginAt_10_8.2.1 57 19 ∧ zq_at zy_beginAt_10_8.2.1 58 29 ∧ zq_at zy_beginAt_10_8.2.1 59 47 ∧ zq_at zy_beginAt_10_8.2.1 60 42 ∧ zq_at zy_beginAt_10_8.2.1 61 180 ∧ zq_at zy_beginAt_10_8.2.1 62 0 ∧ zq_at zy_beginAt_10_8.2.1 63 9 ∧ zq_at zy_beginAt_10_8.2.1 64 180 ∧ zq_at zy_beginAt_10_8.2.1 65 0 ∧ zq_at zy_beginAt_10_8.2.1 66 121 ∧ zq_at zy_beginAt_10_8.2.1 67 182 ∧ zq_at zy_beginAt_10_8.2.1 68 0 ∧ zq_at zy_beginAt_10_8.2.1 69 124 := by decide +kernel
theorem zd_10_8_47 : zz_B zy_beginAt_10_8 47 (Instr.ifCond .eq) 86 50 := ⟨39, zq_153 zg_10_8_47.1 zg_10_8_47.2.1 zg_10_8_47.2.2.1 (by decide), rfl, rfl⟩
theorem zd_10_8_50 : zz_D zy_beginAt_10_8 50 (.aload_n 0) 1 51 := ⟨zq_42 zg_10_8_47.2.2.2.1, rfl⟩
theorem zd_10_8_51 : zz_D zy_beginAt_10_8 51 (.getfield 42) 3 54 := ⟨zq_180 zg_10_8_47.2.2.2.2.1 zg_10_8_47.2.2.2.2.2.1 zg_10_8_47.2.2.2.2.2.2.1 rfl, rfl⟩
theorem zd_10_8_54 : zz_D zy_beginAt_10_8 54 (.aload_n 0) 1 55 := ⟨zq_42 zg_10_8_47.2.2.2.2.2.2.2.1, rfl⟩
theorem zd_10_8_55 : zz_D zy_beginAt_10_8 55 (.getfield 19) 3 58 := ⟨zq_180 zg_10_8_47.2.2.2.2.2.2.2.2.1 zg_10_8_47.2.2.2.2.2.2.2.2.2.1 zg_10_8_47.2.2.2.2.2.2.2.2.2.2.1 rfl, rfl⟩
theorem zd_10_8_58 : zz_D zy_beginAt_10_8 58 (.iload_n 3) 1 59 := ⟨zq_29 zg_10_8_47.2.2.2.2.2.2.2.2.2.2.2.1, rfl⟩
theorem zd_10_8_59 : zz_D zy_beginAt_10_8 59 (.laload) 1 60 := ⟨zq_47 zg_10_8_47.2.2.2.2.2.2.2.2.2.2.2.2.1, rfl⟩
theorem zd_10_8_60 : zz_D zy_beginAt_10_8 60 (.aload_n 0) 1 61 := ⟨zq_42 zg_10_8_47.2.2.2.2.2.2.2.2.2.2.2.2.2.1, rfl⟩
theorem zd_10_8_61 : zz_D zy_beginAt_10_8 61 (.getfield 9) 3 64 := ⟨zq_180 zg_10_8_47.2.2.2.2.2.2.2.2.2.2.2.2.2.2.1 zg_10_8_47.2.2.2.2.2.2.2.2.2.2.2.2.2.2.2.1 zg_10_8_47.2.2.2.2.2.2.2.2.2.2.2.2.2.2.2.2.1 rfl, rfl⟩
theorem zd_10_8_64 : zz_D zy_beginAt_10_8 64 (.getfield 121) 3 67 := ⟨zq_180 zg_10_8_47.2.2.2.2.2.2.2.2.2.2.2.2.2.2.2.2.2.1 zg_10_8_47.2.2.2.2.2.2.2.2.2.2.2.2.2.2.2.2.2.2.1 zg_10_8_47.2.2.2.2.2.2.2.2.2.2.2.2.2.2.2.2.2.2.2.1 rfl, rfl⟩
theorem zd_10_8_67 : zz_D zy_beginAt_10_8 67 (.invokevirtual 124) 3 70 := ⟨zq_182 zg_10_8_47.2.2.2.2.2.2.2.2.2.2.2.2.2.2.2.2.2.2.2.2.1 zg_10_8_47.2.2.2.2.2.2.2.2.2.2.2.2.2.2.2.2.2.2.2.2.2.1 zg_10_8_47.2.2.2.2.2.2.2.2.2.2.2.2.2.2.2.2.2.2.2.2.2.2 rfl, rfl⟩
-- java/util/Arrays fill ([II)V
abbrev zr_fill_27_103_k5a1 : Room := { frames := 0, cells := 0, slots := 0, locals := 0 }
def zp_fill_27_103_k5a1 (q0 : Int) (p1 : Int) (S0 : zz_S) : zz_S → Prop := fun S => zz_G S ∧ zz_fr [] [] (fun a i => a = zz_rf 5 q0 + 1) S0 S
theorem zb_fill_27_103_k5a1_5 {g : mm_G} {l : Launch} (q0 : Int) (p1 : Int) (S0 : zz_S) (n : Nat) (hn : zz_end ≤ n) (G_S0 : zz_G S0) (hq0 : 0 ≤ q0 ∧ q0 ≤ 4) (hp1 : (-2147483648) ≤ p1 ∧ p1 ≤ 2147483647) (x2 : Int) (S : zz_S) (G_S : zz_G S) (F_S : zz_fr [] [] (fun a i => a = zz_rf 5 q0 + 1) S0 S) (i5_0 : 0 ≤ x2 ∧ x2 ≤ 5) (R : Nat) (hR : (5 - x2).toNat = R) (k5 : ∀ (x2 : Int) (S : zz_S), zz_G S → zz_fr [] [] (fun a i => a = zz_rf 5 q0 + 1) S0 S → (0 ≤ x2 ∧ x2 ≤ 5) → (5 - x2).toNat < R → zz_E g l zy_fill_27_103 zr_fill_27_103_k5a1 (zz_QV n (zp_fill_27_103_k5a1 q0 p1 S0)) S n 5 [some (.ref (zz_rf 5 q0 + 1)), some (zi p1), some (zi x2), some (zi 5)] [] 0 0) : zz_E g l zy_fill_27_103 zr_fill_27_103_k5a1 (zz_QV n (zp_fill_27_103_k5a1 q0 p1 S0)) S n 5 [some (.ref (zz_rf 5 q0 + 1)), some (zi p1), some (zi x2), some (zi 5)] [] 0 0 := by
  have b_q0 := zz_rf5 (z := q0) (by omega)
  refine zz_iload_n (x := x2) rfl zd_27_103_5 ?_
  refine zz_iload_n (x := 5) rfl zd_27_103_6 ?_
  refine zz_icmp_ge (by omega) (by omega) zd_27_103_7 (fun c1 => ?_) (fun c1 => ?_)
  · exact zz_vret zd_27_103_20 rfl (Nat.zero_le _) (Nat.zero_le _) ⟨_, rfl, G_S, F_S⟩
  · refine zz_aload_n (x := zz_rf 5 q0 + 1) rfl zd_27_103_10 ?_
    refine zz_iload_n (x := x2) rfl zd_27_103_11 ?_
    refine zz_iload_n (x := p1) rfl zd_27_103_12 ?_
    refine zz_iast zd_27_103_13 (zT_k5a1 (by omega)) rfl (zN_k5a1 hn (by omega)) (by decide) (by omega) (fun S2 qS2 => ?_)
    have G_S2 := zz_G.put G_S qS2 (-2147483648) 2147483647 (zR_k5a1 (by omega)) (by omega)
    have F_S2 := zz_fr.putv F_S qS2 (rfl)
    refine zz_iinc [some (.ref (zz_rf 5 q0 + 1)), some (zi p1), some (zi (x2 + 1)), some (zi 5)] zd_27_103_14 rfl rfl ?_
    refine zz_goto zd_27_103_17 ?_
    refine zz_less (ls1 := [some (.ref (zz_rf 5 q0 + 1)), some (zi p1), some (zi (x2 + 1)), some (zi 5)]) ⟨rfl, ⟨rfl, ⟨rfl, ⟨rfl, trivial⟩⟩⟩⟩ ?_
    exact k5 (x2 + 1) S2 G_S2 F_S2 (by omega) (by omega)
theorem zi_fill_27_103_k5a1 {g : mm_G} {l : Launch} (q0 : Int) (p1 : Int) (S0 : zz_S) (n : Nat) (hn : zz_end ≤ n) (G_S0 : zz_G S0) (hq0 : 0 ≤ q0 ∧ q0 ≤ 4) (hp1 : (-2147483648) ≤ p1 ∧ p1 ≤ 2147483647) : ∀ N : Nat, (∀ (x2 : Int) (S : zz_S), zz_G S → zz_fr [] [] (fun a i => a = zz_rf 5 q0 + 1) S0 S → (0 ≤ x2 ∧ x2 ≤ 5) → (5 - x2).toNat < N → zz_E g l zy_fill_27_103 zr_fill_27_103_k5a1 (zz_QV n (zp_fill_27_103_k5a1 q0 p1 S0)) S n 5 [some (.ref (zz_rf 5 q0 + 1)), some (zi p1), some (zi x2), some (zi 5)] [] 0 0) := by
  intro N
  induction N with
  | zero => exact fun x2 S _ _ _ h => absurd h (Nat.not_lt_zero _)
  | succ N ih =>
    exact fun x2 S a b j0 hR => zb_fill_27_103_k5a1_5 q0 p1 S0 n hn G_S0 hq0 hp1 x2 S a b j0 _ rfl (fun x2 S a b j0 h => ih x2 S a b j0 (Nat.lt_of_lt_of_le h (Nat.le_of_lt_succ hR)))
theorem zc_fill_27_103_k5a1 {g : mm_G} {l : Launch} (q0 : Int) (p1 : Int) (S0 : zz_S) (n : Nat) (hn : zz_end ≤ n) (G_S0 : zz_G S0) (hq0 : 0 ≤ q0 ∧ q0 ≤ 4) (hp1 : (-2147483648) ≤ p1 ∧ p1 ≤ 2147483647) : mm_Met g l zy_fill_27_103 zr_fill_27_103_k5a1 [.ref (zz_rf 5 q0 + 1), zi p1] (zz_M S0 n) n (zz_QV n (zp_fill_27_103_k5a1 q0 p1 S0)) := by
  refine zz_enter (by decide) (Nat.le_of_ble_eq_true rfl) (zz_less (ls1 := [some (.ref (zz_rf 5 q0 + 1)), some (zi p1)]) ⟨rfl, ⟨rfl, trivial⟩⟩ ?_)
  have F_S0 : zz_fr [] [] (fun a i => a = zz_rf 5 q0 + 1) S0 S0 := zz_fr.refl
  have k5 : ∀ (x2 : Int) (S : zz_S), zz_G S → zz_fr [] [] (fun a i => a = zz_rf 5 q0 + 1) S0 S → (0 ≤ x2 ∧ x2 ≤ 5) → zz_E g l zy_fill_27_103 zr_fill_27_103_k5a1 (zz_QV n (zp_fill_27_103_k5a1 q0 p1 S0)) S n 5 [some (.ref (zz_rf 5 q0 + 1)), some (zi p1), some (zi x2), some (zi 5)] [] 0 0 := fun x2 S a b j0 => (zi_fill_27_103_k5a1 (g := g) (l := l) q0 p1 S0 n hn G_S0 hq0 hp1 _) x2 S a b j0 (Nat.lt_succ_self _)
  have b_q0 := zz_rf5 (z := q0) (by omega)
  refine zz_iconst zd_27_103_0 ?_
  refine zz_istore_n [some (.ref (zz_rf 5 q0 + 1)), some (zi p1), some (zi 0)] zd_27_103_1 (by decide) rfl ?_
  refine zz_aload_n (x := zz_rf 5 q0 + 1) rfl zd_27_103_2 ?_
  refine zz_alen zd_27_103_3 (zT_k5a1 (by omega)) rfl (zN_k5a1 hn (by omega)) ?_
  refine zz_istore_n [some (.ref (zz_rf 5 q0 + 1)), some (zi p1), some (zi 0), some (zi 5)] zd_27_103_4 (by decide) rfl ?_
  refine zz_less (ls1 := [some (.ref (zz_rf 5 q0 + 1)), some (zi p1), some (zi 0), some (zi 5)]) ⟨rfl, ⟨rfl, ⟨rfl, ⟨rfl, trivial⟩⟩⟩⟩ ?_
  exact k5 0 S0 G_S0 F_S0 (by omega)
-- java/util/Arrays fill ([II)V
abbrev zr_fill_27_103_k5a2 : Room := { frames := 0, cells := 0, slots := 0, locals := 0 }
def zp_fill_27_103_k5a2 (q0 : Int) (p1 : Int) (S0 : zz_S) : zz_S → Prop := fun S => zz_G S ∧ zz_fr [] [] (fun a i => a = zz_rf 5 q0 + 2) S0 S
theorem zb_fill_27_103_k5a2_5 {g : mm_G} {l : Launch} (q0 : Int) (p1 : Int) (S0 : zz_S) (n : Nat) (hn : zz_end ≤ n) (G_S0 : zz_G S0) (hq0 : 0 ≤ q0 ∧ q0 ≤ 4) (hp1 : (-2147483648) ≤ p1 ∧ p1 ≤ 2147483647) (x2 : Int) (S : zz_S) (G_S : zz_G S) (F_S : zz_fr [] [] (fun a i => a = zz_rf 5 q0 + 2) S0 S) (i5_0 : 0 ≤ x2 ∧ x2 ≤ 5) (R : Nat) (hR : (5 - x2).toNat = R) (k5 : ∀ (x2 : Int) (S : zz_S), zz_G S → zz_fr [] [] (fun a i => a = zz_rf 5 q0 + 2) S0 S → (0 ≤ x2 ∧ x2 ≤ 5) → (5 - x2).toNat < R → zz_E g l zy_fill_27_103 zr_fill_27_103_k5a2 (zz_QV n (zp_fill_27_103_k5a2 q0 p1 S0)) S n 5 [some (.ref (zz_rf 5 q0 + 2)), some (zi p1), some (zi x2), some (zi 5)] [] 0 0) : zz_E g l zy_fill_27_103 zr_fill_27_103_k5a2 (zz_QV n (zp_fill_27_103_k5a2 q0 p1 S0)) S n 5 [some (.ref (zz_rf 5 q0 + 2)), some (zi p1), some (zi x2), some (zi 5)] [] 0 0 := by
  have b_q0 := zz_rf5 (z := q0) (by omega)
  refine zz_iload_n (x := x2) rfl zd_27_103_5 ?_
  refine zz_iload_n (x := 5) rfl zd_27_103_6 ?_
  refine zz_icmp_ge (by omega) (by omega) zd_27_103_7 (fun c1 => ?_) (fun c1 => ?_)
  · exact zz_vret zd_27_103_20 rfl (Nat.zero_le _) (Nat.zero_le _) ⟨_, rfl, G_S, F_S⟩
  · refine zz_aload_n (x := zz_rf 5 q0 + 2) rfl zd_27_103_10 ?_
    refine zz_iload_n (x := x2) rfl zd_27_103_11 ?_
    refine zz_iload_n (x := p1) rfl zd_27_103_12 ?_
    refine zz_iast zd_27_103_13 (zT_k5a2 (by omega)) rfl (zN_k5a2 hn (by omega)) (by decide) (by omega) (fun S2 qS2 => ?_)
    have G_S2 := zz_G.put G_S qS2 (-2147483648) 2147483647 (zR_k5a2 (by omega)) (by omega)
    have F_S2 := zz_fr.putv F_S qS2 (rfl)
    refine zz_iinc [some (.ref (zz_rf 5 q0 + 2)), some (zi p1), some (zi (x2 + 1)), some (zi 5)] zd_27_103_14 rfl rfl ?_
    refine zz_goto zd_27_103_17 ?_
    refine zz_less (ls1 := [some (.ref (zz_rf 5 q0 + 2)), some (zi p1), some (zi (x2 + 1)), some (zi 5)]) ⟨rfl, ⟨rfl, ⟨rfl, ⟨rfl, trivial⟩⟩⟩⟩ ?_
    exact k5 (x2 + 1) S2 G_S2 F_S2 (by omega) (by omega)
theorem zi_fill_27_103_k5a2 {g : mm_G} {l : Launch} (q0 : Int) (p1 : Int) (S0 : zz_S) (n : Nat) (hn : zz_end ≤ n) (G_S0 : zz_G S0) (hq0 : 0 ≤ q0 ∧ q0 ≤ 4) (hp1 : (-2147483648) ≤ p1 ∧ p1 ≤ 2147483647) : ∀ N : Nat, (∀ (x2 : Int) (S : zz_S), zz_G S → zz_fr [] [] (fun a i => a = zz_rf 5 q0 + 2) S0 S → (0 ≤ x2 ∧ x2 ≤ 5) → (5 - x2).toNat < N → zz_E g l zy_fill_27_103 zr_fill_27_103_k5a2 (zz_QV n (zp_fill_27_103_k5a2 q0 p1 S0)) S n 5 [some (.ref (zz_rf 5 q0 + 2)), some (zi p1), some (zi x2), some (zi 5)] [] 0 0) := by
  intro N
  induction N with
  | zero => exact fun x2 S _ _ _ h => absurd h (Nat.not_lt_zero _)
  | succ N ih =>
    exact fun x2 S a b j0 hR => zb_fill_27_103_k5a2_5 q0 p1 S0 n hn G_S0 hq0 hp1 x2 S a b j0 _ rfl (fun x2 S a b j0 h => ih x2 S a b j0 (Nat.lt_of_lt_of_le h (Nat.le_of_lt_succ hR)))
theorem zc_fill_27_103_k5a2 {g : mm_G} {l : Launch} (q0 : Int) (p1 : Int) (S0 : zz_S) (n : Nat) (hn : zz_end ≤ n) (G_S0 : zz_G S0) (hq0 : 0 ≤ q0 ∧ q0 ≤ 4) (hp1 : (-2147483648) ≤ p1 ∧ p1 ≤ 2147483647) : mm_Met g l zy_fill_27_103 zr_fill_27_103_k5a2 [.ref (zz_rf 5 q0 + 2), zi p1] (zz_M S0 n) n (zz_QV n (zp_fill_27_103_k5a2 q0 p1 S0)) := by
  refine zz_enter (by decide) (Nat.le_of_ble_eq_true rfl) (zz_less (ls1 := [some (.ref (zz_rf 5 q0 + 2)), some (zi p1)]) ⟨rfl, ⟨rfl, trivial⟩⟩ ?_)
  have F_S0 : zz_fr [] [] (fun a i => a = zz_rf 5 q0 + 2) S0 S0 := zz_fr.refl
  have k5 : ∀ (x2 : Int) (S : zz_S), zz_G S → zz_fr [] [] (fun a i => a = zz_rf 5 q0 + 2) S0 S → (0 ≤ x2 ∧ x2 ≤ 5) → zz_E g l zy_fill_27_103 zr_fill_27_103_k5a2 (zz_QV n (zp_fill_27_103_k5a2 q0 p1 S0)) S n 5 [some (.ref (zz_rf 5 q0 + 2)), some (zi p1), some (zi x2), some (zi 5)] [] 0 0 := fun x2 S a b j0 => (zi_fill_27_103_k5a2 (g := g) (l := l) q0 p1 S0 n hn G_S0 hq0 hp1 _) x2 S a b j0 (Nat.lt_succ_self _)
  have b_q0 := zz_rf5 (z := q0) (by omega)
  refine zz_iconst zd_27_103_0 ?_
  refine zz_istore_n [some (.ref (zz_rf 5 q0 + 2)), some (zi p1), some (zi 0)] zd_27_103_1 (by decide) rfl ?_
  refine zz_aload_n (x := zz_rf 5 q0 + 2) rfl zd_27_103_2 ?_
  refine zz_alen zd_27_103_3 (zT_k5a2 (by omega)) rfl (zN_k5a2 hn (by omega)) ?_
  refine zz_istore_n [some (.ref (zz_rf 5 q0 + 2)), some (zi p1), some (zi 0), some (zi 5)] zd_27_103_4 (by decide) rfl ?_
  refine zz_less (ls1 := [some (.ref (zz_rf 5 q0 + 2)), some (zi p1), some (zi 0), some (zi 5)]) ⟨rfl, ⟨rfl, ⟨rfl, ⟨rfl, trivial⟩⟩⟩⟩ ?_
  exact k5 0 S0 G_S0 F_S0 (by omega)
-- java/util/Arrays fill ([II)V
abbrev zr_fill_27_103_k5a3 : Room := { frames := 0, cells := 0, slots := 0, locals := 0 }
def zp_fill_27_103_k5a3 (q0 : Int) (p1 : Int) (S0 : zz_S) : zz_S → Prop := fun S => zz_G S ∧ zz_fr [] [] (fun a i => a = zz_rf 5 q0 + 3) S0 S
theorem zb_fill_27_103_k5a3_5 {g : mm_G} {l : Launch} (q0 : Int) (p1 : Int) (S0 : zz_S) (n : Nat) (hn : zz_end ≤ n) (G_S0 : zz_G S0) (hq0 : 0 ≤ q0 ∧ q0 ≤ 4) (hp1 : (-2147483648) ≤ p1 ∧ p1 ≤ 2147483647) (x2 : Int) (S : zz_S) (G_S : zz_G S) (F_S : zz_fr [] [] (fun a i => a = zz_rf 5 q0 + 3) S0 S) (i5_0 : 0 ≤ x2 ∧ x2 ≤ 5) (R : Nat) (hR : (5 - x2).toNat = R) (k5 : ∀ (x2 : Int) (S : zz_S), zz_G S → zz_fr [] [] (fun a i => a = zz_rf 5 q0 + 3) S0 S → (0 ≤ x2 ∧ x2 ≤ 5) → (5 - x2).toNat < R → zz_E g l zy_fill_27_103 zr_fill_27_103_k5a3 (zz_QV n (zp_fill_27_103_k5a3 q0 p1 S0)) S n 5 [some (.ref (zz_rf 5 q0 + 3)), some (zi p1), some (zi x2), some (zi 5)] [] 0 0) : zz_E g l zy_fill_27_103 zr_fill_27_103_k5a3 (zz_QV n (zp_fill_27_103_k5a3 q0 p1 S0)) S n 5 [some (.ref (zz_rf 5 q0 + 3)), some (zi p1), some (zi x2), some (zi 5)] [] 0 0 := by
  have b_q0 := zz_rf5 (z := q0) (by omega)
  refine zz_iload_n (x := x2) rfl zd_27_103_5 ?_
  refine zz_iload_n (x := 5) rfl zd_27_103_6 ?_
  refine zz_icmp_ge (by omega) (by omega) zd_27_103_7 (fun c1 => ?_) (fun c1 => ?_)
  · exact zz_vret zd_27_103_20 rfl (Nat.zero_le _) (Nat.zero_le _) ⟨_, rfl, G_S, F_S⟩
  · refine zz_aload_n (x := zz_rf 5 q0 + 3) rfl zd_27_103_10 ?_
    refine zz_iload_n (x := x2) rfl zd_27_103_11 ?_
    refine zz_iload_n (x := p1) rfl zd_27_103_12 ?_
    refine zz_iast zd_27_103_13 (zT_k5a3 (by omega)) rfl (zN_k5a3 hn (by omega)) (by decide) (by omega) (fun S2 qS2 => ?_)
    have G_S2 := zz_G.put G_S qS2 (-2147483648) 2147483647 (zR_k5a3 (by omega)) (by omega)
    have F_S2 := zz_fr.putv F_S qS2 (rfl)
    refine zz_iinc [some (.ref (zz_rf 5 q0 + 3)), some (zi p1), some (zi (x2 + 1)), some (zi 5)] zd_27_103_14 rfl rfl ?_
    refine zz_goto zd_27_103_17 ?_
    refine zz_less (ls1 := [some (.ref (zz_rf 5 q0 + 3)), some (zi p1), some (zi (x2 + 1)), some (zi 5)]) ⟨rfl, ⟨rfl, ⟨rfl, ⟨rfl, trivial⟩⟩⟩⟩ ?_
    exact k5 (x2 + 1) S2 G_S2 F_S2 (by omega) (by omega)
theorem zi_fill_27_103_k5a3 {g : mm_G} {l : Launch} (q0 : Int) (p1 : Int) (S0 : zz_S) (n : Nat) (hn : zz_end ≤ n) (G_S0 : zz_G S0) (hq0 : 0 ≤ q0 ∧ q0 ≤ 4) (hp1 : (-2147483648) ≤ p1 ∧ p1 ≤ 2147483647) : ∀ N : Nat, (∀ (x2 : Int) (S : zz_S), zz_G S → zz_fr [] [] (fun a i => a = zz_rf 5 q0 + 3) S0 S → (0 ≤ x2 ∧ x2 ≤ 5) → (5 - x2).toNat < N → zz_E g l zy_fill_27_103 zr_fill_27_103_k5a3 (zz_QV n (zp_fill_27_103_k5a3 q0 p1 S0)) S n 5 [some (.ref (zz_rf 5 q0 + 3)), some (zi p1), some (zi x2), some (zi 5)] [] 0 0) := by
  intro N
  induction N with
  | zero => exact fun x2 S _ _ _ h => absurd h (Nat.not_lt_zero _)
  | succ N ih =>
    exact fun x2 S a b j0 hR => zb_fill_27_103_k5a3_5 q0 p1 S0 n hn G_S0 hq0 hp1 x2 S a b j0 _ rfl (fun x2 S a b j0 h => ih x2 S a b j0 (Nat.lt_of_lt_of_le h (Nat.le_of_lt_succ hR)))
theorem zc_fill_27_103_k5a3 {g : mm_G} {l : Launch} (q0 : Int) (p1 : Int) (S0 : zz_S) (n : Nat) (hn : zz_end ≤ n) (G_S0 : zz_G S0) (hq0 : 0 ≤ q0 ∧ q0 ≤ 4) (hp1 : (-2147483648) ≤ p1 ∧ p1 ≤ 2147483647) : mm_Met g l zy_fill_27_103 zr_fill_27_103_k5a3 [.ref (zz_rf 5 q0 + 3), zi p1] (zz_M S0 n) n (zz_QV n (zp_fill_27_103_k5a3 q0 p1 S0)) := by
  refine zz_enter (by decide) (Nat.le_of_ble_eq_true rfl) (zz_less (ls1 := [some (.ref (zz_rf 5 q0 + 3)), some (zi p1)]) ⟨rfl, ⟨rfl, trivial⟩⟩ ?_)
  have F_S0 : zz_fr [] [] (fun a i => a = zz_rf 5 q0 + 3) S0 S0 := zz_fr.refl
  have k5 : ∀ (x2 : Int) (S : zz_S), zz_G S → zz_fr [] [] (fun a i => a = zz_rf 5 q0 + 3) S0 S → (0 ≤ x2 ∧ x2 ≤ 5) → zz_E g l zy_fill_27_103 zr_fill_27_103_k5a3 (zz_QV n (zp_fill_27_103_k5a3 q0 p1 S0)) S n 5 [some (.ref (zz_rf 5 q0 + 3)), some (zi p1), some (zi x2), some (zi 5)] [] 0 0 := fun x2 S a b j0 => (zi_fill_27_103_k5a3 (g := g) (l := l) q0 p1 S0 n hn G_S0 hq0 hp1 _) x2 S a b j0 (Nat.lt_succ_self _)
  have b_q0 := zz_rf5 (z := q0) (by omega)
  refine zz_iconst zd_27_103_0 ?_
  refine zz_istore_n [some (.ref (zz_rf 5 q0 + 3)), some (zi p1), some (zi 0)] zd_27_103_1 (by decide) rfl ?_
  refine zz_aload_n (x := zz_rf 5 q0 + 3) rfl zd_27_103_2 ?_
  refine zz_alen zd_27_103_3 (zT_k5a3 (by omega)) rfl (zN_k5a3 hn (by omega)) ?_
  refine zz_istore_n [some (.ref (zz_rf 5 q0 + 3)), some (zi p1), some (zi 0), some (zi 5)] zd_27_103_4 (by decide) rfl ?_
  refine zz_less (ls1 := [some (.ref (zz_rf 5 q0 + 3)), some (zi p1), some (zi 0), some (zi 5)]) ⟨rfl, ⟨rfl, ⟨rfl, ⟨rfl, trivial⟩⟩⟩⟩ ?_
  exact k5 0 S0 G_S0 F_S0 (by omega)
-- java/util/Arrays fill ([II)V
abbrev zr_fill_27_103_k5a4 : Room := { frames := 0, cells := 0, slots := 0, locals := 0 }
def zp_fill_27_103_k5a4 (q0 : Int) (p1 : Int) (S0 : zz_S) : zz_S → Prop := fun S => zz_G S ∧ zz_fr [] [] (fun a i => a = zz_rf 5 q0 + 4) S0 S
theorem zb_fill_27_103_k5a4_5 {g : mm_G} {l : Launch} (q0 : Int) (p1 : Int) (S0 : zz_S) (n : Nat) (hn : zz_end ≤ n) (G_S0 : zz_G S0) (hq0 : 0 ≤ q0 ∧ q0 ≤ 4) (hp1 : (-2147483648) ≤ p1 ∧ p1 ≤ 2147483647) (x2 : Int) (S : zz_S) (G_S : zz_G S) (F_S : zz_fr [] [] (fun a i => a = zz_rf 5 q0 + 4) S0 S) (i5_0 : 0 ≤ x2 ∧ x2 ≤ 5) (R : Nat) (hR : (5 - x2).toNat = R) (k5 : ∀ (x2 : Int) (S : zz_S), zz_G S → zz_fr [] [] (fun a i => a = zz_rf 5 q0 + 4) S0 S → (0 ≤ x2 ∧ x2 ≤ 5) → (5 - x2).toNat < R → zz_E g l zy_fill_27_103 zr_fill_27_103_k5a4 (zz_QV n (zp_fill_27_103_k5a4 q0 p1 S0)) S n 5 [some (.ref (zz_rf 5 q0 + 4)), some (zi p1), some (zi x2), some (zi 5)] [] 0 0) : zz_E g l zy_fill_27_103 zr_fill_27_103_k5a4 (zz_QV n (zp_fill_27_103_k5a4 q0 p1 S0)) S n 5 [some (.ref (zz_rf 5 q0 + 4)), some (zi p1), some (zi x2), some (zi 5)] [] 0 0 := by
  have b_q0 := zz_rf5 (z := q0) (by omega)
  refine zz_iload_n (x := x2) rfl zd_27_103_5 ?_
  refine zz_iload_n (x := 5) rfl zd_27_103_6 ?_
  refine zz_icmp_ge (by omega) (by omega) zd_27_103_7 (fun c1 => ?_) (fun c1 => ?_)
  · exact zz_vret zd_27_103_20 rfl (Nat.zero_le _) (Nat.zero_le _) ⟨_, rfl, G_S, F_S⟩
  · refine zz_aload_n (x := zz_rf 5 q0 + 4) rfl zd_27_103_10 ?_
    refine zz_iload_n (x := x2) rfl zd_27_103_11 ?_
    refine zz_iload_n (x := p1) rfl zd_27_103_12 ?_
    refine zz_iast zd_27_103_13 (zT_k5a4 (by omega)) rfl (zN_k5a4 hn (by omega)) (by decide) (by omega) (fun S2 qS2 => ?_)
    have G_S2 := zz_G.put G_S qS2 (-2147483648) 2147483647 (zR_k5a4 (by omega)) (by omega)
    have F_S2 := zz_fr.putv F_S qS2 (rfl)
    refine zz_iinc [some (.ref (zz_rf 5 q0 + 4)), some (zi p1), some (zi (x2 + 1)), some (zi 5)] zd_27_103_14 rfl rfl ?_
    refine zz_goto zd_27_103_17 ?_
    refine zz_less (ls1 := [some (.ref (zz_rf 5 q0 + 4)), some (zi p1), some (zi (x2 + 1)), some (zi 5)]) ⟨rfl, ⟨rfl, ⟨rfl, ⟨rfl, trivial⟩⟩⟩⟩ ?_
    exact k5 (x2 + 1) S2 G_S2 F_S2 (by omega) (by omega)
theorem zi_fill_27_103_k5a4 {g : mm_G} {l : Launch} (q0 : Int) (p1 : Int) (S0 : zz_S) (n : Nat) (hn : zz_end ≤ n) (G_S0 : zz_G S0) (hq0 : 0 ≤ q0 ∧ q0 ≤ 4) (hp1 : (-2147483648) ≤ p1 ∧ p1 ≤ 2147483647) : ∀ N : Nat, (∀ (x2 : Int) (S : zz_S), zz_G S → zz_fr [] [] (fun a i => a = zz_rf 5 q0 + 4) S0 S → (0 ≤ x2 ∧ x2 ≤ 5) → (5 - x2).toNat < N → zz_E g l zy_fill_27_103 zr_fill_27_103_k5a4 (zz_QV n (zp_fill_27_103_k5a4 q0 p1 S0)) S n 5 [some (.ref (zz_rf 5 q0 + 4)), some (zi p1), some (zi x2), some (zi 5)] [] 0 0) := by
  intro N
  induction N with
  | zero => exact fun x2 S _ _ _ h => absurd h (Nat.not_lt_zero _)
  | succ N ih =>
    exact fun x2 S a b j0 hR => zb_fill_27_103_k5a4_5 q0 p1 S0 n hn G_S0 hq0 hp1 x2 S a b j0 _ rfl (fun x2 S a b j0 h => ih x2 S a b j0 (Nat.lt_of_lt_of_le h (Nat.le_of_lt_succ hR)))
theorem zc_fill_27_103_k5a4 {g : mm_G} {l : Launch} (q0 : Int) (p1 : Int) (S0 : zz_S) (n : Nat) (hn : zz_end ≤ n) (G_S0 : zz_G S0) (hq0 : 0 ≤ q0 ∧ q0 ≤ 4) (hp1 : (-2147483648) ≤ p1 ∧ p1 ≤ 2147483647) : mm_Met g l zy_fill_27_103 zr_fill_27_103_k5a4 [.ref (zz_rf 5 q0 + 4), zi p1] (zz_M S0 n) n (zz_QV n (zp_fill_27_103_k5a4 q0 p1 S0)) := by
  refine zz_enter (by decide) (Nat.le_of_ble_eq_true rfl) (zz_less (ls1 := [some (.ref (zz_rf 5 q0 + 4)), some (zi p1)]) ⟨rfl, ⟨rfl, trivial⟩⟩ ?_)
  have F_S0 : zz_fr [] [] (fun a i => a = zz_rf 5 q0 + 4) S0 S0 := zz_fr.refl
  have k5 : ∀ (x2 : Int) (S : zz_S), zz_G S → zz_fr [] [] (fun a i => a = zz_rf 5 q0 + 4) S0 S → (0 ≤ x2 ∧ x2 ≤ 5) → zz_E g l zy_fill_27_103 zr_fill_27_103_k5a4 (zz_QV n (zp_fill_27_103_k5a4 q0 p1 S0)) S n 5 [some (.ref (zz_rf 5 q0 + 4)), some (zi p1), some (zi x2), some (zi 5)] [] 0 0 := fun x2 S a b j0 => (zi_fill_27_103_k5a4 (g := g) (l := l) q0 p1 S0 n hn G_S0 hq0 hp1 _) x2 S a b j0 (Nat.lt_succ_self _)
  have b_q0 := zz_rf5 (z := q0) (by omega)
  refine zz_iconst zd_27_103_0 ?_
  refine zz_istore_n [some (.ref (zz_rf 5 q0 + 4)), some (zi p1), some (zi 0)] zd_27_103_1 (by decide) rfl ?_
  refine zz_aload_n (x := zz_rf 5 q0 + 4) rfl zd_27_103_2 ?_
  refine zz_alen zd_27_103_3 (zT_k5a4 (by omega)) rfl (zN_k5a4 hn (by omega)) ?_
  refine zz_istore_n [some (.ref (zz_rf 5 q0 + 4)), some (zi p1), some (zi 0), some (zi 5)] zd_27_103_4 (by decide) rfl ?_
  refine zz_less (ls1 := [some (.ref (zz_rf 5 q0 + 4)), some (zi p1), some (zi 0), some (zi 5)]) ⟨rfl, ⟨rfl, ⟨rfl, ⟨rfl, trivial⟩⟩⟩⟩ ?_
  exact k5 0 S0 G_S0 F_S0 (by omega)
-- TensorForge$Reaches forget ()V
abbrev zr_forget_9_7 : Room := { frames := 1, cells := 0, slots := 0, locals := 15 }
def zp_forget_9_7 (t : Int) (S0 : zz_S) : zz_S → Prop := fun S => zz_G S ∧ zz_fr [] [] (fun a i => a = zz_rf 5 t + 1 ∨ a = zz_rf 5 t + 2 ∨ a = zz_rf 5 t + 3 ∨ a = zz_rf 5 t + 4) S0 S
theorem zc_forget_9_7 {g : mm_G} {l : Launch} (t : Int) (S0 : zz_S) (n : Nat) (hn : zz_end ≤ n) (G_S0 : zz_G S0) (ht : 0 ≤ t ∧ t ≤ 4) : mm_Met g l zy_forget_9_7 zr_forget_9_7 [.ref (zz_rf 5 t)] (zz_M S0 n) n (zz_QV n (zp_forget_9_7 t S0)) := by
  refine zz_enter (by decide) (Nat.le_of_ble_eq_true rfl) (zz_less (ls1 := [some (.ref (zz_rf 5 t))]) ⟨rfl, trivial⟩ ?_)
  have F_S0 : zz_fr [] [] (fun a i => a = zz_rf 5 t + 1 ∨ a = zz_rf 5 t + 2 ∨ a = zz_rf 5 t + 3 ∨ a = zz_rf 5 t + 4) S0 S0 := zz_fr.refl
  have b_t := zz_rf5 (z := t) (by omega)
  refine zz_aload_n (x := zz_rf 5 t) rfl zd_9_7_0 ?_
  refine zz_getr (kd := 0) (z := ((zz_rf 5 t + 1 : Nat) : Int)) zd_9_7_1 zf_Reaches_11 (zT_k5 (by omega)) rfl (zN_k5 hn (by omega)) (zE_k5a1 G_S0 (by omega)) (Int.natCast_nonneg _) (zz_rf 5 t + 1) (Int.toNat_natCast _) ?_
  refine zz_iconst zd_9_7_4 ?_
  refine zz_callSV [.ref (zz_rf 5 t + 1), zi 0] zd_9_7_5 zk_Reaches_55 rfl rfl ⟨Nat.le_of_ble_eq_true rfl, Nat.le_of_ble_eq_true rfl⟩ ⟨rfl, rfl⟩ (Nat.zero_le _) (Nat.zero_le _) (zc_fill_27_103_k5a1 t 0 S0 n hn G_S0 (by omega) (by omega)) (fun S1 hP => ?_)
  obtain ⟨G_S1, fS1⟩ := hP
  have F_S1 := zz_fr.trans F_S0 fS1 rfl (fun a i h => Or.inr (Or.inr (Or.inl h)))
  have b3 := zz_rf5 (z := t) (by omega)
  refine zz_aload_n (x := zz_rf 5 t) rfl zd_9_7_8 ?_
  refine zz_getr (kd := 0) (z := ((zz_rf 5 t + 2 : Nat) : Int)) zd_9_7_9 zf_Reaches_15 (zT_k5 (by omega)) rfl (zN_k5 hn (by omega)) (zE_k5a2 G_S1 (by omega)) (Int.natCast_nonneg _) (zz_rf 5 t + 2) (Int.toNat_natCast _) ?_
  refine zz_iconst zd_9_7_12 ?_
  refine zz_callSV [.ref (zz_rf 5 t + 2), zi (-1)] zd_9_7_13 zk_Reaches_55 rfl rfl ⟨Nat.le_of_ble_eq_true rfl, Nat.le_of_ble_eq_true rfl⟩ ⟨rfl, rfl⟩ (Nat.zero_le _) (Nat.zero_le _) (zc_fill_27_103_k5a2 t (-1) S1 n hn G_S1 (by omega) (by omega)) (fun S4 hP => ?_)
  obtain ⟨G_S4, fS4⟩ := hP
  have F_S4 := zz_fr.trans F_S1 fS4 rfl (fun a i h => Or.inr (Or.inr (Or.inr (Or.inl h))))
  refine zz_aload_n (x := zz_rf 5 t) rfl zd_9_7_16 ?_
  refine zz_getr (kd := 0) (z := ((zz_rf 5 t + 3 : Nat) : Int)) zd_9_7_17 zf_Reaches_18 (zT_k5 (by omega)) rfl (zN_k5 hn (by omega)) (zE_k5a3 G_S4 (by omega)) (Int.natCast_nonneg _) (zz_rf 5 t + 3) (Int.toNat_natCast _) ?_
  refine zz_iconst zd_9_7_20 ?_
  refine zz_callSV [.ref (zz_rf 5 t + 3), zi 0] zd_9_7_21 zk_Reaches_55 rfl rfl ⟨Nat.le_of_ble_eq_true rfl, Nat.le_of_ble_eq_true rfl⟩ ⟨rfl, rfl⟩ (Nat.zero_le _) (Nat.zero_le _) (zc_fill_27_103_k5a3 t 0 S4 n hn G_S4 (by omega) (by omega)) (fun S6 hP => ?_)
  obtain ⟨G_S6, fS6⟩ := hP
  have F_S6 := zz_fr.trans F_S4 fS6 rfl (fun a i h => Or.inr (Or.inr (Or.inr (Or.inr (Or.inl h)))))
  refine zz_aload_n (x := zz_rf 5 t) rfl zd_9_7_24 ?_
  refine zz_getr (kd := 0) (z := ((zz_rf 5 t + 4 : Nat) : Int)) zd_9_7_25 zf_Reaches_21 (zT_k5 (by omega)) rfl (zN_k5 hn (by omega)) (zE_k5a4 G_S6 (by omega)) (Int.natCast_nonneg _) (zz_rf 5 t + 4) (Int.toNat_natCast _) ?_
  refine zz_iconst zd_9_7_28 ?_
  refine zz_callSV [.ref (zz_rf 5 t + 4), zi (-1)] zd_9_7_29 zk_Reaches_55 rfl rfl ⟨Nat.le_of_ble_eq_true rfl, Nat.le_of_ble_eq_true rfl⟩ ⟨rfl, rfl⟩ (Nat.zero_le _) (Nat.zero_le _) (zc_fill_27_103_k5a4 t (-1) S6 n hn G_S6 (by omega) (by omega)) (fun S8 hP => ?_)
  obtain ⟨G_S8, fS8⟩ := hP
  have F_S8 := zz_fr.trans F_S6 fS8 rfl (fun a i h => Or.inr (Or.inr (Or.inr (Or.inr (Or.inr (h))))))
  exact zz_vret zd_9_7_32 rfl (Nat.zero_le _) (Nat.zero_le _) ⟨_, rfl, G_S8, F_S8⟩
-- TensorForge$Reaches reads (III)V
abbrev zr_reads_9_8 : Room := { frames := 0, cells := 0, slots := 0, locals := 0 }
def zp_reads_9_8 (t : Int) (p0 : Int) (p1 : Int) (p2 : Int) (S0 : zz_S) : zz_S → Prop := fun S => zz_G S ∧ zz_fr [] [] (fun a i => a = zz_rf 5 t + 1 ∨ a = zz_rf 5 t + 2) S0 S
theorem zc_reads_9_8 {g : mm_G} {l : Launch} (t : Int) (p0 : Int) (p1 : Int) (p2 : Int) (S0 : zz_S) (n : Nat) (hn : zz_end ≤ n) (G_S0 : zz_G S0) (ht : 0 ≤ t ∧ t ≤ 4) (hp0 : (-2147483648) ≤ p0 ∧ p0 ≤ 2147483647) (hp1 : (-2147483648) ≤ p1 ∧ p1 ≤ 2147483647) (hp2 : (-2147483648) ≤ p2 ∧ p2 ≤ 2147483647) : mm_Met g l zy_reads_9_8 zr_reads_9_8 [.ref (zz_rf 5 t), zi p0, zi p1, zi p2] (zz_M S0 n) n (zz_QV n (zp_reads_9_8 t p0 p1 p2 S0)) := by
  refine zz_enter (by decide) (Nat.le_of_ble_eq_true rfl) (zz_less (ls1 := [some (.ref (zz_rf 5 t)), some (zi p0), some (zi p1), some (zi p2)]) ⟨rfl, ⟨rfl, ⟨rfl, ⟨rfl, trivial⟩⟩⟩⟩ ?_)
  have F_S0 : zz_fr [] [] (fun a i => a = zz_rf 5 t + 1 ∨ a = zz_rf 5 t + 2) S0 S0 := zz_fr.refl
  have b_t := zz_rf5 (z := t) (by omega)
  refine zz_iload_n (x := p0) rfl zd_9_8_0 ?_
  refine zz_if_lt (by omega) zd_9_8_1 (fun c1 => ?_) (fun c1 => ?_)
  · exact zz_vret zd_9_8_25 rfl (Nat.zero_le _) (Nat.zero_le _) ⟨_, rfl, G_S0, F_S0⟩
  · refine zz_iload_n (x := p0) rfl zd_9_8_4 ?_
    refine zz_iconst zd_9_8_5 ?_
    refine zz_icmp_ge (by omega) (by omega) zd_9_8_6 (fun c2 => ?_) (fun c2 => ?_)
    · exact zz_vret zd_9_8_25 rfl (Nat.zero_le _) (Nat.zero_le _) ⟨_, rfl, G_S0, F_S0⟩
    · refine zz_aload_n (x := zz_rf 5 t) rfl zd_9_8_9 ?_
      refine zz_getr (kd := 0) (z := ((zz_rf 5 t + 1 : Nat) : Int)) zd_9_8_10 zf_Reaches_11 (zT_k5 (by omega)) rfl (zN_k5 hn (by omega)) (zE_k5a1 G_S0 (by omega)) (Int.natCast_nonneg _) (zz_rf 5 t + 1) (Int.toNat_natCast _) ?_
      refine zz_iload_n (x := p0) rfl zd_9_8_13 ?_
      refine zz_iload_n (x := p1) rfl zd_9_8_14 ?_
      refine zz_iast zd_9_8_15 (zT_k5a1 (by omega)) rfl (zN_k5a1 hn (by omega)) (by decide) (by omega) (fun S3 qS3 => ?_)
      have G_S3 := zz_G.put G_S0 qS3 (-2147483648) 2147483647 (zR_k5a1 (by omega)) (by omega)
      have F_S3 := zz_fr.putv F_S0 qS3 (Or.inl rfl)
      refine zz_aload_n (x := zz_rf 5 t) rfl zd_9_8_16 ?_
      refine zz_getr (kd := 0) (z := ((zz_rf 5 t + 2 : Nat) : Int)) zd_9_8_17 zf_Reaches_15 (zT_k5 (by omega)) rfl (zN_k5 hn (by omega)) (zE_k5a2 G_S3 (by omega)) (Int.natCast_nonneg _) (zz_rf 5 t + 2) (Int.toNat_natCast _) ?_
      refine zz_iload_n (x := p0) rfl zd_9_8_20 ?_
      refine zz_iload_n (x := p1) rfl zd_9_8_21 ?_
      refine zz_iload_n (x := p2) rfl zd_9_8_22 ?_
      refine zz_iadd zd_9_8_23 ?_
      refine zz_nrm (fun v4 hv4 ev4 => ?_)
      refine zz_iast zd_9_8_24 (zT_k5a2 (by omega)) rfl (zN_k5a2 hn (by omega)) (by decide) (by omega) (fun S5 qS5 => ?_)
      have G_S5 := zz_G.put G_S3 qS5 (-2147483648) 2147483647 (zR_k5a2 (by omega)) (by omega)
      have F_S5 := zz_fr.putv F_S3 qS5 (Or.inr (rfl))
      exact zz_vret zd_9_8_25 rfl (Nat.zero_le _) (Nat.zero_le _) ⟨_, rfl, G_S5, F_S5⟩
-- TensorForge$Reaches writes (III)V
abbrev zr_writes_9_9 : Room := { frames := 0, cells := 0, slots := 0, locals := 0 }
def zp_writes_9_9 (t : Int) (p0 : Int) (p1 : Int) (p2 : Int) (S0 : zz_S) : zz_S → Prop := fun S => zz_G S ∧ zz_fr [] [] (fun a i => a = zz_rf 5 t + 3 ∨ a = zz_rf 5 t + 4) S0 S
theorem zc_writes_9_9 {g : mm_G} {l : Launch} (t : Int) (p0 : Int) (p1 : Int) (p2 : Int) (S0 : zz_S) (n : Nat) (hn : zz_end ≤ n) (G_S0 : zz_G S0) (ht : 0 ≤ t ∧ t ≤ 4) (hp0 : (-2147483648) ≤ p0 ∧ p0 ≤ 2147483647) (hp1 : (-2147483648) ≤ p1 ∧ p1 ≤ 2147483647) (hp2 : (-2147483648) ≤ p2 ∧ p2 ≤ 2147483647) : mm_Met g l zy_writes_9_9 zr_writes_9_9 [.ref (zz_rf 5 t), zi p0, zi p1, zi p2] (zz_M S0 n) n (zz_QV n (zp_writes_9_9 t p0 p1 p2 S0)) := by
  refine zz_enter (by decide) (Nat.le_of_ble_eq_true rfl) (zz_less (ls1 := [some (.ref (zz_rf 5 t)), some (zi p0), some (zi p1), some (zi p2)]) ⟨rfl, ⟨rfl, ⟨rfl, ⟨rfl, trivial⟩⟩⟩⟩ ?_)
  have F_S0 : zz_fr [] [] (fun a i => a = zz_rf 5 t + 3 ∨ a = zz_rf 5 t + 4) S0 S0 := zz_fr.refl
  have b_t := zz_rf5 (z := t) (by omega)
  refine zz_iload_n (x := p0) rfl zd_9_9_0 ?_
  refine zz_if_lt (by omega) zd_9_9_1 (fun c1 => ?_) (fun c1 => ?_)
  · exact zz_vret zd_9_9_25 rfl (Nat.zero_le _) (Nat.zero_le _) ⟨_, rfl, G_S0, F_S0⟩
  · refine zz_iload_n (x := p0) rfl zd_9_9_4 ?_
    refine zz_iconst zd_9_9_5 ?_
    refine zz_icmp_ge (by omega) (by omega) zd_9_9_6 (fun c2 => ?_) (fun c2 => ?_)
    · exact zz_vret zd_9_9_25 rfl (Nat.zero_le _) (Nat.zero_le _) ⟨_, rfl, G_S0, F_S0⟩
    · refine zz_aload_n (x := zz_rf 5 t) rfl zd_9_9_9 ?_
      refine zz_getr (kd := 0) (z := ((zz_rf 5 t + 3 : Nat) : Int)) zd_9_9_10 zf_Reaches_18 (zT_k5 (by omega)) rfl (zN_k5 hn (by omega)) (zE_k5a3 G_S0 (by omega)) (Int.natCast_nonneg _) (zz_rf 5 t + 3) (Int.toNat_natCast _) ?_
      refine zz_iload_n (x := p0) rfl zd_9_9_13 ?_
      refine zz_iload_n (x := p1) rfl zd_9_9_14 ?_
      refine zz_iast zd_9_9_15 (zT_k5a3 (by omega)) rfl (zN_k5a3 hn (by omega)) (by decide) (by omega) (fun S3 qS3 => ?_)
      have G_S3 := zz_G.put G_S0 qS3 (-2147483648) 2147483647 (zR_k5a3 (by omega)) (by omega)
      have F_S3 := zz_fr.putv F_S0 qS3 (Or.inl rfl)
      refine zz_aload_n (x := zz_rf 5 t) rfl zd_9_9_16 ?_
      refine zz_getr (kd := 0) (z := ((zz_rf 5 t + 4 : Nat) : Int)) zd_9_9_17 zf_Reaches_21 (zT_k5 (by omega)) rfl (zN_k5 hn (by omega)) (zE_k5a4 G_S3 (by omega)) (Int.natCast_nonneg _) (zz_rf 5 t + 4) (Int.toNat_natCast _) ?_
      refine zz_iload_n (x := p0) rfl zd_9_9_20 ?_
      refine zz_iload_n (x := p1) rfl zd_9_9_21 ?_
      refine zz_iload_n (x := p2) rfl zd_9_9_22 ?_
      refine zz_iadd zd_9_9_23 ?_
      refine zz_nrm (fun v4 hv4 ev4 => ?_)
      refine zz_iast zd_9_9_24 (zT_k5a4 (by omega)) rfl (zN_k5a4 hn (by omega)) (by decide) (by omega) (fun S5 qS5 => ?_)
      have G_S5 := zz_G.put G_S3 qS5 (-2147483648) 2147483647 (zR_k5a4 (by omega)) (by omega)
      have F_S5 := zz_fr.putv F_S3 qS5 (Or.inr (rfl))
      exact zz_vret zd_9_9_25 rfl (Nat.zero_le _) (Nat.zero_le _) ⟨_, rfl, G_S5, F_S5⟩
-- TensorForge$Reaches workOnSums (IIZ)V
abbrev zr_workOnSums_9_6 : Room := { frames := 1, cells := 0, slots := 0, locals := 15 }
def zp_workOnSums_9_6 (t : Int) (p0 : Int) (p1 : Int) (p2 : Int) (S0 : zz_S) : zz_S → Prop := fun S => zz_G S ∧ zz_fr [] [] (fun a i => a = zz_rf 5 t + 1 ∨ a = zz_rf 5 t + 2 ∨ a = zz_rf 5 t + 3 ∨ a = zz_rf 5 t + 4) S0 S
theorem zc_workOnSums_9_6 {g : mm_G} {l : Launch} (t : Int) (p0 : Int) (p1 : Int) (p2 : Int) (S0 : zz_S) (n : Nat) (hn : zz_end ≤ n) (G_S0 : zz_G S0) (ht : 0 ≤ t ∧ t ≤ 4) (hp0 : (-2147483648) ≤ p0 ∧ p0 ≤ 2147483647) (hp1 : (-2147483648) ≤ p1 ∧ p1 ≤ 2147483647) (hp2 : 0 ≤ p2 ∧ p2 ≤ 1) : mm_Met g l zy_workOnSums_9_6 zr_workOnSums_9_6 [.ref (zz_rf 5 t), zi p0, zi p1, zi p2] (zz_M S0 n) n (zz_QV n (zp_workOnSums_9_6 t p0 p1 p2 S0)) := by
  refine zz_enter (by decide) (Nat.le_of_ble_eq_true rfl) (zz_less (ls1 := [some (.ref (zz_rf 5 t)), some (zi p0), some (zi p1), some (zi p2)]) ⟨rfl, ⟨rfl, ⟨rfl, ⟨rfl, trivial⟩⟩⟩⟩ ?_)
  have F_S0 : zz_fr [] [] (fun a i => a = zz_rf 5 t + 1 ∨ a = zz_rf 5 t + 2 ∨ a = zz_rf 5 t + 3 ∨ a = zz_rf 5 t + 4) S0 S0 := zz_fr.refl
  have b_t := zz_rf5 (z := t) (by omega)
  refine zz_iload_n (x := p2) rfl zd_9_6_0 ?_
  refine zz_if_eq (by omega) zd_9_6_1 (fun c1 => ?_) (fun c1 => ?_)
  · refine zz_aload_n (x := zz_rf 5 t) rfl zd_9_6_11 ?_
    refine zz_iconst zd_9_6_12 ?_
    refine zz_iload_n (x := p0) rfl zd_9_6_13 ?_
    refine zz_iload_n (x := p1) rfl zd_9_6_14 ?_
    refine zz_callVV [zi 3, zi p0, zi p1] zd_9_6_15 zk_Reaches_37 (zT_k5 (by omega)) (zN_k5 hn (by omega)) rfl rfl ⟨Nat.le_of_ble_eq_true rfl, Nat.le_of_ble_eq_true rfl⟩ ⟨rfl, rfl⟩ (Nat.zero_le _) (Nat.zero_le _) (zc_writes_9_9 t 3 p0 p1 S0 n hn G_S0 (by omega) (by omega) (by omega) (by omega)) (fun S2 hP => ?_)
    obtain ⟨G_S2, fS2⟩ := hP
    have F_S2 := zz_fr.trans F_S0 fS2 rfl (fun a i h => by rcases h with h | h; exact Or.inr (Or.inr (Or.inr (Or.inr (Or.inl h)))); exact Or.inr (Or.inr (Or.inr (Or.inr (Or.inr (h))))))
    have b4 := zz_rf5 (z := t) (by omega)
    exact zz_vret zd_9_6_18 rfl (Nat.zero_le _) (Nat.zero_le _) ⟨_, rfl, G_S2, F_S2⟩
  · refine zz_aload_n (x := zz_rf 5 t) rfl zd_9_6_4 ?_
    refine zz_iconst zd_9_6_5 ?_
    refine zz_iload_n (x := p0) rfl zd_9_6_6 ?_
    refine zz_iload_n (x := p1) rfl zd_9_6_7 ?_
    refine zz_callVV [zi 3, zi p0, zi p1] zd_9_6_8 zk_Reaches_33 (zT_k5 (by omega)) (zN_k5 hn (by omega)) rfl rfl ⟨Nat.le_of_ble_eq_true rfl, Nat.le_of_ble_eq_true rfl⟩ ⟨rfl, rfl⟩ (Nat.zero_le _) (Nat.zero_le _) (zc_reads_9_8 t 3 p0 p1 S0 n hn G_S0 (by omega) (by omega) (by omega) (by omega)) (fun S5 hP => ?_)
    obtain ⟨G_S5, fS5⟩ := hP
    have F_S5 := zz_fr.trans F_S0 fS5 rfl (fun a i h => by rcases h with h | h; exact Or.inr (Or.inr (Or.inl h)); exact Or.inr (Or.inr (Or.inr (Or.inl h))))
    have b7 := zz_rf5 (z := t) (by omega)
    refine zz_aload_n (x := zz_rf 5 t) rfl zd_9_6_11 ?_
    refine zz_iconst zd_9_6_12 ?_
    refine zz_iload_n (x := p0) rfl zd_9_6_13 ?_
    refine zz_iload_n (x := p1) rfl zd_9_6_14 ?_
    refine zz_callVV [zi 3, zi p0, zi p1] zd_9_6_15 zk_Reaches_37 (zT_k5 (by omega)) (zN_k5 hn (by omega)) rfl rfl ⟨Nat.le_of_ble_eq_true rfl, Nat.le_of_ble_eq_true rfl⟩ ⟨rfl, rfl⟩ (Nat.zero_le _) (Nat.zero_le _) (zc_writes_9_9 t 3 p0 p1 S5 n hn G_S5 (by omega) (by omega) (by omega) (by omega)) (fun S8 hP => ?_)
    obtain ⟨G_S8, fS8⟩ := hP
    have F_S8 := zz_fr.trans F_S5 fS8 rfl (fun a i h => by rcases h with h | h; exact Or.inr (Or.inr (Or.inr (Or.inr (Or.inl h)))); exact Or.inr (Or.inr (Or.inr (Or.inr (Or.inr (h))))))
    exact zz_vret zd_9_6_18 rfl (Nat.zero_le _) (Nat.zero_le _) ⟨_, rfl, G_S8, F_S8⟩
-- TensorForge$Reaches takeWork (JI)V
abbrev zr_takeWork_9_5 : Room := { frames := 2, cells := 0, slots := 0, locals := 30 }
def zp_takeWork_9_5 (t : Int) (p0 : Int) (p1 : Int) (S0 : zz_S) : zz_S → Prop := fun S => zz_G S ∧ zz_fr [] [] (fun a i => a = zz_rf 5 t + 1 ∨ a = zz_rf 5 t + 2 ∨ a = zz_rf 5 t + 3 ∨ a = zz_rf 5 t + 4) S0 S
theorem zc_takeWork_9_5 {g : mm_G} {l : Launch} (t : Int) (p0 : Int) (p1 : Int) (S0 : zz_S) (n : Nat) (hn : zz_end ≤ n) (G_S0 : zz_G S0) (ht : 0 ≤ t ∧ t ≤ 4) (hp0 : (-9223372036854775808) ≤ p0 ∧ p0 ≤ 9223372036854775807) (hp1 : 2 ≤ p1 ∧ p1 ≤ 8) : mm_Met g l zy_takeWork_9_5 zr_takeWork_9_5 [.ref (zz_rf 5 t), zl p0, zi p1] (zz_M S0 n) n (zz_QV n (zp_takeWork_9_5 t p0 p1 S0)) := by
  refine zz_enter (by decide) (Nat.le_of_ble_eq_true rfl) (zz_less (ls1 := [some (.ref (zz_rf 5 t)), some (zl p0), none, some (zi p1)]) ⟨rfl, ⟨rfl, ⟨rfl, trivial⟩⟩⟩ ?_)
  have F_S0 : zz_fr [] [] (fun a i => a = zz_rf 5 t + 1 ∨ a = zz_rf 5 t + 2 ∨ a = zz_rf 5 t + 3 ∨ a = zz_rf 5 t + 4) S0 S0 := zz_fr.refl
  have b_t := zz_rf5 (z := t) (by omega)
  refine zz_lload_n (x := p0) rfl zd_9_5_0 ?_
  refine zz_iconst zd_9_5_1 ?_
  refine zz_callSI [zl p0, zi 0] zd_9_5_2 zk_Reaches_29 rfl rfl ⟨Nat.le_of_ble_eq_true rfl, Nat.le_of_ble_eq_true rfl⟩ ⟨rfl, rfl⟩ (Nat.zero_le _) (Nat.zero_le _) (zc_get_12_2x_0 p0 S0 n hn G_S0 (by omega)) (fun v2 S1 hP => ?_)
  obtain ⟨rfl, o3, o4⟩ := hP
  subst o4
  refine zz_istore [some (.ref (zz_rf 5 t)), some (zl p0), none, some (zi p1), some (zi (zz_fy p0 0 15))] zd_9_5_5 (by decide) rfl ?_
  refine zz_lload_n (x := p0) rfl zd_9_5_7 ?_
  refine zz_bipush (by decide) zd_9_5_8 ?_
  refine zz_callSI [zl p0, zi 6] zd_9_5_10 zk_Reaches_29 rfl rfl ⟨Nat.le_of_ble_eq_true rfl, Nat.le_of_ble_eq_true rfl⟩ ⟨rfl, rfl⟩ (Nat.zero_le _) (Nat.zero_le _) (zc_get_12_2x_6 p0 S0 n hn G_S0 (by omega)) (fun v6 S5 hP => ?_)
  obtain ⟨rfl, o7, o8⟩ := hP
  subst o8
  refine zz_iconst zd_9_5_13 ?_
  refine zz_isub zd_9_5_14 ?_
  refine zz_istore [some (.ref (zz_rf 5 t)), some (zl p0), none, some (zi p1), some (zi (zz_fy p0 0 15)), some (zi ((zz_fy p0 20 63) - 1))] zd_9_5_15 (by decide) rfl ?_
  refine zz_lload_n (x := p0) rfl zd_9_5_17 ?_
  refine zz_bipush (by decide) zd_9_5_18 ?_
  refine zz_callSI [zl p0, zi 7] zd_9_5_20 zk_Reaches_29 rfl rfl ⟨Nat.le_of_ble_eq_true rfl, Nat.le_of_ble_eq_true rfl⟩ ⟨rfl, rfl⟩ (Nat.zero_le _) (Nat.zero_le _) (zc_get_12_2x_7 p0 S0 n hn G_S0 (by omega)) (fun v10 S9 hP => ?_)
  obtain ⟨rfl, o11, o12⟩ := hP
  subst o12
  refine zz_iconst zd_9_5_23 ?_
  refine zz_isub zd_9_5_24 ?_
  refine zz_istore [some (.ref (zz_rf 5 t)), some (zl p0), none, some (zi p1), some (zi (zz_fy p0 0 15)), some (zi ((zz_fy p0 20 63) - 1)), some (zi ((zz_fy p0 26 31) - 1))] zd_9_5_25 (by decide) rfl ?_
  refine zz_lload_n (x := p0) rfl zd_9_5_27 ?_
  refine zz_bipush (by decide) zd_9_5_28 ?_
  refine zz_callSI [zl p0, zi 8] zd_9_5_30 zk_Reaches_29 rfl rfl ⟨Nat.le_of_ble_eq_true rfl, Nat.le_of_ble_eq_true rfl⟩ ⟨rfl, rfl⟩ (Nat.zero_le _) (Nat.zero_le _) (zc_get_12_2x_8 p0 S0 n hn G_S0 (by omega)) (fun v14 S13 hP => ?_)
  obtain ⟨rfl, o15, o16⟩ := hP
  subst o16
  refine zz_istore [some (.ref (zz_rf 5 t)), some (zl p0), none, some (zi p1), some (zi (zz_fy p0 0 15)), some (zi ((zz_fy p0 20 63) - 1)), some (zi ((zz_fy p0 26 31) - 1)), some (zi (zz_fy p0 31 511))] zd_9_5_33 (by decide) rfl ?_
  refine zz_lload_n (x := p0) rfl zd_9_5_35 ?_
  refine zz_bipush (by decide) zd_9_5_36 ?_
  refine zz_callSI [zl p0, zi 9] zd_9_5_38 zk_Reaches_29 rfl rfl ⟨Nat.le_of_ble_eq_true rfl, Nat.le_of_ble_eq_true rfl⟩ ⟨rfl, rfl⟩ (Nat.zero_le _) (Nat.zero_le _) (zc_get_12_2x_9 p0 S0 n hn G_S0 (by omega)) (fun v18 S17 hP => ?_)
  obtain ⟨rfl, o19, o20⟩ := hP
  subst o20
  refine zz_istore [some (.ref (zz_rf 5 t)), some (zl p0), none, some (zi p1), some (zi (zz_fy p0 0 15)), some (zi ((zz_fy p0 20 63) - 1)), some (zi ((zz_fy p0 26 31) - 1)), some (zi (zz_fy p0 31 511)), some (zi (zz_fy p0 40 511))] zd_9_5_41 (by decide) rfl ?_
  refine zz_lload_n (x := p0) rfl zd_9_5_43 ?_
  refine zz_bipush (by decide) zd_9_5_44 ?_
  refine zz_callSI [zl p0, zi 11] zd_9_5_46 zk_Reaches_29 rfl rfl ⟨Nat.le_of_ble_eq_true rfl, Nat.le_of_ble_eq_true rfl⟩ ⟨rfl, rfl⟩ (Nat.zero_le _) (Nat.zero_le _) (zc_get_12_2x_11 p0 S0 n hn G_S0 (by omega)) (fun v22 S21 hP => ?_)
  obtain ⟨rfl, o23, o24⟩ := hP
  subst o24
  refine zz_istore [some (.ref (zz_rf 5 t)), some (zl p0), none, some (zi p1), some (zi (zz_fy p0 0 15)), some (zi ((zz_fy p0 20 63) - 1)), some (zi ((zz_fy p0 26 31) - 1)), some (zi (zz_fy p0 31 511)), some (zi (zz_fy p0 40 511)), some (zi (zz_fy p0 59 31))] zd_9_5_49 (by decide) rfl ?_
  refine zz_iload (x := (zz_fy p0 20 63) - 1) rfl zd_9_5_51 ?_
  refine zz_iload_n (x := p1) rfl zd_9_5_53 ?_
  refine zz_imul zd_9_5_54 ?_
  have m25 := zz_mulh (a := (zz_fy p0 20 63) - 1) (b := p1) (-1) 62 8 (-8) 496 (by omega) (by omega) (by decide) (by decide) (by decide) (by decide)
  refine zz_iload (x := (zz_fy p0 26 31) - 1) rfl zd_9_5_55 ?_
  refine zz_iadd zd_9_5_57 ?_
  refine zz_nme (fun v26 ev26 => ?_)
  refine zz_istore [some (.ref (zz_rf 5 t)), some (zl p0), none, some (zi p1), some (zi (zz_fy p0 0 15)), some (zi ((zz_fy p0 20 63) - 1)), some (zi ((zz_fy p0 26 31) - 1)), some (zi (zz_fy p0 31 511)), some (zi (zz_fy p0 40 511)), some (zi (zz_fy p0 59 31)), some (zi v26)] zd_9_5_58 (by decide) rfl ?_
  refine zz_iload (x := zz_fy p0 0 15) rfl zd_9_5_60 ?_
  refine zz_iconst zd_9_5_62 ?_
  refine zz_icmp_ne (by omega) (by omega) zd_9_5_63 (fun c27 => ?_) (fun c27 => ?_)
  · refine zz_iload (x := zz_fy p0 0 15) rfl zd_9_5_130 ?_
    refine zz_bipush (by decide) zd_9_5_132 ?_
    refine zz_icmp_ne (by omega) (by omega) zd_9_5_134 (fun c28 => ?_) (fun c28 => ?_)
    · refine zz_iload (x := zz_fy p0 0 15) rfl zd_9_5_167 ?_
      refine zz_bipush (by decide) zd_9_5_169 ?_
      refine zz_icmp_ne (by omega) (by omega) zd_9_5_171 (fun c29 => ?_) (fun c29 => ?_)
      · exact zz_vret zd_9_5_192 rfl (Nat.zero_le _) (Nat.zero_le _) ⟨_, rfl, G_S0, F_S0⟩
      · refine zz_aload_n (x := zz_rf 5 t) rfl zd_9_5_174 ?_
        refine zz_iconst zd_9_5_175 ?_
        refine zz_iload (x := zz_fy p0 31 511) rfl zd_9_5_176 ?_
        refine zz_iload (x := v26) rfl zd_9_5_178 ?_
        refine zz_callVV [zi 3, zi (zz_fy p0 31 511), zi v26] zd_9_5_180 zk_Reaches_33 (zT_k5 (by omega)) (zN_k5 hn (by omega)) rfl rfl ⟨Nat.le_of_ble_eq_true rfl, Nat.le_of_ble_eq_true rfl⟩ ⟨rfl, rfl⟩ (Nat.zero_le _) (Nat.zero_le _) (zc_reads_9_8 t 3 (zz_fy p0 31 511) v26 S0 n hn G_S0 (by omega) (by omega) (by omega) (by omega)) (fun S30 hP => ?_)
        obtain ⟨G_S30, fS30⟩ := hP
        have F_S30 := zz_fr.trans F_S0 fS30 rfl (fun a i h => by rcases h with h | h; exact Or.inr (Or.inr (Or.inl h)); exact Or.inr (Or.inr (Or.inr (Or.inl h))))
        have b32 := zz_rf5 (z := t) (by omega)
        refine zz_aload_n (x := zz_rf 5 t) rfl zd_9_5_183 ?_
        refine zz_iconst zd_9_5_184 ?_
        refine zz_iload (x := zz_fy p0 40 511) rfl zd_9_5_185 ?_
        refine zz_iload (x := v26) rfl zd_9_5_187 ?_
        refine zz_callVV [zi 4, zi (zz_fy p0 40 511), zi v26] zd_9_5_189 zk_Reaches_37 (zT_k5 (by omega)) (zN_k5 hn (by omega)) rfl rfl ⟨Nat.le_of_ble_eq_true rfl, Nat.le_of_ble_eq_true rfl⟩ ⟨rfl, rfl⟩ (Nat.zero_le _) (Nat.zero_le _) (zc_writes_9_9 t 4 (zz_fy p0 40 511) v26 S30 n hn G_S30 (by omega) (by omega) (by omega) (by omega)) (fun S33 hP => ?_)
        obtain ⟨G_S33, fS33⟩ := hP
        have F_S33 := zz_fr.trans F_S30 fS33 rfl (fun a i h => by rcases h with h | h; exact Or.inr (Or.inr (Or.inr (Or.inr (Or.inl h)))); exact Or.inr (Or.inr (Or.inr (Or.inr (Or.inr (h))))))
        exact zz_vret zd_9_5_192 rfl (Nat.zero_le _) (Nat.zero_le _) ⟨_, rfl, G_S33, F_S33⟩
    · refine zz_aload_n (x := zz_rf 5 t) rfl zd_9_5_137 ?_
      refine zz_iconst zd_9_5_138 ?_
      refine zz_iload (x := zz_fy p0 31 511) rfl zd_9_5_139 ?_
      refine zz_iload (x := v26) rfl zd_9_5_141 ?_
      refine zz_callVV [zi 1, zi (zz_fy p0 31 511), zi v26] zd_9_5_143 zk_Reaches_33 (zT_k5 (by omega)) (zN_k5 hn (by omega)) rfl rfl ⟨Nat.le_of_ble_eq_true rfl, Nat.le_of_ble_eq_true rfl⟩ ⟨rfl, rfl⟩ (Nat.zero_le _) (Nat.zero_le _) (zc_reads_9_8 t 1 (zz_fy p0 31 511) v26 S0 n hn G_S0 (by omega) (by omega) (by omega) (by omega)) (fun S35 hP => ?_)
      obtain ⟨G_S35, fS35⟩ := hP
      have F_S35 := zz_fr.trans F_S0 fS35 rfl (fun a i h => by rcases h with h | h; exact Or.inr (Or.inr (Or.inl h)); exact Or.inr (Or.inr (Or.inr (Or.inl h))))
      have b37 := zz_rf5 (z := t) (by omega)
      refine zz_aload_n (x := zz_rf 5 t) rfl zd_9_5_146 ?_
      refine zz_iload (x := zz_fy p0 40 511) rfl zd_9_5_147 ?_
      refine zz_iload (x := v26) rfl zd_9_5_149 ?_
      refine zz_iload (x := zz_fy p0 59 31) rfl zd_9_5_151 ?_
      refine zz_if_le (by omega) zd_9_5_153 (fun c38 => ?_) (fun c38 => ?_)
      · refine zz_iconst zd_9_5_160 ?_
        refine zz_callVV [zi (zz_fy p0 40 511), zi v26, zi 0] zd_9_5_161 zk_Reaches_51 (zT_k5 (by omega)) (zN_k5 hn (by omega)) rfl rfl ⟨Nat.le_of_ble_eq_true rfl, Nat.le_of_ble_eq_true rfl⟩ ⟨rfl, rfl⟩ (Nat.zero_le _) (Nat.zero_le _) (zc_workOnSums_9_6 t (zz_fy p0 40 511) v26 0 S35 n hn G_S35 (by omega) (by omega) (by omega) (by omega)) (fun S39 hP => ?_)
        obtain ⟨G_S39, fS39⟩ := hP
        have F_S39 := zz_fr.trans F_S35 fS39 rfl (fun a i h => by rcases h with h | h | h | h; exact Or.inr (Or.inr (Or.inl h)); exact Or.inr (Or.inr (Or.inr (Or.inl h))); exact Or.inr (Or.inr (Or.inr (Or.inr (Or.inl h)))); exact Or.inr (Or.inr (Or.inr (Or.inr (Or.inr (h))))))
        refine zz_goto zd_9_5_164 ?_
        exact zz_vret zd_9_5_192 rfl (Nat.zero_le _) (Nat.zero_le _) ⟨_, rfl, G_S39, F_S39⟩
      · refine zz_iconst zd_9_5_156 ?_
        refine zz_goto zd_9_5_157 ?_
        refine zz_callVV [zi (zz_fy p0 40 511), zi v26, zi 1] zd_9_5_161 zk_Reaches_51 (zT_k5 (by omega)) (zN_k5 hn (by omega)) rfl rfl ⟨Nat.le_of_ble_eq_true rfl, Nat.le_of_ble_eq_true rfl⟩ ⟨rfl, rfl⟩ (Nat.zero_le _) (Nat.zero_le _) (zc_workOnSums_9_6 t (zz_fy p0 40 511) v26 1 S35 n hn G_S35 (by omega) (by omega) (by omega) (by omega)) (fun S41 hP => ?_)
        obtain ⟨G_S41, fS41⟩ := hP
        have F_S41 := zz_fr.trans F_S35 fS41 rfl (fun a i h => by rcases h with h | h | h | h; exact Or.inr (Or.inr (Or.inl h)); exact Or.inr (Or.inr (Or.inr (Or.inl h))); exact Or.inr (Or.inr (Or.inr (Or.inr (Or.inl h)))); exact Or.inr (Or.inr (Or.inr (Or.inr (Or.inr (h))))))
        refine zz_goto zd_9_5_164 ?_
        exact zz_vret zd_9_5_192 rfl (Nat.zero_le _) (Nat.zero_le _) ⟨_, rfl, G_S41, F_S41⟩
  · refine zz_iload (x := zz_fy p0 59 31) rfl zd_9_5_66 ?_
    refine zz_iconst zd_9_5_68 ?_
    refine zz_idiv (by omega) (by omega) zd_9_5_69 (fun v43 hv43 av43 bv43 cv43 => ?_)
    obtain rfl : v43 = (zz_fy p0 59 31) / 2 := by omega
    refine zz_iconst zd_9_5_70 ?_
    refine zz_isub zd_9_5_71 ?_
    refine zz_istore [some (.ref (zz_rf 5 t)), some (zl p0), none, some (zi p1), some (zi (zz_fy p0 0 15)), some (zi ((zz_fy p0 20 63) - 1)), some (zi ((zz_fy p0 26 31) - 1)), some (zi (zz_fy p0 31 511)), some (zi (zz_fy p0 40 511)), some (zi (zz_fy p0 59 31)), some (zi v26), some (zi (((zz_fy p0 59 31) / 2) - 1))] zd_9_5_72 (by decide) rfl ?_
    refine zz_aload_n (x := zz_rf 5 t) rfl zd_9_5_74 ?_
    refine zz_iconst zd_9_5_75 ?_
    refine zz_iload (x := zz_fy p0 31 511) rfl zd_9_5_76 ?_
    refine zz_iload (x := (zz_fy p0 20 63) - 1) rfl zd_9_5_78 ?_
    refine zz_iload_n (x := p1) rfl zd_9_5_80 ?_
    refine zz_imul zd_9_5_81 ?_
    have m44 := zz_mulh (a := (zz_fy p0 20 63) - 1) (b := p1) (-1) 62 8 (-8) 496 (by omega) (by omega) (by decide) (by decide) (by decide) (by decide)
    refine zz_iload (x := ((zz_fy p0 59 31) / 2) - 1) rfl zd_9_5_82 ?_
    refine zz_iadd zd_9_5_84 ?_
    refine zz_nme (fun v45 ev45 => ?_)
    refine zz_callVV [zi 1, zi (zz_fy p0 31 511), zi v45] zd_9_5_85 zk_Reaches_33 (zT_k5 (by omega)) (zN_k5 hn (by omega)) rfl rfl ⟨Nat.le_of_ble_eq_true rfl, Nat.le_of_ble_eq_true rfl⟩ ⟨rfl, rfl⟩ (Nat.zero_le _) (Nat.zero_le _) (zc_reads_9_8 t 1 (zz_fy p0 31 511) v45 S0 n hn G_S0 (by omega) (by omega) (by omega) (by omega)) (fun S46 hP => ?_)
    obtain ⟨G_S46, fS46⟩ := hP
    have F_S46 := zz_fr.trans F_S0 fS46 rfl (fun a i h => by rcases h with h | h; exact Or.inr (Or.inr (Or.inl h)); exact Or.inr (Or.inr (Or.inr (Or.inl h))))
    have b48 := zz_rf5 (z := t) (by omega)
    refine zz_aload_n (x := zz_rf 5 t) rfl zd_9_5_88 ?_
    refine zz_iconst zd_9_5_89 ?_
    refine zz_lload_n (x := p0) rfl zd_9_5_90 ?_
    refine zz_bipush (by decide) zd_9_5_91 ?_
    refine zz_callSI [zl p0, zi 10] zd_9_5_93 zk_Reaches_29 rfl rfl ⟨Nat.le_of_ble_eq_true rfl, Nat.le_of_ble_eq_true rfl⟩ ⟨rfl, rfl⟩ (Nat.zero_le _) (Nat.zero_le _) (zc_get_12_2x_10 p0 S46 n hn G_S46 (by omega)) (fun v50 S49 hP => ?_)
    obtain ⟨rfl, o51, o52⟩ := hP
    subst o52
    refine zz_iload (x := ((zz_fy p0 59 31) / 2) - 1) rfl zd_9_5_96 ?_
    refine zz_iload_n (x := p1) rfl zd_9_5_98 ?_
    refine zz_imul zd_9_5_99 ?_
    have m53 := zz_mulh (a := ((zz_fy p0 59 31) / 2) - 1) (b := p1) (-1) 14 8 (-8) 112 (by omega) (by omega) (by decide) (by decide) (by decide) (by decide)
    refine zz_iload (x := (zz_fy p0 26 31) - 1) rfl zd_9_5_100 ?_
    refine zz_iadd zd_9_5_102 ?_
    refine zz_nme (fun v54 ev54 => ?_)
    refine zz_callVV [zi 2, zi (zz_fy p0 49 1023), zi v54] zd_9_5_103 zk_Reaches_33 (zT_k5 (by omega)) (zN_k5 hn (by omega)) rfl rfl ⟨Nat.le_of_ble_eq_true rfl, Nat.le_of_ble_eq_true rfl⟩ ⟨rfl, rfl⟩ (Nat.zero_le _) (Nat.zero_le _) (zc_reads_9_8 t 2 (zz_fy p0 49 1023) v54 S46 n hn G_S46 (by omega) (by omega) (by omega) (by omega)) (fun S55 hP => ?_)
    obtain ⟨G_S55, fS55⟩ := hP
    have F_S55 := zz_fr.trans F_S46 fS55 rfl (fun a i h => by rcases h with h | h; exact Or.inr (Or.inr (Or.inl h)); exact Or.inr (Or.inr (Or.inr (Or.inl h))))
    refine zz_aload_n (x := zz_rf 5 t) rfl zd_9_5_106 ?_
    refine zz_iload (x := zz_fy p0 40 511) rfl zd_9_5_107 ?_
    refine zz_iload (x := v26) rfl zd_9_5_109 ?_
    refine zz_iload (x := zz_fy p0 59 31) rfl zd_9_5_111 ?_
    refine zz_iconst zd_9_5_113 ?_
    refine zz_iand (by omega) (by omega) zd_9_5_114 (fun v57 hv57 av57 bv57 ev57 => ?_)
    refine zz_iconst zd_9_5_115 ?_
    refine zz_icmp_ne (by omega) (by omega) zd_9_5_116 (fun c58 => ?_) (fun c58 => ?_)
    · refine zz_iconst zd_9_5_123 ?_
      refine zz_callVV [zi (zz_fy p0 40 511), zi v26, zi 0] zd_9_5_124 zk_Reaches_51 (zT_k5 (by omega)) (zN_k5 hn (by omega)) rfl rfl ⟨Nat.le_of_ble_eq_true rfl, Nat.le_of_ble_eq_true rfl⟩ ⟨rfl, rfl⟩ (Nat.zero_le _) (Nat.zero_le _) (zc_workOnSums_9_6 t (zz_fy p0 40 511) v26 0 S55 n hn G_S55 (by omega) (by omega) (by omega) (by omega)) (fun S59 hP => ?_)
      obtain ⟨G_S59, fS59⟩ := hP
      have F_S59 := zz_fr.trans F_S55 fS59 rfl (fun a i h => by rcases h with h | h | h | h; exact Or.inr (Or.inr (Or.inl h)); exact Or.inr (Or.inr (Or.inr (Or.inl h))); exact Or.inr (Or.inr (Or.inr (Or.inr (Or.inl h)))); exact Or.inr (Or.inr (Or.inr (Or.inr (Or.inr (h))))))
      refine zz_goto zd_9_5_127 ?_
      exact zz_vret zd_9_5_192 rfl (Nat.zero_le _) (Nat.zero_le _) ⟨_, rfl, G_S59, F_S59⟩
    · refine zz_iconst zd_9_5_119 ?_
      refine zz_goto zd_9_5_120 ?_
      refine zz_callVV [zi (zz_fy p0 40 511), zi v26, zi 1] zd_9_5_124 zk_Reaches_51 (zT_k5 (by omega)) (zN_k5 hn (by omega)) rfl rfl ⟨Nat.le_of_ble_eq_true rfl, Nat.le_of_ble_eq_true rfl⟩ ⟨rfl, rfl⟩ (Nat.zero_le _) (Nat.zero_le _) (zc_workOnSums_9_6 t (zz_fy p0 40 511) v26 1 S55 n hn G_S55 (by omega) (by omega) (by omega) (by omega)) (fun S61 hP => ?_)
      obtain ⟨G_S61, fS61⟩ := hP
      have F_S61 := zz_fr.trans F_S55 fS61 rfl (fun a i h => by rcases h with h | h | h | h; exact Or.inr (Or.inr (Or.inl h)); exact Or.inr (Or.inr (Or.inr (Or.inl h))); exact Or.inr (Or.inr (Or.inr (Or.inr (Or.inl h)))); exact Or.inr (Or.inr (Or.inr (Or.inr (Or.inr (h))))))
      refine zz_goto zd_9_5_127 ?_
      exact zz_vret zd_9_5_192 rfl (Nat.zero_le _) (Nat.zero_le _) ⟨_, rfl, G_S61, F_S61⟩
-- TensorForge$Reaches take (JI)V
abbrev zr_take_9_2 : Room := { frames := 3, cells := 0, slots := 0, locals := 53 }
def zp_take_9_2 (t : Int) (p0 : Int) (p1 : Int) (S0 : zz_S) : zz_S → Prop := fun S => zz_G S ∧ zz_fr [] [] (fun a i => a = zz_rf 5 t + 1 ∨ a = zz_rf 5 t + 2 ∨ a = zz_rf 5 t + 3 ∨ a = zz_rf 5 t + 4) S0 S
theorem zc_take_9_2 {g : mm_G} {l : Launch} (t : Int) (p0 : Int) (p1 : Int) (S0 : zz_S) (n : Nat) (hn : zz_end ≤ n) (G_S0 : zz_G S0) (ht : 0 ≤ t ∧ t ≤ 4) (hp0 : (-9223372036854775808) ≤ p0 ∧ p0 ≤ 9223372036854775807) (hp1 : 2 ≤ p1 ∧ p1 ≤ 8) : mm_Met g l zy_take_9_2 zr_take_9_2 [.ref (zz_rf 5 t), zl p0, zi p1] (zz_M S0 n) n (zz_QV n (zp_take_9_2 t p0 p1 S0)) := by
  refine zz_enter (by decide) (Nat.le_of_ble_eq_true rfl) (zz_less (ls1 := [some (.ref (zz_rf 5 t)), some (zl p0), none, some (zi p1)]) ⟨rfl, ⟨rfl, ⟨rfl, trivial⟩⟩⟩ ?_)
  have F_S0 : zz_fr [] [] (fun a i => a = zz_rf 5 t + 1 ∨ a = zz_rf 5 t + 2 ∨ a = zz_rf 5 t + 3 ∨ a = zz_rf 5 t + 4) S0 S0 := zz_fr.refl
  have b_t := zz_rf5 (z := t) (by omega)
  refine zz_aload_n (x := zz_rf 5 t) rfl zd_9_2_0 ?_
  refine zz_callVV [] zd_9_2_1 zk_Reaches_24 (zT_k5 (by omega)) (zN_k5 hn (by omega)) rfl rfl ⟨Nat.le_of_ble_eq_true rfl, Nat.le_of_ble_eq_true rfl⟩ ⟨rfl, rfl⟩ (Nat.zero_le _) (Nat.zero_le _) (zc_forget_9_7 t S0 n hn G_S0 (by omega)) (fun S1 hP => ?_)
  obtain ⟨G_S1, fS1⟩ := hP
  have F_S1 := zz_fr.trans F_S0 fS1 rfl (fun a i h => by rcases h with h | h | h | h; exact Or.inr (Or.inr (Or.inl h)); exact Or.inr (Or.inr (Or.inr (Or.inl h))); exact Or.inr (Or.inr (Or.inr (Or.inr (Or.inl h)))); exact Or.inr (Or.inr (Or.inr (Or.inr (Or.inr (h))))))
  have b3 := zz_rf5 (z := t) (by omega)
  refine zz_lload_n (x := p0) rfl zd_9_2_4 ?_
  refine zz_iconst zd_9_2_5 ?_
  refine zz_callSI [zl p0, zi 0] zd_9_2_6 zk_Reaches_29 rfl rfl ⟨Nat.le_of_ble_eq_true rfl, Nat.le_of_ble_eq_true rfl⟩ ⟨rfl, rfl⟩ (Nat.zero_le _) (Nat.zero_le _) (zc_get_12_2x_0 p0 S1 n hn G_S1 (by omega)) (fun v5 S4 hP => ?_)
  obtain ⟨rfl, o6, o7⟩ := hP
  subst o7
  refine zz_istore [some (.ref (zz_rf 5 t)), some (zl p0), none, some (zi p1), some (zi (zz_fy p0 0 15))] zd_9_2_9 (by decide) rfl ?_
  refine zz_lload_n (x := p0) rfl zd_9_2_11 ?_
  refine zz_iconst zd_9_2_12 ?_
  refine zz_callSI [zl p0, zi 5] zd_9_2_13 zk_Reaches_29 rfl rfl ⟨Nat.le_of_ble_eq_true rfl, Nat.le_of_ble_eq_true rfl⟩ ⟨rfl, rfl⟩ (Nat.zero_le _) (Nat.zero_le _) (zc_get_12_2x_5 p0 S1 n hn G_S1 (by omega)) (fun v9 S8 hP => ?_)
  obtain ⟨rfl, o10, o11⟩ := hP
  subst o11
  refine zz_istore [some (.ref (zz_rf 5 t)), some (zl p0), none, some (zi p1), some (zi (zz_fy p0 0 15)), some (zi (zz_fy p0 8 4095))] zd_9_2_16 (by decide) rfl ?_
  refine zz_lload_n (x := p0) rfl zd_9_2_18 ?_
  refine zz_bipush (by decide) zd_9_2_19 ?_
  refine zz_callSI [zl p0, zi 6] zd_9_2_21 zk_Reaches_29 rfl rfl ⟨Nat.le_of_ble_eq_true rfl, Nat.le_of_ble_eq_true rfl⟩ ⟨rfl, rfl⟩ (Nat.zero_le _) (Nat.zero_le _) (zc_get_12_2x_6 p0 S1 n hn G_S1 (by omega)) (fun v13 S12 hP => ?_)
  obtain ⟨rfl, o14, o15⟩ := hP
  subst o15
  refine zz_iconst zd_9_2_24 ?_
  refine zz_isub zd_9_2_25 ?_
  refine zz_istore [some (.ref (zz_rf 5 t)), some (zl p0), none, some (zi p1), some (zi (zz_fy p0 0 15)), some (zi (zz_fy p0 8 4095)), some (zi ((zz_fy p0 20 63) - 1))] zd_9_2_26 (by decide) rfl ?_
  refine zz_lload_n (x := p0) rfl zd_9_2_28 ?_
  refine zz_bipush (by decide) zd_9_2_29 ?_
  refine zz_callSI [zl p0, zi 7] zd_9_2_31 zk_Reaches_29 rfl rfl ⟨Nat.le_of_ble_eq_true rfl, Nat.le_of_ble_eq_true rfl⟩ ⟨rfl, rfl⟩ (Nat.zero_le _) (Nat.zero_le _) (zc_get_12_2x_7 p0 S1 n hn G_S1 (by omega)) (fun v17 S16 hP => ?_)
  obtain ⟨rfl, o18, o19⟩ := hP
  subst o19
  refine zz_iconst zd_9_2_34 ?_
  refine zz_isub zd_9_2_35 ?_
  refine zz_istore [some (.ref (zz_rf 5 t)), some (zl p0), none, some (zi p1), some (zi (zz_fy p0 0 15)), some (zi (zz_fy p0 8 4095)), some (zi ((zz_fy p0 20 63) - 1)), some (zi ((zz_fy p0 26 31) - 1))] zd_9_2_36 (by decide) rfl ?_
  refine zz_lload_n (x := p0) rfl zd_9_2_38 ?_
  refine zz_bipush (by decide) zd_9_2_39 ?_
  refine zz_callSI [zl p0, zi 10] zd_9_2_41 zk_Reaches_29 rfl rfl ⟨Nat.le_of_ble_eq_true rfl, Nat.le_of_ble_eq_true rfl⟩ ⟨rfl, rfl⟩ (Nat.zero_le _) (Nat.zero_le _) (zc_get_12_2x_10 p0 S1 n hn G_S1 (by omega)) (fun v21 S20 hP => ?_)
  obtain ⟨rfl, o22, o23⟩ := hP
  subst o23
  refine zz_istore [some (.ref (zz_rf 5 t)), some (zl p0), none, some (zi p1), some (zi (zz_fy p0 0 15)), some (zi (zz_fy p0 8 4095)), some (zi ((zz_fy p0 20 63) - 1)), some (zi ((zz_fy p0 26 31) - 1)), some (zi (zz_fy p0 49 1023))] zd_9_2_44 (by decide) rfl ?_
  refine zz_lload_n (x := p0) rfl zd_9_2_46 ?_
  refine zz_bipush (by decide) zd_9_2_47 ?_
  refine zz_callSI [zl p0, zi 8] zd_9_2_49 zk_Reaches_29 rfl rfl ⟨Nat.le_of_ble_eq_true rfl, Nat.le_of_ble_eq_true rfl⟩ ⟨rfl, rfl⟩ (Nat.zero_le _) (Nat.zero_le _) (zc_get_12_2x_8 p0 S1 n hn G_S1 (by omega)) (fun v25 S24 hP => ?_)
  obtain ⟨rfl, o26, o27⟩ := hP
  subst o27
  refine zz_istore [some (.ref (zz_rf 5 t)), some (zl p0), none, some (zi p1), some (zi (zz_fy p0 0 15)), some (zi (zz_fy p0 8 4095)), some (zi ((zz_fy p0 20 63) - 1)), some (zi ((zz_fy p0 26 31) - 1)), some (zi (zz_fy p0 49 1023)), some (zi (zz_fy p0 31 511))] zd_9_2_52 (by decide) rfl ?_
  refine zz_iload (x := (zz_fy p0 20 63) - 1) rfl zd_9_2_54 ?_
  refine zz_iload_n (x := p1) rfl zd_9_2_56 ?_
  refine zz_imul zd_9_2_57 ?_
  have m28 := zz_mulh (a := (zz_fy p0 20 63) - 1) (b := p1) (-1) 62 8 (-8) 496 (by omega) (by omega) (by decide) (by decide) (by decide) (by decide)
  refine zz_iload (x := (zz_fy p0 26 31) - 1) rfl zd_9_2_58 ?_
  refine zz_iadd zd_9_2_60 ?_
  refine zz_nme (fun v29 ev29 => ?_)
  refine zz_istore [some (.ref (zz_rf 5 t)), some (zl p0), none, some (zi p1), some (zi (zz_fy p0 0 15)), some (zi (zz_fy p0 8 4095)), some (zi ((zz_fy p0 20 63) - 1)), some (zi ((zz_fy p0 26 31) - 1)), some (zi (zz_fy p0 49 1023)), some (zi (zz_fy p0 31 511)), some (zi v29)] zd_9_2_61 (by decide) rfl ?_
  refine zz_iload (x := (zz_fy p0 20 63) - 1) rfl zd_9_2_63 ?_
  refine zz_iload (x := zz_fy p0 49 1023) rfl zd_9_2_65 ?_
  refine zz_imul zd_9_2_67 ?_
  have m30 := zz_mulh (a := (zz_fy p0 20 63) - 1) (b := zz_fy p0 49 1023) (-1) 62 1023 (-1023) 63426 (by omega) (by omega) (by decide) (by decide) (by decide) (by decide)
  refine zz_iload (x := (zz_fy p0 26 31) - 1) rfl zd_9_2_68 ?_
  refine zz_iadd zd_9_2_70 ?_
  refine zz_nme (fun v31 ev31 => ?_)
  refine zz_istore [some (.ref (zz_rf 5 t)), some (zl p0), none, some (zi p1), some (zi (zz_fy p0 0 15)), some (zi (zz_fy p0 8 4095)), some (zi ((zz_fy p0 20 63) - 1)), some (zi ((zz_fy p0 26 31) - 1)), some (zi (zz_fy p0 49 1023)), some (zi (zz_fy p0 31 511)), some (zi v29), some (zi v31)] zd_9_2_71 (by decide) rfl ?_
  refine zz_iload (x := zz_fy p0 0 15) rfl zd_9_2_73 ?_
  by_cases c32 : zz_fy p0 0 15 = 1
  · refine zz_swIn 1 45 c32 (by decide) zd_9_2_75 rfl rfl ?_
    refine zz_aload_n (x := zz_rf 5 t) rfl zd_9_2_120 ?_
    refine zz_iconst zd_9_2_121 ?_
    refine zz_iload (x := zz_fy p0 8 4095) rfl zd_9_2_122 ?_
    refine zz_iload (x := v31) rfl zd_9_2_124 ?_
    refine zz_callVV [zi 0, zi (zz_fy p0 8 4095), zi v31] zd_9_2_126 zk_Reaches_33 (zT_k5 (by omega)) (zN_k5 hn (by omega)) rfl rfl ⟨Nat.le_of_ble_eq_true rfl, Nat.le_of_ble_eq_true rfl⟩ ⟨rfl, rfl⟩ (Nat.zero_le _) (Nat.zero_le _) (zc_reads_9_8 t 0 (zz_fy p0 8 4095) v31 S1 n hn G_S1 (by omega) (by omega) (by omega) (by omega)) (fun S33 hP => ?_)
    obtain ⟨G_S33, fS33⟩ := hP
    have F_S33 := zz_fr.trans F_S1 fS33 rfl (fun a i h => by rcases h with h | h; exact Or.inr (Or.inr (Or.inl h)); exact Or.inr (Or.inr (Or.inr (Or.inl h))))
    refine zz_aload_n (x := zz_rf 5 t) rfl zd_9_2_129 ?_
    refine zz_iconst zd_9_2_130 ?_
    refine zz_iload (x := zz_fy p0 31 511) rfl zd_9_2_131 ?_
    refine zz_iload (x := v29) rfl zd_9_2_133 ?_
    refine zz_callVV [zi 1, zi (zz_fy p0 31 511), zi v29] zd_9_2_135 zk_Reaches_37 (zT_k5 (by omega)) (zN_k5 hn (by omega)) rfl rfl ⟨Nat.le_of_ble_eq_true rfl, Nat.le_of_ble_eq_true rfl⟩ ⟨rfl, rfl⟩ (Nat.zero_le _) (Nat.zero_le _) (zc_writes_9_9 t 1 (zz_fy p0 31 511) v29 S33 n hn G_S33 (by omega) (by omega) (by omega) (by omega)) (fun S35 hP => ?_)
    obtain ⟨G_S35, fS35⟩ := hP
    have F_S35 := zz_fr.trans F_S33 fS35 rfl (fun a i h => by rcases h with h | h; exact Or.inr (Or.inr (Or.inr (Or.inr (Or.inl h)))); exact Or.inr (Or.inr (Or.inr (Or.inr (Or.inr (h))))))
    refine zz_goto zd_9_2_138 ?_
    exact zz_vret zd_9_2_232 rfl (Nat.zero_le _) (Nat.zero_le _) ⟨_, rfl, G_S35, F_S35⟩
  by_cases c37 : zz_fy p0 0 15 = 2
  · refine zz_swIn 2 66 c37 (by decide) zd_9_2_75 rfl rfl ?_
    refine zz_aload_n (x := zz_rf 5 t) rfl zd_9_2_141 ?_
    refine zz_iconst zd_9_2_142 ?_
    refine zz_iload (x := zz_fy p0 8 4095) rfl zd_9_2_143 ?_
    refine zz_iload (x := v31) rfl zd_9_2_145 ?_
    refine zz_callVV [zi 0, zi (zz_fy p0 8 4095), zi v31] zd_9_2_147 zk_Reaches_33 (zT_k5 (by omega)) (zN_k5 hn (by omega)) rfl rfl ⟨Nat.le_of_ble_eq_true rfl, Nat.le_of_ble_eq_true rfl⟩ ⟨rfl, rfl⟩ (Nat.zero_le _) (Nat.zero_le _) (zc_reads_9_8 t 0 (zz_fy p0 8 4095) v31 S1 n hn G_S1 (by omega) (by omega) (by omega) (by omega)) (fun S38 hP => ?_)
    obtain ⟨G_S38, fS38⟩ := hP
    have F_S38 := zz_fr.trans F_S1 fS38 rfl (fun a i h => by rcases h with h | h; exact Or.inr (Or.inr (Or.inl h)); exact Or.inr (Or.inr (Or.inr (Or.inl h))))
    refine zz_aload_n (x := zz_rf 5 t) rfl zd_9_2_150 ?_
    refine zz_iconst zd_9_2_151 ?_
    refine zz_iload (x := zz_fy p0 31 511) rfl zd_9_2_152 ?_
    refine zz_iload (x := v29) rfl zd_9_2_154 ?_
    refine zz_callVV [zi 2, zi (zz_fy p0 31 511), zi v29] zd_9_2_156 zk_Reaches_37 (zT_k5 (by omega)) (zN_k5 hn (by omega)) rfl rfl ⟨Nat.le_of_ble_eq_true rfl, Nat.le_of_ble_eq_true rfl⟩ ⟨rfl, rfl⟩ (Nat.zero_le _) (Nat.zero_le _) (zc_writes_9_9 t 2 (zz_fy p0 31 511) v29 S38 n hn G_S38 (by omega) (by omega) (by omega) (by omega)) (fun S40 hP => ?_)
    obtain ⟨G_S40, fS40⟩ := hP
    have F_S40 := zz_fr.trans F_S38 fS40 rfl (fun a i h => by rcases h with h | h; exact Or.inr (Or.inr (Or.inr (Or.inr (Or.inl h)))); exact Or.inr (Or.inr (Or.inr (Or.inr (Or.inr (h))))))
    refine zz_goto zd_9_2_159 ?_
    exact zz_vret zd_9_2_232 rfl (Nat.zero_le _) (Nat.zero_le _) ⟨_, rfl, G_S40, F_S40⟩
  by_cases c42 : zz_fy p0 0 15 = 3
  · refine zz_swIn 3 87 c42 (by decide) zd_9_2_75 rfl rfl ?_
    refine zz_aload_n (x := zz_rf 5 t) rfl zd_9_2_162 ?_
    refine zz_iconst zd_9_2_163 ?_
    refine zz_iload (x := zz_fy p0 31 511) rfl zd_9_2_164 ?_
    refine zz_iload (x := v29) rfl zd_9_2_166 ?_
    refine zz_callVV [zi 1, zi (zz_fy p0 31 511), zi v29] zd_9_2_168 zk_Reaches_37 (zT_k5 (by omega)) (zN_k5 hn (by omega)) rfl rfl ⟨Nat.le_of_ble_eq_true rfl, Nat.le_of_ble_eq_true rfl⟩ ⟨rfl, rfl⟩ (Nat.zero_le _) (Nat.zero_le _) (zc_writes_9_9 t 1 (zz_fy p0 31 511) v29 S1 n hn G_S1 (by omega) (by omega) (by omega) (by omega)) (fun S43 hP => ?_)
    obtain ⟨G_S43, fS43⟩ := hP
    have F_S43 := zz_fr.trans F_S1 fS43 rfl (fun a i h => by rcases h with h | h; exact Or.inr (Or.inr (Or.inr (Or.inr (Or.inl h)))); exact Or.inr (Or.inr (Or.inr (Or.inr (Or.inr (h))))))
    refine zz_goto zd_9_2_171 ?_
    exact zz_vret zd_9_2_232 rfl (Nat.zero_le _) (Nat.zero_le _) ⟨_, rfl, G_S43, F_S43⟩
  by_cases c45 : zz_fy p0 0 15 = 4
  · refine zz_swIn 4 99 c45 (by decide) zd_9_2_75 rfl rfl ?_
    refine zz_aload_n (x := zz_rf 5 t) rfl zd_9_2_174 ?_
    refine zz_iconst zd_9_2_175 ?_
    refine zz_iload (x := zz_fy p0 8 4095) rfl zd_9_2_176 ?_
    refine zz_iload (x := (zz_fy p0 20 63) - 1) rfl zd_9_2_178 ?_
    refine zz_iload (x := zz_fy p0 49 1023) rfl zd_9_2_180 ?_
    refine zz_imul zd_9_2_182 ?_
    have m46 := zz_mulh (a := (zz_fy p0 20 63) - 1) (b := zz_fy p0 49 1023) (-1) 62 1023 (-1023) 63426 (by omega) (by omega) (by decide) (by decide) (by decide) (by decide)
    refine zz_iconst zd_9_2_183 ?_
    refine zz_iload (x := (zz_fy p0 26 31) - 1) rfl zd_9_2_184 ?_
    refine zz_imul zd_9_2_186 ?_
    refine zz_iadd zd_9_2_187 ?_
    refine zz_nme (fun v47 ev47 => ?_)
    refine zz_iconst zd_9_2_188 ?_
    refine zz_iadd zd_9_2_189 ?_
    refine zz_callVV [zi 0, zi (zz_fy p0 8 4095), zi (v47 + 3)] zd_9_2_190 zk_Reaches_33 (zT_k5 (by omega)) (zN_k5 hn (by omega)) rfl rfl ⟨Nat.le_of_ble_eq_true rfl, Nat.le_of_ble_eq_true rfl⟩ ⟨rfl, rfl⟩ (Nat.zero_le _) (Nat.zero_le _) (zc_reads_9_8 t 0 (zz_fy p0 8 4095) (v47 + 3) S1 n hn G_S1 (by omega) (by omega) (by omega) (by omega)) (fun S48 hP => ?_)
    obtain ⟨G_S48, fS48⟩ := hP
    have F_S48 := zz_fr.trans F_S1 fS48 rfl (fun a i h => by rcases h with h | h; exact Or.inr (Or.inr (Or.inl h)); exact Or.inr (Or.inr (Or.inr (Or.inl h))))
    refine zz_aload_n (x := zz_rf 5 t) rfl zd_9_2_193 ?_
    refine zz_iconst zd_9_2_194 ?_
    refine zz_iload (x := zz_fy p0 31 511) rfl zd_9_2_195 ?_
    refine zz_iload (x := v29) rfl zd_9_2_197 ?_
    refine zz_callVV [zi 3, zi (zz_fy p0 31 511), zi v29] zd_9_2_199 zk_Reaches_37 (zT_k5 (by omega)) (zN_k5 hn (by omega)) rfl rfl ⟨Nat.le_of_ble_eq_true rfl, Nat.le_of_ble_eq_true rfl⟩ ⟨rfl, rfl⟩ (Nat.zero_le _) (Nat.zero_le _) (zc_writes_9_9 t 3 (zz_fy p0 31 511) v29 S48 n hn G_S48 (by omega) (by omega) (by omega) (by omega)) (fun S50 hP => ?_)
    obtain ⟨G_S50, fS50⟩ := hP
    have F_S50 := zz_fr.trans F_S48 fS50 rfl (fun a i h => by rcases h with h | h; exact Or.inr (Or.inr (Or.inr (Or.inr (Or.inl h)))); exact Or.inr (Or.inr (Or.inr (Or.inr (Or.inr (h))))))
    refine zz_goto zd_9_2_202 ?_
    exact zz_vret zd_9_2_232 rfl (Nat.zero_le _) (Nat.zero_le _) ⟨_, rfl, G_S50, F_S50⟩
  by_cases c52 : zz_fy p0 0 15 = 5
  · refine zz_swIn 5 151 c52 (by decide) zd_9_2_75 rfl rfl ?_
    refine zz_aload_n (x := zz_rf 5 t) rfl zd_9_2_226 ?_
    refine zz_lload_n (x := p0) rfl zd_9_2_227 ?_
    refine zz_iload_n (x := p1) rfl zd_9_2_228 ?_
    refine zz_callVV [zl p0, zi p1] zd_9_2_229 zk_Reaches_40 (zT_k5 (by omega)) (zN_k5 hn (by omega)) rfl rfl ⟨Nat.le_of_ble_eq_true rfl, Nat.le_of_ble_eq_true rfl⟩ ⟨rfl, rfl⟩ (Nat.zero_le _) (Nat.zero_le _) (zc_takeWork_9_5 t p0 p1 S1 n hn G_S1 (by omega) (by omega) (by omega)) (fun S53 hP => ?_)
    obtain ⟨G_S53, fS53⟩ := hP
    have F_S53 := zz_fr.trans F_S1 fS53 rfl (fun a i h => by rcases h with h | h | h | h; exact Or.inr (Or.inr (Or.inl h)); exact Or.inr (Or.inr (Or.inr (Or.inl h))); exact Or.inr (Or.inr (Or.inr (Or.inr (Or.inl h)))); exact Or.inr (Or.inr (Or.inr (Or.inr (Or.inr (h))))))
    exact zz_vret zd_9_2_232 rfl (Nat.zero_le _) (Nat.zero_le _) ⟨_, rfl, G_S53, F_S53⟩
  by_cases c55 : zz_fy p0 0 15 = 6
  · refine zz_swIn 6 151 c55 (by decide) zd_9_2_75 rfl rfl ?_
    refine zz_aload_n (x := zz_rf 5 t) rfl zd_9_2_226 ?_
    refine zz_lload_n (x := p0) rfl zd_9_2_227 ?_
    refine zz_iload_n (x := p1) rfl zd_9_2_228 ?_
    refine zz_callVV [zl p0, zi p1] zd_9_2_229 zk_Reaches_40 (zT_k5 (by omega)) (zN_k5 hn (by omega)) rfl rfl ⟨Nat.le_of_ble_eq_true rfl, Nat.le_of_ble_eq_true rfl⟩ ⟨rfl, rfl⟩ (Nat.zero_le _) (Nat.zero_le _) (zc_takeWork_9_5 t p0 p1 S1 n hn G_S1 (by omega) (by omega) (by omega)) (fun S56 hP => ?_)
    obtain ⟨G_S56, fS56⟩ := hP
    have F_S56 := zz_fr.trans F_S1 fS56 rfl (fun a i h => by rcases h with h | h | h | h; exact Or.inr (Or.inr (Or.inl h)); exact Or.inr (Or.inr (Or.inr (Or.inl h))); exact Or.inr (Or.inr (Or.inr (Or.inr (Or.inl h)))); exact Or.inr (Or.inr (Or.inr (Or.inr (Or.inr (h))))))
    exact zz_vret zd_9_2_232 rfl (Nat.zero_le _) (Nat.zero_le _) ⟨_, rfl, G_S56, F_S56⟩
  by_cases c58 : zz_fy p0 0 15 = 7
  · refine zz_swIn 7 151 c58 (by decide) zd_9_2_75 rfl rfl ?_
    refine zz_aload_n (x := zz_rf 5 t) rfl zd_9_2_226 ?_
    refine zz_lload_n (x := p0) rfl zd_9_2_227 ?_
    refine zz_iload_n (x := p1) rfl zd_9_2_228 ?_
    refine zz_callVV [zl p0, zi p1] zd_9_2_229 zk_Reaches_40 (zT_k5 (by omega)) (zN_k5 hn (by omega)) rfl rfl ⟨Nat.le_of_ble_eq_true rfl, Nat.le_of_ble_eq_true rfl⟩ ⟨rfl, rfl⟩ (Nat.zero_le _) (Nat.zero_le _) (zc_takeWork_9_5 t p0 p1 S1 n hn G_S1 (by omega) (by omega) (by omega)) (fun S59 hP => ?_)
    obtain ⟨G_S59, fS59⟩ := hP
    have F_S59 := zz_fr.trans F_S1 fS59 rfl (fun a i h => by rcases h with h | h | h | h; exact Or.inr (Or.inr (Or.inl h)); exact Or.inr (Or.inr (Or.inr (Or.inl h))); exact Or.inr (Or.inr (Or.inr (Or.inr (Or.inl h)))); exact Or.inr (Or.inr (Or.inr (Or.inr (Or.inr (h))))))
    exact zz_vret zd_9_2_232 rfl (Nat.zero_le _) (Nat.zero_le _) ⟨_, rfl, G_S59, F_S59⟩
  by_cases c61 : zz_fy p0 0 15 = 8
  · refine zz_swIn 8 130 c61 (by decide) zd_9_2_75 rfl rfl ?_
    refine zz_aload_n (x := zz_rf 5 t) rfl zd_9_2_205 ?_
    refine zz_iconst zd_9_2_206 ?_
    refine zz_iload (x := zz_fy p0 31 511) rfl zd_9_2_207 ?_
    refine zz_iload (x := v29) rfl zd_9_2_209 ?_
    refine zz_callVV [zi 4, zi (zz_fy p0 31 511), zi v29] zd_9_2_211 zk_Reaches_33 (zT_k5 (by omega)) (zN_k5 hn (by omega)) rfl rfl ⟨Nat.le_of_ble_eq_true rfl, Nat.le_of_ble_eq_true rfl⟩ ⟨rfl, rfl⟩ (Nat.zero_le _) (Nat.zero_le _) (zc_reads_9_8 t 4 (zz_fy p0 31 511) v29 S1 n hn G_S1 (by omega) (by omega) (by omega) (by omega)) (fun S62 hP => ?_)
    obtain ⟨G_S62, fS62⟩ := hP
    have F_S62 := zz_fr.trans F_S1 fS62 rfl (fun a i h => by rcases h with h | h; exact Or.inr (Or.inr (Or.inl h)); exact Or.inr (Or.inr (Or.inr (Or.inl h))))
    refine zz_aload_n (x := zz_rf 5 t) rfl zd_9_2_214 ?_
    refine zz_iconst zd_9_2_215 ?_
    refine zz_iload (x := zz_fy p0 8 4095) rfl zd_9_2_216 ?_
    refine zz_iload (x := v31) rfl zd_9_2_218 ?_
    refine zz_callVV [zi 0, zi (zz_fy p0 8 4095), zi v31] zd_9_2_220 zk_Reaches_37 (zT_k5 (by omega)) (zN_k5 hn (by omega)) rfl rfl ⟨Nat.le_of_ble_eq_true rfl, Nat.le_of_ble_eq_true rfl⟩ ⟨rfl, rfl⟩ (Nat.zero_le _) (Nat.zero_le _) (zc_writes_9_9 t 0 (zz_fy p0 8 4095) v31 S62 n hn G_S62 (by omega) (by omega) (by omega) (by omega)) (fun S64 hP => ?_)
    obtain ⟨G_S64, fS64⟩ := hP
    have F_S64 := zz_fr.trans F_S62 fS64 rfl (fun a i h => by rcases h with h | h; exact Or.inr (Or.inr (Or.inr (Or.inr (Or.inl h)))); exact Or.inr (Or.inr (Or.inr (Or.inr (Or.inr (h))))))
    refine zz_goto zd_9_2_223 ?_
    exact zz_vret zd_9_2_232 rfl (Nat.zero_le _) (Nat.zero_le _) ⟨_, rfl, G_S64, F_S64⟩
  refine zz_swOut (by omega) (by omega) zd_9_2_75 rfl ?_
  refine zz_aload_n (x := zz_rf 5 t) rfl zd_9_2_226 ?_
  refine zz_lload_n (x := p0) rfl zd_9_2_227 ?_
  refine zz_iload_n (x := p1) rfl zd_9_2_228 ?_
  refine zz_callVV [zl p0, zi p1] zd_9_2_229 zk_Reaches_40 (zT_k5 (by omega)) (zN_k5 hn (by omega)) rfl rfl ⟨Nat.le_of_ble_eq_true rfl, Nat.le_of_ble_eq_true rfl⟩ ⟨rfl, rfl⟩ (Nat.zero_le _) (Nat.zero_le _) (zc_takeWork_9_5 t p0 p1 S1 n hn G_S1 (by omega) (by omega) (by omega)) (fun S67 hP => ?_)
  obtain ⟨G_S67, fS67⟩ := hP
  have F_S67 := zz_fr.trans F_S1 fS67 rfl (fun a i h => by rcases h with h | h | h | h; exact Or.inr (Or.inr (Or.inl h)); exact Or.inr (Or.inr (Or.inr (Or.inl h))); exact Or.inr (Or.inr (Or.inr (Or.inr (Or.inl h)))); exact Or.inr (Or.inr (Or.inr (Or.inr (Or.inr (h))))))
  exact zz_vret zd_9_2_232 rfl (Nat.zero_le _) (Nat.zero_le _) ⟨_, rfl, G_S67, F_S67⟩
theorem zk_Run_124 : mm_Vl "TensorForge$Run" 124 4 2 zy_take_9_2 := ⟨zyw_take_9_2, (R_Reaches, F_Reaches, 4), rfl, mm_tb_1 767 (by decide +kernel) rfl, mm_tb_1 524 (by decide +kernel) rfl, mm_tb_1 525 (by decide +kernel) rfl⟩
abbrev zy_races_10_9 : mm_Y := (⟨"TensorForge$Run", "races", "()Z"⟩, prog_10_method_9_code, 2, (some .boolean))
theorem zyw_races_10_9 : mm_Yw zy_races_10_9 0 := ⟨mm_tb_1 771 (by decide +kernel) rfl, mm_tb_1 6 (by decide +kernel) rfl, ⟨by decide, by decide⟩, by decide +kernel⟩
abbrev zy_raceWith_9_4 : mm_Y := (⟨"TensorForge$Reaches", "raceWith", "(LTensorForge$Reaches;)Z"⟩, prog_9_method_4_code, 3, (some .boolean))
theorem zyw_raceWith_9_4 : mm_Yw zy_raceWith_9_4 1 := ⟨mm_tb_1 775 (by decide +kernel) rfl, mm_tb_1 5 (by decide +kernel) rfl, ⟨by decide, by decide⟩, by decide +kernel⟩
abbrev zy_meet_9_10 : mm_Y := (⟨"TensorForge$Reaches", "meet", "(IIII)Z"⟩, prog_9_method_10_code, 4, (some .boolean))
theorem zyw_meet_9_10 : mm_Yw zy_meet_9_10 4 := ⟨mm_tb_1 778 (by decide +kernel) rfl, mm_tb_1 5 (by decide +kernel) rfl, ⟨by decide, by decide⟩, by decide +kernel⟩
theorem zg_10_8_70 : zq_at zy_beginAt_10_8.2.1 70 42 ∧ zq_at zy_beginAt_10_8.2.1 71 182 ∧ zq_at zy_beginAt_10_8.2.1 72 0 ∧ zq_at zy_beginAt_10_8.2.1 73 128 := by decide +kernel
theorem zd_10_8_70 : zz_D zy_beginAt_10_8 70 (.aload_n 0) 1 71 := ⟨zq_42 zg_10_8_70.1, rfl⟩
theorem zd_10_8_71 : zz_D zy_beginAt_10_8 71 (.invokevirtual 128) 3 74 := ⟨zq_182 zg_10_8_70.2.1 zg_10_8_70.2.2.1 zg_10_8_70.2.2.2 rfl, rfl⟩
theorem zg_10_9_0 : zq_at zy_races_10_9.2.1 0 3 ∧ zq_at zy_races_10_9.2.1 1 60 ∧ zq_at zy_races_10_9.2.1 2 27 ∧ zq_at zy_races_10_9.2.1 3 6 ∧ zq_at zy_races_10_9.2.1 4 162 ∧ zq_at zy_races_10_9.2.1 5 0 ∧ zq_at zy_races_10_9.2.1 6 37 ∧ zq_at zy_races_10_9.2.1 7 42 ∧ zq_at zy_races_10_9.2.1 8 180 ∧ zq_at zy_races_10_9.2.1 9 0 ∧ zq_at zy_races_10_9.2.1 10 32 ∧ zq_at zy_races_10_9.2.1 11 27 ∧ zq_at zy_races_10_9.2.1 12 46 ∧ zq_at zy_races_10_9.2.1 13 2 ∧ zq_at zy_races_10_9.2.1 14 159 ∧ zq_at zy_races_10_9.2.1 15 0 ∧ zq_at zy_races_10_9.2.1 16 21 ∧ zq_at zy_races_10_9.2.1 35 132 ∧ zq_at zy_races_10_9.2.1 36 1 ∧ zq_at zy_races_10_9.2.1 37 1 ∧ zq_at zy_races_10_9.2.1 38 167 ∧ zq_at zy_races_10_9.2.1 39 255 ∧ zq_at zy_races_10_9.2.1 40 220 ∧ zq_at zy_races_10_9.2.1 17 42 := by decide +kernel
theorem zd_10_9_0 : zz_D zy_races_10_9 0 (.iconst 0) 1 1 := ⟨zq_3 zg_10_9_0.1, rfl⟩
theorem zd_10_9_1 : zz_D zy_races_10_9 1 (.istore_n 1) 1 2 := ⟨zq_60 zg_10_9_0.2.1, rfl⟩
theorem zd_10_9_2 : zz_D zy_races_10_9 2 (.iload_n 1) 1 3 := ⟨zq_27 zg_10_9_0.2.2.1, rfl⟩
theorem zd_10_9_3 : zz_D zy_races_10_9 3 (.iconst 3) 1 4 := ⟨zq_6 zg_10_9_0.2.2.2.1, rfl⟩
theorem zd_10_9_4 : zz_B zy_races_10_9 4 (Instr.if_icmp .ge) 41 7 := ⟨37, zq_162 zg_10_9_0.2.2.2.2.1 zg_10_9_0.2.2.2.2.2.1 zg_10_9_0.2.2.2.2.2.2.1 (by decide), rfl, rfl⟩
theorem zd_10_9_7 : zz_D zy_races_10_9 7 (.aload_n 0) 1 8 := ⟨zq_42 zg_10_9_0.2.2.2.2.2.2.2.1, rfl⟩
theorem zd_10_9_8 : zz_D zy_races_10_9 8 (.getfield 32) 3 11 := ⟨zq_180 zg_10_9_0.2.2.2.2.2.2.2.2.1 zg_10_9_0.2.2.2.2.2.2.2.2.2.1 zg_10_9_0.2.2.2.2.2.2.2.2.2.2.1 rfl, rfl⟩
theorem zd_10_9_11 : zz_D zy_races_10_9 11 (.iload_n 1) 1 12 := ⟨zq_27 zg_10_9_0.2.2.2.2.2.2.2.2.2.2.2.1, rfl⟩
theorem zd_10_9_12 : zz_D zy_races_10_9 12 (.iaload) 1 13 := ⟨zq_46 zg_10_9_0.2.2.2.2.2.2.2.2.2.2.2.2.1, rfl⟩
theorem zd_10_9_13 : zz_D zy_races_10_9 13 (.iconst (-1)) 1 14 := ⟨zq_2 zg_10_9_0.2.2.2.2.2.2.2.2.2.2.2.2.2.1, rfl⟩
theorem zd_10_9_14 : zz_B zy_races_10_9 14 (Instr.if_icmp .eq) 35 17 := ⟨21, zq_159 zg_10_9_0.2.2.2.2.2.2.2.2.2.2.2.2.2.2.1 zg_10_9_0.2.2.2.2.2.2.2.2.2.2.2.2.2.2.2.1 zg_10_9_0.2.2.2.2.2.2.2.2.2.2.2.2.2.2.2.2.1 (by decide), rfl, rfl⟩
theorem zd_10_9_35 : zz_D zy_races_10_9 35 (.iinc 1 1) 3 38 := ⟨zq_132 zg_10_9_0.2.2.2.2.2.2.2.2.2.2.2.2.2.2.2.2.2.1 zg_10_9_0.2.2.2.2.2.2.2.2.2.2.2.2.2.2.2.2.2.2.1 zg_10_9_0.2.2.2.2.2.2.2.2.2.2.2.2.2.2.2.2.2.2.2.1 (by decide), rfl⟩
theorem zd_10_9_38 : zz_B zy_races_10_9 38 Instr.goto 2 41 := ⟨(-36), zq_167 zg_10_9_0.2.2.2.2.2.2.2.2.2.2.2.2.2.2.2.2.2.2.2.2.1 zg_10_9_0.2.2.2.2.2.2.2.2.2.2.2.2.2.2.2.2.2.2.2.2.2.1 zg_10_9_0.2.2.2.2.2.2.2.2.2.2.2.2.2.2.2.2.2.2.2.2.2.2.1 (by decide), rfl, rfl⟩
theorem zd_10_9_17 : zz_D zy_races_10_9 17 (.aload_n 0) 1 18 := ⟨zq_42 zg_10_9_0.2.2.2.2.2.2.2.2.2.2.2.2.2.2.2.2.2.2.2.2.2.2.2, rfl⟩
theorem zg_10_9_18 : zq_at zy_races_10_9.2.1 18 180 ∧ zq_at zy_races_10_9.2.1 19 0 ∧ zq_at zy_races_10_9.2.1 20 42 ∧ zq_at zy_races_10_9.2.1 21 42 ∧ zq_at zy_races_10_9.2.1 22 180 ∧ zq_at zy_races_10_9.2.1 23 0 ∧ zq_at zy_races_10_9.2.1 24 37 ∧ zq_at zy_races_10_9.2.1 25 27 ∧ zq_at zy_races_10_9.2.1 26 50 ∧ zq_at zy_races_10_9.2.1 27 182 ∧ zq_at zy_races_10_9.2.1 28 0 ∧ zq_at zy_races_10_9.2.1 29 135 := by decide +kernel
theorem zd_10_9_18 : zz_D zy_races_10_9 18 (.getfield 42) 3 21 := ⟨zq_180 zg_10_9_18.1 zg_10_9_18.2.1 zg_10_9_18.2.2.1 rfl, rfl⟩
theorem zd_10_9_21 : zz_D zy_races_10_9 21 (.aload_n 0) 1 22 := ⟨zq_42 zg_10_9_18.2.2.2.1, rfl⟩
theorem zd_10_9_22 : zz_D zy_races_10_9 22 (.getfield 37) 3 25 := ⟨zq_180 zg_10_9_18.2.2.2.2.1 zg_10_9_18.2.2.2.2.2.1 zg_10_9_18.2.2.2.2.2.2.1 rfl, rfl⟩
theorem zd_10_9_25 : zz_D zy_races_10_9 25 (.iload_n 1) 1 26 := ⟨zq_27 zg_10_9_18.2.2.2.2.2.2.2.1, rfl⟩
theorem zd_10_9_26 : zz_D zy_races_10_9 26 (.aaload) 1 27 := ⟨zq_50 zg_10_9_18.2.2.2.2.2.2.2.2.1, rfl⟩
theorem zd_10_9_27 : zz_D zy_races_10_9 27 (.invokevirtual 135) 3 30 := ⟨zq_182 zg_10_9_18.2.2.2.2.2.2.2.2.2.1 zg_10_9_18.2.2.2.2.2.2.2.2.2.2.1 zg_10_9_18.2.2.2.2.2.2.2.2.2.2.2 rfl, rfl⟩
theorem zg_9_4_0 : zq_at zy_raceWith_9_4.2.1 0 3 ∧ zq_at zy_raceWith_9_4.2.1 1 61 ∧ zq_at zy_raceWith_9_4.2.1 2 28 ∧ zq_at zy_raceWith_9_4.2.1 3 8 ∧ zq_at zy_raceWith_9_4.2.1 4 162 ∧ zq_at zy_raceWith_9_4.2.1 5 0 ∧ zq_at zy_raceWith_9_4.2.1 6 101 ∧ zq_at zy_raceWith_9_4.2.1 7 42 ∧ zq_at zy_raceWith_9_4.2.1 8 180 ∧ zq_at zy_raceWith_9_4.2.1 9 0 ∧ zq_at zy_raceWith_9_4.2.1 10 18 ∧ zq_at zy_raceWith_9_4.2.1 11 28 ∧ zq_at zy_raceWith_9_4.2.1 12 46 ∧ zq_at zy_raceWith_9_4.2.1 13 42 ∧ zq_at zy_raceWith_9_4.2.1 14 180 ∧ zq_at zy_raceWith_9_4.2.1 15 0 ∧ zq_at zy_raceWith_9_4.2.1 16 21 ∧ zq_at zy_raceWith_9_4.2.1 17 28 ∧ zq_at zy_raceWith_9_4.2.1 18 46 ∧ zq_at zy_raceWith_9_4.2.1 19 43 ∧ zq_at zy_raceWith_9_4.2.1 20 180 ∧ zq_at zy_raceWith_9_4.2.1 21 0 ∧ zq_at zy_raceWith_9_4.2.1 22 18 ∧ zq_at zy_raceWith_9_4.2.1 23 28 := by decide +kernel
theorem zd_9_4_0 : zz_D zy_raceWith_9_4 0 (.iconst 0) 1 1 := ⟨zq_3 zg_9_4_0.1, rfl⟩
theorem zd_9_4_1 : zz_D zy_raceWith_9_4 1 (.istore_n 2) 1 2 := ⟨zq_61 zg_9_4_0.2.1, rfl⟩
theorem zd_9_4_2 : zz_D zy_raceWith_9_4 2 (.iload_n 2) 1 3 := ⟨zq_28 zg_9_4_0.2.2.1, rfl⟩
theorem zd_9_4_3 : zz_D zy_raceWith_9_4 3 (.iconst 5) 1 4 := ⟨zq_8 zg_9_4_0.2.2.2.1, rfl⟩
theorem zd_9_4_4 : zz_B zy_raceWith_9_4 4 (Instr.if_icmp .ge) 105 7 := ⟨101, zq_162 zg_9_4_0.2.2.2.2.1 zg_9_4_0.2.2.2.2.2.1 zg_9_4_0.2.2.2.2.2.2.1 (by decide), rfl, rfl⟩
theorem zd_9_4_7 : zz_D zy_raceWith_9_4 7 (.aload_n 0) 1 8 := ⟨zq_42 zg_9_4_0.2.2.2.2.2.2.2.1, rfl⟩
theorem zd_9_4_8 : zz_D zy_raceWith_9_4 8 (.getfield 18) 3 11 := ⟨zq_180 zg_9_4_0.2.2.2.2.2.2.2.2.1 zg_9_4_0.2.2.2.2.2.2.2.2.2.1 zg_9_4_0.2.2.2.2.2.2.2.2.2.2.1 rfl, rfl⟩
theorem zd_9_4_11 : zz_D zy_raceWith_9_4 11 (.iload_n 2) 1 12 := ⟨zq_28 zg_9_4_0.2.2.2.2.2.2.2.2.2.2.2.1, rfl⟩
theorem zd_9_4_12 : zz_D zy_raceWith_9_4 12 (.iaload) 1 13 := ⟨zq_46 zg_9_4_0.2.2.2.2.2.2.2.2.2.2.2.2.1, rfl⟩
theorem zd_9_4_13 : zz_D zy_raceWith_9_4 13 (.aload_n 0) 1 14 := ⟨zq_42 zg_9_4_0.2.2.2.2.2.2.2.2.2.2.2.2.2.1, rfl⟩
theorem zd_9_4_14 : zz_D zy_raceWith_9_4 14 (.getfield 21) 3 17 := ⟨zq_180 zg_9_4_0.2.2.2.2.2.2.2.2.2.2.2.2.2.2.1 zg_9_4_0.2.2.2.2.2.2.2.2.2.2.2.2.2.2.2.1 zg_9_4_0.2.2.2.2.2.2.2.2.2.2.2.2.2.2.2.2.1 rfl, rfl⟩
theorem zd_9_4_17 : zz_D zy_raceWith_9_4 17 (.iload_n 2) 1 18 := ⟨zq_28 zg_9_4_0.2.2.2.2.2.2.2.2.2.2.2.2.2.2.2.2.2.1, rfl⟩
theorem zd_9_4_18 : zz_D zy_raceWith_9_4 18 (.iaload) 1 19 := ⟨zq_46 zg_9_4_0.2.2.2.2.2.2.2.2.2.2.2.2.2.2.2.2.2.2.1, rfl⟩
theorem zd_9_4_19 : zz_D zy_raceWith_9_4 19 (.aload_n 1) 1 20 := ⟨zq_43 zg_9_4_0.2.2.2.2.2.2.2.2.2.2.2.2.2.2.2.2.2.2.2.1, rfl⟩
theorem zd_9_4_20 : zz_D zy_raceWith_9_4 20 (.getfield 18) 3 23 := ⟨zq_180 zg_9_4_0.2.2.2.2.2.2.2.2.2.2.2.2.2.2.2.2.2.2.2.2.1 zg_9_4_0.2.2.2.2.2.2.2.2.2.2.2.2.2.2.2.2.2.2.2.2.2.1 zg_9_4_0.2.2.2.2.2.2.2.2.2.2.2.2.2.2.2.2.2.2.2.2.2.2.1 rfl, rfl⟩
theorem zd_9_4_23 : zz_D zy_raceWith_9_4 23 (.iload_n 2) 1 24 := ⟨zq_28 zg_9_4_0.2.2.2.2.2.2.2.2.2.2.2.2.2.2.2.2.2.2.2.2.2.2.2, rfl⟩
theorem zg_9_4_24 : zq_at zy_raceWith_9_4.2.1 24 46 ∧ zq_at zy_raceWith_9_4.2.1 25 43 ∧ zq_at zy_raceWith_9_4.2.1 26 180 ∧ zq_at zy_raceWith_9_4.2.1 27 0 ∧ zq_at zy_raceWith_9_4.2.1 28 21 ∧ zq_at zy_raceWith_9_4.2.1 29 28 ∧ zq_at zy_raceWith_9_4.2.1 30 46 ∧ zq_at zy_raceWith_9_4.2.1 31 184 ∧ zq_at zy_raceWith_9_4.2.1 32 0 ∧ zq_at zy_raceWith_9_4.2.1 33 47 := by decide +kernel
theorem zd_9_4_24 : zz_D zy_raceWith_9_4 24 (.iaload) 1 25 := ⟨zq_46 zg_9_4_24.1, rfl⟩
theorem zd_9_4_25 : zz_D zy_raceWith_9_4 25 (.aload_n 1) 1 26 := ⟨zq_43 zg_9_4_24.2.1, rfl⟩
theorem zd_9_4_26 : zz_D zy_raceWith_9_4 26 (.getfield 21) 3 29 := ⟨zq_180 zg_9_4_24.2.2.1 zg_9_4_24.2.2.2.1 zg_9_4_24.2.2.2.2.1 rfl, rfl⟩
theorem zd_9_4_29 : zz_D zy_raceWith_9_4 29 (.iload_n 2) 1 30 := ⟨zq_28 zg_9_4_24.2.2.2.2.2.1, rfl⟩
theorem zd_9_4_30 : zz_D zy_raceWith_9_4 30 (.iaload) 1 31 := ⟨zq_46 zg_9_4_24.2.2.2.2.2.2.1, rfl⟩
theorem zd_9_4_31 : zz_D zy_raceWith_9_4 31 (.invokestatic 47) 3 34 := ⟨zq_184 zg_9_4_24.2.2.2.2.2.2.2.1 zg_9_4_24.2.2.2.2.2.2.2.2.1 zg_9_4_24.2.2.2.2.2.2.2.2.2 rfl, rfl⟩
theorem zg_9_10_0 : zq_at zy_meet_9_10.2.1 0 26 ∧ zq_at zy_meet_9_10.2.1 1 27 ∧ zq_at zy_meet_9_10.2.1 2 163 ∧ zq_at zy_meet_9_10.2.1 3 0 ∧ zq_at zy_meet_9_10.2.1 4 22 ∧ zq_at zy_meet_9_10.2.1 24 3 ∧ zq_at zy_meet_9_10.2.1 25 172 ∧ zq_at zy_meet_9_10.2.1 5 28 ∧ zq_at zy_meet_9_10.2.1 6 29 ∧ zq_at zy_meet_9_10.2.1 7 163 ∧ zq_at zy_meet_9_10.2.1 8 0 ∧ zq_at zy_meet_9_10.2.1 9 17 ∧ zq_at zy_meet_9_10.2.1 10 26 ∧ zq_at zy_meet_9_10.2.1 11 29 ∧ zq_at zy_meet_9_10.2.1 12 163 ∧ zq_at zy_meet_9_10.2.1 13 0 ∧ zq_at zy_meet_9_10.2.1 14 12 ∧ zq_at zy_meet_9_10.2.1 15 28 ∧ zq_at zy_meet_9_10.2.1 16 27 ∧ zq_at zy_meet_9_10.2.1 17 163 ∧ zq_at zy_meet_9_10.2.1 18 0 ∧ zq_at zy_meet_9_10.2.1 19 7 ∧ zq_at zy_meet_9_10.2.1 20 4 := by decide +kernel
theorem zd_9_10_0 : zz_D zy_meet_9_10 0 (.iload_n 0) 1 1 := ⟨zq_26 zg_9_10_0.1, rfl⟩
theorem zd_9_10_1 : zz_D zy_meet_9_10 1 (.iload_n 1) 1 2 := ⟨zq_27 zg_9_10_0.2.1, rfl⟩
theorem zd_9_10_2 : zz_B zy_meet_9_10 2 (Instr.if_icmp .gt) 24 5 := ⟨22, zq_163 zg_9_10_0.2.2.1 zg_9_10_0.2.2.2.1 zg_9_10_0.2.2.2.2.1 (by decide), rfl, rfl⟩
theorem zd_9_10_24 : zz_D zy_meet_9_10 24 (.iconst 0) 1 25 := ⟨zq_3 zg_9_10_0.2.2.2.2.2.1, rfl⟩
theorem zd_9_10_25 : zz_D zy_meet_9_10 25 (.ireturn) 1 26 := ⟨zq_172 zg_9_10_0.2.2.2.2.2.2.1, rfl⟩
theorem zd_9_10_5 : zz_D zy_meet_9_10 5 (.iload_n 2) 1 6 := ⟨zq_28 zg_9_10_0.2.2.2.2.2.2.2.1, rfl⟩
theorem zd_9_10_6 : zz_D zy_meet_9_10 6 (.iload_n 3) 1 7 := ⟨zq_29 zg_9_10_0.2.2.2.2.2.2.2.2.1, rfl⟩
theorem zd_9_10_7 : zz_B zy_meet_9_10 7 (Instr.if_icmp .gt) 24 10 := ⟨17, zq_163 zg_9_10_0.2.2.2.2.2.2.2.2.2.1 zg_9_10_0.2.2.2.2.2.2.2.2.2.2.1 zg_9_10_0.2.2.2.2.2.2.2.2.2.2.2.1 (by decide), rfl, rfl⟩
theorem zd_9_10_10 : zz_D zy_meet_9_10 10 (.iload_n 0) 1 11 := ⟨zq_26 zg_9_10_0.2.2.2.2.2.2.2.2.2.2.2.2.1, rfl⟩
theorem zd_9_10_11 : zz_D zy_meet_9_10 11 (.iload_n 3) 1 12 := ⟨zq_29 zg_9_10_0.2.2.2.2.2.2.2.2.2.2.2.2.2.1, rfl⟩
theorem zd_9_10_12 : zz_B zy_meet_9_10 12 (Instr.if_icmp .gt) 24 15 := ⟨12, zq_163 zg_9_10_0.2.2.2.2.2.2.2.2.2.2.2.2.2.2.1 zg_9_10_0.2.2.2.2.2.2.2.2.2.2.2.2.2.2.2.1 zg_9_10_0.2.2.2.2.2.2.2.2.2.2.2.2.2.2.2.2.1 (by decide), rfl, rfl⟩
theorem zd_9_10_15 : zz_D zy_meet_9_10 15 (.iload_n 2) 1 16 := ⟨zq_28 zg_9_10_0.2.2.2.2.2.2.2.2.2.2.2.2.2.2.2.2.2.1, rfl⟩
theorem zd_9_10_16 : zz_D zy_meet_9_10 16 (.iload_n 1) 1 17 := ⟨zq_27 zg_9_10_0.2.2.2.2.2.2.2.2.2.2.2.2.2.2.2.2.2.2.1, rfl⟩
theorem zd_9_10_17 : zz_B zy_meet_9_10 17 (Instr.if_icmp .gt) 24 20 := ⟨7, zq_163 zg_9_10_0.2.2.2.2.2.2.2.2.2.2.2.2.2.2.2.2.2.2.2.1 zg_9_10_0.2.2.2.2.2.2.2.2.2.2.2.2.2.2.2.2.2.2.2.2.1 zg_9_10_0.2.2.2.2.2.2.2.2.2.2.2.2.2.2.2.2.2.2.2.2.2.1 (by decide), rfl, rfl⟩
theorem zd_9_10_20 : zz_D zy_meet_9_10 20 (.iconst 1) 1 21 := ⟨zq_4 zg_9_10_0.2.2.2.2.2.2.2.2.2.2.2.2.2.2.2.2.2.2.2.2.2.2, rfl⟩
theorem zg_9_10_21 : zq_at zy_meet_9_10.2.1 21 167 ∧ zq_at zy_meet_9_10.2.1 22 0 ∧ zq_at zy_meet_9_10.2.1 23 4 := by decide +kernel
theorem zd_9_10_21 : zz_B zy_meet_9_10 21 Instr.goto 25 24 := ⟨4, zq_167 zg_9_10_21.1 zg_9_10_21.2.1 zg_9_10_21.2.2 (by decide), rfl, rfl⟩

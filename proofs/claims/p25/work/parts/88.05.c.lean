-- TensorForge$Compiler makeWaits ()V
abbrev zr_makeWaits_3_12 : Room := { frames := 2, cells := 0, slots := 0, locals := 28 }
def zp_makeWaits_3_12  (S0 : zz_S) : zz_S → Prop := fun S => zz_G S ∧ zz_fr [(1076, 1)] [1029, 1030] (fun _ _ => False) S0 S ∧ (S0 1076 1 ≤ S 1076 1 ∧ S 1076 1 ≤ S0 1076 1 + 5)
theorem zb_makeWaits_3_12_66 {g : mm_G} {l : Launch}  (S0 : zz_S) (n : Nat) (hn : zz_end ≤ n) (G_S0 : zz_G S0) (hq : S0 1076 1 ≤ 900000) (x1 : Int) (x3 : Int) (x4 : Int) (S : zz_S) (G_S : zz_G S) (F_S : zz_fr [(1076, 1)] [1029, 1030] (fun _ _ => False) S0 S) (i66_0 : (-9223372036854775808) ≤ x1 ∧ x1 ≤ 9223372036854775807) (i66_1 : 2 ≤ x3 ∧ x3 ≤ 3) (i66_2 : 0 ≤ x4 ∧ x4 ≤ 3) (i66_3 : S0 1076 1 + 1 ≤ S 1076 1 ∧ S 1076 1 ≤ S0 1076 1 + 2 + x4) (R : Nat) (hR : (x3 - x4).toNat = R) (k66 : ∀ (x1 : Int) (x3 : Int) (x4 : Int) (S : zz_S), zz_G S → zz_fr [(1076, 1)] [1029, 1030] (fun _ _ => False) S0 S → ((-9223372036854775808) ≤ x1 ∧ x1 ≤ 9223372036854775807) → (2 ≤ x3 ∧ x3 ≤ 3) → (0 ≤ x4 ∧ x4 ≤ 3) → (S0 1076 1 + 1 ≤ S 1076 1 ∧ S 1076 1 ≤ S0 1076 1 + 2 + x4) → (x3 - x4).toNat < R → zz_E g l zy_makeWaits_3_12 zr_makeWaits_3_12 (zz_QV n (zp_makeWaits_3_12  S0)) S n 66 [some (.ref 1076), some (zl x1), none, some (zi x3), some (zi x4)] [] 0 0) : zz_E g l zy_makeWaits_3_12 zr_makeWaits_3_12 (zz_QV n (zp_makeWaits_3_12  S0)) S n 66 [some (.ref 1076), some (zl x1), none, some (zi x3), some (zi x4)] [] 0 0 := by
  refine zz_iload (x := x4) rfl zd_3_12_66 ?_
  refine zz_iload_n (x := x3) rfl zd_3_12_68 ?_
  refine zz_icmp_ge (by omega) (by omega) zd_3_12_69 (fun c56 => ?_) (fun c56 => ?_)
  · have g57 := zz_G.r G_S 1076 1 0 1000000 rfl rfl
    exact zz_vret zd_3_12_83 rfl (Nat.zero_le _) (Nat.zero_le _) ⟨_, rfl, G_S, F_S, by omega⟩
  · refine zz_aload_n (x := 1076) rfl zd_3_12_72 ?_
    refine zz_lload_n (x := x1) rfl zd_3_12_73 ?_
    have g58 := zz_G.r G_S 1076 1 0 1000000 rfl rfl
    refine zz_callVV [zl x1] zd_3_12_74 zk_Compiler_143 zT_1076 (zz_ltn hn rfl) rfl rfl ⟨Nat.le_of_ble_eq_true rfl, Nat.le_of_ble_eq_true rfl⟩ ⟨rfl, rfl⟩ (Nat.zero_le _) (Nat.zero_le _) (zc_emit_3_15 x1 S n hn G_S (by omega) (by omega)) (fun S59 hP => ?_)
    obtain ⟨G_S59, fS59, o61⟩ := hP
    have g62 := zz_G.r G_S 1076 0 0 1 rfl rfl
    have F_S59 := zz_fr.trans F_S fS59 rfl (fun a i h => Or.inr (Or.inl (h ▸ zM_k4 (z := (S 1076 0)) (by omega) rfl)))
    have b63 := zz_rf4 (z := (S 1076 0)) (by omega)
    refine zz_iinc [some (.ref 1076), some (zl x1), none, some (zi x3), some (zi (x4 + 1))] zd_3_12_77 rfl rfl ?_
    refine zz_goto zd_3_12_80 ?_
    have g64 := zz_G.r G_S59 1076 1 0 1000000 rfl rfl
    refine zz_less (ls1 := [some (.ref 1076), some (zl x1), none, some (zi x3), some (zi (x4 + 1))]) ⟨rfl, ⟨rfl, ⟨rfl, ⟨rfl, trivial⟩⟩⟩⟩ ?_
    exact k66 x1 x3 (x4 + 1) S59 G_S59 F_S59 (by omega) (by omega) (by omega) (by omega) (by omega)
theorem zi_makeWaits_3_12 {g : mm_G} {l : Launch}  (S0 : zz_S) (n : Nat) (hn : zz_end ≤ n) (G_S0 : zz_G S0) (hq : S0 1076 1 ≤ 900000) : ∀ N : Nat, (∀ (x1 : Int) (x3 : Int) (x4 : Int) (S : zz_S), zz_G S → zz_fr [(1076, 1)] [1029, 1030] (fun _ _ => False) S0 S → ((-9223372036854775808) ≤ x1 ∧ x1 ≤ 9223372036854775807) → (2 ≤ x3 ∧ x3 ≤ 3) → (0 ≤ x4 ∧ x4 ≤ 3) → (S0 1076 1 + 1 ≤ S 1076 1 ∧ S 1076 1 ≤ S0 1076 1 + 2 + x4) → (x3 - x4).toNat < N → zz_E g l zy_makeWaits_3_12 zr_makeWaits_3_12 (zz_QV n (zp_makeWaits_3_12  S0)) S n 66 [some (.ref 1076), some (zl x1), none, some (zi x3), some (zi x4)] [] 0 0) := by
  intro N
  induction N with
  | zero => exact fun x1 x3 x4 S _ _ _ _ _ _ h => absurd h (Nat.not_lt_zero _)
  | succ N ih =>
    exact fun x1 x3 x4 S a b j0 j1 j2 j3 hR => zb_makeWaits_3_12_66  S0 n hn G_S0 hq x1 x3 x4 S a b j0 j1 j2 j3 _ rfl (fun x1 x3 x4 S a b j0 j1 j2 j3 h => ih x1 x3 x4 S a b j0 j1 j2 j3 (Nat.lt_of_lt_of_le h (Nat.le_of_lt_succ hR)))
theorem zc_makeWaits_3_12 {g : mm_G} {l : Launch}  (S0 : zz_S) (n : Nat) (hn : zz_end ≤ n) (G_S0 : zz_G S0) (hq : S0 1076 1 ≤ 900000) : mm_Met g l zy_makeWaits_3_12 zr_makeWaits_3_12 [.ref 1076] (zz_M S0 n) n (zz_QV n (zp_makeWaits_3_12  S0)) := by
  refine zz_enter (by decide) (Nat.le_of_ble_eq_true rfl) (zz_less (ls1 := [some (.ref 1076)]) ⟨rfl, trivial⟩ ?_)
  have F_S0 : zz_fr [(1076, 1)] [1029, 1030] (fun _ _ => False) S0 S0 := zz_fr.refl
  have k66 : ∀ (x1 : Int) (x3 : Int) (x4 : Int) (S : zz_S), zz_G S → zz_fr [(1076, 1)] [1029, 1030] (fun _ _ => False) S0 S → ((-9223372036854775808) ≤ x1 ∧ x1 ≤ 9223372036854775807) → (2 ≤ x3 ∧ x3 ≤ 3) → (0 ≤ x4 ∧ x4 ≤ 3) → (S0 1076 1 + 1 ≤ S 1076 1 ∧ S 1076 1 ≤ S0 1076 1 + 2 + x4) → zz_E g l zy_makeWaits_3_12 zr_makeWaits_3_12 (zz_QV n (zp_makeWaits_3_12  S0)) S n 66 [some (.ref 1076), some (zl x1), none, some (zi x3), some (zi x4)] [] 0 0 := fun x1 x3 x4 S a b j0 j1 j2 j3 => (zi_makeWaits_3_12 (g := g) (l := l)  S0 n hn G_S0 hq _) x1 x3 x4 S a b j0 j1 j2 j3 (Nat.lt_succ_self _)
  refine zz_iconst zd_3_12_0 ?_
  refine zz_bipush (by decide) zd_3_12_1 ?_
  refine zz_callSJ [zi 0, zi 9] zd_3_12_3 zk_Compiler_132 rfl rfl ⟨Nat.le_of_ble_eq_true rfl, Nat.le_of_ble_eq_true rfl⟩ ⟨rfl, rfl⟩ (Nat.zero_le _) (Nat.zero_le _) (zc_bits_12_4 0 9 S0 n hn G_S0 (by omega) (by omega)) (fun v2 S1 hP => ?_)
  obtain ⟨rfl, o3⟩ := hP
  refine zz_iconst zd_3_12_6 ?_
  refine zz_callSJ [zi 2] zd_3_12_7 zk_Compiler_139 rfl rfl ⟨Nat.le_of_ble_eq_true rfl, Nat.le_of_ble_eq_true rfl⟩ ⟨rfl, rfl⟩ (Nat.zero_le _) (Nat.zero_le _) (zc_flag_12_5 2 S0 n hn G_S0 (by omega)) (fun v5 S4 hP => ?_)
  obtain ⟨rfl, o6⟩ := hP
  refine zz_lor zd_3_12_10 (fun v7 hv7 ev7 => ?_)
  refine zz_lstore_n [some (.ref 1076), some (zl v7), none] zd_3_12_11 (by decide) rfl ?_
  refine zz_aload_n (x := 1076) rfl zd_3_12_12 ?_
  have g8 := zz_G.r G_S0 1076 6 (-2147483648) 2147483647 rfl rfl
  refine zz_geti (z := S0 1076 6) zd_3_12_13 zf_Compiler_70 zT_1076 rfl (zz_ltn hn rfl) rfl ?_
  refine zz_iconst zd_3_12_16 ?_
  refine zz_icmp_le (by omega) (by omega) zd_3_12_17 (fun c9 => ?_) (fun c9 => ?_)
  · refine zz_aload_n (x := 1076) rfl zd_3_12_32 ?_
    refine zz_lload_n (x := v7) rfl zd_3_12_33 ?_
    refine zz_bipush (by decide) zd_3_12_34 ?_
    refine zz_iconst zd_3_12_36 ?_
    refine zz_callSJ [zi 11, zi 1] zd_3_12_37 zk_Compiler_132 rfl rfl ⟨Nat.le_of_ble_eq_true rfl, Nat.le_of_ble_eq_true rfl⟩ ⟨rfl, rfl⟩ (Nat.zero_le _) (Nat.zero_le _) (zc_bits_12_4 11 1 S0 n hn G_S0 (by omega) (by omega)) (fun v11 S10 hP => ?_)
    obtain ⟨rfl, o12⟩ := hP
    refine zz_lor zd_3_12_40 (fun v13 hv13 ev13 => ?_)
    refine zz_iconst zd_3_12_41 ?_
    refine zz_callSJ [zi 3] zd_3_12_42 zk_Compiler_139 rfl rfl ⟨Nat.le_of_ble_eq_true rfl, Nat.le_of_ble_eq_true rfl⟩ ⟨rfl, rfl⟩ (Nat.zero_le _) (Nat.zero_le _) (zc_flag_12_5 3 S0 n hn G_S0 (by omega)) (fun v15 S14 hP => ?_)
    obtain ⟨rfl, o16⟩ := hP
    refine zz_lor zd_3_12_45 (fun v17 hv17 ev17 => ?_)
    have g18 := zz_G.r G_S0 1076 1 0 1000000 rfl rfl
    refine zz_callVV [zl v17] zd_3_12_46 zk_Compiler_143 zT_1076 (zz_ltn hn rfl) rfl rfl ⟨Nat.le_of_ble_eq_true rfl, Nat.le_of_ble_eq_true rfl⟩ ⟨rfl, rfl⟩ (Nat.zero_le _) (Nat.zero_le _) (zc_emit_3_15 v17 S0 n hn G_S0 (by omega) (by omega)) (fun S19 hP => ?_)
    obtain ⟨G_S19, fS19, o21⟩ := hP
    have g22 := zz_G.r G_S0 1076 0 0 1 rfl rfl
    have F_S19 := zz_fr.trans F_S0 fS19 rfl (fun a i h => Or.inr (Or.inl (h ▸ zM_k4 (z := (S0 1076 0)) (by omega) rfl)))
    have b23 := zz_rf4 (z := (S0 1076 0)) (by omega)
    refine zz_aload_n (x := 1076) rfl zd_3_12_49 ?_
    have g24 := zz_G.r G_S0 1076 12 (-2147483648) 2147483647 rfl rfl
    refine zz_geti (z := S0 1076 12) zd_3_12_50 zf_Compiler_73 zT_1076 rfl (zz_ltn hn rfl) (zz_rc fS19 rfl rfl (by first | decide | omega) rfl) ?_
    refine zz_iconst zd_3_12_53 ?_
    refine zz_icmp_le (by omega) (by omega) zd_3_12_54 (fun c25 => ?_) (fun c25 => ?_)
    · refine zz_iconst zd_3_12_61 ?_
      refine zz_istore_n [some (.ref 1076), some (zl v7), none, some (zi 2)] zd_3_12_62 (by decide) rfl ?_
      refine zz_iconst zd_3_12_63 ?_
      refine zz_istore [some (.ref 1076), some (zl v7), none, some (zi 2), some (zi 0)] zd_3_12_64 (by decide) rfl ?_
      have g26 := zz_G.r G_S19 1076 1 0 1000000 rfl rfl
      refine zz_less (ls1 := [some (.ref 1076), some (zl v7), none, some (zi 2), some (zi 0)]) ⟨rfl, ⟨rfl, ⟨rfl, ⟨rfl, trivial⟩⟩⟩⟩ ?_
      exact k66 v7 2 0 S19 G_S19 F_S19 (by omega) (by omega) (by omega) (by omega)
    · refine zz_iconst zd_3_12_57 ?_
      refine zz_goto zd_3_12_58 ?_
      refine zz_istore_n [some (.ref 1076), some (zl v7), none, some (zi 3)] zd_3_12_62 (by decide) rfl ?_
      refine zz_iconst zd_3_12_63 ?_
      refine zz_istore [some (.ref 1076), some (zl v7), none, some (zi 3), some (zi 0)] zd_3_12_64 (by decide) rfl ?_
      have g27 := zz_G.r G_S19 1076 1 0 1000000 rfl rfl
      refine zz_less (ls1 := [some (.ref 1076), some (zl v7), none, some (zi 3), some (zi 0)]) ⟨rfl, ⟨rfl, ⟨rfl, ⟨rfl, trivial⟩⟩⟩⟩ ?_
      exact k66 v7 3 0 S19 G_S19 F_S19 (by omega) (by omega) (by omega) (by omega)
  · refine zz_aload_n (x := 1076) rfl zd_3_12_20 ?_
    refine zz_lload_n (x := v7) rfl zd_3_12_21 ?_
    refine zz_bipush (by decide) zd_3_12_22 ?_
    refine zz_iconst zd_3_12_24 ?_
    refine zz_callSJ [zi 11, zi 1] zd_3_12_25 zk_Compiler_132 rfl rfl ⟨Nat.le_of_ble_eq_true rfl, Nat.le_of_ble_eq_true rfl⟩ ⟨rfl, rfl⟩ (Nat.zero_le _) (Nat.zero_le _) (zc_bits_12_4 11 1 S0 n hn G_S0 (by omega) (by omega)) (fun v29 S28 hP => ?_)
    obtain ⟨rfl, o30⟩ := hP
    refine zz_lor zd_3_12_28 (fun v31 hv31 ev31 => ?_)
    have g32 := zz_G.r G_S0 1076 1 0 1000000 rfl rfl
    refine zz_callVV [zl v31] zd_3_12_29 zk_Compiler_143 zT_1076 (zz_ltn hn rfl) rfl rfl ⟨Nat.le_of_ble_eq_true rfl, Nat.le_of_ble_eq_true rfl⟩ ⟨rfl, rfl⟩ (Nat.zero_le _) (Nat.zero_le _) (zc_emit_3_15 v31 S0 n hn G_S0 (by omega) (by omega)) (fun S33 hP => ?_)
    obtain ⟨G_S33, fS33, o35⟩ := hP
    have g36 := zz_G.r G_S0 1076 0 0 1 rfl rfl
    have F_S33 := zz_fr.trans F_S0 fS33 rfl (fun a i h => Or.inr (Or.inl (h ▸ zM_k4 (z := (S0 1076 0)) (by omega) rfl)))
    have b37 := zz_rf4 (z := (S0 1076 0)) (by omega)
    refine zz_aload_n (x := 1076) rfl zd_3_12_32 ?_
    refine zz_lload_n (x := v7) rfl zd_3_12_33 ?_
    refine zz_bipush (by decide) zd_3_12_34 ?_
    refine zz_iconst zd_3_12_36 ?_
    refine zz_callSJ [zi 11, zi 1] zd_3_12_37 zk_Compiler_132 rfl rfl ⟨Nat.le_of_ble_eq_true rfl, Nat.le_of_ble_eq_true rfl⟩ ⟨rfl, rfl⟩ (Nat.zero_le _) (Nat.zero_le _) (zc_bits_12_4 11 1 S33 n hn G_S33 (by omega) (by omega)) (fun v39 S38 hP => ?_)
    obtain ⟨rfl, o40⟩ := hP
    refine zz_lor zd_3_12_40 (fun v41 hv41 ev41 => ?_)
    refine zz_iconst zd_3_12_41 ?_
    refine zz_callSJ [zi 3] zd_3_12_42 zk_Compiler_139 rfl rfl ⟨Nat.le_of_ble_eq_true rfl, Nat.le_of_ble_eq_true rfl⟩ ⟨rfl, rfl⟩ (Nat.zero_le _) (Nat.zero_le _) (zc_flag_12_5 3 S33 n hn G_S33 (by omega)) (fun v43 S42 hP => ?_)
    obtain ⟨rfl, o44⟩ := hP
    refine zz_lor zd_3_12_45 (fun v45 hv45 ev45 => ?_)
    have g46 := zz_G.r G_S33 1076 1 0 1000000 rfl rfl
    refine zz_callVV [zl v45] zd_3_12_46 zk_Compiler_143 zT_1076 (zz_ltn hn rfl) rfl rfl ⟨Nat.le_of_ble_eq_true rfl, Nat.le_of_ble_eq_true rfl⟩ ⟨rfl, rfl⟩ (Nat.zero_le _) (Nat.zero_le _) (zc_emit_3_15 v45 S33 n hn G_S33 (by omega) (by omega)) (fun S47 hP => ?_)
    obtain ⟨G_S47, fS47, o49⟩ := hP
    have g50 := zz_G.r G_S33 1076 0 0 1 rfl rfl
    have F_S47 := zz_fr.trans F_S33 fS47 rfl (fun a i h => Or.inr (Or.inl (h ▸ zM_k4 (z := (S33 1076 0)) (by omega) rfl)))
    have b51 := zz_rf4 (z := (S33 1076 0)) (by omega)
    refine zz_aload_n (x := 1076) rfl zd_3_12_49 ?_
    have g52 := zz_G.r G_S0 1076 12 (-2147483648) 2147483647 rfl rfl
    refine zz_geti (z := S0 1076 12) zd_3_12_50 zf_Compiler_73 zT_1076 rfl (zz_ltn hn rfl) (zz_rc fS47 rfl rfl (by first | decide | omega) (zz_rc fS33 rfl rfl (by first | decide | omega) rfl)) ?_
    refine zz_iconst zd_3_12_53 ?_
    refine zz_icmp_le (by omega) (by omega) zd_3_12_54 (fun c53 => ?_) (fun c53 => ?_)
    · refine zz_iconst zd_3_12_61 ?_
      refine zz_istore_n [some (.ref 1076), some (zl v7), none, some (zi 2)] zd_3_12_62 (by decide) rfl ?_
      refine zz_iconst zd_3_12_63 ?_
      refine zz_istore [some (.ref 1076), some (zl v7), none, some (zi 2), some (zi 0)] zd_3_12_64 (by decide) rfl ?_
      have g54 := zz_G.r G_S47 1076 1 0 1000000 rfl rfl
      refine zz_less (ls1 := [some (.ref 1076), some (zl v7), none, some (zi 2), some (zi 0)]) ⟨rfl, ⟨rfl, ⟨rfl, ⟨rfl, trivial⟩⟩⟩⟩ ?_
      exact k66 v7 2 0 S47 G_S47 F_S47 (by omega) (by omega) (by omega) (by omega)
    · refine zz_iconst zd_3_12_57 ?_
      refine zz_goto zd_3_12_58 ?_
      refine zz_istore_n [some (.ref 1076), some (zl v7), none, some (zi 3)] zd_3_12_62 (by decide) rfl ?_
      refine zz_iconst zd_3_12_63 ?_
      refine zz_istore [some (.ref 1076), some (zl v7), none, some (zi 3), some (zi 0)] zd_3_12_64 (by decide) rfl ?_
      have g55 := zz_G.r G_S47 1076 1 0 1000000 rfl rfl
      refine zz_less (ls1 := [some (.ref 1076), some (zl v7), none, some (zi 3), some (zi 0)]) ⟨rfl, ⟨rfl, ⟨rfl, ⟨rfl, trivial⟩⟩⟩⟩ ?_
      exact k66 v7 3 0 S47 G_S47 F_S47 (by omega) (by omega) (by omega) (by omega)
theorem zk_Compiler_97 : mm_Vl "TensorForge$Compiler" 97 9 0 zy_makeWaits_3_12 := ⟨zyw_makeWaits_3_12, (R_Compiler, F_Compiler, 17), rfl, mm_tb_1 1476 (by decide +kernel) rfl, mm_tb_1 1478 (by decide +kernel) rfl, mm_tb_s 75 (by decide +kernel) rfl⟩
theorem zf_Compiler_82 : mm_Fl "TensorForge$Compiler" 82 9 8 .int false := ⟨R_Compiler, F_Compiler, 17, t_Compiler, rfl, i_Compiler, by decide, mm_tb_1 383 (by decide +kernel) rfl, rfl, t_Compiler_ok, n_Compiler, rfl, by decide +kernel⟩
theorem zf_Compiler_85 : mm_Fl "TensorForge$Compiler" 85 9 9 .int false := ⟨R_Compiler, F_Compiler, 17, t_Compiler, rfl, i_Compiler, by decide, mm_tb_1 384 (by decide +kernel) rfl, rfl, t_Compiler_ok, n_Compiler, rfl, by decide +kernel⟩
theorem zf_Compiler_88 : mm_Fl "TensorForge$Compiler" 88 9 10 .int false := ⟨R_Compiler, F_Compiler, 17, t_Compiler, rfl, i_Compiler, by decide, mm_tb_1 385 (by decide +kernel) rfl, rfl, t_Compiler_ok, n_Compiler, rfl, by decide +kernel⟩
theorem zf_Compiler_91 : mm_Fl "TensorForge$Compiler" 91 9 11 .int false := ⟨R_Compiler, F_Compiler, 17, t_Compiler, rfl, i_Compiler, by decide, mm_tb_1 386 (by decide +kernel) rfl, rfl, t_Compiler_ok, n_Compiler, rfl, by decide +kernel⟩
abbrev zy_makeTile_3_4 : mm_Y := (⟨"TensorForge$Compiler", "makeTile", "()V"⟩, prog_3_method_4_code, 10, none)
theorem zyw_makeTile_3_4 : mm_Yw zy_makeTile_3_4 0 := ⟨mm_tb_1 1419 (by decide +kernel) rfl, mm_tb_1 10 (by decide +kernel) rfl, ⟨by decide, by decide⟩, by decide +kernel⟩
theorem zf_Compiler_100 : mm_Fl "TensorForge$Compiler" 100 2 3 .int false := ⟨R_Layer, F_Layer, 15, t_Layer, rfl, i_Layer, by decide, mm_tb_1 69 (by decide +kernel) rfl, rfl, t_Layer_ok, n_Layer, rfl, by decide +kernel⟩
theorem zf_Compiler_103 : mm_Fl "TensorForge$Compiler" 103 2 4 .int false := ⟨R_Layer, F_Layer, 15, t_Layer, rfl, i_Layer, by decide, mm_tb_1 73 (by decide +kernel) rfl, rfl, t_Layer_ok, n_Layer, rfl, by decide +kernel⟩
theorem zf_Compiler_106 : mm_Fl "TensorForge$Compiler" 106 9 13 .int false := ⟨R_Compiler, F_Compiler, 17, t_Compiler, rfl, i_Compiler, by decide, mm_tb_1 388 (by decide +kernel) rfl, rfl, t_Compiler_ok, n_Compiler, rfl, by decide +kernel⟩
abbrev zy_tileHalf_3_13 : mm_Y := (⟨"TensorForge$Compiler", "tileHalf", "()I"⟩, prog_3_method_13_code, 1, (some .int))
theorem zyw_tileHalf_3_13 : mm_Yw zy_tileHalf_3_13 0 := ⟨mm_tb_1 1434 (by decide +kernel) rfl, mm_tb_1 10 (by decide +kernel) rfl, ⟨by decide, by decide⟩, by decide +kernel⟩
theorem zg_3_3_321 : zq_at zy_makeLayer_3_3.2.1 321 177 ∧ zq_at zy_makeLayer_3_3.2.1 192 42 ∧ zq_at zy_makeLayer_3_3.2.1 193 42 ∧ zq_at zy_makeLayer_3_3.2.1 194 180 ∧ zq_at zy_makeLayer_3_3.2.1 195 0 ∧ zq_at zy_makeLayer_3_3.2.1 196 21 ∧ zq_at zy_makeLayer_3_3.2.1 197 42 ∧ zq_at zy_makeLayer_3_3.2.1 198 180 ∧ zq_at zy_makeLayer_3_3.2.1 199 0 ∧ zq_at zy_makeLayer_3_3.2.1 200 51 ∧ zq_at zy_makeLayer_3_3.2.1 201 180 ∧ zq_at zy_makeLayer_3_3.2.1 202 0 ∧ zq_at zy_makeLayer_3_3.2.1 203 79 ∧ zq_at zy_makeLayer_3_3.2.1 204 42 ∧ zq_at zy_makeLayer_3_3.2.1 205 180 ∧ zq_at zy_makeLayer_3_3.2.1 206 0 ∧ zq_at zy_makeLayer_3_3.2.1 207 76 ∧ zq_at zy_makeLayer_3_3.2.1 208 100 ∧ zq_at zy_makeLayer_3_3.2.1 209 184 ∧ zq_at zy_makeLayer_3_3.2.1 210 0 ∧ zq_at zy_makeLayer_3_3.2.1 211 24 ∧ zq_at zy_makeLayer_3_3.2.1 212 181 ∧ zq_at zy_makeLayer_3_3.2.1 213 0 ∧ zq_at zy_makeLayer_3_3.2.1 214 82 := by decide +kernel
theorem zd_3_3_321 : zz_D zy_makeLayer_3_3 321 (.return_) 1 322 := ⟨zq_177 zg_3_3_321.1, rfl⟩
theorem zd_3_3_192 : zz_D zy_makeLayer_3_3 192 (.aload_n 0) 1 193 := ⟨zq_42 zg_3_3_321.2.1, rfl⟩
theorem zd_3_3_193 : zz_D zy_makeLayer_3_3 193 (.aload_n 0) 1 194 := ⟨zq_42 zg_3_3_321.2.2.1, rfl⟩
theorem zd_3_3_194 : zz_D zy_makeLayer_3_3 194 (.getfield 21) 3 197 := ⟨zq_180 zg_3_3_321.2.2.2.1 zg_3_3_321.2.2.2.2.1 zg_3_3_321.2.2.2.2.2.1 rfl, rfl⟩
theorem zd_3_3_197 : zz_D zy_makeLayer_3_3 197 (.aload_n 0) 1 198 := ⟨zq_42 zg_3_3_321.2.2.2.2.2.2.1, rfl⟩
theorem zd_3_3_198 : zz_D zy_makeLayer_3_3 198 (.getfield 51) 3 201 := ⟨zq_180 zg_3_3_321.2.2.2.2.2.2.2.1 zg_3_3_321.2.2.2.2.2.2.2.2.1 zg_3_3_321.2.2.2.2.2.2.2.2.2.1 rfl, rfl⟩
theorem zd_3_3_201 : zz_D zy_makeLayer_3_3 201 (.getfield 79) 3 204 := ⟨zq_180 zg_3_3_321.2.2.2.2.2.2.2.2.2.2.1 zg_3_3_321.2.2.2.2.2.2.2.2.2.2.2.1 zg_3_3_321.2.2.2.2.2.2.2.2.2.2.2.2.1 rfl, rfl⟩
theorem zd_3_3_204 : zz_D zy_makeLayer_3_3 204 (.aload_n 0) 1 205 := ⟨zq_42 zg_3_3_321.2.2.2.2.2.2.2.2.2.2.2.2.2.1, rfl⟩
theorem zd_3_3_205 : zz_D zy_makeLayer_3_3 205 (.getfield 76) 3 208 := ⟨zq_180 zg_3_3_321.2.2.2.2.2.2.2.2.2.2.2.2.2.2.1 zg_3_3_321.2.2.2.2.2.2.2.2.2.2.2.2.2.2.2.1 zg_3_3_321.2.2.2.2.2.2.2.2.2.2.2.2.2.2.2.2.1 rfl, rfl⟩
theorem zd_3_3_208 : zz_D zy_makeLayer_3_3 208 (.isub) 1 209 := ⟨zq_100 zg_3_3_321.2.2.2.2.2.2.2.2.2.2.2.2.2.2.2.2.2.1, rfl⟩
theorem zd_3_3_209 : zz_D zy_makeLayer_3_3 209 (.invokestatic 24) 3 212 := ⟨zq_184 zg_3_3_321.2.2.2.2.2.2.2.2.2.2.2.2.2.2.2.2.2.2.1 zg_3_3_321.2.2.2.2.2.2.2.2.2.2.2.2.2.2.2.2.2.2.2.1 zg_3_3_321.2.2.2.2.2.2.2.2.2.2.2.2.2.2.2.2.2.2.2.2.1 rfl, rfl⟩
theorem zd_3_3_212 : zz_D zy_makeLayer_3_3 212 (.putfield 82) 3 215 := ⟨zq_181 zg_3_3_321.2.2.2.2.2.2.2.2.2.2.2.2.2.2.2.2.2.2.2.2.2.1 zg_3_3_321.2.2.2.2.2.2.2.2.2.2.2.2.2.2.2.2.2.2.2.2.2.2.1 zg_3_3_321.2.2.2.2.2.2.2.2.2.2.2.2.2.2.2.2.2.2.2.2.2.2.2 rfl, rfl⟩
theorem zg_3_3_215 : zq_at zy_makeLayer_3_3.2.1 215 42 ∧ zq_at zy_makeLayer_3_3.2.1 216 3 ∧ zq_at zy_makeLayer_3_3.2.1 217 181 ∧ zq_at zy_makeLayer_3_3.2.1 218 0 ∧ zq_at zy_makeLayer_3_3.2.1 219 85 ∧ zq_at zy_makeLayer_3_3.2.1 220 42 ∧ zq_at zy_makeLayer_3_3.2.1 221 180 ∧ zq_at zy_makeLayer_3_3.2.1 222 0 ∧ zq_at zy_makeLayer_3_3.2.1 223 85 ∧ zq_at zy_makeLayer_3_3.2.1 224 21 ∧ zq_at zy_makeLayer_3_3.2.1 225 4 ∧ zq_at zy_makeLayer_3_3.2.1 226 162 ∧ zq_at zy_makeLayer_3_3.2.1 227 0 ∧ zq_at zy_makeLayer_3_3.2.1 228 75 ∧ zq_at zy_makeLayer_3_3.2.1 301 42 ∧ zq_at zy_makeLayer_3_3.2.1 302 89 ∧ zq_at zy_makeLayer_3_3.2.1 303 180 ∧ zq_at zy_makeLayer_3_3.2.1 304 0 ∧ zq_at zy_makeLayer_3_3.2.1 305 76 ∧ zq_at zy_makeLayer_3_3.2.1 306 42 ∧ zq_at zy_makeLayer_3_3.2.1 307 180 ∧ zq_at zy_makeLayer_3_3.2.1 308 0 ∧ zq_at zy_makeLayer_3_3.2.1 309 21 ∧ zq_at zy_makeLayer_3_3.2.1 310 96 := by decide +kernel
theorem zd_3_3_215 : zz_D zy_makeLayer_3_3 215 (.aload_n 0) 1 216 := ⟨zq_42 zg_3_3_215.1, rfl⟩
theorem zd_3_3_216 : zz_D zy_makeLayer_3_3 216 (.iconst 0) 1 217 := ⟨zq_3 zg_3_3_215.2.1, rfl⟩
theorem zd_3_3_217 : zz_D zy_makeLayer_3_3 217 (.putfield 85) 3 220 := ⟨zq_181 zg_3_3_215.2.2.1 zg_3_3_215.2.2.2.1 zg_3_3_215.2.2.2.2.1 rfl, rfl⟩
theorem zd_3_3_220 : zz_D zy_makeLayer_3_3 220 (.aload_n 0) 1 221 := ⟨zq_42 zg_3_3_215.2.2.2.2.2.1, rfl⟩
theorem zd_3_3_221 : zz_D zy_makeLayer_3_3 221 (.getfield 85) 3 224 := ⟨zq_180 zg_3_3_215.2.2.2.2.2.2.1 zg_3_3_215.2.2.2.2.2.2.2.1 zg_3_3_215.2.2.2.2.2.2.2.2.1 rfl, rfl⟩
theorem zd_3_3_224 : zz_D zy_makeLayer_3_3 224 (.iload 4) 2 226 := ⟨zq_21 zg_3_3_215.2.2.2.2.2.2.2.2.2.1 zg_3_3_215.2.2.2.2.2.2.2.2.2.2.1, rfl⟩
theorem zd_3_3_226 : zz_B zy_makeLayer_3_3 226 (Instr.if_icmp .ge) 301 229 := ⟨75, zq_162 zg_3_3_215.2.2.2.2.2.2.2.2.2.2.2.1 zg_3_3_215.2.2.2.2.2.2.2.2.2.2.2.2.1 zg_3_3_215.2.2.2.2.2.2.2.2.2.2.2.2.2.1 (by decide), rfl, rfl⟩
theorem zd_3_3_301 : zz_D zy_makeLayer_3_3 301 (.aload_n 0) 1 302 := ⟨zq_42 zg_3_3_215.2.2.2.2.2.2.2.2.2.2.2.2.2.2.1, rfl⟩
theorem zd_3_3_302 : zz_D zy_makeLayer_3_3 302 (.dup) 1 303 := ⟨zq_89 zg_3_3_215.2.2.2.2.2.2.2.2.2.2.2.2.2.2.2.1, rfl⟩
theorem zd_3_3_303 : zz_D zy_makeLayer_3_3 303 (.getfield 76) 3 306 := ⟨zq_180 zg_3_3_215.2.2.2.2.2.2.2.2.2.2.2.2.2.2.2.2.1 zg_3_3_215.2.2.2.2.2.2.2.2.2.2.2.2.2.2.2.2.2.1 zg_3_3_215.2.2.2.2.2.2.2.2.2.2.2.2.2.2.2.2.2.2.1 rfl, rfl⟩
theorem zd_3_3_306 : zz_D zy_makeLayer_3_3 306 (.aload_n 0) 1 307 := ⟨zq_42 zg_3_3_215.2.2.2.2.2.2.2.2.2.2.2.2.2.2.2.2.2.2.2.1, rfl⟩
theorem zd_3_3_307 : zz_D zy_makeLayer_3_3 307 (.getfield 21) 3 310 := ⟨zq_180 zg_3_3_215.2.2.2.2.2.2.2.2.2.2.2.2.2.2.2.2.2.2.2.2.1 zg_3_3_215.2.2.2.2.2.2.2.2.2.2.2.2.2.2.2.2.2.2.2.2.2.1 zg_3_3_215.2.2.2.2.2.2.2.2.2.2.2.2.2.2.2.2.2.2.2.2.2.2.1 rfl, rfl⟩
theorem zd_3_3_310 : zz_D zy_makeLayer_3_3 310 (.iadd) 1 311 := ⟨zq_96 zg_3_3_215.2.2.2.2.2.2.2.2.2.2.2.2.2.2.2.2.2.2.2.2.2.2.2, rfl⟩
theorem zg_3_3_311 : zq_at zy_makeLayer_3_3.2.1 311 181 ∧ zq_at zy_makeLayer_3_3.2.1 312 0 ∧ zq_at zy_makeLayer_3_3.2.1 313 76 ∧ zq_at zy_makeLayer_3_3.2.1 314 167 ∧ zq_at zy_makeLayer_3_3.2.1 315 255 ∧ zq_at zy_makeLayer_3_3.2.1 316 120 ∧ zq_at zy_makeLayer_3_3.2.1 229 42 ∧ zq_at zy_makeLayer_3_3.2.1 230 3 ∧ zq_at zy_makeLayer_3_3.2.1 231 181 ∧ zq_at zy_makeLayer_3_3.2.1 232 0 ∧ zq_at zy_makeLayer_3_3.2.1 233 88 ∧ zq_at zy_makeLayer_3_3.2.1 234 42 ∧ zq_at zy_makeLayer_3_3.2.1 235 180 ∧ zq_at zy_makeLayer_3_3.2.1 236 0 ∧ zq_at zy_makeLayer_3_3.2.1 237 88 ∧ zq_at zy_makeLayer_3_3.2.1 238 21 ∧ zq_at zy_makeLayer_3_3.2.1 239 5 ∧ zq_at zy_makeLayer_3_3.2.1 240 162 ∧ zq_at zy_makeLayer_3_3.2.1 241 0 ∧ zq_at zy_makeLayer_3_3.2.1 242 48 ∧ zq_at zy_makeLayer_3_3.2.1 288 42 ∧ zq_at zy_makeLayer_3_3.2.1 289 89 := by decide +kernel
theorem zd_3_3_311 : zz_D zy_makeLayer_3_3 311 (.putfield 76) 3 314 := ⟨zq_181 zg_3_3_311.1 zg_3_3_311.2.1 zg_3_3_311.2.2.1 rfl, rfl⟩
theorem zd_3_3_314 : zz_B zy_makeLayer_3_3 314 Instr.goto 178 317 := ⟨(-136), zq_167 zg_3_3_311.2.2.2.1 zg_3_3_311.2.2.2.2.1 zg_3_3_311.2.2.2.2.2.1 (by decide), rfl, rfl⟩
theorem zd_3_3_229 : zz_D zy_makeLayer_3_3 229 (.aload_n 0) 1 230 := ⟨zq_42 zg_3_3_311.2.2.2.2.2.2.1, rfl⟩
theorem zd_3_3_230 : zz_D zy_makeLayer_3_3 230 (.iconst 0) 1 231 := ⟨zq_3 zg_3_3_311.2.2.2.2.2.2.2.1, rfl⟩
theorem zd_3_3_231 : zz_D zy_makeLayer_3_3 231 (.putfield 88) 3 234 := ⟨zq_181 zg_3_3_311.2.2.2.2.2.2.2.2.1 zg_3_3_311.2.2.2.2.2.2.2.2.2.1 zg_3_3_311.2.2.2.2.2.2.2.2.2.2.1 rfl, rfl⟩
theorem zd_3_3_234 : zz_D zy_makeLayer_3_3 234 (.aload_n 0) 1 235 := ⟨zq_42 zg_3_3_311.2.2.2.2.2.2.2.2.2.2.2.1, rfl⟩
theorem zd_3_3_235 : zz_D zy_makeLayer_3_3 235 (.getfield 88) 3 238 := ⟨zq_180 zg_3_3_311.2.2.2.2.2.2.2.2.2.2.2.2.1 zg_3_3_311.2.2.2.2.2.2.2.2.2.2.2.2.2.1 zg_3_3_311.2.2.2.2.2.2.2.2.2.2.2.2.2.2.1 rfl, rfl⟩
theorem zd_3_3_238 : zz_D zy_makeLayer_3_3 238 (.iload 5) 2 240 := ⟨zq_21 zg_3_3_311.2.2.2.2.2.2.2.2.2.2.2.2.2.2.2.1 zg_3_3_311.2.2.2.2.2.2.2.2.2.2.2.2.2.2.2.2.1, rfl⟩
theorem zd_3_3_240 : zz_B zy_makeLayer_3_3 240 (Instr.if_icmp .ge) 288 243 := ⟨48, zq_162 zg_3_3_311.2.2.2.2.2.2.2.2.2.2.2.2.2.2.2.2.2.1 zg_3_3_311.2.2.2.2.2.2.2.2.2.2.2.2.2.2.2.2.2.2.1 zg_3_3_311.2.2.2.2.2.2.2.2.2.2.2.2.2.2.2.2.2.2.2.1 (by decide), rfl, rfl⟩
theorem zd_3_3_288 : zz_D zy_makeLayer_3_3 288 (.aload_n 0) 1 289 := ⟨zq_42 zg_3_3_311.2.2.2.2.2.2.2.2.2.2.2.2.2.2.2.2.2.2.2.2.1, rfl⟩
theorem zd_3_3_289 : zz_D zy_makeLayer_3_3 289 (.dup) 1 290 := ⟨zq_89 zg_3_3_311.2.2.2.2.2.2.2.2.2.2.2.2.2.2.2.2.2.2.2.2.2, rfl⟩
theorem zg_3_3_290 : zq_at zy_makeLayer_3_3.2.1 290 180 ∧ zq_at zy_makeLayer_3_3.2.1 291 0 ∧ zq_at zy_makeLayer_3_3.2.1 292 85 ∧ zq_at zy_makeLayer_3_3.2.1 293 4 ∧ zq_at zy_makeLayer_3_3.2.1 294 96 ∧ zq_at zy_makeLayer_3_3.2.1 295 181 ∧ zq_at zy_makeLayer_3_3.2.1 296 0 ∧ zq_at zy_makeLayer_3_3.2.1 297 85 ∧ zq_at zy_makeLayer_3_3.2.1 298 167 ∧ zq_at zy_makeLayer_3_3.2.1 299 255 ∧ zq_at zy_makeLayer_3_3.2.1 300 178 ∧ zq_at zy_makeLayer_3_3.2.1 243 42 ∧ zq_at zy_makeLayer_3_3.2.1 244 180 ∧ zq_at zy_makeLayer_3_3.2.1 245 0 ∧ zq_at zy_makeLayer_3_3.2.1 246 15 ∧ zq_at zy_makeLayer_3_3.2.1 247 17 ∧ zq_at zy_makeLayer_3_3.2.1 248 2 ∧ zq_at zy_makeLayer_3_3.2.1 249 88 ∧ zq_at zy_makeLayer_3_3.2.1 250 164 ∧ zq_at zy_makeLayer_3_3.2.1 251 0 ∧ zq_at zy_makeLayer_3_3.2.1 252 4 ∧ zq_at zy_makeLayer_3_3.2.1 254 42 ∧ zq_at zy_makeLayer_3_3.2.1 255 21 ∧ zq_at zy_makeLayer_3_3.2.1 256 6 := by decide +kernel
theorem zd_3_3_290 : zz_D zy_makeLayer_3_3 290 (.getfield 85) 3 293 := ⟨zq_180 zg_3_3_290.1 zg_3_3_290.2.1 zg_3_3_290.2.2.1 rfl, rfl⟩
theorem zd_3_3_293 : zz_D zy_makeLayer_3_3 293 (.iconst 1) 1 294 := ⟨zq_4 zg_3_3_290.2.2.2.1, rfl⟩
theorem zd_3_3_294 : zz_D zy_makeLayer_3_3 294 (.iadd) 1 295 := ⟨zq_96 zg_3_3_290.2.2.2.2.1, rfl⟩
theorem zd_3_3_295 : zz_D zy_makeLayer_3_3 295 (.putfield 85) 3 298 := ⟨zq_181 zg_3_3_290.2.2.2.2.2.1 zg_3_3_290.2.2.2.2.2.2.1 zg_3_3_290.2.2.2.2.2.2.2.1 rfl, rfl⟩
theorem zd_3_3_298 : zz_B zy_makeLayer_3_3 298 Instr.goto 220 301 := ⟨(-78), zq_167 zg_3_3_290.2.2.2.2.2.2.2.2.1 zg_3_3_290.2.2.2.2.2.2.2.2.2.1 zg_3_3_290.2.2.2.2.2.2.2.2.2.2.1 (by decide), rfl, rfl⟩
theorem zd_3_3_243 : zz_D zy_makeLayer_3_3 243 (.aload_n 0) 1 244 := ⟨zq_42 zg_3_3_290.2.2.2.2.2.2.2.2.2.2.2.1, rfl⟩
theorem zd_3_3_244 : zz_D zy_makeLayer_3_3 244 (.getfield 15) 3 247 := ⟨zq_180 zg_3_3_290.2.2.2.2.2.2.2.2.2.2.2.2.1 zg_3_3_290.2.2.2.2.2.2.2.2.2.2.2.2.2.1 zg_3_3_290.2.2.2.2.2.2.2.2.2.2.2.2.2.2.1 rfl, rfl⟩
theorem zd_3_3_247 : zz_D zy_makeLayer_3_3 247 (.sipush 600) 3 250 := ⟨zq_17 zg_3_3_290.2.2.2.2.2.2.2.2.2.2.2.2.2.2.2.1 zg_3_3_290.2.2.2.2.2.2.2.2.2.2.2.2.2.2.2.2.1 zg_3_3_290.2.2.2.2.2.2.2.2.2.2.2.2.2.2.2.2.2.1 (by decide), rfl⟩
theorem zd_3_3_250 : zz_B zy_makeLayer_3_3 250 (Instr.if_icmp .le) 254 253 := ⟨4, zq_164 zg_3_3_290.2.2.2.2.2.2.2.2.2.2.2.2.2.2.2.2.2.2.1 zg_3_3_290.2.2.2.2.2.2.2.2.2.2.2.2.2.2.2.2.2.2.2.1 zg_3_3_290.2.2.2.2.2.2.2.2.2.2.2.2.2.2.2.2.2.2.2.2.1 (by decide), rfl, rfl⟩
theorem zd_3_3_254 : zz_D zy_makeLayer_3_3 254 (.aload_n 0) 1 255 := ⟨zq_42 zg_3_3_290.2.2.2.2.2.2.2.2.2.2.2.2.2.2.2.2.2.2.2.2.2.1, rfl⟩
theorem zd_3_3_255 : zz_D zy_makeLayer_3_3 255 (.iload 6) 2 257 := ⟨zq_21 zg_3_3_290.2.2.2.2.2.2.2.2.2.2.2.2.2.2.2.2.2.2.2.2.2.2.1 zg_3_3_290.2.2.2.2.2.2.2.2.2.2.2.2.2.2.2.2.2.2.2.2.2.2.2, rfl⟩
theorem zg_3_3_257 : zq_at zy_makeLayer_3_3.2.1 257 21 ∧ zq_at zy_makeLayer_3_3.2.1 258 5 ∧ zq_at zy_makeLayer_3_3.2.1 259 42 ∧ zq_at zy_makeLayer_3_3.2.1 260 180 ∧ zq_at zy_makeLayer_3_3.2.1 261 0 ∧ zq_at zy_makeLayer_3_3.2.1 262 88 ∧ zq_at zy_makeLayer_3_3.2.1 263 100 ∧ zq_at zy_makeLayer_3_3.2.1 264 184 ∧ zq_at zy_makeLayer_3_3.2.1 265 0 ∧ zq_at zy_makeLayer_3_3.2.1 266 24 ∧ zq_at zy_makeLayer_3_3.2.1 267 181 ∧ zq_at zy_makeLayer_3_3.2.1 268 0 ∧ zq_at zy_makeLayer_3_3.2.1 269 91 ∧ zq_at zy_makeLayer_3_3.2.1 270 42 ∧ zq_at zy_makeLayer_3_3.2.1 271 182 ∧ zq_at zy_makeLayer_3_3.2.1 272 0 ∧ zq_at zy_makeLayer_3_3.2.1 273 94 := by decide +kernel
theorem zd_3_3_257 : zz_D zy_makeLayer_3_3 257 (.iload 5) 2 259 := ⟨zq_21 zg_3_3_257.1 zg_3_3_257.2.1, rfl⟩
theorem zd_3_3_259 : zz_D zy_makeLayer_3_3 259 (.aload_n 0) 1 260 := ⟨zq_42 zg_3_3_257.2.2.1, rfl⟩
theorem zd_3_3_260 : zz_D zy_makeLayer_3_3 260 (.getfield 88) 3 263 := ⟨zq_180 zg_3_3_257.2.2.2.1 zg_3_3_257.2.2.2.2.1 zg_3_3_257.2.2.2.2.2.1 rfl, rfl⟩
theorem zd_3_3_263 : zz_D zy_makeLayer_3_3 263 (.isub) 1 264 := ⟨zq_100 zg_3_3_257.2.2.2.2.2.2.1, rfl⟩
theorem zd_3_3_264 : zz_D zy_makeLayer_3_3 264 (.invokestatic 24) 3 267 := ⟨zq_184 zg_3_3_257.2.2.2.2.2.2.2.1 zg_3_3_257.2.2.2.2.2.2.2.2.1 zg_3_3_257.2.2.2.2.2.2.2.2.2.1 rfl, rfl⟩
theorem zd_3_3_267 : zz_D zy_makeLayer_3_3 267 (.putfield 91) 3 270 := ⟨zq_181 zg_3_3_257.2.2.2.2.2.2.2.2.2.2.1 zg_3_3_257.2.2.2.2.2.2.2.2.2.2.2.1 zg_3_3_257.2.2.2.2.2.2.2.2.2.2.2.2.1 rfl, rfl⟩
theorem zd_3_3_270 : zz_D zy_makeLayer_3_3 270 (.aload_n 0) 1 271 := ⟨zq_42 zg_3_3_257.2.2.2.2.2.2.2.2.2.2.2.2.2.1, rfl⟩
theorem zd_3_3_271 : zz_D zy_makeLayer_3_3 271 (.invokevirtual 94) 3 274 := ⟨zq_182 zg_3_3_257.2.2.2.2.2.2.2.2.2.2.2.2.2.2.1 zg_3_3_257.2.2.2.2.2.2.2.2.2.2.2.2.2.2.2.1 zg_3_3_257.2.2.2.2.2.2.2.2.2.2.2.2.2.2.2.2 rfl, rfl⟩
theorem zg_3_4_0 : zq_at zy_makeTile_3_4.2.1 0 42 ∧ zq_at zy_makeTile_3_4.2.1 1 180 ∧ zq_at zy_makeTile_3_4.2.1 2 0 ∧ zq_at zy_makeTile_3_4.2.1 3 51 ∧ zq_at zy_makeTile_3_4.2.1 4 180 ∧ zq_at zy_makeTile_3_4.2.1 5 0 ∧ zq_at zy_makeTile_3_4.2.1 6 61 ∧ zq_at zy_makeTile_3_4.2.1 7 4 ∧ zq_at zy_makeTile_3_4.2.1 8 160 ∧ zq_at zy_makeTile_3_4.2.1 9 0 ∧ zq_at zy_makeTile_3_4.2.1 10 7 ∧ zq_at zy_makeTile_3_4.2.1 15 3 ∧ zq_at zy_makeTile_3_4.2.1 16 60 ∧ zq_at zy_makeTile_3_4.2.1 17 42 ∧ zq_at zy_makeTile_3_4.2.1 18 180 ∧ zq_at zy_makeTile_3_4.2.1 19 0 ∧ zq_at zy_makeTile_3_4.2.1 20 51 ∧ zq_at zy_makeTile_3_4.2.1 21 180 ∧ zq_at zy_makeTile_3_4.2.1 22 0 ∧ zq_at zy_makeTile_3_4.2.1 23 61 ∧ zq_at zy_makeTile_3_4.2.1 24 6 ∧ zq_at zy_makeTile_3_4.2.1 25 160 ∧ zq_at zy_makeTile_3_4.2.1 26 0 ∧ zq_at zy_makeTile_3_4.2.1 27 7 := by decide +kernel
theorem zd_3_4_0 : zz_D zy_makeTile_3_4 0 (.aload_n 0) 1 1 := ⟨zq_42 zg_3_4_0.1, rfl⟩
theorem zd_3_4_1 : zz_D zy_makeTile_3_4 1 (.getfield 51) 3 4 := ⟨zq_180 zg_3_4_0.2.1 zg_3_4_0.2.2.1 zg_3_4_0.2.2.2.1 rfl, rfl⟩
theorem zd_3_4_4 : zz_D zy_makeTile_3_4 4 (.getfield 61) 3 7 := ⟨zq_180 zg_3_4_0.2.2.2.2.1 zg_3_4_0.2.2.2.2.2.1 zg_3_4_0.2.2.2.2.2.2.1 rfl, rfl⟩
theorem zd_3_4_7 : zz_D zy_makeTile_3_4 7 (.iconst 1) 1 8 := ⟨zq_4 zg_3_4_0.2.2.2.2.2.2.2.1, rfl⟩
theorem zd_3_4_8 : zz_B zy_makeTile_3_4 8 (Instr.if_icmp .ne) 15 11 := ⟨7, zq_160 zg_3_4_0.2.2.2.2.2.2.2.2.1 zg_3_4_0.2.2.2.2.2.2.2.2.2.1 zg_3_4_0.2.2.2.2.2.2.2.2.2.2.1 (by decide), rfl, rfl⟩
theorem zd_3_4_15 : zz_D zy_makeTile_3_4 15 (.iconst 0) 1 16 := ⟨zq_3 zg_3_4_0.2.2.2.2.2.2.2.2.2.2.2.1, rfl⟩
theorem zd_3_4_16 : zz_D zy_makeTile_3_4 16 (.istore_n 1) 1 17 := ⟨zq_60 zg_3_4_0.2.2.2.2.2.2.2.2.2.2.2.2.1, rfl⟩
theorem zd_3_4_17 : zz_D zy_makeTile_3_4 17 (.aload_n 0) 1 18 := ⟨zq_42 zg_3_4_0.2.2.2.2.2.2.2.2.2.2.2.2.2.1, rfl⟩
theorem zd_3_4_18 : zz_D zy_makeTile_3_4 18 (.getfield 51) 3 21 := ⟨zq_180 zg_3_4_0.2.2.2.2.2.2.2.2.2.2.2.2.2.2.1 zg_3_4_0.2.2.2.2.2.2.2.2.2.2.2.2.2.2.2.1 zg_3_4_0.2.2.2.2.2.2.2.2.2.2.2.2.2.2.2.2.1 rfl, rfl⟩
theorem zd_3_4_21 : zz_D zy_makeTile_3_4 21 (.getfield 61) 3 24 := ⟨zq_180 zg_3_4_0.2.2.2.2.2.2.2.2.2.2.2.2.2.2.2.2.2.1 zg_3_4_0.2.2.2.2.2.2.2.2.2.2.2.2.2.2.2.2.2.2.1 zg_3_4_0.2.2.2.2.2.2.2.2.2.2.2.2.2.2.2.2.2.2.2.1 rfl, rfl⟩
theorem zd_3_4_24 : zz_D zy_makeTile_3_4 24 (.iconst 3) 1 25 := ⟨zq_6 zg_3_4_0.2.2.2.2.2.2.2.2.2.2.2.2.2.2.2.2.2.2.2.2.1, rfl⟩
theorem zd_3_4_25 : zz_B zy_makeTile_3_4 25 (Instr.if_icmp .ne) 32 28 := ⟨7, zq_160 zg_3_4_0.2.2.2.2.2.2.2.2.2.2.2.2.2.2.2.2.2.2.2.2.2.1 zg_3_4_0.2.2.2.2.2.2.2.2.2.2.2.2.2.2.2.2.2.2.2.2.2.2.1 zg_3_4_0.2.2.2.2.2.2.2.2.2.2.2.2.2.2.2.2.2.2.2.2.2.2.2 (by decide), rfl, rfl⟩
theorem zg_3_4_32 : zq_at zy_makeTile_3_4.2.1 32 3 ∧ zq_at zy_makeTile_3_4.2.1 33 61 ∧ zq_at zy_makeTile_3_4.2.1 34 28 ∧ zq_at zy_makeTile_3_4.2.1 35 153 ∧ zq_at zy_makeTile_3_4.2.1 36 0 ∧ zq_at zy_makeTile_3_4.2.1 37 7 ∧ zq_at zy_makeTile_3_4.2.1 42 42 ∧ zq_at zy_makeTile_3_4.2.1 43 180 ∧ zq_at zy_makeTile_3_4.2.1 44 0 ∧ zq_at zy_makeTile_3_4.2.1 45 51 ∧ zq_at zy_makeTile_3_4.2.1 46 180 ∧ zq_at zy_makeTile_3_4.2.1 47 0 ∧ zq_at zy_makeTile_3_4.2.1 48 100 ∧ zq_at zy_makeTile_3_4.2.1 49 62 ∧ zq_at zy_makeTile_3_4.2.1 50 28 ∧ zq_at zy_makeTile_3_4.2.1 51 153 ∧ zq_at zy_makeTile_3_4.2.1 52 0 ∧ zq_at zy_makeTile_3_4.2.1 53 7 ∧ zq_at zy_makeTile_3_4.2.1 58 42 ∧ zq_at zy_makeTile_3_4.2.1 59 180 ∧ zq_at zy_makeTile_3_4.2.1 60 0 ∧ zq_at zy_makeTile_3_4.2.1 61 51 := by decide +kernel
theorem zd_3_4_32 : zz_D zy_makeTile_3_4 32 (.iconst 0) 1 33 := ⟨zq_3 zg_3_4_32.1, rfl⟩
theorem zd_3_4_33 : zz_D zy_makeTile_3_4 33 (.istore_n 2) 1 34 := ⟨zq_61 zg_3_4_32.2.1, rfl⟩
theorem zd_3_4_34 : zz_D zy_makeTile_3_4 34 (.iload_n 2) 1 35 := ⟨zq_28 zg_3_4_32.2.2.1, rfl⟩
theorem zd_3_4_35 : zz_B zy_makeTile_3_4 35 (Instr.ifCond .eq) 42 38 := ⟨7, zq_153 zg_3_4_32.2.2.2.1 zg_3_4_32.2.2.2.2.1 zg_3_4_32.2.2.2.2.2.1 (by decide), rfl, rfl⟩
theorem zd_3_4_42 : zz_D zy_makeTile_3_4 42 (.aload_n 0) 1 43 := ⟨zq_42 zg_3_4_32.2.2.2.2.2.2.1, rfl⟩
theorem zd_3_4_43 : zz_D zy_makeTile_3_4 43 (.getfield 51) 3 46 := ⟨zq_180 zg_3_4_32.2.2.2.2.2.2.2.1 zg_3_4_32.2.2.2.2.2.2.2.2.1 zg_3_4_32.2.2.2.2.2.2.2.2.2.1 rfl, rfl⟩
theorem zd_3_4_46 : zz_D zy_makeTile_3_4 46 (.getfield 100) 3 49 := ⟨zq_180 zg_3_4_32.2.2.2.2.2.2.2.2.2.2.1 zg_3_4_32.2.2.2.2.2.2.2.2.2.2.2.1 zg_3_4_32.2.2.2.2.2.2.2.2.2.2.2.2.1 rfl, rfl⟩
theorem zd_3_4_49 : zz_D zy_makeTile_3_4 49 (.istore_n 3) 1 50 := ⟨zq_62 zg_3_4_32.2.2.2.2.2.2.2.2.2.2.2.2.2.1, rfl⟩
theorem zd_3_4_50 : zz_D zy_makeTile_3_4 50 (.iload_n 2) 1 51 := ⟨zq_28 zg_3_4_32.2.2.2.2.2.2.2.2.2.2.2.2.2.2.1, rfl⟩
theorem zd_3_4_51 : zz_B zy_makeTile_3_4 51 (Instr.ifCond .eq) 58 54 := ⟨7, zq_153 zg_3_4_32.2.2.2.2.2.2.2.2.2.2.2.2.2.2.2.1 zg_3_4_32.2.2.2.2.2.2.2.2.2.2.2.2.2.2.2.2.1 zg_3_4_32.2.2.2.2.2.2.2.2.2.2.2.2.2.2.2.2.2.1 (by decide), rfl, rfl⟩
theorem zd_3_4_58 : zz_D zy_makeTile_3_4 58 (.aload_n 0) 1 59 := ⟨zq_42 zg_3_4_32.2.2.2.2.2.2.2.2.2.2.2.2.2.2.2.2.2.2.1, rfl⟩
theorem zd_3_4_59 : zz_D zy_makeTile_3_4 59 (.getfield 51) 3 62 := ⟨zq_180 zg_3_4_32.2.2.2.2.2.2.2.2.2.2.2.2.2.2.2.2.2.2.2.1 zg_3_4_32.2.2.2.2.2.2.2.2.2.2.2.2.2.2.2.2.2.2.2.2.1 zg_3_4_32.2.2.2.2.2.2.2.2.2.2.2.2.2.2.2.2.2.2.2.2.2 rfl, rfl⟩
theorem zg_3_4_62 : zq_at zy_makeTile_3_4.2.1 62 180 ∧ zq_at zy_makeTile_3_4.2.1 63 0 ∧ zq_at zy_makeTile_3_4.2.1 64 103 ∧ zq_at zy_makeTile_3_4.2.1 65 54 ∧ zq_at zy_makeTile_3_4.2.1 66 4 ∧ zq_at zy_makeTile_3_4.2.1 67 27 ∧ zq_at zy_makeTile_3_4.2.1 68 153 ∧ zq_at zy_makeTile_3_4.2.1 69 0 ∧ zq_at zy_makeTile_3_4.2.1 70 13 ∧ zq_at zy_makeTile_3_4.2.1 81 4 ∧ zq_at zy_makeTile_3_4.2.1 82 54 ∧ zq_at zy_makeTile_3_4.2.1 83 5 ∧ zq_at zy_makeTile_3_4.2.1 84 42 ∧ zq_at zy_makeTile_3_4.2.1 85 180 ∧ zq_at zy_makeTile_3_4.2.1 86 0 ∧ zq_at zy_makeTile_3_4.2.1 87 73 ∧ zq_at zy_makeTile_3_4.2.1 88 54 ∧ zq_at zy_makeTile_3_4.2.1 89 6 ∧ zq_at zy_makeTile_3_4.2.1 90 42 ∧ zq_at zy_makeTile_3_4.2.1 91 3 ∧ zq_at zy_makeTile_3_4.2.1 92 181 ∧ zq_at zy_makeTile_3_4.2.1 93 0 ∧ zq_at zy_makeTile_3_4.2.1 94 106 ∧ zq_at zy_makeTile_3_4.2.1 28 4 := by decide +kernel
theorem zd_3_4_62 : zz_D zy_makeTile_3_4 62 (.getfield 103) 3 65 := ⟨zq_180 zg_3_4_62.1 zg_3_4_62.2.1 zg_3_4_62.2.2.1 rfl, rfl⟩
theorem zd_3_4_65 : zz_D zy_makeTile_3_4 65 (.istore 4) 2 67 := ⟨zq_54 zg_3_4_62.2.2.2.1 zg_3_4_62.2.2.2.2.1, rfl⟩
theorem zd_3_4_67 : zz_D zy_makeTile_3_4 67 (.iload_n 1) 1 68 := ⟨zq_27 zg_3_4_62.2.2.2.2.2.1, rfl⟩
theorem zd_3_4_68 : zz_B zy_makeTile_3_4 68 (Instr.ifCond .eq) 81 71 := ⟨13, zq_153 zg_3_4_62.2.2.2.2.2.2.1 zg_3_4_62.2.2.2.2.2.2.2.1 zg_3_4_62.2.2.2.2.2.2.2.2.1 (by decide), rfl, rfl⟩
theorem zd_3_4_81 : zz_D zy_makeTile_3_4 81 (.iconst 1) 1 82 := ⟨zq_4 zg_3_4_62.2.2.2.2.2.2.2.2.2.1, rfl⟩
theorem zd_3_4_82 : zz_D zy_makeTile_3_4 82 (.istore 5) 2 84 := ⟨zq_54 zg_3_4_62.2.2.2.2.2.2.2.2.2.2.1 zg_3_4_62.2.2.2.2.2.2.2.2.2.2.2.1, rfl⟩
theorem zd_3_4_84 : zz_D zy_makeTile_3_4 84 (.aload_n 0) 1 85 := ⟨zq_42 zg_3_4_62.2.2.2.2.2.2.2.2.2.2.2.2.1, rfl⟩
theorem zd_3_4_85 : zz_D zy_makeTile_3_4 85 (.getfield 73) 3 88 := ⟨zq_180 zg_3_4_62.2.2.2.2.2.2.2.2.2.2.2.2.2.1 zg_3_4_62.2.2.2.2.2.2.2.2.2.2.2.2.2.2.1 zg_3_4_62.2.2.2.2.2.2.2.2.2.2.2.2.2.2.2.1 rfl, rfl⟩
theorem zd_3_4_88 : zz_D zy_makeTile_3_4 88 (.istore 6) 2 90 := ⟨zq_54 zg_3_4_62.2.2.2.2.2.2.2.2.2.2.2.2.2.2.2.2.1 zg_3_4_62.2.2.2.2.2.2.2.2.2.2.2.2.2.2.2.2.2.1, rfl⟩
theorem zd_3_4_90 : zz_D zy_makeTile_3_4 90 (.aload_n 0) 1 91 := ⟨zq_42 zg_3_4_62.2.2.2.2.2.2.2.2.2.2.2.2.2.2.2.2.2.2.1, rfl⟩
theorem zd_3_4_91 : zz_D zy_makeTile_3_4 91 (.iconst 0) 1 92 := ⟨zq_3 zg_3_4_62.2.2.2.2.2.2.2.2.2.2.2.2.2.2.2.2.2.2.2.1, rfl⟩
theorem zd_3_4_92 : zz_D zy_makeTile_3_4 92 (.putfield 106) 3 95 := ⟨zq_181 zg_3_4_62.2.2.2.2.2.2.2.2.2.2.2.2.2.2.2.2.2.2.2.2.1 zg_3_4_62.2.2.2.2.2.2.2.2.2.2.2.2.2.2.2.2.2.2.2.2.2.1 zg_3_4_62.2.2.2.2.2.2.2.2.2.2.2.2.2.2.2.2.2.2.2.2.2.2.1 rfl, rfl⟩
theorem zd_3_4_28 : zz_D zy_makeTile_3_4 28 (.iconst 1) 1 29 := ⟨zq_4 zg_3_4_62.2.2.2.2.2.2.2.2.2.2.2.2.2.2.2.2.2.2.2.2.2.2.2, rfl⟩
theorem zg_3_4_29 : zq_at zy_makeTile_3_4.2.1 29 167 ∧ zq_at zy_makeTile_3_4.2.1 30 0 ∧ zq_at zy_makeTile_3_4.2.1 31 4 ∧ zq_at zy_makeTile_3_4.2.1 38 4 ∧ zq_at zy_makeTile_3_4.2.1 39 167 ∧ zq_at zy_makeTile_3_4.2.1 40 0 ∧ zq_at zy_makeTile_3_4.2.1 41 10 ∧ zq_at zy_makeTile_3_4.2.1 54 5 ∧ zq_at zy_makeTile_3_4.2.1 55 167 ∧ zq_at zy_makeTile_3_4.2.1 56 0 ∧ zq_at zy_makeTile_3_4.2.1 57 10 ∧ zq_at zy_makeTile_3_4.2.1 11 4 ∧ zq_at zy_makeTile_3_4.2.1 12 167 ∧ zq_at zy_makeTile_3_4.2.1 13 0 ∧ zq_at zy_makeTile_3_4.2.1 14 4 ∧ zq_at zy_makeTile_3_4.2.1 71 42 ∧ zq_at zy_makeTile_3_4.2.1 72 180 ∧ zq_at zy_makeTile_3_4.2.1 73 0 ∧ zq_at zy_makeTile_3_4.2.1 74 55 ∧ zq_at zy_makeTile_3_4.2.1 75 180 ∧ zq_at zy_makeTile_3_4.2.1 76 0 ∧ zq_at zy_makeTile_3_4.2.1 77 79 := by decide +kernel
theorem zd_3_4_29 : zz_B zy_makeTile_3_4 29 Instr.goto 33 32 := ⟨4, zq_167 zg_3_4_29.1 zg_3_4_29.2.1 zg_3_4_29.2.2.1 (by decide), rfl, rfl⟩
theorem zd_3_4_38 : zz_D zy_makeTile_3_4 38 (.iconst 1) 1 39 := ⟨zq_4 zg_3_4_29.2.2.2.1, rfl⟩
theorem zd_3_4_39 : zz_B zy_makeTile_3_4 39 Instr.goto 49 42 := ⟨10, zq_167 zg_3_4_29.2.2.2.2.1 zg_3_4_29.2.2.2.2.2.1 zg_3_4_29.2.2.2.2.2.2.1 (by decide), rfl, rfl⟩
theorem zd_3_4_54 : zz_D zy_makeTile_3_4 54 (.iconst 2) 1 55 := ⟨zq_5 zg_3_4_29.2.2.2.2.2.2.2.1, rfl⟩
theorem zd_3_4_55 : zz_B zy_makeTile_3_4 55 Instr.goto 65 58 := ⟨10, zq_167 zg_3_4_29.2.2.2.2.2.2.2.2.1 zg_3_4_29.2.2.2.2.2.2.2.2.2.1 zg_3_4_29.2.2.2.2.2.2.2.2.2.2.1 (by decide), rfl, rfl⟩
theorem zd_3_4_11 : zz_D zy_makeTile_3_4 11 (.iconst 1) 1 12 := ⟨zq_4 zg_3_4_29.2.2.2.2.2.2.2.2.2.2.2.1, rfl⟩
theorem zd_3_4_12 : zz_B zy_makeTile_3_4 12 Instr.goto 16 15 := ⟨4, zq_167 zg_3_4_29.2.2.2.2.2.2.2.2.2.2.2.2.1 zg_3_4_29.2.2.2.2.2.2.2.2.2.2.2.2.2.1 zg_3_4_29.2.2.2.2.2.2.2.2.2.2.2.2.2.2.1 (by decide), rfl, rfl⟩
theorem zd_3_4_71 : zz_D zy_makeTile_3_4 71 (.aload_n 0) 1 72 := ⟨zq_42 zg_3_4_29.2.2.2.2.2.2.2.2.2.2.2.2.2.2.2.1, rfl⟩
theorem zd_3_4_72 : zz_D zy_makeTile_3_4 72 (.getfield 55) 3 75 := ⟨zq_180 zg_3_4_29.2.2.2.2.2.2.2.2.2.2.2.2.2.2.2.2.1 zg_3_4_29.2.2.2.2.2.2.2.2.2.2.2.2.2.2.2.2.2.1 zg_3_4_29.2.2.2.2.2.2.2.2.2.2.2.2.2.2.2.2.2.2.1 rfl, rfl⟩
theorem zd_3_4_75 : zz_D zy_makeTile_3_4 75 (.getfield 79) 3 78 := ⟨zq_180 zg_3_4_29.2.2.2.2.2.2.2.2.2.2.2.2.2.2.2.2.2.2.2.1 zg_3_4_29.2.2.2.2.2.2.2.2.2.2.2.2.2.2.2.2.2.2.2.2.1 zg_3_4_29.2.2.2.2.2.2.2.2.2.2.2.2.2.2.2.2.2.2.2.2.2 rfl, rfl⟩
theorem zg_3_4_78 : zq_at zy_makeTile_3_4.2.1 78 167 ∧ zq_at zy_makeTile_3_4.2.1 79 0 ∧ zq_at zy_makeTile_3_4.2.1 80 4 ∧ zq_at zy_makeTile_3_4.2.1 95 42 ∧ zq_at zy_makeTile_3_4.2.1 96 180 ∧ zq_at zy_makeTile_3_4.2.1 97 0 ∧ zq_at zy_makeTile_3_4.2.1 98 106 ∧ zq_at zy_makeTile_3_4.2.1 99 29 ∧ zq_at zy_makeTile_3_4.2.1 100 162 ∧ zq_at zy_makeTile_3_4.2.1 101 0 ∧ zq_at zy_makeTile_3_4.2.1 102 179 ∧ zq_at zy_makeTile_3_4.2.1 279 42 ∧ zq_at zy_makeTile_3_4.2.1 280 182 ∧ zq_at zy_makeTile_3_4.2.1 281 0 ∧ zq_at zy_makeTile_3_4.2.1 282 122 := by decide +kernel
theorem zd_3_4_78 : zz_B zy_makeTile_3_4 78 Instr.goto 82 81 := ⟨4, zq_167 zg_3_4_78.1 zg_3_4_78.2.1 zg_3_4_78.2.2.1 (by decide), rfl, rfl⟩
theorem zd_3_4_95 : zz_D zy_makeTile_3_4 95 (.aload_n 0) 1 96 := ⟨zq_42 zg_3_4_78.2.2.2.1, rfl⟩
theorem zd_3_4_96 : zz_D zy_makeTile_3_4 96 (.getfield 106) 3 99 := ⟨zq_180 zg_3_4_78.2.2.2.2.1 zg_3_4_78.2.2.2.2.2.1 zg_3_4_78.2.2.2.2.2.2.1 rfl, rfl⟩
theorem zd_3_4_99 : zz_D zy_makeTile_3_4 99 (.iload_n 3) 1 100 := ⟨zq_29 zg_3_4_78.2.2.2.2.2.2.2.1, rfl⟩
theorem zd_3_4_100 : zz_B zy_makeTile_3_4 100 (Instr.if_icmp .ge) 279 103 := ⟨179, zq_162 zg_3_4_78.2.2.2.2.2.2.2.2.1 zg_3_4_78.2.2.2.2.2.2.2.2.2.1 zg_3_4_78.2.2.2.2.2.2.2.2.2.2.1 (by decide), rfl, rfl⟩
theorem zd_3_4_279 : zz_D zy_makeTile_3_4 279 (.aload_n 0) 1 280 := ⟨zq_42 zg_3_4_78.2.2.2.2.2.2.2.2.2.2.2.1, rfl⟩
theorem zd_3_4_280 : zz_D zy_makeTile_3_4 280 (.invokevirtual 122) 3 283 := ⟨zq_182 zg_3_4_78.2.2.2.2.2.2.2.2.2.2.2.2.1 zg_3_4_78.2.2.2.2.2.2.2.2.2.2.2.2.2.1 zg_3_4_78.2.2.2.2.2.2.2.2.2.2.2.2.2.2 rfl, rfl⟩
theorem zg_3_13_0 : zq_at zy_tileHalf_3_13.2.1 0 17 ∧ zq_at zy_tileHalf_3_13.2.1 1 0 ∧ zq_at zy_tileHalf_3_13.2.1 2 128 ∧ zq_at zy_tileHalf_3_13.2.1 3 42 ∧ zq_at zy_tileHalf_3_13.2.1 4 180 ∧ zq_at zy_tileHalf_3_13.2.1 5 0 ∧ zq_at zy_tileHalf_3_13.2.1 6 70 ∧ zq_at zy_tileHalf_3_13.2.1 7 4 ∧ zq_at zy_tileHalf_3_13.2.1 8 126 ∧ zq_at zy_tileHalf_3_13.2.1 9 104 ∧ zq_at zy_tileHalf_3_13.2.1 10 172 := by decide +kernel
theorem zd_3_13_0 : zz_D zy_tileHalf_3_13 0 (.sipush 128) 3 3 := ⟨zq_17 zg_3_13_0.1 zg_3_13_0.2.1 zg_3_13_0.2.2.1 (by decide), rfl⟩
theorem zd_3_13_3 : zz_D zy_tileHalf_3_13 3 (.aload_n 0) 1 4 := ⟨zq_42 zg_3_13_0.2.2.2.1, rfl⟩
theorem zd_3_13_4 : zz_D zy_tileHalf_3_13 4 (.getfield 70) 3 7 := ⟨zq_180 zg_3_13_0.2.2.2.2.1 zg_3_13_0.2.2.2.2.2.1 zg_3_13_0.2.2.2.2.2.2.1 rfl, rfl⟩
theorem zd_3_13_7 : zz_D zy_tileHalf_3_13 7 (.iconst 1) 1 8 := ⟨zq_4 zg_3_13_0.2.2.2.2.2.2.2.1, rfl⟩
theorem zd_3_13_8 : zz_D zy_tileHalf_3_13 8 (.iand) 1 9 := ⟨zq_126 zg_3_13_0.2.2.2.2.2.2.2.2.1, rfl⟩
theorem zd_3_13_9 : zz_D zy_tileHalf_3_13 9 (.imul) 1 10 := ⟨zq_104 zg_3_13_0.2.2.2.2.2.2.2.2.2.1, rfl⟩
theorem zd_3_13_10 : zz_D zy_tileHalf_3_13 10 (.ireturn) 1 11 := ⟨zq_172 zg_3_13_0.2.2.2.2.2.2.2.2.2.2, rfl⟩
-- TensorForge$Compiler tileHalf ()I
abbrev zr_tileHalf_3_13 : Room := { frames := 0, cells := 0, slots := 0, locals := 0 }
def zp_tileHalf_3_13  (S0 : zz_S) : Int → zz_S → Prop := fun r S => S0 = S ∧ ((-2147483648) ≤ r ∧ r ≤ 2147483647)
theorem zc_tileHalf_3_13 {g : mm_G} {l : Launch}  (S0 : zz_S) (n : Nat) (hn : zz_end ≤ n) (G_S0 : zz_G S0)  : mm_Met g l zy_tileHalf_3_13 zr_tileHalf_3_13 [.ref 1076] (zz_M S0 n) n (zz_QI n (zp_tileHalf_3_13  S0)) := by
  refine zz_enter (by decide) (Nat.le_of_ble_eq_true rfl) (zz_less (ls1 := [some (.ref 1076)]) ⟨rfl, trivial⟩ ?_)
  refine zz_sipush (by decide) zd_3_13_0 ?_
  refine zz_aload_n (x := 1076) rfl zd_3_13_3 ?_
  have g1 := zz_G.r G_S0 1076 6 (-2147483648) 2147483647 rfl rfl
  refine zz_geti (z := S0 1076 6) zd_3_13_4 zf_Compiler_70 zT_1076 rfl (zz_ltn hn rfl) rfl ?_
  refine zz_iconst zd_3_13_7 ?_
  refine zz_iand (by omega) (by omega) zd_3_13_8 (fun v2 hv2 av2 bv2 ev2 => ?_)
  refine zz_imul zd_3_13_9 ?_
  exact zz_iret zd_3_13_10 rfl (Nat.zero_le _) (Nat.zero_le _) ⟨_, _, rfl, rfl, by omega⟩
theorem zk_Compiler_122 : mm_Vl "TensorForge$Compiler" 122 9 0 zy_tileHalf_3_13 := ⟨zyw_tileHalf_3_13, (R_Compiler, F_Compiler, 17), rfl, mm_tb_1 1431 (by decide +kernel) rfl, mm_tb_1 1433 (by decide +kernel) rfl, mm_tb_s 66 (by decide +kernel) rfl⟩
abbrev zy_shaped_12_6 : mm_Y := (⟨"TensorForge$Words", "shaped", "(III)J"⟩, prog_12_method_6_code, 3, (some .long))
theorem zyw_shaped_12_6 : mm_Yw zy_shaped_12_6 3 := ⟨mm_tb_1 1430 (by decide +kernel) rfl, mm_tb_1 20 (by decide +kernel) rfl, ⟨by decide, by decide⟩, by decide +kernel⟩
theorem zg_3_4_283 : zq_at zy_makeTile_3_4.2.1 283 54 ∧ zq_at zy_makeTile_3_4.2.1 284 7 ∧ zq_at zy_makeTile_3_4.2.1 285 16 ∧ zq_at zy_makeTile_3_4.2.1 286 7 ∧ zq_at zy_makeTile_3_4.2.1 287 42 ∧ zq_at zy_makeTile_3_4.2.1 288 180 ∧ zq_at zy_makeTile_3_4.2.1 289 0 ∧ zq_at zy_makeTile_3_4.2.1 290 91 ∧ zq_at zy_makeTile_3_4.2.1 291 42 ∧ zq_at zy_makeTile_3_4.2.1 292 180 ∧ zq_at zy_makeTile_3_4.2.1 293 0 ∧ zq_at zy_makeTile_3_4.2.1 294 82 ∧ zq_at zy_makeTile_3_4.2.1 295 184 ∧ zq_at zy_makeTile_3_4.2.1 296 0 ∧ zq_at zy_makeTile_3_4.2.1 297 128 := by decide +kernel
theorem zd_3_4_283 : zz_D zy_makeTile_3_4 283 (.istore 7) 2 285 := ⟨zq_54 zg_3_4_283.1 zg_3_4_283.2.1, rfl⟩
theorem zd_3_4_285 : zz_D zy_makeTile_3_4 285 (.bipush 7) 2 287 := ⟨zq_16 zg_3_4_283.2.2.1 zg_3_4_283.2.2.2.1 (by decide), rfl⟩
theorem zd_3_4_287 : zz_D zy_makeTile_3_4 287 (.aload_n 0) 1 288 := ⟨zq_42 zg_3_4_283.2.2.2.2.1, rfl⟩
theorem zd_3_4_288 : zz_D zy_makeTile_3_4 288 (.getfield 91) 3 291 := ⟨zq_180 zg_3_4_283.2.2.2.2.2.1 zg_3_4_283.2.2.2.2.2.2.1 zg_3_4_283.2.2.2.2.2.2.2.1 rfl, rfl⟩
theorem zd_3_4_291 : zz_D zy_makeTile_3_4 291 (.aload_n 0) 1 292 := ⟨zq_42 zg_3_4_283.2.2.2.2.2.2.2.2.1, rfl⟩
theorem zd_3_4_292 : zz_D zy_makeTile_3_4 292 (.getfield 82) 3 295 := ⟨zq_180 zg_3_4_283.2.2.2.2.2.2.2.2.2.1 zg_3_4_283.2.2.2.2.2.2.2.2.2.2.1 zg_3_4_283.2.2.2.2.2.2.2.2.2.2.2.1 rfl, rfl⟩
theorem zd_3_4_295 : zz_D zy_makeTile_3_4 295 (.invokestatic 128) 3 298 := ⟨zq_184 zg_3_4_283.2.2.2.2.2.2.2.2.2.2.2.2.1 zg_3_4_283.2.2.2.2.2.2.2.2.2.2.2.2.2.1 zg_3_4_283.2.2.2.2.2.2.2.2.2.2.2.2.2.2 rfl, rfl⟩
theorem zg_12_6_0 : zq_at zy_shaped_12_6.2.1 0 26 ∧ zq_at zy_shaped_12_6.2.1 1 133 ∧ zq_at zy_shaped_12_6.2.1 2 27 ∧ zq_at zy_shaped_12_6.2.1 3 133 ∧ zq_at zy_shaped_12_6.2.1 4 178 ∧ zq_at zy_shaped_12_6.2.1 5 0 ∧ zq_at zy_shaped_12_6.2.1 6 9 ∧ zq_at zy_shaped_12_6.2.1 7 16 ∧ zq_at zy_shaped_12_6.2.1 8 6 ∧ zq_at zy_shaped_12_6.2.1 9 46 ∧ zq_at zy_shaped_12_6.2.1 10 121 ∧ zq_at zy_shaped_12_6.2.1 11 129 ∧ zq_at zy_shaped_12_6.2.1 12 28 ∧ zq_at zy_shaped_12_6.2.1 13 133 ∧ zq_at zy_shaped_12_6.2.1 14 178 ∧ zq_at zy_shaped_12_6.2.1 15 0 ∧ zq_at zy_shaped_12_6.2.1 16 9 ∧ zq_at zy_shaped_12_6.2.1 17 16 ∧ zq_at zy_shaped_12_6.2.1 18 7 ∧ zq_at zy_shaped_12_6.2.1 19 46 ∧ zq_at zy_shaped_12_6.2.1 20 121 ∧ zq_at zy_shaped_12_6.2.1 21 129 ∧ zq_at zy_shaped_12_6.2.1 22 173 := by decide +kernel
theorem zd_12_6_0 : zz_D zy_shaped_12_6 0 (.iload_n 0) 1 1 := ⟨zq_26 zg_12_6_0.1, rfl⟩
theorem zd_12_6_1 : zz_D zy_shaped_12_6 1 (.i2l) 1 2 := ⟨zq_133 zg_12_6_0.2.1, rfl⟩
theorem zd_12_6_2 : zz_D zy_shaped_12_6 2 (.iload_n 1) 1 3 := ⟨zq_27 zg_12_6_0.2.2.1, rfl⟩
theorem zd_12_6_3 : zz_D zy_shaped_12_6 3 (.i2l) 1 4 := ⟨zq_133 zg_12_6_0.2.2.2.1, rfl⟩
theorem zd_12_6_4 : zz_D zy_shaped_12_6 4 (.getstatic 9) 3 7 := ⟨zq_178 zg_12_6_0.2.2.2.2.1 zg_12_6_0.2.2.2.2.2.1 zg_12_6_0.2.2.2.2.2.2.1 rfl, rfl⟩
theorem zd_12_6_7 : zz_D zy_shaped_12_6 7 (.bipush 6) 2 9 := ⟨zq_16 zg_12_6_0.2.2.2.2.2.2.2.1 zg_12_6_0.2.2.2.2.2.2.2.2.1 (by decide), rfl⟩
theorem zd_12_6_9 : zz_D zy_shaped_12_6 9 (.iaload) 1 10 := ⟨zq_46 zg_12_6_0.2.2.2.2.2.2.2.2.2.1, rfl⟩
theorem zd_12_6_10 : zz_D zy_shaped_12_6 10 (.lshl) 1 11 := ⟨zq_121 zg_12_6_0.2.2.2.2.2.2.2.2.2.2.1, rfl⟩
theorem zd_12_6_11 : zz_D zy_shaped_12_6 11 (.lor) 1 12 := ⟨zq_129 zg_12_6_0.2.2.2.2.2.2.2.2.2.2.2.1, rfl⟩
theorem zd_12_6_12 : zz_D zy_shaped_12_6 12 (.iload_n 2) 1 13 := ⟨zq_28 zg_12_6_0.2.2.2.2.2.2.2.2.2.2.2.2.1, rfl⟩
theorem zd_12_6_13 : zz_D zy_shaped_12_6 13 (.i2l) 1 14 := ⟨zq_133 zg_12_6_0.2.2.2.2.2.2.2.2.2.2.2.2.2.1, rfl⟩
theorem zd_12_6_14 : zz_D zy_shaped_12_6 14 (.getstatic 9) 3 17 := ⟨zq_178 zg_12_6_0.2.2.2.2.2.2.2.2.2.2.2.2.2.2.1 zg_12_6_0.2.2.2.2.2.2.2.2.2.2.2.2.2.2.2.1 zg_12_6_0.2.2.2.2.2.2.2.2.2.2.2.2.2.2.2.2.1 rfl, rfl⟩
theorem zd_12_6_17 : zz_D zy_shaped_12_6 17 (.bipush 7) 2 19 := ⟨zq_16 zg_12_6_0.2.2.2.2.2.2.2.2.2.2.2.2.2.2.2.2.2.1 zg_12_6_0.2.2.2.2.2.2.2.2.2.2.2.2.2.2.2.2.2.2.1 (by decide), rfl⟩
theorem zd_12_6_19 : zz_D zy_shaped_12_6 19 (.iaload) 1 20 := ⟨zq_46 zg_12_6_0.2.2.2.2.2.2.2.2.2.2.2.2.2.2.2.2.2.2.2.1, rfl⟩
theorem zd_12_6_20 : zz_D zy_shaped_12_6 20 (.lshl) 1 21 := ⟨zq_121 zg_12_6_0.2.2.2.2.2.2.2.2.2.2.2.2.2.2.2.2.2.2.2.2.1, rfl⟩
theorem zd_12_6_21 : zz_D zy_shaped_12_6 21 (.lor) 1 22 := ⟨zq_129 zg_12_6_0.2.2.2.2.2.2.2.2.2.2.2.2.2.2.2.2.2.2.2.2.2.1, rfl⟩
theorem zd_12_6_22 : zz_D zy_shaped_12_6 22 (.lreturn) 1 23 := ⟨zq_173 zg_12_6_0.2.2.2.2.2.2.2.2.2.2.2.2.2.2.2.2.2.2.2.2.2.2, rfl⟩
-- TensorForge$Words shaped (III)J
abbrev zr_shaped_12_6 : Room := { frames := 0, cells := 0, slots := 0, locals := 0 }
def zp_shaped_12_6 (p0 : Int) (p1 : Int) (p2 : Int) (S0 : zz_S) : Int → zz_S → Prop := fun r S => S0 = S ∧ ((-9223372036854775808) ≤ r ∧ r ≤ 9223372036854775807)
theorem zc_shaped_12_6 {g : mm_G} {l : Launch} (p0 : Int) (p1 : Int) (p2 : Int) (S0 : zz_S) (n : Nat) (hn : zz_end ≤ n) (G_S0 : zz_G S0) (hp0 : (-2147483648) ≤ p0 ∧ p0 ≤ 2147483647) (hp1 : (-2147483648) ≤ p1 ∧ p1 ≤ 2147483647) (hp2 : (-2147483648) ≤ p2 ∧ p2 ≤ 2147483647) : mm_Met g l zy_shaped_12_6 zr_shaped_12_6 [zi p0, zi p1, zi p2] (zz_M S0 n) n (zz_QJ n (zp_shaped_12_6 p0 p1 p2 S0)) := by
  refine zz_enter (by decide) (Nat.le_of_ble_eq_true rfl) (zz_less (ls1 := [some (zi p0), some (zi p1), some (zi p2)]) ⟨rfl, ⟨rfl, ⟨rfl, trivial⟩⟩⟩ ?_)
  refine zz_iload_n (x := p0) rfl zd_12_6_0 ?_
  refine zz_i2l (by omega) zd_12_6_1 ?_
  refine zz_iload_n (x := p1) rfl zd_12_6_2 ?_
  refine zz_i2l (by omega) zd_12_6_3 ?_
  refine zz_gets (q0 := 1) zd_12_6_4 rfl (by decide) zs_Words_9 ?_
  refine zz_bipush (by decide) zd_12_6_7 ?_
  refine zz_tiald 20 zd_12_6_9 rfl (by decide) rfl (by decide) (by decide) rfl ?_
  refine zz_lshl zd_12_6_10 (fun v1 hv1 ev1 => ?_)
  refine zz_lor zd_12_6_11 (fun v2 hv2 ev2 => ?_)
  refine zz_iload_n (x := p2) rfl zd_12_6_12 ?_
  refine zz_i2l (by omega) zd_12_6_13 ?_
  refine zz_gets (q0 := 1) zd_12_6_14 rfl (by decide) zs_Words_9 ?_
  refine zz_bipush (by decide) zd_12_6_17 ?_
  refine zz_tiald 26 zd_12_6_19 rfl (by decide) rfl (by decide) (by decide) rfl ?_
  refine zz_lshl zd_12_6_20 (fun v3 hv3 ev3 => ?_)
  refine zz_lor zd_12_6_21 (fun v4 hv4 ev4 => ?_)
  exact zz_lret zd_12_6_22 rfl (Nat.zero_le _) (Nat.zero_le _) ⟨_, _, rfl, rfl, by omega⟩
theorem zk_Compiler_128 : mm_Sl "TensorForge$Compiler" 128 3 zy_shaped_12_6 := ⟨zyw_shaped_12_6, mm_tb_1 1428 (by decide +kernel) rfl, mm_tb_1 1429 (by decide +kernel) rfl⟩
abbrev zy_narrowing_4_6 : mm_Y := (⟨"TensorForge$Layer", "narrowing", "()I"⟩, prog_4_method_6_code, 1, (some .int))
theorem zyw_narrowing_4_6 : mm_Yw zy_narrowing_4_6 0 := ⟨mm_tb_1 906 (by decide +kernel) rfl, mm_tb_1 3 (by decide +kernel) rfl, ⟨by decide, by decide⟩, by decide +kernel⟩
theorem zg_3_4_298 : zq_at zy_makeTile_3_4.2.1 298 16 ∧ zq_at zy_makeTile_3_4.2.1 299 8 ∧ zq_at zy_makeTile_3_4.2.1 300 21 ∧ zq_at zy_makeTile_3_4.2.1 301 7 ∧ zq_at zy_makeTile_3_4.2.1 302 184 ∧ zq_at zy_makeTile_3_4.2.1 303 0 ∧ zq_at zy_makeTile_3_4.2.1 304 132 ∧ zq_at zy_makeTile_3_4.2.1 305 129 ∧ zq_at zy_makeTile_3_4.2.1 306 16 ∧ zq_at zy_makeTile_3_4.2.1 307 9 ∧ zq_at zy_makeTile_3_4.2.1 308 21 ∧ zq_at zy_makeTile_3_4.2.1 309 7 ∧ zq_at zy_makeTile_3_4.2.1 310 184 ∧ zq_at zy_makeTile_3_4.2.1 311 0 ∧ zq_at zy_makeTile_3_4.2.1 312 132 ∧ zq_at zy_makeTile_3_4.2.1 313 129 ∧ zq_at zy_makeTile_3_4.2.1 314 16 ∧ zq_at zy_makeTile_3_4.2.1 315 11 ∧ zq_at zy_makeTile_3_4.2.1 316 42 ∧ zq_at zy_makeTile_3_4.2.1 317 180 ∧ zq_at zy_makeTile_3_4.2.1 318 0 ∧ zq_at zy_makeTile_3_4.2.1 319 51 := by decide +kernel
theorem zd_3_4_298 : zz_D zy_makeTile_3_4 298 (.bipush 8) 2 300 := ⟨zq_16 zg_3_4_298.1 zg_3_4_298.2.1 (by decide), rfl⟩
theorem zd_3_4_300 : zz_D zy_makeTile_3_4 300 (.iload 7) 2 302 := ⟨zq_21 zg_3_4_298.2.2.1 zg_3_4_298.2.2.2.1, rfl⟩
theorem zd_3_4_302 : zz_D zy_makeTile_3_4 302 (.invokestatic 132) 3 305 := ⟨zq_184 zg_3_4_298.2.2.2.2.1 zg_3_4_298.2.2.2.2.2.1 zg_3_4_298.2.2.2.2.2.2.1 rfl, rfl⟩
theorem zd_3_4_305 : zz_D zy_makeTile_3_4 305 (.lor) 1 306 := ⟨zq_129 zg_3_4_298.2.2.2.2.2.2.2.1, rfl⟩
theorem zd_3_4_306 : zz_D zy_makeTile_3_4 306 (.bipush 9) 2 308 := ⟨zq_16 zg_3_4_298.2.2.2.2.2.2.2.2.1 zg_3_4_298.2.2.2.2.2.2.2.2.2.1 (by decide), rfl⟩
theorem zd_3_4_308 : zz_D zy_makeTile_3_4 308 (.iload 7) 2 310 := ⟨zq_21 zg_3_4_298.2.2.2.2.2.2.2.2.2.2.1 zg_3_4_298.2.2.2.2.2.2.2.2.2.2.2.1, rfl⟩
theorem zd_3_4_310 : zz_D zy_makeTile_3_4 310 (.invokestatic 132) 3 313 := ⟨zq_184 zg_3_4_298.2.2.2.2.2.2.2.2.2.2.2.2.1 zg_3_4_298.2.2.2.2.2.2.2.2.2.2.2.2.2.1 zg_3_4_298.2.2.2.2.2.2.2.2.2.2.2.2.2.2.1 rfl, rfl⟩
theorem zd_3_4_313 : zz_D zy_makeTile_3_4 313 (.lor) 1 314 := ⟨zq_129 zg_3_4_298.2.2.2.2.2.2.2.2.2.2.2.2.2.2.2.1, rfl⟩
theorem zd_3_4_314 : zz_D zy_makeTile_3_4 314 (.bipush 11) 2 316 := ⟨zq_16 zg_3_4_298.2.2.2.2.2.2.2.2.2.2.2.2.2.2.2.2.1 zg_3_4_298.2.2.2.2.2.2.2.2.2.2.2.2.2.2.2.2.2.1 (by decide), rfl⟩
theorem zd_3_4_316 : zz_D zy_makeTile_3_4 316 (.aload_n 0) 1 317 := ⟨zq_42 zg_3_4_298.2.2.2.2.2.2.2.2.2.2.2.2.2.2.2.2.2.2.1, rfl⟩
theorem zd_3_4_317 : zz_D zy_makeTile_3_4 317 (.getfield 51) 3 320 := ⟨zq_180 zg_3_4_298.2.2.2.2.2.2.2.2.2.2.2.2.2.2.2.2.2.2.2.1 zg_3_4_298.2.2.2.2.2.2.2.2.2.2.2.2.2.2.2.2.2.2.2.2.1 zg_3_4_298.2.2.2.2.2.2.2.2.2.2.2.2.2.2.2.2.2.2.2.2.2 rfl, rfl⟩
theorem zg_3_4_320 : zq_at zy_makeTile_3_4.2.1 320 182 ∧ zq_at zy_makeTile_3_4.2.1 321 0 ∧ zq_at zy_makeTile_3_4.2.1 322 136 := by decide +kernel
theorem zd_3_4_320 : zz_D zy_makeTile_3_4 320 (.invokevirtual 136) 3 323 := ⟨zq_182 zg_3_4_320.1 zg_3_4_320.2.1 zg_3_4_320.2.2 rfl, rfl⟩
theorem zg_4_6_0 : zq_at zy_narrowing_4_6.2.1 0 42 ∧ zq_at zy_narrowing_4_6.2.1 1 180 ∧ zq_at zy_narrowing_4_6.2.1 2 0 ∧ zq_at zy_narrowing_4_6.2.1 3 38 ∧ zq_at zy_narrowing_4_6.2.1 4 153 ∧ zq_at zy_narrowing_4_6.2.1 5 0 ∧ zq_at zy_narrowing_4_6.2.1 6 13 ∧ zq_at zy_narrowing_4_6.2.1 17 42 ∧ zq_at zy_narrowing_4_6.2.1 18 180 ∧ zq_at zy_narrowing_4_6.2.1 19 0 ∧ zq_at zy_narrowing_4_6.2.1 20 35 ∧ zq_at zy_narrowing_4_6.2.1 21 172 ∧ zq_at zy_narrowing_4_6.2.1 7 16 ∧ zq_at zy_narrowing_4_6.2.1 8 16 ∧ zq_at zy_narrowing_4_6.2.1 9 42 ∧ zq_at zy_narrowing_4_6.2.1 10 180 ∧ zq_at zy_narrowing_4_6.2.1 11 0 ∧ zq_at zy_narrowing_4_6.2.1 12 35 ∧ zq_at zy_narrowing_4_6.2.1 13 96 ∧ zq_at zy_narrowing_4_6.2.1 14 167 ∧ zq_at zy_narrowing_4_6.2.1 15 0 ∧ zq_at zy_narrowing_4_6.2.1 16 7 := by decide +kernel
theorem zd_4_6_0 : zz_D zy_narrowing_4_6 0 (.aload_n 0) 1 1 := ⟨zq_42 zg_4_6_0.1, rfl⟩
theorem zd_4_6_1 : zz_D zy_narrowing_4_6 1 (.getfield 38) 3 4 := ⟨zq_180 zg_4_6_0.2.1 zg_4_6_0.2.2.1 zg_4_6_0.2.2.2.1 rfl, rfl⟩
theorem zd_4_6_4 : zz_B zy_narrowing_4_6 4 (Instr.ifCond .eq) 17 7 := ⟨13, zq_153 zg_4_6_0.2.2.2.2.1 zg_4_6_0.2.2.2.2.2.1 zg_4_6_0.2.2.2.2.2.2.1 (by decide), rfl, rfl⟩
theorem zd_4_6_17 : zz_D zy_narrowing_4_6 17 (.aload_n 0) 1 18 := ⟨zq_42 zg_4_6_0.2.2.2.2.2.2.2.1, rfl⟩
theorem zd_4_6_18 : zz_D zy_narrowing_4_6 18 (.getfield 35) 3 21 := ⟨zq_180 zg_4_6_0.2.2.2.2.2.2.2.2.1 zg_4_6_0.2.2.2.2.2.2.2.2.2.1 zg_4_6_0.2.2.2.2.2.2.2.2.2.2.1 rfl, rfl⟩
theorem zd_4_6_21 : zz_D zy_narrowing_4_6 21 (.ireturn) 1 22 := ⟨zq_172 zg_4_6_0.2.2.2.2.2.2.2.2.2.2.2.1, rfl⟩
theorem zd_4_6_7 : zz_D zy_narrowing_4_6 7 (.bipush 16) 2 9 := ⟨zq_16 zg_4_6_0.2.2.2.2.2.2.2.2.2.2.2.2.1 zg_4_6_0.2.2.2.2.2.2.2.2.2.2.2.2.2.1 (by decide), rfl⟩
theorem zd_4_6_9 : zz_D zy_narrowing_4_6 9 (.aload_n 0) 1 10 := ⟨zq_42 zg_4_6_0.2.2.2.2.2.2.2.2.2.2.2.2.2.2.1, rfl⟩
theorem zd_4_6_10 : zz_D zy_narrowing_4_6 10 (.getfield 35) 3 13 := ⟨zq_180 zg_4_6_0.2.2.2.2.2.2.2.2.2.2.2.2.2.2.2.1 zg_4_6_0.2.2.2.2.2.2.2.2.2.2.2.2.2.2.2.2.1 zg_4_6_0.2.2.2.2.2.2.2.2.2.2.2.2.2.2.2.2.2.1 rfl, rfl⟩
theorem zd_4_6_13 : zz_D zy_narrowing_4_6 13 (.iadd) 1 14 := ⟨zq_96 zg_4_6_0.2.2.2.2.2.2.2.2.2.2.2.2.2.2.2.2.2.2.1, rfl⟩
theorem zd_4_6_14 : zz_B zy_narrowing_4_6 14 Instr.goto 21 17 := ⟨7, zq_167 zg_4_6_0.2.2.2.2.2.2.2.2.2.2.2.2.2.2.2.2.2.2.2.1 zg_4_6_0.2.2.2.2.2.2.2.2.2.2.2.2.2.2.2.2.2.2.2.2.1 zg_4_6_0.2.2.2.2.2.2.2.2.2.2.2.2.2.2.2.2.2.2.2.2.2 (by decide), rfl, rfl⟩
-- TensorForge$Layer narrowing ()I
abbrev zr_narrowing_4_6 : Room := { frames := 0, cells := 0, slots := 0, locals := 0 }
def zp_narrowing_4_6 (t : Int) (S0 : zz_S) : Int → zz_S → Prop := fun r S => S0 = S ∧ ((-2147483648) ≤ r ∧ r ≤ 2147483647)
theorem zc_narrowing_4_6 {g : mm_G} {l : Launch} (t : Int) (S0 : zz_S) (n : Nat) (hn : zz_end ≤ n) (G_S0 : zz_G S0) (ht : 0 ≤ t ∧ t ≤ 23) : mm_Met g l zy_narrowing_4_6 zr_narrowing_4_6 [.ref (zz_rf 6 t)] (zz_M S0 n) n (zz_QI n (zp_narrowing_4_6 t S0)) := by
  refine zz_enter (by decide) (Nat.le_of_ble_eq_true rfl) (zz_less (ls1 := [some (.ref (zz_rf 6 t))]) ⟨rfl, trivial⟩ ?_)
  have b_t := zz_rf6 (z := t) (by omega)
  refine zz_aload_n (x := zz_rf 6 t) rfl zd_4_6_0 ?_
  have g1 := zz_G.r G_S0 (zz_rf 6 t) 8 0 1 (zR_k6_8 (by omega)) (zB_k6 (by omega))
  refine zz_geti (z := S0 (zz_rf 6 t) 8) zd_4_6_1 zf_Layer_38 (zT_k6 (by omega)) rfl (zN_k6 hn (by omega)) rfl ?_
  refine zz_if_eq (by omega) zd_4_6_4 (fun c2 => ?_) (fun c2 => ?_)
  · refine zz_aload_n (x := zz_rf 6 t) rfl zd_4_6_17 ?_
    have g3 := zz_G.r G_S0 (zz_rf 6 t) 7 (-2147483648) 2147483647 (zR_k6_7 (by omega)) (zB_k6 (by omega))
    refine zz_geti (z := S0 (zz_rf 6 t) 7) zd_4_6_18 zf_Layer_35 (zT_k6 (by omega)) rfl (zN_k6 hn (by omega)) rfl ?_
    exact zz_iret zd_4_6_21 rfl (Nat.zero_le _) (Nat.zero_le _) ⟨_, _, rfl, rfl, by omega⟩
  · refine zz_bipush (by decide) zd_4_6_7 ?_
    refine zz_aload_n (x := zz_rf 6 t) rfl zd_4_6_9 ?_
    have g4 := zz_G.r G_S0 (zz_rf 6 t) 7 (-2147483648) 2147483647 (zR_k6_7 (by omega)) (zB_k6 (by omega))
    refine zz_geti (z := S0 (zz_rf 6 t) 7) zd_4_6_10 zf_Layer_35 (zT_k6 (by omega)) rfl (zN_k6 hn (by omega)) rfl ?_
    refine zz_iadd zd_4_6_13 ?_
    refine zz_nrm (fun v5 hv5 ev5 => ?_)
    refine zz_goto zd_4_6_14 ?_
    exact zz_iret zd_4_6_21 rfl (Nat.zero_le _) (Nat.zero_le _) ⟨_, _, rfl, rfl, by omega⟩
theorem zk_Compiler_136 : mm_Vl "TensorForge$Compiler" 136 2 0 zy_narrowing_4_6 := ⟨zyw_narrowing_4_6, (R_Layer, F_Layer, 15), rfl, mm_tb_1 1475 (by decide +kernel) rfl, mm_tb_1 904 (by decide +kernel) rfl, mm_tb_1 905 (by decide +kernel) rfl⟩
abbrev zy_cellAt_4_15 : mm_Y := (⟨"TensorForge$Layer", "cellAt", "(III)I"⟩, prog_4_method_15_code, 4, (some .int))
theorem zyw_cellAt_4_15 : mm_Yw zy_cellAt_4_15 3 := ⟨mm_tb_1 869 (by decide +kernel) rfl, mm_tb_1 3 (by decide +kernel) rfl, ⟨by decide, by decide⟩, by decide +kernel⟩
theorem zg_3_4_323 : zq_at zy_makeTile_3_4.2.1 323 184 ∧ zq_at zy_makeTile_3_4.2.1 324 0 ∧ zq_at zy_makeTile_3_4.2.1 325 132 ∧ zq_at zy_makeTile_3_4.2.1 326 129 ∧ zq_at zy_makeTile_3_4.2.1 327 6 ∧ zq_at zy_makeTile_3_4.2.1 328 184 ∧ zq_at zy_makeTile_3_4.2.1 329 0 ∧ zq_at zy_makeTile_3_4.2.1 330 139 ∧ zq_at zy_makeTile_3_4.2.1 331 129 ∧ zq_at zy_makeTile_3_4.2.1 332 7 ∧ zq_at zy_makeTile_3_4.2.1 333 184 ∧ zq_at zy_makeTile_3_4.2.1 334 0 ∧ zq_at zy_makeTile_3_4.2.1 335 139 ∧ zq_at zy_makeTile_3_4.2.1 336 129 ∧ zq_at zy_makeTile_3_4.2.1 337 55 ∧ zq_at zy_makeTile_3_4.2.1 338 8 ∧ zq_at zy_makeTile_3_4.2.1 339 42 ∧ zq_at zy_makeTile_3_4.2.1 340 42 ∧ zq_at zy_makeTile_3_4.2.1 341 180 ∧ zq_at zy_makeTile_3_4.2.1 342 0 ∧ zq_at zy_makeTile_3_4.2.1 343 70 ∧ zq_at zy_makeTile_3_4.2.1 344 4 := by decide +kernel
theorem zd_3_4_323 : zz_D zy_makeTile_3_4 323 (.invokestatic 132) 3 326 := ⟨zq_184 zg_3_4_323.1 zg_3_4_323.2.1 zg_3_4_323.2.2.1 rfl, rfl⟩
theorem zd_3_4_326 : zz_D zy_makeTile_3_4 326 (.lor) 1 327 := ⟨zq_129 zg_3_4_323.2.2.2.1, rfl⟩
theorem zd_3_4_327 : zz_D zy_makeTile_3_4 327 (.iconst 3) 1 328 := ⟨zq_6 zg_3_4_323.2.2.2.2.1, rfl⟩
theorem zd_3_4_328 : zz_D zy_makeTile_3_4 328 (.invokestatic 139) 3 331 := ⟨zq_184 zg_3_4_323.2.2.2.2.2.1 zg_3_4_323.2.2.2.2.2.2.1 zg_3_4_323.2.2.2.2.2.2.2.1 rfl, rfl⟩
theorem zd_3_4_331 : zz_D zy_makeTile_3_4 331 (.lor) 1 332 := ⟨zq_129 zg_3_4_323.2.2.2.2.2.2.2.2.1, rfl⟩
theorem zd_3_4_332 : zz_D zy_makeTile_3_4 332 (.iconst 4) 1 333 := ⟨zq_7 zg_3_4_323.2.2.2.2.2.2.2.2.2.1, rfl⟩
theorem zd_3_4_333 : zz_D zy_makeTile_3_4 333 (.invokestatic 139) 3 336 := ⟨zq_184 zg_3_4_323.2.2.2.2.2.2.2.2.2.2.1 zg_3_4_323.2.2.2.2.2.2.2.2.2.2.2.1 zg_3_4_323.2.2.2.2.2.2.2.2.2.2.2.2.1 rfl, rfl⟩
theorem zd_3_4_336 : zz_D zy_makeTile_3_4 336 (.lor) 1 337 := ⟨zq_129 zg_3_4_323.2.2.2.2.2.2.2.2.2.2.2.2.2.1, rfl⟩
theorem zd_3_4_337 : zz_D zy_makeTile_3_4 337 (.lstore 8) 2 339 := ⟨zq_55 zg_3_4_323.2.2.2.2.2.2.2.2.2.2.2.2.2.2.1 zg_3_4_323.2.2.2.2.2.2.2.2.2.2.2.2.2.2.2.1, rfl⟩
theorem zd_3_4_339 : zz_D zy_makeTile_3_4 339 (.aload_n 0) 1 340 := ⟨zq_42 zg_3_4_323.2.2.2.2.2.2.2.2.2.2.2.2.2.2.2.2.1, rfl⟩
theorem zd_3_4_340 : zz_D zy_makeTile_3_4 340 (.aload_n 0) 1 341 := ⟨zq_42 zg_3_4_323.2.2.2.2.2.2.2.2.2.2.2.2.2.2.2.2.2.1, rfl⟩
theorem zd_3_4_341 : zz_D zy_makeTile_3_4 341 (.getfield 70) 3 344 := ⟨zq_180 zg_3_4_323.2.2.2.2.2.2.2.2.2.2.2.2.2.2.2.2.2.2.1 zg_3_4_323.2.2.2.2.2.2.2.2.2.2.2.2.2.2.2.2.2.2.2.1 zg_3_4_323.2.2.2.2.2.2.2.2.2.2.2.2.2.2.2.2.2.2.2.2.1 rfl, rfl⟩
theorem zd_3_4_344 : zz_D zy_makeTile_3_4 344 (.iconst 1) 1 345 := ⟨zq_4 zg_3_4_323.2.2.2.2.2.2.2.2.2.2.2.2.2.2.2.2.2.2.2.2.2, rfl⟩
theorem zg_3_4_345 : zq_at zy_makeTile_3_4.2.1 345 164 ∧ zq_at zy_makeTile_3_4.2.1 346 0 ∧ zq_at zy_makeTile_3_4.2.1 347 13 ∧ zq_at zy_makeTile_3_4.2.1 358 22 ∧ zq_at zy_makeTile_3_4.2.1 359 8 ∧ zq_at zy_makeTile_3_4.2.1 360 182 ∧ zq_at zy_makeTile_3_4.2.1 361 0 ∧ zq_at zy_makeTile_3_4.2.1 362 143 ∧ zq_at zy_makeTile_3_4.2.1 363 42 ∧ zq_at zy_makeTile_3_4.2.1 364 16 ∧ zq_at zy_makeTile_3_4.2.1 365 8 ∧ zq_at zy_makeTile_3_4.2.1 366 42 ∧ zq_at zy_makeTile_3_4.2.1 367 180 ∧ zq_at zy_makeTile_3_4.2.1 368 0 ∧ zq_at zy_makeTile_3_4.2.1 369 91 ∧ zq_at zy_makeTile_3_4.2.1 370 42 ∧ zq_at zy_makeTile_3_4.2.1 371 180 ∧ zq_at zy_makeTile_3_4.2.1 372 0 ∧ zq_at zy_makeTile_3_4.2.1 373 82 ∧ zq_at zy_makeTile_3_4.2.1 374 184 ∧ zq_at zy_makeTile_3_4.2.1 375 0 ∧ zq_at zy_makeTile_3_4.2.1 376 128 ∧ zq_at zy_makeTile_3_4.2.1 377 16 ∧ zq_at zy_makeTile_3_4.2.1 378 8 := by decide +kernel
theorem zd_3_4_345 : zz_B zy_makeTile_3_4 345 (Instr.if_icmp .le) 358 348 := ⟨13, zq_164 zg_3_4_345.1 zg_3_4_345.2.1 zg_3_4_345.2.2.1 (by decide), rfl, rfl⟩
theorem zd_3_4_358 : zz_D zy_makeTile_3_4 358 (.lload 8) 2 360 := ⟨zq_22 zg_3_4_345.2.2.2.1 zg_3_4_345.2.2.2.2.1, rfl⟩
theorem zd_3_4_360 : zz_D zy_makeTile_3_4 360 (.invokevirtual 143) 3 363 := ⟨zq_182 zg_3_4_345.2.2.2.2.2.1 zg_3_4_345.2.2.2.2.2.2.1 zg_3_4_345.2.2.2.2.2.2.2.1 rfl, rfl⟩
theorem zd_3_4_363 : zz_D zy_makeTile_3_4 363 (.aload_n 0) 1 364 := ⟨zq_42 zg_3_4_345.2.2.2.2.2.2.2.2.1, rfl⟩
theorem zd_3_4_364 : zz_D zy_makeTile_3_4 364 (.bipush 8) 2 366 := ⟨zq_16 zg_3_4_345.2.2.2.2.2.2.2.2.2.1 zg_3_4_345.2.2.2.2.2.2.2.2.2.2.1 (by decide), rfl⟩
theorem zd_3_4_366 : zz_D zy_makeTile_3_4 366 (.aload_n 0) 1 367 := ⟨zq_42 zg_3_4_345.2.2.2.2.2.2.2.2.2.2.2.1, rfl⟩
theorem zd_3_4_367 : zz_D zy_makeTile_3_4 367 (.getfield 91) 3 370 := ⟨zq_180 zg_3_4_345.2.2.2.2.2.2.2.2.2.2.2.2.1 zg_3_4_345.2.2.2.2.2.2.2.2.2.2.2.2.2.1 zg_3_4_345.2.2.2.2.2.2.2.2.2.2.2.2.2.2.1 rfl, rfl⟩
theorem zd_3_4_370 : zz_D zy_makeTile_3_4 370 (.aload_n 0) 1 371 := ⟨zq_42 zg_3_4_345.2.2.2.2.2.2.2.2.2.2.2.2.2.2.2.1, rfl⟩
theorem zd_3_4_371 : zz_D zy_makeTile_3_4 371 (.getfield 82) 3 374 := ⟨zq_180 zg_3_4_345.2.2.2.2.2.2.2.2.2.2.2.2.2.2.2.2.1 zg_3_4_345.2.2.2.2.2.2.2.2.2.2.2.2.2.2.2.2.2.1 zg_3_4_345.2.2.2.2.2.2.2.2.2.2.2.2.2.2.2.2.2.2.1 rfl, rfl⟩
theorem zd_3_4_374 : zz_D zy_makeTile_3_4 374 (.invokestatic 128) 3 377 := ⟨zq_184 zg_3_4_345.2.2.2.2.2.2.2.2.2.2.2.2.2.2.2.2.2.2.2.1 zg_3_4_345.2.2.2.2.2.2.2.2.2.2.2.2.2.2.2.2.2.2.2.2.1 zg_3_4_345.2.2.2.2.2.2.2.2.2.2.2.2.2.2.2.2.2.2.2.2.2.1 rfl, rfl⟩
theorem zd_3_4_377 : zz_D zy_makeTile_3_4 377 (.bipush 8) 2 379 := ⟨zq_16 zg_3_4_345.2.2.2.2.2.2.2.2.2.2.2.2.2.2.2.2.2.2.2.2.2.2.1 zg_3_4_345.2.2.2.2.2.2.2.2.2.2.2.2.2.2.2.2.2.2.2.2.2.2.2 (by decide), rfl⟩
theorem zg_3_4_379 : zq_at zy_makeTile_3_4.2.1 379 21 ∧ zq_at zy_makeTile_3_4.2.1 380 7 ∧ zq_at zy_makeTile_3_4.2.1 381 184 ∧ zq_at zy_makeTile_3_4.2.1 382 0 ∧ zq_at zy_makeTile_3_4.2.1 383 132 ∧ zq_at zy_makeTile_3_4.2.1 384 129 ∧ zq_at zy_makeTile_3_4.2.1 385 8 ∧ zq_at zy_makeTile_3_4.2.1 386 42 ∧ zq_at zy_makeTile_3_4.2.1 387 180 ∧ zq_at zy_makeTile_3_4.2.1 388 0 ∧ zq_at zy_makeTile_3_4.2.1 389 51 ∧ zq_at zy_makeTile_3_4.2.1 390 42 ∧ zq_at zy_makeTile_3_4.2.1 391 180 ∧ zq_at zy_makeTile_3_4.2.1 392 0 ∧ zq_at zy_makeTile_3_4.2.1 393 85 ∧ zq_at zy_makeTile_3_4.2.1 394 42 ∧ zq_at zy_makeTile_3_4.2.1 395 180 ∧ zq_at zy_makeTile_3_4.2.1 396 0 ∧ zq_at zy_makeTile_3_4.2.1 397 88 ∧ zq_at zy_makeTile_3_4.2.1 398 42 ∧ zq_at zy_makeTile_3_4.2.1 399 180 ∧ zq_at zy_makeTile_3_4.2.1 400 0 ∧ zq_at zy_makeTile_3_4.2.1 401 76 := by decide +kernel
theorem zd_3_4_379 : zz_D zy_makeTile_3_4 379 (.iload 7) 2 381 := ⟨zq_21 zg_3_4_379.1 zg_3_4_379.2.1, rfl⟩
theorem zd_3_4_381 : zz_D zy_makeTile_3_4 381 (.invokestatic 132) 3 384 := ⟨zq_184 zg_3_4_379.2.2.1 zg_3_4_379.2.2.2.1 zg_3_4_379.2.2.2.2.1 rfl, rfl⟩
theorem zd_3_4_384 : zz_D zy_makeTile_3_4 384 (.lor) 1 385 := ⟨zq_129 zg_3_4_379.2.2.2.2.2.1, rfl⟩
theorem zd_3_4_385 : zz_D zy_makeTile_3_4 385 (.iconst 5) 1 386 := ⟨zq_8 zg_3_4_379.2.2.2.2.2.2.1, rfl⟩
theorem zd_3_4_386 : zz_D zy_makeTile_3_4 386 (.aload_n 0) 1 387 := ⟨zq_42 zg_3_4_379.2.2.2.2.2.2.2.1, rfl⟩
theorem zd_3_4_387 : zz_D zy_makeTile_3_4 387 (.getfield 51) 3 390 := ⟨zq_180 zg_3_4_379.2.2.2.2.2.2.2.2.1 zg_3_4_379.2.2.2.2.2.2.2.2.2.1 zg_3_4_379.2.2.2.2.2.2.2.2.2.2.1 rfl, rfl⟩
theorem zd_3_4_390 : zz_D zy_makeTile_3_4 390 (.aload_n 0) 1 391 := ⟨zq_42 zg_3_4_379.2.2.2.2.2.2.2.2.2.2.2.1, rfl⟩
theorem zd_3_4_391 : zz_D zy_makeTile_3_4 391 (.getfield 85) 3 394 := ⟨zq_180 zg_3_4_379.2.2.2.2.2.2.2.2.2.2.2.2.1 zg_3_4_379.2.2.2.2.2.2.2.2.2.2.2.2.2.1 zg_3_4_379.2.2.2.2.2.2.2.2.2.2.2.2.2.2.1 rfl, rfl⟩
theorem zd_3_4_394 : zz_D zy_makeTile_3_4 394 (.aload_n 0) 1 395 := ⟨zq_42 zg_3_4_379.2.2.2.2.2.2.2.2.2.2.2.2.2.2.2.1, rfl⟩
theorem zd_3_4_395 : zz_D zy_makeTile_3_4 395 (.getfield 88) 3 398 := ⟨zq_180 zg_3_4_379.2.2.2.2.2.2.2.2.2.2.2.2.2.2.2.2.1 zg_3_4_379.2.2.2.2.2.2.2.2.2.2.2.2.2.2.2.2.2.1 zg_3_4_379.2.2.2.2.2.2.2.2.2.2.2.2.2.2.2.2.2.2.1 rfl, rfl⟩
theorem zd_3_4_398 : zz_D zy_makeTile_3_4 398 (.aload_n 0) 1 399 := ⟨zq_42 zg_3_4_379.2.2.2.2.2.2.2.2.2.2.2.2.2.2.2.2.2.2.2.1, rfl⟩
theorem zd_3_4_399 : zz_D zy_makeTile_3_4 399 (.getfield 76) 3 402 := ⟨zq_180 zg_3_4_379.2.2.2.2.2.2.2.2.2.2.2.2.2.2.2.2.2.2.2.2.1 zg_3_4_379.2.2.2.2.2.2.2.2.2.2.2.2.2.2.2.2.2.2.2.2.2.1 zg_3_4_379.2.2.2.2.2.2.2.2.2.2.2.2.2.2.2.2.2.2.2.2.2.2 rfl, rfl⟩
theorem zg_3_4_402 : zq_at zy_makeTile_3_4.2.1 402 182 ∧ zq_at zy_makeTile_3_4.2.1 403 0 ∧ zq_at zy_makeTile_3_4.2.1 404 147 := by decide +kernel
theorem zd_3_4_402 : zz_D zy_makeTile_3_4 402 (.invokevirtual 147) 3 405 := ⟨zq_182 zg_3_4_402.1 zg_3_4_402.2.1 zg_3_4_402.2.2 rfl, rfl⟩
theorem zg_4_15_0 : zq_at zy_cellAt_4_15.2.1 0 42 ∧ zq_at zy_cellAt_4_15.2.1 1 180 ∧ zq_at zy_cellAt_4_15.2.1 2 0 ∧ zq_at zy_cellAt_4_15.2.1 3 48 ∧ zq_at zy_cellAt_4_15.2.1 4 27 ∧ zq_at zy_cellAt_4_15.2.1 5 42 ∧ zq_at zy_cellAt_4_15.2.1 6 180 ∧ zq_at zy_cellAt_4_15.2.1 7 0 ∧ zq_at zy_cellAt_4_15.2.1 8 57 ∧ zq_at zy_cellAt_4_15.2.1 9 104 ∧ zq_at zy_cellAt_4_15.2.1 10 28 ∧ zq_at zy_cellAt_4_15.2.1 11 96 ∧ zq_at zy_cellAt_4_15.2.1 12 42 ∧ zq_at zy_cellAt_4_15.2.1 13 180 ∧ zq_at zy_cellAt_4_15.2.1 14 0 ∧ zq_at zy_cellAt_4_15.2.1 15 60 ∧ zq_at zy_cellAt_4_15.2.1 16 104 ∧ zq_at zy_cellAt_4_15.2.1 17 96 ∧ zq_at zy_cellAt_4_15.2.1 18 29 ∧ zq_at zy_cellAt_4_15.2.1 19 96 ∧ zq_at zy_cellAt_4_15.2.1 20 172 := by decide +kernel
theorem zd_4_15_0 : zz_D zy_cellAt_4_15 0 (.aload_n 0) 1 1 := ⟨zq_42 zg_4_15_0.1, rfl⟩
theorem zd_4_15_1 : zz_D zy_cellAt_4_15 1 (.getfield 48) 3 4 := ⟨zq_180 zg_4_15_0.2.1 zg_4_15_0.2.2.1 zg_4_15_0.2.2.2.1 rfl, rfl⟩
theorem zd_4_15_4 : zz_D zy_cellAt_4_15 4 (.iload_n 1) 1 5 := ⟨zq_27 zg_4_15_0.2.2.2.2.1, rfl⟩
theorem zd_4_15_5 : zz_D zy_cellAt_4_15 5 (.aload_n 0) 1 6 := ⟨zq_42 zg_4_15_0.2.2.2.2.2.1, rfl⟩
theorem zd_4_15_6 : zz_D zy_cellAt_4_15 6 (.getfield 57) 3 9 := ⟨zq_180 zg_4_15_0.2.2.2.2.2.2.1 zg_4_15_0.2.2.2.2.2.2.2.1 zg_4_15_0.2.2.2.2.2.2.2.2.1 rfl, rfl⟩
theorem zd_4_15_9 : zz_D zy_cellAt_4_15 9 (.imul) 1 10 := ⟨zq_104 zg_4_15_0.2.2.2.2.2.2.2.2.2.1, rfl⟩
theorem zd_4_15_10 : zz_D zy_cellAt_4_15 10 (.iload_n 2) 1 11 := ⟨zq_28 zg_4_15_0.2.2.2.2.2.2.2.2.2.2.1, rfl⟩
theorem zd_4_15_11 : zz_D zy_cellAt_4_15 11 (.iadd) 1 12 := ⟨zq_96 zg_4_15_0.2.2.2.2.2.2.2.2.2.2.2.1, rfl⟩
theorem zd_4_15_12 : zz_D zy_cellAt_4_15 12 (.aload_n 0) 1 13 := ⟨zq_42 zg_4_15_0.2.2.2.2.2.2.2.2.2.2.2.2.1, rfl⟩
theorem zd_4_15_13 : zz_D zy_cellAt_4_15 13 (.getfield 60) 3 16 := ⟨zq_180 zg_4_15_0.2.2.2.2.2.2.2.2.2.2.2.2.2.1 zg_4_15_0.2.2.2.2.2.2.2.2.2.2.2.2.2.2.1 zg_4_15_0.2.2.2.2.2.2.2.2.2.2.2.2.2.2.2.1 rfl, rfl⟩
theorem zd_4_15_16 : zz_D zy_cellAt_4_15 16 (.imul) 1 17 := ⟨zq_104 zg_4_15_0.2.2.2.2.2.2.2.2.2.2.2.2.2.2.2.2.1, rfl⟩
theorem zd_4_15_17 : zz_D zy_cellAt_4_15 17 (.iadd) 1 18 := ⟨zq_96 zg_4_15_0.2.2.2.2.2.2.2.2.2.2.2.2.2.2.2.2.2.1, rfl⟩
theorem zd_4_15_18 : zz_D zy_cellAt_4_15 18 (.iload_n 3) 1 19 := ⟨zq_29 zg_4_15_0.2.2.2.2.2.2.2.2.2.2.2.2.2.2.2.2.2.2.1, rfl⟩
theorem zd_4_15_19 : zz_D zy_cellAt_4_15 19 (.iadd) 1 20 := ⟨zq_96 zg_4_15_0.2.2.2.2.2.2.2.2.2.2.2.2.2.2.2.2.2.2.2.1, rfl⟩
theorem zd_4_15_20 : zz_D zy_cellAt_4_15 20 (.ireturn) 1 21 := ⟨zq_172 zg_4_15_0.2.2.2.2.2.2.2.2.2.2.2.2.2.2.2.2.2.2.2.2, rfl⟩
-- TensorForge$Layer cellAt (III)I
abbrev zr_cellAt_4_15 : Room := { frames := 0, cells := 0, slots := 0, locals := 0 }
def zp_cellAt_4_15 (t : Int) (p0 : Int) (p1 : Int) (p2 : Int) (S0 : zz_S) : Int → zz_S → Prop := fun r S => S0 = S ∧ ((-2147483648) ≤ r ∧ r ≤ 2147483647)
theorem zc_cellAt_4_15 {g : mm_G} {l : Launch} (t : Int) (p0 : Int) (p1 : Int) (p2 : Int) (S0 : zz_S) (n : Nat) (hn : zz_end ≤ n) (G_S0 : zz_G S0) (ht : 0 ≤ t ∧ t ≤ 23) (hp0 : (-2147483648) ≤ p0 ∧ p0 ≤ 2147483647) (hp1 : (-2147483648) ≤ p1 ∧ p1 ≤ 2147483647) (hp2 : (-2147483648) ≤ p2 ∧ p2 ≤ 2147483647) : mm_Met g l zy_cellAt_4_15 zr_cellAt_4_15 [.ref (zz_rf 6 t), zi p0, zi p1, zi p2] (zz_M S0 n) n (zz_QI n (zp_cellAt_4_15 t p0 p1 p2 S0)) := by
  refine zz_enter (by decide) (Nat.le_of_ble_eq_true rfl) (zz_less (ls1 := [some (.ref (zz_rf 6 t)), some (zi p0), some (zi p1), some (zi p2)]) ⟨rfl, ⟨rfl, ⟨rfl, ⟨rfl, trivial⟩⟩⟩⟩ ?_)
  have b_t := zz_rf6 (z := t) (by omega)
  refine zz_aload_n (x := zz_rf 6 t) rfl zd_4_15_0 ?_
  have g1 := zz_G.r G_S0 (zz_rf 6 t) 13 (-2147483648) 2147483647 (zR_k6_13 (by omega)) (zB_k6 (by omega))
  refine zz_geti (z := S0 (zz_rf 6 t) 13) zd_4_15_1 zf_Layer_48 (zT_k6 (by omega)) rfl (zN_k6 hn (by omega)) rfl ?_
  refine zz_iload_n (x := p0) rfl zd_4_15_4 ?_
  refine zz_aload_n (x := zz_rf 6 t) rfl zd_4_15_5 ?_
  have g2 := zz_G.r G_S0 (zz_rf 6 t) 11 (-2147483648) 2147483647 (zR_k6_11 (by omega)) (zB_k6 (by omega))
  refine zz_geti (z := S0 (zz_rf 6 t) 11) zd_4_15_6 zf_Layer_57 (zT_k6 (by omega)) rfl (zN_k6 hn (by omega)) rfl ?_
  refine zz_imul zd_4_15_9 ?_
  refine zz_nrm (fun v3 hv3 ev3 => ?_)
  refine zz_iload_n (x := p1) rfl zd_4_15_10 ?_
  refine zz_iadd zd_4_15_11 ?_
  refine zz_nrm (fun v4 hv4 ev4 => ?_)
  refine zz_aload_n (x := zz_rf 6 t) rfl zd_4_15_12 ?_
  have g5 := zz_G.r G_S0 (zz_rf 6 t) 12 (-2147483648) 2147483647 (zR_k6_12 (by omega)) (zB_k6 (by omega))
  refine zz_geti (z := S0 (zz_rf 6 t) 12) zd_4_15_13 zf_Layer_60 (zT_k6 (by omega)) rfl (zN_k6 hn (by omega)) rfl ?_
  refine zz_imul zd_4_15_16 ?_
  refine zz_nrm (fun v6 hv6 ev6 => ?_)
  refine zz_iadd zd_4_15_17 ?_
  refine zz_nrm (fun v7 hv7 ev7 => ?_)
  refine zz_iload_n (x := p2) rfl zd_4_15_18 ?_
  refine zz_iadd zd_4_15_19 ?_
  refine zz_nrm (fun v8 hv8 ev8 => ?_)
  exact zz_iret zd_4_15_20 rfl (Nat.zero_le _) (Nat.zero_le _) ⟨_, _, rfl, rfl, by omega⟩
theorem zk_Compiler_147 : mm_Vl "TensorForge$Compiler" 147 2 3 zy_cellAt_4_15 := ⟨zyw_cellAt_4_15, (R_Layer, F_Layer, 15), rfl, mm_tb_1 1458 (by decide +kernel) rfl, mm_tb_1 867 (by decide +kernel) rfl, mm_tb_1 868 (by decide +kernel) rfl⟩
theorem zf_Compiler_109 : mm_Fl "TensorForge$Compiler" 109 9 14 .int false := ⟨R_Compiler, F_Compiler, 17, t_Compiler, rfl, i_Compiler, by decide, mm_tb_1 389 (by decide +kernel) rfl, rfl, t_Compiler_ok, n_Compiler, rfl, by decide +kernel⟩
theorem zf_Compiler_112 : mm_Fl "TensorForge$Compiler" 112 9 15 .int false := ⟨R_Compiler, F_Compiler, 17, t_Compiler, rfl, i_Compiler, by decide, mm_tb_1 390 (by decide +kernel) rfl, rfl, t_Compiler_ok, n_Compiler, rfl, by decide +kernel⟩
theorem zf_Compiler_115 : mm_Fl "TensorForge$Compiler" 115 9 16 .int false := ⟨R_Compiler, F_Compiler, 17, t_Compiler, rfl, i_Compiler, by decide, mm_tb_1 391 (by decide +kernel) rfl, rfl, t_Compiler_ok, n_Compiler, rfl, by decide +kernel⟩
abbrev zy_makeGroup_3_5 : mm_Y := (⟨"TensorForge$Compiler", "makeGroup", "(ZZ)V"⟩, prog_3_method_5_code, 6, none)
theorem zyw_makeGroup_3_5 : mm_Yw zy_makeGroup_3_5 2 := ⟨mm_tb_1 1423 (by decide +kernel) rfl, mm_tb_1 10 (by decide +kernel) rfl, ⟨by decide, by decide⟩, by decide +kernel⟩
abbrev zy_loadPlaces_3_10 : mm_Y := (⟨"TensorForge$Compiler", "loadPlaces", "(IIII)V"⟩, prog_3_method_10_code, 5, none)
theorem zyw_loadPlaces_3_10 : mm_Yw zy_loadPlaces_3_10 4 := ⟨mm_tb_1 1462 (by decide +kernel) rfl, mm_tb_1 10 (by decide +kernel) rfl, ⟨by decide, by decide⟩, by decide +kernel⟩
abbrev zy_groupHalf_3_14 : mm_Y := (⟨"TensorForge$Compiler", "groupHalf", "()I"⟩, prog_3_method_14_code, 1, (some .int))
theorem zyw_groupHalf_3_14 : mm_Yw zy_groupHalf_3_14 0 := ⟨mm_tb_1 1444 (by decide +kernel) rfl, mm_tb_1 10 (by decide +kernel) rfl, ⟨by decide, by decide⟩, by decide +kernel⟩
theorem zg_3_4_405 : zq_at zy_makeTile_3_4.2.1 405 184 ∧ zq_at zy_makeTile_3_4.2.1 406 0 ∧ zq_at zy_makeTile_3_4.2.1 407 132 ∧ zq_at zy_makeTile_3_4.2.1 408 129 ∧ zq_at zy_makeTile_3_4.2.1 409 16 ∧ zq_at zy_makeTile_3_4.2.1 410 10 ∧ zq_at zy_makeTile_3_4.2.1 411 42 ∧ zq_at zy_makeTile_3_4.2.1 412 180 ∧ zq_at zy_makeTile_3_4.2.1 413 0 ∧ zq_at zy_makeTile_3_4.2.1 414 51 ∧ zq_at zy_makeTile_3_4.2.1 415 180 ∧ zq_at zy_makeTile_3_4.2.1 416 0 ∧ zq_at zy_makeTile_3_4.2.1 417 79 ∧ zq_at zy_makeTile_3_4.2.1 418 184 ∧ zq_at zy_makeTile_3_4.2.1 419 0 ∧ zq_at zy_makeTile_3_4.2.1 420 132 ∧ zq_at zy_makeTile_3_4.2.1 421 129 ∧ zq_at zy_makeTile_3_4.2.1 422 4 ∧ zq_at zy_makeTile_3_4.2.1 423 184 ∧ zq_at zy_makeTile_3_4.2.1 424 0 ∧ zq_at zy_makeTile_3_4.2.1 425 139 ∧ zq_at zy_makeTile_3_4.2.1 426 129 ∧ zq_at zy_makeTile_3_4.2.1 427 6 := by decide +kernel
theorem zd_3_4_405 : zz_D zy_makeTile_3_4 405 (.invokestatic 132) 3 408 := ⟨zq_184 zg_3_4_405.1 zg_3_4_405.2.1 zg_3_4_405.2.2.1 rfl, rfl⟩
theorem zd_3_4_408 : zz_D zy_makeTile_3_4 408 (.lor) 1 409 := ⟨zq_129 zg_3_4_405.2.2.2.1, rfl⟩
theorem zd_3_4_409 : zz_D zy_makeTile_3_4 409 (.bipush 10) 2 411 := ⟨zq_16 zg_3_4_405.2.2.2.2.1 zg_3_4_405.2.2.2.2.2.1 (by decide), rfl⟩
theorem zd_3_4_411 : zz_D zy_makeTile_3_4 411 (.aload_n 0) 1 412 := ⟨zq_42 zg_3_4_405.2.2.2.2.2.2.1, rfl⟩
theorem zd_3_4_412 : zz_D zy_makeTile_3_4 412 (.getfield 51) 3 415 := ⟨zq_180 zg_3_4_405.2.2.2.2.2.2.2.1 zg_3_4_405.2.2.2.2.2.2.2.2.1 zg_3_4_405.2.2.2.2.2.2.2.2.2.1 rfl, rfl⟩
theorem zd_3_4_415 : zz_D zy_makeTile_3_4 415 (.getfield 79) 3 418 := ⟨zq_180 zg_3_4_405.2.2.2.2.2.2.2.2.2.2.1 zg_3_4_405.2.2.2.2.2.2.2.2.2.2.2.1 zg_3_4_405.2.2.2.2.2.2.2.2.2.2.2.2.1 rfl, rfl⟩
theorem zd_3_4_418 : zz_D zy_makeTile_3_4 418 (.invokestatic 132) 3 421 := ⟨zq_184 zg_3_4_405.2.2.2.2.2.2.2.2.2.2.2.2.2.1 zg_3_4_405.2.2.2.2.2.2.2.2.2.2.2.2.2.2.1 zg_3_4_405.2.2.2.2.2.2.2.2.2.2.2.2.2.2.2.1 rfl, rfl⟩
theorem zd_3_4_421 : zz_D zy_makeTile_3_4 421 (.lor) 1 422 := ⟨zq_129 zg_3_4_405.2.2.2.2.2.2.2.2.2.2.2.2.2.2.2.2.1, rfl⟩
theorem zd_3_4_422 : zz_D zy_makeTile_3_4 422 (.iconst 1) 1 423 := ⟨zq_4 zg_3_4_405.2.2.2.2.2.2.2.2.2.2.2.2.2.2.2.2.2.1, rfl⟩
theorem zd_3_4_423 : zz_D zy_makeTile_3_4 423 (.invokestatic 139) 3 426 := ⟨zq_184 zg_3_4_405.2.2.2.2.2.2.2.2.2.2.2.2.2.2.2.2.2.2.1 zg_3_4_405.2.2.2.2.2.2.2.2.2.2.2.2.2.2.2.2.2.2.2.1 zg_3_4_405.2.2.2.2.2.2.2.2.2.2.2.2.2.2.2.2.2.2.2.2.1 rfl, rfl⟩
theorem zd_3_4_426 : zz_D zy_makeTile_3_4 426 (.lor) 1 427 := ⟨zq_129 zg_3_4_405.2.2.2.2.2.2.2.2.2.2.2.2.2.2.2.2.2.2.2.2.2.1, rfl⟩
theorem zd_3_4_427 : zz_D zy_makeTile_3_4 427 (.iconst 3) 1 428 := ⟨zq_6 zg_3_4_405.2.2.2.2.2.2.2.2.2.2.2.2.2.2.2.2.2.2.2.2.2.2, rfl⟩
theorem zg_3_4_428 : zq_at zy_makeTile_3_4.2.1 428 184 ∧ zq_at zy_makeTile_3_4.2.1 429 0 ∧ zq_at zy_makeTile_3_4.2.1 430 139 ∧ zq_at zy_makeTile_3_4.2.1 431 129 ∧ zq_at zy_makeTile_3_4.2.1 432 182 ∧ zq_at zy_makeTile_3_4.2.1 433 0 ∧ zq_at zy_makeTile_3_4.2.1 434 143 ∧ zq_at zy_makeTile_3_4.2.1 435 42 ∧ zq_at zy_makeTile_3_4.2.1 436 89 ∧ zq_at zy_makeTile_3_4.2.1 437 180 ∧ zq_at zy_makeTile_3_4.2.1 438 0 ∧ zq_at zy_makeTile_3_4.2.1 439 70 ∧ zq_at zy_makeTile_3_4.2.1 440 4 ∧ zq_at zy_makeTile_3_4.2.1 441 96 ∧ zq_at zy_makeTile_3_4.2.1 442 181 ∧ zq_at zy_makeTile_3_4.2.1 443 0 ∧ zq_at zy_makeTile_3_4.2.1 444 70 ∧ zq_at zy_makeTile_3_4.2.1 445 177 ∧ zq_at zy_makeTile_3_4.2.1 348 22 ∧ zq_at zy_makeTile_3_4.2.1 349 8 ∧ zq_at zy_makeTile_3_4.2.1 350 5 ∧ zq_at zy_makeTile_3_4.2.1 351 184 ∧ zq_at zy_makeTile_3_4.2.1 352 0 ∧ zq_at zy_makeTile_3_4.2.1 353 139 := by decide +kernel
theorem zd_3_4_428 : zz_D zy_makeTile_3_4 428 (.invokestatic 139) 3 431 := ⟨zq_184 zg_3_4_428.1 zg_3_4_428.2.1 zg_3_4_428.2.2.1 rfl, rfl⟩
theorem zd_3_4_431 : zz_D zy_makeTile_3_4 431 (.lor) 1 432 := ⟨zq_129 zg_3_4_428.2.2.2.1, rfl⟩
theorem zd_3_4_432 : zz_D zy_makeTile_3_4 432 (.invokevirtual 143) 3 435 := ⟨zq_182 zg_3_4_428.2.2.2.2.1 zg_3_4_428.2.2.2.2.2.1 zg_3_4_428.2.2.2.2.2.2.1 rfl, rfl⟩
theorem zd_3_4_435 : zz_D zy_makeTile_3_4 435 (.aload_n 0) 1 436 := ⟨zq_42 zg_3_4_428.2.2.2.2.2.2.2.1, rfl⟩
theorem zd_3_4_436 : zz_D zy_makeTile_3_4 436 (.dup) 1 437 := ⟨zq_89 zg_3_4_428.2.2.2.2.2.2.2.2.1, rfl⟩
theorem zd_3_4_437 : zz_D zy_makeTile_3_4 437 (.getfield 70) 3 440 := ⟨zq_180 zg_3_4_428.2.2.2.2.2.2.2.2.2.1 zg_3_4_428.2.2.2.2.2.2.2.2.2.2.1 zg_3_4_428.2.2.2.2.2.2.2.2.2.2.2.1 rfl, rfl⟩
theorem zd_3_4_440 : zz_D zy_makeTile_3_4 440 (.iconst 1) 1 441 := ⟨zq_4 zg_3_4_428.2.2.2.2.2.2.2.2.2.2.2.2.1, rfl⟩
theorem zd_3_4_441 : zz_D zy_makeTile_3_4 441 (.iadd) 1 442 := ⟨zq_96 zg_3_4_428.2.2.2.2.2.2.2.2.2.2.2.2.2.1, rfl⟩
theorem zd_3_4_442 : zz_D zy_makeTile_3_4 442 (.putfield 70) 3 445 := ⟨zq_181 zg_3_4_428.2.2.2.2.2.2.2.2.2.2.2.2.2.2.1 zg_3_4_428.2.2.2.2.2.2.2.2.2.2.2.2.2.2.2.1 zg_3_4_428.2.2.2.2.2.2.2.2.2.2.2.2.2.2.2.2.1 rfl, rfl⟩
theorem zd_3_4_445 : zz_D zy_makeTile_3_4 445 (.return_) 1 446 := ⟨zq_177 zg_3_4_428.2.2.2.2.2.2.2.2.2.2.2.2.2.2.2.2.2.1, rfl⟩
theorem zd_3_4_348 : zz_D zy_makeTile_3_4 348 (.lload 8) 2 350 := ⟨zq_22 zg_3_4_428.2.2.2.2.2.2.2.2.2.2.2.2.2.2.2.2.2.2.1 zg_3_4_428.2.2.2.2.2.2.2.2.2.2.2.2.2.2.2.2.2.2.2.1, rfl⟩
theorem zd_3_4_350 : zz_D zy_makeTile_3_4 350 (.iconst 2) 1 351 := ⟨zq_5 zg_3_4_428.2.2.2.2.2.2.2.2.2.2.2.2.2.2.2.2.2.2.2.2.1, rfl⟩
theorem zd_3_4_351 : zz_D zy_makeTile_3_4 351 (.invokestatic 139) 3 354 := ⟨zq_184 zg_3_4_428.2.2.2.2.2.2.2.2.2.2.2.2.2.2.2.2.2.2.2.2.2.1 zg_3_4_428.2.2.2.2.2.2.2.2.2.2.2.2.2.2.2.2.2.2.2.2.2.2.1 zg_3_4_428.2.2.2.2.2.2.2.2.2.2.2.2.2.2.2.2.2.2.2.2.2.2.2 rfl, rfl⟩
theorem zg_3_4_354 : zq_at zy_makeTile_3_4.2.1 354 129 ∧ zq_at zy_makeTile_3_4.2.1 355 167 ∧ zq_at zy_makeTile_3_4.2.1 356 0 ∧ zq_at zy_makeTile_3_4.2.1 357 5 ∧ zq_at zy_makeTile_3_4.2.1 103 42 ∧ zq_at zy_makeTile_3_4.2.1 104 3 ∧ zq_at zy_makeTile_3_4.2.1 105 181 ∧ zq_at zy_makeTile_3_4.2.1 106 0 ∧ zq_at zy_makeTile_3_4.2.1 107 109 ∧ zq_at zy_makeTile_3_4.2.1 108 42 ∧ zq_at zy_makeTile_3_4.2.1 109 180 ∧ zq_at zy_makeTile_3_4.2.1 110 0 ∧ zq_at zy_makeTile_3_4.2.1 111 109 ∧ zq_at zy_makeTile_3_4.2.1 112 21 ∧ zq_at zy_makeTile_3_4.2.1 113 4 ∧ zq_at zy_makeTile_3_4.2.1 114 162 ∧ zq_at zy_makeTile_3_4.2.1 115 0 ∧ zq_at zy_makeTile_3_4.2.1 116 152 ∧ zq_at zy_makeTile_3_4.2.1 266 42 ∧ zq_at zy_makeTile_3_4.2.1 267 89 ∧ zq_at zy_makeTile_3_4.2.1 268 180 ∧ zq_at zy_makeTile_3_4.2.1 269 0 ∧ zq_at zy_makeTile_3_4.2.1 270 106 ∧ zq_at zy_makeTile_3_4.2.1 271 4 := by decide +kernel
theorem zd_3_4_354 : zz_D zy_makeTile_3_4 354 (.lor) 1 355 := ⟨zq_129 zg_3_4_354.1, rfl⟩
theorem zd_3_4_355 : zz_B zy_makeTile_3_4 355 Instr.goto 360 358 := ⟨5, zq_167 zg_3_4_354.2.1 zg_3_4_354.2.2.1 zg_3_4_354.2.2.2.1 (by decide), rfl, rfl⟩
theorem zd_3_4_103 : zz_D zy_makeTile_3_4 103 (.aload_n 0) 1 104 := ⟨zq_42 zg_3_4_354.2.2.2.2.1, rfl⟩
theorem zd_3_4_104 : zz_D zy_makeTile_3_4 104 (.iconst 0) 1 105 := ⟨zq_3 zg_3_4_354.2.2.2.2.2.1, rfl⟩
theorem zd_3_4_105 : zz_D zy_makeTile_3_4 105 (.putfield 109) 3 108 := ⟨zq_181 zg_3_4_354.2.2.2.2.2.2.1 zg_3_4_354.2.2.2.2.2.2.2.1 zg_3_4_354.2.2.2.2.2.2.2.2.1 rfl, rfl⟩
theorem zd_3_4_108 : zz_D zy_makeTile_3_4 108 (.aload_n 0) 1 109 := ⟨zq_42 zg_3_4_354.2.2.2.2.2.2.2.2.2.1, rfl⟩
theorem zd_3_4_109 : zz_D zy_makeTile_3_4 109 (.getfield 109) 3 112 := ⟨zq_180 zg_3_4_354.2.2.2.2.2.2.2.2.2.2.1 zg_3_4_354.2.2.2.2.2.2.2.2.2.2.2.1 zg_3_4_354.2.2.2.2.2.2.2.2.2.2.2.2.1 rfl, rfl⟩
theorem zd_3_4_112 : zz_D zy_makeTile_3_4 112 (.iload 4) 2 114 := ⟨zq_21 zg_3_4_354.2.2.2.2.2.2.2.2.2.2.2.2.2.1 zg_3_4_354.2.2.2.2.2.2.2.2.2.2.2.2.2.2.1, rfl⟩
theorem zd_3_4_114 : zz_B zy_makeTile_3_4 114 (Instr.if_icmp .ge) 266 117 := ⟨152, zq_162 zg_3_4_354.2.2.2.2.2.2.2.2.2.2.2.2.2.2.2.1 zg_3_4_354.2.2.2.2.2.2.2.2.2.2.2.2.2.2.2.2.1 zg_3_4_354.2.2.2.2.2.2.2.2.2.2.2.2.2.2.2.2.2.1 (by decide), rfl, rfl⟩
theorem zd_3_4_266 : zz_D zy_makeTile_3_4 266 (.aload_n 0) 1 267 := ⟨zq_42 zg_3_4_354.2.2.2.2.2.2.2.2.2.2.2.2.2.2.2.2.2.2.1, rfl⟩
theorem zd_3_4_267 : zz_D zy_makeTile_3_4 267 (.dup) 1 268 := ⟨zq_89 zg_3_4_354.2.2.2.2.2.2.2.2.2.2.2.2.2.2.2.2.2.2.2.1, rfl⟩
theorem zd_3_4_268 : zz_D zy_makeTile_3_4 268 (.getfield 106) 3 271 := ⟨zq_180 zg_3_4_354.2.2.2.2.2.2.2.2.2.2.2.2.2.2.2.2.2.2.2.2.1 zg_3_4_354.2.2.2.2.2.2.2.2.2.2.2.2.2.2.2.2.2.2.2.2.2.1 zg_3_4_354.2.2.2.2.2.2.2.2.2.2.2.2.2.2.2.2.2.2.2.2.2.2.1 rfl, rfl⟩
theorem zd_3_4_271 : zz_D zy_makeTile_3_4 271 (.iconst 1) 1 272 := ⟨zq_4 zg_3_4_354.2.2.2.2.2.2.2.2.2.2.2.2.2.2.2.2.2.2.2.2.2.2.2, rfl⟩
theorem zg_3_4_272 : zq_at zy_makeTile_3_4.2.1 272 96 ∧ zq_at zy_makeTile_3_4.2.1 273 181 ∧ zq_at zy_makeTile_3_4.2.1 274 0 ∧ zq_at zy_makeTile_3_4.2.1 275 106 ∧ zq_at zy_makeTile_3_4.2.1 276 167 ∧ zq_at zy_makeTile_3_4.2.1 277 255 ∧ zq_at zy_makeTile_3_4.2.1 278 75 ∧ zq_at zy_makeTile_3_4.2.1 117 42 ∧ zq_at zy_makeTile_3_4.2.1 118 3 ∧ zq_at zy_makeTile_3_4.2.1 119 181 ∧ zq_at zy_makeTile_3_4.2.1 120 0 ∧ zq_at zy_makeTile_3_4.2.1 121 112 ∧ zq_at zy_makeTile_3_4.2.1 122 42 ∧ zq_at zy_makeTile_3_4.2.1 123 180 ∧ zq_at zy_makeTile_3_4.2.1 124 0 ∧ zq_at zy_makeTile_3_4.2.1 125 112 ∧ zq_at zy_makeTile_3_4.2.1 126 21 ∧ zq_at zy_makeTile_3_4.2.1 127 5 ∧ zq_at zy_makeTile_3_4.2.1 128 162 ∧ zq_at zy_makeTile_3_4.2.1 129 0 ∧ zq_at zy_makeTile_3_4.2.1 130 125 ∧ zq_at zy_makeTile_3_4.2.1 253 42 ∧ zq_at zy_makeTile_3_4.2.1 254 89 := by decide +kernel
theorem zd_3_4_272 : zz_D zy_makeTile_3_4 272 (.iadd) 1 273 := ⟨zq_96 zg_3_4_272.1, rfl⟩
theorem zd_3_4_273 : zz_D zy_makeTile_3_4 273 (.putfield 106) 3 276 := ⟨zq_181 zg_3_4_272.2.1 zg_3_4_272.2.2.1 zg_3_4_272.2.2.2.1 rfl, rfl⟩
theorem zd_3_4_276 : zz_B zy_makeTile_3_4 276 Instr.goto 95 279 := ⟨(-181), zq_167 zg_3_4_272.2.2.2.2.1 zg_3_4_272.2.2.2.2.2.1 zg_3_4_272.2.2.2.2.2.2.1 (by decide), rfl, rfl⟩
theorem zd_3_4_117 : zz_D zy_makeTile_3_4 117 (.aload_n 0) 1 118 := ⟨zq_42 zg_3_4_272.2.2.2.2.2.2.2.1, rfl⟩
theorem zd_3_4_118 : zz_D zy_makeTile_3_4 118 (.iconst 0) 1 119 := ⟨zq_3 zg_3_4_272.2.2.2.2.2.2.2.2.1, rfl⟩
theorem zd_3_4_119 : zz_D zy_makeTile_3_4 119 (.putfield 112) 3 122 := ⟨zq_181 zg_3_4_272.2.2.2.2.2.2.2.2.2.1 zg_3_4_272.2.2.2.2.2.2.2.2.2.2.1 zg_3_4_272.2.2.2.2.2.2.2.2.2.2.2.1 rfl, rfl⟩
theorem zd_3_4_122 : zz_D zy_makeTile_3_4 122 (.aload_n 0) 1 123 := ⟨zq_42 zg_3_4_272.2.2.2.2.2.2.2.2.2.2.2.2.1, rfl⟩
theorem zd_3_4_123 : zz_D zy_makeTile_3_4 123 (.getfield 112) 3 126 := ⟨zq_180 zg_3_4_272.2.2.2.2.2.2.2.2.2.2.2.2.2.1 zg_3_4_272.2.2.2.2.2.2.2.2.2.2.2.2.2.2.1 zg_3_4_272.2.2.2.2.2.2.2.2.2.2.2.2.2.2.2.1 rfl, rfl⟩
theorem zd_3_4_126 : zz_D zy_makeTile_3_4 126 (.iload 5) 2 128 := ⟨zq_21 zg_3_4_272.2.2.2.2.2.2.2.2.2.2.2.2.2.2.2.2.1 zg_3_4_272.2.2.2.2.2.2.2.2.2.2.2.2.2.2.2.2.2.1, rfl⟩
theorem zd_3_4_128 : zz_B zy_makeTile_3_4 128 (Instr.if_icmp .ge) 253 131 := ⟨125, zq_162 zg_3_4_272.2.2.2.2.2.2.2.2.2.2.2.2.2.2.2.2.2.2.1 zg_3_4_272.2.2.2.2.2.2.2.2.2.2.2.2.2.2.2.2.2.2.2.1 zg_3_4_272.2.2.2.2.2.2.2.2.2.2.2.2.2.2.2.2.2.2.2.2.1 (by decide), rfl, rfl⟩
theorem zd_3_4_253 : zz_D zy_makeTile_3_4 253 (.aload_n 0) 1 254 := ⟨zq_42 zg_3_4_272.2.2.2.2.2.2.2.2.2.2.2.2.2.2.2.2.2.2.2.2.2.1, rfl⟩
theorem zd_3_4_254 : zz_D zy_makeTile_3_4 254 (.dup) 1 255 := ⟨zq_89 zg_3_4_272.2.2.2.2.2.2.2.2.2.2.2.2.2.2.2.2.2.2.2.2.2.2, rfl⟩
theorem zg_3_4_255 : zq_at zy_makeTile_3_4.2.1 255 180 ∧ zq_at zy_makeTile_3_4.2.1 256 0 ∧ zq_at zy_makeTile_3_4.2.1 257 109 ∧ zq_at zy_makeTile_3_4.2.1 258 4 ∧ zq_at zy_makeTile_3_4.2.1 259 96 ∧ zq_at zy_makeTile_3_4.2.1 260 181 ∧ zq_at zy_makeTile_3_4.2.1 261 0 ∧ zq_at zy_makeTile_3_4.2.1 262 109 ∧ zq_at zy_makeTile_3_4.2.1 263 167 ∧ zq_at zy_makeTile_3_4.2.1 264 255 ∧ zq_at zy_makeTile_3_4.2.1 265 101 ∧ zq_at zy_makeTile_3_4.2.1 131 42 ∧ zq_at zy_makeTile_3_4.2.1 132 27 ∧ zq_at zy_makeTile_3_4.2.1 133 153 ∧ zq_at zy_makeTile_3_4.2.1 134 0 ∧ zq_at zy_makeTile_3_4.2.1 135 25 ∧ zq_at zy_makeTile_3_4.2.1 158 42 ∧ zq_at zy_makeTile_3_4.2.1 159 180 ∧ zq_at zy_makeTile_3_4.2.1 160 0 ∧ zq_at zy_makeTile_3_4.2.1 161 82 ∧ zq_at zy_makeTile_3_4.2.1 162 181 ∧ zq_at zy_makeTile_3_4.2.1 163 0 ∧ zq_at zy_makeTile_3_4.2.1 164 115 ∧ zq_at zy_makeTile_3_4.2.1 165 42 := by decide +kernel
theorem zd_3_4_255 : zz_D zy_makeTile_3_4 255 (.getfield 109) 3 258 := ⟨zq_180 zg_3_4_255.1 zg_3_4_255.2.1 zg_3_4_255.2.2.1 rfl, rfl⟩
theorem zd_3_4_258 : zz_D zy_makeTile_3_4 258 (.iconst 1) 1 259 := ⟨zq_4 zg_3_4_255.2.2.2.1, rfl⟩
theorem zd_3_4_259 : zz_D zy_makeTile_3_4 259 (.iadd) 1 260 := ⟨zq_96 zg_3_4_255.2.2.2.2.1, rfl⟩
theorem zd_3_4_260 : zz_D zy_makeTile_3_4 260 (.putfield 109) 3 263 := ⟨zq_181 zg_3_4_255.2.2.2.2.2.1 zg_3_4_255.2.2.2.2.2.2.1 zg_3_4_255.2.2.2.2.2.2.2.1 rfl, rfl⟩
theorem zd_3_4_263 : zz_B zy_makeTile_3_4 263 Instr.goto 108 266 := ⟨(-155), zq_167 zg_3_4_255.2.2.2.2.2.2.2.2.1 zg_3_4_255.2.2.2.2.2.2.2.2.2.1 zg_3_4_255.2.2.2.2.2.2.2.2.2.2.1 (by decide), rfl, rfl⟩
theorem zd_3_4_131 : zz_D zy_makeTile_3_4 131 (.aload_n 0) 1 132 := ⟨zq_42 zg_3_4_255.2.2.2.2.2.2.2.2.2.2.2.1, rfl⟩
theorem zd_3_4_132 : zz_D zy_makeTile_3_4 132 (.iload_n 1) 1 133 := ⟨zq_27 zg_3_4_255.2.2.2.2.2.2.2.2.2.2.2.2.1, rfl⟩
theorem zd_3_4_133 : zz_B zy_makeTile_3_4 133 (Instr.ifCond .eq) 158 136 := ⟨25, zq_153 zg_3_4_255.2.2.2.2.2.2.2.2.2.2.2.2.2.1 zg_3_4_255.2.2.2.2.2.2.2.2.2.2.2.2.2.2.1 zg_3_4_255.2.2.2.2.2.2.2.2.2.2.2.2.2.2.2.1 (by decide), rfl, rfl⟩
theorem zd_3_4_158 : zz_D zy_makeTile_3_4 158 (.aload_n 0) 1 159 := ⟨zq_42 zg_3_4_255.2.2.2.2.2.2.2.2.2.2.2.2.2.2.2.2.1, rfl⟩
theorem zd_3_4_159 : zz_D zy_makeTile_3_4 159 (.getfield 82) 3 162 := ⟨zq_180 zg_3_4_255.2.2.2.2.2.2.2.2.2.2.2.2.2.2.2.2.2.1 zg_3_4_255.2.2.2.2.2.2.2.2.2.2.2.2.2.2.2.2.2.2.1 zg_3_4_255.2.2.2.2.2.2.2.2.2.2.2.2.2.2.2.2.2.2.2.1 rfl, rfl⟩
theorem zd_3_4_162 : zz_D zy_makeTile_3_4 162 (.putfield 115) 3 165 := ⟨zq_181 zg_3_4_255.2.2.2.2.2.2.2.2.2.2.2.2.2.2.2.2.2.2.2.2.1 zg_3_4_255.2.2.2.2.2.2.2.2.2.2.2.2.2.2.2.2.2.2.2.2.2.1 zg_3_4_255.2.2.2.2.2.2.2.2.2.2.2.2.2.2.2.2.2.2.2.2.2.2.1 rfl, rfl⟩
theorem zd_3_4_165 : zz_D zy_makeTile_3_4 165 (.aload_n 0) 1 166 := ⟨zq_42 zg_3_4_255.2.2.2.2.2.2.2.2.2.2.2.2.2.2.2.2.2.2.2.2.2.2.2, rfl⟩
theorem zg_3_4_166 : zq_at zy_makeTile_3_4.2.1 166 180 ∧ zq_at zy_makeTile_3_4.2.1 167 0 ∧ zq_at zy_makeTile_3_4.2.1 168 106 ∧ zq_at zy_makeTile_3_4.2.1 169 29 ∧ zq_at zy_makeTile_3_4.2.1 170 4 ∧ zq_at zy_makeTile_3_4.2.1 171 100 ∧ zq_at zy_makeTile_3_4.2.1 172 160 ∧ zq_at zy_makeTile_3_4.2.1 173 0 ∧ zq_at zy_makeTile_3_4.2.1 174 32 ∧ zq_at zy_makeTile_3_4.2.1 204 3 ∧ zq_at zy_makeTile_3_4.2.1 205 54 ∧ zq_at zy_makeTile_3_4.2.1 206 7 ∧ zq_at zy_makeTile_3_4.2.1 207 42 ∧ zq_at zy_makeTile_3_4.2.1 208 42 ∧ zq_at zy_makeTile_3_4.2.1 209 180 ∧ zq_at zy_makeTile_3_4.2.1 210 0 ∧ zq_at zy_makeTile_3_4.2.1 211 73 ∧ zq_at zy_makeTile_3_4.2.1 212 21 ∧ zq_at zy_makeTile_3_4.2.1 213 6 ∧ zq_at zy_makeTile_3_4.2.1 214 160 ∧ zq_at zy_makeTile_3_4.2.1 215 0 ∧ zq_at zy_makeTile_3_4.2.1 216 7 ∧ zq_at zy_makeTile_3_4.2.1 221 3 := by decide +kernel
theorem zd_3_4_166 : zz_D zy_makeTile_3_4 166 (.getfield 106) 3 169 := ⟨zq_180 zg_3_4_166.1 zg_3_4_166.2.1 zg_3_4_166.2.2.1 rfl, rfl⟩
theorem zd_3_4_169 : zz_D zy_makeTile_3_4 169 (.iload_n 3) 1 170 := ⟨zq_29 zg_3_4_166.2.2.2.1, rfl⟩
theorem zd_3_4_170 : zz_D zy_makeTile_3_4 170 (.iconst 1) 1 171 := ⟨zq_4 zg_3_4_166.2.2.2.2.1, rfl⟩
theorem zd_3_4_171 : zz_D zy_makeTile_3_4 171 (.isub) 1 172 := ⟨zq_100 zg_3_4_166.2.2.2.2.2.1, rfl⟩
theorem zd_3_4_172 : zz_B zy_makeTile_3_4 172 (Instr.if_icmp .ne) 204 175 := ⟨32, zq_160 zg_3_4_166.2.2.2.2.2.2.1 zg_3_4_166.2.2.2.2.2.2.2.1 zg_3_4_166.2.2.2.2.2.2.2.2.1 (by decide), rfl, rfl⟩
theorem zd_3_4_204 : zz_D zy_makeTile_3_4 204 (.iconst 0) 1 205 := ⟨zq_3 zg_3_4_166.2.2.2.2.2.2.2.2.2.1, rfl⟩
theorem zd_3_4_205 : zz_D zy_makeTile_3_4 205 (.istore 7) 2 207 := ⟨zq_54 zg_3_4_166.2.2.2.2.2.2.2.2.2.2.1 zg_3_4_166.2.2.2.2.2.2.2.2.2.2.2.1, rfl⟩
theorem zd_3_4_207 : zz_D zy_makeTile_3_4 207 (.aload_n 0) 1 208 := ⟨zq_42 zg_3_4_166.2.2.2.2.2.2.2.2.2.2.2.2.1, rfl⟩
theorem zd_3_4_208 : zz_D zy_makeTile_3_4 208 (.aload_n 0) 1 209 := ⟨zq_42 zg_3_4_166.2.2.2.2.2.2.2.2.2.2.2.2.2.1, rfl⟩
theorem zd_3_4_209 : zz_D zy_makeTile_3_4 209 (.getfield 73) 3 212 := ⟨zq_180 zg_3_4_166.2.2.2.2.2.2.2.2.2.2.2.2.2.2.1 zg_3_4_166.2.2.2.2.2.2.2.2.2.2.2.2.2.2.2.1 zg_3_4_166.2.2.2.2.2.2.2.2.2.2.2.2.2.2.2.2.1 rfl, rfl⟩
theorem zd_3_4_212 : zz_D zy_makeTile_3_4 212 (.iload 6) 2 214 := ⟨zq_21 zg_3_4_166.2.2.2.2.2.2.2.2.2.2.2.2.2.2.2.2.2.1 zg_3_4_166.2.2.2.2.2.2.2.2.2.2.2.2.2.2.2.2.2.2.1, rfl⟩
theorem zd_3_4_214 : zz_B zy_makeTile_3_4 214 (Instr.if_icmp .ne) 221 217 := ⟨7, zq_160 zg_3_4_166.2.2.2.2.2.2.2.2.2.2.2.2.2.2.2.2.2.2.2.1 zg_3_4_166.2.2.2.2.2.2.2.2.2.2.2.2.2.2.2.2.2.2.2.2.1 zg_3_4_166.2.2.2.2.2.2.2.2.2.2.2.2.2.2.2.2.2.2.2.2.2.1 (by decide), rfl, rfl⟩
theorem zd_3_4_221 : zz_D zy_makeTile_3_4 221 (.iconst 0) 1 222 := ⟨zq_3 zg_3_4_166.2.2.2.2.2.2.2.2.2.2.2.2.2.2.2.2.2.2.2.2.2.2, rfl⟩
theorem zg_3_4_222 : zq_at zy_makeTile_3_4.2.1 222 21 ∧ zq_at zy_makeTile_3_4.2.1 223 7 ∧ zq_at zy_makeTile_3_4.2.1 224 182 ∧ zq_at zy_makeTile_3_4.2.1 225 0 ∧ zq_at zy_makeTile_3_4.2.1 226 118 := by decide +kernel
theorem zd_3_4_222 : zz_D zy_makeTile_3_4 222 (.iload 7) 2 224 := ⟨zq_21 zg_3_4_222.1 zg_3_4_222.2.1, rfl⟩
theorem zd_3_4_224 : zz_D zy_makeTile_3_4 224 (.invokevirtual 118) 3 227 := ⟨zq_182 zg_3_4_222.2.2.1 zg_3_4_222.2.2.2.1 zg_3_4_222.2.2.2.2 rfl, rfl⟩
theorem zg_3_5_0 : zq_at zy_makeGroup_3_5.2.1 0 42 ∧ zq_at zy_makeGroup_3_5.2.1 1 180 ∧ zq_at zy_makeGroup_3_5.2.1 2 0 ∧ zq_at zy_makeGroup_3_5.2.1 3 15 ∧ zq_at zy_makeGroup_3_5.2.1 4 62 ∧ zq_at zy_makeGroup_3_5.2.1 5 42 ∧ zq_at zy_makeGroup_3_5.2.1 6 180 ∧ zq_at zy_makeGroup_3_5.2.1 7 0 ∧ zq_at zy_makeGroup_3_5.2.1 8 51 ∧ zq_at zy_makeGroup_3_5.2.1 9 180 ∧ zq_at zy_makeGroup_3_5.2.1 10 0 ∧ zq_at zy_makeGroup_3_5.2.1 11 61 ∧ zq_at zy_makeGroup_3_5.2.1 12 4 ∧ zq_at zy_makeGroup_3_5.2.1 13 160 ∧ zq_at zy_makeGroup_3_5.2.1 14 0 ∧ zq_at zy_makeGroup_3_5.2.1 15 19 ∧ zq_at zy_makeGroup_3_5.2.1 32 42 ∧ zq_at zy_makeGroup_3_5.2.1 33 180 ∧ zq_at zy_makeGroup_3_5.2.1 34 0 ∧ zq_at zy_makeGroup_3_5.2.1 35 51 ∧ zq_at zy_makeGroup_3_5.2.1 36 180 ∧ zq_at zy_makeGroup_3_5.2.1 37 0 ∧ zq_at zy_makeGroup_3_5.2.1 38 61 ∧ zq_at zy_makeGroup_3_5.2.1 39 5 := by decide +kernel
theorem zd_3_5_0 : zz_D zy_makeGroup_3_5 0 (.aload_n 0) 1 1 := ⟨zq_42 zg_3_5_0.1, rfl⟩
theorem zd_3_5_1 : zz_D zy_makeGroup_3_5 1 (.getfield 15) 3 4 := ⟨zq_180 zg_3_5_0.2.1 zg_3_5_0.2.2.1 zg_3_5_0.2.2.2.1 rfl, rfl⟩
theorem zd_3_5_4 : zz_D zy_makeGroup_3_5 4 (.istore_n 3) 1 5 := ⟨zq_62 zg_3_5_0.2.2.2.2.1, rfl⟩
theorem zd_3_5_5 : zz_D zy_makeGroup_3_5 5 (.aload_n 0) 1 6 := ⟨zq_42 zg_3_5_0.2.2.2.2.2.1, rfl⟩
theorem zd_3_5_6 : zz_D zy_makeGroup_3_5 6 (.getfield 51) 3 9 := ⟨zq_180 zg_3_5_0.2.2.2.2.2.2.1 zg_3_5_0.2.2.2.2.2.2.2.1 zg_3_5_0.2.2.2.2.2.2.2.2.1 rfl, rfl⟩
theorem zd_3_5_9 : zz_D zy_makeGroup_3_5 9 (.getfield 61) 3 12 := ⟨zq_180 zg_3_5_0.2.2.2.2.2.2.2.2.2.1 zg_3_5_0.2.2.2.2.2.2.2.2.2.2.1 zg_3_5_0.2.2.2.2.2.2.2.2.2.2.2.1 rfl, rfl⟩
theorem zd_3_5_12 : zz_D zy_makeGroup_3_5 12 (.iconst 1) 1 13 := ⟨zq_4 zg_3_5_0.2.2.2.2.2.2.2.2.2.2.2.2.1, rfl⟩
theorem zd_3_5_13 : zz_B zy_makeGroup_3_5 13 (Instr.if_icmp .ne) 32 16 := ⟨19, zq_160 zg_3_5_0.2.2.2.2.2.2.2.2.2.2.2.2.2.1 zg_3_5_0.2.2.2.2.2.2.2.2.2.2.2.2.2.2.1 zg_3_5_0.2.2.2.2.2.2.2.2.2.2.2.2.2.2.2.1 (by decide), rfl, rfl⟩
theorem zd_3_5_32 : zz_D zy_makeGroup_3_5 32 (.aload_n 0) 1 33 := ⟨zq_42 zg_3_5_0.2.2.2.2.2.2.2.2.2.2.2.2.2.2.2.2.1, rfl⟩
theorem zd_3_5_33 : zz_D zy_makeGroup_3_5 33 (.getfield 51) 3 36 := ⟨zq_180 zg_3_5_0.2.2.2.2.2.2.2.2.2.2.2.2.2.2.2.2.2.1 zg_3_5_0.2.2.2.2.2.2.2.2.2.2.2.2.2.2.2.2.2.2.1 zg_3_5_0.2.2.2.2.2.2.2.2.2.2.2.2.2.2.2.2.2.2.2.1 rfl, rfl⟩
theorem zd_3_5_36 : zz_D zy_makeGroup_3_5 36 (.getfield 61) 3 39 := ⟨zq_180 zg_3_5_0.2.2.2.2.2.2.2.2.2.2.2.2.2.2.2.2.2.2.2.2.1 zg_3_5_0.2.2.2.2.2.2.2.2.2.2.2.2.2.2.2.2.2.2.2.2.2.1 zg_3_5_0.2.2.2.2.2.2.2.2.2.2.2.2.2.2.2.2.2.2.2.2.2.2.1 rfl, rfl⟩
theorem zd_3_5_39 : zz_D zy_makeGroup_3_5 39 (.iconst 2) 1 40 := ⟨zq_5 zg_3_5_0.2.2.2.2.2.2.2.2.2.2.2.2.2.2.2.2.2.2.2.2.2.2.2, rfl⟩
theorem zg_3_5_40 : zq_at zy_makeGroup_3_5.2.1 40 160 ∧ zq_at zy_makeGroup_3_5.2.1 41 0 ∧ zq_at zy_makeGroup_3_5.2.1 42 14 ∧ zq_at zy_makeGroup_3_5.2.1 54 42 ∧ zq_at zy_makeGroup_3_5.2.1 55 180 ∧ zq_at zy_makeGroup_3_5.2.1 56 0 ∧ zq_at zy_makeGroup_3_5.2.1 57 109 ∧ zq_at zy_makeGroup_3_5.2.1 58 154 ∧ zq_at zy_makeGroup_3_5.2.1 59 0 ∧ zq_at zy_makeGroup_3_5.2.1 60 10 ∧ zq_at zy_makeGroup_3_5.2.1 68 42 ∧ zq_at zy_makeGroup_3_5.2.1 69 180 ∧ zq_at zy_makeGroup_3_5.2.1 70 0 ∧ zq_at zy_makeGroup_3_5.2.1 71 58 ∧ zq_at zy_makeGroup_3_5.2.1 72 58 ∧ zq_at zy_makeGroup_3_5.2.1 73 4 ∧ zq_at zy_makeGroup_3_5.2.1 74 42 ∧ zq_at zy_makeGroup_3_5.2.1 75 3 ∧ zq_at zy_makeGroup_3_5.2.1 76 42 ∧ zq_at zy_makeGroup_3_5.2.1 77 180 ∧ zq_at zy_makeGroup_3_5.2.1 78 0 ∧ zq_at zy_makeGroup_3_5.2.1 79 91 ∧ zq_at zy_makeGroup_3_5.2.1 80 25 ∧ zq_at zy_makeGroup_3_5.2.1 81 4 := by decide +kernel
theorem zd_3_5_40 : zz_B zy_makeGroup_3_5 40 (Instr.if_icmp .ne) 54 43 := ⟨14, zq_160 zg_3_5_40.1 zg_3_5_40.2.1 zg_3_5_40.2.2.1 (by decide), rfl, rfl⟩
theorem zd_3_5_54 : zz_D zy_makeGroup_3_5 54 (.aload_n 0) 1 55 := ⟨zq_42 zg_3_5_40.2.2.2.1, rfl⟩
theorem zd_3_5_55 : zz_D zy_makeGroup_3_5 55 (.getfield 109) 3 58 := ⟨zq_180 zg_3_5_40.2.2.2.2.1 zg_3_5_40.2.2.2.2.2.1 zg_3_5_40.2.2.2.2.2.2.1 rfl, rfl⟩
theorem zd_3_5_58 : zz_B zy_makeGroup_3_5 58 (Instr.ifCond .ne) 68 61 := ⟨10, zq_154 zg_3_5_40.2.2.2.2.2.2.2.1 zg_3_5_40.2.2.2.2.2.2.2.2.1 zg_3_5_40.2.2.2.2.2.2.2.2.2.1 (by decide), rfl, rfl⟩
theorem zd_3_5_68 : zz_D zy_makeGroup_3_5 68 (.aload_n 0) 1 69 := ⟨zq_42 zg_3_5_40.2.2.2.2.2.2.2.2.2.2.1, rfl⟩
theorem zd_3_5_69 : zz_D zy_makeGroup_3_5 69 (.getfield 58) 3 72 := ⟨zq_180 zg_3_5_40.2.2.2.2.2.2.2.2.2.2.2.1 zg_3_5_40.2.2.2.2.2.2.2.2.2.2.2.2.1 zg_3_5_40.2.2.2.2.2.2.2.2.2.2.2.2.2.1 rfl, rfl⟩
theorem zd_3_5_72 : zz_D zy_makeGroup_3_5 72 (.astore 4) 2 74 := ⟨zq_58 zg_3_5_40.2.2.2.2.2.2.2.2.2.2.2.2.2.2.1 zg_3_5_40.2.2.2.2.2.2.2.2.2.2.2.2.2.2.2.1, rfl⟩
theorem zd_3_5_74 : zz_D zy_makeGroup_3_5 74 (.aload_n 0) 1 75 := ⟨zq_42 zg_3_5_40.2.2.2.2.2.2.2.2.2.2.2.2.2.2.2.2.1, rfl⟩
theorem zd_3_5_75 : zz_D zy_makeGroup_3_5 75 (.iconst 0) 1 76 := ⟨zq_3 zg_3_5_40.2.2.2.2.2.2.2.2.2.2.2.2.2.2.2.2.2.1, rfl⟩
theorem zd_3_5_76 : zz_D zy_makeGroup_3_5 76 (.aload_n 0) 1 77 := ⟨zq_42 zg_3_5_40.2.2.2.2.2.2.2.2.2.2.2.2.2.2.2.2.2.2.1, rfl⟩
theorem zd_3_5_77 : zz_D zy_makeGroup_3_5 77 (.getfield 91) 3 80 := ⟨zq_180 zg_3_5_40.2.2.2.2.2.2.2.2.2.2.2.2.2.2.2.2.2.2.2.1 zg_3_5_40.2.2.2.2.2.2.2.2.2.2.2.2.2.2.2.2.2.2.2.2.1 zg_3_5_40.2.2.2.2.2.2.2.2.2.2.2.2.2.2.2.2.2.2.2.2.2.1 rfl, rfl⟩
theorem zd_3_5_80 : zz_D zy_makeGroup_3_5 80 (.aload 4) 2 82 := ⟨zq_25 zg_3_5_40.2.2.2.2.2.2.2.2.2.2.2.2.2.2.2.2.2.2.2.2.2.2.1 zg_3_5_40.2.2.2.2.2.2.2.2.2.2.2.2.2.2.2.2.2.2.2.2.2.2.2, rfl⟩
theorem zg_3_5_82 : zq_at zy_makeGroup_3_5.2.1 82 3 ∧ zq_at zy_makeGroup_3_5.2.1 83 42 ∧ zq_at zy_makeGroup_3_5.2.1 84 180 ∧ zq_at zy_makeGroup_3_5.2.1 85 0 ∧ zq_at zy_makeGroup_3_5.2.1 86 88 ∧ zq_at zy_makeGroup_3_5.2.1 87 42 ∧ zq_at zy_makeGroup_3_5.2.1 88 180 ∧ zq_at zy_makeGroup_3_5.2.1 89 0 ∧ zq_at zy_makeGroup_3_5.2.1 90 76 ∧ zq_at zy_makeGroup_3_5.2.1 91 182 ∧ zq_at zy_makeGroup_3_5.2.1 92 0 ∧ zq_at zy_makeGroup_3_5.2.1 93 147 ∧ zq_at zy_makeGroup_3_5.2.1 94 25 ∧ zq_at zy_makeGroup_3_5.2.1 95 4 ∧ zq_at zy_makeGroup_3_5.2.1 96 180 ∧ zq_at zy_makeGroup_3_5.2.1 97 0 ∧ zq_at zy_makeGroup_3_5.2.1 98 79 ∧ zq_at zy_makeGroup_3_5.2.1 99 182 ∧ zq_at zy_makeGroup_3_5.2.1 100 0 ∧ zq_at zy_makeGroup_3_5.2.1 101 159 := by decide +kernel
theorem zd_3_5_82 : zz_D zy_makeGroup_3_5 82 (.iconst 0) 1 83 := ⟨zq_3 zg_3_5_82.1, rfl⟩
theorem zd_3_5_83 : zz_D zy_makeGroup_3_5 83 (.aload_n 0) 1 84 := ⟨zq_42 zg_3_5_82.2.1, rfl⟩
theorem zd_3_5_84 : zz_D zy_makeGroup_3_5 84 (.getfield 88) 3 87 := ⟨zq_180 zg_3_5_82.2.2.1 zg_3_5_82.2.2.2.1 zg_3_5_82.2.2.2.2.1 rfl, rfl⟩
theorem zd_3_5_87 : zz_D zy_makeGroup_3_5 87 (.aload_n 0) 1 88 := ⟨zq_42 zg_3_5_82.2.2.2.2.2.1, rfl⟩
theorem zd_3_5_88 : zz_D zy_makeGroup_3_5 88 (.getfield 76) 3 91 := ⟨zq_180 zg_3_5_82.2.2.2.2.2.2.1 zg_3_5_82.2.2.2.2.2.2.2.1 zg_3_5_82.2.2.2.2.2.2.2.2.1 rfl, rfl⟩
theorem zd_3_5_91 : zz_D zy_makeGroup_3_5 91 (.invokevirtual 147) 3 94 := ⟨zq_182 zg_3_5_82.2.2.2.2.2.2.2.2.2.1 zg_3_5_82.2.2.2.2.2.2.2.2.2.2.1 zg_3_5_82.2.2.2.2.2.2.2.2.2.2.2.1 rfl, rfl⟩
theorem zd_3_5_94 : zz_D zy_makeGroup_3_5 94 (.aload 4) 2 96 := ⟨zq_25 zg_3_5_82.2.2.2.2.2.2.2.2.2.2.2.2.1 zg_3_5_82.2.2.2.2.2.2.2.2.2.2.2.2.2.1, rfl⟩
theorem zd_3_5_96 : zz_D zy_makeGroup_3_5 96 (.getfield 79) 3 99 := ⟨zq_180 zg_3_5_82.2.2.2.2.2.2.2.2.2.2.2.2.2.2.1 zg_3_5_82.2.2.2.2.2.2.2.2.2.2.2.2.2.2.2.1 zg_3_5_82.2.2.2.2.2.2.2.2.2.2.2.2.2.2.2.2.1 rfl, rfl⟩
theorem zd_3_5_99 : zz_D zy_makeGroup_3_5 99 (.invokevirtual 159) 3 102 := ⟨zq_182 zg_3_5_82.2.2.2.2.2.2.2.2.2.2.2.2.2.2.2.2.2.1 zg_3_5_82.2.2.2.2.2.2.2.2.2.2.2.2.2.2.2.2.2.2.1 zg_3_5_82.2.2.2.2.2.2.2.2.2.2.2.2.2.2.2.2.2.2.2 rfl, rfl⟩
theorem zg_3_10_0 : zq_at zy_loadPlaces_3_10.2.1 0 28 ∧ zq_at zy_loadPlaces_3_10.2.1 1 27 ∧ zq_at zy_loadPlaces_3_10.2.1 2 164 ∧ zq_at zy_loadPlaces_3_10.2.1 3 0 ∧ zq_at zy_loadPlaces_3_10.2.1 4 49 ∧ zq_at zy_loadPlaces_3_10.2.1 51 177 ∧ zq_at zy_loadPlaces_3_10.2.1 5 42 ∧ zq_at zy_loadPlaces_3_10.2.1 6 4 ∧ zq_at zy_loadPlaces_3_10.2.1 7 28 ∧ zq_at zy_loadPlaces_3_10.2.1 8 27 ∧ zq_at zy_loadPlaces_3_10.2.1 9 100 ∧ zq_at zy_loadPlaces_3_10.2.1 10 42 ∧ zq_at zy_loadPlaces_3_10.2.1 11 180 ∧ zq_at zy_loadPlaces_3_10.2.1 12 0 ∧ zq_at zy_loadPlaces_3_10.2.1 13 115 ∧ zq_at zy_loadPlaces_3_10.2.1 14 184 ∧ zq_at zy_loadPlaces_3_10.2.1 15 0 ∧ zq_at zy_loadPlaces_3_10.2.1 16 128 ∧ zq_at zy_loadPlaces_3_10.2.1 17 16 ∧ zq_at zy_loadPlaces_3_10.2.1 18 8 ∧ zq_at zy_loadPlaces_3_10.2.1 19 42 ∧ zq_at zy_loadPlaces_3_10.2.1 20 182 ∧ zq_at zy_loadPlaces_3_10.2.1 21 0 ∧ zq_at zy_loadPlaces_3_10.2.1 22 175 := by decide +kernel
theorem zd_3_10_0 : zz_D zy_loadPlaces_3_10 0 (.iload_n 2) 1 1 := ⟨zq_28 zg_3_10_0.1, rfl⟩
theorem zd_3_10_1 : zz_D zy_loadPlaces_3_10 1 (.iload_n 1) 1 2 := ⟨zq_27 zg_3_10_0.2.1, rfl⟩
theorem zd_3_10_2 : zz_B zy_loadPlaces_3_10 2 (Instr.if_icmp .le) 51 5 := ⟨49, zq_164 zg_3_10_0.2.2.1 zg_3_10_0.2.2.2.1 zg_3_10_0.2.2.2.2.1 (by decide), rfl, rfl⟩
theorem zd_3_10_51 : zz_D zy_loadPlaces_3_10 51 (.return_) 1 52 := ⟨zq_177 zg_3_10_0.2.2.2.2.2.1, rfl⟩
theorem zd_3_10_5 : zz_D zy_loadPlaces_3_10 5 (.aload_n 0) 1 6 := ⟨zq_42 zg_3_10_0.2.2.2.2.2.2.1, rfl⟩
theorem zd_3_10_6 : zz_D zy_loadPlaces_3_10 6 (.iconst 1) 1 7 := ⟨zq_4 zg_3_10_0.2.2.2.2.2.2.2.1, rfl⟩
theorem zd_3_10_7 : zz_D zy_loadPlaces_3_10 7 (.iload_n 2) 1 8 := ⟨zq_28 zg_3_10_0.2.2.2.2.2.2.2.2.1, rfl⟩
theorem zd_3_10_8 : zz_D zy_loadPlaces_3_10 8 (.iload_n 1) 1 9 := ⟨zq_27 zg_3_10_0.2.2.2.2.2.2.2.2.2.1, rfl⟩
theorem zd_3_10_9 : zz_D zy_loadPlaces_3_10 9 (.isub) 1 10 := ⟨zq_100 zg_3_10_0.2.2.2.2.2.2.2.2.2.2.1, rfl⟩
theorem zd_3_10_10 : zz_D zy_loadPlaces_3_10 10 (.aload_n 0) 1 11 := ⟨zq_42 zg_3_10_0.2.2.2.2.2.2.2.2.2.2.2.1, rfl⟩
theorem zd_3_10_11 : zz_D zy_loadPlaces_3_10 11 (.getfield 115) 3 14 := ⟨zq_180 zg_3_10_0.2.2.2.2.2.2.2.2.2.2.2.2.1 zg_3_10_0.2.2.2.2.2.2.2.2.2.2.2.2.2.1 zg_3_10_0.2.2.2.2.2.2.2.2.2.2.2.2.2.2.1 rfl, rfl⟩
theorem zd_3_10_14 : zz_D zy_loadPlaces_3_10 14 (.invokestatic 128) 3 17 := ⟨zq_184 zg_3_10_0.2.2.2.2.2.2.2.2.2.2.2.2.2.2.2.1 zg_3_10_0.2.2.2.2.2.2.2.2.2.2.2.2.2.2.2.2.1 zg_3_10_0.2.2.2.2.2.2.2.2.2.2.2.2.2.2.2.2.2.1 rfl, rfl⟩
theorem zd_3_10_17 : zz_D zy_loadPlaces_3_10 17 (.bipush 8) 2 19 := ⟨zq_16 zg_3_10_0.2.2.2.2.2.2.2.2.2.2.2.2.2.2.2.2.2.2.1 zg_3_10_0.2.2.2.2.2.2.2.2.2.2.2.2.2.2.2.2.2.2.2.1 (by decide), rfl⟩
theorem zd_3_10_19 : zz_D zy_loadPlaces_3_10 19 (.aload_n 0) 1 20 := ⟨zq_42 zg_3_10_0.2.2.2.2.2.2.2.2.2.2.2.2.2.2.2.2.2.2.2.2.1, rfl⟩
theorem zd_3_10_20 : zz_D zy_loadPlaces_3_10 20 (.invokevirtual 175) 3 23 := ⟨zq_182 zg_3_10_0.2.2.2.2.2.2.2.2.2.2.2.2.2.2.2.2.2.2.2.2.2.1 zg_3_10_0.2.2.2.2.2.2.2.2.2.2.2.2.2.2.2.2.2.2.2.2.2.2.1 zg_3_10_0.2.2.2.2.2.2.2.2.2.2.2.2.2.2.2.2.2.2.2.2.2.2.2 rfl, rfl⟩
theorem zg_3_14_0 : zq_at zy_groupHalf_3_14.2.1 0 17 ∧ zq_at zy_groupHalf_3_14.2.1 1 1 ∧ zq_at zy_groupHalf_3_14.2.1 2 0 ∧ zq_at zy_groupHalf_3_14.2.1 3 42 ∧ zq_at zy_groupHalf_3_14.2.1 4 180 ∧ zq_at zy_groupHalf_3_14.2.1 5 0 ∧ zq_at zy_groupHalf_3_14.2.1 6 73 ∧ zq_at zy_groupHalf_3_14.2.1 7 4 ∧ zq_at zy_groupHalf_3_14.2.1 8 126 ∧ zq_at zy_groupHalf_3_14.2.1 9 104 ∧ zq_at zy_groupHalf_3_14.2.1 10 172 := by decide +kernel
theorem zd_3_14_0 : zz_D zy_groupHalf_3_14 0 (.sipush 256) 3 3 := ⟨zq_17 zg_3_14_0.1 zg_3_14_0.2.1 zg_3_14_0.2.2.1 (by decide), rfl⟩
theorem zd_3_14_3 : zz_D zy_groupHalf_3_14 3 (.aload_n 0) 1 4 := ⟨zq_42 zg_3_14_0.2.2.2.1, rfl⟩
theorem zd_3_14_4 : zz_D zy_groupHalf_3_14 4 (.getfield 73) 3 7 := ⟨zq_180 zg_3_14_0.2.2.2.2.1 zg_3_14_0.2.2.2.2.2.1 zg_3_14_0.2.2.2.2.2.2.1 rfl, rfl⟩
theorem zd_3_14_7 : zz_D zy_groupHalf_3_14 7 (.iconst 1) 1 8 := ⟨zq_4 zg_3_14_0.2.2.2.2.2.2.2.1, rfl⟩
theorem zd_3_14_8 : zz_D zy_groupHalf_3_14 8 (.iand) 1 9 := ⟨zq_126 zg_3_14_0.2.2.2.2.2.2.2.2.1, rfl⟩
theorem zd_3_14_9 : zz_D zy_groupHalf_3_14 9 (.imul) 1 10 := ⟨zq_104 zg_3_14_0.2.2.2.2.2.2.2.2.2.1, rfl⟩
theorem zd_3_14_10 : zz_D zy_groupHalf_3_14 10 (.ireturn) 1 11 := ⟨zq_172 zg_3_14_0.2.2.2.2.2.2.2.2.2.2, rfl⟩
-- TensorForge$Compiler groupHalf ()I
abbrev zr_groupHalf_3_14 : Room := { frames := 0, cells := 0, slots := 0, locals := 0 }
def zp_groupHalf_3_14  (S0 : zz_S) : Int → zz_S → Prop := fun r S => S0 = S ∧ ((-2147483648) ≤ r ∧ r ≤ 2147483647)
theorem zc_groupHalf_3_14 {g : mm_G} {l : Launch}  (S0 : zz_S) (n : Nat) (hn : zz_end ≤ n) (G_S0 : zz_G S0)  : mm_Met g l zy_groupHalf_3_14 zr_groupHalf_3_14 [.ref 1076] (zz_M S0 n) n (zz_QI n (zp_groupHalf_3_14  S0)) := by
  refine zz_enter (by decide) (Nat.le_of_ble_eq_true rfl) (zz_less (ls1 := [some (.ref 1076)]) ⟨rfl, trivial⟩ ?_)
  refine zz_sipush (by decide) zd_3_14_0 ?_
  refine zz_aload_n (x := 1076) rfl zd_3_14_3 ?_
  have g1 := zz_G.r G_S0 1076 12 (-2147483648) 2147483647 rfl rfl
  refine zz_geti (z := S0 1076 12) zd_3_14_4 zf_Compiler_73 zT_1076 rfl (zz_ltn hn rfl) rfl ?_
  refine zz_iconst zd_3_14_7 ?_
  refine zz_iand (by omega) (by omega) zd_3_14_8 (fun v2 hv2 av2 bv2 ev2 => ?_)
  refine zz_imul zd_3_14_9 ?_
  exact zz_iret zd_3_14_10 rfl (Nat.zero_le _) (Nat.zero_le _) ⟨_, _, rfl, rfl, by omega⟩
theorem zk_Compiler_175 : mm_Vl "TensorForge$Compiler" 175 9 0 zy_groupHalf_3_14 := ⟨zyw_groupHalf_3_14, (R_Compiler, F_Compiler, 17), rfl, mm_tb_1 1441 (by decide +kernel) rfl, mm_tb_1 1443 (by decide +kernel) rfl, mm_tb_s 68 (by decide +kernel) rfl⟩
theorem zg_3_10_23 : zq_at zy_loadPlaces_3_10.2.1 23 27 ∧ zq_at zy_loadPlaces_3_10.2.1 24 42 ∧ zq_at zy_loadPlaces_3_10.2.1 25 180 ∧ zq_at zy_loadPlaces_3_10.2.1 26 0 ∧ zq_at zy_loadPlaces_3_10.2.1 27 21 ∧ zq_at zy_loadPlaces_3_10.2.1 28 104 ∧ zq_at zy_loadPlaces_3_10.2.1 29 96 ∧ zq_at zy_loadPlaces_3_10.2.1 30 184 ∧ zq_at zy_loadPlaces_3_10.2.1 31 0 ∧ zq_at zy_loadPlaces_3_10.2.1 32 132 ∧ zq_at zy_loadPlaces_3_10.2.1 33 129 ∧ zq_at zy_loadPlaces_3_10.2.1 34 8 ∧ zq_at zy_loadPlaces_3_10.2.1 35 29 ∧ zq_at zy_loadPlaces_3_10.2.1 36 184 ∧ zq_at zy_loadPlaces_3_10.2.1 37 0 ∧ zq_at zy_loadPlaces_3_10.2.1 38 132 ∧ zq_at zy_loadPlaces_3_10.2.1 39 129 ∧ zq_at zy_loadPlaces_3_10.2.1 40 16 ∧ zq_at zy_loadPlaces_3_10.2.1 41 10 ∧ zq_at zy_loadPlaces_3_10.2.1 42 21 ∧ zq_at zy_loadPlaces_3_10.2.1 43 4 ∧ zq_at zy_loadPlaces_3_10.2.1 44 184 ∧ zq_at zy_loadPlaces_3_10.2.1 45 0 ∧ zq_at zy_loadPlaces_3_10.2.1 46 132 := by decide +kernel
theorem zd_3_10_23 : zz_D zy_loadPlaces_3_10 23 (.iload_n 1) 1 24 := ⟨zq_27 zg_3_10_23.1, rfl⟩
theorem zd_3_10_24 : zz_D zy_loadPlaces_3_10 24 (.aload_n 0) 1 25 := ⟨zq_42 zg_3_10_23.2.1, rfl⟩
theorem zd_3_10_25 : zz_D zy_loadPlaces_3_10 25 (.getfield 21) 3 28 := ⟨zq_180 zg_3_10_23.2.2.1 zg_3_10_23.2.2.2.1 zg_3_10_23.2.2.2.2.1 rfl, rfl⟩
theorem zd_3_10_28 : zz_D zy_loadPlaces_3_10 28 (.imul) 1 29 := ⟨zq_104 zg_3_10_23.2.2.2.2.2.1, rfl⟩
theorem zd_3_10_29 : zz_D zy_loadPlaces_3_10 29 (.iadd) 1 30 := ⟨zq_96 zg_3_10_23.2.2.2.2.2.2.1, rfl⟩
theorem zd_3_10_30 : zz_D zy_loadPlaces_3_10 30 (.invokestatic 132) 3 33 := ⟨zq_184 zg_3_10_23.2.2.2.2.2.2.2.1 zg_3_10_23.2.2.2.2.2.2.2.2.1 zg_3_10_23.2.2.2.2.2.2.2.2.2.1 rfl, rfl⟩
theorem zd_3_10_33 : zz_D zy_loadPlaces_3_10 33 (.lor) 1 34 := ⟨zq_129 zg_3_10_23.2.2.2.2.2.2.2.2.2.2.1, rfl⟩
theorem zd_3_10_34 : zz_D zy_loadPlaces_3_10 34 (.iconst 5) 1 35 := ⟨zq_8 zg_3_10_23.2.2.2.2.2.2.2.2.2.2.2.1, rfl⟩
theorem zd_3_10_35 : zz_D zy_loadPlaces_3_10 35 (.iload_n 3) 1 36 := ⟨zq_29 zg_3_10_23.2.2.2.2.2.2.2.2.2.2.2.2.1, rfl⟩
theorem zd_3_10_36 : zz_D zy_loadPlaces_3_10 36 (.invokestatic 132) 3 39 := ⟨zq_184 zg_3_10_23.2.2.2.2.2.2.2.2.2.2.2.2.2.1 zg_3_10_23.2.2.2.2.2.2.2.2.2.2.2.2.2.2.1 zg_3_10_23.2.2.2.2.2.2.2.2.2.2.2.2.2.2.2.1 rfl, rfl⟩
theorem zd_3_10_39 : zz_D zy_loadPlaces_3_10 39 (.lor) 1 40 := ⟨zq_129 zg_3_10_23.2.2.2.2.2.2.2.2.2.2.2.2.2.2.2.2.1, rfl⟩
theorem zd_3_10_40 : zz_D zy_loadPlaces_3_10 40 (.bipush 10) 2 42 := ⟨zq_16 zg_3_10_23.2.2.2.2.2.2.2.2.2.2.2.2.2.2.2.2.2.1 zg_3_10_23.2.2.2.2.2.2.2.2.2.2.2.2.2.2.2.2.2.2.1 (by decide), rfl⟩
theorem zd_3_10_42 : zz_D zy_loadPlaces_3_10 42 (.iload 4) 2 44 := ⟨zq_21 zg_3_10_23.2.2.2.2.2.2.2.2.2.2.2.2.2.2.2.2.2.2.2.1 zg_3_10_23.2.2.2.2.2.2.2.2.2.2.2.2.2.2.2.2.2.2.2.2.1, rfl⟩
theorem zd_3_10_44 : zz_D zy_loadPlaces_3_10 44 (.invokestatic 132) 3 47 := ⟨zq_184 zg_3_10_23.2.2.2.2.2.2.2.2.2.2.2.2.2.2.2.2.2.2.2.2.2.1 zg_3_10_23.2.2.2.2.2.2.2.2.2.2.2.2.2.2.2.2.2.2.2.2.2.2.1 zg_3_10_23.2.2.2.2.2.2.2.2.2.2.2.2.2.2.2.2.2.2.2.2.2.2.2 rfl, rfl⟩
theorem zg_3_10_47 : zq_at zy_loadPlaces_3_10.2.1 47 129 ∧ zq_at zy_loadPlaces_3_10.2.1 48 182 ∧ zq_at zy_loadPlaces_3_10.2.1 49 0 ∧ zq_at zy_loadPlaces_3_10.2.1 50 143 := by decide +kernel
theorem zd_3_10_47 : zz_D zy_loadPlaces_3_10 47 (.lor) 1 48 := ⟨zq_129 zg_3_10_47.1, rfl⟩
theorem zd_3_10_48 : zz_D zy_loadPlaces_3_10 48 (.invokevirtual 143) 3 51 := ⟨zq_182 zg_3_10_47.2.1 zg_3_10_47.2.2.1 zg_3_10_47.2.2.2 rfl, rfl⟩
-- TensorForge$Compiler loadPlaces (IIII)V
abbrev zr_loadPlaces_3_10 : Room := { frames := 1, cells := 0, slots := 0, locals := 16 }
def zp_loadPlaces_3_10 (p0 : Int) (p1 : Int) (p2 : Int) (p3 : Int) (S0 : zz_S) : zz_S → Prop := fun S => zz_G S ∧ zz_fr [(1076, 1)] [] (fun a i => a = zz_rf 4 (S0 1076 0)) S0 S ∧ (S0 1076 1 ≤ S 1076 1 ∧ S 1076 1 ≤ S0 1076 1 + 1)
theorem zc_loadPlaces_3_10 {g : mm_G} {l : Launch} (p0 : Int) (p1 : Int) (p2 : Int) (p3 : Int) (S0 : zz_S) (n : Nat) (hn : zz_end ≤ n) (G_S0 : zz_G S0) (hp0 : (-2147483648) ≤ p0 ∧ p0 ≤ 2147483647) (hp1 : (-2147483648) ≤ p1 ∧ p1 ≤ 2147483647) (hp2 : (-2147483648) ≤ p2 ∧ p2 ≤ 2147483647) (hp3 : (-2147483648) ≤ p3 ∧ p3 ≤ 2147483647) (hq : S0 1076 1 ≤ 980000) (hl : 0 ≤ S0 1076 3 ∧ 0 ≤ S0 1076 4 ∧ 0 ≤ S0 1076 5) : mm_Met g l zy_loadPlaces_3_10 zr_loadPlaces_3_10 [.ref 1076, zi p0, zi p1, zi p2, zi p3] (zz_M S0 n) n (zz_QV n (zp_loadPlaces_3_10 p0 p1 p2 p3 S0)) := by
  refine zz_enter (by decide) (Nat.le_of_ble_eq_true rfl) (zz_less (ls1 := [some (.ref 1076), some (zi p0), some (zi p1), some (zi p2), some (zi p3)]) ⟨rfl, ⟨rfl, ⟨rfl, ⟨rfl, ⟨rfl, trivial⟩⟩⟩⟩⟩ ?_)
  have F_S0 : zz_fr [(1076, 1)] [] (fun a i => a = zz_rf 4 (S0 1076 0)) S0 S0 := zz_fr.refl
  refine zz_iload_n (x := p1) rfl zd_3_10_0 ?_
  refine zz_iload_n (x := p0) rfl zd_3_10_1 ?_
  refine zz_icmp_le (by omega) (by omega) zd_3_10_2 (fun c1 => ?_) (fun c1 => ?_)
  · have g2 := zz_G.r G_S0 1076 1 0 1000000 rfl rfl
    exact zz_vret zd_3_10_51 rfl (Nat.zero_le _) (Nat.zero_le _) ⟨_, rfl, G_S0, F_S0, by omega⟩
  · refine zz_aload_n (x := 1076) rfl zd_3_10_5 ?_
    refine zz_iconst zd_3_10_6 ?_
    refine zz_iload_n (x := p1) rfl zd_3_10_7 ?_
    refine zz_iload_n (x := p0) rfl zd_3_10_8 ?_
    refine zz_isub zd_3_10_9 ?_
    refine zz_nrm (fun v3 hv3 ev3 => ?_)
    refine zz_aload_n (x := 1076) rfl zd_3_10_10 ?_
    have g4 := zz_G.r G_S0 1076 16 (-2147483648) 2147483647 rfl rfl
    refine zz_geti (z := S0 1076 16) zd_3_10_11 zf_Compiler_115 zT_1076 rfl (zz_ltn hn rfl) rfl ?_
    refine zz_callSJ [zi 1, zi v3, zi (S0 1076 16)] zd_3_10_14 zk_Compiler_128 rfl rfl ⟨Nat.le_of_ble_eq_true rfl, Nat.le_of_ble_eq_true rfl⟩ ⟨rfl, rfl⟩ (Nat.zero_le _) (Nat.zero_le _) (zc_shaped_12_6 1 v3 (S0 1076 16) S0 n hn G_S0 (by omega) (by omega) (by omega)) (fun v6 S5 hP => ?_)
    obtain ⟨rfl, o7⟩ := hP
    refine zz_bipush (by decide) zd_3_10_17 ?_
    refine zz_aload_n (x := 1076) rfl zd_3_10_19 ?_
    refine zz_callVI [] zd_3_10_20 zk_Compiler_175 zT_1076 (zz_ltn hn rfl) rfl rfl ⟨Nat.le_of_ble_eq_true rfl, Nat.le_of_ble_eq_true rfl⟩ ⟨rfl, rfl⟩ (Nat.zero_le _) (Nat.zero_le _) (zc_groupHalf_3_14  S0 n hn G_S0 ) (fun v9 S8 hP => ?_)
    obtain ⟨rfl, o10⟩ := hP
    refine zz_iload_n (x := p0) rfl zd_3_10_23 ?_
    refine zz_aload_n (x := 1076) rfl zd_3_10_24 ?_
    have g11 := zz_G.r G_S0 1076 2 2 8 rfl rfl
    refine zz_geti (z := S0 1076 2) zd_3_10_25 zf_Compiler_21 zT_1076 rfl (zz_ltn hn rfl) rfl ?_
    refine zz_imul zd_3_10_28 ?_
    refine zz_nrm (fun v12 hv12 ev12 => ?_)
    refine zz_iadd zd_3_10_29 ?_
    refine zz_nrm (fun v13 hv13 ev13 => ?_)
    refine zz_callSJ [zi 8, zi v13] zd_3_10_30 zk_Compiler_132 rfl rfl ⟨Nat.le_of_ble_eq_true rfl, Nat.le_of_ble_eq_true rfl⟩ ⟨rfl, rfl⟩ (Nat.zero_le _) (Nat.zero_le _) (zc_bits_12_4 8 v13 S0 n hn G_S0 (by omega) (by omega)) (fun v15 S14 hP => ?_)
    obtain ⟨rfl, o16⟩ := hP
    refine zz_lor zd_3_10_33 (fun v17 hv17 ev17 => ?_)
    refine zz_iconst zd_3_10_34 ?_
    refine zz_iload_n (x := p2) rfl zd_3_10_35 ?_
    refine zz_callSJ [zi 5, zi p2] zd_3_10_36 zk_Compiler_132 rfl rfl ⟨Nat.le_of_ble_eq_true rfl, Nat.le_of_ble_eq_true rfl⟩ ⟨rfl, rfl⟩ (Nat.zero_le _) (Nat.zero_le _) (zc_bits_12_4 5 p2 S0 n hn G_S0 (by omega) (by omega)) (fun v19 S18 hP => ?_)
    obtain ⟨rfl, o20⟩ := hP
    refine zz_lor zd_3_10_39 (fun v21 hv21 ev21 => ?_)
    refine zz_bipush (by decide) zd_3_10_40 ?_
    refine zz_iload (x := p3) rfl zd_3_10_42 ?_
    refine zz_callSJ [zi 10, zi p3] zd_3_10_44 zk_Compiler_132 rfl rfl ⟨Nat.le_of_ble_eq_true rfl, Nat.le_of_ble_eq_true rfl⟩ ⟨rfl, rfl⟩ (Nat.zero_le _) (Nat.zero_le _) (zc_bits_12_4 10 p3 S0 n hn G_S0 (by omega) (by omega)) (fun v23 S22 hP => ?_)
    obtain ⟨rfl, o24⟩ := hP
    refine zz_lor zd_3_10_47 (fun v25 hv25 ev25 => ?_)
    have g26 := zz_G.r G_S0 1076 1 0 1000000 rfl rfl
    refine zz_callVV [zl v25] zd_3_10_48 zk_Compiler_143 zT_1076 (zz_ltn hn rfl) rfl rfl ⟨Nat.le_of_ble_eq_true rfl, Nat.le_of_ble_eq_true rfl⟩ ⟨rfl, rfl⟩ (Nat.zero_le _) (Nat.zero_le _) (zc_emit_3_15 v25 S0 n hn G_S0 (by omega) (by omega)) (fun S27 hP => ?_)
    obtain ⟨G_S27, fS27, o29⟩ := hP
    have g30 := zz_G.r G_S0 1076 0 0 1 rfl rfl
    have F_S27 := zz_fr.trans F_S0 fS27 rfl (fun a i h => Or.inr (Or.inr (h)))
    have b31 := zz_rf4 (z := (S0 1076 0)) (by omega)
    have g32 := zz_G.r G_S27 1076 1 0 1000000 rfl rfl
    exact zz_vret zd_3_10_51 rfl (Nat.zero_le _) (Nat.zero_le _) ⟨_, rfl, G_S27, F_S27, by omega⟩
theorem zk_Compiler_159 : mm_Vl "TensorForge$Compiler" 159 9 4 zy_loadPlaces_3_10 := ⟨zyw_loadPlaces_3_10, (R_Compiler, F_Compiler, 17), rfl, mm_tb_1 1459 (by decide +kernel) rfl, mm_tb_1 1461 (by decide +kernel) rfl, mm_tb_s 72 (by decide +kernel) rfl⟩
abbrev zy_mark_3_16 : mm_Y := (⟨"TensorForge$Compiler", "mark", "(II)V"⟩, prog_3_method_16_code, 3, none)
theorem zyw_mark_3_16 : mm_Yw zy_mark_3_16 2 := ⟨mm_tb_1 1466 (by decide +kernel) rfl, mm_tb_1 10 (by decide +kernel) rfl, ⟨by decide, by decide⟩, by decide +kernel⟩
theorem zg_3_5_102 : zq_at zy_makeGroup_3_5.2.1 102 42 ∧ zq_at zy_makeGroup_3_5.2.1 103 180 ∧ zq_at zy_makeGroup_3_5.2.1 104 0 ∧ zq_at zy_makeGroup_3_5.2.1 105 73 ∧ zq_at zy_makeGroup_3_5.2.1 106 4 ∧ zq_at zy_makeGroup_3_5.2.1 107 164 ∧ zq_at zy_makeGroup_3_5.2.1 108 0 ∧ zq_at zy_makeGroup_3_5.2.1 109 9 ∧ zq_at zy_makeGroup_3_5.2.1 116 42 ∧ zq_at zy_makeGroup_3_5.2.1 117 42 ∧ zq_at zy_makeGroup_3_5.2.1 118 180 ∧ zq_at zy_makeGroup_3_5.2.1 119 0 ∧ zq_at zy_makeGroup_3_5.2.1 120 15 ∧ zq_at zy_makeGroup_3_5.2.1 121 4 ∧ zq_at zy_makeGroup_3_5.2.1 122 100 ∧ zq_at zy_makeGroup_3_5.2.1 123 7 ∧ zq_at zy_makeGroup_3_5.2.1 124 182 ∧ zq_at zy_makeGroup_3_5.2.1 125 0 ∧ zq_at zy_makeGroup_3_5.2.1 126 163 := by decide +kernel
theorem zd_3_5_102 : zz_D zy_makeGroup_3_5 102 (.aload_n 0) 1 103 := ⟨zq_42 zg_3_5_102.1, rfl⟩
theorem zd_3_5_103 : zz_D zy_makeGroup_3_5 103 (.getfield 73) 3 106 := ⟨zq_180 zg_3_5_102.2.1 zg_3_5_102.2.2.1 zg_3_5_102.2.2.2.1 rfl, rfl⟩
theorem zd_3_5_106 : zz_D zy_makeGroup_3_5 106 (.iconst 1) 1 107 := ⟨zq_4 zg_3_5_102.2.2.2.2.1, rfl⟩
theorem zd_3_5_107 : zz_B zy_makeGroup_3_5 107 (Instr.if_icmp .le) 116 110 := ⟨9, zq_164 zg_3_5_102.2.2.2.2.2.1 zg_3_5_102.2.2.2.2.2.2.1 zg_3_5_102.2.2.2.2.2.2.2.1 (by decide), rfl, rfl⟩
theorem zd_3_5_116 : zz_D zy_makeGroup_3_5 116 (.aload_n 0) 1 117 := ⟨zq_42 zg_3_5_102.2.2.2.2.2.2.2.2.1, rfl⟩
theorem zd_3_5_117 : zz_D zy_makeGroup_3_5 117 (.aload_n 0) 1 118 := ⟨zq_42 zg_3_5_102.2.2.2.2.2.2.2.2.2.1, rfl⟩
theorem zd_3_5_118 : zz_D zy_makeGroup_3_5 118 (.getfield 15) 3 121 := ⟨zq_180 zg_3_5_102.2.2.2.2.2.2.2.2.2.2.1 zg_3_5_102.2.2.2.2.2.2.2.2.2.2.2.1 zg_3_5_102.2.2.2.2.2.2.2.2.2.2.2.2.1 rfl, rfl⟩
theorem zd_3_5_121 : zz_D zy_makeGroup_3_5 121 (.iconst 1) 1 122 := ⟨zq_4 zg_3_5_102.2.2.2.2.2.2.2.2.2.2.2.2.2.1, rfl⟩
theorem zd_3_5_122 : zz_D zy_makeGroup_3_5 122 (.isub) 1 123 := ⟨zq_100 zg_3_5_102.2.2.2.2.2.2.2.2.2.2.2.2.2.2.1, rfl⟩
theorem zd_3_5_123 : zz_D zy_makeGroup_3_5 123 (.iconst 4) 1 124 := ⟨zq_7 zg_3_5_102.2.2.2.2.2.2.2.2.2.2.2.2.2.2.2.1, rfl⟩
theorem zd_3_5_124 : zz_D zy_makeGroup_3_5 124 (.invokevirtual 163) 3 127 := ⟨zq_182 zg_3_5_102.2.2.2.2.2.2.2.2.2.2.2.2.2.2.2.2.1 zg_3_5_102.2.2.2.2.2.2.2.2.2.2.2.2.2.2.2.2.2.1 zg_3_5_102.2.2.2.2.2.2.2.2.2.2.2.2.2.2.2.2.2.2 rfl, rfl⟩
theorem zg_3_16_0 : zq_at zy_mark_3_16.2.1 0 27 ∧ zq_at zy_mark_3_16.2.1 1 155 ∧ zq_at zy_mark_3_16.2.1 2 0 ∧ zq_at zy_mark_3_16.2.1 3 32 ∧ zq_at zy_mark_3_16.2.1 33 177 ∧ zq_at zy_mark_3_16.2.1 4 27 ∧ zq_at zy_mark_3_16.2.1 5 17 ∧ zq_at zy_mark_3_16.2.1 6 2 ∧ zq_at zy_mark_3_16.2.1 7 88 ∧ zq_at zy_mark_3_16.2.1 8 162 ∧ zq_at zy_mark_3_16.2.1 9 0 ∧ zq_at zy_mark_3_16.2.1 10 25 ∧ zq_at zy_mark_3_16.2.1 11 27 ∧ zq_at zy_mark_3_16.2.1 12 42 ∧ zq_at zy_mark_3_16.2.1 13 180 ∧ zq_at zy_mark_3_16.2.1 14 0 ∧ zq_at zy_mark_3_16.2.1 15 9 ∧ zq_at zy_mark_3_16.2.1 16 190 ∧ zq_at zy_mark_3_16.2.1 17 162 ∧ zq_at zy_mark_3_16.2.1 18 0 ∧ zq_at zy_mark_3_16.2.1 19 16 ∧ zq_at zy_mark_3_16.2.1 20 42 := by decide +kernel
theorem zd_3_16_0 : zz_D zy_mark_3_16 0 (.iload_n 1) 1 1 := ⟨zq_27 zg_3_16_0.1, rfl⟩
theorem zd_3_16_1 : zz_B zy_mark_3_16 1 (Instr.ifCond .lt) 33 4 := ⟨32, zq_155 zg_3_16_0.2.1 zg_3_16_0.2.2.1 zg_3_16_0.2.2.2.1 (by decide), rfl, rfl⟩
theorem zd_3_16_33 : zz_D zy_mark_3_16 33 (.return_) 1 34 := ⟨zq_177 zg_3_16_0.2.2.2.2.1, rfl⟩
theorem zd_3_16_4 : zz_D zy_mark_3_16 4 (.iload_n 1) 1 5 := ⟨zq_27 zg_3_16_0.2.2.2.2.2.1, rfl⟩
theorem zd_3_16_5 : zz_D zy_mark_3_16 5 (.sipush 600) 3 8 := ⟨zq_17 zg_3_16_0.2.2.2.2.2.2.1 zg_3_16_0.2.2.2.2.2.2.2.1 zg_3_16_0.2.2.2.2.2.2.2.2.1 (by decide), rfl⟩
theorem zd_3_16_8 : zz_B zy_mark_3_16 8 (Instr.if_icmp .ge) 33 11 := ⟨25, zq_162 zg_3_16_0.2.2.2.2.2.2.2.2.2.1 zg_3_16_0.2.2.2.2.2.2.2.2.2.2.1 zg_3_16_0.2.2.2.2.2.2.2.2.2.2.2.1 (by decide), rfl, rfl⟩
theorem zd_3_16_11 : zz_D zy_mark_3_16 11 (.iload_n 1) 1 12 := ⟨zq_27 zg_3_16_0.2.2.2.2.2.2.2.2.2.2.2.2.1, rfl⟩
theorem zd_3_16_12 : zz_D zy_mark_3_16 12 (.aload_n 0) 1 13 := ⟨zq_42 zg_3_16_0.2.2.2.2.2.2.2.2.2.2.2.2.2.1, rfl⟩
theorem zd_3_16_13 : zz_D zy_mark_3_16 13 (.getfield 9) 3 16 := ⟨zq_180 zg_3_16_0.2.2.2.2.2.2.2.2.2.2.2.2.2.2.1 zg_3_16_0.2.2.2.2.2.2.2.2.2.2.2.2.2.2.2.1 zg_3_16_0.2.2.2.2.2.2.2.2.2.2.2.2.2.2.2.2.1 rfl, rfl⟩
theorem zd_3_16_16 : zz_D zy_mark_3_16 16 (.arraylength) 1 17 := ⟨zq_190 zg_3_16_0.2.2.2.2.2.2.2.2.2.2.2.2.2.2.2.2.2.1, rfl⟩
theorem zd_3_16_17 : zz_B zy_mark_3_16 17 (Instr.if_icmp .ge) 33 20 := ⟨16, zq_162 zg_3_16_0.2.2.2.2.2.2.2.2.2.2.2.2.2.2.2.2.2.2.1 zg_3_16_0.2.2.2.2.2.2.2.2.2.2.2.2.2.2.2.2.2.2.2.1 zg_3_16_0.2.2.2.2.2.2.2.2.2.2.2.2.2.2.2.2.2.2.2.2.1 (by decide), rfl, rfl⟩
theorem zd_3_16_20 : zz_D zy_mark_3_16 20 (.aload_n 0) 1 21 := ⟨zq_42 zg_3_16_0.2.2.2.2.2.2.2.2.2.2.2.2.2.2.2.2.2.2.2.2.2, rfl⟩
theorem zg_3_16_21 : zq_at zy_mark_3_16.2.1 21 180 ∧ zq_at zy_mark_3_16.2.1 22 0 ∧ zq_at zy_mark_3_16.2.1 23 9 ∧ zq_at zy_mark_3_16.2.1 24 27 ∧ zq_at zy_mark_3_16.2.1 25 92 ∧ zq_at zy_mark_3_16.2.1 26 47 ∧ zq_at zy_mark_3_16.2.1 27 28 ∧ zq_at zy_mark_3_16.2.1 28 184 ∧ zq_at zy_mark_3_16.2.1 29 0 ∧ zq_at zy_mark_3_16.2.1 30 139 ∧ zq_at zy_mark_3_16.2.1 31 129 ∧ zq_at zy_mark_3_16.2.1 32 80 := by decide +kernel
theorem zd_3_16_21 : zz_D zy_mark_3_16 21 (.getfield 9) 3 24 := ⟨zq_180 zg_3_16_21.1 zg_3_16_21.2.1 zg_3_16_21.2.2.1 rfl, rfl⟩
theorem zd_3_16_24 : zz_D zy_mark_3_16 24 (.iload_n 1) 1 25 := ⟨zq_27 zg_3_16_21.2.2.2.1, rfl⟩
theorem zd_3_16_25 : zz_D zy_mark_3_16 25 (.dup2) 1 26 := ⟨zq_92 zg_3_16_21.2.2.2.2.1, rfl⟩
theorem zd_3_16_26 : zz_D zy_mark_3_16 26 (.laload) 1 27 := ⟨zq_47 zg_3_16_21.2.2.2.2.2.1, rfl⟩
theorem zd_3_16_27 : zz_D zy_mark_3_16 27 (.iload_n 2) 1 28 := ⟨zq_28 zg_3_16_21.2.2.2.2.2.2.1, rfl⟩
theorem zd_3_16_28 : zz_D zy_mark_3_16 28 (.invokestatic 139) 3 31 := ⟨zq_184 zg_3_16_21.2.2.2.2.2.2.2.1 zg_3_16_21.2.2.2.2.2.2.2.2.1 zg_3_16_21.2.2.2.2.2.2.2.2.2.1 rfl, rfl⟩
theorem zd_3_16_31 : zz_D zy_mark_3_16 31 (.lor) 1 32 := ⟨zq_129 zg_3_16_21.2.2.2.2.2.2.2.2.2.2.1, rfl⟩
theorem zd_3_16_32 : zz_D zy_mark_3_16 32 (.lastore) 1 33 := ⟨zq_80 zg_3_16_21.2.2.2.2.2.2.2.2.2.2.2, rfl⟩

-- TensorForgeModel findNext (I)V
abbrev zr_findNext_14_34 : Room := { frames := 0, cells := 0, slots := 0, locals := 0 }
def zp_findNext_14_34 (p0 : Int) (S0 : zz_S) : zz_S → Prop := fun S => zz_G S ∧ zz_fr [] [1098] (fun _ _ => False) S0 S ∧ (S 1098 p0.toNat > S0 1098 p0.toNat)
theorem zb_findNext_14_34_10 {g : mm_G} {l : Launch} (p0 : Int) (S0 : zz_S) (n : Nat) (hn : zz_end ≤ n) (G_S0 : zz_G S0) (hp0 : 0 ≤ p0 ∧ p0 ≤ 2) (hq : S0 1098 p0.toNat ≤ 600)  (S : zz_S) (G_S : zz_G S) (F_S : zz_fr [] [1098] (fun _ _ => False) S0 S) (i10_0 : S 1098 p0.toNat > S0 1098 p0.toNat) (i10_1 : 0 ≤ S 1098 p0.toNat) (R : Nat) (hR : (601 - S 1098 p0.toNat).toNat = R) (k10 : ∀  (S : zz_S), zz_G S → zz_fr [] [1098] (fun _ _ => False) S0 S → (S 1098 p0.toNat > S0 1098 p0.toNat) → (0 ≤ S 1098 p0.toNat) → (601 - S 1098 p0.toNat).toNat < R → zz_E g l zy_findNext_14_34 zr_findNext_14_34 (zz_QV n (zp_findNext_14_34 p0 S0)) S n 10 [some (.ref 1079), some (zi p0)] [] 0 0) : zz_E g l zy_findNext_14_34 zr_findNext_14_34 (zz_QV n (zp_findNext_14_34 p0 S0)) S n 10 [some (.ref 1079), some (zi p0)] [] 0 0 := by
  refine zz_aload_n (x := 1079) rfl zd_14_34_10 ?_
  refine zz_getr (kd := 0) (z := 1098) zd_14_34_11 zf_Md_73 zT_1079 rfl (zz_ltn hn rfl) (zz_G.eq G_S 1079 26 1098 rfl rfl) (by decide) 1098 rfl ?_
  refine zz_iload_n (x := p0) rfl zd_14_34_14 ?_
  have g4 := zz_G.r G_S 1098 p0.toNat (-1) 601 rfl rfl
  refine zz_iald (z := S 1098 p0.toNat) zd_14_34_15 zT_1098 rfl (zz_ltn hn rfl) (by decide) (by omega) rfl ?_
  refine zz_aload_n (x := 1079) rfl zd_14_34_16 ?_
  have g5 := zz_G.r G_S0 1079 19 (-1) 600 rfl rfl
  refine zz_geti (z := S0 1079 19) zd_14_34_17 zf_Md_272 zT_1079 rfl (zz_ltn hn rfl) (zz_rc F_S rfl rfl (fun h => h) rfl) ?_
  refine zz_icmp_ge (by omega) (by omega) zd_14_34_20 (fun c6 => ?_) (fun c6 => ?_)
  · exact zz_vret zd_14_34_51 rfl (Nat.zero_le _) (Nat.zero_le _) ⟨_, rfl, G_S, F_S, by omega⟩
  · refine zz_aload_n (x := 1079) rfl zd_14_34_23 ?_
    refine zz_getr (kd := 0) (z := 1092) zd_14_34_24 zf_Md_54 zT_1079 rfl (zz_ltn hn rfl) (zz_G.eq G_S 1079 20 1092 rfl rfl) (by decide) 1092 rfl ?_
    refine zz_aload_n (x := 1079) rfl zd_14_34_27 ?_
    refine zz_getr (kd := 0) (z := 1098) zd_14_34_28 zf_Md_73 zT_1079 rfl (zz_ltn hn rfl) (zz_G.eq G_S 1079 26 1098 rfl rfl) (by decide) 1098 rfl ?_
    refine zz_iload_n (x := p0) rfl zd_14_34_31 ?_
    refine zz_iald (z := S 1098 p0.toNat) zd_14_34_32 zT_1098 rfl (zz_ltn hn rfl) (by decide) (by omega) rfl ?_
    have g7 := zz_G.r G_S0 1092 ((S 1098 p0.toNat).toNat) (-2147483648) 2147483647 rfl rfl
    refine zz_iald (z := S0 1092 ((S 1098 p0.toNat).toNat)) zd_14_34_33 zT_1092 rfl (zz_ltn hn rfl) (by decide) (by omega) (zz_rc F_S (zz_nc1 rfl) rfl (fun h => h) rfl) ?_
    refine zz_iload_n (x := p0) rfl zd_14_34_34 ?_
    refine zz_icmp_eq (by omega) (by omega) zd_14_34_35 (fun c8 => ?_) (fun c8 => ?_)
    · exact zz_vret zd_14_34_51 rfl (Nat.zero_le _) (Nat.zero_le _) ⟨_, rfl, G_S, F_S, by omega⟩
    · refine zz_aload_n (x := 1079) rfl zd_14_34_38 ?_
      refine zz_getr (kd := 0) (z := 1098) zd_14_34_39 zf_Md_73 zT_1079 rfl (zz_ltn hn rfl) (zz_G.eq G_S 1079 26 1098 rfl rfl) (by decide) 1098 rfl ?_
      refine zz_iload_n (x := p0) rfl zd_14_34_42 ?_
      refine zz_dup2_11 rfl rfl zd_14_34_43 ?_
      refine zz_iald (z := S 1098 p0.toNat) zd_14_34_44 zT_1098 rfl (zz_ltn hn rfl) (by decide) (by omega) rfl ?_
      refine zz_iconst zd_14_34_45 ?_
      refine zz_iadd zd_14_34_46 ?_
      refine zz_iast zd_14_34_47 zT_1098 rfl (zz_ltn hn rfl) (by decide) (by omega) (fun S9 qS9 => ?_)
      have G_S9 := zz_G.put G_S qS9 (-1) 601 rfl (by omega)
      have F_S9 := zz_fr.putc F_S qS9 rfl
      refine zz_goto zd_14_34_48 ?_
      have e10 : S9 1098 p0.toNat = (S 1098 p0.toNat) + 1 := (zz_rs qS9)
      exact k10 S9 G_S9 F_S9 (by omega) (by omega) (by omega)
theorem zi_findNext_14_34 {g : mm_G} {l : Launch} (p0 : Int) (S0 : zz_S) (n : Nat) (hn : zz_end ≤ n) (G_S0 : zz_G S0) (hp0 : 0 ≤ p0 ∧ p0 ≤ 2) (hq : S0 1098 p0.toNat ≤ 600) : ∀ N : Nat, (∀  (S : zz_S), zz_G S → zz_fr [] [1098] (fun _ _ => False) S0 S → (S 1098 p0.toNat > S0 1098 p0.toNat) → (0 ≤ S 1098 p0.toNat) → (601 - S 1098 p0.toNat).toNat < N → zz_E g l zy_findNext_14_34 zr_findNext_14_34 (zz_QV n (zp_findNext_14_34 p0 S0)) S n 10 [some (.ref 1079), some (zi p0)] [] 0 0) := by
  intro N
  induction N with
  | zero => exact fun  S _ _ _ _ h => absurd h (Nat.not_lt_zero _)
  | succ N ih =>
    exact fun  S a b j0 j1 hR => zb_findNext_14_34_10 p0 S0 n hn G_S0 hp0 hq  S a b j0 j1 _ rfl (fun  S a b j0 j1 h => ih  S a b j0 j1 (Nat.lt_of_lt_of_le h (Nat.le_of_lt_succ hR)))
theorem zc_findNext_14_34 {g : mm_G} {l : Launch} (p0 : Int) (S0 : zz_S) (n : Nat) (hn : zz_end ≤ n) (G_S0 : zz_G S0) (hp0 : 0 ≤ p0 ∧ p0 ≤ 2) (hq : S0 1098 p0.toNat ≤ 600) : mm_Met g l zy_findNext_14_34 zr_findNext_14_34 [.ref 1079, zi p0] (zz_M S0 n) n (zz_QV n (zp_findNext_14_34 p0 S0)) := by
  refine zz_enter (by decide) (Nat.le_of_ble_eq_true rfl) (zz_less (ls1 := [some (.ref 1079), some (zi p0)]) ⟨rfl, ⟨rfl, trivial⟩⟩ ?_)
  have F_S0 : zz_fr [] [1098] (fun _ _ => False) S0 S0 := zz_fr.refl
  have k10 : ∀  (S : zz_S), zz_G S → zz_fr [] [1098] (fun _ _ => False) S0 S → (S 1098 p0.toNat > S0 1098 p0.toNat) → (0 ≤ S 1098 p0.toNat) → zz_E g l zy_findNext_14_34 zr_findNext_14_34 (zz_QV n (zp_findNext_14_34 p0 S0)) S n 10 [some (.ref 1079), some (zi p0)] [] 0 0 := fun  S a b j0 j1 => (zi_findNext_14_34 (g := g) (l := l) p0 S0 n hn G_S0 hp0 hq _)  S a b j0 j1 (Nat.lt_succ_self _)
  refine zz_aload_n (x := 1079) rfl zd_14_34_0 ?_
  refine zz_getr (kd := 0) (z := 1098) zd_14_34_1 zf_Md_73 zT_1079 rfl (zz_ltn hn rfl) (zz_G.eq G_S0 1079 26 1098 rfl rfl) (by decide) 1098 rfl ?_
  refine zz_iload_n (x := p0) rfl zd_14_34_4 ?_
  refine zz_dup2_11 rfl rfl zd_14_34_5 ?_
  have g1 := zz_G.r G_S0 1098 p0.toNat (-1) 601 rfl rfl
  refine zz_iald (z := S0 1098 p0.toNat) zd_14_34_6 zT_1098 rfl (zz_ltn hn rfl) (by decide) (by omega) rfl ?_
  refine zz_iconst zd_14_34_7 ?_
  refine zz_iadd zd_14_34_8 ?_
  refine zz_iast zd_14_34_9 zT_1098 rfl (zz_ltn hn rfl) (by decide) (by omega) (fun S2 qS2 => ?_)
  have G_S2 := zz_G.put G_S0 qS2 (-1) 601 rfl (by omega)
  have F_S2 := zz_fr.putc F_S0 qS2 rfl
  have e3 : S2 1098 p0.toNat = (S0 1098 p0.toNat) + 1 := (zz_rs qS2)
  exact k10 S2 G_S2 F_S2 (by omega) (by omega)
abbrev zy_hasTokens_14_35 : mm_Y := (⟨"TensorForgeModel", "hasTokens", "(I)Z"⟩, prog_14_method_35_code, 2, (some .boolean))
theorem zyw_hasTokens_14_35 : mm_Yw zy_hasTokens_14_35 1 := ⟨mm_tb_1 1953 (by decide +kernel) rfl, mm_tb_1 12 (by decide +kernel) rfl, ⟨by decide, by decide⟩, by decide +kernel⟩
theorem zk_Md_275 : mm_Sl "TensorForgeModel" 275 2 zy_popped_14_31 := ⟨zyw_popped_14_31, mm_tb_1 1954 (by decide +kernel) rfl, mm_tb_1 1955 (by decide +kernel) rfl⟩
theorem zg_14_35_0 : zq_at zy_hasTokens_14_35.2.1 0 42 ∧ zq_at zy_hasTokens_14_35.2.1 1 42 ∧ zq_at zy_hasTokens_14_35.2.1 2 180 ∧ zq_at zy_hasTokens_14_35.2.1 3 0 ∧ zq_at zy_hasTokens_14_35.2.1 4 29 ∧ zq_at zy_hasTokens_14_35.2.1 5 42 ∧ zq_at zy_hasTokens_14_35.2.1 6 180 ∧ zq_at zy_hasTokens_14_35.2.1 7 0 ∧ zq_at zy_hasTokens_14_35.2.1 8 73 ∧ zq_at zy_hasTokens_14_35.2.1 9 27 ∧ zq_at zy_hasTokens_14_35.2.1 10 46 ∧ zq_at zy_hasTokens_14_35.2.1 11 47 ∧ zq_at zy_hasTokens_14_35.2.1 12 182 ∧ zq_at zy_hasTokens_14_35.2.1 13 0 ∧ zq_at zy_hasTokens_14_35.2.1 14 234 ∧ zq_at zy_hasTokens_14_35.2.1 15 42 ∧ zq_at zy_hasTokens_14_35.2.1 16 180 ∧ zq_at zy_hasTokens_14_35.2.1 17 0 ∧ zq_at zy_hasTokens_14_35.2.1 18 51 ∧ zq_at zy_hasTokens_14_35.2.1 19 27 ∧ zq_at zy_hasTokens_14_35.2.1 20 3 ∧ zq_at zy_hasTokens_14_35.2.1 21 184 ∧ zq_at zy_hasTokens_14_35.2.1 22 1 ∧ zq_at zy_hasTokens_14_35.2.1 23 19 := by decide +kernel
theorem zd_14_35_0 : zz_D zy_hasTokens_14_35 0 (.aload_n 0) 1 1 := ⟨zq_42 zg_14_35_0.1, rfl⟩
theorem zd_14_35_1 : zz_D zy_hasTokens_14_35 1 (.aload_n 0) 1 2 := ⟨zq_42 zg_14_35_0.2.1, rfl⟩
theorem zd_14_35_2 : zz_D zy_hasTokens_14_35 2 (.getfield 29) 3 5 := ⟨zq_180 zg_14_35_0.2.2.1 zg_14_35_0.2.2.2.1 zg_14_35_0.2.2.2.2.1 rfl, rfl⟩
theorem zd_14_35_5 : zz_D zy_hasTokens_14_35 5 (.aload_n 0) 1 6 := ⟨zq_42 zg_14_35_0.2.2.2.2.2.1, rfl⟩
theorem zd_14_35_6 : zz_D zy_hasTokens_14_35 6 (.getfield 73) 3 9 := ⟨zq_180 zg_14_35_0.2.2.2.2.2.2.1 zg_14_35_0.2.2.2.2.2.2.2.1 zg_14_35_0.2.2.2.2.2.2.2.2.1 rfl, rfl⟩
theorem zd_14_35_9 : zz_D zy_hasTokens_14_35 9 (.iload_n 1) 1 10 := ⟨zq_27 zg_14_35_0.2.2.2.2.2.2.2.2.2.1, rfl⟩
theorem zd_14_35_10 : zz_D zy_hasTokens_14_35 10 (.iaload) 1 11 := ⟨zq_46 zg_14_35_0.2.2.2.2.2.2.2.2.2.2.1, rfl⟩
theorem zd_14_35_11 : zz_D zy_hasTokens_14_35 11 (.laload) 1 12 := ⟨zq_47 zg_14_35_0.2.2.2.2.2.2.2.2.2.2.2.1, rfl⟩
theorem zd_14_35_12 : zz_D zy_hasTokens_14_35 12 (.invokevirtual 234) 3 15 := ⟨zq_182 zg_14_35_0.2.2.2.2.2.2.2.2.2.2.2.2.1 zg_14_35_0.2.2.2.2.2.2.2.2.2.2.2.2.2.1 zg_14_35_0.2.2.2.2.2.2.2.2.2.2.2.2.2.2.1 rfl, rfl⟩
theorem zd_14_35_15 : zz_D zy_hasTokens_14_35 15 (.aload_n 0) 1 16 := ⟨zq_42 zg_14_35_0.2.2.2.2.2.2.2.2.2.2.2.2.2.2.2.1, rfl⟩
theorem zd_14_35_16 : zz_D zy_hasTokens_14_35 16 (.getfield 51) 3 19 := ⟨zq_180 zg_14_35_0.2.2.2.2.2.2.2.2.2.2.2.2.2.2.2.2.1 zg_14_35_0.2.2.2.2.2.2.2.2.2.2.2.2.2.2.2.2.2.1 zg_14_35_0.2.2.2.2.2.2.2.2.2.2.2.2.2.2.2.2.2.2.1 rfl, rfl⟩
theorem zd_14_35_19 : zz_D zy_hasTokens_14_35 19 (.iload_n 1) 1 20 := ⟨zq_27 zg_14_35_0.2.2.2.2.2.2.2.2.2.2.2.2.2.2.2.2.2.2.2.1, rfl⟩
theorem zd_14_35_20 : zz_D zy_hasTokens_14_35 20 (.iconst 0) 1 21 := ⟨zq_3 zg_14_35_0.2.2.2.2.2.2.2.2.2.2.2.2.2.2.2.2.2.2.2.2.1, rfl⟩
theorem zd_14_35_21 : zz_D zy_hasTokens_14_35 21 (.invokestatic 275) 3 24 := ⟨zq_184 zg_14_35_0.2.2.2.2.2.2.2.2.2.2.2.2.2.2.2.2.2.2.2.2.2.1 zg_14_35_0.2.2.2.2.2.2.2.2.2.2.2.2.2.2.2.2.2.2.2.2.2.2.1 zg_14_35_0.2.2.2.2.2.2.2.2.2.2.2.2.2.2.2.2.2.2.2.2.2.2.2 rfl, rfl⟩
theorem zg_14_35_24 : zq_at zy_hasTokens_14_35.2.1 24 46 ∧ zq_at zy_hasTokens_14_35.2.1 25 42 ∧ zq_at zy_hasTokens_14_35.2.1 26 180 ∧ zq_at zy_hasTokens_14_35.2.1 27 0 ∧ zq_at zy_hasTokens_14_35.2.1 28 36 ∧ zq_at zy_hasTokens_14_35.2.1 29 4 ∧ zq_at zy_hasTokens_14_35.2.1 30 46 ∧ zq_at zy_hasTokens_14_35.2.1 31 161 ∧ zq_at zy_hasTokens_14_35.2.1 32 0 ∧ zq_at zy_hasTokens_14_35.2.1 33 26 ∧ zq_at zy_hasTokens_14_35.2.1 57 3 ∧ zq_at zy_hasTokens_14_35.2.1 58 172 ∧ zq_at zy_hasTokens_14_35.2.1 34 42 ∧ zq_at zy_hasTokens_14_35.2.1 35 180 ∧ zq_at zy_hasTokens_14_35.2.1 36 0 ∧ zq_at zy_hasTokens_14_35.2.1 37 51 ∧ zq_at zy_hasTokens_14_35.2.1 38 27 ∧ zq_at zy_hasTokens_14_35.2.1 39 4 ∧ zq_at zy_hasTokens_14_35.2.1 40 184 ∧ zq_at zy_hasTokens_14_35.2.1 41 1 ∧ zq_at zy_hasTokens_14_35.2.1 42 19 ∧ zq_at zy_hasTokens_14_35.2.1 43 46 ∧ zq_at zy_hasTokens_14_35.2.1 44 42 := by decide +kernel
theorem zd_14_35_24 : zz_D zy_hasTokens_14_35 24 (.iaload) 1 25 := ⟨zq_46 zg_14_35_24.1, rfl⟩
theorem zd_14_35_25 : zz_D zy_hasTokens_14_35 25 (.aload_n 0) 1 26 := ⟨zq_42 zg_14_35_24.2.1, rfl⟩
theorem zd_14_35_26 : zz_D zy_hasTokens_14_35 26 (.getfield 36) 3 29 := ⟨zq_180 zg_14_35_24.2.2.1 zg_14_35_24.2.2.2.1 zg_14_35_24.2.2.2.2.1 rfl, rfl⟩
theorem zd_14_35_29 : zz_D zy_hasTokens_14_35 29 (.iconst 1) 1 30 := ⟨zq_4 zg_14_35_24.2.2.2.2.2.1, rfl⟩
theorem zd_14_35_30 : zz_D zy_hasTokens_14_35 30 (.iaload) 1 31 := ⟨zq_46 zg_14_35_24.2.2.2.2.2.2.1, rfl⟩
theorem zd_14_35_31 : zz_B zy_hasTokens_14_35 31 (Instr.if_icmp .lt) 57 34 := ⟨26, zq_161 zg_14_35_24.2.2.2.2.2.2.2.1 zg_14_35_24.2.2.2.2.2.2.2.2.1 zg_14_35_24.2.2.2.2.2.2.2.2.2.1 (by decide), rfl, rfl⟩
theorem zd_14_35_57 : zz_D zy_hasTokens_14_35 57 (.iconst 0) 1 58 := ⟨zq_3 zg_14_35_24.2.2.2.2.2.2.2.2.2.2.1, rfl⟩
theorem zd_14_35_58 : zz_D zy_hasTokens_14_35 58 (.ireturn) 1 59 := ⟨zq_172 zg_14_35_24.2.2.2.2.2.2.2.2.2.2.2.1, rfl⟩
theorem zd_14_35_34 : zz_D zy_hasTokens_14_35 34 (.aload_n 0) 1 35 := ⟨zq_42 zg_14_35_24.2.2.2.2.2.2.2.2.2.2.2.2.1, rfl⟩
theorem zd_14_35_35 : zz_D zy_hasTokens_14_35 35 (.getfield 51) 3 38 := ⟨zq_180 zg_14_35_24.2.2.2.2.2.2.2.2.2.2.2.2.2.1 zg_14_35_24.2.2.2.2.2.2.2.2.2.2.2.2.2.2.1 zg_14_35_24.2.2.2.2.2.2.2.2.2.2.2.2.2.2.2.1 rfl, rfl⟩
theorem zd_14_35_38 : zz_D zy_hasTokens_14_35 38 (.iload_n 1) 1 39 := ⟨zq_27 zg_14_35_24.2.2.2.2.2.2.2.2.2.2.2.2.2.2.2.2.1, rfl⟩
theorem zd_14_35_39 : zz_D zy_hasTokens_14_35 39 (.iconst 1) 1 40 := ⟨zq_4 zg_14_35_24.2.2.2.2.2.2.2.2.2.2.2.2.2.2.2.2.2.1, rfl⟩
theorem zd_14_35_40 : zz_D zy_hasTokens_14_35 40 (.invokestatic 275) 3 43 := ⟨zq_184 zg_14_35_24.2.2.2.2.2.2.2.2.2.2.2.2.2.2.2.2.2.2.1 zg_14_35_24.2.2.2.2.2.2.2.2.2.2.2.2.2.2.2.2.2.2.2.1 zg_14_35_24.2.2.2.2.2.2.2.2.2.2.2.2.2.2.2.2.2.2.2.2.1 rfl, rfl⟩
theorem zd_14_35_43 : zz_D zy_hasTokens_14_35 43 (.iaload) 1 44 := ⟨zq_46 zg_14_35_24.2.2.2.2.2.2.2.2.2.2.2.2.2.2.2.2.2.2.2.2.2.1, rfl⟩
theorem zd_14_35_44 : zz_D zy_hasTokens_14_35 44 (.aload_n 0) 1 45 := ⟨zq_42 zg_14_35_24.2.2.2.2.2.2.2.2.2.2.2.2.2.2.2.2.2.2.2.2.2.2, rfl⟩
theorem zg_14_35_45 : zq_at zy_hasTokens_14_35.2.1 45 180 ∧ zq_at zy_hasTokens_14_35.2.1 46 0 ∧ zq_at zy_hasTokens_14_35.2.1 47 36 ∧ zq_at zy_hasTokens_14_35.2.1 48 5 ∧ zq_at zy_hasTokens_14_35.2.1 49 46 ∧ zq_at zy_hasTokens_14_35.2.1 50 161 ∧ zq_at zy_hasTokens_14_35.2.1 51 0 ∧ zq_at zy_hasTokens_14_35.2.1 52 7 ∧ zq_at zy_hasTokens_14_35.2.1 53 4 ∧ zq_at zy_hasTokens_14_35.2.1 54 167 ∧ zq_at zy_hasTokens_14_35.2.1 55 0 ∧ zq_at zy_hasTokens_14_35.2.1 56 4 := by decide +kernel
theorem zd_14_35_45 : zz_D zy_hasTokens_14_35 45 (.getfield 36) 3 48 := ⟨zq_180 zg_14_35_45.1 zg_14_35_45.2.1 zg_14_35_45.2.2.1 rfl, rfl⟩
theorem zd_14_35_48 : zz_D zy_hasTokens_14_35 48 (.iconst 2) 1 49 := ⟨zq_5 zg_14_35_45.2.2.2.1, rfl⟩
theorem zd_14_35_49 : zz_D zy_hasTokens_14_35 49 (.iaload) 1 50 := ⟨zq_46 zg_14_35_45.2.2.2.2.1, rfl⟩
theorem zd_14_35_50 : zz_B zy_hasTokens_14_35 50 (Instr.if_icmp .lt) 57 53 := ⟨7, zq_161 zg_14_35_45.2.2.2.2.2.1 zg_14_35_45.2.2.2.2.2.2.1 zg_14_35_45.2.2.2.2.2.2.2.1 (by decide), rfl, rfl⟩
theorem zd_14_35_53 : zz_D zy_hasTokens_14_35 53 (.iconst 1) 1 54 := ⟨zq_4 zg_14_35_45.2.2.2.2.2.2.2.2.1, rfl⟩
theorem zd_14_35_54 : zz_B zy_hasTokens_14_35 54 Instr.goto 58 57 := ⟨4, zq_167 zg_14_35_45.2.2.2.2.2.2.2.2.2.1 zg_14_35_45.2.2.2.2.2.2.2.2.2.2.1 zg_14_35_45.2.2.2.2.2.2.2.2.2.2.2 (by decide), rfl, rfl⟩
-- TensorForgeModel hasTokens (I)Z
abbrev zr_hasTokens_14_35 : Room := { frames := 3, cells := 0, slots := 0, locals := 49 }
def zp_hasTokens_14_35 (p0 : Int) (S0 : zz_S) : Int → zz_S → Prop := fun r S => zz_G S ∧ zz_fr [(1087, 0), (1087, 1), (1087, 2), (1087, 3), (1087, 4), (1087, 5), (1087, 6), (1087, 7), (1087, 8), (1087, 9), (1087, 10), (1087, 11)] [] (fun _ _ => False) S0 S ∧ (0 ≤ r ∧ r ≤ 1)
theorem zc_hasTokens_14_35 {g : mm_G} {l : Launch} (p0 : Int) (S0 : zz_S) (n : Nat) (hn : zz_end ≤ n) (G_S0 : zz_G S0) (hp0 : 0 ≤ p0 ∧ p0 ≤ 2) (hq : 0 ≤ S0 1098 p0.toNat ∧ S0 1098 p0.toNat ≤ 600) : mm_Met g l zy_hasTokens_14_35 zr_hasTokens_14_35 [.ref 1079, zi p0] (zz_M S0 n) n (zz_QI n (zp_hasTokens_14_35 p0 S0)) := by
  refine zz_enter (by decide) (Nat.le_of_ble_eq_true rfl) (zz_less (ls1 := [some (.ref 1079), some (zi p0)]) ⟨rfl, ⟨rfl, trivial⟩⟩ ?_)
  have F_S0 : zz_fr [(1087, 0), (1087, 1), (1087, 2), (1087, 3), (1087, 4), (1087, 5), (1087, 6), (1087, 7), (1087, 8), (1087, 9), (1087, 10), (1087, 11)] [] (fun _ _ => False) S0 S0 := zz_fr.refl
  refine zz_aload_n (x := 1079) rfl zd_14_35_0 ?_
  refine zz_aload_n (x := 1079) rfl zd_14_35_1 ?_
  refine zz_getr (kd := 0) (z := 1085) zd_14_35_2 zf_Md_29 zT_1079 rfl (zz_ltn hn rfl) (zz_G.eq G_S0 1079 8 1085 rfl rfl) (by decide) 1085 rfl ?_
  refine zz_aload_n (x := 1079) rfl zd_14_35_5 ?_
  refine zz_getr (kd := 0) (z := 1098) zd_14_35_6 zf_Md_73 zT_1079 rfl (zz_ltn hn rfl) (zz_G.eq G_S0 1079 26 1098 rfl rfl) (by decide) 1098 rfl ?_
  refine zz_iload_n (x := p0) rfl zd_14_35_9 ?_
  have g1 := zz_G.r G_S0 1098 p0.toNat (-1) 601 rfl rfl
  refine zz_iald (z := S0 1098 p0.toNat) zd_14_35_10 zT_1098 rfl (zz_ltn hn rfl) (by decide) (by omega) rfl ?_
  have g2 := zz_G.r G_S0 1085 ((S0 1098 p0.toNat).toNat) (-9223372036854775808) 9223372036854775807 rfl rfl
  refine zz_lald (z := S0 1085 ((S0 1098 p0.toNat).toNat)) zd_14_35_11 zT_1085 rfl (zz_ltn hn rfl) (by decide) (by omega) rfl ?_
  refine zz_callVV [zl (S0 1085 ((S0 1098 p0.toNat).toNat))] zd_14_35_12 zk_Md_234 zT_1079 (zz_ltn hn rfl) rfl rfl ⟨Nat.le_of_ble_eq_true rfl, Nat.le_of_ble_eq_true rfl⟩ ⟨rfl, rfl⟩ (Nat.zero_le _) (Nat.zero_le _) (zc_take_14_18 (S0 1085 ((S0 1098 p0.toNat).toNat)) S0 n hn G_S0 (by omega)) (fun S3 hP => ?_)
  obtain ⟨G_S3, fS3, o5, o6, o7, o8, o9, o10, o11, o12, o13, o14, o15, o16⟩ := hP
  have F_S3 := zz_fr.trans F_S0 fS3 rfl zz_nv
  refine zz_aload_n (x := 1079) rfl zd_14_35_15 ?_
  refine zz_getr (kd := 0) (z := 1091) zd_14_35_16 zf_Md_51 zT_1079 rfl (zz_ltn hn rfl) (zz_G.eq G_S3 1079 18 1091 rfl rfl) (by decide) 1091 rfl ?_
  refine zz_iload_n (x := p0) rfl zd_14_35_19 ?_
  refine zz_iconst zd_14_35_20 ?_
  refine zz_callSI [zi p0, zi 0] zd_14_35_21 zk_Md_275 rfl rfl ⟨Nat.le_of_ble_eq_true rfl, Nat.le_of_ble_eq_true rfl⟩ ⟨rfl, rfl⟩ (Nat.zero_le _) (Nat.zero_le _) (zc_popped_14_31 p0 0 S3 n hn G_S3 (by omega) (by omega)) (fun v18 S17 hP => ?_)
  obtain ⟨rfl, o19⟩ := hP
  have g20 := zz_G.r G_S0 1091 v18.toNat (-2147483648) 2147483647 rfl rfl
  refine zz_iald (z := S0 1091 v18.toNat) zd_14_35_24 zT_1091 rfl (zz_ltn hn rfl) (by decide) (by omega) (zz_rc fS3 (zz_nc1 rfl) rfl (fun h => h) rfl) ?_
  refine zz_aload_n (x := 1079) rfl zd_14_35_25 ?_
  refine zz_getr (kd := 0) (z := 1087) zd_14_35_26 zf_Md_36 zT_1079 rfl (zz_ltn hn rfl) (zz_G.eq G_S3 1079 11 1087 rfl rfl) (by decide) 1087 rfl ?_
  refine zz_iconst zd_14_35_29 ?_
  have g21 := zz_G.r G_S3 1087 1 (-2147483648) 2147483647 rfl rfl
  refine zz_iald (z := S3 1087 1) zd_14_35_30 zT_1087 rfl (zz_ltn hn rfl) (by decide) (by decide) rfl ?_
  refine zz_icmp_lt (by omega) (by omega) zd_14_35_31 (fun c22 => ?_) (fun c22 => ?_)
  · refine zz_iconst zd_14_35_57 ?_
    exact zz_zret zd_14_35_58 rfl (by omega) (Nat.zero_le _) (Nat.zero_le _) ⟨_, _, rfl, G_S3, F_S3, by omega⟩
  · refine zz_aload_n (x := 1079) rfl zd_14_35_34 ?_
    refine zz_getr (kd := 0) (z := 1091) zd_14_35_35 zf_Md_51 zT_1079 rfl (zz_ltn hn rfl) (zz_G.eq G_S3 1079 18 1091 rfl rfl) (by decide) 1091 rfl ?_
    refine zz_iload_n (x := p0) rfl zd_14_35_38 ?_
    refine zz_iconst zd_14_35_39 ?_
    refine zz_callSI [zi p0, zi 1] zd_14_35_40 zk_Md_275 rfl rfl ⟨Nat.le_of_ble_eq_true rfl, Nat.le_of_ble_eq_true rfl⟩ ⟨rfl, rfl⟩ (Nat.zero_le _) (Nat.zero_le _) (zc_popped_14_31 p0 1 S3 n hn G_S3 (by omega) (by omega)) (fun v24 S23 hP => ?_)
    obtain ⟨rfl, o25⟩ := hP
    have g26 := zz_G.r G_S0 1091 v24.toNat (-2147483648) 2147483647 rfl rfl
    refine zz_iald (z := S0 1091 v24.toNat) zd_14_35_43 zT_1091 rfl (zz_ltn hn rfl) (by decide) (by omega) (zz_rc fS3 (zz_nc1 rfl) rfl (fun h => h) rfl) ?_
    refine zz_aload_n (x := 1079) rfl zd_14_35_44 ?_
    refine zz_getr (kd := 0) (z := 1087) zd_14_35_45 zf_Md_36 zT_1079 rfl (zz_ltn hn rfl) (zz_G.eq G_S3 1079 11 1087 rfl rfl) (by decide) 1087 rfl ?_
    refine zz_iconst zd_14_35_48 ?_
    have g27 := zz_G.r G_S3 1087 2 (-2147483648) 2147483647 rfl rfl
    refine zz_iald (z := S3 1087 2) zd_14_35_49 zT_1087 rfl (zz_ltn hn rfl) (by decide) (by decide) rfl ?_
    refine zz_icmp_lt (by omega) (by omega) zd_14_35_50 (fun c28 => ?_) (fun c28 => ?_)
    · refine zz_iconst zd_14_35_57 ?_
      exact zz_zret zd_14_35_58 rfl (by omega) (Nat.zero_le _) (Nat.zero_le _) ⟨_, _, rfl, G_S3, F_S3, by omega⟩
    · refine zz_iconst zd_14_35_53 ?_
      refine zz_goto zd_14_35_54 ?_
      exact zz_zret zd_14_35_58 rfl (by omega) (Nat.zero_le _) (Nat.zero_le _) ⟨_, _, rfl, G_S3, F_S3, by omega⟩
abbrev zy_races_14_37 : mm_Y := (⟨"TensorForgeModel", "races", "(II)Z"⟩, prog_14_method_37_code, 7, (some .boolean))
theorem zyw_races_14_37 : mm_Yw zy_races_14_37 2 := ⟨mm_tb_1 1960 (by decide +kernel) rfl, mm_tb_1 12 (by decide +kernel) rfl, ⟨by decide, by decide⟩, by decide +kernel⟩
theorem zf_Md_127 : mm_Fl "TensorForgeModel" 127 11 58 (.array .int) true := ⟨R_Md, F_Md, 69, t_Md, rfl, i_Md, by decide, mm_tb_1 1669 (by decide +kernel) rfl, rfl, t_Md_ok, n_Md, rfl, by decide +kernel⟩
theorem zf_Md_130 : mm_Fl "TensorForgeModel" 130 11 59 (.array .int) true := ⟨R_Md, F_Md, 69, t_Md, rfl, i_Md, by decide, mm_tb_1 1670 (by decide +kernel) rfl, rfl, t_Md_ok, n_Md, rfl, by decide +kernel⟩
abbrev zy_meet_14_36 : mm_Y := (⟨"TensorForgeModel", "meet", "([I[II)Z"⟩, prog_14_method_36_code, 3, (some .boolean))
theorem zyw_meet_14_36 : mm_Yw zy_meet_14_36 3 := ⟨mm_tb_1 1963 (by decide +kernel) rfl, mm_tb_1 12 (by decide +kernel) rfl, ⟨by decide, by decide⟩, by decide +kernel⟩
theorem zg_14_37_0 : zq_at zy_races_14_37.2.1 0 42 ∧ zq_at zy_races_14_37.2.1 1 42 ∧ zq_at zy_races_14_37.2.1 2 180 ∧ zq_at zy_races_14_37.2.1 3 0 ∧ zq_at zy_races_14_37.2.1 4 29 ∧ zq_at zy_races_14_37.2.1 5 27 ∧ zq_at zy_races_14_37.2.1 6 47 ∧ zq_at zy_races_14_37.2.1 7 182 ∧ zq_at zy_races_14_37.2.1 8 0 ∧ zq_at zy_races_14_37.2.1 9 234 ∧ zq_at zy_races_14_37.2.1 10 42 ∧ zq_at zy_races_14_37.2.1 11 182 ∧ zq_at zy_races_14_37.2.1 12 0 ∧ zq_at zy_races_14_37.2.1 13 247 ∧ zq_at zy_races_14_37.2.1 14 3 ∧ zq_at zy_races_14_37.2.1 15 62 ∧ zq_at zy_races_14_37.2.1 16 29 ∧ zq_at zy_races_14_37.2.1 17 16 ∧ zq_at zy_races_14_37.2.1 18 10 ∧ zq_at zy_races_14_37.2.1 19 162 ∧ zq_at zy_races_14_37.2.1 20 0 ∧ zq_at zy_races_14_37.2.1 21 33 ∧ zq_at zy_races_14_37.2.1 22 42 := by decide +kernel
theorem zd_14_37_0 : zz_D zy_races_14_37 0 (.aload_n 0) 1 1 := ⟨zq_42 zg_14_37_0.1, rfl⟩
theorem zd_14_37_1 : zz_D zy_races_14_37 1 (.aload_n 0) 1 2 := ⟨zq_42 zg_14_37_0.2.1, rfl⟩
theorem zd_14_37_2 : zz_D zy_races_14_37 2 (.getfield 29) 3 5 := ⟨zq_180 zg_14_37_0.2.2.1 zg_14_37_0.2.2.2.1 zg_14_37_0.2.2.2.2.1 rfl, rfl⟩
theorem zd_14_37_5 : zz_D zy_races_14_37 5 (.iload_n 1) 1 6 := ⟨zq_27 zg_14_37_0.2.2.2.2.2.1, rfl⟩
theorem zd_14_37_6 : zz_D zy_races_14_37 6 (.laload) 1 7 := ⟨zq_47 zg_14_37_0.2.2.2.2.2.2.1, rfl⟩
theorem zd_14_37_7 : zz_D zy_races_14_37 7 (.invokevirtual 234) 3 10 := ⟨zq_182 zg_14_37_0.2.2.2.2.2.2.2.1 zg_14_37_0.2.2.2.2.2.2.2.2.1 zg_14_37_0.2.2.2.2.2.2.2.2.2.1 rfl, rfl⟩
theorem zd_14_37_10 : zz_D zy_races_14_37 10 (.aload_n 0) 1 11 := ⟨zq_42 zg_14_37_0.2.2.2.2.2.2.2.2.2.2.1, rfl⟩
theorem zd_14_37_11 : zz_D zy_races_14_37 11 (.invokevirtual 247) 3 14 := ⟨zq_182 zg_14_37_0.2.2.2.2.2.2.2.2.2.2.2.1 zg_14_37_0.2.2.2.2.2.2.2.2.2.2.2.2.1 zg_14_37_0.2.2.2.2.2.2.2.2.2.2.2.2.2.1 rfl, rfl⟩
theorem zd_14_37_14 : zz_D zy_races_14_37 14 (.iconst 0) 1 15 := ⟨zq_3 zg_14_37_0.2.2.2.2.2.2.2.2.2.2.2.2.2.2.1, rfl⟩
theorem zd_14_37_15 : zz_D zy_races_14_37 15 (.istore_n 3) 1 16 := ⟨zq_62 zg_14_37_0.2.2.2.2.2.2.2.2.2.2.2.2.2.2.2.1, rfl⟩
theorem zd_14_37_16 : zz_D zy_races_14_37 16 (.iload_n 3) 1 17 := ⟨zq_29 zg_14_37_0.2.2.2.2.2.2.2.2.2.2.2.2.2.2.2.2.1, rfl⟩
theorem zd_14_37_17 : zz_D zy_races_14_37 17 (.bipush 10) 2 19 := ⟨zq_16 zg_14_37_0.2.2.2.2.2.2.2.2.2.2.2.2.2.2.2.2.2.1 zg_14_37_0.2.2.2.2.2.2.2.2.2.2.2.2.2.2.2.2.2.2.1 (by decide), rfl⟩
theorem zd_14_37_19 : zz_B zy_races_14_37 19 (Instr.if_icmp .ge) 52 22 := ⟨33, zq_162 zg_14_37_0.2.2.2.2.2.2.2.2.2.2.2.2.2.2.2.2.2.2.2.1 zg_14_37_0.2.2.2.2.2.2.2.2.2.2.2.2.2.2.2.2.2.2.2.2.1 zg_14_37_0.2.2.2.2.2.2.2.2.2.2.2.2.2.2.2.2.2.2.2.2.2.1 (by decide), rfl, rfl⟩
theorem zd_14_37_22 : zz_D zy_races_14_37 22 (.aload_n 0) 1 23 := ⟨zq_42 zg_14_37_0.2.2.2.2.2.2.2.2.2.2.2.2.2.2.2.2.2.2.2.2.2.2, rfl⟩
theorem zg_14_37_23 : zq_at zy_races_14_37.2.1 23 180 ∧ zq_at zy_races_14_37.2.1 24 0 ∧ zq_at zy_races_14_37.2.1 25 127 ∧ zq_at zy_races_14_37.2.1 26 29 ∧ zq_at zy_races_14_37.2.1 27 42 ∧ zq_at zy_races_14_37.2.1 28 180 ∧ zq_at zy_races_14_37.2.1 29 0 ∧ zq_at zy_races_14_37.2.1 30 39 ∧ zq_at zy_races_14_37.2.1 31 29 ∧ zq_at zy_races_14_37.2.1 32 46 ∧ zq_at zy_races_14_37.2.1 33 79 ∧ zq_at zy_races_14_37.2.1 34 42 ∧ zq_at zy_races_14_37.2.1 35 180 ∧ zq_at zy_races_14_37.2.1 36 0 ∧ zq_at zy_races_14_37.2.1 37 130 ∧ zq_at zy_races_14_37.2.1 38 29 ∧ zq_at zy_races_14_37.2.1 39 42 ∧ zq_at zy_races_14_37.2.1 40 180 ∧ zq_at zy_races_14_37.2.1 41 0 ∧ zq_at zy_races_14_37.2.1 42 42 ∧ zq_at zy_races_14_37.2.1 43 29 ∧ zq_at zy_races_14_37.2.1 44 46 ∧ zq_at zy_races_14_37.2.1 45 79 := by decide +kernel
theorem zd_14_37_23 : zz_D zy_races_14_37 23 (.getfield 127) 3 26 := ⟨zq_180 zg_14_37_23.1 zg_14_37_23.2.1 zg_14_37_23.2.2.1 rfl, rfl⟩
theorem zd_14_37_26 : zz_D zy_races_14_37 26 (.iload_n 3) 1 27 := ⟨zq_29 zg_14_37_23.2.2.2.1, rfl⟩
theorem zd_14_37_27 : zz_D zy_races_14_37 27 (.aload_n 0) 1 28 := ⟨zq_42 zg_14_37_23.2.2.2.2.1, rfl⟩
theorem zd_14_37_28 : zz_D zy_races_14_37 28 (.getfield 39) 3 31 := ⟨zq_180 zg_14_37_23.2.2.2.2.2.1 zg_14_37_23.2.2.2.2.2.2.1 zg_14_37_23.2.2.2.2.2.2.2.1 rfl, rfl⟩
theorem zd_14_37_31 : zz_D zy_races_14_37 31 (.iload_n 3) 1 32 := ⟨zq_29 zg_14_37_23.2.2.2.2.2.2.2.2.1, rfl⟩
theorem zd_14_37_32 : zz_D zy_races_14_37 32 (.iaload) 1 33 := ⟨zq_46 zg_14_37_23.2.2.2.2.2.2.2.2.2.1, rfl⟩
theorem zd_14_37_33 : zz_D zy_races_14_37 33 (.iastore) 1 34 := ⟨zq_79 zg_14_37_23.2.2.2.2.2.2.2.2.2.2.1, rfl⟩
theorem zd_14_37_34 : zz_D zy_races_14_37 34 (.aload_n 0) 1 35 := ⟨zq_42 zg_14_37_23.2.2.2.2.2.2.2.2.2.2.2.1, rfl⟩
theorem zd_14_37_35 : zz_D zy_races_14_37 35 (.getfield 130) 3 38 := ⟨zq_180 zg_14_37_23.2.2.2.2.2.2.2.2.2.2.2.2.1 zg_14_37_23.2.2.2.2.2.2.2.2.2.2.2.2.2.1 zg_14_37_23.2.2.2.2.2.2.2.2.2.2.2.2.2.2.1 rfl, rfl⟩
theorem zd_14_37_38 : zz_D zy_races_14_37 38 (.iload_n 3) 1 39 := ⟨zq_29 zg_14_37_23.2.2.2.2.2.2.2.2.2.2.2.2.2.2.2.1, rfl⟩
theorem zd_14_37_39 : zz_D zy_races_14_37 39 (.aload_n 0) 1 40 := ⟨zq_42 zg_14_37_23.2.2.2.2.2.2.2.2.2.2.2.2.2.2.2.2.1, rfl⟩
theorem zd_14_37_40 : zz_D zy_races_14_37 40 (.getfield 42) 3 43 := ⟨zq_180 zg_14_37_23.2.2.2.2.2.2.2.2.2.2.2.2.2.2.2.2.2.1 zg_14_37_23.2.2.2.2.2.2.2.2.2.2.2.2.2.2.2.2.2.2.1 zg_14_37_23.2.2.2.2.2.2.2.2.2.2.2.2.2.2.2.2.2.2.2.1 rfl, rfl⟩
theorem zd_14_37_43 : zz_D zy_races_14_37 43 (.iload_n 3) 1 44 := ⟨zq_29 zg_14_37_23.2.2.2.2.2.2.2.2.2.2.2.2.2.2.2.2.2.2.2.2.1, rfl⟩
theorem zd_14_37_44 : zz_D zy_races_14_37 44 (.iaload) 1 45 := ⟨zq_46 zg_14_37_23.2.2.2.2.2.2.2.2.2.2.2.2.2.2.2.2.2.2.2.2.2.1, rfl⟩
theorem zd_14_37_45 : zz_D zy_races_14_37 45 (.iastore) 1 46 := ⟨zq_79 zg_14_37_23.2.2.2.2.2.2.2.2.2.2.2.2.2.2.2.2.2.2.2.2.2.2, rfl⟩
theorem zg_14_37_46 : zq_at zy_races_14_37.2.1 46 132 ∧ zq_at zy_races_14_37.2.1 47 3 ∧ zq_at zy_races_14_37.2.1 48 1 ∧ zq_at zy_races_14_37.2.1 49 167 ∧ zq_at zy_races_14_37.2.1 50 255 ∧ zq_at zy_races_14_37.2.1 51 223 ∧ zq_at zy_races_14_37.2.1 52 3 ∧ zq_at zy_races_14_37.2.1 53 62 ∧ zq_at zy_races_14_37.2.1 54 3 ∧ zq_at zy_races_14_37.2.1 55 54 ∧ zq_at zy_races_14_37.2.1 56 4 ∧ zq_at zy_races_14_37.2.1 57 21 ∧ zq_at zy_races_14_37.2.1 58 4 ∧ zq_at zy_races_14_37.2.1 59 6 ∧ zq_at zy_races_14_37.2.1 60 162 ∧ zq_at zy_races_14_37.2.1 61 0 ∧ zq_at zy_races_14_37.2.1 62 122 ∧ zq_at zy_races_14_37.2.1 63 42 ∧ zq_at zy_races_14_37.2.1 64 180 ∧ zq_at zy_races_14_37.2.1 65 0 ∧ zq_at zy_races_14_37.2.1 66 70 ∧ zq_at zy_races_14_37.2.1 67 21 ∧ zq_at zy_races_14_37.2.1 68 4 ∧ zq_at zy_races_14_37.2.1 69 46 := by decide +kernel
theorem zd_14_37_46 : zz_D zy_races_14_37 46 (.iinc 3 1) 3 49 := ⟨zq_132 zg_14_37_46.1 zg_14_37_46.2.1 zg_14_37_46.2.2.1 (by decide), rfl⟩
theorem zd_14_37_49 : zz_B zy_races_14_37 49 Instr.goto 16 52 := ⟨(-33), zq_167 zg_14_37_46.2.2.2.1 zg_14_37_46.2.2.2.2.1 zg_14_37_46.2.2.2.2.2.1 (by decide), rfl, rfl⟩
theorem zd_14_37_52 : zz_D zy_races_14_37 52 (.iconst 0) 1 53 := ⟨zq_3 zg_14_37_46.2.2.2.2.2.2.1, rfl⟩
theorem zd_14_37_53 : zz_D zy_races_14_37 53 (.istore_n 3) 1 54 := ⟨zq_62 zg_14_37_46.2.2.2.2.2.2.2.1, rfl⟩
theorem zd_14_37_54 : zz_D zy_races_14_37 54 (.iconst 0) 1 55 := ⟨zq_3 zg_14_37_46.2.2.2.2.2.2.2.2.1, rfl⟩
theorem zd_14_37_55 : zz_D zy_races_14_37 55 (.istore 4) 2 57 := ⟨zq_54 zg_14_37_46.2.2.2.2.2.2.2.2.2.1 zg_14_37_46.2.2.2.2.2.2.2.2.2.2.1, rfl⟩
theorem zd_14_37_57 : zz_D zy_races_14_37 57 (.iload 4) 2 59 := ⟨zq_21 zg_14_37_46.2.2.2.2.2.2.2.2.2.2.2.1 zg_14_37_46.2.2.2.2.2.2.2.2.2.2.2.2.1, rfl⟩
theorem zd_14_37_59 : zz_D zy_races_14_37 59 (.iconst 3) 1 60 := ⟨zq_6 zg_14_37_46.2.2.2.2.2.2.2.2.2.2.2.2.2.1, rfl⟩
theorem zd_14_37_60 : zz_B zy_races_14_37 60 (Instr.if_icmp .ge) 182 63 := ⟨122, zq_162 zg_14_37_46.2.2.2.2.2.2.2.2.2.2.2.2.2.2.1 zg_14_37_46.2.2.2.2.2.2.2.2.2.2.2.2.2.2.2.1 zg_14_37_46.2.2.2.2.2.2.2.2.2.2.2.2.2.2.2.2.1 (by decide), rfl, rfl⟩
theorem zd_14_37_63 : zz_D zy_races_14_37 63 (.aload_n 0) 1 64 := ⟨zq_42 zg_14_37_46.2.2.2.2.2.2.2.2.2.2.2.2.2.2.2.2.2.1, rfl⟩
theorem zd_14_37_64 : zz_D zy_races_14_37 64 (.getfield 70) 3 67 := ⟨zq_180 zg_14_37_46.2.2.2.2.2.2.2.2.2.2.2.2.2.2.2.2.2.2.1 zg_14_37_46.2.2.2.2.2.2.2.2.2.2.2.2.2.2.2.2.2.2.2.1 zg_14_37_46.2.2.2.2.2.2.2.2.2.2.2.2.2.2.2.2.2.2.2.2.1 rfl, rfl⟩
theorem zd_14_37_67 : zz_D zy_races_14_37 67 (.iload 4) 2 69 := ⟨zq_21 zg_14_37_46.2.2.2.2.2.2.2.2.2.2.2.2.2.2.2.2.2.2.2.2.2.1 zg_14_37_46.2.2.2.2.2.2.2.2.2.2.2.2.2.2.2.2.2.2.2.2.2.2.1, rfl⟩
theorem zd_14_37_69 : zz_D zy_races_14_37 69 (.iaload) 1 70 := ⟨zq_46 zg_14_37_46.2.2.2.2.2.2.2.2.2.2.2.2.2.2.2.2.2.2.2.2.2.2.2, rfl⟩
theorem zg_14_37_70 : zq_at zy_races_14_37.2.1 70 54 ∧ zq_at zy_races_14_37.2.1 71 5 ∧ zq_at zy_races_14_37.2.1 72 21 ∧ zq_at zy_races_14_37.2.1 73 5 ∧ zq_at zy_races_14_37.2.1 74 155 ∧ zq_at zy_races_14_37.2.1 75 0 ∧ zq_at zy_races_14_37.2.1 76 102 ∧ zq_at zy_races_14_37.2.1 176 132 ∧ zq_at zy_races_14_37.2.1 177 4 ∧ zq_at zy_races_14_37.2.1 178 1 ∧ zq_at zy_races_14_37.2.1 179 167 ∧ zq_at zy_races_14_37.2.1 180 255 ∧ zq_at zy_races_14_37.2.1 181 134 ∧ zq_at zy_races_14_37.2.1 77 42 ∧ zq_at zy_races_14_37.2.1 78 180 ∧ zq_at zy_races_14_37.2.1 79 0 ∧ zq_at zy_races_14_37.2.1 80 60 ∧ zq_at zy_races_14_37.2.1 81 21 ∧ zq_at zy_races_14_37.2.1 82 5 ∧ zq_at zy_races_14_37.2.1 83 46 ∧ zq_at zy_races_14_37.2.1 84 28 ∧ zq_at zy_races_14_37.2.1 85 164 ∧ zq_at zy_races_14_37.2.1 86 0 ∧ zq_at zy_races_14_37.2.1 87 91 := by decide +kernel
theorem zd_14_37_70 : zz_D zy_races_14_37 70 (.istore 5) 2 72 := ⟨zq_54 zg_14_37_70.1 zg_14_37_70.2.1, rfl⟩
theorem zd_14_37_72 : zz_D zy_races_14_37 72 (.iload 5) 2 74 := ⟨zq_21 zg_14_37_70.2.2.1 zg_14_37_70.2.2.2.1, rfl⟩
theorem zd_14_37_74 : zz_B zy_races_14_37 74 (Instr.ifCond .lt) 176 77 := ⟨102, zq_155 zg_14_37_70.2.2.2.2.1 zg_14_37_70.2.2.2.2.2.1 zg_14_37_70.2.2.2.2.2.2.1 (by decide), rfl, rfl⟩
theorem zd_14_37_176 : zz_D zy_races_14_37 176 (.iinc 4 1) 3 179 := ⟨zq_132 zg_14_37_70.2.2.2.2.2.2.2.1 zg_14_37_70.2.2.2.2.2.2.2.2.1 zg_14_37_70.2.2.2.2.2.2.2.2.2.1 (by decide), rfl⟩
theorem zd_14_37_179 : zz_B zy_races_14_37 179 Instr.goto 57 182 := ⟨(-122), zq_167 zg_14_37_70.2.2.2.2.2.2.2.2.2.2.1 zg_14_37_70.2.2.2.2.2.2.2.2.2.2.2.1 zg_14_37_70.2.2.2.2.2.2.2.2.2.2.2.2.1 (by decide), rfl, rfl⟩
theorem zd_14_37_77 : zz_D zy_races_14_37 77 (.aload_n 0) 1 78 := ⟨zq_42 zg_14_37_70.2.2.2.2.2.2.2.2.2.2.2.2.2.1, rfl⟩
theorem zd_14_37_78 : zz_D zy_races_14_37 78 (.getfield 60) 3 81 := ⟨zq_180 zg_14_37_70.2.2.2.2.2.2.2.2.2.2.2.2.2.2.1 zg_14_37_70.2.2.2.2.2.2.2.2.2.2.2.2.2.2.2.1 zg_14_37_70.2.2.2.2.2.2.2.2.2.2.2.2.2.2.2.2.1 rfl, rfl⟩
theorem zd_14_37_81 : zz_D zy_races_14_37 81 (.iload 5) 2 83 := ⟨zq_21 zg_14_37_70.2.2.2.2.2.2.2.2.2.2.2.2.2.2.2.2.2.1 zg_14_37_70.2.2.2.2.2.2.2.2.2.2.2.2.2.2.2.2.2.2.1, rfl⟩
theorem zd_14_37_83 : zz_D zy_races_14_37 83 (.iaload) 1 84 := ⟨zq_46 zg_14_37_70.2.2.2.2.2.2.2.2.2.2.2.2.2.2.2.2.2.2.2.1, rfl⟩
theorem zd_14_37_84 : zz_D zy_races_14_37 84 (.iload_n 2) 1 85 := ⟨zq_28 zg_14_37_70.2.2.2.2.2.2.2.2.2.2.2.2.2.2.2.2.2.2.2.2.1, rfl⟩
theorem zd_14_37_85 : zz_B zy_races_14_37 85 (Instr.if_icmp .le) 176 88 := ⟨91, zq_164 zg_14_37_70.2.2.2.2.2.2.2.2.2.2.2.2.2.2.2.2.2.2.2.2.2.1 zg_14_37_70.2.2.2.2.2.2.2.2.2.2.2.2.2.2.2.2.2.2.2.2.2.2.1 zg_14_37_70.2.2.2.2.2.2.2.2.2.2.2.2.2.2.2.2.2.2.2.2.2.2.2 (by decide), rfl, rfl⟩
theorem zg_14_37_88 : zq_at zy_races_14_37.2.1 88 42 ∧ zq_at zy_races_14_37.2.1 89 42 ∧ zq_at zy_races_14_37.2.1 90 180 ∧ zq_at zy_races_14_37.2.1 91 0 ∧ zq_at zy_races_14_37.2.1 92 29 ∧ zq_at zy_races_14_37.2.1 93 21 ∧ zq_at zy_races_14_37.2.1 94 5 ∧ zq_at zy_races_14_37.2.1 95 47 ∧ zq_at zy_races_14_37.2.1 96 182 ∧ zq_at zy_races_14_37.2.1 97 0 ∧ zq_at zy_races_14_37.2.1 98 234 ∧ zq_at zy_races_14_37.2.1 99 42 ∧ zq_at zy_races_14_37.2.1 100 182 ∧ zq_at zy_races_14_37.2.1 101 0 ∧ zq_at zy_races_14_37.2.1 102 247 ∧ zq_at zy_races_14_37.2.1 103 3 ∧ zq_at zy_races_14_37.2.1 104 54 ∧ zq_at zy_races_14_37.2.1 105 6 ∧ zq_at zy_races_14_37.2.1 106 21 ∧ zq_at zy_races_14_37.2.1 107 6 ∧ zq_at zy_races_14_37.2.1 108 8 ∧ zq_at zy_races_14_37.2.1 109 162 ∧ zq_at zy_races_14_37.2.1 110 0 ∧ zq_at zy_races_14_37.2.1 111 67 := by decide +kernel
theorem zd_14_37_88 : zz_D zy_races_14_37 88 (.aload_n 0) 1 89 := ⟨zq_42 zg_14_37_88.1, rfl⟩
theorem zd_14_37_89 : zz_D zy_races_14_37 89 (.aload_n 0) 1 90 := ⟨zq_42 zg_14_37_88.2.1, rfl⟩
theorem zd_14_37_90 : zz_D zy_races_14_37 90 (.getfield 29) 3 93 := ⟨zq_180 zg_14_37_88.2.2.1 zg_14_37_88.2.2.2.1 zg_14_37_88.2.2.2.2.1 rfl, rfl⟩
theorem zd_14_37_93 : zz_D zy_races_14_37 93 (.iload 5) 2 95 := ⟨zq_21 zg_14_37_88.2.2.2.2.2.1 zg_14_37_88.2.2.2.2.2.2.1, rfl⟩
theorem zd_14_37_95 : zz_D zy_races_14_37 95 (.laload) 1 96 := ⟨zq_47 zg_14_37_88.2.2.2.2.2.2.2.1, rfl⟩
theorem zd_14_37_96 : zz_D zy_races_14_37 96 (.invokevirtual 234) 3 99 := ⟨zq_182 zg_14_37_88.2.2.2.2.2.2.2.2.1 zg_14_37_88.2.2.2.2.2.2.2.2.2.1 zg_14_37_88.2.2.2.2.2.2.2.2.2.2.1 rfl, rfl⟩
theorem zd_14_37_99 : zz_D zy_races_14_37 99 (.aload_n 0) 1 100 := ⟨zq_42 zg_14_37_88.2.2.2.2.2.2.2.2.2.2.2.1, rfl⟩
theorem zd_14_37_100 : zz_D zy_races_14_37 100 (.invokevirtual 247) 3 103 := ⟨zq_182 zg_14_37_88.2.2.2.2.2.2.2.2.2.2.2.2.1 zg_14_37_88.2.2.2.2.2.2.2.2.2.2.2.2.2.1 zg_14_37_88.2.2.2.2.2.2.2.2.2.2.2.2.2.2.1 rfl, rfl⟩
theorem zd_14_37_103 : zz_D zy_races_14_37 103 (.iconst 0) 1 104 := ⟨zq_3 zg_14_37_88.2.2.2.2.2.2.2.2.2.2.2.2.2.2.2.1, rfl⟩
theorem zd_14_37_104 : zz_D zy_races_14_37 104 (.istore 6) 2 106 := ⟨zq_54 zg_14_37_88.2.2.2.2.2.2.2.2.2.2.2.2.2.2.2.2.1 zg_14_37_88.2.2.2.2.2.2.2.2.2.2.2.2.2.2.2.2.2.1, rfl⟩
theorem zd_14_37_106 : zz_D zy_races_14_37 106 (.iload 6) 2 108 := ⟨zq_21 zg_14_37_88.2.2.2.2.2.2.2.2.2.2.2.2.2.2.2.2.2.2.1 zg_14_37_88.2.2.2.2.2.2.2.2.2.2.2.2.2.2.2.2.2.2.2.1, rfl⟩
theorem zd_14_37_108 : zz_D zy_races_14_37 108 (.iconst 5) 1 109 := ⟨zq_8 zg_14_37_88.2.2.2.2.2.2.2.2.2.2.2.2.2.2.2.2.2.2.2.2.1, rfl⟩
theorem zd_14_37_109 : zz_B zy_races_14_37 109 (Instr.if_icmp .ge) 176 112 := ⟨67, zq_162 zg_14_37_88.2.2.2.2.2.2.2.2.2.2.2.2.2.2.2.2.2.2.2.2.2.1 zg_14_37_88.2.2.2.2.2.2.2.2.2.2.2.2.2.2.2.2.2.2.2.2.2.2.1 zg_14_37_88.2.2.2.2.2.2.2.2.2.2.2.2.2.2.2.2.2.2.2.2.2.2.2 (by decide), rfl, rfl⟩
theorem zg_14_37_112 : zq_at zy_races_14_37.2.1 112 29 ∧ zq_at zy_races_14_37.2.1 113 154 ∧ zq_at zy_races_14_37.2.1 114 0 ∧ zq_at zy_races_14_37.2.1 115 51 ∧ zq_at zy_races_14_37.2.1 116 42 ∧ zq_at zy_races_14_37.2.1 117 180 ∧ zq_at zy_races_14_37.2.1 118 0 ∧ zq_at zy_races_14_37.2.1 119 127 ∧ zq_at zy_races_14_37.2.1 120 42 ∧ zq_at zy_races_14_37.2.1 121 180 ∧ zq_at zy_races_14_37.2.1 122 0 ∧ zq_at zy_races_14_37.2.1 123 42 ∧ zq_at zy_races_14_37.2.1 124 21 ∧ zq_at zy_races_14_37.2.1 125 6 ∧ zq_at zy_races_14_37.2.1 126 184 ∧ zq_at zy_races_14_37.2.1 127 1 ∧ zq_at zy_races_14_37.2.1 128 22 := by decide +kernel
theorem zd_14_37_112 : zz_D zy_races_14_37 112 (.iload_n 3) 1 113 := ⟨zq_29 zg_14_37_112.1, rfl⟩
theorem zd_14_37_113 : zz_B zy_races_14_37 113 (Instr.ifCond .ne) 164 116 := ⟨51, zq_154 zg_14_37_112.2.1 zg_14_37_112.2.2.1 zg_14_37_112.2.2.2.1 (by decide), rfl, rfl⟩
theorem zd_14_37_116 : zz_D zy_races_14_37 116 (.aload_n 0) 1 117 := ⟨zq_42 zg_14_37_112.2.2.2.2.1, rfl⟩
theorem zd_14_37_117 : zz_D zy_races_14_37 117 (.getfield 127) 3 120 := ⟨zq_180 zg_14_37_112.2.2.2.2.2.1 zg_14_37_112.2.2.2.2.2.2.1 zg_14_37_112.2.2.2.2.2.2.2.1 rfl, rfl⟩
theorem zd_14_37_120 : zz_D zy_races_14_37 120 (.aload_n 0) 1 121 := ⟨zq_42 zg_14_37_112.2.2.2.2.2.2.2.2.1, rfl⟩
theorem zd_14_37_121 : zz_D zy_races_14_37 121 (.getfield 42) 3 124 := ⟨zq_180 zg_14_37_112.2.2.2.2.2.2.2.2.2.1 zg_14_37_112.2.2.2.2.2.2.2.2.2.2.1 zg_14_37_112.2.2.2.2.2.2.2.2.2.2.2.1 rfl, rfl⟩
theorem zd_14_37_124 : zz_D zy_races_14_37 124 (.iload 6) 2 126 := ⟨zq_21 zg_14_37_112.2.2.2.2.2.2.2.2.2.2.2.2.1 zg_14_37_112.2.2.2.2.2.2.2.2.2.2.2.2.2.1, rfl⟩
theorem zd_14_37_126 : zz_D zy_races_14_37 126 (.invokestatic 278) 3 129 := ⟨zq_184 zg_14_37_112.2.2.2.2.2.2.2.2.2.2.2.2.2.2.1 zg_14_37_112.2.2.2.2.2.2.2.2.2.2.2.2.2.2.2.1 zg_14_37_112.2.2.2.2.2.2.2.2.2.2.2.2.2.2.2.2 rfl, rfl⟩
theorem zg_14_36_0 : zq_at zy_meet_14_36.2.1 0 42 ∧ zq_at zy_meet_14_36.2.1 1 5 ∧ zq_at zy_meet_14_36.2.1 2 28 ∧ zq_at zy_meet_14_36.2.1 3 104 ∧ zq_at zy_meet_14_36.2.1 4 46 ∧ zq_at zy_meet_14_36.2.1 5 43 ∧ zq_at zy_meet_14_36.2.1 6 5 ∧ zq_at zy_meet_14_36.2.1 7 28 ∧ zq_at zy_meet_14_36.2.1 8 104 ∧ zq_at zy_meet_14_36.2.1 9 4 ∧ zq_at zy_meet_14_36.2.1 10 96 ∧ zq_at zy_meet_14_36.2.1 11 46 ∧ zq_at zy_meet_14_36.2.1 12 163 ∧ zq_at zy_meet_14_36.2.1 13 0 ∧ zq_at zy_meet_14_36.2.1 14 52 ∧ zq_at zy_meet_14_36.2.1 64 3 ∧ zq_at zy_meet_14_36.2.1 65 172 ∧ zq_at zy_meet_14_36.2.1 15 43 ∧ zq_at zy_meet_14_36.2.1 16 5 ∧ zq_at zy_meet_14_36.2.1 17 28 ∧ zq_at zy_meet_14_36.2.1 18 104 ∧ zq_at zy_meet_14_36.2.1 19 46 ∧ zq_at zy_meet_14_36.2.1 20 42 ∧ zq_at zy_meet_14_36.2.1 21 5 := by decide +kernel
theorem zd_14_36_0 : zz_D zy_meet_14_36 0 (.aload_n 0) 1 1 := ⟨zq_42 zg_14_36_0.1, rfl⟩
theorem zd_14_36_1 : zz_D zy_meet_14_36 1 (.iconst 2) 1 2 := ⟨zq_5 zg_14_36_0.2.1, rfl⟩
theorem zd_14_36_2 : zz_D zy_meet_14_36 2 (.iload_n 2) 1 3 := ⟨zq_28 zg_14_36_0.2.2.1, rfl⟩
theorem zd_14_36_3 : zz_D zy_meet_14_36 3 (.imul) 1 4 := ⟨zq_104 zg_14_36_0.2.2.2.1, rfl⟩
theorem zd_14_36_4 : zz_D zy_meet_14_36 4 (.iaload) 1 5 := ⟨zq_46 zg_14_36_0.2.2.2.2.1, rfl⟩
theorem zd_14_36_5 : zz_D zy_meet_14_36 5 (.aload_n 1) 1 6 := ⟨zq_43 zg_14_36_0.2.2.2.2.2.1, rfl⟩
theorem zd_14_36_6 : zz_D zy_meet_14_36 6 (.iconst 2) 1 7 := ⟨zq_5 zg_14_36_0.2.2.2.2.2.2.1, rfl⟩
theorem zd_14_36_7 : zz_D zy_meet_14_36 7 (.iload_n 2) 1 8 := ⟨zq_28 zg_14_36_0.2.2.2.2.2.2.2.1, rfl⟩
theorem zd_14_36_8 : zz_D zy_meet_14_36 8 (.imul) 1 9 := ⟨zq_104 zg_14_36_0.2.2.2.2.2.2.2.2.1, rfl⟩
theorem zd_14_36_9 : zz_D zy_meet_14_36 9 (.iconst 1) 1 10 := ⟨zq_4 zg_14_36_0.2.2.2.2.2.2.2.2.2.1, rfl⟩
theorem zd_14_36_10 : zz_D zy_meet_14_36 10 (.iadd) 1 11 := ⟨zq_96 zg_14_36_0.2.2.2.2.2.2.2.2.2.2.1, rfl⟩
theorem zd_14_36_11 : zz_D zy_meet_14_36 11 (.iaload) 1 12 := ⟨zq_46 zg_14_36_0.2.2.2.2.2.2.2.2.2.2.2.1, rfl⟩
theorem zd_14_36_12 : zz_B zy_meet_14_36 12 (Instr.if_icmp .gt) 64 15 := ⟨52, zq_163 zg_14_36_0.2.2.2.2.2.2.2.2.2.2.2.2.1 zg_14_36_0.2.2.2.2.2.2.2.2.2.2.2.2.2.1 zg_14_36_0.2.2.2.2.2.2.2.2.2.2.2.2.2.2.1 (by decide), rfl, rfl⟩
theorem zd_14_36_64 : zz_D zy_meet_14_36 64 (.iconst 0) 1 65 := ⟨zq_3 zg_14_36_0.2.2.2.2.2.2.2.2.2.2.2.2.2.2.2.1, rfl⟩
theorem zd_14_36_65 : zz_D zy_meet_14_36 65 (.ireturn) 1 66 := ⟨zq_172 zg_14_36_0.2.2.2.2.2.2.2.2.2.2.2.2.2.2.2.2.1, rfl⟩
theorem zd_14_36_15 : zz_D zy_meet_14_36 15 (.aload_n 1) 1 16 := ⟨zq_43 zg_14_36_0.2.2.2.2.2.2.2.2.2.2.2.2.2.2.2.2.2.1, rfl⟩
theorem zd_14_36_16 : zz_D zy_meet_14_36 16 (.iconst 2) 1 17 := ⟨zq_5 zg_14_36_0.2.2.2.2.2.2.2.2.2.2.2.2.2.2.2.2.2.2.1, rfl⟩
theorem zd_14_36_17 : zz_D zy_meet_14_36 17 (.iload_n 2) 1 18 := ⟨zq_28 zg_14_36_0.2.2.2.2.2.2.2.2.2.2.2.2.2.2.2.2.2.2.2.1, rfl⟩
theorem zd_14_36_18 : zz_D zy_meet_14_36 18 (.imul) 1 19 := ⟨zq_104 zg_14_36_0.2.2.2.2.2.2.2.2.2.2.2.2.2.2.2.2.2.2.2.2.1, rfl⟩
theorem zd_14_36_19 : zz_D zy_meet_14_36 19 (.iaload) 1 20 := ⟨zq_46 zg_14_36_0.2.2.2.2.2.2.2.2.2.2.2.2.2.2.2.2.2.2.2.2.2.1, rfl⟩
theorem zd_14_36_20 : zz_D zy_meet_14_36 20 (.aload_n 0) 1 21 := ⟨zq_42 zg_14_36_0.2.2.2.2.2.2.2.2.2.2.2.2.2.2.2.2.2.2.2.2.2.2.1, rfl⟩
theorem zd_14_36_21 : zz_D zy_meet_14_36 21 (.iconst 2) 1 22 := ⟨zq_5 zg_14_36_0.2.2.2.2.2.2.2.2.2.2.2.2.2.2.2.2.2.2.2.2.2.2.2, rfl⟩
theorem zg_14_36_22 : zq_at zy_meet_14_36.2.1 22 28 ∧ zq_at zy_meet_14_36.2.1 23 104 ∧ zq_at zy_meet_14_36.2.1 24 4 ∧ zq_at zy_meet_14_36.2.1 25 96 ∧ zq_at zy_meet_14_36.2.1 26 46 ∧ zq_at zy_meet_14_36.2.1 27 163 ∧ zq_at zy_meet_14_36.2.1 28 0 ∧ zq_at zy_meet_14_36.2.1 29 37 ∧ zq_at zy_meet_14_36.2.1 30 42 ∧ zq_at zy_meet_14_36.2.1 31 5 ∧ zq_at zy_meet_14_36.2.1 32 28 ∧ zq_at zy_meet_14_36.2.1 33 104 ∧ zq_at zy_meet_14_36.2.1 34 46 ∧ zq_at zy_meet_14_36.2.1 35 42 ∧ zq_at zy_meet_14_36.2.1 36 5 ∧ zq_at zy_meet_14_36.2.1 37 28 ∧ zq_at zy_meet_14_36.2.1 38 104 ∧ zq_at zy_meet_14_36.2.1 39 4 ∧ zq_at zy_meet_14_36.2.1 40 96 ∧ zq_at zy_meet_14_36.2.1 41 46 ∧ zq_at zy_meet_14_36.2.1 42 163 ∧ zq_at zy_meet_14_36.2.1 43 0 ∧ zq_at zy_meet_14_36.2.1 44 22 ∧ zq_at zy_meet_14_36.2.1 45 43 := by decide +kernel
theorem zd_14_36_22 : zz_D zy_meet_14_36 22 (.iload_n 2) 1 23 := ⟨zq_28 zg_14_36_22.1, rfl⟩
theorem zd_14_36_23 : zz_D zy_meet_14_36 23 (.imul) 1 24 := ⟨zq_104 zg_14_36_22.2.1, rfl⟩
theorem zd_14_36_24 : zz_D zy_meet_14_36 24 (.iconst 1) 1 25 := ⟨zq_4 zg_14_36_22.2.2.1, rfl⟩
theorem zd_14_36_25 : zz_D zy_meet_14_36 25 (.iadd) 1 26 := ⟨zq_96 zg_14_36_22.2.2.2.1, rfl⟩
theorem zd_14_36_26 : zz_D zy_meet_14_36 26 (.iaload) 1 27 := ⟨zq_46 zg_14_36_22.2.2.2.2.1, rfl⟩
theorem zd_14_36_27 : zz_B zy_meet_14_36 27 (Instr.if_icmp .gt) 64 30 := ⟨37, zq_163 zg_14_36_22.2.2.2.2.2.1 zg_14_36_22.2.2.2.2.2.2.1 zg_14_36_22.2.2.2.2.2.2.2.1 (by decide), rfl, rfl⟩
theorem zd_14_36_30 : zz_D zy_meet_14_36 30 (.aload_n 0) 1 31 := ⟨zq_42 zg_14_36_22.2.2.2.2.2.2.2.2.1, rfl⟩
theorem zd_14_36_31 : zz_D zy_meet_14_36 31 (.iconst 2) 1 32 := ⟨zq_5 zg_14_36_22.2.2.2.2.2.2.2.2.2.1, rfl⟩
theorem zd_14_36_32 : zz_D zy_meet_14_36 32 (.iload_n 2) 1 33 := ⟨zq_28 zg_14_36_22.2.2.2.2.2.2.2.2.2.2.1, rfl⟩
theorem zd_14_36_33 : zz_D zy_meet_14_36 33 (.imul) 1 34 := ⟨zq_104 zg_14_36_22.2.2.2.2.2.2.2.2.2.2.2.1, rfl⟩
theorem zd_14_36_34 : zz_D zy_meet_14_36 34 (.iaload) 1 35 := ⟨zq_46 zg_14_36_22.2.2.2.2.2.2.2.2.2.2.2.2.1, rfl⟩
theorem zd_14_36_35 : zz_D zy_meet_14_36 35 (.aload_n 0) 1 36 := ⟨zq_42 zg_14_36_22.2.2.2.2.2.2.2.2.2.2.2.2.2.1, rfl⟩
theorem zd_14_36_36 : zz_D zy_meet_14_36 36 (.iconst 2) 1 37 := ⟨zq_5 zg_14_36_22.2.2.2.2.2.2.2.2.2.2.2.2.2.2.1, rfl⟩
theorem zd_14_36_37 : zz_D zy_meet_14_36 37 (.iload_n 2) 1 38 := ⟨zq_28 zg_14_36_22.2.2.2.2.2.2.2.2.2.2.2.2.2.2.2.1, rfl⟩
theorem zd_14_36_38 : zz_D zy_meet_14_36 38 (.imul) 1 39 := ⟨zq_104 zg_14_36_22.2.2.2.2.2.2.2.2.2.2.2.2.2.2.2.2.1, rfl⟩
theorem zd_14_36_39 : zz_D zy_meet_14_36 39 (.iconst 1) 1 40 := ⟨zq_4 zg_14_36_22.2.2.2.2.2.2.2.2.2.2.2.2.2.2.2.2.2.1, rfl⟩
theorem zd_14_36_40 : zz_D zy_meet_14_36 40 (.iadd) 1 41 := ⟨zq_96 zg_14_36_22.2.2.2.2.2.2.2.2.2.2.2.2.2.2.2.2.2.2.1, rfl⟩
theorem zd_14_36_41 : zz_D zy_meet_14_36 41 (.iaload) 1 42 := ⟨zq_46 zg_14_36_22.2.2.2.2.2.2.2.2.2.2.2.2.2.2.2.2.2.2.2.1, rfl⟩
theorem zd_14_36_42 : zz_B zy_meet_14_36 42 (Instr.if_icmp .gt) 64 45 := ⟨22, zq_163 zg_14_36_22.2.2.2.2.2.2.2.2.2.2.2.2.2.2.2.2.2.2.2.2.1 zg_14_36_22.2.2.2.2.2.2.2.2.2.2.2.2.2.2.2.2.2.2.2.2.2.1 zg_14_36_22.2.2.2.2.2.2.2.2.2.2.2.2.2.2.2.2.2.2.2.2.2.2.1 (by decide), rfl, rfl⟩
theorem zd_14_36_45 : zz_D zy_meet_14_36 45 (.aload_n 1) 1 46 := ⟨zq_43 zg_14_36_22.2.2.2.2.2.2.2.2.2.2.2.2.2.2.2.2.2.2.2.2.2.2.2, rfl⟩
theorem zg_14_36_46 : zq_at zy_meet_14_36.2.1 46 5 ∧ zq_at zy_meet_14_36.2.1 47 28 ∧ zq_at zy_meet_14_36.2.1 48 104 ∧ zq_at zy_meet_14_36.2.1 49 46 ∧ zq_at zy_meet_14_36.2.1 50 43 ∧ zq_at zy_meet_14_36.2.1 51 5 ∧ zq_at zy_meet_14_36.2.1 52 28 ∧ zq_at zy_meet_14_36.2.1 53 104 ∧ zq_at zy_meet_14_36.2.1 54 4 ∧ zq_at zy_meet_14_36.2.1 55 96 ∧ zq_at zy_meet_14_36.2.1 56 46 ∧ zq_at zy_meet_14_36.2.1 57 163 ∧ zq_at zy_meet_14_36.2.1 58 0 ∧ zq_at zy_meet_14_36.2.1 59 7 ∧ zq_at zy_meet_14_36.2.1 60 4 ∧ zq_at zy_meet_14_36.2.1 61 167 ∧ zq_at zy_meet_14_36.2.1 62 0 ∧ zq_at zy_meet_14_36.2.1 63 4 := by decide +kernel
theorem zd_14_36_46 : zz_D zy_meet_14_36 46 (.iconst 2) 1 47 := ⟨zq_5 zg_14_36_46.1, rfl⟩
theorem zd_14_36_47 : zz_D zy_meet_14_36 47 (.iload_n 2) 1 48 := ⟨zq_28 zg_14_36_46.2.1, rfl⟩
theorem zd_14_36_48 : zz_D zy_meet_14_36 48 (.imul) 1 49 := ⟨zq_104 zg_14_36_46.2.2.1, rfl⟩
theorem zd_14_36_49 : zz_D zy_meet_14_36 49 (.iaload) 1 50 := ⟨zq_46 zg_14_36_46.2.2.2.1, rfl⟩
theorem zd_14_36_50 : zz_D zy_meet_14_36 50 (.aload_n 1) 1 51 := ⟨zq_43 zg_14_36_46.2.2.2.2.1, rfl⟩
theorem zd_14_36_51 : zz_D zy_meet_14_36 51 (.iconst 2) 1 52 := ⟨zq_5 zg_14_36_46.2.2.2.2.2.1, rfl⟩
theorem zd_14_36_52 : zz_D zy_meet_14_36 52 (.iload_n 2) 1 53 := ⟨zq_28 zg_14_36_46.2.2.2.2.2.2.1, rfl⟩
theorem zd_14_36_53 : zz_D zy_meet_14_36 53 (.imul) 1 54 := ⟨zq_104 zg_14_36_46.2.2.2.2.2.2.2.1, rfl⟩
theorem zd_14_36_54 : zz_D zy_meet_14_36 54 (.iconst 1) 1 55 := ⟨zq_4 zg_14_36_46.2.2.2.2.2.2.2.2.1, rfl⟩
theorem zd_14_36_55 : zz_D zy_meet_14_36 55 (.iadd) 1 56 := ⟨zq_96 zg_14_36_46.2.2.2.2.2.2.2.2.2.1, rfl⟩
theorem zd_14_36_56 : zz_D zy_meet_14_36 56 (.iaload) 1 57 := ⟨zq_46 zg_14_36_46.2.2.2.2.2.2.2.2.2.2.1, rfl⟩
theorem zd_14_36_57 : zz_B zy_meet_14_36 57 (Instr.if_icmp .gt) 64 60 := ⟨7, zq_163 zg_14_36_46.2.2.2.2.2.2.2.2.2.2.2.1 zg_14_36_46.2.2.2.2.2.2.2.2.2.2.2.2.1 zg_14_36_46.2.2.2.2.2.2.2.2.2.2.2.2.2.1 (by decide), rfl, rfl⟩
theorem zd_14_36_60 : zz_D zy_meet_14_36 60 (.iconst 1) 1 61 := ⟨zq_4 zg_14_36_46.2.2.2.2.2.2.2.2.2.2.2.2.2.2.1, rfl⟩
theorem zd_14_36_61 : zz_B zy_meet_14_36 61 Instr.goto 65 64 := ⟨4, zq_167 zg_14_36_46.2.2.2.2.2.2.2.2.2.2.2.2.2.2.2.1 zg_14_36_46.2.2.2.2.2.2.2.2.2.2.2.2.2.2.2.2.1 zg_14_36_46.2.2.2.2.2.2.2.2.2.2.2.2.2.2.2.2.2 (by decide), rfl, rfl⟩
-- TensorForgeModel meet ([I[II)Z
abbrev zr_meet_14_36_1115_1089 : Room := { frames := 0, cells := 0, slots := 0, locals := 0 }
def zp_meet_14_36_1115_1089 (p2 : Int) (S0 : zz_S) : Int → zz_S → Prop := fun r S => S0 = S ∧ (0 ≤ r ∧ r ≤ 1)
theorem zc_meet_14_36_1115_1089 {g : mm_G} {l : Launch} (p2 : Int) (S0 : zz_S) (n : Nat) (hn : zz_end ≤ n) (G_S0 : zz_G S0) (hp2 : 0 ≤ p2 ∧ p2 ≤ 4) : mm_Met g l zy_meet_14_36 zr_meet_14_36_1115_1089 [.ref 1115, .ref 1089, zi p2] (zz_M S0 n) n (zz_QI n (zp_meet_14_36_1115_1089 p2 S0)) := by
  refine zz_enter (by decide) (Nat.le_of_ble_eq_true rfl) (zz_less (ls1 := [some (.ref 1115), some (.ref 1089), some (zi p2)]) ⟨rfl, ⟨rfl, ⟨rfl, trivial⟩⟩⟩ ?_)
  refine zz_aload_n (x := 1115) rfl zd_14_36_0 ?_
  refine zz_iconst zd_14_36_1 ?_
  refine zz_iload_n (x := p2) rfl zd_14_36_2 ?_
  refine zz_imul zd_14_36_3 ?_
  have g1 := zz_G.r G_S0 1115 ((2 * p2).toNat) (-2147483648) 2147483647 rfl rfl
  refine zz_iald (z := S0 1115 ((2 * p2).toNat)) zd_14_36_4 zT_1115 rfl (zz_ltn hn rfl) (by decide) (by omega) rfl ?_
  refine zz_aload_n (x := 1089) rfl zd_14_36_5 ?_
  refine zz_iconst zd_14_36_6 ?_
  refine zz_iload_n (x := p2) rfl zd_14_36_7 ?_
  refine zz_imul zd_14_36_8 ?_
  refine zz_iconst zd_14_36_9 ?_
  refine zz_iadd zd_14_36_10 ?_
  have g2 := zz_G.r G_S0 1089 (((2 * p2) + 1).toNat) (-2147483648) 2147483647 rfl rfl
  refine zz_iald (z := S0 1089 (((2 * p2) + 1).toNat)) zd_14_36_11 zT_1089 rfl (zz_ltn hn rfl) (by decide) (by omega) rfl ?_
  refine zz_icmp_gt (by omega) (by omega) zd_14_36_12 (fun c3 => ?_) (fun c3 => ?_)
  · refine zz_iconst zd_14_36_64 ?_
    exact zz_zret zd_14_36_65 rfl (by omega) (Nat.zero_le _) (Nat.zero_le _) ⟨_, _, rfl, rfl, by omega⟩
  · refine zz_aload_n (x := 1089) rfl zd_14_36_15 ?_
    refine zz_iconst zd_14_36_16 ?_
    refine zz_iload_n (x := p2) rfl zd_14_36_17 ?_
    refine zz_imul zd_14_36_18 ?_
    have g4 := zz_G.r G_S0 1089 ((2 * p2).toNat) (-2147483648) 2147483647 rfl rfl
    refine zz_iald (z := S0 1089 ((2 * p2).toNat)) zd_14_36_19 zT_1089 rfl (zz_ltn hn rfl) (by decide) (by omega) rfl ?_
    refine zz_aload_n (x := 1115) rfl zd_14_36_20 ?_
    refine zz_iconst zd_14_36_21 ?_
    refine zz_iload_n (x := p2) rfl zd_14_36_22 ?_
    refine zz_imul zd_14_36_23 ?_
    refine zz_iconst zd_14_36_24 ?_
    refine zz_iadd zd_14_36_25 ?_
    have g5 := zz_G.r G_S0 1115 (((2 * p2) + 1).toNat) (-2147483648) 2147483647 rfl rfl
    refine zz_iald (z := S0 1115 (((2 * p2) + 1).toNat)) zd_14_36_26 zT_1115 rfl (zz_ltn hn rfl) (by decide) (by omega) rfl ?_
    refine zz_icmp_gt (by omega) (by omega) zd_14_36_27 (fun c6 => ?_) (fun c6 => ?_)
    · refine zz_iconst zd_14_36_64 ?_
      exact zz_zret zd_14_36_65 rfl (by omega) (Nat.zero_le _) (Nat.zero_le _) ⟨_, _, rfl, rfl, by omega⟩
    · refine zz_aload_n (x := 1115) rfl zd_14_36_30 ?_
      refine zz_iconst zd_14_36_31 ?_
      refine zz_iload_n (x := p2) rfl zd_14_36_32 ?_
      refine zz_imul zd_14_36_33 ?_
      refine zz_iald (z := S0 1115 ((2 * p2).toNat)) zd_14_36_34 zT_1115 rfl (zz_ltn hn rfl) (by decide) (by omega) rfl ?_
      refine zz_aload_n (x := 1115) rfl zd_14_36_35 ?_
      refine zz_iconst zd_14_36_36 ?_
      refine zz_iload_n (x := p2) rfl zd_14_36_37 ?_
      refine zz_imul zd_14_36_38 ?_
      refine zz_iconst zd_14_36_39 ?_
      refine zz_iadd zd_14_36_40 ?_
      refine zz_iald (z := S0 1115 (((2 * p2) + 1).toNat)) zd_14_36_41 zT_1115 rfl (zz_ltn hn rfl) (by decide) (by omega) rfl ?_
      refine zz_icmp_gt (by omega) (by omega) zd_14_36_42 (fun c7 => ?_) (fun c7 => ?_)
      · refine zz_iconst zd_14_36_64 ?_
        exact zz_zret zd_14_36_65 rfl (by omega) (Nat.zero_le _) (Nat.zero_le _) ⟨_, _, rfl, rfl, by omega⟩
      · refine zz_aload_n (x := 1089) rfl zd_14_36_45 ?_
        refine zz_iconst zd_14_36_46 ?_
        refine zz_iload_n (x := p2) rfl zd_14_36_47 ?_
        refine zz_imul zd_14_36_48 ?_
        refine zz_iald (z := S0 1089 ((2 * p2).toNat)) zd_14_36_49 zT_1089 rfl (zz_ltn hn rfl) (by decide) (by omega) rfl ?_
        refine zz_aload_n (x := 1089) rfl zd_14_36_50 ?_
        refine zz_iconst zd_14_36_51 ?_
        refine zz_iload_n (x := p2) rfl zd_14_36_52 ?_
        refine zz_imul zd_14_36_53 ?_
        refine zz_iconst zd_14_36_54 ?_
        refine zz_iadd zd_14_36_55 ?_
        refine zz_iald (z := S0 1089 (((2 * p2) + 1).toNat)) zd_14_36_56 zT_1089 rfl (zz_ltn hn rfl) (by decide) (by omega) rfl ?_
        refine zz_icmp_gt (by omega) (by omega) zd_14_36_57 (fun c8 => ?_) (fun c8 => ?_)
        · refine zz_iconst zd_14_36_64 ?_
          exact zz_zret zd_14_36_65 rfl (by omega) (Nat.zero_le _) (Nat.zero_le _) ⟨_, _, rfl, rfl, by omega⟩
        · refine zz_iconst zd_14_36_60 ?_
          refine zz_goto zd_14_36_61 ?_
          exact zz_zret zd_14_36_65 rfl (by omega) (Nat.zero_le _) (Nat.zero_le _) ⟨_, _, rfl, rfl, by omega⟩
theorem zk_Md_278 : mm_Sl "TensorForgeModel" 278 3 zy_meet_14_36 := ⟨zyw_meet_14_36, mm_tb_1 1961 (by decide +kernel) rfl, mm_tb_1 1962 (by decide +kernel) rfl⟩
theorem zg_14_37_129 : zq_at zy_races_14_37.2.1 129 154 ∧ zq_at zy_races_14_37.2.1 130 0 ∧ zq_at zy_races_14_37.2.1 131 35 ∧ zq_at zy_races_14_37.2.1 132 42 ∧ zq_at zy_races_14_37.2.1 133 180 ∧ zq_at zy_races_14_37.2.1 134 0 ∧ zq_at zy_races_14_37.2.1 135 130 ∧ zq_at zy_races_14_37.2.1 136 42 ∧ zq_at zy_races_14_37.2.1 137 180 ∧ zq_at zy_races_14_37.2.1 138 0 ∧ zq_at zy_races_14_37.2.1 139 42 ∧ zq_at zy_races_14_37.2.1 140 21 ∧ zq_at zy_races_14_37.2.1 141 6 ∧ zq_at zy_races_14_37.2.1 142 184 ∧ zq_at zy_races_14_37.2.1 143 1 ∧ zq_at zy_races_14_37.2.1 144 22 := by decide +kernel
theorem zd_14_37_129 : zz_B zy_races_14_37 129 (Instr.ifCond .ne) 164 132 := ⟨35, zq_154 zg_14_37_129.1 zg_14_37_129.2.1 zg_14_37_129.2.2.1 (by decide), rfl, rfl⟩
theorem zd_14_37_132 : zz_D zy_races_14_37 132 (.aload_n 0) 1 133 := ⟨zq_42 zg_14_37_129.2.2.2.1, rfl⟩
theorem zd_14_37_133 : zz_D zy_races_14_37 133 (.getfield 130) 3 136 := ⟨zq_180 zg_14_37_129.2.2.2.2.1 zg_14_37_129.2.2.2.2.2.1 zg_14_37_129.2.2.2.2.2.2.1 rfl, rfl⟩
theorem zd_14_37_136 : zz_D zy_races_14_37 136 (.aload_n 0) 1 137 := ⟨zq_42 zg_14_37_129.2.2.2.2.2.2.2.1, rfl⟩
theorem zd_14_37_137 : zz_D zy_races_14_37 137 (.getfield 42) 3 140 := ⟨zq_180 zg_14_37_129.2.2.2.2.2.2.2.2.1 zg_14_37_129.2.2.2.2.2.2.2.2.2.1 zg_14_37_129.2.2.2.2.2.2.2.2.2.2.1 rfl, rfl⟩
theorem zd_14_37_140 : zz_D zy_races_14_37 140 (.iload 6) 2 142 := ⟨zq_21 zg_14_37_129.2.2.2.2.2.2.2.2.2.2.2.1 zg_14_37_129.2.2.2.2.2.2.2.2.2.2.2.2.1, rfl⟩
theorem zd_14_37_142 : zz_D zy_races_14_37 142 (.invokestatic 278) 3 145 := ⟨zq_184 zg_14_37_129.2.2.2.2.2.2.2.2.2.2.2.2.2.1 zg_14_37_129.2.2.2.2.2.2.2.2.2.2.2.2.2.2.1 zg_14_37_129.2.2.2.2.2.2.2.2.2.2.2.2.2.2.2 rfl, rfl⟩
-- TensorForgeModel meet ([I[II)Z
abbrev zr_meet_14_36_1116_1089 : Room := { frames := 0, cells := 0, slots := 0, locals := 0 }
def zp_meet_14_36_1116_1089 (p2 : Int) (S0 : zz_S) : Int → zz_S → Prop := fun r S => S0 = S ∧ (0 ≤ r ∧ r ≤ 1)
theorem zc_meet_14_36_1116_1089 {g : mm_G} {l : Launch} (p2 : Int) (S0 : zz_S) (n : Nat) (hn : zz_end ≤ n) (G_S0 : zz_G S0) (hp2 : 0 ≤ p2 ∧ p2 ≤ 4) : mm_Met g l zy_meet_14_36 zr_meet_14_36_1116_1089 [.ref 1116, .ref 1089, zi p2] (zz_M S0 n) n (zz_QI n (zp_meet_14_36_1116_1089 p2 S0)) := by
  refine zz_enter (by decide) (Nat.le_of_ble_eq_true rfl) (zz_less (ls1 := [some (.ref 1116), some (.ref 1089), some (zi p2)]) ⟨rfl, ⟨rfl, ⟨rfl, trivial⟩⟩⟩ ?_)
  refine zz_aload_n (x := 1116) rfl zd_14_36_0 ?_
  refine zz_iconst zd_14_36_1 ?_
  refine zz_iload_n (x := p2) rfl zd_14_36_2 ?_
  refine zz_imul zd_14_36_3 ?_
  have g1 := zz_G.r G_S0 1116 ((2 * p2).toNat) (-2147483648) 2147483647 rfl rfl
  refine zz_iald (z := S0 1116 ((2 * p2).toNat)) zd_14_36_4 zT_1116 rfl (zz_ltn hn rfl) (by decide) (by omega) rfl ?_
  refine zz_aload_n (x := 1089) rfl zd_14_36_5 ?_
  refine zz_iconst zd_14_36_6 ?_
  refine zz_iload_n (x := p2) rfl zd_14_36_7 ?_
  refine zz_imul zd_14_36_8 ?_
  refine zz_iconst zd_14_36_9 ?_
  refine zz_iadd zd_14_36_10 ?_
  have g2 := zz_G.r G_S0 1089 (((2 * p2) + 1).toNat) (-2147483648) 2147483647 rfl rfl
  refine zz_iald (z := S0 1089 (((2 * p2) + 1).toNat)) zd_14_36_11 zT_1089 rfl (zz_ltn hn rfl) (by decide) (by omega) rfl ?_
  refine zz_icmp_gt (by omega) (by omega) zd_14_36_12 (fun c3 => ?_) (fun c3 => ?_)
  · refine zz_iconst zd_14_36_64 ?_
    exact zz_zret zd_14_36_65 rfl (by omega) (Nat.zero_le _) (Nat.zero_le _) ⟨_, _, rfl, rfl, by omega⟩
  · refine zz_aload_n (x := 1089) rfl zd_14_36_15 ?_
    refine zz_iconst zd_14_36_16 ?_
    refine zz_iload_n (x := p2) rfl zd_14_36_17 ?_
    refine zz_imul zd_14_36_18 ?_
    have g4 := zz_G.r G_S0 1089 ((2 * p2).toNat) (-2147483648) 2147483647 rfl rfl
    refine zz_iald (z := S0 1089 ((2 * p2).toNat)) zd_14_36_19 zT_1089 rfl (zz_ltn hn rfl) (by decide) (by omega) rfl ?_
    refine zz_aload_n (x := 1116) rfl zd_14_36_20 ?_
    refine zz_iconst zd_14_36_21 ?_
    refine zz_iload_n (x := p2) rfl zd_14_36_22 ?_
    refine zz_imul zd_14_36_23 ?_
    refine zz_iconst zd_14_36_24 ?_
    refine zz_iadd zd_14_36_25 ?_
    have g5 := zz_G.r G_S0 1116 (((2 * p2) + 1).toNat) (-2147483648) 2147483647 rfl rfl
    refine zz_iald (z := S0 1116 (((2 * p2) + 1).toNat)) zd_14_36_26 zT_1116 rfl (zz_ltn hn rfl) (by decide) (by omega) rfl ?_
    refine zz_icmp_gt (by omega) (by omega) zd_14_36_27 (fun c6 => ?_) (fun c6 => ?_)
    · refine zz_iconst zd_14_36_64 ?_
      exact zz_zret zd_14_36_65 rfl (by omega) (Nat.zero_le _) (Nat.zero_le _) ⟨_, _, rfl, rfl, by omega⟩
    · refine zz_aload_n (x := 1116) rfl zd_14_36_30 ?_
      refine zz_iconst zd_14_36_31 ?_
      refine zz_iload_n (x := p2) rfl zd_14_36_32 ?_
      refine zz_imul zd_14_36_33 ?_
      refine zz_iald (z := S0 1116 ((2 * p2).toNat)) zd_14_36_34 zT_1116 rfl (zz_ltn hn rfl) (by decide) (by omega) rfl ?_
      refine zz_aload_n (x := 1116) rfl zd_14_36_35 ?_
      refine zz_iconst zd_14_36_36 ?_
      refine zz_iload_n (x := p2) rfl zd_14_36_37 ?_
      refine zz_imul zd_14_36_38 ?_
      refine zz_iconst zd_14_36_39 ?_
      refine zz_iadd zd_14_36_40 ?_
      refine zz_iald (z := S0 1116 (((2 * p2) + 1).toNat)) zd_14_36_41 zT_1116 rfl (zz_ltn hn rfl) (by decide) (by omega) rfl ?_
      refine zz_icmp_gt (by omega) (by omega) zd_14_36_42 (fun c7 => ?_) (fun c7 => ?_)
      · refine zz_iconst zd_14_36_64 ?_
        exact zz_zret zd_14_36_65 rfl (by omega) (Nat.zero_le _) (Nat.zero_le _) ⟨_, _, rfl, rfl, by omega⟩
      · refine zz_aload_n (x := 1089) rfl zd_14_36_45 ?_
        refine zz_iconst zd_14_36_46 ?_
        refine zz_iload_n (x := p2) rfl zd_14_36_47 ?_
        refine zz_imul zd_14_36_48 ?_
        refine zz_iald (z := S0 1089 ((2 * p2).toNat)) zd_14_36_49 zT_1089 rfl (zz_ltn hn rfl) (by decide) (by omega) rfl ?_
        refine zz_aload_n (x := 1089) rfl zd_14_36_50 ?_
        refine zz_iconst zd_14_36_51 ?_
        refine zz_iload_n (x := p2) rfl zd_14_36_52 ?_
        refine zz_imul zd_14_36_53 ?_
        refine zz_iconst zd_14_36_54 ?_
        refine zz_iadd zd_14_36_55 ?_
        refine zz_iald (z := S0 1089 (((2 * p2) + 1).toNat)) zd_14_36_56 zT_1089 rfl (zz_ltn hn rfl) (by decide) (by omega) rfl ?_
        refine zz_icmp_gt (by omega) (by omega) zd_14_36_57 (fun c8 => ?_) (fun c8 => ?_)
        · refine zz_iconst zd_14_36_64 ?_
          exact zz_zret zd_14_36_65 rfl (by omega) (Nat.zero_le _) (Nat.zero_le _) ⟨_, _, rfl, rfl, by omega⟩
        · refine zz_iconst zd_14_36_60 ?_
          refine zz_goto zd_14_36_61 ?_
          exact zz_zret zd_14_36_65 rfl (by omega) (Nat.zero_le _) (Nat.zero_le _) ⟨_, _, rfl, rfl, by omega⟩
theorem zg_14_37_145 : zq_at zy_races_14_37.2.1 145 154 ∧ zq_at zy_races_14_37.2.1 146 0 ∧ zq_at zy_races_14_37.2.1 147 19 ∧ zq_at zy_races_14_37.2.1 148 42 ∧ zq_at zy_races_14_37.2.1 149 180 ∧ zq_at zy_races_14_37.2.1 150 0 ∧ zq_at zy_races_14_37.2.1 151 130 ∧ zq_at zy_races_14_37.2.1 152 42 ∧ zq_at zy_races_14_37.2.1 153 180 ∧ zq_at zy_races_14_37.2.1 154 0 ∧ zq_at zy_races_14_37.2.1 155 39 ∧ zq_at zy_races_14_37.2.1 156 21 ∧ zq_at zy_races_14_37.2.1 157 6 ∧ zq_at zy_races_14_37.2.1 158 184 ∧ zq_at zy_races_14_37.2.1 159 1 ∧ zq_at zy_races_14_37.2.1 160 22 := by decide +kernel
theorem zd_14_37_145 : zz_B zy_races_14_37 145 (Instr.ifCond .ne) 164 148 := ⟨19, zq_154 zg_14_37_145.1 zg_14_37_145.2.1 zg_14_37_145.2.2.1 (by decide), rfl, rfl⟩
theorem zd_14_37_148 : zz_D zy_races_14_37 148 (.aload_n 0) 1 149 := ⟨zq_42 zg_14_37_145.2.2.2.1, rfl⟩
theorem zd_14_37_149 : zz_D zy_races_14_37 149 (.getfield 130) 3 152 := ⟨zq_180 zg_14_37_145.2.2.2.2.1 zg_14_37_145.2.2.2.2.2.1 zg_14_37_145.2.2.2.2.2.2.1 rfl, rfl⟩
theorem zd_14_37_152 : zz_D zy_races_14_37 152 (.aload_n 0) 1 153 := ⟨zq_42 zg_14_37_145.2.2.2.2.2.2.2.1, rfl⟩
theorem zd_14_37_153 : zz_D zy_races_14_37 153 (.getfield 39) 3 156 := ⟨zq_180 zg_14_37_145.2.2.2.2.2.2.2.2.1 zg_14_37_145.2.2.2.2.2.2.2.2.2.1 zg_14_37_145.2.2.2.2.2.2.2.2.2.2.1 rfl, rfl⟩
theorem zd_14_37_156 : zz_D zy_races_14_37 156 (.iload 6) 2 158 := ⟨zq_21 zg_14_37_145.2.2.2.2.2.2.2.2.2.2.2.1 zg_14_37_145.2.2.2.2.2.2.2.2.2.2.2.2.1, rfl⟩
theorem zd_14_37_158 : zz_D zy_races_14_37 158 (.invokestatic 278) 3 161 := ⟨zq_184 zg_14_37_145.2.2.2.2.2.2.2.2.2.2.2.2.2.1 zg_14_37_145.2.2.2.2.2.2.2.2.2.2.2.2.2.2.1 zg_14_37_145.2.2.2.2.2.2.2.2.2.2.2.2.2.2.2 rfl, rfl⟩
-- TensorForgeModel meet ([I[II)Z
abbrev zr_meet_14_36_1116_1088 : Room := { frames := 0, cells := 0, slots := 0, locals := 0 }
def zp_meet_14_36_1116_1088 (p2 : Int) (S0 : zz_S) : Int → zz_S → Prop := fun r S => S0 = S ∧ (0 ≤ r ∧ r ≤ 1)
theorem zc_meet_14_36_1116_1088 {g : mm_G} {l : Launch} (p2 : Int) (S0 : zz_S) (n : Nat) (hn : zz_end ≤ n) (G_S0 : zz_G S0) (hp2 : 0 ≤ p2 ∧ p2 ≤ 4) : mm_Met g l zy_meet_14_36 zr_meet_14_36_1116_1088 [.ref 1116, .ref 1088, zi p2] (zz_M S0 n) n (zz_QI n (zp_meet_14_36_1116_1088 p2 S0)) := by
  refine zz_enter (by decide) (Nat.le_of_ble_eq_true rfl) (zz_less (ls1 := [some (.ref 1116), some (.ref 1088), some (zi p2)]) ⟨rfl, ⟨rfl, ⟨rfl, trivial⟩⟩⟩ ?_)
  refine zz_aload_n (x := 1116) rfl zd_14_36_0 ?_
  refine zz_iconst zd_14_36_1 ?_
  refine zz_iload_n (x := p2) rfl zd_14_36_2 ?_
  refine zz_imul zd_14_36_3 ?_
  have g1 := zz_G.r G_S0 1116 ((2 * p2).toNat) (-2147483648) 2147483647 rfl rfl
  refine zz_iald (z := S0 1116 ((2 * p2).toNat)) zd_14_36_4 zT_1116 rfl (zz_ltn hn rfl) (by decide) (by omega) rfl ?_
  refine zz_aload_n (x := 1088) rfl zd_14_36_5 ?_
  refine zz_iconst zd_14_36_6 ?_
  refine zz_iload_n (x := p2) rfl zd_14_36_7 ?_
  refine zz_imul zd_14_36_8 ?_
  refine zz_iconst zd_14_36_9 ?_
  refine zz_iadd zd_14_36_10 ?_
  have g2 := zz_G.r G_S0 1088 (((2 * p2) + 1).toNat) (-2147483648) 2147483647 rfl rfl
  refine zz_iald (z := S0 1088 (((2 * p2) + 1).toNat)) zd_14_36_11 zT_1088 rfl (zz_ltn hn rfl) (by decide) (by omega) rfl ?_
  refine zz_icmp_gt (by omega) (by omega) zd_14_36_12 (fun c3 => ?_) (fun c3 => ?_)
  · refine zz_iconst zd_14_36_64 ?_
    exact zz_zret zd_14_36_65 rfl (by omega) (Nat.zero_le _) (Nat.zero_le _) ⟨_, _, rfl, rfl, by omega⟩
  · refine zz_aload_n (x := 1088) rfl zd_14_36_15 ?_
    refine zz_iconst zd_14_36_16 ?_
    refine zz_iload_n (x := p2) rfl zd_14_36_17 ?_
    refine zz_imul zd_14_36_18 ?_
    have g4 := zz_G.r G_S0 1088 ((2 * p2).toNat) (-2147483648) 2147483647 rfl rfl
    refine zz_iald (z := S0 1088 ((2 * p2).toNat)) zd_14_36_19 zT_1088 rfl (zz_ltn hn rfl) (by decide) (by omega) rfl ?_
    refine zz_aload_n (x := 1116) rfl zd_14_36_20 ?_
    refine zz_iconst zd_14_36_21 ?_
    refine zz_iload_n (x := p2) rfl zd_14_36_22 ?_
    refine zz_imul zd_14_36_23 ?_
    refine zz_iconst zd_14_36_24 ?_
    refine zz_iadd zd_14_36_25 ?_
    have g5 := zz_G.r G_S0 1116 (((2 * p2) + 1).toNat) (-2147483648) 2147483647 rfl rfl
    refine zz_iald (z := S0 1116 (((2 * p2) + 1).toNat)) zd_14_36_26 zT_1116 rfl (zz_ltn hn rfl) (by decide) (by omega) rfl ?_
    refine zz_icmp_gt (by omega) (by omega) zd_14_36_27 (fun c6 => ?_) (fun c6 => ?_)
    · refine zz_iconst zd_14_36_64 ?_
      exact zz_zret zd_14_36_65 rfl (by omega) (Nat.zero_le _) (Nat.zero_le _) ⟨_, _, rfl, rfl, by omega⟩
    · refine zz_aload_n (x := 1116) rfl zd_14_36_30 ?_
      refine zz_iconst zd_14_36_31 ?_
      refine zz_iload_n (x := p2) rfl zd_14_36_32 ?_
      refine zz_imul zd_14_36_33 ?_
      refine zz_iald (z := S0 1116 ((2 * p2).toNat)) zd_14_36_34 zT_1116 rfl (zz_ltn hn rfl) (by decide) (by omega) rfl ?_
      refine zz_aload_n (x := 1116) rfl zd_14_36_35 ?_
      refine zz_iconst zd_14_36_36 ?_
      refine zz_iload_n (x := p2) rfl zd_14_36_37 ?_
      refine zz_imul zd_14_36_38 ?_
      refine zz_iconst zd_14_36_39 ?_
      refine zz_iadd zd_14_36_40 ?_
      refine zz_iald (z := S0 1116 (((2 * p2) + 1).toNat)) zd_14_36_41 zT_1116 rfl (zz_ltn hn rfl) (by decide) (by omega) rfl ?_
      refine zz_icmp_gt (by omega) (by omega) zd_14_36_42 (fun c7 => ?_) (fun c7 => ?_)
      · refine zz_iconst zd_14_36_64 ?_
        exact zz_zret zd_14_36_65 rfl (by omega) (Nat.zero_le _) (Nat.zero_le _) ⟨_, _, rfl, rfl, by omega⟩
      · refine zz_aload_n (x := 1088) rfl zd_14_36_45 ?_
        refine zz_iconst zd_14_36_46 ?_
        refine zz_iload_n (x := p2) rfl zd_14_36_47 ?_
        refine zz_imul zd_14_36_48 ?_
        refine zz_iald (z := S0 1088 ((2 * p2).toNat)) zd_14_36_49 zT_1088 rfl (zz_ltn hn rfl) (by decide) (by omega) rfl ?_
        refine zz_aload_n (x := 1088) rfl zd_14_36_50 ?_
        refine zz_iconst zd_14_36_51 ?_
        refine zz_iload_n (x := p2) rfl zd_14_36_52 ?_
        refine zz_imul zd_14_36_53 ?_
        refine zz_iconst zd_14_36_54 ?_
        refine zz_iadd zd_14_36_55 ?_
        refine zz_iald (z := S0 1088 (((2 * p2) + 1).toNat)) zd_14_36_56 zT_1088 rfl (zz_ltn hn rfl) (by decide) (by omega) rfl ?_
        refine zz_icmp_gt (by omega) (by omega) zd_14_36_57 (fun c8 => ?_) (fun c8 => ?_)
        · refine zz_iconst zd_14_36_64 ?_
          exact zz_zret zd_14_36_65 rfl (by omega) (Nat.zero_le _) (Nat.zero_le _) ⟨_, _, rfl, rfl, by omega⟩
        · refine zz_iconst zd_14_36_60 ?_
          refine zz_goto zd_14_36_61 ?_
          exact zz_zret zd_14_36_65 rfl (by omega) (Nat.zero_le _) (Nat.zero_le _) ⟨_, _, rfl, rfl, by omega⟩
theorem zg_14_37_161 : zq_at zy_races_14_37.2.1 161 153 ∧ zq_at zy_races_14_37.2.1 162 0 ∧ zq_at zy_races_14_37.2.1 163 7 ∧ zq_at zy_races_14_37.2.1 168 3 ∧ zq_at zy_races_14_37.2.1 169 62 ∧ zq_at zy_races_14_37.2.1 170 132 ∧ zq_at zy_races_14_37.2.1 171 6 ∧ zq_at zy_races_14_37.2.1 172 1 ∧ zq_at zy_races_14_37.2.1 173 167 ∧ zq_at zy_races_14_37.2.1 174 255 ∧ zq_at zy_races_14_37.2.1 175 189 ∧ zq_at zy_races_14_37.2.1 164 4 ∧ zq_at zy_races_14_37.2.1 165 167 ∧ zq_at zy_races_14_37.2.1 166 0 ∧ zq_at zy_races_14_37.2.1 167 4 ∧ zq_at zy_races_14_37.2.1 182 42 ∧ zq_at zy_races_14_37.2.1 183 42 ∧ zq_at zy_races_14_37.2.1 184 180 ∧ zq_at zy_races_14_37.2.1 185 0 ∧ zq_at zy_races_14_37.2.1 186 29 ∧ zq_at zy_races_14_37.2.1 187 27 ∧ zq_at zy_races_14_37.2.1 188 47 := by decide +kernel
theorem zd_14_37_161 : zz_B zy_races_14_37 161 (Instr.ifCond .eq) 168 164 := ⟨7, zq_153 zg_14_37_161.1 zg_14_37_161.2.1 zg_14_37_161.2.2.1 (by decide), rfl, rfl⟩
theorem zd_14_37_168 : zz_D zy_races_14_37 168 (.iconst 0) 1 169 := ⟨zq_3 zg_14_37_161.2.2.2.1, rfl⟩
theorem zd_14_37_169 : zz_D zy_races_14_37 169 (.istore_n 3) 1 170 := ⟨zq_62 zg_14_37_161.2.2.2.2.1, rfl⟩
theorem zd_14_37_170 : zz_D zy_races_14_37 170 (.iinc 6 1) 3 173 := ⟨zq_132 zg_14_37_161.2.2.2.2.2.1 zg_14_37_161.2.2.2.2.2.2.1 zg_14_37_161.2.2.2.2.2.2.2.1 (by decide), rfl⟩
theorem zd_14_37_173 : zz_B zy_races_14_37 173 Instr.goto 106 176 := ⟨(-67), zq_167 zg_14_37_161.2.2.2.2.2.2.2.2.1 zg_14_37_161.2.2.2.2.2.2.2.2.2.1 zg_14_37_161.2.2.2.2.2.2.2.2.2.2.1 (by decide), rfl, rfl⟩
theorem zd_14_37_164 : zz_D zy_races_14_37 164 (.iconst 1) 1 165 := ⟨zq_4 zg_14_37_161.2.2.2.2.2.2.2.2.2.2.2.1, rfl⟩
theorem zd_14_37_165 : zz_B zy_races_14_37 165 Instr.goto 169 168 := ⟨4, zq_167 zg_14_37_161.2.2.2.2.2.2.2.2.2.2.2.2.1 zg_14_37_161.2.2.2.2.2.2.2.2.2.2.2.2.2.1 zg_14_37_161.2.2.2.2.2.2.2.2.2.2.2.2.2.2.1 (by decide), rfl, rfl⟩
theorem zd_14_37_182 : zz_D zy_races_14_37 182 (.aload_n 0) 1 183 := ⟨zq_42 zg_14_37_161.2.2.2.2.2.2.2.2.2.2.2.2.2.2.2.1, rfl⟩
theorem zd_14_37_183 : zz_D zy_races_14_37 183 (.aload_n 0) 1 184 := ⟨zq_42 zg_14_37_161.2.2.2.2.2.2.2.2.2.2.2.2.2.2.2.2.1, rfl⟩
theorem zd_14_37_184 : zz_D zy_races_14_37 184 (.getfield 29) 3 187 := ⟨zq_180 zg_14_37_161.2.2.2.2.2.2.2.2.2.2.2.2.2.2.2.2.2.1 zg_14_37_161.2.2.2.2.2.2.2.2.2.2.2.2.2.2.2.2.2.2.1 zg_14_37_161.2.2.2.2.2.2.2.2.2.2.2.2.2.2.2.2.2.2.2.1 rfl, rfl⟩
theorem zd_14_37_187 : zz_D zy_races_14_37 187 (.iload_n 1) 1 188 := ⟨zq_27 zg_14_37_161.2.2.2.2.2.2.2.2.2.2.2.2.2.2.2.2.2.2.2.2.1, rfl⟩
theorem zd_14_37_188 : zz_D zy_races_14_37 188 (.laload) 1 189 := ⟨zq_47 zg_14_37_161.2.2.2.2.2.2.2.2.2.2.2.2.2.2.2.2.2.2.2.2.2, rfl⟩
theorem zg_14_37_189 : zq_at zy_races_14_37.2.1 189 182 ∧ zq_at zy_races_14_37.2.1 190 0 ∧ zq_at zy_races_14_37.2.1 191 234 ∧ zq_at zy_races_14_37.2.1 192 29 ∧ zq_at zy_races_14_37.2.1 193 172 := by decide +kernel
theorem zd_14_37_189 : zz_D zy_races_14_37 189 (.invokevirtual 234) 3 192 := ⟨zq_182 zg_14_37_189.1 zg_14_37_189.2.1 zg_14_37_189.2.2.1 rfl, rfl⟩
theorem zd_14_37_192 : zz_D zy_races_14_37 192 (.iload_n 3) 1 193 := ⟨zq_29 zg_14_37_189.2.2.2.1, rfl⟩
theorem zd_14_37_193 : zz_D zy_races_14_37 193 (.ireturn) 1 194 := ⟨zq_172 zg_14_37_189.2.2.2.2, rfl⟩
-- TensorForgeModel races (II)Z
abbrev zr_races_14_37 : Room := { frames := 3, cells := 0, slots := 0, locals := 49 }
def zp_races_14_37 (p0 : Int) (p1 : Int) (S0 : zz_S) : Int → zz_S → Prop := fun r S => zz_G S ∧ zz_fr [(1087, 0), (1087, 1), (1087, 2), (1087, 3), (1087, 4), (1087, 5), (1087, 6), (1087, 7), (1087, 8), (1087, 9), (1087, 10), (1087, 11), (1088, 0), (1088, 1), (1088, 2), (1088, 3), (1088, 4), (1088, 5), (1088, 6), (1088, 7), (1088, 8), (1088, 9), (1089, 0), (1089, 1), (1089, 2), (1089, 3), (1089, 4), (1089, 5), (1089, 6), (1089, 7), (1089, 8), (1089, 9)] [1115, 1116] (fun _ _ => False) S0 S ∧ (0 ≤ r ∧ r ≤ 1)
theorem zb_races_14_37_16 {g : mm_G} {l : Launch} (p0 : Int) (p1 : Int) (S0 : zz_S) (n : Nat) (hn : zz_end ≤ n) (G_S0 : zz_G S0) (hp0 : 0 ≤ p0 ∧ p0 ≤ 600) (hp1 : (-2147483648) ≤ p1 ∧ p1 ≤ 2147483647) (x3 : Int) (S : zz_S) (G_S : zz_G S) (F_S : zz_fr [(1087, 0), (1087, 1), (1087, 2), (1087, 3), (1087, 4), (1087, 5), (1087, 6), (1087, 7), (1087, 8), (1087, 9), (1087, 10), (1087, 11), (1088, 0), (1088, 1), (1088, 2), (1088, 3), (1088, 4), (1088, 5), (1088, 6), (1088, 7), (1088, 8), (1088, 9), (1089, 0), (1089, 1), (1089, 2), (1089, 3), (1089, 4), (1089, 5), (1089, 6), (1089, 7), (1089, 8), (1089, 9)] [1115, 1116] (fun _ _ => False) S0 S) (i16_0 : 0 ≤ x3 ∧ x3 ≤ 10) (R : Nat) (hR : (51539607552 + (10 - x3).toNat) * 1099511627776 + 1099511627775 = R) (k16 : ∀ (x3 : Int) (S : zz_S), zz_G S → zz_fr [(1087, 0), (1087, 1), (1087, 2), (1087, 3), (1087, 4), (1087, 5), (1087, 6), (1087, 7), (1087, 8), (1087, 9), (1087, 10), (1087, 11), (1088, 0), (1088, 1), (1088, 2), (1088, 3), (1088, 4), (1088, 5), (1088, 6), (1088, 7), (1088, 8), (1088, 9), (1089, 0), (1089, 1), (1089, 2), (1089, 3), (1089, 4), (1089, 5), (1089, 6), (1089, 7), (1089, 8), (1089, 9)] [1115, 1116] (fun _ _ => False) S0 S → (0 ≤ x3 ∧ x3 ≤ 10) → (51539607552 + (10 - x3).toNat) * 1099511627776 + 1099511627775 < R → zz_E g l zy_races_14_37 zr_races_14_37 (zz_QI n (zp_races_14_37 p0 p1 S0)) S n 16 [some (.ref 1079), some (zi p0), some (zi p1), some (zi x3)] [] 0 0) (k57 : ∀ (x3 : Int) (x4 : Int) (S : zz_S), zz_G S → zz_fr [(1087, 0), (1087, 1), (1087, 2), (1087, 3), (1087, 4), (1087, 5), (1087, 6), (1087, 7), (1087, 8), (1087, 9), (1087, 10), (1087, 11), (1088, 0), (1088, 1), (1088, 2), (1088, 3), (1088, 4), (1088, 5), (1088, 6), (1088, 7), (1088, 8), (1088, 9), (1089, 0), (1089, 1), (1089, 2), (1089, 3), (1089, 4), (1089, 5), (1089, 6), (1089, 7), (1089, 8), (1089, 9)] [1115, 1116] (fun _ _ => False) S0 S → (0 ≤ x3 ∧ x3 ≤ 1) → (0 ≤ x4 ∧ x4 ≤ 3) → (34359738368 + (3 - x4).toNat) * 1099511627776 + 1099511627775 < R → zz_E g l zy_races_14_37 zr_races_14_37 (zz_QI n (zp_races_14_37 p0 p1 S0)) S n 57 [some (.ref 1079), some (zi p0), some (zi p1), some (zi x3), some (zi x4)] [] 0 0) : zz_E g l zy_races_14_37 zr_races_14_37 (zz_QI n (zp_races_14_37 p0 p1 S0)) S n 16 [some (.ref 1079), some (zi p0), some (zi p1), some (zi x3)] [] 0 0 := by
  refine zz_iload_n (x := x3) rfl zd_14_37_16 ?_
  refine zz_bipush (by decide) zd_14_37_17 ?_
  refine zz_icmp_ge (by omega) (by omega) zd_14_37_19 (fun c41 => ?_) (fun c41 => ?_)
  · refine zz_iconst zd_14_37_52 ?_
    refine zz_istore_n [some (.ref 1079), some (zi p0), some (zi p1), some (zi 0)] zd_14_37_53 (by decide) rfl ?_
    refine zz_iconst zd_14_37_54 ?_
    refine zz_istore [some (.ref 1079), some (zi p0), some (zi p1), some (zi 0), some (zi 0)] zd_14_37_55 (by decide) rfl ?_
    refine zz_less (ls1 := [some (.ref 1079), some (zi p0), some (zi p1), some (zi 0), some (zi 0)]) ⟨rfl, ⟨rfl, ⟨rfl, ⟨rfl, ⟨rfl, trivial⟩⟩⟩⟩⟩ ?_
    exact k57 0 0 S G_S F_S (by omega) (by omega) (by omega)
  · refine zz_aload_n (x := 1079) rfl zd_14_37_22 ?_
    refine zz_getr (kd := 0) (z := 1115) zd_14_37_23 zf_Md_127 zT_1079 rfl (zz_ltn hn rfl) (zz_G.eq G_S 1079 58 1115 rfl rfl) (by decide) 1115 rfl ?_
    refine zz_iload_n (x := x3) rfl zd_14_37_26 ?_
    refine zz_aload_n (x := 1079) rfl zd_14_37_27 ?_
    refine zz_getr (kd := 0) (z := 1088) zd_14_37_28 zf_Md_39 zT_1079 rfl (zz_ltn hn rfl) (zz_G.eq G_S 1079 12 1088 rfl rfl) (by decide) 1088 rfl ?_
    refine zz_iload_n (x := x3) rfl zd_14_37_31 ?_
    have g42 := zz_G.r G_S 1088 x3.toNat (-2147483648) 2147483647 rfl rfl
    refine zz_iald (z := S 1088 x3.toNat) zd_14_37_32 zT_1088 rfl (zz_ltn hn rfl) (by decide) (by omega) rfl ?_
    refine zz_iast zd_14_37_33 zT_1115 rfl (zz_ltn hn rfl) (by decide) (by omega) (fun S43 qS43 => ?_)
    have G_S43 := zz_G.put G_S qS43 (-2147483648) 2147483647 rfl (by omega)
    have F_S43 := zz_fr.putc F_S qS43 rfl
    refine zz_aload_n (x := 1079) rfl zd_14_37_34 ?_
    refine zz_getr (kd := 0) (z := 1116) zd_14_37_35 zf_Md_130 zT_1079 rfl (zz_ltn hn rfl) (zz_G.eq G_S43 1079 59 1116 rfl rfl) (by decide) 1116 rfl ?_
    refine zz_iload_n (x := x3) rfl zd_14_37_38 ?_
    refine zz_aload_n (x := 1079) rfl zd_14_37_39 ?_
    refine zz_getr (kd := 0) (z := 1089) zd_14_37_40 zf_Md_42 zT_1079 rfl (zz_ltn hn rfl) (zz_G.eq G_S43 1079 13 1089 rfl rfl) (by decide) 1089 rfl ?_
    refine zz_iload_n (x := x3) rfl zd_14_37_43 ?_
    have g44 := zz_G.r G_S 1089 x3.toNat (-2147483648) 2147483647 rfl rfl
    refine zz_iald (z := S 1089 x3.toNat) zd_14_37_44 zT_1089 rfl (zz_ltn hn rfl) (by decide) (by omega) (zz_ro qS43 (fun h => absurd h.1 (by decide)) rfl) ?_
    refine zz_iast zd_14_37_45 zT_1116 rfl (zz_ltn hn rfl) (by decide) (by omega) (fun S45 qS45 => ?_)
    have G_S45 := zz_G.put G_S43 qS45 (-2147483648) 2147483647 rfl (by omega)
    have F_S45 := zz_fr.putc F_S43 qS45 rfl
    refine zz_iinc [some (.ref 1079), some (zi p0), some (zi p1), some (zi (x3 + 1))] zd_14_37_46 rfl rfl ?_
    refine zz_goto zd_14_37_49 ?_
    refine zz_less (ls1 := [some (.ref 1079), some (zi p0), some (zi p1), some (zi (x3 + 1))]) ⟨rfl, ⟨rfl, ⟨rfl, ⟨rfl, trivial⟩⟩⟩⟩ ?_
    exact k16 (x3 + 1) S45 G_S45 F_S45 (by omega) (by omega)
theorem zb_races_14_37_57 {g : mm_G} {l : Launch} (p0 : Int) (p1 : Int) (S0 : zz_S) (n : Nat) (hn : zz_end ≤ n) (G_S0 : zz_G S0) (hp0 : 0 ≤ p0 ∧ p0 ≤ 600) (hp1 : (-2147483648) ≤ p1 ∧ p1 ≤ 2147483647) (x3 : Int) (x4 : Int) (S : zz_S) (G_S : zz_G S) (F_S : zz_fr [(1087, 0), (1087, 1), (1087, 2), (1087, 3), (1087, 4), (1087, 5), (1087, 6), (1087, 7), (1087, 8), (1087, 9), (1087, 10), (1087, 11), (1088, 0), (1088, 1), (1088, 2), (1088, 3), (1088, 4), (1088, 5), (1088, 6), (1088, 7), (1088, 8), (1088, 9), (1089, 0), (1089, 1), (1089, 2), (1089, 3), (1089, 4), (1089, 5), (1089, 6), (1089, 7), (1089, 8), (1089, 9)] [1115, 1116] (fun _ _ => False) S0 S) (i57_0 : 0 ≤ x3 ∧ x3 ≤ 1) (i57_1 : 0 ≤ x4 ∧ x4 ≤ 3) (R : Nat) (hR : (34359738368 + (3 - x4).toNat) * 1099511627776 + 1099511627775 = R) (k57 : ∀ (x3 : Int) (x4 : Int) (S : zz_S), zz_G S → zz_fr [(1087, 0), (1087, 1), (1087, 2), (1087, 3), (1087, 4), (1087, 5), (1087, 6), (1087, 7), (1087, 8), (1087, 9), (1087, 10), (1087, 11), (1088, 0), (1088, 1), (1088, 2), (1088, 3), (1088, 4), (1088, 5), (1088, 6), (1088, 7), (1088, 8), (1088, 9), (1089, 0), (1089, 1), (1089, 2), (1089, 3), (1089, 4), (1089, 5), (1089, 6), (1089, 7), (1089, 8), (1089, 9)] [1115, 1116] (fun _ _ => False) S0 S → (0 ≤ x3 ∧ x3 ≤ 1) → (0 ≤ x4 ∧ x4 ≤ 3) → (34359738368 + (3 - x4).toNat) * 1099511627776 + 1099511627775 < R → zz_E g l zy_races_14_37 zr_races_14_37 (zz_QI n (zp_races_14_37 p0 p1 S0)) S n 57 [some (.ref 1079), some (zi p0), some (zi p1), some (zi x3), some (zi x4)] [] 0 0) (k106 : ∀ (x3 : Int) (x4 : Int) (x6 : Int) (S : zz_S), zz_G S → zz_fr [(1087, 0), (1087, 1), (1087, 2), (1087, 3), (1087, 4), (1087, 5), (1087, 6), (1087, 7), (1087, 8), (1087, 9), (1087, 10), (1087, 11), (1088, 0), (1088, 1), (1088, 2), (1088, 3), (1088, 4), (1088, 5), (1088, 6), (1088, 7), (1088, 8), (1088, 9), (1089, 0), (1089, 1), (1089, 2), (1089, 3), (1089, 4), (1089, 5), (1089, 6), (1089, 7), (1089, 8), (1089, 9)] [1115, 1116] (fun _ _ => False) S0 S → (0 ≤ x3 ∧ x3 ≤ 1) → (0 ≤ x4 ∧ x4 ≤ 2) → (0 ≤ x6 ∧ x6 ≤ 5) → (0 ≤ x4 ∧ x4 ≤ 3) → (x4 < 3) → ((-2147483648) ≤ p1 ∧ p1 ≤ 2147483646) → (34359738368 + (3 - x4).toNat) * 1099511627776 + (17179869184 + (5 - x6).toNat) < R → zz_E g l zy_races_14_37 zr_races_14_37 (zz_QI n (zp_races_14_37 p0 p1 S0)) S n 106 [some (.ref 1079), some (zi p0), some (zi p1), some (zi x3), some (zi x4), none, some (zi x6)] [] 0 0) : zz_E g l zy_races_14_37 zr_races_14_37 (zz_QI n (zp_races_14_37 p0 p1 S0)) S n 57 [some (.ref 1079), some (zi p0), some (zi p1), some (zi x3), some (zi x4)] [] 0 0 := by
  refine zz_iload (x := x4) rfl zd_14_37_57 ?_
  refine zz_iconst zd_14_37_59 ?_
  refine zz_icmp_ge (by omega) (by omega) zd_14_37_60 (fun c46 => ?_) (fun c46 => ?_)
  · refine zz_aload_n (x := 1079) rfl zd_14_37_182 ?_
    refine zz_aload_n (x := 1079) rfl zd_14_37_183 ?_
    refine zz_getr (kd := 0) (z := 1085) zd_14_37_184 zf_Md_29 zT_1079 rfl (zz_ltn hn rfl) (zz_G.eq G_S 1079 8 1085 rfl rfl) (by decide) 1085 rfl ?_
    refine zz_iload_n (x := p0) rfl zd_14_37_187 ?_
    have g47 := zz_G.r G_S0 1085 p0.toNat (-9223372036854775808) 9223372036854775807 rfl rfl
    refine zz_lald (z := S0 1085 p0.toNat) zd_14_37_188 zT_1085 rfl (zz_ltn hn rfl) (by decide) (by omega) (zz_rc F_S (zz_nc1 rfl) rfl (fun h => h) rfl) ?_
    have g48 := zz_G.r G_S 1087 0 (-2147483648) 2147483647 rfl rfl
    have g49 := zz_G.r G_S 1087 1 (-2147483648) 2147483647 rfl rfl
    have g50 := zz_G.r G_S 1087 2 (-2147483648) 2147483647 rfl rfl
    have g51 := zz_G.r G_S 1087 3 (-2147483648) 2147483647 rfl rfl
    have g52 := zz_G.r G_S 1087 4 (-2147483648) 2147483647 rfl rfl
    have g53 := zz_G.r G_S 1087 5 (-2147483648) 2147483647 rfl rfl
    have g54 := zz_G.r G_S 1087 6 (-2147483648) 2147483647 rfl rfl
    have g55 := zz_G.r G_S 1087 7 (-2147483648) 2147483647 rfl rfl
    have g56 := zz_G.r G_S 1087 8 (-2147483648) 2147483647 rfl rfl
    have g57 := zz_G.r G_S 1087 9 (-2147483648) 2147483647 rfl rfl
    have g58 := zz_G.r G_S 1087 10 (-2147483648) 2147483647 rfl rfl
    have g59 := zz_G.r G_S 1087 11 (-2147483648) 2147483647 rfl rfl
    refine zz_callVV [zl (S0 1085 p0.toNat)] zd_14_37_189 zk_Md_234 zT_1079 (zz_ltn hn rfl) rfl rfl ⟨Nat.le_of_ble_eq_true rfl, Nat.le_of_ble_eq_true rfl⟩ ⟨rfl, rfl⟩ (Nat.zero_le _) (Nat.zero_le _) (zc_take_14_18 (S0 1085 p0.toNat) S n hn G_S (by omega)) (fun S60 hP => ?_)
    obtain ⟨G_S60, fS60, o62, o63, o64, o65, o66, o67, o68, o69, o70, o71, o72, o73⟩ := hP
    have F_S60 := zz_fr.trans F_S fS60 rfl zz_nv
    refine zz_iload_n (x := x3) rfl zd_14_37_192 ?_
    exact zz_zret zd_14_37_193 rfl (by omega) (Nat.zero_le _) (Nat.zero_le _) ⟨_, _, rfl, G_S60, F_S60, by omega⟩
  · refine zz_aload_n (x := 1079) rfl zd_14_37_63 ?_
    refine zz_getr (kd := 0) (z := 1097) zd_14_37_64 zf_Md_70 zT_1079 rfl (zz_ltn hn rfl) (zz_G.eq G_S 1079 25 1097 rfl rfl) (by decide) 1097 rfl ?_
    refine zz_iload (x := x4) rfl zd_14_37_67 ?_
    have g74 := zz_G.r G_S0 1097 x4.toNat (-1) 600 rfl rfl
    refine zz_iald (z := S0 1097 x4.toNat) zd_14_37_69 zT_1097 rfl (zz_ltn hn rfl) (by decide) (by omega) (zz_rc F_S (zz_nc1 rfl) rfl (fun h => h) rfl) ?_
    refine zz_istore [some (.ref 1079), some (zi p0), some (zi p1), some (zi x3), some (zi x4), some (zi (S0 1097 x4.toNat))] zd_14_37_70 (by decide) rfl ?_
    refine zz_iload (x := S0 1097 x4.toNat) rfl zd_14_37_72 ?_
    refine zz_if_lt (by omega) zd_14_37_74 (fun c75 => ?_) (fun c75 => ?_)
    · refine zz_iinc [some (.ref 1079), some (zi p0), some (zi p1), some (zi x3), some (zi (x4 + 1)), some (zi (S0 1097 x4.toNat))] zd_14_37_176 rfl rfl ?_
      refine zz_goto zd_14_37_179 ?_
      refine zz_less (ls1 := [some (.ref 1079), some (zi p0), some (zi p1), some (zi x3), some (zi (x4 + 1))]) ⟨rfl, ⟨rfl, ⟨rfl, ⟨rfl, ⟨rfl, trivial⟩⟩⟩⟩⟩ ?_
      exact k57 x3 (x4 + 1) S G_S F_S (by omega) (by omega) (by omega)
    · refine zz_aload_n (x := 1079) rfl zd_14_37_77 ?_
      refine zz_getr (kd := 0) (z := 1094) zd_14_37_78 zf_Md_60 zT_1079 rfl (zz_ltn hn rfl) (zz_G.eq G_S 1079 22 1094 rfl rfl) (by decide) 1094 rfl ?_
      refine zz_iload (x := S0 1097 x4.toNat) rfl zd_14_37_81 ?_
      have g76 := zz_G.r G_S0 1094 ((S0 1097 x4.toNat).toNat) (-2147483648) 2147483647 rfl rfl
      refine zz_iald (z := S0 1094 ((S0 1097 x4.toNat).toNat)) zd_14_37_83 zT_1094 rfl (zz_ltn hn rfl) (by decide) (by omega) (zz_rc F_S (zz_nc1 rfl) rfl (fun h => h) rfl) ?_
      refine zz_iload_n (x := p1) rfl zd_14_37_84 ?_
      refine zz_icmp_le (by omega) (by omega) zd_14_37_85 (fun c77 => ?_) (fun c77 => ?_)
      · refine zz_iinc [some (.ref 1079), some (zi p0), some (zi p1), some (zi x3), some (zi (x4 + 1)), some (zi (S0 1097 x4.toNat))] zd_14_37_176 rfl rfl ?_
        refine zz_goto zd_14_37_179 ?_
        refine zz_less (ls1 := [some (.ref 1079), some (zi p0), some (zi p1), some (zi x3), some (zi (x4 + 1))]) ⟨rfl, ⟨rfl, ⟨rfl, ⟨rfl, ⟨rfl, trivial⟩⟩⟩⟩⟩ ?_
        exact k57 x3 (x4 + 1) S G_S F_S (by omega) (by omega) (by omega)
      · refine zz_aload_n (x := 1079) rfl zd_14_37_88 ?_
        refine zz_aload_n (x := 1079) rfl zd_14_37_89 ?_
        refine zz_getr (kd := 0) (z := 1085) zd_14_37_90 zf_Md_29 zT_1079 rfl (zz_ltn hn rfl) (zz_G.eq G_S 1079 8 1085 rfl rfl) (by decide) 1085 rfl ?_
        refine zz_iload (x := S0 1097 x4.toNat) rfl zd_14_37_93 ?_
        have g78 := zz_G.r G_S0 1085 ((S0 1097 x4.toNat).toNat) (-9223372036854775808) 9223372036854775807 rfl rfl
        refine zz_lald (z := S0 1085 ((S0 1097 x4.toNat).toNat)) zd_14_37_95 zT_1085 rfl (zz_ltn hn rfl) (by decide) (by omega) (zz_rc F_S (zz_nc1 rfl) rfl (fun h => h) rfl) ?_
        have g79 := zz_G.r G_S 1087 0 (-2147483648) 2147483647 rfl rfl
        have g80 := zz_G.r G_S 1087 1 (-2147483648) 2147483647 rfl rfl
        have g81 := zz_G.r G_S 1087 2 (-2147483648) 2147483647 rfl rfl
        have g82 := zz_G.r G_S 1087 3 (-2147483648) 2147483647 rfl rfl
        have g83 := zz_G.r G_S 1087 4 (-2147483648) 2147483647 rfl rfl
        have g84 := zz_G.r G_S 1087 5 (-2147483648) 2147483647 rfl rfl
        have g85 := zz_G.r G_S 1087 6 (-2147483648) 2147483647 rfl rfl
        have g86 := zz_G.r G_S 1087 7 (-2147483648) 2147483647 rfl rfl
        have g87 := zz_G.r G_S 1087 8 (-2147483648) 2147483647 rfl rfl
        have g88 := zz_G.r G_S 1087 9 (-2147483648) 2147483647 rfl rfl
        have g89 := zz_G.r G_S 1087 10 (-2147483648) 2147483647 rfl rfl
        have g90 := zz_G.r G_S 1087 11 (-2147483648) 2147483647 rfl rfl
        refine zz_callVV [zl (S0 1085 ((S0 1097 x4.toNat).toNat))] zd_14_37_96 zk_Md_234 zT_1079 (zz_ltn hn rfl) rfl rfl ⟨Nat.le_of_ble_eq_true rfl, Nat.le_of_ble_eq_true rfl⟩ ⟨rfl, rfl⟩ (Nat.zero_le _) (Nat.zero_le _) (zc_take_14_18 (S0 1085 ((S0 1097 x4.toNat).toNat)) S n hn G_S (by omega)) (fun S91 hP => ?_)
        obtain ⟨G_S91, fS91, o93, o94, o95, o96, o97, o98, o99, o100, o101, o102, o103, o104⟩ := hP
        have F_S91 := zz_fr.trans F_S fS91 rfl zz_nv
        refine zz_aload_n (x := 1079) rfl zd_14_37_99 ?_
        have g105 := zz_G.r G_S91 1087 0 (-2147483648) 2147483647 rfl rfl
        have g106 := zz_G.r G_S91 1087 1 (-2147483648) 2147483647 rfl rfl
        have g107 := zz_G.r G_S91 1087 2 (-2147483648) 2147483647 rfl rfl
        have g108 := zz_G.r G_S91 1087 3 (-2147483648) 2147483647 rfl rfl
        have g109 := zz_G.r G_S91 1087 4 (-2147483648) 2147483647 rfl rfl
        have g110 := zz_G.r G_S91 1087 5 (-2147483648) 2147483647 rfl rfl
        have g111 := zz_G.r G_S91 1087 6 (-2147483648) 2147483647 rfl rfl
        have g112 := zz_G.r G_S91 1087 7 (-2147483648) 2147483647 rfl rfl
        have g113 := zz_G.r G_S91 1087 8 (-2147483648) 2147483647 rfl rfl
        have g114 := zz_G.r G_S91 1087 9 (-2147483648) 2147483647 rfl rfl
        have g115 := zz_G.r G_S91 1087 10 (-2147483648) 2147483647 rfl rfl
        have g116 := zz_G.r G_S91 1087 11 (-2147483648) 2147483647 rfl rfl
        have g117 := zz_G.r G_S0 1079 1 2 8 rfl rfl
        have e118 : S91 1079 1 = S0 1079 1 := (zz_rc fS91 rfl rfl (fun h => h) (zz_rc F_S rfl rfl (fun h => h) rfl))
        refine zz_callVV [] zd_14_37_100 zk_Md_247 zT_1079 (zz_ltn hn rfl) rfl rfl ⟨Nat.le_of_ble_eq_true rfl, Nat.le_of_ble_eq_true rfl⟩ ⟨rfl, rfl⟩ (Nat.zero_le _) (Nat.zero_le _) (zc_reaches_14_22  S91 n hn G_S91 (by omega) (by omega) (by omega) (by omega) (by omega) (by omega) (by omega) (by omega) (by omega) (by omega) (by omega) (by omega)) (fun S119 hP => ?_)
        obtain ⟨G_S119, fS119, o121, o122, o123, o124, o125, o126, o127, o128, o129⟩ := hP
        rw [show S91 1079 1 = S0 1079 1 from (zz_rc fS91 rfl rfl (fun h => h) (zz_rc F_S rfl rfl (fun h => h) rfl))] at o121
        rw [show S91 1079 1 = S0 1079 1 from (zz_rc fS91 rfl rfl (fun h => h) (zz_rc F_S rfl rfl (fun h => h) rfl))] at o122
        rw [show S91 1079 1 = S0 1079 1 from (zz_rc fS91 rfl rfl (fun h => h) (zz_rc F_S rfl rfl (fun h => h) rfl))] at o123
        rw [show S91 1079 1 = S0 1079 1 from (zz_rc fS91 rfl rfl (fun h => h) (zz_rc F_S rfl rfl (fun h => h) rfl))] at o124
        rw [show S91 1079 1 = S0 1079 1 from (zz_rc fS91 rfl rfl (fun h => h) (zz_rc F_S rfl rfl (fun h => h) rfl))] at o125
        rw [show S91 1079 1 = S0 1079 1 from (zz_rc fS91 rfl rfl (fun h => h) (zz_rc F_S rfl rfl (fun h => h) rfl))] at o126
        rw [show S91 1079 1 = S0 1079 1 from (zz_rc fS91 rfl rfl (fun h => h) (zz_rc F_S rfl rfl (fun h => h) rfl))] at o127
        rw [show S91 1079 1 = S0 1079 1 from (zz_rc fS91 rfl rfl (fun h => h) (zz_rc F_S rfl rfl (fun h => h) rfl))] at o128
        have F_S119 := zz_fr.trans F_S91 fS119 rfl zz_nv
        refine zz_iconst zd_14_37_103 ?_
        refine zz_istore [some (.ref 1079), some (zi p0), some (zi p1), some (zi x3), some (zi x4), some (zi (S0 1097 x4.toNat)), some (zi 0)] zd_14_37_104 (by decide) rfl ?_
        refine zz_less (ls1 := [some (.ref 1079), some (zi p0), some (zi p1), some (zi x3), some (zi x4), none, some (zi 0)]) ⟨rfl, ⟨rfl, ⟨rfl, ⟨rfl, ⟨rfl, ⟨rfl, trivial⟩⟩⟩⟩⟩⟩ ?_
        exact k106 x3 x4 0 S119 G_S119 F_S119 (by omega) (by omega) (by omega) (by omega) (by omega) (by omega) (by omega)
theorem zb_races_14_37_106 {g : mm_G} {l : Launch} (p0 : Int) (p1 : Int) (S0 : zz_S) (n : Nat) (hn : zz_end ≤ n) (G_S0 : zz_G S0) (hp0 : 0 ≤ p0 ∧ p0 ≤ 600) (hp1 : (-2147483648) ≤ p1 ∧ p1 ≤ 2147483647) (x3 : Int) (x4 : Int) (x6 : Int) (S : zz_S) (G_S : zz_G S) (F_S : zz_fr [(1087, 0), (1087, 1), (1087, 2), (1087, 3), (1087, 4), (1087, 5), (1087, 6), (1087, 7), (1087, 8), (1087, 9), (1087, 10), (1087, 11), (1088, 0), (1088, 1), (1088, 2), (1088, 3), (1088, 4), (1088, 5), (1088, 6), (1088, 7), (1088, 8), (1088, 9), (1089, 0), (1089, 1), (1089, 2), (1089, 3), (1089, 4), (1089, 5), (1089, 6), (1089, 7), (1089, 8), (1089, 9)] [1115, 1116] (fun _ _ => False) S0 S) (i106_0 : 0 ≤ x3 ∧ x3 ≤ 1) (i106_1 : 0 ≤ x4 ∧ x4 ≤ 2) (i106_2 : 0 ≤ x6 ∧ x6 ≤ 5) (i106_3 : 0 ≤ x4 ∧ x4 ≤ 3) (i106_4 : x4 < 3) (i106_5 : (-2147483648) ≤ p1 ∧ p1 ≤ 2147483646) (R : Nat) (hR : (34359738368 + (3 - x4).toNat) * 1099511627776 + (17179869184 + (5 - x6).toNat) = R) (k57 : ∀ (x3 : Int) (x4 : Int) (S : zz_S), zz_G S → zz_fr [(1087, 0), (1087, 1), (1087, 2), (1087, 3), (1087, 4), (1087, 5), (1087, 6), (1087, 7), (1087, 8), (1087, 9), (1087, 10), (1087, 11), (1088, 0), (1088, 1), (1088, 2), (1088, 3), (1088, 4), (1088, 5), (1088, 6), (1088, 7), (1088, 8), (1088, 9), (1089, 0), (1089, 1), (1089, 2), (1089, 3), (1089, 4), (1089, 5), (1089, 6), (1089, 7), (1089, 8), (1089, 9)] [1115, 1116] (fun _ _ => False) S0 S → (0 ≤ x3 ∧ x3 ≤ 1) → (0 ≤ x4 ∧ x4 ≤ 3) → (34359738368 + (3 - x4).toNat) * 1099511627776 + 1099511627775 < R → zz_E g l zy_races_14_37 zr_races_14_37 (zz_QI n (zp_races_14_37 p0 p1 S0)) S n 57 [some (.ref 1079), some (zi p0), some (zi p1), some (zi x3), some (zi x4)] [] 0 0) (k106 : ∀ (x3 : Int) (x4 : Int) (x6 : Int) (S : zz_S), zz_G S → zz_fr [(1087, 0), (1087, 1), (1087, 2), (1087, 3), (1087, 4), (1087, 5), (1087, 6), (1087, 7), (1087, 8), (1087, 9), (1087, 10), (1087, 11), (1088, 0), (1088, 1), (1088, 2), (1088, 3), (1088, 4), (1088, 5), (1088, 6), (1088, 7), (1088, 8), (1088, 9), (1089, 0), (1089, 1), (1089, 2), (1089, 3), (1089, 4), (1089, 5), (1089, 6), (1089, 7), (1089, 8), (1089, 9)] [1115, 1116] (fun _ _ => False) S0 S → (0 ≤ x3 ∧ x3 ≤ 1) → (0 ≤ x4 ∧ x4 ≤ 2) → (0 ≤ x6 ∧ x6 ≤ 5) → (0 ≤ x4 ∧ x4 ≤ 3) → (x4 < 3) → ((-2147483648) ≤ p1 ∧ p1 ≤ 2147483646) → (34359738368 + (3 - x4).toNat) * 1099511627776 + (17179869184 + (5 - x6).toNat) < R → zz_E g l zy_races_14_37 zr_races_14_37 (zz_QI n (zp_races_14_37 p0 p1 S0)) S n 106 [some (.ref 1079), some (zi p0), some (zi p1), some (zi x3), some (zi x4), none, some (zi x6)] [] 0 0) : zz_E g l zy_races_14_37 zr_races_14_37 (zz_QI n (zp_races_14_37 p0 p1 S0)) S n 106 [some (.ref 1079), some (zi p0), some (zi p1), some (zi x3), some (zi x4), none, some (zi x6)] [] 0 0 := by
  refine zz_iload (x := x6) rfl zd_14_37_106 ?_
  refine zz_iconst zd_14_37_108 ?_
  refine zz_icmp_ge (by omega) (by omega) zd_14_37_109 (fun c130 => ?_) (fun c130 => ?_)
  · refine zz_iinc [some (.ref 1079), some (zi p0), some (zi p1), some (zi x3), some (zi (x4 + 1)), none, some (zi x6)] zd_14_37_176 rfl rfl ?_
    refine zz_goto zd_14_37_179 ?_
    refine zz_less (ls1 := [some (.ref 1079), some (zi p0), some (zi p1), some (zi x3), some (zi (x4 + 1))]) ⟨rfl, ⟨rfl, ⟨rfl, ⟨rfl, ⟨rfl, trivial⟩⟩⟩⟩⟩ ?_
    exact k57 x3 (x4 + 1) S G_S F_S (by omega) (by omega) (by omega)
  · refine zz_iload_n (x := x3) rfl zd_14_37_112 ?_
    refine zz_if_ne (by omega) zd_14_37_113 (fun c131 => ?_) (fun c131 => ?_)
    · refine zz_iconst zd_14_37_164 ?_
      refine zz_goto zd_14_37_165 ?_
      refine zz_istore_n [some (.ref 1079), some (zi p0), some (zi p1), some (zi 1), some (zi x4), none, some (zi x6)] zd_14_37_169 (by decide) rfl ?_
      refine zz_iinc [some (.ref 1079), some (zi p0), some (zi p1), some (zi 1), some (zi x4), none, some (zi (x6 + 1))] zd_14_37_170 rfl rfl ?_
      refine zz_goto zd_14_37_173 ?_
      refine zz_less (ls1 := [some (.ref 1079), some (zi p0), some (zi p1), some (zi 1), some (zi x4), none, some (zi (x6 + 1))]) ⟨rfl, ⟨rfl, ⟨rfl, ⟨rfl, ⟨rfl, ⟨rfl, trivial⟩⟩⟩⟩⟩⟩ ?_
      exact k106 1 x4 (x6 + 1) S G_S F_S (by omega) (by omega) (by omega) (by omega) (by omega) (by omega) (by omega)
    · refine zz_aload_n (x := 1079) rfl zd_14_37_116 ?_
      refine zz_getr (kd := 0) (z := 1115) zd_14_37_117 zf_Md_127 zT_1079 rfl (zz_ltn hn rfl) (zz_G.eq G_S 1079 58 1115 rfl rfl) (by decide) 1115 rfl ?_
      refine zz_aload_n (x := 1079) rfl zd_14_37_120 ?_
      refine zz_getr (kd := 0) (z := 1089) zd_14_37_121 zf_Md_42 zT_1079 rfl (zz_ltn hn rfl) (zz_G.eq G_S 1079 13 1089 rfl rfl) (by decide) 1089 rfl ?_
      refine zz_iload (x := x6) rfl zd_14_37_124 ?_
      refine zz_callSI [.ref 1115, .ref 1089, zi x6] zd_14_37_126 zk_Md_278 rfl rfl ⟨Nat.le_of_ble_eq_true rfl, Nat.le_of_ble_eq_true rfl⟩ ⟨rfl, rfl⟩ (Nat.zero_le _) (Nat.zero_le _) (zc_meet_14_36_1115_1089 x6 S n hn G_S (by omega)) (fun v133 S132 hP => ?_)
      obtain ⟨rfl, o134⟩ := hP
      rcases (by omega : v133 = 0 ∨ v133 = 1) with rfl | rfl
      · refine zz_if_ne (by omega) zd_14_37_129 (fun c135 => ?_) (fun c135 => ?_)
        · exfalso; omega
        · refine zz_aload_n (x := 1079) rfl zd_14_37_132 ?_
          refine zz_getr (kd := 0) (z := 1116) zd_14_37_133 zf_Md_130 zT_1079 rfl (zz_ltn hn rfl) (zz_G.eq G_S 1079 59 1116 rfl rfl) (by decide) 1116 rfl ?_
          refine zz_aload_n (x := 1079) rfl zd_14_37_136 ?_
          refine zz_getr (kd := 0) (z := 1089) zd_14_37_137 zf_Md_42 zT_1079 rfl (zz_ltn hn rfl) (zz_G.eq G_S 1079 13 1089 rfl rfl) (by decide) 1089 rfl ?_
          refine zz_iload (x := x6) rfl zd_14_37_140 ?_
          refine zz_callSI [.ref 1116, .ref 1089, zi x6] zd_14_37_142 zk_Md_278 rfl rfl ⟨Nat.le_of_ble_eq_true rfl, Nat.le_of_ble_eq_true rfl⟩ ⟨rfl, rfl⟩ (Nat.zero_le _) (Nat.zero_le _) (zc_meet_14_36_1116_1089 x6 S n hn G_S (by omega)) (fun v137 S136 hP => ?_)
          obtain ⟨rfl, o138⟩ := hP
          rcases (by omega : v137 = 0 ∨ v137 = 1) with rfl | rfl
          · refine zz_if_ne (by omega) zd_14_37_145 (fun c139 => ?_) (fun c139 => ?_)
            · exfalso; omega
            · refine zz_aload_n (x := 1079) rfl zd_14_37_148 ?_
              refine zz_getr (kd := 0) (z := 1116) zd_14_37_149 zf_Md_130 zT_1079 rfl (zz_ltn hn rfl) (zz_G.eq G_S 1079 59 1116 rfl rfl) (by decide) 1116 rfl ?_
              refine zz_aload_n (x := 1079) rfl zd_14_37_152 ?_
              refine zz_getr (kd := 0) (z := 1088) zd_14_37_153 zf_Md_39 zT_1079 rfl (zz_ltn hn rfl) (zz_G.eq G_S 1079 12 1088 rfl rfl) (by decide) 1088 rfl ?_
              refine zz_iload (x := x6) rfl zd_14_37_156 ?_
              refine zz_callSI [.ref 1116, .ref 1088, zi x6] zd_14_37_158 zk_Md_278 rfl rfl ⟨Nat.le_of_ble_eq_true rfl, Nat.le_of_ble_eq_true rfl⟩ ⟨rfl, rfl⟩ (Nat.zero_le _) (Nat.zero_le _) (zc_meet_14_36_1116_1088 x6 S n hn G_S (by omega)) (fun v141 S140 hP => ?_)
              obtain ⟨rfl, o142⟩ := hP
              rcases (by omega : v141 = 0 ∨ v141 = 1) with rfl | rfl
              · refine zz_if_eq (by omega) zd_14_37_161 (fun c143 => ?_) (fun c143 => ?_)
                · refine zz_iconst zd_14_37_168 ?_
                  refine zz_istore_n [some (.ref 1079), some (zi p0), some (zi p1), some (zi 0), some (zi x4), none, some (zi x6)] zd_14_37_169 (by decide) rfl ?_
                  refine zz_iinc [some (.ref 1079), some (zi p0), some (zi p1), some (zi 0), some (zi x4), none, some (zi (x6 + 1))] zd_14_37_170 rfl rfl ?_
                  refine zz_goto zd_14_37_173 ?_
                  refine zz_less (ls1 := [some (.ref 1079), some (zi p0), some (zi p1), some (zi 0), some (zi x4), none, some (zi (x6 + 1))]) ⟨rfl, ⟨rfl, ⟨rfl, ⟨rfl, ⟨rfl, ⟨rfl, trivial⟩⟩⟩⟩⟩⟩ ?_
                  exact k106 0 x4 (x6 + 1) S G_S F_S (by omega) (by omega) (by omega) (by omega) (by omega) (by omega) (by omega)
                · exfalso; omega
              · refine zz_if_eq (by omega) zd_14_37_161 (fun c144 => ?_) (fun c144 => ?_)
                · exfalso; omega
                · refine zz_iconst zd_14_37_164 ?_
                  refine zz_goto zd_14_37_165 ?_
                  refine zz_istore_n [some (.ref 1079), some (zi p0), some (zi p1), some (zi 1), some (zi x4), none, some (zi x6)] zd_14_37_169 (by decide) rfl ?_
                  refine zz_iinc [some (.ref 1079), some (zi p0), some (zi p1), some (zi 1), some (zi x4), none, some (zi (x6 + 1))] zd_14_37_170 rfl rfl ?_
                  refine zz_goto zd_14_37_173 ?_
                  refine zz_less (ls1 := [some (.ref 1079), some (zi p0), some (zi p1), some (zi 1), some (zi x4), none, some (zi (x6 + 1))]) ⟨rfl, ⟨rfl, ⟨rfl, ⟨rfl, ⟨rfl, ⟨rfl, trivial⟩⟩⟩⟩⟩⟩ ?_
                  exact k106 1 x4 (x6 + 1) S G_S F_S (by omega) (by omega) (by omega) (by omega) (by omega) (by omega) (by omega)
          · refine zz_if_ne (by omega) zd_14_37_145 (fun c145 => ?_) (fun c145 => ?_)
            · refine zz_iconst zd_14_37_164 ?_
              refine zz_goto zd_14_37_165 ?_
              refine zz_istore_n [some (.ref 1079), some (zi p0), some (zi p1), some (zi 1), some (zi x4), none, some (zi x6)] zd_14_37_169 (by decide) rfl ?_
              refine zz_iinc [some (.ref 1079), some (zi p0), some (zi p1), some (zi 1), some (zi x4), none, some (zi (x6 + 1))] zd_14_37_170 rfl rfl ?_
              refine zz_goto zd_14_37_173 ?_
              refine zz_less (ls1 := [some (.ref 1079), some (zi p0), some (zi p1), some (zi 1), some (zi x4), none, some (zi (x6 + 1))]) ⟨rfl, ⟨rfl, ⟨rfl, ⟨rfl, ⟨rfl, ⟨rfl, trivial⟩⟩⟩⟩⟩⟩ ?_
              exact k106 1 x4 (x6 + 1) S G_S F_S (by omega) (by omega) (by omega) (by omega) (by omega) (by omega) (by omega)
            · exfalso; omega
      · refine zz_if_ne (by omega) zd_14_37_129 (fun c146 => ?_) (fun c146 => ?_)
        · refine zz_iconst zd_14_37_164 ?_
          refine zz_goto zd_14_37_165 ?_
          refine zz_istore_n [some (.ref 1079), some (zi p0), some (zi p1), some (zi 1), some (zi x4), none, some (zi x6)] zd_14_37_169 (by decide) rfl ?_
          refine zz_iinc [some (.ref 1079), some (zi p0), some (zi p1), some (zi 1), some (zi x4), none, some (zi (x6 + 1))] zd_14_37_170 rfl rfl ?_
          refine zz_goto zd_14_37_173 ?_
          refine zz_less (ls1 := [some (.ref 1079), some (zi p0), some (zi p1), some (zi 1), some (zi x4), none, some (zi (x6 + 1))]) ⟨rfl, ⟨rfl, ⟨rfl, ⟨rfl, ⟨rfl, ⟨rfl, trivial⟩⟩⟩⟩⟩⟩ ?_
          exact k106 1 x4 (x6 + 1) S G_S F_S (by omega) (by omega) (by omega) (by omega) (by omega) (by omega) (by omega)
        · exfalso; omega
theorem zi_races_14_37 {g : mm_G} {l : Launch} (p0 : Int) (p1 : Int) (S0 : zz_S) (n : Nat) (hn : zz_end ≤ n) (G_S0 : zz_G S0) (hp0 : 0 ≤ p0 ∧ p0 ≤ 600) (hp1 : (-2147483648) ≤ p1 ∧ p1 ≤ 2147483647) : ∀ N : Nat, (∀ (x3 : Int) (S : zz_S), zz_G S → zz_fr [(1087, 0), (1087, 1), (1087, 2), (1087, 3), (1087, 4), (1087, 5), (1087, 6), (1087, 7), (1087, 8), (1087, 9), (1087, 10), (1087, 11), (1088, 0), (1088, 1), (1088, 2), (1088, 3), (1088, 4), (1088, 5), (1088, 6), (1088, 7), (1088, 8), (1088, 9), (1089, 0), (1089, 1), (1089, 2), (1089, 3), (1089, 4), (1089, 5), (1089, 6), (1089, 7), (1089, 8), (1089, 9)] [1115, 1116] (fun _ _ => False) S0 S → (0 ≤ x3 ∧ x3 ≤ 10) → (51539607552 + (10 - x3).toNat) * 1099511627776 + 1099511627775 < N → zz_E g l zy_races_14_37 zr_races_14_37 (zz_QI n (zp_races_14_37 p0 p1 S0)) S n 16 [some (.ref 1079), some (zi p0), some (zi p1), some (zi x3)] [] 0 0) ∧ (∀ (x3 : Int) (x4 : Int) (S : zz_S), zz_G S → zz_fr [(1087, 0), (1087, 1), (1087, 2), (1087, 3), (1087, 4), (1087, 5), (1087, 6), (1087, 7), (1087, 8), (1087, 9), (1087, 10), (1087, 11), (1088, 0), (1088, 1), (1088, 2), (1088, 3), (1088, 4), (1088, 5), (1088, 6), (1088, 7), (1088, 8), (1088, 9), (1089, 0), (1089, 1), (1089, 2), (1089, 3), (1089, 4), (1089, 5), (1089, 6), (1089, 7), (1089, 8), (1089, 9)] [1115, 1116] (fun _ _ => False) S0 S → (0 ≤ x3 ∧ x3 ≤ 1) → (0 ≤ x4 ∧ x4 ≤ 3) → (34359738368 + (3 - x4).toNat) * 1099511627776 + 1099511627775 < N → zz_E g l zy_races_14_37 zr_races_14_37 (zz_QI n (zp_races_14_37 p0 p1 S0)) S n 57 [some (.ref 1079), some (zi p0), some (zi p1), some (zi x3), some (zi x4)] [] 0 0) ∧ (∀ (x3 : Int) (x4 : Int) (x6 : Int) (S : zz_S), zz_G S → zz_fr [(1087, 0), (1087, 1), (1087, 2), (1087, 3), (1087, 4), (1087, 5), (1087, 6), (1087, 7), (1087, 8), (1087, 9), (1087, 10), (1087, 11), (1088, 0), (1088, 1), (1088, 2), (1088, 3), (1088, 4), (1088, 5), (1088, 6), (1088, 7), (1088, 8), (1088, 9), (1089, 0), (1089, 1), (1089, 2), (1089, 3), (1089, 4), (1089, 5), (1089, 6), (1089, 7), (1089, 8), (1089, 9)] [1115, 1116] (fun _ _ => False) S0 S → (0 ≤ x3 ∧ x3 ≤ 1) → (0 ≤ x4 ∧ x4 ≤ 2) → (0 ≤ x6 ∧ x6 ≤ 5) → (0 ≤ x4 ∧ x4 ≤ 3) → (x4 < 3) → ((-2147483648) ≤ p1 ∧ p1 ≤ 2147483646) → (34359738368 + (3 - x4).toNat) * 1099511627776 + (17179869184 + (5 - x6).toNat) < N → zz_E g l zy_races_14_37 zr_races_14_37 (zz_QI n (zp_races_14_37 p0 p1 S0)) S n 106 [some (.ref 1079), some (zi p0), some (zi p1), some (zi x3), some (zi x4), none, some (zi x6)] [] 0 0) := by
  intro N
  induction N with
  | zero => exact ⟨fun x3 S _ _ _ h => absurd h (Nat.not_lt_zero _), fun x3 x4 S _ _ _ _ h => absurd h (Nat.not_lt_zero _), fun x3 x4 x6 S _ _ _ _ _ _ _ _ h => absurd h (Nat.not_lt_zero _)⟩
  | succ N ih =>
    exact ⟨fun x3 S a b j0 hR => zb_races_14_37_16 p0 p1 S0 n hn G_S0 hp0 hp1 x3 S a b j0 _ rfl (fun x3 S a b j0 h => ih.1 x3 S a b j0 (Nat.lt_of_lt_of_le h (Nat.le_of_lt_succ hR))) (fun x3 x4 S a b j0 j1 h => ih.2.1 x3 x4 S a b j0 j1 (Nat.lt_of_lt_of_le h (Nat.le_of_lt_succ hR))),
      fun x3 x4 S a b j0 j1 hR => zb_races_14_37_57 p0 p1 S0 n hn G_S0 hp0 hp1 x3 x4 S a b j0 j1 _ rfl (fun x3 x4 S a b j0 j1 h => ih.2.1 x3 x4 S a b j0 j1 (Nat.lt_of_lt_of_le h (Nat.le_of_lt_succ hR))) (fun x3 x4 x6 S a b j0 j1 j2 j3 j4 j5 h => ih.2.2 x3 x4 x6 S a b j0 j1 j2 j3 j4 j5 (Nat.lt_of_lt_of_le h (Nat.le_of_lt_succ hR))),
      fun x3 x4 x6 S a b j0 j1 j2 j3 j4 j5 hR => zb_races_14_37_106 p0 p1 S0 n hn G_S0 hp0 hp1 x3 x4 x6 S a b j0 j1 j2 j3 j4 j5 _ rfl (fun x3 x4 S a b j0 j1 h => ih.2.1 x3 x4 S a b j0 j1 (Nat.lt_of_lt_of_le h (Nat.le_of_lt_succ hR))) (fun x3 x4 x6 S a b j0 j1 j2 j3 j4 j5 h => ih.2.2 x3 x4 x6 S a b j0 j1 j2 j3 j4 j5 (Nat.lt_of_lt_of_le h (Nat.le_of_lt_succ hR)))⟩
theorem zc_races_14_37 {g : mm_G} {l : Launch} (p0 : Int) (p1 : Int) (S0 : zz_S) (n : Nat) (hn : zz_end ≤ n) (G_S0 : zz_G S0) (hp0 : 0 ≤ p0 ∧ p0 ≤ 600) (hp1 : (-2147483648) ≤ p1 ∧ p1 ≤ 2147483647) : mm_Met g l zy_races_14_37 zr_races_14_37 [.ref 1079, zi p0, zi p1] (zz_M S0 n) n (zz_QI n (zp_races_14_37 p0 p1 S0)) := by
  refine zz_enter (by decide) (Nat.le_of_ble_eq_true rfl) (zz_less (ls1 := [some (.ref 1079), some (zi p0), some (zi p1)]) ⟨rfl, ⟨rfl, ⟨rfl, trivial⟩⟩⟩ ?_)
  have F_S0 : zz_fr [(1087, 0), (1087, 1), (1087, 2), (1087, 3), (1087, 4), (1087, 5), (1087, 6), (1087, 7), (1087, 8), (1087, 9), (1087, 10), (1087, 11), (1088, 0), (1088, 1), (1088, 2), (1088, 3), (1088, 4), (1088, 5), (1088, 6), (1088, 7), (1088, 8), (1088, 9), (1089, 0), (1089, 1), (1089, 2), (1089, 3), (1089, 4), (1089, 5), (1089, 6), (1089, 7), (1089, 8), (1089, 9)] [1115, 1116] (fun _ _ => False) S0 S0 := zz_fr.refl
  have k16 : ∀ (x3 : Int) (S : zz_S), zz_G S → zz_fr [(1087, 0), (1087, 1), (1087, 2), (1087, 3), (1087, 4), (1087, 5), (1087, 6), (1087, 7), (1087, 8), (1087, 9), (1087, 10), (1087, 11), (1088, 0), (1088, 1), (1088, 2), (1088, 3), (1088, 4), (1088, 5), (1088, 6), (1088, 7), (1088, 8), (1088, 9), (1089, 0), (1089, 1), (1089, 2), (1089, 3), (1089, 4), (1089, 5), (1089, 6), (1089, 7), (1089, 8), (1089, 9)] [1115, 1116] (fun _ _ => False) S0 S → (0 ≤ x3 ∧ x3 ≤ 10) → zz_E g l zy_races_14_37 zr_races_14_37 (zz_QI n (zp_races_14_37 p0 p1 S0)) S n 16 [some (.ref 1079), some (zi p0), some (zi p1), some (zi x3)] [] 0 0 := fun x3 S a b j0 => (zi_races_14_37 (g := g) (l := l) p0 p1 S0 n hn G_S0 hp0 hp1 _).1 x3 S a b j0 (Nat.lt_succ_self _)
  refine zz_aload_n (x := 1079) rfl zd_14_37_0 ?_
  refine zz_aload_n (x := 1079) rfl zd_14_37_1 ?_
  refine zz_getr (kd := 0) (z := 1085) zd_14_37_2 zf_Md_29 zT_1079 rfl (zz_ltn hn rfl) (zz_G.eq G_S0 1079 8 1085 rfl rfl) (by decide) 1085 rfl ?_
  refine zz_iload_n (x := p0) rfl zd_14_37_5 ?_
  have g1 := zz_G.r G_S0 1085 p0.toNat (-9223372036854775808) 9223372036854775807 rfl rfl
  refine zz_lald (z := S0 1085 p0.toNat) zd_14_37_6 zT_1085 rfl (zz_ltn hn rfl) (by decide) (by omega) rfl ?_
  refine zz_callVV [zl (S0 1085 p0.toNat)] zd_14_37_7 zk_Md_234 zT_1079 (zz_ltn hn rfl) rfl rfl ⟨Nat.le_of_ble_eq_true rfl, Nat.le_of_ble_eq_true rfl⟩ ⟨rfl, rfl⟩ (Nat.zero_le _) (Nat.zero_le _) (zc_take_14_18 (S0 1085 p0.toNat) S0 n hn G_S0 (by omega)) (fun S2 hP => ?_)
  obtain ⟨G_S2, fS2, o4, o5, o6, o7, o8, o9, o10, o11, o12, o13, o14, o15⟩ := hP
  have F_S2 := zz_fr.trans F_S0 fS2 rfl zz_nv
  refine zz_aload_n (x := 1079) rfl zd_14_37_10 ?_
  have g16 := zz_G.r G_S2 1087 0 (-2147483648) 2147483647 rfl rfl
  have g17 := zz_G.r G_S2 1087 1 (-2147483648) 2147483647 rfl rfl
  have g18 := zz_G.r G_S2 1087 2 (-2147483648) 2147483647 rfl rfl
  have g19 := zz_G.r G_S2 1087 3 (-2147483648) 2147483647 rfl rfl
  have g20 := zz_G.r G_S2 1087 4 (-2147483648) 2147483647 rfl rfl
  have g21 := zz_G.r G_S2 1087 5 (-2147483648) 2147483647 rfl rfl
  have g22 := zz_G.r G_S2 1087 6 (-2147483648) 2147483647 rfl rfl
  have g23 := zz_G.r G_S2 1087 7 (-2147483648) 2147483647 rfl rfl
  have g24 := zz_G.r G_S2 1087 8 (-2147483648) 2147483647 rfl rfl
  have g25 := zz_G.r G_S2 1087 9 (-2147483648) 2147483647 rfl rfl
  have g26 := zz_G.r G_S2 1087 10 (-2147483648) 2147483647 rfl rfl
  have g27 := zz_G.r G_S2 1087 11 (-2147483648) 2147483647 rfl rfl
  have g28 := zz_G.r G_S0 1079 1 2 8 rfl rfl
  have e29 : S2 1079 1 = S0 1079 1 := (zz_rc fS2 rfl rfl (fun h => h) rfl)
  refine zz_callVV [] zd_14_37_11 zk_Md_247 zT_1079 (zz_ltn hn rfl) rfl rfl ⟨Nat.le_of_ble_eq_true rfl, Nat.le_of_ble_eq_true rfl⟩ ⟨rfl, rfl⟩ (Nat.zero_le _) (Nat.zero_le _) (zc_reaches_14_22  S2 n hn G_S2 (by omega) (by omega) (by omega) (by omega) (by omega) (by omega) (by omega) (by omega) (by omega) (by omega) (by omega) (by omega)) (fun S30 hP => ?_)
  obtain ⟨G_S30, fS30, o32, o33, o34, o35, o36, o37, o38, o39, o40⟩ := hP
  rw [show S2 1079 1 = S0 1079 1 from (zz_rc fS2 rfl rfl (fun h => h) rfl)] at o32
  rw [show S2 1079 1 = S0 1079 1 from (zz_rc fS2 rfl rfl (fun h => h) rfl)] at o33
  rw [show S2 1079 1 = S0 1079 1 from (zz_rc fS2 rfl rfl (fun h => h) rfl)] at o34
  rw [show S2 1079 1 = S0 1079 1 from (zz_rc fS2 rfl rfl (fun h => h) rfl)] at o35
  rw [show S2 1079 1 = S0 1079 1 from (zz_rc fS2 rfl rfl (fun h => h) rfl)] at o36
  rw [show S2 1079 1 = S0 1079 1 from (zz_rc fS2 rfl rfl (fun h => h) rfl)] at o37
  rw [show S2 1079 1 = S0 1079 1 from (zz_rc fS2 rfl rfl (fun h => h) rfl)] at o38
  rw [show S2 1079 1 = S0 1079 1 from (zz_rc fS2 rfl rfl (fun h => h) rfl)] at o39
  have F_S30 := zz_fr.trans F_S2 fS30 rfl zz_nv
  refine zz_iconst zd_14_37_14 ?_
  refine zz_istore_n [some (.ref 1079), some (zi p0), some (zi p1), some (zi 0)] zd_14_37_15 (by decide) rfl ?_
  refine zz_less (ls1 := [some (.ref 1079), some (zi p0), some (zi p1), some (zi 0)]) ⟨rfl, ⟨rfl, ⟨rfl, ⟨rfl, trivial⟩⟩⟩⟩ ?_
  exact k16 0 S30 G_S30 F_S30 (by omega)
abbrev zy_beginNext_14_38 : mm_Y := (⟨"TensorForgeModel", "beginNext", "(II)V"⟩, prog_14_method_38_code, 4, none)
theorem zyw_beginNext_14_38 : mm_Yw zy_beginNext_14_38 2 := ⟨mm_tb_1 1967 (by decide +kernel) rfl, mm_tb_1 12 (by decide +kernel) rfl, ⟨by decide, by decide⟩, by decide +kernel⟩
theorem zf_Md_57 : mm_Fl "TensorForgeModel" 57 11 21 (.array .int) true := ⟨R_Md, F_Md, 69, t_Md, rfl, i_Md, by decide, mm_tb_1 1632 (by decide +kernel) rfl, rfl, t_Md_ok, n_Md, rfl, by decide +kernel⟩
theorem zk_Md_282 : mm_Vl "TensorForgeModel" 282 11 0 zy_cycles_14_30 := ⟨zyw_cycles_14_30, (R_Md, F_Md, 69), rfl, mm_tb_1 1968 (by decide +kernel) rfl, mm_tb_1 1970 (by decide +kernel) rfl, mm_tb_s 104 (by decide +kernel) rfl⟩
theorem zf_Md_48 : mm_Fl "TensorForgeModel" 48 11 17 (.array .int) true := ⟨R_Md, F_Md, 69, t_Md, rfl, i_Md, by decide, mm_tb_1 1628 (by decide +kernel) rfl, rfl, t_Md_ok, n_Md, rfl, by decide +kernel⟩
theorem zk_Md_285 : mm_Vl "TensorForgeModel" 285 11 0 zy_doWord_14_29 := ⟨zyw_doWord_14_29, (R_Md, F_Md, 69), rfl, mm_tb_1 1972 (by decide +kernel) rfl, mm_tb_1 1974 (by decide +kernel) rfl, mm_tb_s 105 (by decide +kernel) rfl⟩
theorem zg_14_38_0 : zq_at zy_beginNext_14_38.2.1 0 42 ∧ zq_at zy_beginNext_14_38.2.1 1 180 ∧ zq_at zy_beginNext_14_38.2.1 2 0 ∧ zq_at zy_beginNext_14_38.2.1 3 73 ∧ zq_at zy_beginNext_14_38.2.1 4 27 ∧ zq_at zy_beginNext_14_38.2.1 5 46 ∧ zq_at zy_beginNext_14_38.2.1 6 62 ∧ zq_at zy_beginNext_14_38.2.1 7 42 ∧ zq_at zy_beginNext_14_38.2.1 8 42 ∧ zq_at zy_beginNext_14_38.2.1 9 180 ∧ zq_at zy_beginNext_14_38.2.1 10 0 ∧ zq_at zy_beginNext_14_38.2.1 11 29 ∧ zq_at zy_beginNext_14_38.2.1 12 29 ∧ zq_at zy_beginNext_14_38.2.1 13 47 ∧ zq_at zy_beginNext_14_38.2.1 14 182 ∧ zq_at zy_beginNext_14_38.2.1 15 0 ∧ zq_at zy_beginNext_14_38.2.1 16 234 ∧ zq_at zy_beginNext_14_38.2.1 17 42 ∧ zq_at zy_beginNext_14_38.2.1 18 180 ∧ zq_at zy_beginNext_14_38.2.1 19 0 ∧ zq_at zy_beginNext_14_38.2.1 20 51 ∧ zq_at zy_beginNext_14_38.2.1 21 27 ∧ zq_at zy_beginNext_14_38.2.1 22 3 := by decide +kernel
theorem zd_14_38_0 : zz_D zy_beginNext_14_38 0 (.aload_n 0) 1 1 := ⟨zq_42 zg_14_38_0.1, rfl⟩
theorem zd_14_38_1 : zz_D zy_beginNext_14_38 1 (.getfield 73) 3 4 := ⟨zq_180 zg_14_38_0.2.1 zg_14_38_0.2.2.1 zg_14_38_0.2.2.2.1 rfl, rfl⟩
theorem zd_14_38_4 : zz_D zy_beginNext_14_38 4 (.iload_n 1) 1 5 := ⟨zq_27 zg_14_38_0.2.2.2.2.1, rfl⟩
theorem zd_14_38_5 : zz_D zy_beginNext_14_38 5 (.iaload) 1 6 := ⟨zq_46 zg_14_38_0.2.2.2.2.2.1, rfl⟩
theorem zd_14_38_6 : zz_D zy_beginNext_14_38 6 (.istore_n 3) 1 7 := ⟨zq_62 zg_14_38_0.2.2.2.2.2.2.1, rfl⟩
theorem zd_14_38_7 : zz_D zy_beginNext_14_38 7 (.aload_n 0) 1 8 := ⟨zq_42 zg_14_38_0.2.2.2.2.2.2.2.1, rfl⟩
theorem zd_14_38_8 : zz_D zy_beginNext_14_38 8 (.aload_n 0) 1 9 := ⟨zq_42 zg_14_38_0.2.2.2.2.2.2.2.2.1, rfl⟩
theorem zd_14_38_9 : zz_D zy_beginNext_14_38 9 (.getfield 29) 3 12 := ⟨zq_180 zg_14_38_0.2.2.2.2.2.2.2.2.2.1 zg_14_38_0.2.2.2.2.2.2.2.2.2.2.1 zg_14_38_0.2.2.2.2.2.2.2.2.2.2.2.1 rfl, rfl⟩
theorem zd_14_38_12 : zz_D zy_beginNext_14_38 12 (.iload_n 3) 1 13 := ⟨zq_29 zg_14_38_0.2.2.2.2.2.2.2.2.2.2.2.2.1, rfl⟩
theorem zd_14_38_13 : zz_D zy_beginNext_14_38 13 (.laload) 1 14 := ⟨zq_47 zg_14_38_0.2.2.2.2.2.2.2.2.2.2.2.2.2.1, rfl⟩
theorem zd_14_38_14 : zz_D zy_beginNext_14_38 14 (.invokevirtual 234) 3 17 := ⟨zq_182 zg_14_38_0.2.2.2.2.2.2.2.2.2.2.2.2.2.2.1 zg_14_38_0.2.2.2.2.2.2.2.2.2.2.2.2.2.2.2.1 zg_14_38_0.2.2.2.2.2.2.2.2.2.2.2.2.2.2.2.2.1 rfl, rfl⟩
theorem zd_14_38_17 : zz_D zy_beginNext_14_38 17 (.aload_n 0) 1 18 := ⟨zq_42 zg_14_38_0.2.2.2.2.2.2.2.2.2.2.2.2.2.2.2.2.2.1, rfl⟩
theorem zd_14_38_18 : zz_D zy_beginNext_14_38 18 (.getfield 51) 3 21 := ⟨zq_180 zg_14_38_0.2.2.2.2.2.2.2.2.2.2.2.2.2.2.2.2.2.2.1 zg_14_38_0.2.2.2.2.2.2.2.2.2.2.2.2.2.2.2.2.2.2.2.1 zg_14_38_0.2.2.2.2.2.2.2.2.2.2.2.2.2.2.2.2.2.2.2.2.1 rfl, rfl⟩
theorem zd_14_38_21 : zz_D zy_beginNext_14_38 21 (.iload_n 1) 1 22 := ⟨zq_27 zg_14_38_0.2.2.2.2.2.2.2.2.2.2.2.2.2.2.2.2.2.2.2.2.2.1, rfl⟩
theorem zd_14_38_22 : zz_D zy_beginNext_14_38 22 (.iconst 0) 1 23 := ⟨zq_3 zg_14_38_0.2.2.2.2.2.2.2.2.2.2.2.2.2.2.2.2.2.2.2.2.2.2, rfl⟩
theorem zg_14_38_23 : zq_at zy_beginNext_14_38.2.1 23 184 ∧ zq_at zy_beginNext_14_38.2.1 24 1 ∧ zq_at zy_beginNext_14_38.2.1 25 19 ∧ zq_at zy_beginNext_14_38.2.1 26 92 ∧ zq_at zy_beginNext_14_38.2.1 27 46 ∧ zq_at zy_beginNext_14_38.2.1 28 42 ∧ zq_at zy_beginNext_14_38.2.1 29 180 ∧ zq_at zy_beginNext_14_38.2.1 30 0 ∧ zq_at zy_beginNext_14_38.2.1 31 36 ∧ zq_at zy_beginNext_14_38.2.1 32 4 ∧ zq_at zy_beginNext_14_38.2.1 33 46 ∧ zq_at zy_beginNext_14_38.2.1 34 100 ∧ zq_at zy_beginNext_14_38.2.1 35 79 ∧ zq_at zy_beginNext_14_38.2.1 36 42 ∧ zq_at zy_beginNext_14_38.2.1 37 180 ∧ zq_at zy_beginNext_14_38.2.1 38 0 ∧ zq_at zy_beginNext_14_38.2.1 39 51 ∧ zq_at zy_beginNext_14_38.2.1 40 27 ∧ zq_at zy_beginNext_14_38.2.1 41 4 ∧ zq_at zy_beginNext_14_38.2.1 42 184 ∧ zq_at zy_beginNext_14_38.2.1 43 1 ∧ zq_at zy_beginNext_14_38.2.1 44 19 ∧ zq_at zy_beginNext_14_38.2.1 45 92 ∧ zq_at zy_beginNext_14_38.2.1 46 46 := by decide +kernel
theorem zd_14_38_23 : zz_D zy_beginNext_14_38 23 (.invokestatic 275) 3 26 := ⟨zq_184 zg_14_38_23.1 zg_14_38_23.2.1 zg_14_38_23.2.2.1 rfl, rfl⟩
theorem zd_14_38_26 : zz_D zy_beginNext_14_38 26 (.dup2) 1 27 := ⟨zq_92 zg_14_38_23.2.2.2.1, rfl⟩
theorem zd_14_38_27 : zz_D zy_beginNext_14_38 27 (.iaload) 1 28 := ⟨zq_46 zg_14_38_23.2.2.2.2.1, rfl⟩
theorem zd_14_38_28 : zz_D zy_beginNext_14_38 28 (.aload_n 0) 1 29 := ⟨zq_42 zg_14_38_23.2.2.2.2.2.1, rfl⟩
theorem zd_14_38_29 : zz_D zy_beginNext_14_38 29 (.getfield 36) 3 32 := ⟨zq_180 zg_14_38_23.2.2.2.2.2.2.1 zg_14_38_23.2.2.2.2.2.2.2.1 zg_14_38_23.2.2.2.2.2.2.2.2.1 rfl, rfl⟩
theorem zd_14_38_32 : zz_D zy_beginNext_14_38 32 (.iconst 1) 1 33 := ⟨zq_4 zg_14_38_23.2.2.2.2.2.2.2.2.2.1, rfl⟩
theorem zd_14_38_33 : zz_D zy_beginNext_14_38 33 (.iaload) 1 34 := ⟨zq_46 zg_14_38_23.2.2.2.2.2.2.2.2.2.2.1, rfl⟩
theorem zd_14_38_34 : zz_D zy_beginNext_14_38 34 (.isub) 1 35 := ⟨zq_100 zg_14_38_23.2.2.2.2.2.2.2.2.2.2.2.1, rfl⟩
theorem zd_14_38_35 : zz_D zy_beginNext_14_38 35 (.iastore) 1 36 := ⟨zq_79 zg_14_38_23.2.2.2.2.2.2.2.2.2.2.2.2.1, rfl⟩
theorem zd_14_38_36 : zz_D zy_beginNext_14_38 36 (.aload_n 0) 1 37 := ⟨zq_42 zg_14_38_23.2.2.2.2.2.2.2.2.2.2.2.2.2.1, rfl⟩
theorem zd_14_38_37 : zz_D zy_beginNext_14_38 37 (.getfield 51) 3 40 := ⟨zq_180 zg_14_38_23.2.2.2.2.2.2.2.2.2.2.2.2.2.2.1 zg_14_38_23.2.2.2.2.2.2.2.2.2.2.2.2.2.2.2.1 zg_14_38_23.2.2.2.2.2.2.2.2.2.2.2.2.2.2.2.2.1 rfl, rfl⟩
theorem zd_14_38_40 : zz_D zy_beginNext_14_38 40 (.iload_n 1) 1 41 := ⟨zq_27 zg_14_38_23.2.2.2.2.2.2.2.2.2.2.2.2.2.2.2.2.2.1, rfl⟩
theorem zd_14_38_41 : zz_D zy_beginNext_14_38 41 (.iconst 1) 1 42 := ⟨zq_4 zg_14_38_23.2.2.2.2.2.2.2.2.2.2.2.2.2.2.2.2.2.2.1, rfl⟩
theorem zd_14_38_42 : zz_D zy_beginNext_14_38 42 (.invokestatic 275) 3 45 := ⟨zq_184 zg_14_38_23.2.2.2.2.2.2.2.2.2.2.2.2.2.2.2.2.2.2.2.1 zg_14_38_23.2.2.2.2.2.2.2.2.2.2.2.2.2.2.2.2.2.2.2.2.1 zg_14_38_23.2.2.2.2.2.2.2.2.2.2.2.2.2.2.2.2.2.2.2.2.2.1 rfl, rfl⟩
theorem zd_14_38_45 : zz_D zy_beginNext_14_38 45 (.dup2) 1 46 := ⟨zq_92 zg_14_38_23.2.2.2.2.2.2.2.2.2.2.2.2.2.2.2.2.2.2.2.2.2.2.1, rfl⟩
theorem zd_14_38_46 : zz_D zy_beginNext_14_38 46 (.iaload) 1 47 := ⟨zq_46 zg_14_38_23.2.2.2.2.2.2.2.2.2.2.2.2.2.2.2.2.2.2.2.2.2.2.2, rfl⟩
theorem zg_14_38_47 : zq_at zy_beginNext_14_38.2.1 47 42 ∧ zq_at zy_beginNext_14_38.2.1 48 180 ∧ zq_at zy_beginNext_14_38.2.1 49 0 ∧ zq_at zy_beginNext_14_38.2.1 50 36 ∧ zq_at zy_beginNext_14_38.2.1 51 5 ∧ zq_at zy_beginNext_14_38.2.1 52 46 ∧ zq_at zy_beginNext_14_38.2.1 53 100 ∧ zq_at zy_beginNext_14_38.2.1 54 79 ∧ zq_at zy_beginNext_14_38.2.1 55 42 ∧ zq_at zy_beginNext_14_38.2.1 56 180 ∧ zq_at zy_beginNext_14_38.2.1 57 0 ∧ zq_at zy_beginNext_14_38.2.1 58 57 ∧ zq_at zy_beginNext_14_38.2.1 59 29 ∧ zq_at zy_beginNext_14_38.2.1 60 28 ∧ zq_at zy_beginNext_14_38.2.1 61 79 ∧ zq_at zy_beginNext_14_38.2.1 62 42 ∧ zq_at zy_beginNext_14_38.2.1 63 180 ∧ zq_at zy_beginNext_14_38.2.1 64 0 ∧ zq_at zy_beginNext_14_38.2.1 65 60 ∧ zq_at zy_beginNext_14_38.2.1 66 29 ∧ zq_at zy_beginNext_14_38.2.1 67 28 ∧ zq_at zy_beginNext_14_38.2.1 68 42 := by decide +kernel
theorem zd_14_38_47 : zz_D zy_beginNext_14_38 47 (.aload_n 0) 1 48 := ⟨zq_42 zg_14_38_47.1, rfl⟩
theorem zd_14_38_48 : zz_D zy_beginNext_14_38 48 (.getfield 36) 3 51 := ⟨zq_180 zg_14_38_47.2.1 zg_14_38_47.2.2.1 zg_14_38_47.2.2.2.1 rfl, rfl⟩
theorem zd_14_38_51 : zz_D zy_beginNext_14_38 51 (.iconst 2) 1 52 := ⟨zq_5 zg_14_38_47.2.2.2.2.1, rfl⟩
theorem zd_14_38_52 : zz_D zy_beginNext_14_38 52 (.iaload) 1 53 := ⟨zq_46 zg_14_38_47.2.2.2.2.2.1, rfl⟩
theorem zd_14_38_53 : zz_D zy_beginNext_14_38 53 (.isub) 1 54 := ⟨zq_100 zg_14_38_47.2.2.2.2.2.2.1, rfl⟩
theorem zd_14_38_54 : zz_D zy_beginNext_14_38 54 (.iastore) 1 55 := ⟨zq_79 zg_14_38_47.2.2.2.2.2.2.2.1, rfl⟩
theorem zd_14_38_55 : zz_D zy_beginNext_14_38 55 (.aload_n 0) 1 56 := ⟨zq_42 zg_14_38_47.2.2.2.2.2.2.2.2.1, rfl⟩
theorem zd_14_38_56 : zz_D zy_beginNext_14_38 56 (.getfield 57) 3 59 := ⟨zq_180 zg_14_38_47.2.2.2.2.2.2.2.2.2.1 zg_14_38_47.2.2.2.2.2.2.2.2.2.2.1 zg_14_38_47.2.2.2.2.2.2.2.2.2.2.2.1 rfl, rfl⟩
theorem zd_14_38_59 : zz_D zy_beginNext_14_38 59 (.iload_n 3) 1 60 := ⟨zq_29 zg_14_38_47.2.2.2.2.2.2.2.2.2.2.2.2.1, rfl⟩
theorem zd_14_38_60 : zz_D zy_beginNext_14_38 60 (.iload_n 2) 1 61 := ⟨zq_28 zg_14_38_47.2.2.2.2.2.2.2.2.2.2.2.2.2.1, rfl⟩
theorem zd_14_38_61 : zz_D zy_beginNext_14_38 61 (.iastore) 1 62 := ⟨zq_79 zg_14_38_47.2.2.2.2.2.2.2.2.2.2.2.2.2.2.1, rfl⟩
theorem zd_14_38_62 : zz_D zy_beginNext_14_38 62 (.aload_n 0) 1 63 := ⟨zq_42 zg_14_38_47.2.2.2.2.2.2.2.2.2.2.2.2.2.2.2.1, rfl⟩
theorem zd_14_38_63 : zz_D zy_beginNext_14_38 63 (.getfield 60) 3 66 := ⟨zq_180 zg_14_38_47.2.2.2.2.2.2.2.2.2.2.2.2.2.2.2.2.1 zg_14_38_47.2.2.2.2.2.2.2.2.2.2.2.2.2.2.2.2.2.1 zg_14_38_47.2.2.2.2.2.2.2.2.2.2.2.2.2.2.2.2.2.2.1 rfl, rfl⟩
theorem zd_14_38_66 : zz_D zy_beginNext_14_38 66 (.iload_n 3) 1 67 := ⟨zq_29 zg_14_38_47.2.2.2.2.2.2.2.2.2.2.2.2.2.2.2.2.2.2.2.1, rfl⟩
theorem zd_14_38_67 : zz_D zy_beginNext_14_38 67 (.iload_n 2) 1 68 := ⟨zq_28 zg_14_38_47.2.2.2.2.2.2.2.2.2.2.2.2.2.2.2.2.2.2.2.2.1, rfl⟩
theorem zd_14_38_68 : zz_D zy_beginNext_14_38 68 (.aload_n 0) 1 69 := ⟨zq_42 zg_14_38_47.2.2.2.2.2.2.2.2.2.2.2.2.2.2.2.2.2.2.2.2.2, rfl⟩
theorem zg_14_38_69 : zq_at zy_beginNext_14_38.2.1 69 182 ∧ zq_at zy_beginNext_14_38.2.1 70 1 ∧ zq_at zy_beginNext_14_38.2.1 71 26 ∧ zq_at zy_beginNext_14_38.2.1 72 96 ∧ zq_at zy_beginNext_14_38.2.1 73 79 ∧ zq_at zy_beginNext_14_38.2.1 74 42 ∧ zq_at zy_beginNext_14_38.2.1 75 180 ∧ zq_at zy_beginNext_14_38.2.1 76 0 ∧ zq_at zy_beginNext_14_38.2.1 77 48 ∧ zq_at zy_beginNext_14_38.2.1 78 27 ∧ zq_at zy_beginNext_14_38.2.1 79 42 ∧ zq_at zy_beginNext_14_38.2.1 80 180 ∧ zq_at zy_beginNext_14_38.2.1 81 0 ∧ zq_at zy_beginNext_14_38.2.1 82 48 ∧ zq_at zy_beginNext_14_38.2.1 83 27 ∧ zq_at zy_beginNext_14_38.2.1 84 46 ∧ zq_at zy_beginNext_14_38.2.1 85 42 ∧ zq_at zy_beginNext_14_38.2.1 86 182 ∧ zq_at zy_beginNext_14_38.2.1 87 1 ∧ zq_at zy_beginNext_14_38.2.1 88 26 ∧ zq_at zy_beginNext_14_38.2.1 89 96 ∧ zq_at zy_beginNext_14_38.2.1 90 79 ∧ zq_at zy_beginNext_14_38.2.1 91 42 := by decide +kernel
theorem zd_14_38_69 : zz_D zy_beginNext_14_38 69 (.invokevirtual 282) 3 72 := ⟨zq_182 zg_14_38_69.1 zg_14_38_69.2.1 zg_14_38_69.2.2.1 rfl, rfl⟩
theorem zd_14_38_72 : zz_D zy_beginNext_14_38 72 (.iadd) 1 73 := ⟨zq_96 zg_14_38_69.2.2.2.1, rfl⟩
theorem zd_14_38_73 : zz_D zy_beginNext_14_38 73 (.iastore) 1 74 := ⟨zq_79 zg_14_38_69.2.2.2.2.1, rfl⟩
theorem zd_14_38_74 : zz_D zy_beginNext_14_38 74 (.aload_n 0) 1 75 := ⟨zq_42 zg_14_38_69.2.2.2.2.2.1, rfl⟩
theorem zd_14_38_75 : zz_D zy_beginNext_14_38 75 (.getfield 48) 3 78 := ⟨zq_180 zg_14_38_69.2.2.2.2.2.2.1 zg_14_38_69.2.2.2.2.2.2.2.1 zg_14_38_69.2.2.2.2.2.2.2.2.1 rfl, rfl⟩
theorem zd_14_38_78 : zz_D zy_beginNext_14_38 78 (.iload_n 1) 1 79 := ⟨zq_27 zg_14_38_69.2.2.2.2.2.2.2.2.2.1, rfl⟩
theorem zd_14_38_79 : zz_D zy_beginNext_14_38 79 (.aload_n 0) 1 80 := ⟨zq_42 zg_14_38_69.2.2.2.2.2.2.2.2.2.2.1, rfl⟩
theorem zd_14_38_80 : zz_D zy_beginNext_14_38 80 (.getfield 48) 3 83 := ⟨zq_180 zg_14_38_69.2.2.2.2.2.2.2.2.2.2.2.1 zg_14_38_69.2.2.2.2.2.2.2.2.2.2.2.2.1 zg_14_38_69.2.2.2.2.2.2.2.2.2.2.2.2.2.1 rfl, rfl⟩
theorem zd_14_38_83 : zz_D zy_beginNext_14_38 83 (.iload_n 1) 1 84 := ⟨zq_27 zg_14_38_69.2.2.2.2.2.2.2.2.2.2.2.2.2.2.1, rfl⟩
theorem zd_14_38_84 : zz_D zy_beginNext_14_38 84 (.iaload) 1 85 := ⟨zq_46 zg_14_38_69.2.2.2.2.2.2.2.2.2.2.2.2.2.2.2.1, rfl⟩
theorem zd_14_38_85 : zz_D zy_beginNext_14_38 85 (.aload_n 0) 1 86 := ⟨zq_42 zg_14_38_69.2.2.2.2.2.2.2.2.2.2.2.2.2.2.2.2.1, rfl⟩
theorem zd_14_38_86 : zz_D zy_beginNext_14_38 86 (.invokevirtual 282) 3 89 := ⟨zq_182 zg_14_38_69.2.2.2.2.2.2.2.2.2.2.2.2.2.2.2.2.2.1 zg_14_38_69.2.2.2.2.2.2.2.2.2.2.2.2.2.2.2.2.2.2.1 zg_14_38_69.2.2.2.2.2.2.2.2.2.2.2.2.2.2.2.2.2.2.2.1 rfl, rfl⟩
theorem zd_14_38_89 : zz_D zy_beginNext_14_38 89 (.iadd) 1 90 := ⟨zq_96 zg_14_38_69.2.2.2.2.2.2.2.2.2.2.2.2.2.2.2.2.2.2.2.2.1, rfl⟩
theorem zd_14_38_90 : zz_D zy_beginNext_14_38 90 (.iastore) 1 91 := ⟨zq_79 zg_14_38_69.2.2.2.2.2.2.2.2.2.2.2.2.2.2.2.2.2.2.2.2.2.1, rfl⟩
theorem zd_14_38_91 : zz_D zy_beginNext_14_38 91 (.aload_n 0) 1 92 := ⟨zq_42 zg_14_38_69.2.2.2.2.2.2.2.2.2.2.2.2.2.2.2.2.2.2.2.2.2.2, rfl⟩
theorem zg_14_38_92 : zq_at zy_beginNext_14_38.2.1 92 180 ∧ zq_at zy_beginNext_14_38.2.1 93 0 ∧ zq_at zy_beginNext_14_38.2.1 94 70 ∧ zq_at zy_beginNext_14_38.2.1 95 27 ∧ zq_at zy_beginNext_14_38.2.1 96 29 ∧ zq_at zy_beginNext_14_38.2.1 97 79 ∧ zq_at zy_beginNext_14_38.2.1 98 42 ∧ zq_at zy_beginNext_14_38.2.1 99 182 ∧ zq_at zy_beginNext_14_38.2.1 100 1 ∧ zq_at zy_beginNext_14_38.2.1 101 29 ∧ zq_at zy_beginNext_14_38.2.1 102 42 ∧ zq_at zy_beginNext_14_38.2.1 103 27 ∧ zq_at zy_beginNext_14_38.2.1 104 182 ∧ zq_at zy_beginNext_14_38.2.1 105 1 ∧ zq_at zy_beginNext_14_38.2.1 106 32 := by decide +kernel
theorem zd_14_38_92 : zz_D zy_beginNext_14_38 92 (.getfield 70) 3 95 := ⟨zq_180 zg_14_38_92.1 zg_14_38_92.2.1 zg_14_38_92.2.2.1 rfl, rfl⟩
theorem zd_14_38_95 : zz_D zy_beginNext_14_38 95 (.iload_n 1) 1 96 := ⟨zq_27 zg_14_38_92.2.2.2.1, rfl⟩
theorem zd_14_38_96 : zz_D zy_beginNext_14_38 96 (.iload_n 3) 1 97 := ⟨zq_29 zg_14_38_92.2.2.2.2.1, rfl⟩
theorem zd_14_38_97 : zz_D zy_beginNext_14_38 97 (.iastore) 1 98 := ⟨zq_79 zg_14_38_92.2.2.2.2.2.1, rfl⟩
theorem zd_14_38_98 : zz_D zy_beginNext_14_38 98 (.aload_n 0) 1 99 := ⟨zq_42 zg_14_38_92.2.2.2.2.2.2.1, rfl⟩
theorem zd_14_38_99 : zz_D zy_beginNext_14_38 99 (.invokevirtual 285) 3 102 := ⟨zq_182 zg_14_38_92.2.2.2.2.2.2.2.1 zg_14_38_92.2.2.2.2.2.2.2.2.1 zg_14_38_92.2.2.2.2.2.2.2.2.2.1 rfl, rfl⟩
theorem zd_14_38_102 : zz_D zy_beginNext_14_38 102 (.aload_n 0) 1 103 := ⟨zq_42 zg_14_38_92.2.2.2.2.2.2.2.2.2.2.1, rfl⟩
theorem zd_14_38_103 : zz_D zy_beginNext_14_38 103 (.iload_n 1) 1 104 := ⟨zq_27 zg_14_38_92.2.2.2.2.2.2.2.2.2.2.2.1, rfl⟩
theorem zd_14_38_104 : zz_D zy_beginNext_14_38 104 (.invokevirtual 288) 3 107 := ⟨zq_182 zg_14_38_92.2.2.2.2.2.2.2.2.2.2.2.2.1 zg_14_38_92.2.2.2.2.2.2.2.2.2.2.2.2.2.1 zg_14_38_92.2.2.2.2.2.2.2.2.2.2.2.2.2.2 rfl, rfl⟩
-- TensorForgeModel findNext (I)V
abbrev zr_findNext_14_34x_0 : Room := { frames := 0, cells := 0, slots := 0, locals := 0 }
def zp_findNext_14_34x_0  (S0 : zz_S) : zz_S → Prop := fun S => zz_G S ∧ zz_fr [(1098, 0)] [] (fun _ _ => False) S0 S ∧ (S 1098 0 > S0 1098 0)
theorem zb_findNext_14_34x_0_10 {g : mm_G} {l : Launch}  (S0 : zz_S) (n : Nat) (hn : zz_end ≤ n) (G_S0 : zz_G S0) (hq : S0 1098 0 ≤ 600)  (S : zz_S) (G_S : zz_G S) (F_S : zz_fr [(1098, 0)] [] (fun _ _ => False) S0 S) (i10_0 : S 1098 0 > S0 1098 0) (i10_1 : 0 ≤ S 1098 0) (R : Nat) (hR : (601 - S 1098 0).toNat = R) (k10 : ∀  (S : zz_S), zz_G S → zz_fr [(1098, 0)] [] (fun _ _ => False) S0 S → (S 1098 0 > S0 1098 0) → (0 ≤ S 1098 0) → (601 - S 1098 0).toNat < R → zz_E g l zy_findNext_14_34 zr_findNext_14_34x_0 (zz_QV n (zp_findNext_14_34x_0  S0)) S n 10 [some (.ref 1079), some (zi 0)] [] 0 0) : zz_E g l zy_findNext_14_34 zr_findNext_14_34x_0 (zz_QV n (zp_findNext_14_34x_0  S0)) S n 10 [some (.ref 1079), some (zi 0)] [] 0 0 := by
  refine zz_aload_n (x := 1079) rfl zd_14_34_10 ?_
  refine zz_getr (kd := 0) (z := 1098) zd_14_34_11 zf_Md_73 zT_1079 rfl (zz_ltn hn rfl) (zz_G.eq G_S 1079 26 1098 rfl rfl) (by decide) 1098 rfl ?_
  refine zz_iload_n (x := 0) rfl zd_14_34_14 ?_
  have g4 := zz_G.r G_S 1098 0 (-1) 601 rfl rfl
  refine zz_iald (z := S 1098 0) zd_14_34_15 zT_1098 rfl (zz_ltn hn rfl) (by decide) (by decide) rfl ?_
  refine zz_aload_n (x := 1079) rfl zd_14_34_16 ?_
  have g5 := zz_G.r G_S0 1079 19 (-1) 600 rfl rfl
  refine zz_geti (z := S0 1079 19) zd_14_34_17 zf_Md_272 zT_1079 rfl (zz_ltn hn rfl) (zz_rc F_S rfl rfl (fun h => h) rfl) ?_
  refine zz_icmp_ge (by omega) (by omega) zd_14_34_20 (fun c6 => ?_) (fun c6 => ?_)
  · exact zz_vret zd_14_34_51 rfl (Nat.zero_le _) (Nat.zero_le _) ⟨_, rfl, G_S, F_S, by omega⟩
  · refine zz_aload_n (x := 1079) rfl zd_14_34_23 ?_
    refine zz_getr (kd := 0) (z := 1092) zd_14_34_24 zf_Md_54 zT_1079 rfl (zz_ltn hn rfl) (zz_G.eq G_S 1079 20 1092 rfl rfl) (by decide) 1092 rfl ?_
    refine zz_aload_n (x := 1079) rfl zd_14_34_27 ?_
    refine zz_getr (kd := 0) (z := 1098) zd_14_34_28 zf_Md_73 zT_1079 rfl (zz_ltn hn rfl) (zz_G.eq G_S 1079 26 1098 rfl rfl) (by decide) 1098 rfl ?_
    refine zz_iload_n (x := 0) rfl zd_14_34_31 ?_
    refine zz_iald (z := S 1098 0) zd_14_34_32 zT_1098 rfl (zz_ltn hn rfl) (by decide) (by decide) rfl ?_
    have g7 := zz_G.r G_S0 1092 ((S 1098 0).toNat) (-2147483648) 2147483647 rfl rfl
    refine zz_iald (z := S0 1092 ((S 1098 0).toNat)) zd_14_34_33 zT_1092 rfl (zz_ltn hn rfl) (by decide) (by omega) (zz_rc F_S (zz_nc1 rfl) rfl (fun h => h) rfl) ?_
    refine zz_iload_n (x := 0) rfl zd_14_34_34 ?_
    refine zz_icmp_eq (by omega) (by omega) zd_14_34_35 (fun c8 => ?_) (fun c8 => ?_)
    · exact zz_vret zd_14_34_51 rfl (Nat.zero_le _) (Nat.zero_le _) ⟨_, rfl, G_S, F_S, by omega⟩
    · refine zz_aload_n (x := 1079) rfl zd_14_34_38 ?_
      refine zz_getr (kd := 0) (z := 1098) zd_14_34_39 zf_Md_73 zT_1079 rfl (zz_ltn hn rfl) (zz_G.eq G_S 1079 26 1098 rfl rfl) (by decide) 1098 rfl ?_
      refine zz_iload_n (x := 0) rfl zd_14_34_42 ?_
      refine zz_dup2_11 rfl rfl zd_14_34_43 ?_
      refine zz_iald (z := S 1098 0) zd_14_34_44 zT_1098 rfl (zz_ltn hn rfl) (by decide) (by decide) rfl ?_
      refine zz_iconst zd_14_34_45 ?_
      refine zz_iadd zd_14_34_46 ?_
      refine zz_iast zd_14_34_47 zT_1098 rfl (zz_ltn hn rfl) (by decide) (by decide) (fun S9 qS9 => ?_)
      have G_S9 := zz_G.put G_S qS9 (-1) 601 rfl (by omega)
      have F_S9 := zz_fr.puts F_S qS9 rfl
      refine zz_goto zd_14_34_48 ?_
      have e10 : S9 1098 0 = (S 1098 0) + 1 := (zz_rs qS9)
      exact k10 S9 G_S9 F_S9 (by omega) (by omega) (by omega)
theorem zi_findNext_14_34x_0 {g : mm_G} {l : Launch}  (S0 : zz_S) (n : Nat) (hn : zz_end ≤ n) (G_S0 : zz_G S0) (hq : S0 1098 0 ≤ 600) : ∀ N : Nat, (∀  (S : zz_S), zz_G S → zz_fr [(1098, 0)] [] (fun _ _ => False) S0 S → (S 1098 0 > S0 1098 0) → (0 ≤ S 1098 0) → (601 - S 1098 0).toNat < N → zz_E g l zy_findNext_14_34 zr_findNext_14_34x_0 (zz_QV n (zp_findNext_14_34x_0  S0)) S n 10 [some (.ref 1079), some (zi 0)] [] 0 0) := by
  intro N
  induction N with
  | zero => exact fun  S _ _ _ _ h => absurd h (Nat.not_lt_zero _)
  | succ N ih =>
    exact fun  S a b j0 j1 hR => zb_findNext_14_34x_0_10  S0 n hn G_S0 hq  S a b j0 j1 _ rfl (fun  S a b j0 j1 h => ih  S a b j0 j1 (Nat.lt_of_lt_of_le h (Nat.le_of_lt_succ hR)))
theorem zc_findNext_14_34x_0 {g : mm_G} {l : Launch}  (S0 : zz_S) (n : Nat) (hn : zz_end ≤ n) (G_S0 : zz_G S0) (hq : S0 1098 0 ≤ 600) : mm_Met g l zy_findNext_14_34 zr_findNext_14_34x_0 [.ref 1079, zi 0] (zz_M S0 n) n (zz_QV n (zp_findNext_14_34x_0  S0)) := by
  refine zz_enter (by decide) (Nat.le_of_ble_eq_true rfl) (zz_less (ls1 := [some (.ref 1079), some (zi 0)]) ⟨rfl, ⟨rfl, trivial⟩⟩ ?_)
  have F_S0 : zz_fr [(1098, 0)] [] (fun _ _ => False) S0 S0 := zz_fr.refl
  have k10 : ∀  (S : zz_S), zz_G S → zz_fr [(1098, 0)] [] (fun _ _ => False) S0 S → (S 1098 0 > S0 1098 0) → (0 ≤ S 1098 0) → zz_E g l zy_findNext_14_34 zr_findNext_14_34x_0 (zz_QV n (zp_findNext_14_34x_0  S0)) S n 10 [some (.ref 1079), some (zi 0)] [] 0 0 := fun  S a b j0 j1 => (zi_findNext_14_34x_0 (g := g) (l := l)  S0 n hn G_S0 hq _)  S a b j0 j1 (Nat.lt_succ_self _)
  refine zz_aload_n (x := 1079) rfl zd_14_34_0 ?_
  refine zz_getr (kd := 0) (z := 1098) zd_14_34_1 zf_Md_73 zT_1079 rfl (zz_ltn hn rfl) (zz_G.eq G_S0 1079 26 1098 rfl rfl) (by decide) 1098 rfl ?_
  refine zz_iload_n (x := 0) rfl zd_14_34_4 ?_
  refine zz_dup2_11 rfl rfl zd_14_34_5 ?_
  have g1 := zz_G.r G_S0 1098 0 (-1) 601 rfl rfl
  refine zz_iald (z := S0 1098 0) zd_14_34_6 zT_1098 rfl (zz_ltn hn rfl) (by decide) (by decide) rfl ?_
  refine zz_iconst zd_14_34_7 ?_
  refine zz_iadd zd_14_34_8 ?_
  refine zz_iast zd_14_34_9 zT_1098 rfl (zz_ltn hn rfl) (by decide) (by decide) (fun S2 qS2 => ?_)
  have G_S2 := zz_G.put G_S0 qS2 (-1) 601 rfl (by omega)
  have F_S2 := zz_fr.puts F_S0 qS2 rfl
  have e3 : S2 1098 0 = (S0 1098 0) + 1 := (zz_rs qS2)
  exact k10 S2 G_S2 F_S2 (by omega) (by omega)
theorem zk_Md_288 : mm_Vl "TensorForgeModel" 288 11 1 zy_findNext_14_34 := ⟨zyw_findNext_14_34, (R_Md, F_Md, 69), rfl, mm_tb_1 1927 (by decide +kernel) rfl, mm_tb_1 1929 (by decide +kernel) rfl, mm_tb_s 96 (by decide +kernel) rfl⟩
theorem zg_14_38_107 : zq_at zy_beginNext_14_38.2.1 107 177 := by decide +kernel
theorem zd_14_38_107 : zz_D zy_beginNext_14_38 107 (.return_) 1 108 := ⟨zq_177 zg_14_38_107, rfl⟩
-- TensorForgeModel findNext (I)V
abbrev zr_findNext_14_34x_1 : Room := { frames := 0, cells := 0, slots := 0, locals := 0 }
def zp_findNext_14_34x_1  (S0 : zz_S) : zz_S → Prop := fun S => zz_G S ∧ zz_fr [(1098, 1)] [] (fun _ _ => False) S0 S ∧ (S 1098 1 > S0 1098 1)
theorem zb_findNext_14_34x_1_10 {g : mm_G} {l : Launch}  (S0 : zz_S) (n : Nat) (hn : zz_end ≤ n) (G_S0 : zz_G S0) (hq : S0 1098 1 ≤ 600)  (S : zz_S) (G_S : zz_G S) (F_S : zz_fr [(1098, 1)] [] (fun _ _ => False) S0 S) (i10_0 : S 1098 1 > S0 1098 1) (i10_1 : 0 ≤ S 1098 1) (R : Nat) (hR : (601 - S 1098 1).toNat = R) (k10 : ∀  (S : zz_S), zz_G S → zz_fr [(1098, 1)] [] (fun _ _ => False) S0 S → (S 1098 1 > S0 1098 1) → (0 ≤ S 1098 1) → (601 - S 1098 1).toNat < R → zz_E g l zy_findNext_14_34 zr_findNext_14_34x_1 (zz_QV n (zp_findNext_14_34x_1  S0)) S n 10 [some (.ref 1079), some (zi 1)] [] 0 0) : zz_E g l zy_findNext_14_34 zr_findNext_14_34x_1 (zz_QV n (zp_findNext_14_34x_1  S0)) S n 10 [some (.ref 1079), some (zi 1)] [] 0 0 := by
  refine zz_aload_n (x := 1079) rfl zd_14_34_10 ?_
  refine zz_getr (kd := 0) (z := 1098) zd_14_34_11 zf_Md_73 zT_1079 rfl (zz_ltn hn rfl) (zz_G.eq G_S 1079 26 1098 rfl rfl) (by decide) 1098 rfl ?_
  refine zz_iload_n (x := 1) rfl zd_14_34_14 ?_
  have g4 := zz_G.r G_S 1098 1 (-1) 601 rfl rfl
  refine zz_iald (z := S 1098 1) zd_14_34_15 zT_1098 rfl (zz_ltn hn rfl) (by decide) (by decide) rfl ?_
  refine zz_aload_n (x := 1079) rfl zd_14_34_16 ?_
  have g5 := zz_G.r G_S0 1079 19 (-1) 600 rfl rfl
  refine zz_geti (z := S0 1079 19) zd_14_34_17 zf_Md_272 zT_1079 rfl (zz_ltn hn rfl) (zz_rc F_S rfl rfl (fun h => h) rfl) ?_
  refine zz_icmp_ge (by omega) (by omega) zd_14_34_20 (fun c6 => ?_) (fun c6 => ?_)
  · exact zz_vret zd_14_34_51 rfl (Nat.zero_le _) (Nat.zero_le _) ⟨_, rfl, G_S, F_S, by omega⟩
  · refine zz_aload_n (x := 1079) rfl zd_14_34_23 ?_
    refine zz_getr (kd := 0) (z := 1092) zd_14_34_24 zf_Md_54 zT_1079 rfl (zz_ltn hn rfl) (zz_G.eq G_S 1079 20 1092 rfl rfl) (by decide) 1092 rfl ?_
    refine zz_aload_n (x := 1079) rfl zd_14_34_27 ?_
    refine zz_getr (kd := 0) (z := 1098) zd_14_34_28 zf_Md_73 zT_1079 rfl (zz_ltn hn rfl) (zz_G.eq G_S 1079 26 1098 rfl rfl) (by decide) 1098 rfl ?_
    refine zz_iload_n (x := 1) rfl zd_14_34_31 ?_
    refine zz_iald (z := S 1098 1) zd_14_34_32 zT_1098 rfl (zz_ltn hn rfl) (by decide) (by decide) rfl ?_
    have g7 := zz_G.r G_S0 1092 ((S 1098 1).toNat) (-2147483648) 2147483647 rfl rfl
    refine zz_iald (z := S0 1092 ((S 1098 1).toNat)) zd_14_34_33 zT_1092 rfl (zz_ltn hn rfl) (by decide) (by omega) (zz_rc F_S (zz_nc1 rfl) rfl (fun h => h) rfl) ?_
    refine zz_iload_n (x := 1) rfl zd_14_34_34 ?_
    refine zz_icmp_eq (by omega) (by omega) zd_14_34_35 (fun c8 => ?_) (fun c8 => ?_)
    · exact zz_vret zd_14_34_51 rfl (Nat.zero_le _) (Nat.zero_le _) ⟨_, rfl, G_S, F_S, by omega⟩
    · refine zz_aload_n (x := 1079) rfl zd_14_34_38 ?_
      refine zz_getr (kd := 0) (z := 1098) zd_14_34_39 zf_Md_73 zT_1079 rfl (zz_ltn hn rfl) (zz_G.eq G_S 1079 26 1098 rfl rfl) (by decide) 1098 rfl ?_
      refine zz_iload_n (x := 1) rfl zd_14_34_42 ?_
      refine zz_dup2_11 rfl rfl zd_14_34_43 ?_
      refine zz_iald (z := S 1098 1) zd_14_34_44 zT_1098 rfl (zz_ltn hn rfl) (by decide) (by decide) rfl ?_
      refine zz_iconst zd_14_34_45 ?_
      refine zz_iadd zd_14_34_46 ?_
      refine zz_iast zd_14_34_47 zT_1098 rfl (zz_ltn hn rfl) (by decide) (by decide) (fun S9 qS9 => ?_)
      have G_S9 := zz_G.put G_S qS9 (-1) 601 rfl (by omega)
      have F_S9 := zz_fr.puts F_S qS9 rfl
      refine zz_goto zd_14_34_48 ?_
      have e10 : S9 1098 1 = (S 1098 1) + 1 := (zz_rs qS9)
      exact k10 S9 G_S9 F_S9 (by omega) (by omega) (by omega)
theorem zi_findNext_14_34x_1 {g : mm_G} {l : Launch}  (S0 : zz_S) (n : Nat) (hn : zz_end ≤ n) (G_S0 : zz_G S0) (hq : S0 1098 1 ≤ 600) : ∀ N : Nat, (∀  (S : zz_S), zz_G S → zz_fr [(1098, 1)] [] (fun _ _ => False) S0 S → (S 1098 1 > S0 1098 1) → (0 ≤ S 1098 1) → (601 - S 1098 1).toNat < N → zz_E g l zy_findNext_14_34 zr_findNext_14_34x_1 (zz_QV n (zp_findNext_14_34x_1  S0)) S n 10 [some (.ref 1079), some (zi 1)] [] 0 0) := by
  intro N
  induction N with
  | zero => exact fun  S _ _ _ _ h => absurd h (Nat.not_lt_zero _)
  | succ N ih =>
    exact fun  S a b j0 j1 hR => zb_findNext_14_34x_1_10  S0 n hn G_S0 hq  S a b j0 j1 _ rfl (fun  S a b j0 j1 h => ih  S a b j0 j1 (Nat.lt_of_lt_of_le h (Nat.le_of_lt_succ hR)))
theorem zc_findNext_14_34x_1 {g : mm_G} {l : Launch}  (S0 : zz_S) (n : Nat) (hn : zz_end ≤ n) (G_S0 : zz_G S0) (hq : S0 1098 1 ≤ 600) : mm_Met g l zy_findNext_14_34 zr_findNext_14_34x_1 [.ref 1079, zi 1] (zz_M S0 n) n (zz_QV n (zp_findNext_14_34x_1  S0)) := by
  refine zz_enter (by decide) (Nat.le_of_ble_eq_true rfl) (zz_less (ls1 := [some (.ref 1079), some (zi 1)]) ⟨rfl, ⟨rfl, trivial⟩⟩ ?_)
  have F_S0 : zz_fr [(1098, 1)] [] (fun _ _ => False) S0 S0 := zz_fr.refl
  have k10 : ∀  (S : zz_S), zz_G S → zz_fr [(1098, 1)] [] (fun _ _ => False) S0 S → (S 1098 1 > S0 1098 1) → (0 ≤ S 1098 1) → zz_E g l zy_findNext_14_34 zr_findNext_14_34x_1 (zz_QV n (zp_findNext_14_34x_1  S0)) S n 10 [some (.ref 1079), some (zi 1)] [] 0 0 := fun  S a b j0 j1 => (zi_findNext_14_34x_1 (g := g) (l := l)  S0 n hn G_S0 hq _)  S a b j0 j1 (Nat.lt_succ_self _)
  refine zz_aload_n (x := 1079) rfl zd_14_34_0 ?_
  refine zz_getr (kd := 0) (z := 1098) zd_14_34_1 zf_Md_73 zT_1079 rfl (zz_ltn hn rfl) (zz_G.eq G_S0 1079 26 1098 rfl rfl) (by decide) 1098 rfl ?_
  refine zz_iload_n (x := 1) rfl zd_14_34_4 ?_
  refine zz_dup2_11 rfl rfl zd_14_34_5 ?_
  have g1 := zz_G.r G_S0 1098 1 (-1) 601 rfl rfl
  refine zz_iald (z := S0 1098 1) zd_14_34_6 zT_1098 rfl (zz_ltn hn rfl) (by decide) (by decide) rfl ?_
  refine zz_iconst zd_14_34_7 ?_
  refine zz_iadd zd_14_34_8 ?_
  refine zz_iast zd_14_34_9 zT_1098 rfl (zz_ltn hn rfl) (by decide) (by decide) (fun S2 qS2 => ?_)
  have G_S2 := zz_G.put G_S0 qS2 (-1) 601 rfl (by omega)
  have F_S2 := zz_fr.puts F_S0 qS2 rfl
  have e3 : S2 1098 1 = (S0 1098 1) + 1 := (zz_rs qS2)
  exact k10 S2 G_S2 F_S2 (by omega) (by omega)
-- TensorForgeModel findNext (I)V
abbrev zr_findNext_14_34x_2 : Room := { frames := 0, cells := 0, slots := 0, locals := 0 }
def zp_findNext_14_34x_2  (S0 : zz_S) : zz_S → Prop := fun S => zz_G S ∧ zz_fr [(1098, 2)] [] (fun _ _ => False) S0 S ∧ (S 1098 2 > S0 1098 2)
theorem zb_findNext_14_34x_2_10 {g : mm_G} {l : Launch}  (S0 : zz_S) (n : Nat) (hn : zz_end ≤ n) (G_S0 : zz_G S0) (hq : S0 1098 2 ≤ 600)  (S : zz_S) (G_S : zz_G S) (F_S : zz_fr [(1098, 2)] [] (fun _ _ => False) S0 S) (i10_0 : S 1098 2 > S0 1098 2) (i10_1 : 0 ≤ S 1098 2) (R : Nat) (hR : (601 - S 1098 2).toNat = R) (k10 : ∀  (S : zz_S), zz_G S → zz_fr [(1098, 2)] [] (fun _ _ => False) S0 S → (S 1098 2 > S0 1098 2) → (0 ≤ S 1098 2) → (601 - S 1098 2).toNat < R → zz_E g l zy_findNext_14_34 zr_findNext_14_34x_2 (zz_QV n (zp_findNext_14_34x_2  S0)) S n 10 [some (.ref 1079), some (zi 2)] [] 0 0) : zz_E g l zy_findNext_14_34 zr_findNext_14_34x_2 (zz_QV n (zp_findNext_14_34x_2  S0)) S n 10 [some (.ref 1079), some (zi 2)] [] 0 0 := by
  refine zz_aload_n (x := 1079) rfl zd_14_34_10 ?_
  refine zz_getr (kd := 0) (z := 1098) zd_14_34_11 zf_Md_73 zT_1079 rfl (zz_ltn hn rfl) (zz_G.eq G_S 1079 26 1098 rfl rfl) (by decide) 1098 rfl ?_
  refine zz_iload_n (x := 2) rfl zd_14_34_14 ?_
  have g4 := zz_G.r G_S 1098 2 (-1) 601 rfl rfl
  refine zz_iald (z := S 1098 2) zd_14_34_15 zT_1098 rfl (zz_ltn hn rfl) (by decide) (by decide) rfl ?_
  refine zz_aload_n (x := 1079) rfl zd_14_34_16 ?_
  have g5 := zz_G.r G_S0 1079 19 (-1) 600 rfl rfl
  refine zz_geti (z := S0 1079 19) zd_14_34_17 zf_Md_272 zT_1079 rfl (zz_ltn hn rfl) (zz_rc F_S rfl rfl (fun h => h) rfl) ?_
  refine zz_icmp_ge (by omega) (by omega) zd_14_34_20 (fun c6 => ?_) (fun c6 => ?_)
  · exact zz_vret zd_14_34_51 rfl (Nat.zero_le _) (Nat.zero_le _) ⟨_, rfl, G_S, F_S, by omega⟩
  · refine zz_aload_n (x := 1079) rfl zd_14_34_23 ?_
    refine zz_getr (kd := 0) (z := 1092) zd_14_34_24 zf_Md_54 zT_1079 rfl (zz_ltn hn rfl) (zz_G.eq G_S 1079 20 1092 rfl rfl) (by decide) 1092 rfl ?_
    refine zz_aload_n (x := 1079) rfl zd_14_34_27 ?_
    refine zz_getr (kd := 0) (z := 1098) zd_14_34_28 zf_Md_73 zT_1079 rfl (zz_ltn hn rfl) (zz_G.eq G_S 1079 26 1098 rfl rfl) (by decide) 1098 rfl ?_
    refine zz_iload_n (x := 2) rfl zd_14_34_31 ?_
    refine zz_iald (z := S 1098 2) zd_14_34_32 zT_1098 rfl (zz_ltn hn rfl) (by decide) (by decide) rfl ?_
    have g7 := zz_G.r G_S0 1092 ((S 1098 2).toNat) (-2147483648) 2147483647 rfl rfl
    refine zz_iald (z := S0 1092 ((S 1098 2).toNat)) zd_14_34_33 zT_1092 rfl (zz_ltn hn rfl) (by decide) (by omega) (zz_rc F_S (zz_nc1 rfl) rfl (fun h => h) rfl) ?_
    refine zz_iload_n (x := 2) rfl zd_14_34_34 ?_
    refine zz_icmp_eq (by omega) (by omega) zd_14_34_35 (fun c8 => ?_) (fun c8 => ?_)
    · exact zz_vret zd_14_34_51 rfl (Nat.zero_le _) (Nat.zero_le _) ⟨_, rfl, G_S, F_S, by omega⟩
    · refine zz_aload_n (x := 1079) rfl zd_14_34_38 ?_
      refine zz_getr (kd := 0) (z := 1098) zd_14_34_39 zf_Md_73 zT_1079 rfl (zz_ltn hn rfl) (zz_G.eq G_S 1079 26 1098 rfl rfl) (by decide) 1098 rfl ?_
      refine zz_iload_n (x := 2) rfl zd_14_34_42 ?_
      refine zz_dup2_11 rfl rfl zd_14_34_43 ?_
      refine zz_iald (z := S 1098 2) zd_14_34_44 zT_1098 rfl (zz_ltn hn rfl) (by decide) (by decide) rfl ?_
      refine zz_iconst zd_14_34_45 ?_
      refine zz_iadd zd_14_34_46 ?_
      refine zz_iast zd_14_34_47 zT_1098 rfl (zz_ltn hn rfl) (by decide) (by decide) (fun S9 qS9 => ?_)
      have G_S9 := zz_G.put G_S qS9 (-1) 601 rfl (by omega)
      have F_S9 := zz_fr.puts F_S qS9 rfl
      refine zz_goto zd_14_34_48 ?_
      have e10 : S9 1098 2 = (S 1098 2) + 1 := (zz_rs qS9)
      exact k10 S9 G_S9 F_S9 (by omega) (by omega) (by omega)
theorem zi_findNext_14_34x_2 {g : mm_G} {l : Launch}  (S0 : zz_S) (n : Nat) (hn : zz_end ≤ n) (G_S0 : zz_G S0) (hq : S0 1098 2 ≤ 600) : ∀ N : Nat, (∀  (S : zz_S), zz_G S → zz_fr [(1098, 2)] [] (fun _ _ => False) S0 S → (S 1098 2 > S0 1098 2) → (0 ≤ S 1098 2) → (601 - S 1098 2).toNat < N → zz_E g l zy_findNext_14_34 zr_findNext_14_34x_2 (zz_QV n (zp_findNext_14_34x_2  S0)) S n 10 [some (.ref 1079), some (zi 2)] [] 0 0) := by
  intro N
  induction N with
  | zero => exact fun  S _ _ _ _ h => absurd h (Nat.not_lt_zero _)
  | succ N ih =>
    exact fun  S a b j0 j1 hR => zb_findNext_14_34x_2_10  S0 n hn G_S0 hq  S a b j0 j1 _ rfl (fun  S a b j0 j1 h => ih  S a b j0 j1 (Nat.lt_of_lt_of_le h (Nat.le_of_lt_succ hR)))
theorem zc_findNext_14_34x_2 {g : mm_G} {l : Launch}  (S0 : zz_S) (n : Nat) (hn : zz_end ≤ n) (G_S0 : zz_G S0) (hq : S0 1098 2 ≤ 600) : mm_Met g l zy_findNext_14_34 zr_findNext_14_34x_2 [.ref 1079, zi 2] (zz_M S0 n) n (zz_QV n (zp_findNext_14_34x_2  S0)) := by
  refine zz_enter (by decide) (Nat.le_of_ble_eq_true rfl) (zz_less (ls1 := [some (.ref 1079), some (zi 2)]) ⟨rfl, ⟨rfl, trivial⟩⟩ ?_)
  have F_S0 : zz_fr [(1098, 2)] [] (fun _ _ => False) S0 S0 := zz_fr.refl
  have k10 : ∀  (S : zz_S), zz_G S → zz_fr [(1098, 2)] [] (fun _ _ => False) S0 S → (S 1098 2 > S0 1098 2) → (0 ≤ S 1098 2) → zz_E g l zy_findNext_14_34 zr_findNext_14_34x_2 (zz_QV n (zp_findNext_14_34x_2  S0)) S n 10 [some (.ref 1079), some (zi 2)] [] 0 0 := fun  S a b j0 j1 => (zi_findNext_14_34x_2 (g := g) (l := l)  S0 n hn G_S0 hq _)  S a b j0 j1 (Nat.lt_succ_self _)
  refine zz_aload_n (x := 1079) rfl zd_14_34_0 ?_
  refine zz_getr (kd := 0) (z := 1098) zd_14_34_1 zf_Md_73 zT_1079 rfl (zz_ltn hn rfl) (zz_G.eq G_S0 1079 26 1098 rfl rfl) (by decide) 1098 rfl ?_
  refine zz_iload_n (x := 2) rfl zd_14_34_4 ?_
  refine zz_dup2_11 rfl rfl zd_14_34_5 ?_
  have g1 := zz_G.r G_S0 1098 2 (-1) 601 rfl rfl
  refine zz_iald (z := S0 1098 2) zd_14_34_6 zT_1098 rfl (zz_ltn hn rfl) (by decide) (by decide) rfl ?_
  refine zz_iconst zd_14_34_7 ?_
  refine zz_iadd zd_14_34_8 ?_
  refine zz_iast zd_14_34_9 zT_1098 rfl (zz_ltn hn rfl) (by decide) (by decide) (fun S2 qS2 => ?_)
  have G_S2 := zz_G.put G_S0 qS2 (-1) 601 rfl (by omega)
  have F_S2 := zz_fr.puts F_S0 qS2 rfl
  have e3 : S2 1098 2 = (S0 1098 2) + 1 := (zz_rs qS2)
  exact k10 S2 G_S2 F_S2 (by omega) (by omega)
-- TensorForgeModel beginNext (II)V
abbrev zr_beginNext_14_38 : Room := { frames := 3, cells := 0, slots := 0, locals := 51 }
def zp_beginNext_14_38 (p0 : Int) (p1 : Int) (S0 : zz_S) : zz_S → Prop := fun S => zz_G S ∧ zz_fr [(1087, 0), (1087, 1), (1087, 2), (1087, 3), (1087, 4), (1087, 5), (1087, 6), (1087, 7), (1087, 8), (1087, 9), (1087, 10), (1087, 11), (1090, 0), (1090, 1), (1090, 2), (1097, 0), (1097, 1), (1097, 2), (1098, 0), (1098, 1), (1098, 2)] [1080, 1081, 1082, 1083, 1084, 1091, 1093, 1094] (fun _ _ => False) S0 S ∧ (S 1098 0 ≥ S0 1098 0) ∧ (S 1098 1 ≥ S0 1098 1) ∧ (S 1098 2 ≥ S0 1098 2) ∧ ((S 1098 0 + S 1098 1 + S 1098 2) ≥ (S0 1098 0 + S0 1098 1 + S0 1098 2) + 1)
theorem zc_beginNext_14_38 {g : mm_G} {l : Launch} (p0 : Int) (p1 : Int) (S0 : zz_S) (n : Nat) (hn : zz_end ≤ n) (G_S0 : zz_G S0) (hp0 : 0 ≤ p0 ∧ p0 ≤ 2) (hp1 : (-2147483648) ≤ p1 ∧ p1 ≤ 2147483647) (hq : 0 ≤ S0 1098 p0.toNat ∧ S0 1098 p0.toNat < S0 1079 19) (hL : ∀ u : Nat, (u : Int) < S0 1079 19 → zz_lgl (S0 1085 u) (S0 1079 1)) : mm_Met g l zy_beginNext_14_38 zr_beginNext_14_38 [.ref 1079, zi p0, zi p1] (zz_M S0 n) n (zz_QV n (zp_beginNext_14_38 p0 p1 S0)) := by
  refine zz_enter (by decide) (Nat.le_of_ble_eq_true rfl) (zz_less (ls1 := [some (.ref 1079), some (zi p0), some (zi p1)]) ⟨rfl, ⟨rfl, ⟨rfl, trivial⟩⟩⟩ ?_)
  have F_S0 : zz_fr [(1087, 0), (1087, 1), (1087, 2), (1087, 3), (1087, 4), (1087, 5), (1087, 6), (1087, 7), (1087, 8), (1087, 9), (1087, 10), (1087, 11), (1090, 0), (1090, 1), (1090, 2), (1097, 0), (1097, 1), (1097, 2), (1098, 0), (1098, 1), (1098, 2)] [1080, 1081, 1082, 1083, 1084, 1091, 1093, 1094] (fun _ _ => False) S0 S0 := zz_fr.refl
  rcases (by omega : p0 = 0 ∨ p0 = 1 ∨ p0 = 2) with rfl | rfl | rfl
  · have c_hq : 0 ≤ S0 1098 0 ∧ S0 1098 0 < S0 1079 19 := hq
    have gr9 := zz_G.r G_S0 1079 19 (-1) 600 rfl rfl
    refine zz_aload_n (x := 1079) rfl zd_14_38_0 ?_
    refine zz_getr (kd := 0) (z := 1098) zd_14_38_1 zf_Md_73 zT_1079 rfl (zz_ltn hn rfl) (zz_G.eq G_S0 1079 26 1098 rfl rfl) (by decide) 1098 rfl ?_
    refine zz_iload_n (x := 0) rfl zd_14_38_4 ?_
    have g1 := zz_G.r G_S0 1098 0 (-1) 601 rfl rfl
    refine zz_iald (z := S0 1098 0) zd_14_38_5 zT_1098 rfl (zz_ltn hn rfl) (by decide) (by decide) rfl ?_
    refine zz_istore_n [some (.ref 1079), some (zi 0), some (zi p1), some (zi (S0 1098 0))] zd_14_38_6 (by decide) rfl ?_
    refine zz_aload_n (x := 1079) rfl zd_14_38_7 ?_
    refine zz_aload_n (x := 1079) rfl zd_14_38_8 ?_
    refine zz_getr (kd := 0) (z := 1085) zd_14_38_9 zf_Md_29 zT_1079 rfl (zz_ltn hn rfl) (zz_G.eq G_S0 1079 8 1085 rfl rfl) (by decide) 1085 rfl ?_
    refine zz_iload_n (x := S0 1098 0) rfl zd_14_38_12 ?_
    have g2 := zz_G.r G_S0 1085 ((S0 1098 0).toNat) (-9223372036854775808) 9223372036854775807 rfl rfl
    refine zz_lald (z := S0 1085 ((S0 1098 0).toNat)) zd_14_38_13 zT_1085 rfl (zz_ltn hn rfl) (by decide) (by omega) rfl ?_
    refine zz_callVV [zl (S0 1085 ((S0 1098 0).toNat))] zd_14_38_14 zk_Md_234 zT_1079 (zz_ltn hn rfl) rfl rfl ⟨Nat.le_of_ble_eq_true rfl, Nat.le_of_ble_eq_true rfl⟩ ⟨rfl, rfl⟩ (Nat.zero_le _) (Nat.zero_le _) (zc_take_14_18 (S0 1085 ((S0 1098 0).toNat)) S0 n hn G_S0 (by omega)) (fun S3 hP => ?_)
    obtain ⟨G_S3, fS3, o5, o6, o7, o8, o9, o10, o11, o12, o13, o14, o15, o16⟩ := hP
    have F_S3 := zz_fr.trans F_S0 fS3 rfl zz_nv
    refine zz_aload_n (x := 1079) rfl zd_14_38_17 ?_
    refine zz_getr (kd := 0) (z := 1091) zd_14_38_18 zf_Md_51 zT_1079 rfl (zz_ltn hn rfl) (zz_G.eq G_S3 1079 18 1091 rfl rfl) (by decide) 1091 rfl ?_
    refine zz_iload_n (x := 0) rfl zd_14_38_21 ?_
    refine zz_iconst zd_14_38_22 ?_
    refine zz_callSI [zi 0, zi 0] zd_14_38_23 zk_Md_275 rfl rfl ⟨Nat.le_of_ble_eq_true rfl, Nat.le_of_ble_eq_true rfl⟩ ⟨rfl, rfl⟩ (Nat.zero_le _) (Nat.zero_le _) (zc_popped_14_31 0 0 S3 n hn G_S3 (by omega) (by omega)) (fun v18 S17 hP => ?_)
    obtain ⟨rfl, o19⟩ := hP
    refine zz_dup2_11 rfl rfl zd_14_38_26 ?_
    have g20 := zz_G.r G_S0 1091 v18.toNat (-2147483648) 2147483647 rfl rfl
    refine zz_iald (z := S0 1091 v18.toNat) zd_14_38_27 zT_1091 rfl (zz_ltn hn rfl) (by decide) (by omega) (zz_rc fS3 (zz_nc1 rfl) rfl (fun h => h) rfl) ?_
    refine zz_aload_n (x := 1079) rfl zd_14_38_28 ?_
    refine zz_getr (kd := 0) (z := 1087) zd_14_38_29 zf_Md_36 zT_1079 rfl (zz_ltn hn rfl) (zz_G.eq G_S3 1079 11 1087 rfl rfl) (by decide) 1087 rfl ?_
    refine zz_iconst zd_14_38_32 ?_
    have g21 := zz_G.r G_S3 1087 1 (-2147483648) 2147483647 rfl rfl
    refine zz_iald (z := S3 1087 1) zd_14_38_33 zT_1087 rfl (zz_ltn hn rfl) (by decide) (by decide) rfl ?_
    refine zz_isub zd_14_38_34 ?_
    refine zz_nrm (fun v22 hv22 ev22 => ?_)
    refine zz_iast zd_14_38_35 zT_1091 rfl (zz_ltn hn rfl) (by decide) (by omega) (fun S23 qS23 => ?_)
    have G_S23 := zz_G.put G_S3 qS23 (-2147483648) 2147483647 rfl (by omega)
    have F_S23 := zz_fr.putc F_S3 qS23 rfl
    refine zz_aload_n (x := 1079) rfl zd_14_38_36 ?_
    refine zz_getr (kd := 0) (z := 1091) zd_14_38_37 zf_Md_51 zT_1079 rfl (zz_ltn hn rfl) (zz_G.eq G_S23 1079 18 1091 rfl rfl) (by decide) 1091 rfl ?_
    refine zz_iload_n (x := 0) rfl zd_14_38_40 ?_
    refine zz_iconst zd_14_38_41 ?_
    refine zz_callSI [zi 0, zi 1] zd_14_38_42 zk_Md_275 rfl rfl ⟨Nat.le_of_ble_eq_true rfl, Nat.le_of_ble_eq_true rfl⟩ ⟨rfl, rfl⟩ (Nat.zero_le _) (Nat.zero_le _) (zc_popped_14_31 0 1 S23 n hn G_S23 (by omega) (by omega)) (fun v25 S24 hP => ?_)
    obtain ⟨rfl, o26⟩ := hP
    refine zz_dup2_11 rfl rfl zd_14_38_45 ?_
    have g27 := zz_G.r G_S23 1091 v25.toNat (-2147483648) 2147483647 rfl rfl
    refine zz_iald (z := S23 1091 v25.toNat) zd_14_38_46 zT_1091 rfl (zz_ltn hn rfl) (by decide) (by omega) rfl ?_
    refine zz_aload_n (x := 1079) rfl zd_14_38_47 ?_
    refine zz_getr (kd := 0) (z := 1087) zd_14_38_48 zf_Md_36 zT_1079 rfl (zz_ltn hn rfl) (zz_G.eq G_S23 1079 11 1087 rfl rfl) (by decide) 1087 rfl ?_
    refine zz_iconst zd_14_38_51 ?_
    have g28 := zz_G.r G_S3 1087 2 (-2147483648) 2147483647 rfl rfl
    refine zz_iald (z := S3 1087 2) zd_14_38_52 zT_1087 rfl (zz_ltn hn rfl) (by decide) (by decide) (zz_ro qS23 (fun h => absurd h.1 (by decide)) rfl) ?_
    refine zz_isub zd_14_38_53 ?_
    refine zz_nrm (fun v29 hv29 ev29 => ?_)
    refine zz_iast zd_14_38_54 zT_1091 rfl (zz_ltn hn rfl) (by decide) (by omega) (fun S30 qS30 => ?_)
    have G_S30 := zz_G.put G_S23 qS30 (-2147483648) 2147483647 rfl (by omega)
    have F_S30 := zz_fr.putc F_S23 qS30 rfl
    refine zz_aload_n (x := 1079) rfl zd_14_38_55 ?_
    refine zz_getr (kd := 0) (z := 1093) zd_14_38_56 zf_Md_57 zT_1079 rfl (zz_ltn hn rfl) (zz_G.eq G_S30 1079 21 1093 rfl rfl) (by decide) 1093 rfl ?_
    refine zz_iload_n (x := S0 1098 0) rfl zd_14_38_59 ?_
    refine zz_iload_n (x := p1) rfl zd_14_38_60 ?_
    refine zz_iast zd_14_38_61 zT_1093 rfl (zz_ltn hn rfl) (by decide) (by omega) (fun S31 qS31 => ?_)
    have G_S31 := zz_G.put G_S30 qS31 (-2147483648) 2147483647 rfl (by omega)
    have F_S31 := zz_fr.putc F_S30 qS31 rfl
    refine zz_aload_n (x := 1079) rfl zd_14_38_62 ?_
    refine zz_getr (kd := 0) (z := 1094) zd_14_38_63 zf_Md_60 zT_1079 rfl (zz_ltn hn rfl) (zz_G.eq G_S31 1079 22 1094 rfl rfl) (by decide) 1094 rfl ?_
    refine zz_iload_n (x := S0 1098 0) rfl zd_14_38_66 ?_
    refine zz_iload_n (x := p1) rfl zd_14_38_67 ?_
    refine zz_aload_n (x := 1079) rfl zd_14_38_68 ?_
    refine zz_callVI [] zd_14_38_69 zk_Md_282 zT_1079 (zz_ltn hn rfl) rfl rfl ⟨Nat.le_of_ble_eq_true rfl, Nat.le_of_ble_eq_true rfl⟩ ⟨rfl, rfl⟩ (Nat.zero_le _) (Nat.zero_le _) (zc_cycles_14_30  S31 n hn G_S31 ) (fun v33 S32 hP => ?_)
    obtain ⟨rfl, o34⟩ := hP
    refine zz_iadd zd_14_38_72 ?_
    refine zz_nrm (fun v35 hv35 ev35 => ?_)
    refine zz_iast zd_14_38_73 zT_1094 rfl (zz_ltn hn rfl) (by decide) (by omega) (fun S36 qS36 => ?_)
    have G_S36 := zz_G.put G_S31 qS36 (-2147483648) 2147483647 rfl (by omega)
    have F_S36 := zz_fr.putc F_S31 qS36 rfl
    refine zz_aload_n (x := 1079) rfl zd_14_38_74 ?_
    refine zz_getr (kd := 0) (z := 1090) zd_14_38_75 zf_Md_48 zT_1079 rfl (zz_ltn hn rfl) (zz_G.eq G_S36 1079 17 1090 rfl rfl) (by decide) 1090 rfl ?_
    refine zz_iload_n (x := 0) rfl zd_14_38_78 ?_
    refine zz_aload_n (x := 1079) rfl zd_14_38_79 ?_
    refine zz_getr (kd := 0) (z := 1090) zd_14_38_80 zf_Md_48 zT_1079 rfl (zz_ltn hn rfl) (zz_G.eq G_S36 1079 17 1090 rfl rfl) (by decide) 1090 rfl ?_
    refine zz_iload_n (x := 0) rfl zd_14_38_83 ?_
    have g37 := zz_G.r G_S0 1090 0 (-2147483648) 2147483647 rfl rfl
    refine zz_iald (z := S0 1090 0) zd_14_38_84 zT_1090 rfl (zz_ltn hn rfl) (by decide) (by decide) (zz_ro qS36 (fun h => absurd h.1 (by decide)) (zz_ro qS31 (fun h => absurd h.1 (by decide)) (zz_ro qS30 (fun h => absurd h.1 (by decide)) (zz_ro qS23 (fun h => absurd h.1 (by decide)) (zz_rc fS3 rfl rfl (fun h => h) rfl))))) ?_
    refine zz_aload_n (x := 1079) rfl zd_14_38_85 ?_
    refine zz_callVI [] zd_14_38_86 zk_Md_282 zT_1079 (zz_ltn hn rfl) rfl rfl ⟨Nat.le_of_ble_eq_true rfl, Nat.le_of_ble_eq_true rfl⟩ ⟨rfl, rfl⟩ (Nat.zero_le _) (Nat.zero_le _) (zc_cycles_14_30  S36 n hn G_S36 ) (fun v39 S38 hP => ?_)
    obtain ⟨rfl, o40⟩ := hP
    refine zz_iadd zd_14_38_89 ?_
    refine zz_nrm (fun v41 hv41 ev41 => ?_)
    refine zz_iast zd_14_38_90 zT_1090 rfl (zz_ltn hn rfl) (by decide) (by decide) (fun S42 qS42 => ?_)
    have G_S42 := zz_G.put G_S36 qS42 (-2147483648) 2147483647 rfl (by omega)
    have F_S42 := zz_fr.puts F_S36 qS42 rfl
    refine zz_aload_n (x := 1079) rfl zd_14_38_91 ?_
    refine zz_getr (kd := 0) (z := 1097) zd_14_38_92 zf_Md_70 zT_1079 rfl (zz_ltn hn rfl) (zz_G.eq G_S42 1079 25 1097 rfl rfl) (by decide) 1097 rfl ?_
    refine zz_iload_n (x := 0) rfl zd_14_38_95 ?_
    refine zz_iload_n (x := S0 1098 0) rfl zd_14_38_96 ?_
    refine zz_iast zd_14_38_97 zT_1097 rfl (zz_ltn hn rfl) (by decide) (by decide) (fun S43 qS43 => ?_)
    have G_S43 := zz_G.put G_S42 qS43 (-1) 600 rfl (by omega)
    have F_S43 := zz_fr.puts F_S42 qS43 rfl
    refine zz_aload_n (x := 1079) rfl zd_14_38_98 ?_
    have g44 := zz_G.r G_S3 1087 0 (-2147483648) 2147483647 rfl rfl
    have e45 : S43 1087 0 = S3 1087 0 := (zz_ro qS43 (fun h => absurd h.1 (by decide)) (zz_ro qS42 (fun h => absurd h.1 (by decide)) (zz_ro qS36 (fun h => absurd h.1 (by decide)) (zz_ro qS31 (fun h => absurd h.1 (by decide)) (zz_ro qS30 (fun h => absurd h.1 (by decide)) (zz_ro qS23 (fun h => absurd h.1 (by decide)) rfl))))))
    have e46 : S43 1087 1 = S3 1087 1 := (zz_ro qS43 (fun h => absurd h.1 (by decide)) (zz_ro qS42 (fun h => absurd h.1 (by decide)) (zz_ro qS36 (fun h => absurd h.1 (by decide)) (zz_ro qS31 (fun h => absurd h.1 (by decide)) (zz_ro qS30 (fun h => absurd h.1 (by decide)) (zz_ro qS23 (fun h => absurd h.1 (by decide)) rfl))))))
    have e47 : S43 1087 2 = S3 1087 2 := (zz_ro qS43 (fun h => absurd h.1 (by decide)) (zz_ro qS42 (fun h => absurd h.1 (by decide)) (zz_ro qS36 (fun h => absurd h.1 (by decide)) (zz_ro qS31 (fun h => absurd h.1 (by decide)) (zz_ro qS30 (fun h => absurd h.1 (by decide)) (zz_ro qS23 (fun h => absurd h.1 (by decide)) rfl))))))
    have g48 := zz_G.r G_S3 1087 3 (-2147483648) 2147483647 rfl rfl
    have e49 : S43 1087 3 = S3 1087 3 := (zz_ro qS43 (fun h => absurd h.1 (by decide)) (zz_ro qS42 (fun h => absurd h.1 (by decide)) (zz_ro qS36 (fun h => absurd h.1 (by decide)) (zz_ro qS31 (fun h => absurd h.1 (by decide)) (zz_ro qS30 (fun h => absurd h.1 (by decide)) (zz_ro qS23 (fun h => absurd h.1 (by decide)) rfl))))))
    have g50 := zz_G.r G_S3 1087 4 (-2147483648) 2147483647 rfl rfl
    have e51 : S43 1087 4 = S3 1087 4 := (zz_ro qS43 (fun h => absurd h.1 (by decide)) (zz_ro qS42 (fun h => absurd h.1 (by decide)) (zz_ro qS36 (fun h => absurd h.1 (by decide)) (zz_ro qS31 (fun h => absurd h.1 (by decide)) (zz_ro qS30 (fun h => absurd h.1 (by decide)) (zz_ro qS23 (fun h => absurd h.1 (by decide)) rfl))))))
    have g52 := zz_G.r G_S3 1087 5 (-2147483648) 2147483647 rfl rfl
    have e53 : S43 1087 5 = S3 1087 5 := (zz_ro qS43 (fun h => absurd h.1 (by decide)) (zz_ro qS42 (fun h => absurd h.1 (by decide)) (zz_ro qS36 (fun h => absurd h.1 (by decide)) (zz_ro qS31 (fun h => absurd h.1 (by decide)) (zz_ro qS30 (fun h => absurd h.1 (by decide)) (zz_ro qS23 (fun h => absurd h.1 (by decide)) rfl))))))
    have g54 := zz_G.r G_S3 1087 6 (-2147483648) 2147483647 rfl rfl
    have e55 : S43 1087 6 = S3 1087 6 := (zz_ro qS43 (fun h => absurd h.1 (by decide)) (zz_ro qS42 (fun h => absurd h.1 (by decide)) (zz_ro qS36 (fun h => absurd h.1 (by decide)) (zz_ro qS31 (fun h => absurd h.1 (by decide)) (zz_ro qS30 (fun h => absurd h.1 (by decide)) (zz_ro qS23 (fun h => absurd h.1 (by decide)) rfl))))))
    have g56 := zz_G.r G_S3 1087 7 (-2147483648) 2147483647 rfl rfl
    have e57 : S43 1087 7 = S3 1087 7 := (zz_ro qS43 (fun h => absurd h.1 (by decide)) (zz_ro qS42 (fun h => absurd h.1 (by decide)) (zz_ro qS36 (fun h => absurd h.1 (by decide)) (zz_ro qS31 (fun h => absurd h.1 (by decide)) (zz_ro qS30 (fun h => absurd h.1 (by decide)) (zz_ro qS23 (fun h => absurd h.1 (by decide)) rfl))))))
    have g58 := zz_G.r G_S3 1087 8 (-2147483648) 2147483647 rfl rfl
    have e59 : S43 1087 8 = S3 1087 8 := (zz_ro qS43 (fun h => absurd h.1 (by decide)) (zz_ro qS42 (fun h => absurd h.1 (by decide)) (zz_ro qS36 (fun h => absurd h.1 (by decide)) (zz_ro qS31 (fun h => absurd h.1 (by decide)) (zz_ro qS30 (fun h => absurd h.1 (by decide)) (zz_ro qS23 (fun h => absurd h.1 (by decide)) rfl))))))
    have g60 := zz_G.r G_S3 1087 9 (-2147483648) 2147483647 rfl rfl
    have e61 : S43 1087 9 = S3 1087 9 := (zz_ro qS43 (fun h => absurd h.1 (by decide)) (zz_ro qS42 (fun h => absurd h.1 (by decide)) (zz_ro qS36 (fun h => absurd h.1 (by decide)) (zz_ro qS31 (fun h => absurd h.1 (by decide)) (zz_ro qS30 (fun h => absurd h.1 (by decide)) (zz_ro qS23 (fun h => absurd h.1 (by decide)) rfl))))))
    have g62 := zz_G.r G_S3 1087 10 (-2147483648) 2147483647 rfl rfl
    have e63 : S43 1087 10 = S3 1087 10 := (zz_ro qS43 (fun h => absurd h.1 (by decide)) (zz_ro qS42 (fun h => absurd h.1 (by decide)) (zz_ro qS36 (fun h => absurd h.1 (by decide)) (zz_ro qS31 (fun h => absurd h.1 (by decide)) (zz_ro qS30 (fun h => absurd h.1 (by decide)) (zz_ro qS23 (fun h => absurd h.1 (by decide)) rfl))))))
    have g64 := zz_G.r G_S3 1087 11 (-2147483648) 2147483647 rfl rfl
    have e65 : S43 1087 11 = S3 1087 11 := (zz_ro qS43 (fun h => absurd h.1 (by decide)) (zz_ro qS42 (fun h => absurd h.1 (by decide)) (zz_ro qS36 (fun h => absurd h.1 (by decide)) (zz_ro qS31 (fun h => absurd h.1 (by decide)) (zz_ro qS30 (fun h => absurd h.1 (by decide)) (zz_ro qS23 (fun h => absurd h.1 (by decide)) rfl))))))
    have g66 := zz_G.r G_S0 1079 1 2 8 rfl rfl
    have e67 : S43 1079 1 = S0 1079 1 := (zz_ro qS43 (fun h => absurd h.1 (by decide)) (zz_ro qS42 (fun h => absurd h.1 (by decide)) (zz_ro qS36 (fun h => absurd h.1 (by decide)) (zz_ro qS31 (fun h => absurd h.1 (by decide)) (zz_ro qS30 (fun h => absurd h.1 (by decide)) (zz_ro qS23 (fun h => absurd h.1 (by decide)) (zz_rc fS3 rfl rfl (fun h => h) rfl)))))))
    refine zz_callVV [] zd_14_38_99 zk_Md_285 zT_1079 (zz_ltn hn rfl) rfl rfl ⟨Nat.le_of_ble_eq_true rfl, Nat.le_of_ble_eq_true rfl⟩ ⟨rfl, rfl⟩ (Nat.zero_le _) (Nat.zero_le _) (zc_doWord_14_29  S43 n hn G_S43 (by omega) (by omega) (by omega) (by omega) (by omega) (by omega) (by omega) (by omega) (by omega) (by omega) (by omega) (by omega) (by rw [show S43 1087 0 = zz_fx (S0 1085 ((S0 1098 0).toNat)) 0 15 by omega, show S43 1087 5 = zz_fx (S0 1085 ((S0 1098 0).toNat)) 8 4095 by omega, show S43 1087 6 = zz_fx (S0 1085 ((S0 1098 0).toNat)) 20 63 by omega, show S43 1087 7 = zz_fx (S0 1085 ((S0 1098 0).toNat)) 26 31 by omega, show S43 1087 8 = zz_fx (S0 1085 ((S0 1098 0).toNat)) 31 511 by omega, show S43 1087 9 = zz_fx (S0 1085 ((S0 1098 0).toNat)) 40 511 by omega, show S43 1087 10 = zz_fx (S0 1085 ((S0 1098 0).toNat)) 49 1023 by omega, show S43 1087 11 = zz_fx (S0 1085 ((S0 1098 0).toNat)) 59 31 by omega, show S43 1079 1 = S0 1079 1 by omega]; exact hL _ (by omega))) (fun S68 hP => ?_)
    obtain ⟨G_S68, fS68⟩ := hP
    have F_S68 := zz_fr.trans F_S43 fS68 rfl zz_nv
    refine zz_aload_n (x := 1079) rfl zd_14_38_102 ?_
    refine zz_iload_n (x := 0) rfl zd_14_38_103 ?_
    have e70 : S68 1098 0 = S0 1098 0 := (zz_rc fS68 rfl rfl (fun h => h) (zz_ro qS43 (fun h => absurd h.1 (by decide)) (zz_ro qS42 (fun h => absurd h.1 (by decide)) (zz_ro qS36 (fun h => absurd h.1 (by decide)) (zz_ro qS31 (fun h => absurd h.1 (by decide)) (zz_ro qS30 (fun h => absurd h.1 (by decide)) (zz_ro qS23 (fun h => absurd h.1 (by decide)) (zz_rc fS3 rfl rfl (fun h => h) rfl))))))))
    refine zz_callVV [zi 0] zd_14_38_104 zk_Md_288 zT_1079 (zz_ltn hn rfl) rfl rfl ⟨Nat.le_of_ble_eq_true rfl, Nat.le_of_ble_eq_true rfl⟩ ⟨rfl, rfl⟩ (Nat.zero_le _) (Nat.zero_le _) (zc_findNext_14_34x_0  S68 n hn G_S68 (by omega)) (fun S71 hP => ?_)
    obtain ⟨G_S71, fS71, o73⟩ := hP
    have F_S71 := zz_fr.trans F_S68 fS71 rfl zz_nv
    have g74 := zz_G.r G_S71 1098 0 (-1) 601 rfl rfl
    have g75 := zz_G.r G_S0 1098 1 (-1) 601 rfl rfl
    have e76 : S71 1098 1 = S0 1098 1 := (zz_rc fS71 rfl rfl (fun h => h) (zz_rc fS68 rfl rfl (fun h => h) (zz_ro qS43 (fun h => absurd h.1 (by decide)) (zz_ro qS42 (fun h => absurd h.1 (by decide)) (zz_ro qS36 (fun h => absurd h.1 (by decide)) (zz_ro qS31 (fun h => absurd h.1 (by decide)) (zz_ro qS30 (fun h => absurd h.1 (by decide)) (zz_ro qS23 (fun h => absurd h.1 (by decide)) (zz_rc fS3 rfl rfl (fun h => h) rfl)))))))))
    have g77 := zz_G.r G_S0 1098 2 (-1) 601 rfl rfl
    have e78 : S71 1098 2 = S0 1098 2 := (zz_rc fS71 rfl rfl (fun h => h) (zz_rc fS68 rfl rfl (fun h => h) (zz_ro qS43 (fun h => absurd h.1 (by decide)) (zz_ro qS42 (fun h => absurd h.1 (by decide)) (zz_ro qS36 (fun h => absurd h.1 (by decide)) (zz_ro qS31 (fun h => absurd h.1 (by decide)) (zz_ro qS30 (fun h => absurd h.1 (by decide)) (zz_ro qS23 (fun h => absurd h.1 (by decide)) (zz_rc fS3 rfl rfl (fun h => h) rfl)))))))))
    exact zz_vret zd_14_38_107 rfl (Nat.zero_le _) (Nat.zero_le _) ⟨_, rfl, G_S71, F_S71, by omega, by omega, by omega, by omega⟩
  · have c_hq : 0 ≤ S0 1098 1 ∧ S0 1098 1 < S0 1079 19 := hq
    have gr9 := zz_G.r G_S0 1079 19 (-1) 600 rfl rfl
    refine zz_aload_n (x := 1079) rfl zd_14_38_0 ?_
    refine zz_getr (kd := 0) (z := 1098) zd_14_38_1 zf_Md_73 zT_1079 rfl (zz_ltn hn rfl) (zz_G.eq G_S0 1079 26 1098 rfl rfl) (by decide) 1098 rfl ?_
    refine zz_iload_n (x := 1) rfl zd_14_38_4 ?_
    have g79 := zz_G.r G_S0 1098 1 (-1) 601 rfl rfl
    refine zz_iald (z := S0 1098 1) zd_14_38_5 zT_1098 rfl (zz_ltn hn rfl) (by decide) (by decide) rfl ?_
    refine zz_istore_n [some (.ref 1079), some (zi 1), some (zi p1), some (zi (S0 1098 1))] zd_14_38_6 (by decide) rfl ?_
    refine zz_aload_n (x := 1079) rfl zd_14_38_7 ?_
    refine zz_aload_n (x := 1079) rfl zd_14_38_8 ?_
    refine zz_getr (kd := 0) (z := 1085) zd_14_38_9 zf_Md_29 zT_1079 rfl (zz_ltn hn rfl) (zz_G.eq G_S0 1079 8 1085 rfl rfl) (by decide) 1085 rfl ?_
    refine zz_iload_n (x := S0 1098 1) rfl zd_14_38_12 ?_
    have g80 := zz_G.r G_S0 1085 ((S0 1098 1).toNat) (-9223372036854775808) 9223372036854775807 rfl rfl
    refine zz_lald (z := S0 1085 ((S0 1098 1).toNat)) zd_14_38_13 zT_1085 rfl (zz_ltn hn rfl) (by decide) (by omega) rfl ?_
    refine zz_callVV [zl (S0 1085 ((S0 1098 1).toNat))] zd_14_38_14 zk_Md_234 zT_1079 (zz_ltn hn rfl) rfl rfl ⟨Nat.le_of_ble_eq_true rfl, Nat.le_of_ble_eq_true rfl⟩ ⟨rfl, rfl⟩ (Nat.zero_le _) (Nat.zero_le _) (zc_take_14_18 (S0 1085 ((S0 1098 1).toNat)) S0 n hn G_S0 (by omega)) (fun S81 hP => ?_)
    obtain ⟨G_S81, fS81, o83, o84, o85, o86, o87, o88, o89, o90, o91, o92, o93, o94⟩ := hP
    have F_S81 := zz_fr.trans F_S0 fS81 rfl zz_nv
    refine zz_aload_n (x := 1079) rfl zd_14_38_17 ?_
    refine zz_getr (kd := 0) (z := 1091) zd_14_38_18 zf_Md_51 zT_1079 rfl (zz_ltn hn rfl) (zz_G.eq G_S81 1079 18 1091 rfl rfl) (by decide) 1091 rfl ?_
    refine zz_iload_n (x := 1) rfl zd_14_38_21 ?_
    refine zz_iconst zd_14_38_22 ?_
    refine zz_callSI [zi 1, zi 0] zd_14_38_23 zk_Md_275 rfl rfl ⟨Nat.le_of_ble_eq_true rfl, Nat.le_of_ble_eq_true rfl⟩ ⟨rfl, rfl⟩ (Nat.zero_le _) (Nat.zero_le _) (zc_popped_14_31 1 0 S81 n hn G_S81 (by omega) (by omega)) (fun v96 S95 hP => ?_)
    obtain ⟨rfl, o97⟩ := hP
    refine zz_dup2_11 rfl rfl zd_14_38_26 ?_
    have g98 := zz_G.r G_S0 1091 v96.toNat (-2147483648) 2147483647 rfl rfl
    refine zz_iald (z := S0 1091 v96.toNat) zd_14_38_27 zT_1091 rfl (zz_ltn hn rfl) (by decide) (by omega) (zz_rc fS81 (zz_nc1 rfl) rfl (fun h => h) rfl) ?_
    refine zz_aload_n (x := 1079) rfl zd_14_38_28 ?_
    refine zz_getr (kd := 0) (z := 1087) zd_14_38_29 zf_Md_36 zT_1079 rfl (zz_ltn hn rfl) (zz_G.eq G_S81 1079 11 1087 rfl rfl) (by decide) 1087 rfl ?_
    refine zz_iconst zd_14_38_32 ?_
    have g99 := zz_G.r G_S81 1087 1 (-2147483648) 2147483647 rfl rfl
    refine zz_iald (z := S81 1087 1) zd_14_38_33 zT_1087 rfl (zz_ltn hn rfl) (by decide) (by decide) rfl ?_
    refine zz_isub zd_14_38_34 ?_
    refine zz_nrm (fun v100 hv100 ev100 => ?_)
    refine zz_iast zd_14_38_35 zT_1091 rfl (zz_ltn hn rfl) (by decide) (by omega) (fun S101 qS101 => ?_)
    have G_S101 := zz_G.put G_S81 qS101 (-2147483648) 2147483647 rfl (by omega)
    have F_S101 := zz_fr.putc F_S81 qS101 rfl
    refine zz_aload_n (x := 1079) rfl zd_14_38_36 ?_
    refine zz_getr (kd := 0) (z := 1091) zd_14_38_37 zf_Md_51 zT_1079 rfl (zz_ltn hn rfl) (zz_G.eq G_S101 1079 18 1091 rfl rfl) (by decide) 1091 rfl ?_
    refine zz_iload_n (x := 1) rfl zd_14_38_40 ?_
    refine zz_iconst zd_14_38_41 ?_
    refine zz_callSI [zi 1, zi 1] zd_14_38_42 zk_Md_275 rfl rfl ⟨Nat.le_of_ble_eq_true rfl, Nat.le_of_ble_eq_true rfl⟩ ⟨rfl, rfl⟩ (Nat.zero_le _) (Nat.zero_le _) (zc_popped_14_31 1 1 S101 n hn G_S101 (by omega) (by omega)) (fun v103 S102 hP => ?_)
    obtain ⟨rfl, o104⟩ := hP
    refine zz_dup2_11 rfl rfl zd_14_38_45 ?_
    have g105 := zz_G.r G_S101 1091 v103.toNat (-2147483648) 2147483647 rfl rfl
    refine zz_iald (z := S101 1091 v103.toNat) zd_14_38_46 zT_1091 rfl (zz_ltn hn rfl) (by decide) (by omega) rfl ?_
    refine zz_aload_n (x := 1079) rfl zd_14_38_47 ?_
    refine zz_getr (kd := 0) (z := 1087) zd_14_38_48 zf_Md_36 zT_1079 rfl (zz_ltn hn rfl) (zz_G.eq G_S101 1079 11 1087 rfl rfl) (by decide) 1087 rfl ?_
    refine zz_iconst zd_14_38_51 ?_
    have g106 := zz_G.r G_S81 1087 2 (-2147483648) 2147483647 rfl rfl
    refine zz_iald (z := S81 1087 2) zd_14_38_52 zT_1087 rfl (zz_ltn hn rfl) (by decide) (by decide) (zz_ro qS101 (fun h => absurd h.1 (by decide)) rfl) ?_
    refine zz_isub zd_14_38_53 ?_
    refine zz_nrm (fun v107 hv107 ev107 => ?_)
    refine zz_iast zd_14_38_54 zT_1091 rfl (zz_ltn hn rfl) (by decide) (by omega) (fun S108 qS108 => ?_)
    have G_S108 := zz_G.put G_S101 qS108 (-2147483648) 2147483647 rfl (by omega)
    have F_S108 := zz_fr.putc F_S101 qS108 rfl
    refine zz_aload_n (x := 1079) rfl zd_14_38_55 ?_
    refine zz_getr (kd := 0) (z := 1093) zd_14_38_56 zf_Md_57 zT_1079 rfl (zz_ltn hn rfl) (zz_G.eq G_S108 1079 21 1093 rfl rfl) (by decide) 1093 rfl ?_
    refine zz_iload_n (x := S0 1098 1) rfl zd_14_38_59 ?_
    refine zz_iload_n (x := p1) rfl zd_14_38_60 ?_
    refine zz_iast zd_14_38_61 zT_1093 rfl (zz_ltn hn rfl) (by decide) (by omega) (fun S109 qS109 => ?_)
    have G_S109 := zz_G.put G_S108 qS109 (-2147483648) 2147483647 rfl (by omega)
    have F_S109 := zz_fr.putc F_S108 qS109 rfl
    refine zz_aload_n (x := 1079) rfl zd_14_38_62 ?_
    refine zz_getr (kd := 0) (z := 1094) zd_14_38_63 zf_Md_60 zT_1079 rfl (zz_ltn hn rfl) (zz_G.eq G_S109 1079 22 1094 rfl rfl) (by decide) 1094 rfl ?_
    refine zz_iload_n (x := S0 1098 1) rfl zd_14_38_66 ?_
    refine zz_iload_n (x := p1) rfl zd_14_38_67 ?_
    refine zz_aload_n (x := 1079) rfl zd_14_38_68 ?_
    refine zz_callVI [] zd_14_38_69 zk_Md_282 zT_1079 (zz_ltn hn rfl) rfl rfl ⟨Nat.le_of_ble_eq_true rfl, Nat.le_of_ble_eq_true rfl⟩ ⟨rfl, rfl⟩ (Nat.zero_le _) (Nat.zero_le _) (zc_cycles_14_30  S109 n hn G_S109 ) (fun v111 S110 hP => ?_)
    obtain ⟨rfl, o112⟩ := hP
    refine zz_iadd zd_14_38_72 ?_
    refine zz_nrm (fun v113 hv113 ev113 => ?_)
    refine zz_iast zd_14_38_73 zT_1094 rfl (zz_ltn hn rfl) (by decide) (by omega) (fun S114 qS114 => ?_)
    have G_S114 := zz_G.put G_S109 qS114 (-2147483648) 2147483647 rfl (by omega)
    have F_S114 := zz_fr.putc F_S109 qS114 rfl
    refine zz_aload_n (x := 1079) rfl zd_14_38_74 ?_
    refine zz_getr (kd := 0) (z := 1090) zd_14_38_75 zf_Md_48 zT_1079 rfl (zz_ltn hn rfl) (zz_G.eq G_S114 1079 17 1090 rfl rfl) (by decide) 1090 rfl ?_
    refine zz_iload_n (x := 1) rfl zd_14_38_78 ?_
    refine zz_aload_n (x := 1079) rfl zd_14_38_79 ?_
    refine zz_getr (kd := 0) (z := 1090) zd_14_38_80 zf_Md_48 zT_1079 rfl (zz_ltn hn rfl) (zz_G.eq G_S114 1079 17 1090 rfl rfl) (by decide) 1090 rfl ?_
    refine zz_iload_n (x := 1) rfl zd_14_38_83 ?_
    have g115 := zz_G.r G_S0 1090 1 (-2147483648) 2147483647 rfl rfl
    refine zz_iald (z := S0 1090 1) zd_14_38_84 zT_1090 rfl (zz_ltn hn rfl) (by decide) (by decide) (zz_ro qS114 (fun h => absurd h.1 (by decide)) (zz_ro qS109 (fun h => absurd h.1 (by decide)) (zz_ro qS108 (fun h => absurd h.1 (by decide)) (zz_ro qS101 (fun h => absurd h.1 (by decide)) (zz_rc fS81 rfl rfl (fun h => h) rfl))))) ?_
    refine zz_aload_n (x := 1079) rfl zd_14_38_85 ?_
    refine zz_callVI [] zd_14_38_86 zk_Md_282 zT_1079 (zz_ltn hn rfl) rfl rfl ⟨Nat.le_of_ble_eq_true rfl, Nat.le_of_ble_eq_true rfl⟩ ⟨rfl, rfl⟩ (Nat.zero_le _) (Nat.zero_le _) (zc_cycles_14_30  S114 n hn G_S114 ) (fun v117 S116 hP => ?_)
    obtain ⟨rfl, o118⟩ := hP
    refine zz_iadd zd_14_38_89 ?_
    refine zz_nrm (fun v119 hv119 ev119 => ?_)
    refine zz_iast zd_14_38_90 zT_1090 rfl (zz_ltn hn rfl) (by decide) (by decide) (fun S120 qS120 => ?_)
    have G_S120 := zz_G.put G_S114 qS120 (-2147483648) 2147483647 rfl (by omega)
    have F_S120 := zz_fr.puts F_S114 qS120 rfl
    refine zz_aload_n (x := 1079) rfl zd_14_38_91 ?_
    refine zz_getr (kd := 0) (z := 1097) zd_14_38_92 zf_Md_70 zT_1079 rfl (zz_ltn hn rfl) (zz_G.eq G_S120 1079 25 1097 rfl rfl) (by decide) 1097 rfl ?_
    refine zz_iload_n (x := 1) rfl zd_14_38_95 ?_
    refine zz_iload_n (x := S0 1098 1) rfl zd_14_38_96 ?_
    refine zz_iast zd_14_38_97 zT_1097 rfl (zz_ltn hn rfl) (by decide) (by decide) (fun S121 qS121 => ?_)
    have G_S121 := zz_G.put G_S120 qS121 (-1) 600 rfl (by omega)
    have F_S121 := zz_fr.puts F_S120 qS121 rfl
    refine zz_aload_n (x := 1079) rfl zd_14_38_98 ?_
    have g122 := zz_G.r G_S81 1087 0 (-2147483648) 2147483647 rfl rfl
    have e123 : S121 1087 0 = S81 1087 0 := (zz_ro qS121 (fun h => absurd h.1 (by decide)) (zz_ro qS120 (fun h => absurd h.1 (by decide)) (zz_ro qS114 (fun h => absurd h.1 (by decide)) (zz_ro qS109 (fun h => absurd h.1 (by decide)) (zz_ro qS108 (fun h => absurd h.1 (by decide)) (zz_ro qS101 (fun h => absurd h.1 (by decide)) rfl))))))
    have e124 : S121 1087 1 = S81 1087 1 := (zz_ro qS121 (fun h => absurd h.1 (by decide)) (zz_ro qS120 (fun h => absurd h.1 (by decide)) (zz_ro qS114 (fun h => absurd h.1 (by decide)) (zz_ro qS109 (fun h => absurd h.1 (by decide)) (zz_ro qS108 (fun h => absurd h.1 (by decide)) (zz_ro qS101 (fun h => absurd h.1 (by decide)) rfl))))))
    have e125 : S121 1087 2 = S81 1087 2 := (zz_ro qS121 (fun h => absurd h.1 (by decide)) (zz_ro qS120 (fun h => absurd h.1 (by decide)) (zz_ro qS114 (fun h => absurd h.1 (by decide)) (zz_ro qS109 (fun h => absurd h.1 (by decide)) (zz_ro qS108 (fun h => absurd h.1 (by decide)) (zz_ro qS101 (fun h => absurd h.1 (by decide)) rfl))))))
    have g126 := zz_G.r G_S81 1087 3 (-2147483648) 2147483647 rfl rfl
    have e127 : S121 1087 3 = S81 1087 3 := (zz_ro qS121 (fun h => absurd h.1 (by decide)) (zz_ro qS120 (fun h => absurd h.1 (by decide)) (zz_ro qS114 (fun h => absurd h.1 (by decide)) (zz_ro qS109 (fun h => absurd h.1 (by decide)) (zz_ro qS108 (fun h => absurd h.1 (by decide)) (zz_ro qS101 (fun h => absurd h.1 (by decide)) rfl))))))
    have g128 := zz_G.r G_S81 1087 4 (-2147483648) 2147483647 rfl rfl
    have e129 : S121 1087 4 = S81 1087 4 := (zz_ro qS121 (fun h => absurd h.1 (by decide)) (zz_ro qS120 (fun h => absurd h.1 (by decide)) (zz_ro qS114 (fun h => absurd h.1 (by decide)) (zz_ro qS109 (fun h => absurd h.1 (by decide)) (zz_ro qS108 (fun h => absurd h.1 (by decide)) (zz_ro qS101 (fun h => absurd h.1 (by decide)) rfl))))))
    have g130 := zz_G.r G_S81 1087 5 (-2147483648) 2147483647 rfl rfl
    have e131 : S121 1087 5 = S81 1087 5 := (zz_ro qS121 (fun h => absurd h.1 (by decide)) (zz_ro qS120 (fun h => absurd h.1 (by decide)) (zz_ro qS114 (fun h => absurd h.1 (by decide)) (zz_ro qS109 (fun h => absurd h.1 (by decide)) (zz_ro qS108 (fun h => absurd h.1 (by decide)) (zz_ro qS101 (fun h => absurd h.1 (by decide)) rfl))))))
    have g132 := zz_G.r G_S81 1087 6 (-2147483648) 2147483647 rfl rfl
    have e133 : S121 1087 6 = S81 1087 6 := (zz_ro qS121 (fun h => absurd h.1 (by decide)) (zz_ro qS120 (fun h => absurd h.1 (by decide)) (zz_ro qS114 (fun h => absurd h.1 (by decide)) (zz_ro qS109 (fun h => absurd h.1 (by decide)) (zz_ro qS108 (fun h => absurd h.1 (by decide)) (zz_ro qS101 (fun h => absurd h.1 (by decide)) rfl))))))
    have g134 := zz_G.r G_S81 1087 7 (-2147483648) 2147483647 rfl rfl
    have e135 : S121 1087 7 = S81 1087 7 := (zz_ro qS121 (fun h => absurd h.1 (by decide)) (zz_ro qS120 (fun h => absurd h.1 (by decide)) (zz_ro qS114 (fun h => absurd h.1 (by decide)) (zz_ro qS109 (fun h => absurd h.1 (by decide)) (zz_ro qS108 (fun h => absurd h.1 (by decide)) (zz_ro qS101 (fun h => absurd h.1 (by decide)) rfl))))))
    have g136 := zz_G.r G_S81 1087 8 (-2147483648) 2147483647 rfl rfl
    have e137 : S121 1087 8 = S81 1087 8 := (zz_ro qS121 (fun h => absurd h.1 (by decide)) (zz_ro qS120 (fun h => absurd h.1 (by decide)) (zz_ro qS114 (fun h => absurd h.1 (by decide)) (zz_ro qS109 (fun h => absurd h.1 (by decide)) (zz_ro qS108 (fun h => absurd h.1 (by decide)) (zz_ro qS101 (fun h => absurd h.1 (by decide)) rfl))))))
    have g138 := zz_G.r G_S81 1087 9 (-2147483648) 2147483647 rfl rfl
    have e139 : S121 1087 9 = S81 1087 9 := (zz_ro qS121 (fun h => absurd h.1 (by decide)) (zz_ro qS120 (fun h => absurd h.1 (by decide)) (zz_ro qS114 (fun h => absurd h.1 (by decide)) (zz_ro qS109 (fun h => absurd h.1 (by decide)) (zz_ro qS108 (fun h => absurd h.1 (by decide)) (zz_ro qS101 (fun h => absurd h.1 (by decide)) rfl))))))
    have g140 := zz_G.r G_S81 1087 10 (-2147483648) 2147483647 rfl rfl
    have e141 : S121 1087 10 = S81 1087 10 := (zz_ro qS121 (fun h => absurd h.1 (by decide)) (zz_ro qS120 (fun h => absurd h.1 (by decide)) (zz_ro qS114 (fun h => absurd h.1 (by decide)) (zz_ro qS109 (fun h => absurd h.1 (by decide)) (zz_ro qS108 (fun h => absurd h.1 (by decide)) (zz_ro qS101 (fun h => absurd h.1 (by decide)) rfl))))))
    have g142 := zz_G.r G_S81 1087 11 (-2147483648) 2147483647 rfl rfl
    have e143 : S121 1087 11 = S81 1087 11 := (zz_ro qS121 (fun h => absurd h.1 (by decide)) (zz_ro qS120 (fun h => absurd h.1 (by decide)) (zz_ro qS114 (fun h => absurd h.1 (by decide)) (zz_ro qS109 (fun h => absurd h.1 (by decide)) (zz_ro qS108 (fun h => absurd h.1 (by decide)) (zz_ro qS101 (fun h => absurd h.1 (by decide)) rfl))))))
    have g144 := zz_G.r G_S0 1079 1 2 8 rfl rfl
    have e145 : S121 1079 1 = S0 1079 1 := (zz_ro qS121 (fun h => absurd h.1 (by decide)) (zz_ro qS120 (fun h => absurd h.1 (by decide)) (zz_ro qS114 (fun h => absurd h.1 (by decide)) (zz_ro qS109 (fun h => absurd h.1 (by decide)) (zz_ro qS108 (fun h => absurd h.1 (by decide)) (zz_ro qS101 (fun h => absurd h.1 (by decide)) (zz_rc fS81 rfl rfl (fun h => h) rfl)))))))
    refine zz_callVV [] zd_14_38_99 zk_Md_285 zT_1079 (zz_ltn hn rfl) rfl rfl ⟨Nat.le_of_ble_eq_true rfl, Nat.le_of_ble_eq_true rfl⟩ ⟨rfl, rfl⟩ (Nat.zero_le _) (Nat.zero_le _) (zc_doWord_14_29  S121 n hn G_S121 (by omega) (by omega) (by omega) (by omega) (by omega) (by omega) (by omega) (by omega) (by omega) (by omega) (by omega) (by omega) (by rw [show S121 1087 0 = zz_fx (S0 1085 ((S0 1098 1).toNat)) 0 15 by omega, show S121 1087 5 = zz_fx (S0 1085 ((S0 1098 1).toNat)) 8 4095 by omega, show S121 1087 6 = zz_fx (S0 1085 ((S0 1098 1).toNat)) 20 63 by omega, show S121 1087 7 = zz_fx (S0 1085 ((S0 1098 1).toNat)) 26 31 by omega, show S121 1087 8 = zz_fx (S0 1085 ((S0 1098 1).toNat)) 31 511 by omega, show S121 1087 9 = zz_fx (S0 1085 ((S0 1098 1).toNat)) 40 511 by omega, show S121 1087 10 = zz_fx (S0 1085 ((S0 1098 1).toNat)) 49 1023 by omega, show S121 1087 11 = zz_fx (S0 1085 ((S0 1098 1).toNat)) 59 31 by omega, show S121 1079 1 = S0 1079 1 by omega]; exact hL _ (by omega))) (fun S146 hP => ?_)
    obtain ⟨G_S146, fS146⟩ := hP
    have F_S146 := zz_fr.trans F_S121 fS146 rfl zz_nv
    refine zz_aload_n (x := 1079) rfl zd_14_38_102 ?_
    refine zz_iload_n (x := 1) rfl zd_14_38_103 ?_
    have e148 : S146 1098 1 = S0 1098 1 := (zz_rc fS146 rfl rfl (fun h => h) (zz_ro qS121 (fun h => absurd h.1 (by decide)) (zz_ro qS120 (fun h => absurd h.1 (by decide)) (zz_ro qS114 (fun h => absurd h.1 (by decide)) (zz_ro qS109 (fun h => absurd h.1 (by decide)) (zz_ro qS108 (fun h => absurd h.1 (by decide)) (zz_ro qS101 (fun h => absurd h.1 (by decide)) (zz_rc fS81 rfl rfl (fun h => h) rfl))))))))
    refine zz_callVV [zi 1] zd_14_38_104 zk_Md_288 zT_1079 (zz_ltn hn rfl) rfl rfl ⟨Nat.le_of_ble_eq_true rfl, Nat.le_of_ble_eq_true rfl⟩ ⟨rfl, rfl⟩ (Nat.zero_le _) (Nat.zero_le _) (zc_findNext_14_34x_1  S146 n hn G_S146 (by omega)) (fun S149 hP => ?_)
    obtain ⟨G_S149, fS149, o151⟩ := hP
    have F_S149 := zz_fr.trans F_S146 fS149 rfl zz_nv
    have g152 := zz_G.r G_S0 1098 0 (-1) 601 rfl rfl
    have e153 : S149 1098 0 = S0 1098 0 := (zz_rc fS149 rfl rfl (fun h => h) (zz_rc fS146 rfl rfl (fun h => h) (zz_ro qS121 (fun h => absurd h.1 (by decide)) (zz_ro qS120 (fun h => absurd h.1 (by decide)) (zz_ro qS114 (fun h => absurd h.1 (by decide)) (zz_ro qS109 (fun h => absurd h.1 (by decide)) (zz_ro qS108 (fun h => absurd h.1 (by decide)) (zz_ro qS101 (fun h => absurd h.1 (by decide)) (zz_rc fS81 rfl rfl (fun h => h) rfl)))))))))
    have g154 := zz_G.r G_S149 1098 1 (-1) 601 rfl rfl
    have g155 := zz_G.r G_S0 1098 2 (-1) 601 rfl rfl
    have e156 : S149 1098 2 = S0 1098 2 := (zz_rc fS149 rfl rfl (fun h => h) (zz_rc fS146 rfl rfl (fun h => h) (zz_ro qS121 (fun h => absurd h.1 (by decide)) (zz_ro qS120 (fun h => absurd h.1 (by decide)) (zz_ro qS114 (fun h => absurd h.1 (by decide)) (zz_ro qS109 (fun h => absurd h.1 (by decide)) (zz_ro qS108 (fun h => absurd h.1 (by decide)) (zz_ro qS101 (fun h => absurd h.1 (by decide)) (zz_rc fS81 rfl rfl (fun h => h) rfl)))))))))
    exact zz_vret zd_14_38_107 rfl (Nat.zero_le _) (Nat.zero_le _) ⟨_, rfl, G_S149, F_S149, by omega, by omega, by omega, by omega⟩
  · have c_hq : 0 ≤ S0 1098 2 ∧ S0 1098 2 < S0 1079 19 := hq
    have gr9 := zz_G.r G_S0 1079 19 (-1) 600 rfl rfl
    refine zz_aload_n (x := 1079) rfl zd_14_38_0 ?_
    refine zz_getr (kd := 0) (z := 1098) zd_14_38_1 zf_Md_73 zT_1079 rfl (zz_ltn hn rfl) (zz_G.eq G_S0 1079 26 1098 rfl rfl) (by decide) 1098 rfl ?_
    refine zz_iload_n (x := 2) rfl zd_14_38_4 ?_
    have g157 := zz_G.r G_S0 1098 2 (-1) 601 rfl rfl
    refine zz_iald (z := S0 1098 2) zd_14_38_5 zT_1098 rfl (zz_ltn hn rfl) (by decide) (by decide) rfl ?_
    refine zz_istore_n [some (.ref 1079), some (zi 2), some (zi p1), some (zi (S0 1098 2))] zd_14_38_6 (by decide) rfl ?_
    refine zz_aload_n (x := 1079) rfl zd_14_38_7 ?_
    refine zz_aload_n (x := 1079) rfl zd_14_38_8 ?_
    refine zz_getr (kd := 0) (z := 1085) zd_14_38_9 zf_Md_29 zT_1079 rfl (zz_ltn hn rfl) (zz_G.eq G_S0 1079 8 1085 rfl rfl) (by decide) 1085 rfl ?_
    refine zz_iload_n (x := S0 1098 2) rfl zd_14_38_12 ?_
    have g158 := zz_G.r G_S0 1085 ((S0 1098 2).toNat) (-9223372036854775808) 9223372036854775807 rfl rfl
    refine zz_lald (z := S0 1085 ((S0 1098 2).toNat)) zd_14_38_13 zT_1085 rfl (zz_ltn hn rfl) (by decide) (by omega) rfl ?_
    refine zz_callVV [zl (S0 1085 ((S0 1098 2).toNat))] zd_14_38_14 zk_Md_234 zT_1079 (zz_ltn hn rfl) rfl rfl ⟨Nat.le_of_ble_eq_true rfl, Nat.le_of_ble_eq_true rfl⟩ ⟨rfl, rfl⟩ (Nat.zero_le _) (Nat.zero_le _) (zc_take_14_18 (S0 1085 ((S0 1098 2).toNat)) S0 n hn G_S0 (by omega)) (fun S159 hP => ?_)
    obtain ⟨G_S159, fS159, o161, o162, o163, o164, o165, o166, o167, o168, o169, o170, o171, o172⟩ := hP
    have F_S159 := zz_fr.trans F_S0 fS159 rfl zz_nv
    refine zz_aload_n (x := 1079) rfl zd_14_38_17 ?_
    refine zz_getr (kd := 0) (z := 1091) zd_14_38_18 zf_Md_51 zT_1079 rfl (zz_ltn hn rfl) (zz_G.eq G_S159 1079 18 1091 rfl rfl) (by decide) 1091 rfl ?_
    refine zz_iload_n (x := 2) rfl zd_14_38_21 ?_
    refine zz_iconst zd_14_38_22 ?_
    refine zz_callSI [zi 2, zi 0] zd_14_38_23 zk_Md_275 rfl rfl ⟨Nat.le_of_ble_eq_true rfl, Nat.le_of_ble_eq_true rfl⟩ ⟨rfl, rfl⟩ (Nat.zero_le _) (Nat.zero_le _) (zc_popped_14_31 2 0 S159 n hn G_S159 (by omega) (by omega)) (fun v174 S173 hP => ?_)
    obtain ⟨rfl, o175⟩ := hP
    refine zz_dup2_11 rfl rfl zd_14_38_26 ?_
    have g176 := zz_G.r G_S0 1091 v174.toNat (-2147483648) 2147483647 rfl rfl
    refine zz_iald (z := S0 1091 v174.toNat) zd_14_38_27 zT_1091 rfl (zz_ltn hn rfl) (by decide) (by omega) (zz_rc fS159 (zz_nc1 rfl) rfl (fun h => h) rfl) ?_
    refine zz_aload_n (x := 1079) rfl zd_14_38_28 ?_
    refine zz_getr (kd := 0) (z := 1087) zd_14_38_29 zf_Md_36 zT_1079 rfl (zz_ltn hn rfl) (zz_G.eq G_S159 1079 11 1087 rfl rfl) (by decide) 1087 rfl ?_
    refine zz_iconst zd_14_38_32 ?_
    have g177 := zz_G.r G_S159 1087 1 (-2147483648) 2147483647 rfl rfl
    refine zz_iald (z := S159 1087 1) zd_14_38_33 zT_1087 rfl (zz_ltn hn rfl) (by decide) (by decide) rfl ?_
    refine zz_isub zd_14_38_34 ?_
    refine zz_nrm (fun v178 hv178 ev178 => ?_)
    refine zz_iast zd_14_38_35 zT_1091 rfl (zz_ltn hn rfl) (by decide) (by omega) (fun S179 qS179 => ?_)
    have G_S179 := zz_G.put G_S159 qS179 (-2147483648) 2147483647 rfl (by omega)
    have F_S179 := zz_fr.putc F_S159 qS179 rfl
    refine zz_aload_n (x := 1079) rfl zd_14_38_36 ?_
    refine zz_getr (kd := 0) (z := 1091) zd_14_38_37 zf_Md_51 zT_1079 rfl (zz_ltn hn rfl) (zz_G.eq G_S179 1079 18 1091 rfl rfl) (by decide) 1091 rfl ?_
    refine zz_iload_n (x := 2) rfl zd_14_38_40 ?_
    refine zz_iconst zd_14_38_41 ?_
    refine zz_callSI [zi 2, zi 1] zd_14_38_42 zk_Md_275 rfl rfl ⟨Nat.le_of_ble_eq_true rfl, Nat.le_of_ble_eq_true rfl⟩ ⟨rfl, rfl⟩ (Nat.zero_le _) (Nat.zero_le _) (zc_popped_14_31 2 1 S179 n hn G_S179 (by omega) (by omega)) (fun v181 S180 hP => ?_)
    obtain ⟨rfl, o182⟩ := hP
    refine zz_dup2_11 rfl rfl zd_14_38_45 ?_
    have g183 := zz_G.r G_S179 1091 v181.toNat (-2147483648) 2147483647 rfl rfl
    refine zz_iald (z := S179 1091 v181.toNat) zd_14_38_46 zT_1091 rfl (zz_ltn hn rfl) (by decide) (by omega) rfl ?_
    refine zz_aload_n (x := 1079) rfl zd_14_38_47 ?_
    refine zz_getr (kd := 0) (z := 1087) zd_14_38_48 zf_Md_36 zT_1079 rfl (zz_ltn hn rfl) (zz_G.eq G_S179 1079 11 1087 rfl rfl) (by decide) 1087 rfl ?_
    refine zz_iconst zd_14_38_51 ?_
    have g184 := zz_G.r G_S159 1087 2 (-2147483648) 2147483647 rfl rfl
    refine zz_iald (z := S159 1087 2) zd_14_38_52 zT_1087 rfl (zz_ltn hn rfl) (by decide) (by decide) (zz_ro qS179 (fun h => absurd h.1 (by decide)) rfl) ?_
    refine zz_isub zd_14_38_53 ?_
    refine zz_nrm (fun v185 hv185 ev185 => ?_)
    refine zz_iast zd_14_38_54 zT_1091 rfl (zz_ltn hn rfl) (by decide) (by omega) (fun S186 qS186 => ?_)
    have G_S186 := zz_G.put G_S179 qS186 (-2147483648) 2147483647 rfl (by omega)
    have F_S186 := zz_fr.putc F_S179 qS186 rfl
    refine zz_aload_n (x := 1079) rfl zd_14_38_55 ?_
    refine zz_getr (kd := 0) (z := 1093) zd_14_38_56 zf_Md_57 zT_1079 rfl (zz_ltn hn rfl) (zz_G.eq G_S186 1079 21 1093 rfl rfl) (by decide) 1093 rfl ?_
    refine zz_iload_n (x := S0 1098 2) rfl zd_14_38_59 ?_
    refine zz_iload_n (x := p1) rfl zd_14_38_60 ?_
    refine zz_iast zd_14_38_61 zT_1093 rfl (zz_ltn hn rfl) (by decide) (by omega) (fun S187 qS187 => ?_)
    have G_S187 := zz_G.put G_S186 qS187 (-2147483648) 2147483647 rfl (by omega)
    have F_S187 := zz_fr.putc F_S186 qS187 rfl
    refine zz_aload_n (x := 1079) rfl zd_14_38_62 ?_
    refine zz_getr (kd := 0) (z := 1094) zd_14_38_63 zf_Md_60 zT_1079 rfl (zz_ltn hn rfl) (zz_G.eq G_S187 1079 22 1094 rfl rfl) (by decide) 1094 rfl ?_
    refine zz_iload_n (x := S0 1098 2) rfl zd_14_38_66 ?_
    refine zz_iload_n (x := p1) rfl zd_14_38_67 ?_
    refine zz_aload_n (x := 1079) rfl zd_14_38_68 ?_
    refine zz_callVI [] zd_14_38_69 zk_Md_282 zT_1079 (zz_ltn hn rfl) rfl rfl ⟨Nat.le_of_ble_eq_true rfl, Nat.le_of_ble_eq_true rfl⟩ ⟨rfl, rfl⟩ (Nat.zero_le _) (Nat.zero_le _) (zc_cycles_14_30  S187 n hn G_S187 ) (fun v189 S188 hP => ?_)
    obtain ⟨rfl, o190⟩ := hP
    refine zz_iadd zd_14_38_72 ?_
    refine zz_nrm (fun v191 hv191 ev191 => ?_)
    refine zz_iast zd_14_38_73 zT_1094 rfl (zz_ltn hn rfl) (by decide) (by omega) (fun S192 qS192 => ?_)
    have G_S192 := zz_G.put G_S187 qS192 (-2147483648) 2147483647 rfl (by omega)
    have F_S192 := zz_fr.putc F_S187 qS192 rfl
    refine zz_aload_n (x := 1079) rfl zd_14_38_74 ?_
    refine zz_getr (kd := 0) (z := 1090) zd_14_38_75 zf_Md_48 zT_1079 rfl (zz_ltn hn rfl) (zz_G.eq G_S192 1079 17 1090 rfl rfl) (by decide) 1090 rfl ?_
    refine zz_iload_n (x := 2) rfl zd_14_38_78 ?_
    refine zz_aload_n (x := 1079) rfl zd_14_38_79 ?_
    refine zz_getr (kd := 0) (z := 1090) zd_14_38_80 zf_Md_48 zT_1079 rfl (zz_ltn hn rfl) (zz_G.eq G_S192 1079 17 1090 rfl rfl) (by decide) 1090 rfl ?_
    refine zz_iload_n (x := 2) rfl zd_14_38_83 ?_
    have g193 := zz_G.r G_S0 1090 2 (-2147483648) 2147483647 rfl rfl
    refine zz_iald (z := S0 1090 2) zd_14_38_84 zT_1090 rfl (zz_ltn hn rfl) (by decide) (by decide) (zz_ro qS192 (fun h => absurd h.1 (by decide)) (zz_ro qS187 (fun h => absurd h.1 (by decide)) (zz_ro qS186 (fun h => absurd h.1 (by decide)) (zz_ro qS179 (fun h => absurd h.1 (by decide)) (zz_rc fS159 rfl rfl (fun h => h) rfl))))) ?_
    refine zz_aload_n (x := 1079) rfl zd_14_38_85 ?_
    refine zz_callVI [] zd_14_38_86 zk_Md_282 zT_1079 (zz_ltn hn rfl) rfl rfl ⟨Nat.le_of_ble_eq_true rfl, Nat.le_of_ble_eq_true rfl⟩ ⟨rfl, rfl⟩ (Nat.zero_le _) (Nat.zero_le _) (zc_cycles_14_30  S192 n hn G_S192 ) (fun v195 S194 hP => ?_)
    obtain ⟨rfl, o196⟩ := hP
    refine zz_iadd zd_14_38_89 ?_
    refine zz_nrm (fun v197 hv197 ev197 => ?_)
    refine zz_iast zd_14_38_90 zT_1090 rfl (zz_ltn hn rfl) (by decide) (by decide) (fun S198 qS198 => ?_)
    have G_S198 := zz_G.put G_S192 qS198 (-2147483648) 2147483647 rfl (by omega)
    have F_S198 := zz_fr.puts F_S192 qS198 rfl
    refine zz_aload_n (x := 1079) rfl zd_14_38_91 ?_
    refine zz_getr (kd := 0) (z := 1097) zd_14_38_92 zf_Md_70 zT_1079 rfl (zz_ltn hn rfl) (zz_G.eq G_S198 1079 25 1097 rfl rfl) (by decide) 1097 rfl ?_
    refine zz_iload_n (x := 2) rfl zd_14_38_95 ?_
    refine zz_iload_n (x := S0 1098 2) rfl zd_14_38_96 ?_
    refine zz_iast zd_14_38_97 zT_1097 rfl (zz_ltn hn rfl) (by decide) (by decide) (fun S199 qS199 => ?_)
    have G_S199 := zz_G.put G_S198 qS199 (-1) 600 rfl (by omega)
    have F_S199 := zz_fr.puts F_S198 qS199 rfl
    refine zz_aload_n (x := 1079) rfl zd_14_38_98 ?_
    have g200 := zz_G.r G_S159 1087 0 (-2147483648) 2147483647 rfl rfl
    have e201 : S199 1087 0 = S159 1087 0 := (zz_ro qS199 (fun h => absurd h.1 (by decide)) (zz_ro qS198 (fun h => absurd h.1 (by decide)) (zz_ro qS192 (fun h => absurd h.1 (by decide)) (zz_ro qS187 (fun h => absurd h.1 (by decide)) (zz_ro qS186 (fun h => absurd h.1 (by decide)) (zz_ro qS179 (fun h => absurd h.1 (by decide)) rfl))))))
    have e202 : S199 1087 1 = S159 1087 1 := (zz_ro qS199 (fun h => absurd h.1 (by decide)) (zz_ro qS198 (fun h => absurd h.1 (by decide)) (zz_ro qS192 (fun h => absurd h.1 (by decide)) (zz_ro qS187 (fun h => absurd h.1 (by decide)) (zz_ro qS186 (fun h => absurd h.1 (by decide)) (zz_ro qS179 (fun h => absurd h.1 (by decide)) rfl))))))
    have e203 : S199 1087 2 = S159 1087 2 := (zz_ro qS199 (fun h => absurd h.1 (by decide)) (zz_ro qS198 (fun h => absurd h.1 (by decide)) (zz_ro qS192 (fun h => absurd h.1 (by decide)) (zz_ro qS187 (fun h => absurd h.1 (by decide)) (zz_ro qS186 (fun h => absurd h.1 (by decide)) (zz_ro qS179 (fun h => absurd h.1 (by decide)) rfl))))))
    have g204 := zz_G.r G_S159 1087 3 (-2147483648) 2147483647 rfl rfl
    have e205 : S199 1087 3 = S159 1087 3 := (zz_ro qS199 (fun h => absurd h.1 (by decide)) (zz_ro qS198 (fun h => absurd h.1 (by decide)) (zz_ro qS192 (fun h => absurd h.1 (by decide)) (zz_ro qS187 (fun h => absurd h.1 (by decide)) (zz_ro qS186 (fun h => absurd h.1 (by decide)) (zz_ro qS179 (fun h => absurd h.1 (by decide)) rfl))))))
    have g206 := zz_G.r G_S159 1087 4 (-2147483648) 2147483647 rfl rfl
    have e207 : S199 1087 4 = S159 1087 4 := (zz_ro qS199 (fun h => absurd h.1 (by decide)) (zz_ro qS198 (fun h => absurd h.1 (by decide)) (zz_ro qS192 (fun h => absurd h.1 (by decide)) (zz_ro qS187 (fun h => absurd h.1 (by decide)) (zz_ro qS186 (fun h => absurd h.1 (by decide)) (zz_ro qS179 (fun h => absurd h.1 (by decide)) rfl))))))
    have g208 := zz_G.r G_S159 1087 5 (-2147483648) 2147483647 rfl rfl
    have e209 : S199 1087 5 = S159 1087 5 := (zz_ro qS199 (fun h => absurd h.1 (by decide)) (zz_ro qS198 (fun h => absurd h.1 (by decide)) (zz_ro qS192 (fun h => absurd h.1 (by decide)) (zz_ro qS187 (fun h => absurd h.1 (by decide)) (zz_ro qS186 (fun h => absurd h.1 (by decide)) (zz_ro qS179 (fun h => absurd h.1 (by decide)) rfl))))))
    have g210 := zz_G.r G_S159 1087 6 (-2147483648) 2147483647 rfl rfl
    have e211 : S199 1087 6 = S159 1087 6 := (zz_ro qS199 (fun h => absurd h.1 (by decide)) (zz_ro qS198 (fun h => absurd h.1 (by decide)) (zz_ro qS192 (fun h => absurd h.1 (by decide)) (zz_ro qS187 (fun h => absurd h.1 (by decide)) (zz_ro qS186 (fun h => absurd h.1 (by decide)) (zz_ro qS179 (fun h => absurd h.1 (by decide)) rfl))))))
    have g212 := zz_G.r G_S159 1087 7 (-2147483648) 2147483647 rfl rfl
    have e213 : S199 1087 7 = S159 1087 7 := (zz_ro qS199 (fun h => absurd h.1 (by decide)) (zz_ro qS198 (fun h => absurd h.1 (by decide)) (zz_ro qS192 (fun h => absurd h.1 (by decide)) (zz_ro qS187 (fun h => absurd h.1 (by decide)) (zz_ro qS186 (fun h => absurd h.1 (by decide)) (zz_ro qS179 (fun h => absurd h.1 (by decide)) rfl))))))
    have g214 := zz_G.r G_S159 1087 8 (-2147483648) 2147483647 rfl rfl
    have e215 : S199 1087 8 = S159 1087 8 := (zz_ro qS199 (fun h => absurd h.1 (by decide)) (zz_ro qS198 (fun h => absurd h.1 (by decide)) (zz_ro qS192 (fun h => absurd h.1 (by decide)) (zz_ro qS187 (fun h => absurd h.1 (by decide)) (zz_ro qS186 (fun h => absurd h.1 (by decide)) (zz_ro qS179 (fun h => absurd h.1 (by decide)) rfl))))))
    have g216 := zz_G.r G_S159 1087 9 (-2147483648) 2147483647 rfl rfl
    have e217 : S199 1087 9 = S159 1087 9 := (zz_ro qS199 (fun h => absurd h.1 (by decide)) (zz_ro qS198 (fun h => absurd h.1 (by decide)) (zz_ro qS192 (fun h => absurd h.1 (by decide)) (zz_ro qS187 (fun h => absurd h.1 (by decide)) (zz_ro qS186 (fun h => absurd h.1 (by decide)) (zz_ro qS179 (fun h => absurd h.1 (by decide)) rfl))))))
    have g218 := zz_G.r G_S159 1087 10 (-2147483648) 2147483647 rfl rfl
    have e219 : S199 1087 10 = S159 1087 10 := (zz_ro qS199 (fun h => absurd h.1 (by decide)) (zz_ro qS198 (fun h => absurd h.1 (by decide)) (zz_ro qS192 (fun h => absurd h.1 (by decide)) (zz_ro qS187 (fun h => absurd h.1 (by decide)) (zz_ro qS186 (fun h => absurd h.1 (by decide)) (zz_ro qS179 (fun h => absurd h.1 (by decide)) rfl))))))
    have g220 := zz_G.r G_S159 1087 11 (-2147483648) 2147483647 rfl rfl
    have e221 : S199 1087 11 = S159 1087 11 := (zz_ro qS199 (fun h => absurd h.1 (by decide)) (zz_ro qS198 (fun h => absurd h.1 (by decide)) (zz_ro qS192 (fun h => absurd h.1 (by decide)) (zz_ro qS187 (fun h => absurd h.1 (by decide)) (zz_ro qS186 (fun h => absurd h.1 (by decide)) (zz_ro qS179 (fun h => absurd h.1 (by decide)) rfl))))))
    have g222 := zz_G.r G_S0 1079 1 2 8 rfl rfl
    have e223 : S199 1079 1 = S0 1079 1 := (zz_ro qS199 (fun h => absurd h.1 (by decide)) (zz_ro qS198 (fun h => absurd h.1 (by decide)) (zz_ro qS192 (fun h => absurd h.1 (by decide)) (zz_ro qS187 (fun h => absurd h.1 (by decide)) (zz_ro qS186 (fun h => absurd h.1 (by decide)) (zz_ro qS179 (fun h => absurd h.1 (by decide)) (zz_rc fS159 rfl rfl (fun h => h) rfl)))))))
    refine zz_callVV [] zd_14_38_99 zk_Md_285 zT_1079 (zz_ltn hn rfl) rfl rfl ⟨Nat.le_of_ble_eq_true rfl, Nat.le_of_ble_eq_true rfl⟩ ⟨rfl, rfl⟩ (Nat.zero_le _) (Nat.zero_le _) (zc_doWord_14_29  S199 n hn G_S199 (by omega) (by omega) (by omega) (by omega) (by omega) (by omega) (by omega) (by omega) (by omega) (by omega) (by omega) (by omega) (by rw [show S199 1087 0 = zz_fx (S0 1085 ((S0 1098 2).toNat)) 0 15 by omega, show S199 1087 5 = zz_fx (S0 1085 ((S0 1098 2).toNat)) 8 4095 by omega, show S199 1087 6 = zz_fx (S0 1085 ((S0 1098 2).toNat)) 20 63 by omega, show S199 1087 7 = zz_fx (S0 1085 ((S0 1098 2).toNat)) 26 31 by omega, show S199 1087 8 = zz_fx (S0 1085 ((S0 1098 2).toNat)) 31 511 by omega, show S199 1087 9 = zz_fx (S0 1085 ((S0 1098 2).toNat)) 40 511 by omega, show S199 1087 10 = zz_fx (S0 1085 ((S0 1098 2).toNat)) 49 1023 by omega, show S199 1087 11 = zz_fx (S0 1085 ((S0 1098 2).toNat)) 59 31 by omega, show S199 1079 1 = S0 1079 1 by omega]; exact hL _ (by omega))) (fun S224 hP => ?_)
    obtain ⟨G_S224, fS224⟩ := hP
    have F_S224 := zz_fr.trans F_S199 fS224 rfl zz_nv
    refine zz_aload_n (x := 1079) rfl zd_14_38_102 ?_
    refine zz_iload_n (x := 2) rfl zd_14_38_103 ?_
    have e226 : S224 1098 2 = S0 1098 2 := (zz_rc fS224 rfl rfl (fun h => h) (zz_ro qS199 (fun h => absurd h.1 (by decide)) (zz_ro qS198 (fun h => absurd h.1 (by decide)) (zz_ro qS192 (fun h => absurd h.1 (by decide)) (zz_ro qS187 (fun h => absurd h.1 (by decide)) (zz_ro qS186 (fun h => absurd h.1 (by decide)) (zz_ro qS179 (fun h => absurd h.1 (by decide)) (zz_rc fS159 rfl rfl (fun h => h) rfl))))))))
    refine zz_callVV [zi 2] zd_14_38_104 zk_Md_288 zT_1079 (zz_ltn hn rfl) rfl rfl ⟨Nat.le_of_ble_eq_true rfl, Nat.le_of_ble_eq_true rfl⟩ ⟨rfl, rfl⟩ (Nat.zero_le _) (Nat.zero_le _) (zc_findNext_14_34x_2  S224 n hn G_S224 (by omega)) (fun S227 hP => ?_)
    obtain ⟨G_S227, fS227, o229⟩ := hP
    have F_S227 := zz_fr.trans F_S224 fS227 rfl zz_nv
    have g230 := zz_G.r G_S0 1098 0 (-1) 601 rfl rfl
    have e231 : S227 1098 0 = S0 1098 0 := (zz_rc fS227 rfl rfl (fun h => h) (zz_rc fS224 rfl rfl (fun h => h) (zz_ro qS199 (fun h => absurd h.1 (by decide)) (zz_ro qS198 (fun h => absurd h.1 (by decide)) (zz_ro qS192 (fun h => absurd h.1 (by decide)) (zz_ro qS187 (fun h => absurd h.1 (by decide)) (zz_ro qS186 (fun h => absurd h.1 (by decide)) (zz_ro qS179 (fun h => absurd h.1 (by decide)) (zz_rc fS159 rfl rfl (fun h => h) rfl)))))))))
    have g232 := zz_G.r G_S0 1098 1 (-1) 601 rfl rfl
    have e233 : S227 1098 1 = S0 1098 1 := (zz_rc fS227 rfl rfl (fun h => h) (zz_rc fS224 rfl rfl (fun h => h) (zz_ro qS199 (fun h => absurd h.1 (by decide)) (zz_ro qS198 (fun h => absurd h.1 (by decide)) (zz_ro qS192 (fun h => absurd h.1 (by decide)) (zz_ro qS187 (fun h => absurd h.1 (by decide)) (zz_ro qS186 (fun h => absurd h.1 (by decide)) (zz_ro qS179 (fun h => absurd h.1 (by decide)) (zz_rc fS159 rfl rfl (fun h => h) rfl)))))))))
    have g234 := zz_G.r G_S227 1098 2 (-1) 601 rfl rfl
    exact zz_vret zd_14_38_107 rfl (Nat.zero_le _) (Nat.zero_le _) ⟨_, rfl, G_S227, F_S227, by omega, by omega, by omega, by omega⟩
abbrev zy_isBusy_14_39 : mm_Y := (⟨"TensorForgeModel", "isBusy", "(II)Z"⟩, prog_14_method_39_code, 3, (some .boolean))
theorem zyw_isBusy_14_39 : mm_Yw zy_isBusy_14_39 2 := ⟨mm_tb_1 1949 (by decide +kernel) rfl, mm_tb_1 12 (by decide +kernel) rfl, ⟨by decide, by decide⟩, by decide +kernel⟩
theorem zg_14_39_0 : zq_at zy_isBusy_14_39.2.1 0 42 ∧ zq_at zy_isBusy_14_39.2.1 1 180 ∧ zq_at zy_isBusy_14_39.2.1 2 0 ∧ zq_at zy_isBusy_14_39.2.1 3 70 ∧ zq_at zy_isBusy_14_39.2.1 4 27 ∧ zq_at zy_isBusy_14_39.2.1 5 46 ∧ zq_at zy_isBusy_14_39.2.1 6 155 ∧ zq_at zy_isBusy_14_39.2.1 7 0 ∧ zq_at zy_isBusy_14_39.2.1 8 22 ∧ zq_at zy_isBusy_14_39.2.1 28 3 ∧ zq_at zy_isBusy_14_39.2.1 29 172 ∧ zq_at zy_isBusy_14_39.2.1 9 42 ∧ zq_at zy_isBusy_14_39.2.1 10 180 ∧ zq_at zy_isBusy_14_39.2.1 11 0 ∧ zq_at zy_isBusy_14_39.2.1 12 60 ∧ zq_at zy_isBusy_14_39.2.1 13 42 ∧ zq_at zy_isBusy_14_39.2.1 14 180 ∧ zq_at zy_isBusy_14_39.2.1 15 0 ∧ zq_at zy_isBusy_14_39.2.1 16 70 ∧ zq_at zy_isBusy_14_39.2.1 17 27 ∧ zq_at zy_isBusy_14_39.2.1 18 46 ∧ zq_at zy_isBusy_14_39.2.1 19 46 ∧ zq_at zy_isBusy_14_39.2.1 20 28 := by decide +kernel
theorem zd_14_39_0 : zz_D zy_isBusy_14_39 0 (.aload_n 0) 1 1 := ⟨zq_42 zg_14_39_0.1, rfl⟩
theorem zd_14_39_1 : zz_D zy_isBusy_14_39 1 (.getfield 70) 3 4 := ⟨zq_180 zg_14_39_0.2.1 zg_14_39_0.2.2.1 zg_14_39_0.2.2.2.1 rfl, rfl⟩
theorem zd_14_39_4 : zz_D zy_isBusy_14_39 4 (.iload_n 1) 1 5 := ⟨zq_27 zg_14_39_0.2.2.2.2.1, rfl⟩
theorem zd_14_39_5 : zz_D zy_isBusy_14_39 5 (.iaload) 1 6 := ⟨zq_46 zg_14_39_0.2.2.2.2.2.1, rfl⟩
theorem zd_14_39_6 : zz_B zy_isBusy_14_39 6 (Instr.ifCond .lt) 28 9 := ⟨22, zq_155 zg_14_39_0.2.2.2.2.2.2.1 zg_14_39_0.2.2.2.2.2.2.2.1 zg_14_39_0.2.2.2.2.2.2.2.2.1 (by decide), rfl, rfl⟩
theorem zd_14_39_28 : zz_D zy_isBusy_14_39 28 (.iconst 0) 1 29 := ⟨zq_3 zg_14_39_0.2.2.2.2.2.2.2.2.2.1, rfl⟩
theorem zd_14_39_29 : zz_D zy_isBusy_14_39 29 (.ireturn) 1 30 := ⟨zq_172 zg_14_39_0.2.2.2.2.2.2.2.2.2.2.1, rfl⟩
theorem zd_14_39_9 : zz_D zy_isBusy_14_39 9 (.aload_n 0) 1 10 := ⟨zq_42 zg_14_39_0.2.2.2.2.2.2.2.2.2.2.2.1, rfl⟩
theorem zd_14_39_10 : zz_D zy_isBusy_14_39 10 (.getfield 60) 3 13 := ⟨zq_180 zg_14_39_0.2.2.2.2.2.2.2.2.2.2.2.2.1 zg_14_39_0.2.2.2.2.2.2.2.2.2.2.2.2.2.1 zg_14_39_0.2.2.2.2.2.2.2.2.2.2.2.2.2.2.1 rfl, rfl⟩
theorem zd_14_39_13 : zz_D zy_isBusy_14_39 13 (.aload_n 0) 1 14 := ⟨zq_42 zg_14_39_0.2.2.2.2.2.2.2.2.2.2.2.2.2.2.2.1, rfl⟩
theorem zd_14_39_14 : zz_D zy_isBusy_14_39 14 (.getfield 70) 3 17 := ⟨zq_180 zg_14_39_0.2.2.2.2.2.2.2.2.2.2.2.2.2.2.2.2.1 zg_14_39_0.2.2.2.2.2.2.2.2.2.2.2.2.2.2.2.2.2.1 zg_14_39_0.2.2.2.2.2.2.2.2.2.2.2.2.2.2.2.2.2.2.1 rfl, rfl⟩
theorem zd_14_39_17 : zz_D zy_isBusy_14_39 17 (.iload_n 1) 1 18 := ⟨zq_27 zg_14_39_0.2.2.2.2.2.2.2.2.2.2.2.2.2.2.2.2.2.2.2.1, rfl⟩
theorem zd_14_39_18 : zz_D zy_isBusy_14_39 18 (.iaload) 1 19 := ⟨zq_46 zg_14_39_0.2.2.2.2.2.2.2.2.2.2.2.2.2.2.2.2.2.2.2.2.1, rfl⟩
theorem zd_14_39_19 : zz_D zy_isBusy_14_39 19 (.iaload) 1 20 := ⟨zq_46 zg_14_39_0.2.2.2.2.2.2.2.2.2.2.2.2.2.2.2.2.2.2.2.2.2.1, rfl⟩
theorem zd_14_39_20 : zz_D zy_isBusy_14_39 20 (.iload_n 2) 1 21 := ⟨zq_28 zg_14_39_0.2.2.2.2.2.2.2.2.2.2.2.2.2.2.2.2.2.2.2.2.2.2, rfl⟩
theorem zg_14_39_21 : zq_at zy_isBusy_14_39.2.1 21 164 ∧ zq_at zy_isBusy_14_39.2.1 22 0 ∧ zq_at zy_isBusy_14_39.2.1 23 7 ∧ zq_at zy_isBusy_14_39.2.1 24 4 ∧ zq_at zy_isBusy_14_39.2.1 25 167 ∧ zq_at zy_isBusy_14_39.2.1 26 0 ∧ zq_at zy_isBusy_14_39.2.1 27 4 := by decide +kernel
theorem zd_14_39_21 : zz_B zy_isBusy_14_39 21 (Instr.if_icmp .le) 28 24 := ⟨7, zq_164 zg_14_39_21.1 zg_14_39_21.2.1 zg_14_39_21.2.2.1 (by decide), rfl, rfl⟩
theorem zd_14_39_24 : zz_D zy_isBusy_14_39 24 (.iconst 1) 1 25 := ⟨zq_4 zg_14_39_21.2.2.2.1, rfl⟩
theorem zd_14_39_25 : zz_B zy_isBusy_14_39 25 Instr.goto 29 28 := ⟨4, zq_167 zg_14_39_21.2.2.2.2.1 zg_14_39_21.2.2.2.2.2.1 zg_14_39_21.2.2.2.2.2.2 (by decide), rfl, rfl⟩

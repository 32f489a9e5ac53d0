abbrev zy_side_1_2 : mm_Y := (⟨"TensorForge", "side", "(I)V"⟩, prog_1_method_2_code, 2, none)
theorem zyw_side_1_2 : mm_Yw zy_side_1_2 1 := ⟨mm_tb_1 1047 (by decide +kernel) rfl, mm_tb_1 1 (by decide +kernel) rfl, ⟨by decide, by decide⟩, by decide +kernel⟩
theorem zt_1_2_11 : zz_Thr zy_side_1_2 11 87 89 91 := ⟨by decide +kernel, by decide +kernel, by decide +kernel, by decide +kernel, by decide +kernel⟩
theorem zxa_TF_91 : ∀ w ∈ Bundle.ownAtoms "TensorForge" 91 (mm_xn 0) ["java/lang/RuntimeException", "java/lang/Exception"], (goodWord w = true ∧ w ∈ tables_1) ∨ w ∈ mm_xs := by decide +kernel
theorem zxl_TF_87_89_91 : mm_Xl "TensorForge" 87 89 91 0 := ⟨mm_tb_1 1048 (by decide +kernel) rfl, mm_tb_1 1049 (by decide +kernel) rfl, mm_tb_1 16 (by decide +kernel) rfl, ⟨30, by decide +kernel⟩, zxa_TF_91⟩
abbrev zy_takeSide_6_2 : mm_Y := (⟨"TensorForge$Machine", "takeSide", "(I)V"⟩, prog_6_method_2_code, 2, none)
theorem zyw_takeSide_6_2 : mm_Yw zy_takeSide_6_2 1 := ⟨mm_tb_1 1119 (by decide +kernel) rfl, mm_tb_1 4 (by decide +kernel) rfl, ⟨by decide, by decide⟩, by decide +kernel⟩
abbrev zy_fill_27_109 : mm_Y := (⟨"java/util/Arrays", "fill", "([BB)V"⟩, prog_27_method_109_code, 4, none)
theorem zyw_fill_27_109 : mm_Yw zy_fill_27_109 2 := ⟨mm_tb_1 1122 (by decide +kernel) rfl, mm_tb_1 17 (by decide +kernel) rfl, ⟨by decide, by decide⟩, by decide +kernel⟩
theorem zg_1_2_0 : zq_at zy_side_1_2.2.1 0 27 ∧ zq_at zy_side_1_2.2.1 1 5 ∧ zq_at zy_side_1_2.2.1 2 161 ∧ zq_at zy_side_1_2.2.1 3 0 ∧ zq_at zy_side_1_2.2.1 4 9 ∧ zq_at zy_side_1_2.2.1 5 27 ∧ zq_at zy_side_1_2.2.1 6 16 ∧ zq_at zy_side_1_2.2.1 7 8 ∧ zq_at zy_side_1_2.2.1 8 164 ∧ zq_at zy_side_1_2.2.1 9 0 ∧ zq_at zy_side_1_2.2.1 10 13 ∧ zq_at zy_side_1_2.2.1 21 42 ∧ zq_at zy_side_1_2.2.1 22 180 ∧ zq_at zy_side_1_2.2.1 23 0 ∧ zq_at zy_side_1_2.2.1 24 33 ∧ zq_at zy_side_1_2.2.1 25 27 ∧ zq_at zy_side_1_2.2.1 26 182 ∧ zq_at zy_side_1_2.2.1 27 0 ∧ zq_at zy_side_1_2.2.1 28 94 := by decide +kernel
theorem zd_1_2_0 : zz_D zy_side_1_2 0 (.iload_n 1) 1 1 := ⟨zq_27 zg_1_2_0.1, rfl⟩
theorem zd_1_2_1 : zz_D zy_side_1_2 1 (.iconst 2) 1 2 := ⟨zq_5 zg_1_2_0.2.1, rfl⟩
theorem zd_1_2_2 : zz_B zy_side_1_2 2 (Instr.if_icmp .lt) 11 5 := ⟨9, zq_161 zg_1_2_0.2.2.1 zg_1_2_0.2.2.2.1 zg_1_2_0.2.2.2.2.1 (by decide), rfl, rfl⟩
theorem zd_1_2_5 : zz_D zy_side_1_2 5 (.iload_n 1) 1 6 := ⟨zq_27 zg_1_2_0.2.2.2.2.2.1, rfl⟩
theorem zd_1_2_6 : zz_D zy_side_1_2 6 (.bipush 8) 2 8 := ⟨zq_16 zg_1_2_0.2.2.2.2.2.2.1 zg_1_2_0.2.2.2.2.2.2.2.1 (by decide), rfl⟩
theorem zd_1_2_8 : zz_B zy_side_1_2 8 (Instr.if_icmp .le) 21 11 := ⟨13, zq_164 zg_1_2_0.2.2.2.2.2.2.2.2.1 zg_1_2_0.2.2.2.2.2.2.2.2.2.1 zg_1_2_0.2.2.2.2.2.2.2.2.2.2.1 (by decide), rfl, rfl⟩
theorem zd_1_2_21 : zz_D zy_side_1_2 21 (.aload_n 0) 1 22 := ⟨zq_42 zg_1_2_0.2.2.2.2.2.2.2.2.2.2.2.1, rfl⟩
theorem zd_1_2_22 : zz_D zy_side_1_2 22 (.getfield 33) 3 25 := ⟨zq_180 zg_1_2_0.2.2.2.2.2.2.2.2.2.2.2.2.1 zg_1_2_0.2.2.2.2.2.2.2.2.2.2.2.2.2.1 zg_1_2_0.2.2.2.2.2.2.2.2.2.2.2.2.2.2.1 rfl, rfl⟩
theorem zd_1_2_25 : zz_D zy_side_1_2 25 (.iload_n 1) 1 26 := ⟨zq_27 zg_1_2_0.2.2.2.2.2.2.2.2.2.2.2.2.2.2.2.1, rfl⟩
theorem zd_1_2_26 : zz_D zy_side_1_2 26 (.invokevirtual 94) 3 29 := ⟨zq_182 zg_1_2_0.2.2.2.2.2.2.2.2.2.2.2.2.2.2.2.2.1 zg_1_2_0.2.2.2.2.2.2.2.2.2.2.2.2.2.2.2.2.2.1 zg_1_2_0.2.2.2.2.2.2.2.2.2.2.2.2.2.2.2.2.2.2 rfl, rfl⟩
theorem zg_6_2_0 : zq_at zy_takeSide_6_2.2.1 0 42 ∧ zq_at zy_takeSide_6_2.2.1 1 27 ∧ zq_at zy_takeSide_6_2.2.1 2 181 ∧ zq_at zy_takeSide_6_2.2.1 3 0 ∧ zq_at zy_takeSide_6_2.2.1 4 36 ∧ zq_at zy_takeSide_6_2.2.1 5 42 ∧ zq_at zy_takeSide_6_2.2.1 6 180 ∧ zq_at zy_takeSide_6_2.2.1 7 0 ∧ zq_at zy_takeSide_6_2.2.1 8 19 ∧ zq_at zy_takeSide_6_2.2.1 9 3 ∧ zq_at zy_takeSide_6_2.2.1 10 184 ∧ zq_at zy_takeSide_6_2.2.1 11 0 ∧ zq_at zy_takeSide_6_2.2.1 12 40 := by decide +kernel
theorem zd_6_2_0 : zz_D zy_takeSide_6_2 0 (.aload_n 0) 1 1 := ⟨zq_42 zg_6_2_0.1, rfl⟩
theorem zd_6_2_1 : zz_D zy_takeSide_6_2 1 (.iload_n 1) 1 2 := ⟨zq_27 zg_6_2_0.2.1, rfl⟩
theorem zd_6_2_2 : zz_D zy_takeSide_6_2 2 (.putfield 36) 3 5 := ⟨zq_181 zg_6_2_0.2.2.1 zg_6_2_0.2.2.2.1 zg_6_2_0.2.2.2.2.1 rfl, rfl⟩
theorem zd_6_2_5 : zz_D zy_takeSide_6_2 5 (.aload_n 0) 1 6 := ⟨zq_42 zg_6_2_0.2.2.2.2.2.1, rfl⟩
theorem zd_6_2_6 : zz_D zy_takeSide_6_2 6 (.getfield 19) 3 9 := ⟨zq_180 zg_6_2_0.2.2.2.2.2.2.1 zg_6_2_0.2.2.2.2.2.2.2.1 zg_6_2_0.2.2.2.2.2.2.2.2.1 rfl, rfl⟩
theorem zd_6_2_9 : zz_D zy_takeSide_6_2 9 (.iconst 0) 1 10 := ⟨zq_3 zg_6_2_0.2.2.2.2.2.2.2.2.2.1, rfl⟩
theorem zd_6_2_10 : zz_D zy_takeSide_6_2 10 (.invokestatic 40) 3 13 := ⟨zq_184 zg_6_2_0.2.2.2.2.2.2.2.2.2.2.1 zg_6_2_0.2.2.2.2.2.2.2.2.2.2.2.1 zg_6_2_0.2.2.2.2.2.2.2.2.2.2.2.2 rfl, rfl⟩
theorem zg_27_109_0 : zq_at zy_fill_27_109.2.1 0 3 ∧ zq_at zy_fill_27_109.2.1 1 61 ∧ zq_at zy_fill_27_109.2.1 2 42 ∧ zq_at zy_fill_27_109.2.1 3 190 ∧ zq_at zy_fill_27_109.2.1 4 62 ∧ zq_at zy_fill_27_109.2.1 5 28 ∧ zq_at zy_fill_27_109.2.1 6 29 ∧ zq_at zy_fill_27_109.2.1 7 162 ∧ zq_at zy_fill_27_109.2.1 8 0 ∧ zq_at zy_fill_27_109.2.1 9 13 ∧ zq_at zy_fill_27_109.2.1 10 42 ∧ zq_at zy_fill_27_109.2.1 11 28 ∧ zq_at zy_fill_27_109.2.1 12 27 ∧ zq_at zy_fill_27_109.2.1 13 84 ∧ zq_at zy_fill_27_109.2.1 14 132 ∧ zq_at zy_fill_27_109.2.1 15 2 ∧ zq_at zy_fill_27_109.2.1 16 1 ∧ zq_at zy_fill_27_109.2.1 17 167 ∧ zq_at zy_fill_27_109.2.1 18 255 ∧ zq_at zy_fill_27_109.2.1 19 244 ∧ zq_at zy_fill_27_109.2.1 20 177 := by decide +kernel
theorem zd_27_109_0 : zz_D zy_fill_27_109 0 (.iconst 0) 1 1 := ⟨zq_3 zg_27_109_0.1, rfl⟩
theorem zd_27_109_1 : zz_D zy_fill_27_109 1 (.istore_n 2) 1 2 := ⟨zq_61 zg_27_109_0.2.1, rfl⟩
theorem zd_27_109_2 : zz_D zy_fill_27_109 2 (.aload_n 0) 1 3 := ⟨zq_42 zg_27_109_0.2.2.1, rfl⟩
theorem zd_27_109_3 : zz_D zy_fill_27_109 3 (.arraylength) 1 4 := ⟨zq_190 zg_27_109_0.2.2.2.1, rfl⟩
theorem zd_27_109_4 : zz_D zy_fill_27_109 4 (.istore_n 3) 1 5 := ⟨zq_62 zg_27_109_0.2.2.2.2.1, rfl⟩
theorem zd_27_109_5 : zz_D zy_fill_27_109 5 (.iload_n 2) 1 6 := ⟨zq_28 zg_27_109_0.2.2.2.2.2.1, rfl⟩
theorem zd_27_109_6 : zz_D zy_fill_27_109 6 (.iload_n 3) 1 7 := ⟨zq_29 zg_27_109_0.2.2.2.2.2.2.1, rfl⟩
theorem zd_27_109_7 : zz_B zy_fill_27_109 7 (Instr.if_icmp .ge) 20 10 := ⟨13, zq_162 zg_27_109_0.2.2.2.2.2.2.2.1 zg_27_109_0.2.2.2.2.2.2.2.2.1 zg_27_109_0.2.2.2.2.2.2.2.2.2.1 (by decide), rfl, rfl⟩
theorem zd_27_109_10 : zz_D zy_fill_27_109 10 (.aload_n 0) 1 11 := ⟨zq_42 zg_27_109_0.2.2.2.2.2.2.2.2.2.2.1, rfl⟩
theorem zd_27_109_11 : zz_D zy_fill_27_109 11 (.iload_n 2) 1 12 := ⟨zq_28 zg_27_109_0.2.2.2.2.2.2.2.2.2.2.2.1, rfl⟩
theorem zd_27_109_12 : zz_D zy_fill_27_109 12 (.iload_n 1) 1 13 := ⟨zq_27 zg_27_109_0.2.2.2.2.2.2.2.2.2.2.2.2.1, rfl⟩
theorem zd_27_109_13 : zz_D zy_fill_27_109 13 (.bastore) 1 14 := ⟨zq_84 zg_27_109_0.2.2.2.2.2.2.2.2.2.2.2.2.2.1, rfl⟩
theorem zd_27_109_14 : zz_D zy_fill_27_109 14 (.iinc 2 1) 3 17 := ⟨zq_132 zg_27_109_0.2.2.2.2.2.2.2.2.2.2.2.2.2.2.1 zg_27_109_0.2.2.2.2.2.2.2.2.2.2.2.2.2.2.2.1 zg_27_109_0.2.2.2.2.2.2.2.2.2.2.2.2.2.2.2.2.1 (by decide), rfl⟩
theorem zd_27_109_17 : zz_B zy_fill_27_109 17 Instr.goto 5 20 := ⟨(-12), zq_167 zg_27_109_0.2.2.2.2.2.2.2.2.2.2.2.2.2.2.2.2.2.1 zg_27_109_0.2.2.2.2.2.2.2.2.2.2.2.2.2.2.2.2.2.2.1 zg_27_109_0.2.2.2.2.2.2.2.2.2.2.2.2.2.2.2.2.2.2.2.1 (by decide), rfl, rfl⟩
theorem zd_27_109_20 : zz_D zy_fill_27_109 20 (.return_) 1 21 := ⟨zq_177 zg_27_109_0.2.2.2.2.2.2.2.2.2.2.2.2.2.2.2.2.2.2.2.2, rfl⟩
-- java/util/Arrays fill ([BB)V
abbrev zr_fill_27_109_1033 : Room := { frames := 0, cells := 0, slots := 0, locals := 0 }
def zp_fill_27_109_1033 (p1 : Int) (S0 : zz_S) : zz_S → Prop := fun S => zz_G S ∧ zz_fr [] [1033] (fun _ _ => False) S0 S
theorem zb_fill_27_109_1033_5 {g : mm_G} {l : Launch} (p1 : Int) (S0 : zz_S) (n : Nat) (hn : zz_end ≤ n) (G_S0 : zz_G S0) (hp1 : (-128) ≤ p1 ∧ p1 ≤ 127) (x2 : Int) (S : zz_S) (G_S : zz_G S) (F_S : zz_fr [] [1033] (fun _ _ => False) S0 S) (i5_0 : 0 ≤ x2 ∧ x2 ≤ 512) (R : Nat) (hR : (512 - x2).toNat = R) (k5 : ∀ (x2 : Int) (S : zz_S), zz_G S → zz_fr [] [1033] (fun _ _ => False) S0 S → (0 ≤ x2 ∧ x2 ≤ 512) → (512 - x2).toNat < R → zz_E g l zy_fill_27_109 zr_fill_27_109_1033 (zz_QV n (zp_fill_27_109_1033 p1 S0)) S n 5 [some (.ref 1033), some (zi p1), some (zi x2), some (zi 512)] [] 0 0) : zz_E g l zy_fill_27_109 zr_fill_27_109_1033 (zz_QV n (zp_fill_27_109_1033 p1 S0)) S n 5 [some (.ref 1033), some (zi p1), some (zi x2), some (zi 512)] [] 0 0 := by
  refine zz_iload_n (x := x2) rfl zd_27_109_5 ?_
  refine zz_iload_n (x := 512) rfl zd_27_109_6 ?_
  refine zz_icmp_ge (by omega) (by omega) zd_27_109_7 (fun c1 => ?_) (fun c1 => ?_)
  · exact zz_vret zd_27_109_20 rfl (Nat.zero_le _) (Nat.zero_le _) ⟨_, rfl, G_S, F_S⟩
  · refine zz_aload_n (x := 1033) rfl zd_27_109_10 ?_
    refine zz_iload_n (x := x2) rfl zd_27_109_11 ?_
    refine zz_iload_n (x := p1) rfl zd_27_109_12 ?_
    refine zz_bast zd_27_109_13 zT_1033 rfl (zz_ltn hn rfl) (by decide) (by omega) (by omega) (fun S2 qS2 => ?_)
    have G_S2 := zz_G.put G_S qS2 (-128) 127 rfl (by omega)
    have F_S2 := zz_fr.putc F_S qS2 rfl
    refine zz_iinc [some (.ref 1033), some (zi p1), some (zi (x2 + 1)), some (zi 512)] zd_27_109_14 rfl rfl ?_
    refine zz_goto zd_27_109_17 ?_
    refine zz_less (ls1 := [some (.ref 1033), some (zi p1), some (zi (x2 + 1)), some (zi 512)]) ⟨rfl, ⟨rfl, ⟨rfl, ⟨rfl, trivial⟩⟩⟩⟩ ?_
    exact k5 (x2 + 1) S2 G_S2 F_S2 (by omega) (by omega)
theorem zi_fill_27_109_1033 {g : mm_G} {l : Launch} (p1 : Int) (S0 : zz_S) (n : Nat) (hn : zz_end ≤ n) (G_S0 : zz_G S0) (hp1 : (-128) ≤ p1 ∧ p1 ≤ 127) : ∀ N : Nat, (∀ (x2 : Int) (S : zz_S), zz_G S → zz_fr [] [1033] (fun _ _ => False) S0 S → (0 ≤ x2 ∧ x2 ≤ 512) → (512 - x2).toNat < N → zz_E g l zy_fill_27_109 zr_fill_27_109_1033 (zz_QV n (zp_fill_27_109_1033 p1 S0)) S n 5 [some (.ref 1033), some (zi p1), some (zi x2), some (zi 512)] [] 0 0) := by
  intro N
  induction N with
  | zero => exact fun x2 S _ _ _ h => absurd h (Nat.not_lt_zero _)
  | succ N ih =>
    exact fun x2 S a b j0 hR => zb_fill_27_109_1033_5 p1 S0 n hn G_S0 hp1 x2 S a b j0 _ rfl (fun x2 S a b j0 h => ih x2 S a b j0 (Nat.lt_of_lt_of_le h (Nat.le_of_lt_succ hR)))
theorem zc_fill_27_109_1033 {g : mm_G} {l : Launch} (p1 : Int) (S0 : zz_S) (n : Nat) (hn : zz_end ≤ n) (G_S0 : zz_G S0) (hp1 : (-128) ≤ p1 ∧ p1 ≤ 127) : mm_Met g l zy_fill_27_109 zr_fill_27_109_1033 [.ref 1033, zi p1] (zz_M S0 n) n (zz_QV n (zp_fill_27_109_1033 p1 S0)) := by
  refine zz_enter (by decide) (Nat.le_of_ble_eq_true rfl) (zz_less (ls1 := [some (.ref 1033), some (zi p1)]) ⟨rfl, ⟨rfl, trivial⟩⟩ ?_)
  have F_S0 : zz_fr [] [1033] (fun _ _ => False) S0 S0 := zz_fr.refl
  have k5 : ∀ (x2 : Int) (S : zz_S), zz_G S → zz_fr [] [1033] (fun _ _ => False) S0 S → (0 ≤ x2 ∧ x2 ≤ 512) → zz_E g l zy_fill_27_109 zr_fill_27_109_1033 (zz_QV n (zp_fill_27_109_1033 p1 S0)) S n 5 [some (.ref 1033), some (zi p1), some (zi x2), some (zi 512)] [] 0 0 := fun x2 S a b j0 => (zi_fill_27_109_1033 (g := g) (l := l) p1 S0 n hn G_S0 hp1 _) x2 S a b j0 (Nat.lt_succ_self _)
  refine zz_iconst zd_27_109_0 ?_
  refine zz_istore_n [some (.ref 1033), some (zi p1), some (zi 0)] zd_27_109_1 (by decide) rfl ?_
  refine zz_aload_n (x := 1033) rfl zd_27_109_2 ?_
  refine zz_alen zd_27_109_3 zT_1033 rfl (zz_ltn hn rfl) ?_
  refine zz_istore_n [some (.ref 1033), some (zi p1), some (zi 0), some (zi 512)] zd_27_109_4 (by decide) rfl ?_
  refine zz_less (ls1 := [some (.ref 1033), some (zi p1), some (zi 0), some (zi 512)]) ⟨rfl, ⟨rfl, ⟨rfl, ⟨rfl, trivial⟩⟩⟩⟩ ?_
  exact k5 0 S0 G_S0 F_S0 (by omega)
theorem zk_Machine_40 : mm_Sl "TensorForge$Machine" 40 2 zy_fill_27_109 := ⟨zyw_fill_27_109, mm_tb_1 1120 (by decide +kernel) rfl, mm_tb_1 1121 (by decide +kernel) rfl⟩
theorem zg_6_2_13 : zq_at zy_takeSide_6_2.2.1 13 42 ∧ zq_at zy_takeSide_6_2.2.1 14 180 ∧ zq_at zy_takeSide_6_2.2.1 15 0 ∧ zq_at zy_takeSide_6_2.2.1 16 22 ∧ zq_at zy_takeSide_6_2.2.1 17 3 ∧ zq_at zy_takeSide_6_2.2.1 18 184 ∧ zq_at zy_takeSide_6_2.2.1 19 0 ∧ zq_at zy_takeSide_6_2.2.1 20 40 := by decide +kernel
theorem zd_6_2_13 : zz_D zy_takeSide_6_2 13 (.aload_n 0) 1 14 := ⟨zq_42 zg_6_2_13.1, rfl⟩
theorem zd_6_2_14 : zz_D zy_takeSide_6_2 14 (.getfield 22) 3 17 := ⟨zq_180 zg_6_2_13.2.1 zg_6_2_13.2.2.1 zg_6_2_13.2.2.2.1 rfl, rfl⟩
theorem zd_6_2_17 : zz_D zy_takeSide_6_2 17 (.iconst 0) 1 18 := ⟨zq_3 zg_6_2_13.2.2.2.2.1, rfl⟩
theorem zd_6_2_18 : zz_D zy_takeSide_6_2 18 (.invokestatic 40) 3 21 := ⟨zq_184 zg_6_2_13.2.2.2.2.2.1 zg_6_2_13.2.2.2.2.2.2.1 zg_6_2_13.2.2.2.2.2.2.2 rfl, rfl⟩
-- java/util/Arrays fill ([BB)V
abbrev zr_fill_27_109_1034 : Room := { frames := 0, cells := 0, slots := 0, locals := 0 }
def zp_fill_27_109_1034 (p1 : Int) (S0 : zz_S) : zz_S → Prop := fun S => zz_G S ∧ zz_fr [] [1034] (fun _ _ => False) S0 S
theorem zb_fill_27_109_1034_5 {g : mm_G} {l : Launch} (p1 : Int) (S0 : zz_S) (n : Nat) (hn : zz_end ≤ n) (G_S0 : zz_G S0) (hp1 : (-128) ≤ p1 ∧ p1 ≤ 127) (x2 : Int) (S : zz_S) (G_S : zz_G S) (F_S : zz_fr [] [1034] (fun _ _ => False) S0 S) (i5_0 : 0 ≤ x2 ∧ x2 ≤ 512) (R : Nat) (hR : (512 - x2).toNat = R) (k5 : ∀ (x2 : Int) (S : zz_S), zz_G S → zz_fr [] [1034] (fun _ _ => False) S0 S → (0 ≤ x2 ∧ x2 ≤ 512) → (512 - x2).toNat < R → zz_E g l zy_fill_27_109 zr_fill_27_109_1034 (zz_QV n (zp_fill_27_109_1034 p1 S0)) S n 5 [some (.ref 1034), some (zi p1), some (zi x2), some (zi 512)] [] 0 0) : zz_E g l zy_fill_27_109 zr_fill_27_109_1034 (zz_QV n (zp_fill_27_109_1034 p1 S0)) S n 5 [some (.ref 1034), some (zi p1), some (zi x2), some (zi 512)] [] 0 0 := by
  refine zz_iload_n (x := x2) rfl zd_27_109_5 ?_
  refine zz_iload_n (x := 512) rfl zd_27_109_6 ?_
  refine zz_icmp_ge (by omega) (by omega) zd_27_109_7 (fun c1 => ?_) (fun c1 => ?_)
  · exact zz_vret zd_27_109_20 rfl (Nat.zero_le _) (Nat.zero_le _) ⟨_, rfl, G_S, F_S⟩
  · refine zz_aload_n (x := 1034) rfl zd_27_109_10 ?_
    refine zz_iload_n (x := x2) rfl zd_27_109_11 ?_
    refine zz_iload_n (x := p1) rfl zd_27_109_12 ?_
    refine zz_bast zd_27_109_13 zT_1034 rfl (zz_ltn hn rfl) (by decide) (by omega) (by omega) (fun S2 qS2 => ?_)
    have G_S2 := zz_G.put G_S qS2 (-128) 127 rfl (by omega)
    have F_S2 := zz_fr.putc F_S qS2 rfl
    refine zz_iinc [some (.ref 1034), some (zi p1), some (zi (x2 + 1)), some (zi 512)] zd_27_109_14 rfl rfl ?_
    refine zz_goto zd_27_109_17 ?_
    refine zz_less (ls1 := [some (.ref 1034), some (zi p1), some (zi (x2 + 1)), some (zi 512)]) ⟨rfl, ⟨rfl, ⟨rfl, ⟨rfl, trivial⟩⟩⟩⟩ ?_
    exact k5 (x2 + 1) S2 G_S2 F_S2 (by omega) (by omega)
theorem zi_fill_27_109_1034 {g : mm_G} {l : Launch} (p1 : Int) (S0 : zz_S) (n : Nat) (hn : zz_end ≤ n) (G_S0 : zz_G S0) (hp1 : (-128) ≤ p1 ∧ p1 ≤ 127) : ∀ N : Nat, (∀ (x2 : Int) (S : zz_S), zz_G S → zz_fr [] [1034] (fun _ _ => False) S0 S → (0 ≤ x2 ∧ x2 ≤ 512) → (512 - x2).toNat < N → zz_E g l zy_fill_27_109 zr_fill_27_109_1034 (zz_QV n (zp_fill_27_109_1034 p1 S0)) S n 5 [some (.ref 1034), some (zi p1), some (zi x2), some (zi 512)] [] 0 0) := by
  intro N
  induction N with
  | zero => exact fun x2 S _ _ _ h => absurd h (Nat.not_lt_zero _)
  | succ N ih =>
    exact fun x2 S a b j0 hR => zb_fill_27_109_1034_5 p1 S0 n hn G_S0 hp1 x2 S a b j0 _ rfl (fun x2 S a b j0 h => ih x2 S a b j0 (Nat.lt_of_lt_of_le h (Nat.le_of_lt_succ hR)))
theorem zc_fill_27_109_1034 {g : mm_G} {l : Launch} (p1 : Int) (S0 : zz_S) (n : Nat) (hn : zz_end ≤ n) (G_S0 : zz_G S0) (hp1 : (-128) ≤ p1 ∧ p1 ≤ 127) : mm_Met g l zy_fill_27_109 zr_fill_27_109_1034 [.ref 1034, zi p1] (zz_M S0 n) n (zz_QV n (zp_fill_27_109_1034 p1 S0)) := by
  refine zz_enter (by decide) (Nat.le_of_ble_eq_true rfl) (zz_less (ls1 := [some (.ref 1034), some (zi p1)]) ⟨rfl, ⟨rfl, trivial⟩⟩ ?_)
  have F_S0 : zz_fr [] [1034] (fun _ _ => False) S0 S0 := zz_fr.refl
  have k5 : ∀ (x2 : Int) (S : zz_S), zz_G S → zz_fr [] [1034] (fun _ _ => False) S0 S → (0 ≤ x2 ∧ x2 ≤ 512) → zz_E g l zy_fill_27_109 zr_fill_27_109_1034 (zz_QV n (zp_fill_27_109_1034 p1 S0)) S n 5 [some (.ref 1034), some (zi p1), some (zi x2), some (zi 512)] [] 0 0 := fun x2 S a b j0 => (zi_fill_27_109_1034 (g := g) (l := l) p1 S0 n hn G_S0 hp1 _) x2 S a b j0 (Nat.lt_succ_self _)
  refine zz_iconst zd_27_109_0 ?_
  refine zz_istore_n [some (.ref 1034), some (zi p1), some (zi 0)] zd_27_109_1 (by decide) rfl ?_
  refine zz_aload_n (x := 1034) rfl zd_27_109_2 ?_
  refine zz_alen zd_27_109_3 zT_1034 rfl (zz_ltn hn rfl) ?_
  refine zz_istore_n [some (.ref 1034), some (zi p1), some (zi 0), some (zi 512)] zd_27_109_4 (by decide) rfl ?_
  refine zz_less (ls1 := [some (.ref 1034), some (zi p1), some (zi 0), some (zi 512)]) ⟨rfl, ⟨rfl, ⟨rfl, ⟨rfl, trivial⟩⟩⟩⟩ ?_
  exact k5 0 S0 G_S0 F_S0 (by omega)
abbrev zy_fill_27_103 : mm_Y := (⟨"java/util/Arrays", "fill", "([II)V"⟩, prog_27_method_103_code, 4, none)
theorem zyw_fill_27_103 : mm_Yw zy_fill_27_103 2 := ⟨mm_tb_1 533 (by decide +kernel) rfl, mm_tb_1 17 (by decide +kernel) rfl, ⟨by decide, by decide⟩, by decide +kernel⟩
theorem zg_6_2_21 : zq_at zy_takeSide_6_2.2.1 21 42 ∧ zq_at zy_takeSide_6_2.2.1 22 180 ∧ zq_at zy_takeSide_6_2.2.1 23 0 ∧ zq_at zy_takeSide_6_2.2.1 24 25 ∧ zq_at zy_takeSide_6_2.2.1 25 3 ∧ zq_at zy_takeSide_6_2.2.1 26 184 ∧ zq_at zy_takeSide_6_2.2.1 27 0 ∧ zq_at zy_takeSide_6_2.2.1 28 46 := by decide +kernel
theorem zd_6_2_21 : zz_D zy_takeSide_6_2 21 (.aload_n 0) 1 22 := ⟨zq_42 zg_6_2_21.1, rfl⟩
theorem zd_6_2_22 : zz_D zy_takeSide_6_2 22 (.getfield 25) 3 25 := ⟨zq_180 zg_6_2_21.2.1 zg_6_2_21.2.2.1 zg_6_2_21.2.2.2.1 rfl, rfl⟩
theorem zd_6_2_25 : zz_D zy_takeSide_6_2 25 (.iconst 0) 1 26 := ⟨zq_3 zg_6_2_21.2.2.2.2.1, rfl⟩
theorem zd_6_2_26 : zz_D zy_takeSide_6_2 26 (.invokestatic 46) 3 29 := ⟨zq_184 zg_6_2_21.2.2.2.2.2.1 zg_6_2_21.2.2.2.2.2.2.1 zg_6_2_21.2.2.2.2.2.2.2 rfl, rfl⟩
theorem zg_27_103_0 : zq_at zy_fill_27_103.2.1 0 3 ∧ zq_at zy_fill_27_103.2.1 1 61 ∧ zq_at zy_fill_27_103.2.1 2 42 ∧ zq_at zy_fill_27_103.2.1 3 190 ∧ zq_at zy_fill_27_103.2.1 4 62 ∧ zq_at zy_fill_27_103.2.1 5 28 ∧ zq_at zy_fill_27_103.2.1 6 29 ∧ zq_at zy_fill_27_103.2.1 7 162 ∧ zq_at zy_fill_27_103.2.1 8 0 ∧ zq_at zy_fill_27_103.2.1 9 13 ∧ zq_at zy_fill_27_103.2.1 10 42 ∧ zq_at zy_fill_27_103.2.1 11 28 ∧ zq_at zy_fill_27_103.2.1 12 27 ∧ zq_at zy_fill_27_103.2.1 13 79 ∧ zq_at zy_fill_27_103.2.1 14 132 ∧ zq_at zy_fill_27_103.2.1 15 2 ∧ zq_at zy_fill_27_103.2.1 16 1 ∧ zq_at zy_fill_27_103.2.1 17 167 ∧ zq_at zy_fill_27_103.2.1 18 255 ∧ zq_at zy_fill_27_103.2.1 19 244 ∧ zq_at zy_fill_27_103.2.1 20 177 := by decide +kernel
theorem zd_27_103_0 : zz_D zy_fill_27_103 0 (.iconst 0) 1 1 := ⟨zq_3 zg_27_103_0.1, rfl⟩
theorem zd_27_103_1 : zz_D zy_fill_27_103 1 (.istore_n 2) 1 2 := ⟨zq_61 zg_27_103_0.2.1, rfl⟩
theorem zd_27_103_2 : zz_D zy_fill_27_103 2 (.aload_n 0) 1 3 := ⟨zq_42 zg_27_103_0.2.2.1, rfl⟩
theorem zd_27_103_3 : zz_D zy_fill_27_103 3 (.arraylength) 1 4 := ⟨zq_190 zg_27_103_0.2.2.2.1, rfl⟩
theorem zd_27_103_4 : zz_D zy_fill_27_103 4 (.istore_n 3) 1 5 := ⟨zq_62 zg_27_103_0.2.2.2.2.1, rfl⟩
theorem zd_27_103_5 : zz_D zy_fill_27_103 5 (.iload_n 2) 1 6 := ⟨zq_28 zg_27_103_0.2.2.2.2.2.1, rfl⟩
theorem zd_27_103_6 : zz_D zy_fill_27_103 6 (.iload_n 3) 1 7 := ⟨zq_29 zg_27_103_0.2.2.2.2.2.2.1, rfl⟩
theorem zd_27_103_7 : zz_B zy_fill_27_103 7 (Instr.if_icmp .ge) 20 10 := ⟨13, zq_162 zg_27_103_0.2.2.2.2.2.2.2.1 zg_27_103_0.2.2.2.2.2.2.2.2.1 zg_27_103_0.2.2.2.2.2.2.2.2.2.1 (by decide), rfl, rfl⟩
theorem zd_27_103_10 : zz_D zy_fill_27_103 10 (.aload_n 0) 1 11 := ⟨zq_42 zg_27_103_0.2.2.2.2.2.2.2.2.2.2.1, rfl⟩
theorem zd_27_103_11 : zz_D zy_fill_27_103 11 (.iload_n 2) 1 12 := ⟨zq_28 zg_27_103_0.2.2.2.2.2.2.2.2.2.2.2.1, rfl⟩
theorem zd_27_103_12 : zz_D zy_fill_27_103 12 (.iload_n 1) 1 13 := ⟨zq_27 zg_27_103_0.2.2.2.2.2.2.2.2.2.2.2.2.1, rfl⟩
theorem zd_27_103_13 : zz_D zy_fill_27_103 13 (.iastore) 1 14 := ⟨zq_79 zg_27_103_0.2.2.2.2.2.2.2.2.2.2.2.2.2.1, rfl⟩
theorem zd_27_103_14 : zz_D zy_fill_27_103 14 (.iinc 2 1) 3 17 := ⟨zq_132 zg_27_103_0.2.2.2.2.2.2.2.2.2.2.2.2.2.2.1 zg_27_103_0.2.2.2.2.2.2.2.2.2.2.2.2.2.2.2.1 zg_27_103_0.2.2.2.2.2.2.2.2.2.2.2.2.2.2.2.2.1 (by decide), rfl⟩
theorem zd_27_103_17 : zz_B zy_fill_27_103 17 Instr.goto 5 20 := ⟨(-12), zq_167 zg_27_103_0.2.2.2.2.2.2.2.2.2.2.2.2.2.2.2.2.2.1 zg_27_103_0.2.2.2.2.2.2.2.2.2.2.2.2.2.2.2.2.2.2.1 zg_27_103_0.2.2.2.2.2.2.2.2.2.2.2.2.2.2.2.2.2.2.2.1 (by decide), rfl, rfl⟩
theorem zd_27_103_20 : zz_D zy_fill_27_103 20 (.return_) 1 21 := ⟨zq_177 zg_27_103_0.2.2.2.2.2.2.2.2.2.2.2.2.2.2.2.2.2.2.2.2, rfl⟩
-- java/util/Arrays fill ([II)V
abbrev zr_fill_27_103_1035 : Room := { frames := 0, cells := 0, slots := 0, locals := 0 }
def zp_fill_27_103_1035 (p1 : Int) (S0 : zz_S) : zz_S → Prop := fun S => zz_G S ∧ zz_fr [] [1035] (fun _ _ => False) S0 S
theorem zb_fill_27_103_1035_5 {g : mm_G} {l : Launch} (p1 : Int) (S0 : zz_S) (n : Nat) (hn : zz_end ≤ n) (G_S0 : zz_G S0) (hp1 : (-2147483648) ≤ p1 ∧ p1 ≤ 2147483647) (x2 : Int) (S : zz_S) (G_S : zz_G S) (F_S : zz_fr [] [1035] (fun _ _ => False) S0 S) (i5_0 : 0 ≤ x2 ∧ x2 ≤ 256) (R : Nat) (hR : (256 - x2).toNat = R) (k5 : ∀ (x2 : Int) (S : zz_S), zz_G S → zz_fr [] [1035] (fun _ _ => False) S0 S → (0 ≤ x2 ∧ x2 ≤ 256) → (256 - x2).toNat < R → zz_E g l zy_fill_27_103 zr_fill_27_103_1035 (zz_QV n (zp_fill_27_103_1035 p1 S0)) S n 5 [some (.ref 1035), some (zi p1), some (zi x2), some (zi 256)] [] 0 0) : zz_E g l zy_fill_27_103 zr_fill_27_103_1035 (zz_QV n (zp_fill_27_103_1035 p1 S0)) S n 5 [some (.ref 1035), some (zi p1), some (zi x2), some (zi 256)] [] 0 0 := by
  refine zz_iload_n (x := x2) rfl zd_27_103_5 ?_
  refine zz_iload_n (x := 256) rfl zd_27_103_6 ?_
  refine zz_icmp_ge (by omega) (by omega) zd_27_103_7 (fun c1 => ?_) (fun c1 => ?_)
  · exact zz_vret zd_27_103_20 rfl (Nat.zero_le _) (Nat.zero_le _) ⟨_, rfl, G_S, F_S⟩
  · refine zz_aload_n (x := 1035) rfl zd_27_103_10 ?_
    refine zz_iload_n (x := x2) rfl zd_27_103_11 ?_
    refine zz_iload_n (x := p1) rfl zd_27_103_12 ?_
    refine zz_iast zd_27_103_13 zT_1035 rfl (zz_ltn hn rfl) (by decide) (by omega) (fun S2 qS2 => ?_)
    have G_S2 := zz_G.put G_S qS2 (-2147483648) 2147483647 rfl (by omega)
    have F_S2 := zz_fr.putc F_S qS2 rfl
    refine zz_iinc [some (.ref 1035), some (zi p1), some (zi (x2 + 1)), some (zi 256)] zd_27_103_14 rfl rfl ?_
    refine zz_goto zd_27_103_17 ?_
    refine zz_less (ls1 := [some (.ref 1035), some (zi p1), some (zi (x2 + 1)), some (zi 256)]) ⟨rfl, ⟨rfl, ⟨rfl, ⟨rfl, trivial⟩⟩⟩⟩ ?_
    exact k5 (x2 + 1) S2 G_S2 F_S2 (by omega) (by omega)
theorem zi_fill_27_103_1035 {g : mm_G} {l : Launch} (p1 : Int) (S0 : zz_S) (n : Nat) (hn : zz_end ≤ n) (G_S0 : zz_G S0) (hp1 : (-2147483648) ≤ p1 ∧ p1 ≤ 2147483647) : ∀ N : Nat, (∀ (x2 : Int) (S : zz_S), zz_G S → zz_fr [] [1035] (fun _ _ => False) S0 S → (0 ≤ x2 ∧ x2 ≤ 256) → (256 - x2).toNat < N → zz_E g l zy_fill_27_103 zr_fill_27_103_1035 (zz_QV n (zp_fill_27_103_1035 p1 S0)) S n 5 [some (.ref 1035), some (zi p1), some (zi x2), some (zi 256)] [] 0 0) := by
  intro N
  induction N with
  | zero => exact fun x2 S _ _ _ h => absurd h (Nat.not_lt_zero _)
  | succ N ih =>
    exact fun x2 S a b j0 hR => zb_fill_27_103_1035_5 p1 S0 n hn G_S0 hp1 x2 S a b j0 _ rfl (fun x2 S a b j0 h => ih x2 S a b j0 (Nat.lt_of_lt_of_le h (Nat.le_of_lt_succ hR)))
theorem zc_fill_27_103_1035 {g : mm_G} {l : Launch} (p1 : Int) (S0 : zz_S) (n : Nat) (hn : zz_end ≤ n) (G_S0 : zz_G S0) (hp1 : (-2147483648) ≤ p1 ∧ p1 ≤ 2147483647) : mm_Met g l zy_fill_27_103 zr_fill_27_103_1035 [.ref 1035, zi p1] (zz_M S0 n) n (zz_QV n (zp_fill_27_103_1035 p1 S0)) := by
  refine zz_enter (by decide) (Nat.le_of_ble_eq_true rfl) (zz_less (ls1 := [some (.ref 1035), some (zi p1)]) ⟨rfl, ⟨rfl, trivial⟩⟩ ?_)
  have F_S0 : zz_fr [] [1035] (fun _ _ => False) S0 S0 := zz_fr.refl
  have k5 : ∀ (x2 : Int) (S : zz_S), zz_G S → zz_fr [] [1035] (fun _ _ => False) S0 S → (0 ≤ x2 ∧ x2 ≤ 256) → zz_E g l zy_fill_27_103 zr_fill_27_103_1035 (zz_QV n (zp_fill_27_103_1035 p1 S0)) S n 5 [some (.ref 1035), some (zi p1), some (zi x2), some (zi 256)] [] 0 0 := fun x2 S a b j0 => (zi_fill_27_103_1035 (g := g) (l := l) p1 S0 n hn G_S0 hp1 _) x2 S a b j0 (Nat.lt_succ_self _)
  refine zz_iconst zd_27_103_0 ?_
  refine zz_istore_n [some (.ref 1035), some (zi p1), some (zi 0)] zd_27_103_1 (by decide) rfl ?_
  refine zz_aload_n (x := 1035) rfl zd_27_103_2 ?_
  refine zz_alen zd_27_103_3 zT_1035 rfl (zz_ltn hn rfl) ?_
  refine zz_istore_n [some (.ref 1035), some (zi p1), some (zi 0), some (zi 256)] zd_27_103_4 (by decide) rfl ?_
  refine zz_less (ls1 := [some (.ref 1035), some (zi p1), some (zi 0), some (zi 256)]) ⟨rfl, ⟨rfl, ⟨rfl, ⟨rfl, trivial⟩⟩⟩⟩ ?_
  exact k5 0 S0 G_S0 F_S0 (by omega)
theorem zk_Machine_46 : mm_Sl "TensorForge$Machine" 46 2 zy_fill_27_103 := ⟨zyw_fill_27_103, mm_tb_1 1123 (by decide +kernel) rfl, mm_tb_1 532 (by decide +kernel) rfl⟩
theorem zg_6_2_29 : zq_at zy_takeSide_6_2.2.1 29 42 ∧ zq_at zy_takeSide_6_2.2.1 30 180 ∧ zq_at zy_takeSide_6_2.2.1 31 0 ∧ zq_at zy_takeSide_6_2.2.1 32 28 ∧ zq_at zy_takeSide_6_2.2.1 33 3 ∧ zq_at zy_takeSide_6_2.2.1 34 184 ∧ zq_at zy_takeSide_6_2.2.1 35 0 ∧ zq_at zy_takeSide_6_2.2.1 36 40 := by decide +kernel
theorem zd_6_2_29 : zz_D zy_takeSide_6_2 29 (.aload_n 0) 1 30 := ⟨zq_42 zg_6_2_29.1, rfl⟩
theorem zd_6_2_30 : zz_D zy_takeSide_6_2 30 (.getfield 28) 3 33 := ⟨zq_180 zg_6_2_29.2.1 zg_6_2_29.2.2.1 zg_6_2_29.2.2.2.1 rfl, rfl⟩
theorem zd_6_2_33 : zz_D zy_takeSide_6_2 33 (.iconst 0) 1 34 := ⟨zq_3 zg_6_2_29.2.2.2.2.1, rfl⟩
theorem zd_6_2_34 : zz_D zy_takeSide_6_2 34 (.invokestatic 40) 3 37 := ⟨zq_184 zg_6_2_29.2.2.2.2.2.1 zg_6_2_29.2.2.2.2.2.2.1 zg_6_2_29.2.2.2.2.2.2.2 rfl, rfl⟩
-- java/util/Arrays fill ([BB)V
abbrev zr_fill_27_109_1036 : Room := { frames := 0, cells := 0, slots := 0, locals := 0 }
def zp_fill_27_109_1036 (p1 : Int) (S0 : zz_S) : zz_S → Prop := fun S => zz_G S ∧ zz_fr [] [1036] (fun _ _ => False) S0 S
theorem zb_fill_27_109_1036_5 {g : mm_G} {l : Launch} (p1 : Int) (S0 : zz_S) (n : Nat) (hn : zz_end ≤ n) (G_S0 : zz_G S0) (hp1 : (-128) ≤ p1 ∧ p1 ≤ 127) (x2 : Int) (S : zz_S) (G_S : zz_G S) (F_S : zz_fr [] [1036] (fun _ _ => False) S0 S) (i5_0 : 0 ≤ x2 ∧ x2 ≤ 256) (R : Nat) (hR : (256 - x2).toNat = R) (k5 : ∀ (x2 : Int) (S : zz_S), zz_G S → zz_fr [] [1036] (fun _ _ => False) S0 S → (0 ≤ x2 ∧ x2 ≤ 256) → (256 - x2).toNat < R → zz_E g l zy_fill_27_109 zr_fill_27_109_1036 (zz_QV n (zp_fill_27_109_1036 p1 S0)) S n 5 [some (.ref 1036), some (zi p1), some (zi x2), some (zi 256)] [] 0 0) : zz_E g l zy_fill_27_109 zr_fill_27_109_1036 (zz_QV n (zp_fill_27_109_1036 p1 S0)) S n 5 [some (.ref 1036), some (zi p1), some (zi x2), some (zi 256)] [] 0 0 := by
  refine zz_iload_n (x := x2) rfl zd_27_109_5 ?_
  refine zz_iload_n (x := 256) rfl zd_27_109_6 ?_
  refine zz_icmp_ge (by omega) (by omega) zd_27_109_7 (fun c1 => ?_) (fun c1 => ?_)
  · exact zz_vret zd_27_109_20 rfl (Nat.zero_le _) (Nat.zero_le _) ⟨_, rfl, G_S, F_S⟩
  · refine zz_aload_n (x := 1036) rfl zd_27_109_10 ?_
    refine zz_iload_n (x := x2) rfl zd_27_109_11 ?_
    refine zz_iload_n (x := p1) rfl zd_27_109_12 ?_
    refine zz_bast zd_27_109_13 zT_1036 rfl (zz_ltn hn rfl) (by decide) (by omega) (by omega) (fun S2 qS2 => ?_)
    have G_S2 := zz_G.put G_S qS2 (-128) 127 rfl (by omega)
    have F_S2 := zz_fr.putc F_S qS2 rfl
    refine zz_iinc [some (.ref 1036), some (zi p1), some (zi (x2 + 1)), some (zi 256)] zd_27_109_14 rfl rfl ?_
    refine zz_goto zd_27_109_17 ?_
    refine zz_less (ls1 := [some (.ref 1036), some (zi p1), some (zi (x2 + 1)), some (zi 256)]) ⟨rfl, ⟨rfl, ⟨rfl, ⟨rfl, trivial⟩⟩⟩⟩ ?_
    exact k5 (x2 + 1) S2 G_S2 F_S2 (by omega) (by omega)
theorem zi_fill_27_109_1036 {g : mm_G} {l : Launch} (p1 : Int) (S0 : zz_S) (n : Nat) (hn : zz_end ≤ n) (G_S0 : zz_G S0) (hp1 : (-128) ≤ p1 ∧ p1 ≤ 127) : ∀ N : Nat, (∀ (x2 : Int) (S : zz_S), zz_G S → zz_fr [] [1036] (fun _ _ => False) S0 S → (0 ≤ x2 ∧ x2 ≤ 256) → (256 - x2).toNat < N → zz_E g l zy_fill_27_109 zr_fill_27_109_1036 (zz_QV n (zp_fill_27_109_1036 p1 S0)) S n 5 [some (.ref 1036), some (zi p1), some (zi x2), some (zi 256)] [] 0 0) := by
  intro N
  induction N with
  | zero => exact fun x2 S _ _ _ h => absurd h (Nat.not_lt_zero _)
  | succ N ih =>
    exact fun x2 S a b j0 hR => zb_fill_27_109_1036_5 p1 S0 n hn G_S0 hp1 x2 S a b j0 _ rfl (fun x2 S a b j0 h => ih x2 S a b j0 (Nat.lt_of_lt_of_le h (Nat.le_of_lt_succ hR)))
theorem zc_fill_27_109_1036 {g : mm_G} {l : Launch} (p1 : Int) (S0 : zz_S) (n : Nat) (hn : zz_end ≤ n) (G_S0 : zz_G S0) (hp1 : (-128) ≤ p1 ∧ p1 ≤ 127) : mm_Met g l zy_fill_27_109 zr_fill_27_109_1036 [.ref 1036, zi p1] (zz_M S0 n) n (zz_QV n (zp_fill_27_109_1036 p1 S0)) := by
  refine zz_enter (by decide) (Nat.le_of_ble_eq_true rfl) (zz_less (ls1 := [some (.ref 1036), some (zi p1)]) ⟨rfl, ⟨rfl, trivial⟩⟩ ?_)
  have F_S0 : zz_fr [] [1036] (fun _ _ => False) S0 S0 := zz_fr.refl
  have k5 : ∀ (x2 : Int) (S : zz_S), zz_G S → zz_fr [] [1036] (fun _ _ => False) S0 S → (0 ≤ x2 ∧ x2 ≤ 256) → zz_E g l zy_fill_27_109 zr_fill_27_109_1036 (zz_QV n (zp_fill_27_109_1036 p1 S0)) S n 5 [some (.ref 1036), some (zi p1), some (zi x2), some (zi 256)] [] 0 0 := fun x2 S a b j0 => (zi_fill_27_109_1036 (g := g) (l := l) p1 S0 n hn G_S0 hp1 _) x2 S a b j0 (Nat.lt_succ_self _)
  refine zz_iconst zd_27_109_0 ?_
  refine zz_istore_n [some (.ref 1036), some (zi p1), some (zi 0)] zd_27_109_1 (by decide) rfl ?_
  refine zz_aload_n (x := 1036) rfl zd_27_109_2 ?_
  refine zz_alen zd_27_109_3 zT_1036 rfl (zz_ltn hn rfl) ?_
  refine zz_istore_n [some (.ref 1036), some (zi p1), some (zi 0), some (zi 256)] zd_27_109_4 (by decide) rfl ?_
  refine zz_less (ls1 := [some (.ref 1036), some (zi p1), some (zi 0), some (zi 256)]) ⟨rfl, ⟨rfl, ⟨rfl, ⟨rfl, trivial⟩⟩⟩⟩ ?_
  exact k5 0 S0 G_S0 F_S0 (by omega)
theorem zg_6_2_37 : zq_at zy_takeSide_6_2.2.1 37 177 := by decide +kernel
theorem zd_6_2_37 : zz_D zy_takeSide_6_2 37 (.return_) 1 38 := ⟨zq_177 zg_6_2_37, rfl⟩
-- TensorForge$Machine takeSide (I)V
abbrev zr_takeSide_6_2 : Room := { frames := 1, cells := 0, slots := 0, locals := 15 }
def zp_takeSide_6_2 (p0 : Int) (S0 : zz_S) : zz_S → Prop := fun S => zz_G S ∧ zz_fr [(1031, 6)] [1033, 1034, 1035, 1036] (fun _ _ => False) S0 S ∧ (S 1031 6 = p0)
theorem zc_takeSide_6_2 {g : mm_G} {l : Launch} (p0 : Int) (S0 : zz_S) (n : Nat) (hn : zz_end ≤ n) (G_S0 : zz_G S0) (hp0 : 2 ≤ p0 ∧ p0 ≤ 8) : mm_Met g l zy_takeSide_6_2 zr_takeSide_6_2 [.ref 1031, zi p0] (zz_M S0 n) n (zz_QV n (zp_takeSide_6_2 p0 S0)) := by
  refine zz_enter (by decide) (Nat.le_of_ble_eq_true rfl) (zz_less (ls1 := [some (.ref 1031), some (zi p0)]) ⟨rfl, ⟨rfl, trivial⟩⟩ ?_)
  have F_S0 : zz_fr [(1031, 6)] [1033, 1034, 1035, 1036] (fun _ _ => False) S0 S0 := zz_fr.refl
  refine zz_aload_n (x := 1031) rfl zd_6_2_0 ?_
  refine zz_iload_n (x := p0) rfl zd_6_2_1 ?_
  refine zz_puti zd_6_2_2 zf_Machine_36 zT_1031 rfl (zz_ltn hn rfl) (fun S1 qS1 => ?_)
  have G_S1 := zz_G.put G_S0 qS1 2 8 rfl (by omega)
  have F_S1 := zz_fr.puts F_S0 qS1 rfl
  refine zz_aload_n (x := 1031) rfl zd_6_2_5 ?_
  refine zz_getr (kd := 0) (z := 1033) zd_6_2_6 zf_Machine_19 zT_1031 rfl (zz_ltn hn rfl) (zz_G.eq G_S1 1031 1 1033 rfl rfl) (by decide) 1033 rfl ?_
  refine zz_iconst zd_6_2_9 ?_
  refine zz_callSV [.ref 1033, zi 0] zd_6_2_10 zk_Machine_40 rfl rfl ⟨Nat.le_of_ble_eq_true rfl, Nat.le_of_ble_eq_true rfl⟩ ⟨rfl, rfl⟩ (Nat.zero_le _) (Nat.zero_le _) (zc_fill_27_109_1033 0 S1 n hn G_S1 (by omega)) (fun S2 hP => ?_)
  obtain ⟨G_S2, fS2⟩ := hP
  have F_S2 := zz_fr.trans F_S1 fS2 rfl zz_nv
  refine zz_aload_n (x := 1031) rfl zd_6_2_13 ?_
  refine zz_getr (kd := 0) (z := 1034) zd_6_2_14 zf_Machine_22 zT_1031 rfl (zz_ltn hn rfl) (zz_G.eq G_S2 1031 2 1034 rfl rfl) (by decide) 1034 rfl ?_
  refine zz_iconst zd_6_2_17 ?_
  refine zz_callSV [.ref 1034, zi 0] zd_6_2_18 zk_Machine_40 rfl rfl ⟨Nat.le_of_ble_eq_true rfl, Nat.le_of_ble_eq_true rfl⟩ ⟨rfl, rfl⟩ (Nat.zero_le _) (Nat.zero_le _) (zc_fill_27_109_1034 0 S2 n hn G_S2 (by omega)) (fun S4 hP => ?_)
  obtain ⟨G_S4, fS4⟩ := hP
  have F_S4 := zz_fr.trans F_S2 fS4 rfl zz_nv
  refine zz_aload_n (x := 1031) rfl zd_6_2_21 ?_
  refine zz_getr (kd := 0) (z := 1035) zd_6_2_22 zf_Machine_25 zT_1031 rfl (zz_ltn hn rfl) (zz_G.eq G_S4 1031 3 1035 rfl rfl) (by decide) 1035 rfl ?_
  refine zz_iconst zd_6_2_25 ?_
  refine zz_callSV [.ref 1035, zi 0] zd_6_2_26 zk_Machine_46 rfl rfl ⟨Nat.le_of_ble_eq_true rfl, Nat.le_of_ble_eq_true rfl⟩ ⟨rfl, rfl⟩ (Nat.zero_le _) (Nat.zero_le _) (zc_fill_27_103_1035 0 S4 n hn G_S4 (by omega)) (fun S6 hP => ?_)
  obtain ⟨G_S6, fS6⟩ := hP
  have F_S6 := zz_fr.trans F_S4 fS6 rfl zz_nv
  refine zz_aload_n (x := 1031) rfl zd_6_2_29 ?_
  refine zz_getr (kd := 0) (z := 1036) zd_6_2_30 zf_Machine_28 zT_1031 rfl (zz_ltn hn rfl) (zz_G.eq G_S6 1031 4 1036 rfl rfl) (by decide) 1036 rfl ?_
  refine zz_iconst zd_6_2_33 ?_
  refine zz_callSV [.ref 1036, zi 0] zd_6_2_34 zk_Machine_40 rfl rfl ⟨Nat.le_of_ble_eq_true rfl, Nat.le_of_ble_eq_true rfl⟩ ⟨rfl, rfl⟩ (Nat.zero_le _) (Nat.zero_le _) (zc_fill_27_109_1036 0 S6 n hn G_S6 (by omega)) (fun S8 hP => ?_)
  obtain ⟨G_S8, fS8⟩ := hP
  have F_S8 := zz_fr.trans F_S6 fS8 rfl zz_nv
  have e10 : S8 1031 6 = p0 := (zz_rc fS8 rfl rfl (fun h => h) (zz_rc fS6 rfl rfl (fun h => h) (zz_rc fS4 rfl rfl (fun h => h) (zz_rc fS2 rfl rfl (fun h => h) (zz_rs qS1)))))
  exact zz_vret zd_6_2_37 rfl (Nat.zero_le _) (Nat.zero_le _) ⟨_, rfl, G_S8, F_S8, by omega⟩
theorem zk_TF_94 : mm_Vl "TensorForge" 94 3 1 zy_takeSide_6_2 := ⟨zyw_takeSide_6_2, (R_Machine, F_Machine, 14), rfl, mm_tb_1 1116 (by decide +kernel) rfl, mm_tb_1 1117 (by decide +kernel) rfl, mm_tb_1 1118 (by decide +kernel) rfl⟩
abbrev zy_dropLayers_7_4 : mm_Y := (⟨"TensorForge$Network", "dropLayers", "()V"⟩, prog_7_method_4_code, 1, none)
theorem zyw_dropLayers_7_4 : mm_Yw zy_dropLayers_7_4 0 := ⟨mm_tb_1 1033 (by decide +kernel) rfl, mm_tb_1 2 (by decide +kernel) rfl, ⟨by decide, by decide⟩, by decide +kernel⟩
theorem zg_1_2_29 : zq_at zy_side_1_2.2.1 29 42 ∧ zq_at zy_side_1_2.2.1 30 180 ∧ zq_at zy_side_1_2.2.1 31 0 ∧ zq_at zy_side_1_2.2.1 32 10 ∧ zq_at zy_side_1_2.2.1 33 182 ∧ zq_at zy_side_1_2.2.1 34 0 ∧ zq_at zy_side_1_2.2.1 35 98 := by decide +kernel
theorem zd_1_2_29 : zz_D zy_side_1_2 29 (.aload_n 0) 1 30 := ⟨zq_42 zg_1_2_29.1, rfl⟩
theorem zd_1_2_30 : zz_D zy_side_1_2 30 (.getfield 10) 3 33 := ⟨zq_180 zg_1_2_29.2.1 zg_1_2_29.2.2.1 zg_1_2_29.2.2.2.1 rfl, rfl⟩
theorem zd_1_2_33 : zz_D zy_side_1_2 33 (.invokevirtual 98) 3 36 := ⟨zq_182 zg_1_2_29.2.2.2.2.1 zg_1_2_29.2.2.2.2.2.1 zg_1_2_29.2.2.2.2.2.2 rfl, rfl⟩
theorem zg_7_4_0 : zq_at zy_dropLayers_7_4.2.1 0 42 ∧ zq_at zy_dropLayers_7_4.2.1 1 4 ∧ zq_at zy_dropLayers_7_4.2.1 2 181 ∧ zq_at zy_dropLayers_7_4.2.1 3 0 ∧ zq_at zy_dropLayers_7_4.2.1 4 16 ∧ zq_at zy_dropLayers_7_4.2.1 5 177 := by decide +kernel
theorem zd_7_4_0 : zz_D zy_dropLayers_7_4 0 (.aload_n 0) 1 1 := ⟨zq_42 zg_7_4_0.1, rfl⟩
theorem zd_7_4_1 : zz_D zy_dropLayers_7_4 1 (.iconst 1) 1 2 := ⟨zq_4 zg_7_4_0.2.1, rfl⟩
theorem zd_7_4_2 : zz_D zy_dropLayers_7_4 2 (.putfield 16) 3 5 := ⟨zq_181 zg_7_4_0.2.2.1 zg_7_4_0.2.2.2.1 zg_7_4_0.2.2.2.2.1 rfl, rfl⟩
theorem zd_7_4_5 : zz_D zy_dropLayers_7_4 5 (.return_) 1 6 := ⟨zq_177 zg_7_4_0.2.2.2.2.2, rfl⟩
-- TensorForge$Network dropLayers ()V
abbrev zr_dropLayers_7_4 : Room := { frames := 0, cells := 0, slots := 0, locals := 0 }
def zp_dropLayers_7_4 (t : Int) (S0 : zz_S) : zz_S → Prop := fun S => zz_G S ∧ zz_fr [] [] (fun a i => (a = zz_rf 3 t ∧ i = 1)) S0 S ∧ (S (zz_rf 3 t) 1 = 1) ∧ (zz_Hc S)
theorem zc_dropLayers_7_4 {g : mm_G} {l : Launch} (t : Int) (S0 : zz_S) (n : Nat) (hn : zz_end ≤ n) (G_S0 : zz_G S0) (ht : 0 ≤ t ∧ t ≤ 1) (H_S0 : zz_Hc S0) : mm_Met g l zy_dropLayers_7_4 zr_dropLayers_7_4 [.ref (zz_rf 3 t)] (zz_M S0 n) n (zz_QV n (zp_dropLayers_7_4 t S0)) := by
  refine zz_enter (by decide) (Nat.le_of_ble_eq_true rfl) (zz_less (ls1 := [some (.ref (zz_rf 3 t))]) ⟨rfl, trivial⟩ ?_)
  have F_S0 : zz_fr [] [] (fun a i => (a = zz_rf 3 t ∧ i = 1)) S0 S0 := zz_fr.refl
  have b_t := zz_rf3 (z := t) (by omega)
  refine zz_aload_n (x := zz_rf 3 t) rfl zd_7_4_0 ?_
  refine zz_iconst zd_7_4_1 ?_
  refine zz_puti zd_7_4_2 zf_Network_16 (zT_k3 (by omega)) rfl (zN_k3 hn (by omega)) (fun S1 qS1 => ?_)
  have G_S1 := zz_G.put G_S0 qS1 1 11 (zR_k3_1 (by omega)) (by omega)
  have F_S1 := zz_fr.putv F_S0 qS1 (⟨rfl, rfl⟩)
  have H_S1 : zz_Hc S1 := zz_Hc.drop qS1 (by omega) G_S0 H_S0
  have e2 : S1 (zz_rf 3 t) 1 = 1 := (zz_rs qS1)
  exact zz_vret zd_7_4_5 rfl (Nat.zero_le _) (Nat.zero_le _) ⟨_, rfl, G_S1, F_S1, by omega, H_S1⟩
theorem zk_TF_98 : mm_Vl "TensorForge" 98 1 0 zy_dropLayers_7_4 := ⟨zyw_dropLayers_7_4, (R_Network, F_Network, 2), rfl, mm_tb_1 1124 (by decide +kernel) rfl, mm_tb_1 1031 (by decide +kernel) rfl, mm_tb_1 1032 (by decide +kernel) rfl⟩
theorem zg_1_2_36 : zq_at zy_side_1_2.2.1 36 177 := by decide +kernel
theorem zd_1_2_36 : zz_D zy_side_1_2 36 (.return_) 1 37 := ⟨zq_177 zg_1_2_36, rfl⟩
-- TensorForge side (I)V
abbrev zr_side_1_2 : Room := { frames := 6, cells := 1, slots := 6, locals := 82 }
def zp_side_1_2 (p0 : Int) (S0 : zz_S) : zz_S → Prop := fun S => zz_G S ∧ zz_fr [(1031, 6)] [1033, 1034, 1035, 1036] (fun a i => (a = zz_rf 3 (S0 1000 7) ∧ i = 1)) S0 S ∧ (2 ≤ p0 ∧ p0 ≤ 8) ∧ (S 1031 6 = p0) ∧ (∀ v : zn_T, zn_C S0 (S0 1000 7) v → zn_V v → zn_C S (S0 1000 7) (zn_dp v)) ∧ (zz_Hc S)
def zx_side_1_2 (p0 : Int) (S0 : zz_S) : Nat → zz_S → Prop := fun i S => zz_G S ∧ zz_fr [(1031, 6)] [1033, 1034, 1035, 1036] (fun a i => (a = zz_rf 3 (S0 1000 7) ∧ i = 1)) S0 S ∧ (i < 4) ∧ (i = 0 ∧ (p0 < 2 ∨ 8 < p0)) ∧ (S 1031 6 = S0 1031 6) ∧ (∀ v : zn_T, zn_C S0 (S0 1000 7) v → zn_C S (S0 1000 7) v) ∧ (zz_Hc S)
theorem zc_side_1_2 {g : mm_G} {l : Launch} (p0 : Int) (S0 : zz_S) (n : Nat) (hn : zz_end ≤ n) (hfl : l.flags = flags0) (G_S0 : zz_G S0) (hp0 : (-2147483648) ≤ p0 ∧ p0 ≤ 2147483647) (H_S0 : zz_Hc S0) : mm_Met g l zy_side_1_2 zr_side_1_2 [.ref 1000, zi p0] (zz_M S0 n) n (zz_XV n (zp_side_1_2 p0 S0) (zx_side_1_2 p0 S0)) := by
  refine zz_enter (by decide) (Nat.le_of_ble_eq_true rfl) (zz_less (ls1 := [some (.ref 1000), some (zi p0)]) ⟨rfl, ⟨rfl, trivial⟩⟩ ?_)
  have F_S0 : zz_fr [(1031, 6)] [1033, 1034, 1035, 1036] (fun a i => (a = zz_rf 3 (S0 1000 7) ∧ i = 1)) S0 S0 := zz_fr.refl
  refine zz_iload_n (x := p0) rfl zd_1_2_0 ?_
  refine zz_iconst zd_1_2_1 ?_
  refine zz_icmp_lt (by omega) (by omega) zd_1_2_2 (fun c1 => ?_) (fun c1 => ?_)
  · have g2 := zz_G.r G_S0 1031 6 2 8 rfl rfl
    exact zz_throw (i := 0) hfl hn zt_1_2_11 zyw_side_1_2 zxl_TF_87_89_91 (Nat.le_of_ble_eq_true rfl) (Nat.le_of_ble_eq_true rfl) ⟨Nat.le_of_ble_eq_true rfl, Nat.le_of_ble_eq_true rfl⟩ (Or.inr ⟨_, _, rfl, G_S0, F_S0, by omega, by omega, by omega, fun v h => h, H_S0⟩)
  · refine zz_iload_n (x := p0) rfl zd_1_2_5 ?_
    refine zz_bipush (by decide) zd_1_2_6 ?_
    refine zz_icmp_le (by omega) (by omega) zd_1_2_8 (fun c3 => ?_) (fun c3 => ?_)
    · refine zz_aload_n (x := 1000) rfl zd_1_2_21 ?_
      refine zz_getr (kd := 0) (z := 1031) zd_1_2_22 zf_TF_33 zT_1000 rfl (zz_ltn hn rfl) (zz_G.eq G_S0 1000 0 1031 rfl rfl) (by decide) 1031 rfl ?_
      refine zz_iload_n (x := p0) rfl zd_1_2_25 ?_
      refine zz_callVV [zi p0] zd_1_2_26 zk_TF_94 zT_1031 (zz_ltn hn rfl) rfl rfl ⟨Nat.le_of_ble_eq_true rfl, Nat.le_of_ble_eq_true rfl⟩ ⟨rfl, rfl⟩ (Nat.zero_le _) (Nat.zero_le _) (zc_takeSide_6_2 p0 S0 n hn G_S0 (by omega)) (fun S4 hP => ?_)
      obtain ⟨G_S4, fS4, o6⟩ := hP
      have F_S4 := zz_fr.trans F_S0 fS4 rfl zz_nv
      have H_S4 : zz_Hc S4 := zz_Hc.fr (q := 0) fS4 rfl rfl G_S0 (by decide) rfl (fun b j h => h.elim) H_S0
      refine zz_aload_n (x := 1000) rfl zd_1_2_29 ?_
      have g7 := zz_G.r G_S0 1000 7 0 1 rfl rfl
      refine zz_getr (kd := 1) (z := S0 1000 7) zd_1_2_30 zf_TF_10 zT_1000 rfl (zz_ltn hn rfl) (zz_rc fS4 rfl rfl (fun h => h) rfl) (by omega) (zz_rf 3 (S0 1000 7)) rfl ?_
      refine zz_callVV [] zd_1_2_33 zk_TF_98 (zT_k3 (by omega)) (zN_k3 hn (by omega)) rfl rfl ⟨Nat.le_of_ble_eq_true rfl, Nat.le_of_ble_eq_true rfl⟩ ⟨rfl, rfl⟩ (Nat.zero_le _) (Nat.zero_le _) (zc_dropLayers_7_4 (S0 1000 7) S4 n hn G_S4 (by omega) H_S4) (fun S8 hP => ?_)
      obtain ⟨G_S8, fS8, o10, o11⟩ := hP
      have g12 := zz_G.r G_S0 1000 7 0 1 rfl rfl
      have F_S8 := zz_fr.trans F_S4 fS8 rfl (fun a i h => Or.inr (Or.inr (h)))
      have b13 := zz_rf3 (z := (S0 1000 7)) (by omega)
      have H_S8 : zz_Hc S8 := o11
      have g14 := zz_G.r G_S4 1031 6 2 8 rfl rfl
      have e15 : S8 1031 6 = S4 1031 6 := (zz_rc fS8 rfl rfl (by first | decide | omega) rfl)
      exact zz_vret zd_1_2_36 rfl (Nat.le_of_ble_eq_true rfl) (Nat.le_of_ble_eq_true rfl) (Or.inl ⟨_, rfl, G_S8, F_S8, by omega, by omega, (fun v hC hV => by have h6 := zz_rf6 (z := 12 * (S0 1000 7) + 0) (by omega); have h3 := zz_rf3 (z := S0 1000 7) (by omega); exact zn_C.dp hC hV (by omega) (fun s _ => F_S8 _ s (zz_out1 rfl (by omega)) (zz_out2 rfl (by omega)) (fun h => by omega))), H_S8⟩)
    · have g16 := zz_G.r G_S0 1031 6 2 8 rfl rfl
      exact zz_throw (i := 0) hfl hn zt_1_2_11 zyw_side_1_2 zxl_TF_87_89_91 (Nat.le_of_ble_eq_true rfl) (Nat.le_of_ble_eq_true rfl) ⟨Nat.le_of_ble_eq_true rfl, Nat.le_of_ble_eq_true rfl⟩ (Or.inr ⟨_, _, rfl, G_S0, F_S0, by omega, by omega, by omega, fun v h => h, H_S0⟩)
abbrev zy_memory_1_3 : mm_Y := (⟨"TensorForge", "memory", "(II)V"⟩, prog_1_method_3_code, 3, none)
theorem zyw_memory_1_3 : mm_Yw zy_memory_1_3 2 := ⟨mm_tb_1 1132 (by decide +kernel) rfl, mm_tb_1 1 (by decide +kernel) rfl, ⟨by decide, by decide⟩, by decide +kernel⟩
theorem zt_1_3_11 : zz_Thr zy_memory_1_3 11 101 103 105 := ⟨by decide +kernel, by decide +kernel, by decide +kernel, by decide +kernel, by decide +kernel⟩
theorem zxa_TF_105 : ∀ w ∈ Bundle.ownAtoms "TensorForge" 105 (mm_xn 1) ["java/lang/RuntimeException", "java/lang/Exception"], (goodWord w = true ∧ w ∈ tables_1) ∨ w ∈ mm_xs := by decide +kernel
theorem zxl_TF_101_103_105 : mm_Xl "TensorForge" 101 103 105 1 := ⟨mm_tb_1 1133 (by decide +kernel) rfl, mm_tb_1 1134 (by decide +kernel) rfl, mm_tb_1 18 (by decide +kernel) rfl, ⟨31, by decide +kernel⟩, zxa_TF_105⟩
abbrev zy_writeInt_6_3 : mm_Y := (⟨"TensorForge$Machine", "writeInt", "(II)V"⟩, prog_6_method_3_code, 4, none)
theorem zyw_writeInt_6_3 : mm_Yw zy_writeInt_6_3 2 := ⟨mm_tb_1 1152 (by decide +kernel) rfl, mm_tb_1 4 (by decide +kernel) rfl, ⟨by decide, by decide⟩, by decide +kernel⟩
theorem zg_1_3_0 : zq_at zy_memory_1_3.2.1 0 27 ∧ zq_at zy_memory_1_3.2.1 1 155 ∧ zq_at zy_memory_1_3.2.1 2 0 ∧ zq_at zy_memory_1_3.2.1 3 10 ∧ zq_at zy_memory_1_3.2.1 4 27 ∧ zq_at zy_memory_1_3.2.1 5 17 ∧ zq_at zy_memory_1_3.2.1 6 15 ∧ zq_at zy_memory_1_3.2.1 7 252 ∧ zq_at zy_memory_1_3.2.1 8 164 ∧ zq_at zy_memory_1_3.2.1 9 0 ∧ zq_at zy_memory_1_3.2.1 10 13 ∧ zq_at zy_memory_1_3.2.1 21 42 ∧ zq_at zy_memory_1_3.2.1 22 180 ∧ zq_at zy_memory_1_3.2.1 23 0 ∧ zq_at zy_memory_1_3.2.1 24 33 ∧ zq_at zy_memory_1_3.2.1 25 27 ∧ zq_at zy_memory_1_3.2.1 26 28 ∧ zq_at zy_memory_1_3.2.1 27 182 ∧ zq_at zy_memory_1_3.2.1 28 0 ∧ zq_at zy_memory_1_3.2.1 29 106 := by decide +kernel
theorem zd_1_3_0 : zz_D zy_memory_1_3 0 (.iload_n 1) 1 1 := ⟨zq_27 zg_1_3_0.1, rfl⟩
theorem zd_1_3_1 : zz_B zy_memory_1_3 1 (Instr.ifCond .lt) 11 4 := ⟨10, zq_155 zg_1_3_0.2.1 zg_1_3_0.2.2.1 zg_1_3_0.2.2.2.1 (by decide), rfl, rfl⟩
theorem zd_1_3_4 : zz_D zy_memory_1_3 4 (.iload_n 1) 1 5 := ⟨zq_27 zg_1_3_0.2.2.2.2.1, rfl⟩
theorem zd_1_3_5 : zz_D zy_memory_1_3 5 (.sipush 4092) 3 8 := ⟨zq_17 zg_1_3_0.2.2.2.2.2.1 zg_1_3_0.2.2.2.2.2.2.1 zg_1_3_0.2.2.2.2.2.2.2.1 (by decide), rfl⟩
theorem zd_1_3_8 : zz_B zy_memory_1_3 8 (Instr.if_icmp .le) 21 11 := ⟨13, zq_164 zg_1_3_0.2.2.2.2.2.2.2.2.1 zg_1_3_0.2.2.2.2.2.2.2.2.2.1 zg_1_3_0.2.2.2.2.2.2.2.2.2.2.1 (by decide), rfl, rfl⟩
theorem zd_1_3_21 : zz_D zy_memory_1_3 21 (.aload_n 0) 1 22 := ⟨zq_42 zg_1_3_0.2.2.2.2.2.2.2.2.2.2.2.1, rfl⟩
theorem zd_1_3_22 : zz_D zy_memory_1_3 22 (.getfield 33) 3 25 := ⟨zq_180 zg_1_3_0.2.2.2.2.2.2.2.2.2.2.2.2.1 zg_1_3_0.2.2.2.2.2.2.2.2.2.2.2.2.2.1 zg_1_3_0.2.2.2.2.2.2.2.2.2.2.2.2.2.2.1 rfl, rfl⟩
theorem zd_1_3_25 : zz_D zy_memory_1_3 25 (.iload_n 1) 1 26 := ⟨zq_27 zg_1_3_0.2.2.2.2.2.2.2.2.2.2.2.2.2.2.2.1, rfl⟩
theorem zd_1_3_26 : zz_D zy_memory_1_3 26 (.iload_n 2) 1 27 := ⟨zq_28 zg_1_3_0.2.2.2.2.2.2.2.2.2.2.2.2.2.2.2.2.1, rfl⟩
theorem zd_1_3_27 : zz_D zy_memory_1_3 27 (.invokevirtual 106) 3 30 := ⟨zq_182 zg_1_3_0.2.2.2.2.2.2.2.2.2.2.2.2.2.2.2.2.2.1 zg_1_3_0.2.2.2.2.2.2.2.2.2.2.2.2.2.2.2.2.2.2.1 zg_1_3_0.2.2.2.2.2.2.2.2.2.2.2.2.2.2.2.2.2.2.2 rfl, rfl⟩
theorem zg_6_3_0 : zq_at zy_writeInt_6_3.2.1 0 3 ∧ zq_at zy_writeInt_6_3.2.1 1 62 ∧ zq_at zy_writeInt_6_3.2.1 2 29 ∧ zq_at zy_writeInt_6_3.2.1 3 7 ∧ zq_at zy_writeInt_6_3.2.1 4 162 ∧ zq_at zy_writeInt_6_3.2.1 5 0 ∧ zq_at zy_writeInt_6_3.2.1 6 41 ∧ zq_at zy_writeInt_6_3.2.1 7 27 ∧ zq_at zy_writeInt_6_3.2.1 8 29 ∧ zq_at zy_writeInt_6_3.2.1 9 96 ∧ zq_at zy_writeInt_6_3.2.1 10 155 ∧ zq_at zy_writeInt_6_3.2.1 11 0 ∧ zq_at zy_writeInt_6_3.2.1 12 29 ∧ zq_at zy_writeInt_6_3.2.1 13 27 ∧ zq_at zy_writeInt_6_3.2.1 14 29 ∧ zq_at zy_writeInt_6_3.2.1 15 96 ∧ zq_at zy_writeInt_6_3.2.1 16 42 ∧ zq_at zy_writeInt_6_3.2.1 17 180 ∧ zq_at zy_writeInt_6_3.2.1 18 0 ∧ zq_at zy_writeInt_6_3.2.1 19 13 ∧ zq_at zy_writeInt_6_3.2.1 20 190 ∧ zq_at zy_writeInt_6_3.2.1 21 162 ∧ zq_at zy_writeInt_6_3.2.1 22 0 ∧ zq_at zy_writeInt_6_3.2.1 23 18 := by decide +kernel
theorem zd_6_3_0 : zz_D zy_writeInt_6_3 0 (.iconst 0) 1 1 := ⟨zq_3 zg_6_3_0.1, rfl⟩
theorem zd_6_3_1 : zz_D zy_writeInt_6_3 1 (.istore_n 3) 1 2 := ⟨zq_62 zg_6_3_0.2.1, rfl⟩
theorem zd_6_3_2 : zz_D zy_writeInt_6_3 2 (.iload_n 3) 1 3 := ⟨zq_29 zg_6_3_0.2.2.1, rfl⟩
theorem zd_6_3_3 : zz_D zy_writeInt_6_3 3 (.iconst 4) 1 4 := ⟨zq_7 zg_6_3_0.2.2.2.1, rfl⟩
theorem zd_6_3_4 : zz_B zy_writeInt_6_3 4 (Instr.if_icmp .ge) 45 7 := ⟨41, zq_162 zg_6_3_0.2.2.2.2.1 zg_6_3_0.2.2.2.2.2.1 zg_6_3_0.2.2.2.2.2.2.1 (by decide), rfl, rfl⟩
theorem zd_6_3_7 : zz_D zy_writeInt_6_3 7 (.iload_n 1) 1 8 := ⟨zq_27 zg_6_3_0.2.2.2.2.2.2.2.1, rfl⟩
theorem zd_6_3_8 : zz_D zy_writeInt_6_3 8 (.iload_n 3) 1 9 := ⟨zq_29 zg_6_3_0.2.2.2.2.2.2.2.2.1, rfl⟩
theorem zd_6_3_9 : zz_D zy_writeInt_6_3 9 (.iadd) 1 10 := ⟨zq_96 zg_6_3_0.2.2.2.2.2.2.2.2.2.1, rfl⟩
theorem zd_6_3_10 : zz_B zy_writeInt_6_3 10 (Instr.ifCond .lt) 39 13 := ⟨29, zq_155 zg_6_3_0.2.2.2.2.2.2.2.2.2.2.1 zg_6_3_0.2.2.2.2.2.2.2.2.2.2.2.1 zg_6_3_0.2.2.2.2.2.2.2.2.2.2.2.2.1 (by decide), rfl, rfl⟩
theorem zd_6_3_13 : zz_D zy_writeInt_6_3 13 (.iload_n 1) 1 14 := ⟨zq_27 zg_6_3_0.2.2.2.2.2.2.2.2.2.2.2.2.2.1, rfl⟩
theorem zd_6_3_14 : zz_D zy_writeInt_6_3 14 (.iload_n 3) 1 15 := ⟨zq_29 zg_6_3_0.2.2.2.2.2.2.2.2.2.2.2.2.2.2.1, rfl⟩
theorem zd_6_3_15 : zz_D zy_writeInt_6_3 15 (.iadd) 1 16 := ⟨zq_96 zg_6_3_0.2.2.2.2.2.2.2.2.2.2.2.2.2.2.2.1, rfl⟩
theorem zd_6_3_16 : zz_D zy_writeInt_6_3 16 (.aload_n 0) 1 17 := ⟨zq_42 zg_6_3_0.2.2.2.2.2.2.2.2.2.2.2.2.2.2.2.2.1, rfl⟩
theorem zd_6_3_17 : zz_D zy_writeInt_6_3 17 (.getfield 13) 3 20 := ⟨zq_180 zg_6_3_0.2.2.2.2.2.2.2.2.2.2.2.2.2.2.2.2.2.1 zg_6_3_0.2.2.2.2.2.2.2.2.2.2.2.2.2.2.2.2.2.2.1 zg_6_3_0.2.2.2.2.2.2.2.2.2.2.2.2.2.2.2.2.2.2.2.1 rfl, rfl⟩
theorem zd_6_3_20 : zz_D zy_writeInt_6_3 20 (.arraylength) 1 21 := ⟨zq_190 zg_6_3_0.2.2.2.2.2.2.2.2.2.2.2.2.2.2.2.2.2.2.2.2.1, rfl⟩
theorem zd_6_3_21 : zz_B zy_writeInt_6_3 21 (Instr.if_icmp .ge) 39 24 := ⟨18, zq_162 zg_6_3_0.2.2.2.2.2.2.2.2.2.2.2.2.2.2.2.2.2.2.2.2.2.1 zg_6_3_0.2.2.2.2.2.2.2.2.2.2.2.2.2.2.2.2.2.2.2.2.2.2.1 zg_6_3_0.2.2.2.2.2.2.2.2.2.2.2.2.2.2.2.2.2.2.2.2.2.2.2 (by decide), rfl, rfl⟩
theorem zg_6_3_24 : zq_at zy_writeInt_6_3.2.1 24 42 ∧ zq_at zy_writeInt_6_3.2.1 25 180 ∧ zq_at zy_writeInt_6_3.2.1 26 0 ∧ zq_at zy_writeInt_6_3.2.1 27 13 ∧ zq_at zy_writeInt_6_3.2.1 28 27 ∧ zq_at zy_writeInt_6_3.2.1 29 29 ∧ zq_at zy_writeInt_6_3.2.1 30 96 ∧ zq_at zy_writeInt_6_3.2.1 31 28 ∧ zq_at zy_writeInt_6_3.2.1 32 16 ∧ zq_at zy_writeInt_6_3.2.1 33 8 ∧ zq_at zy_writeInt_6_3.2.1 34 29 ∧ zq_at zy_writeInt_6_3.2.1 35 104 ∧ zq_at zy_writeInt_6_3.2.1 36 122 ∧ zq_at zy_writeInt_6_3.2.1 37 145 ∧ zq_at zy_writeInt_6_3.2.1 38 84 ∧ zq_at zy_writeInt_6_3.2.1 39 132 ∧ zq_at zy_writeInt_6_3.2.1 40 3 ∧ zq_at zy_writeInt_6_3.2.1 41 1 ∧ zq_at zy_writeInt_6_3.2.1 42 167 ∧ zq_at zy_writeInt_6_3.2.1 43 255 ∧ zq_at zy_writeInt_6_3.2.1 44 216 ∧ zq_at zy_writeInt_6_3.2.1 45 177 := by decide +kernel
theorem zd_6_3_24 : zz_D zy_writeInt_6_3 24 (.aload_n 0) 1 25 := ⟨zq_42 zg_6_3_24.1, rfl⟩
theorem zd_6_3_25 : zz_D zy_writeInt_6_3 25 (.getfield 13) 3 28 := ⟨zq_180 zg_6_3_24.2.1 zg_6_3_24.2.2.1 zg_6_3_24.2.2.2.1 rfl, rfl⟩
theorem zd_6_3_28 : zz_D zy_writeInt_6_3 28 (.iload_n 1) 1 29 := ⟨zq_27 zg_6_3_24.2.2.2.2.1, rfl⟩
theorem zd_6_3_29 : zz_D zy_writeInt_6_3 29 (.iload_n 3) 1 30 := ⟨zq_29 zg_6_3_24.2.2.2.2.2.1, rfl⟩
theorem zd_6_3_30 : zz_D zy_writeInt_6_3 30 (.iadd) 1 31 := ⟨zq_96 zg_6_3_24.2.2.2.2.2.2.1, rfl⟩
theorem zd_6_3_31 : zz_D zy_writeInt_6_3 31 (.iload_n 2) 1 32 := ⟨zq_28 zg_6_3_24.2.2.2.2.2.2.2.1, rfl⟩
theorem zd_6_3_32 : zz_D zy_writeInt_6_3 32 (.bipush 8) 2 34 := ⟨zq_16 zg_6_3_24.2.2.2.2.2.2.2.2.1 zg_6_3_24.2.2.2.2.2.2.2.2.2.1 (by decide), rfl⟩
theorem zd_6_3_34 : zz_D zy_writeInt_6_3 34 (.iload_n 3) 1 35 := ⟨zq_29 zg_6_3_24.2.2.2.2.2.2.2.2.2.2.1, rfl⟩
theorem zd_6_3_35 : zz_D zy_writeInt_6_3 35 (.imul) 1 36 := ⟨zq_104 zg_6_3_24.2.2.2.2.2.2.2.2.2.2.2.1, rfl⟩
theorem zd_6_3_36 : zz_D zy_writeInt_6_3 36 (.ishr) 1 37 := ⟨zq_122 zg_6_3_24.2.2.2.2.2.2.2.2.2.2.2.2.1, rfl⟩
theorem zd_6_3_37 : zz_D zy_writeInt_6_3 37 (.i2b) 1 38 := ⟨zq_145 zg_6_3_24.2.2.2.2.2.2.2.2.2.2.2.2.2.1, rfl⟩
theorem zd_6_3_38 : zz_D zy_writeInt_6_3 38 (.bastore) 1 39 := ⟨zq_84 zg_6_3_24.2.2.2.2.2.2.2.2.2.2.2.2.2.2.1, rfl⟩
theorem zd_6_3_39 : zz_D zy_writeInt_6_3 39 (.iinc 3 1) 3 42 := ⟨zq_132 zg_6_3_24.2.2.2.2.2.2.2.2.2.2.2.2.2.2.2.1 zg_6_3_24.2.2.2.2.2.2.2.2.2.2.2.2.2.2.2.2.1 zg_6_3_24.2.2.2.2.2.2.2.2.2.2.2.2.2.2.2.2.2.1 (by decide), rfl⟩
theorem zd_6_3_42 : zz_B zy_writeInt_6_3 42 Instr.goto 2 45 := ⟨(-40), zq_167 zg_6_3_24.2.2.2.2.2.2.2.2.2.2.2.2.2.2.2.2.2.2.1 zg_6_3_24.2.2.2.2.2.2.2.2.2.2.2.2.2.2.2.2.2.2.2.1 zg_6_3_24.2.2.2.2.2.2.2.2.2.2.2.2.2.2.2.2.2.2.2.2.1 (by decide), rfl, rfl⟩
theorem zd_6_3_45 : zz_D zy_writeInt_6_3 45 (.return_) 1 46 := ⟨zq_177 zg_6_3_24.2.2.2.2.2.2.2.2.2.2.2.2.2.2.2.2.2.2.2.2.2, rfl⟩
-- TensorForge$Machine writeInt (II)V
abbrev zr_writeInt_6_3 : Room := { frames := 0, cells := 0, slots := 0, locals := 0 }
def zp_writeInt_6_3 (p0 : Int) (p1 : Int) (S0 : zz_S) : zz_S → Prop := fun S => zz_G S ∧ zz_fr [] [1032] (fun _ _ => False) S0 S
theorem zb_writeInt_6_3_2 {g : mm_G} {l : Launch} (p0 : Int) (p1 : Int) (S0 : zz_S) (n : Nat) (hn : zz_end ≤ n) (G_S0 : zz_G S0) (hp0 : 0 ≤ p0 ∧ p0 ≤ 4092) (hp1 : (-2147483648) ≤ p1 ∧ p1 ≤ 2147483647) (x3 : Int) (S : zz_S) (G_S : zz_G S) (F_S : zz_fr [] [1032] (fun _ _ => False) S0 S) (i2_0 : 0 ≤ x3 ∧ x3 ≤ 4) (R : Nat) (hR : (4 - x3).toNat = R) (k2 : ∀ (x3 : Int) (S : zz_S), zz_G S → zz_fr [] [1032] (fun _ _ => False) S0 S → (0 ≤ x3 ∧ x3 ≤ 4) → (4 - x3).toNat < R → zz_E g l zy_writeInt_6_3 zr_writeInt_6_3 (zz_QV n (zp_writeInt_6_3 p0 p1 S0)) S n 2 [some (.ref 1031), some (zi p0), some (zi p1), some (zi x3)] [] 0 0) : zz_E g l zy_writeInt_6_3 zr_writeInt_6_3 (zz_QV n (zp_writeInt_6_3 p0 p1 S0)) S n 2 [some (.ref 1031), some (zi p0), some (zi p1), some (zi x3)] [] 0 0 := by
  refine zz_iload_n (x := x3) rfl zd_6_3_2 ?_
  refine zz_iconst zd_6_3_3 ?_
  refine zz_icmp_ge (by omega) (by omega) zd_6_3_4 (fun c1 => ?_) (fun c1 => ?_)
  · exact zz_vret zd_6_3_45 rfl (Nat.zero_le _) (Nat.zero_le _) ⟨_, rfl, G_S, F_S⟩
  · refine zz_iload_n (x := p0) rfl zd_6_3_7 ?_
    refine zz_iload_n (x := x3) rfl zd_6_3_8 ?_
    refine zz_iadd zd_6_3_9 ?_
    refine zz_if_lt (by omega) zd_6_3_10 (fun c2 => ?_) (fun c2 => ?_)
    · exfalso; omega
    · refine zz_iload_n (x := p0) rfl zd_6_3_13 ?_
      refine zz_iload_n (x := x3) rfl zd_6_3_14 ?_
      refine zz_iadd zd_6_3_15 ?_
      refine zz_aload_n (x := 1031) rfl zd_6_3_16 ?_
      refine zz_getr (kd := 0) (z := 1032) zd_6_3_17 zf_Machine_13 zT_1031 rfl (zz_ltn hn rfl) (zz_G.eq G_S 1031 0 1032 rfl rfl) (by decide) 1032 rfl ?_
      refine zz_alen zd_6_3_20 zT_1032 rfl (zz_ltn hn rfl) ?_
      refine zz_icmp_ge (by omega) (by omega) zd_6_3_21 (fun c3 => ?_) (fun c3 => ?_)
      · exfalso; omega
      · refine zz_aload_n (x := 1031) rfl zd_6_3_24 ?_
        refine zz_getr (kd := 0) (z := 1032) zd_6_3_25 zf_Machine_13 zT_1031 rfl (zz_ltn hn rfl) (zz_G.eq G_S 1031 0 1032 rfl rfl) (by decide) 1032 rfl ?_
        refine zz_iload_n (x := p0) rfl zd_6_3_28 ?_
        refine zz_iload_n (x := x3) rfl zd_6_3_29 ?_
        refine zz_iadd zd_6_3_30 ?_
        refine zz_iload_n (x := p1) rfl zd_6_3_31 ?_
        refine zz_bipush (by decide) zd_6_3_32 ?_
        refine zz_iload_n (x := x3) rfl zd_6_3_34 ?_
        refine zz_imul zd_6_3_35 ?_
        refine zz_ishr zd_6_3_36 (fun v4 hv4 ev4 => ?_)
        refine zz_i2b zd_6_3_37 (fun v5 hv5 => ?_)
        refine zz_bast zd_6_3_38 zT_1032 rfl (zz_ltn hn rfl) (by decide) (by omega) (by omega) (fun S6 qS6 => ?_)
        have G_S6 := zz_G.put G_S qS6 (-128) 127 rfl (by omega)
        have F_S6 := zz_fr.putc F_S qS6 rfl
        refine zz_iinc [some (.ref 1031), some (zi p0), some (zi p1), some (zi (x3 + 1))] zd_6_3_39 rfl rfl ?_
        refine zz_goto zd_6_3_42 ?_
        refine zz_less (ls1 := [some (.ref 1031), some (zi p0), some (zi p1), some (zi (x3 + 1))]) ⟨rfl, ⟨rfl, ⟨rfl, ⟨rfl, trivial⟩⟩⟩⟩ ?_
        exact k2 (x3 + 1) S6 G_S6 F_S6 (by omega) (by omega)
theorem zi_writeInt_6_3 {g : mm_G} {l : Launch} (p0 : Int) (p1 : Int) (S0 : zz_S) (n : Nat) (hn : zz_end ≤ n) (G_S0 : zz_G S0) (hp0 : 0 ≤ p0 ∧ p0 ≤ 4092) (hp1 : (-2147483648) ≤ p1 ∧ p1 ≤ 2147483647) : ∀ N : Nat, (∀ (x3 : Int) (S : zz_S), zz_G S → zz_fr [] [1032] (fun _ _ => False) S0 S → (0 ≤ x3 ∧ x3 ≤ 4) → (4 - x3).toNat < N → zz_E g l zy_writeInt_6_3 zr_writeInt_6_3 (zz_QV n (zp_writeInt_6_3 p0 p1 S0)) S n 2 [some (.ref 1031), some (zi p0), some (zi p1), some (zi x3)] [] 0 0) := by
  intro N
  induction N with
  | zero => exact fun x3 S _ _ _ h => absurd h (Nat.not_lt_zero _)
  | succ N ih =>
    exact fun x3 S a b j0 hR => zb_writeInt_6_3_2 p0 p1 S0 n hn G_S0 hp0 hp1 x3 S a b j0 _ rfl (fun x3 S a b j0 h => ih x3 S a b j0 (Nat.lt_of_lt_of_le h (Nat.le_of_lt_succ hR)))
theorem zc_writeInt_6_3 {g : mm_G} {l : Launch} (p0 : Int) (p1 : Int) (S0 : zz_S) (n : Nat) (hn : zz_end ≤ n) (G_S0 : zz_G S0) (hp0 : 0 ≤ p0 ∧ p0 ≤ 4092) (hp1 : (-2147483648) ≤ p1 ∧ p1 ≤ 2147483647) : mm_Met g l zy_writeInt_6_3 zr_writeInt_6_3 [.ref 1031, zi p0, zi p1] (zz_M S0 n) n (zz_QV n (zp_writeInt_6_3 p0 p1 S0)) := by
  refine zz_enter (by decide) (Nat.le_of_ble_eq_true rfl) (zz_less (ls1 := [some (.ref 1031), some (zi p0), some (zi p1)]) ⟨rfl, ⟨rfl, ⟨rfl, trivial⟩⟩⟩ ?_)
  have F_S0 : zz_fr [] [1032] (fun _ _ => False) S0 S0 := zz_fr.refl
  have k2 : ∀ (x3 : Int) (S : zz_S), zz_G S → zz_fr [] [1032] (fun _ _ => False) S0 S → (0 ≤ x3 ∧ x3 ≤ 4) → zz_E g l zy_writeInt_6_3 zr_writeInt_6_3 (zz_QV n (zp_writeInt_6_3 p0 p1 S0)) S n 2 [some (.ref 1031), some (zi p0), some (zi p1), some (zi x3)] [] 0 0 := fun x3 S a b j0 => (zi_writeInt_6_3 (g := g) (l := l) p0 p1 S0 n hn G_S0 hp0 hp1 _) x3 S a b j0 (Nat.lt_succ_self _)
  refine zz_iconst zd_6_3_0 ?_
  refine zz_istore_n [some (.ref 1031), some (zi p0), some (zi p1), some (zi 0)] zd_6_3_1 (by decide) rfl ?_
  refine zz_less (ls1 := [some (.ref 1031), some (zi p0), some (zi p1), some (zi 0)]) ⟨rfl, ⟨rfl, ⟨rfl, ⟨rfl, trivial⟩⟩⟩⟩ ?_
  exact k2 0 S0 G_S0 F_S0 (by omega)
theorem zk_TF_106 : mm_Vl "TensorForge" 106 3 2 zy_writeInt_6_3 := ⟨zyw_writeInt_6_3, (R_Machine, F_Machine, 14), rfl, mm_tb_1 1149 (by decide +kernel) rfl, mm_tb_1 1150 (by decide +kernel) rfl, mm_tb_1 1151 (by decide +kernel) rfl⟩
theorem zg_1_3_30 : zq_at zy_memory_1_3.2.1 30 177 := by decide +kernel
theorem zd_1_3_30 : zz_D zy_memory_1_3 30 (.return_) 1 31 := ⟨zq_177 zg_1_3_30, rfl⟩
-- TensorForge memory (II)V
abbrev zr_memory_1_3 : Room := { frames := 6, cells := 1, slots := 6, locals := 82 }
def zp_memory_1_3 (p0 : Int) (p1 : Int) (S0 : zz_S) : zz_S → Prop := fun S => zz_G S ∧ zz_fr [] [1032] (fun _ _ => False) S0 S ∧ (0 ≤ p0 ∧ p0 ≤ 4092)
def zx_memory_1_3 (p0 : Int) (p1 : Int) (S0 : zz_S) : Nat → zz_S → Prop := fun i S => zz_G S ∧ zz_fr [] [1032] (fun _ _ => False) S0 S ∧ (i < 4) ∧ (i = 1 ∧ (p0 < 0 ∨ 4092 < p0))
theorem zc_memory_1_3 {g : mm_G} {l : Launch} (p0 : Int) (p1 : Int) (S0 : zz_S) (n : Nat) (hn : zz_end ≤ n) (hfl : l.flags = flags0) (G_S0 : zz_G S0) (hp0 : (-2147483648) ≤ p0 ∧ p0 ≤ 2147483647) (hp1 : (-2147483648) ≤ p1 ∧ p1 ≤ 2147483647) : mm_Met g l zy_memory_1_3 zr_memory_1_3 [.ref 1000, zi p0, zi p1] (zz_M S0 n) n (zz_XV n (zp_memory_1_3 p0 p1 S0) (zx_memory_1_3 p0 p1 S0)) := by
  refine zz_enter (by decide) (Nat.le_of_ble_eq_true rfl) (zz_less (ls1 := [some (.ref 1000), some (zi p0), some (zi p1)]) ⟨rfl, ⟨rfl, ⟨rfl, trivial⟩⟩⟩ ?_)
  have F_S0 : zz_fr [] [1032] (fun _ _ => False) S0 S0 := zz_fr.refl
  refine zz_iload_n (x := p0) rfl zd_1_3_0 ?_
  refine zz_if_lt (by omega) zd_1_3_1 (fun c1 => ?_) (fun c1 => ?_)
  · exact zz_throw (i := 1) hfl hn zt_1_3_11 zyw_memory_1_3 zxl_TF_101_103_105 (Nat.le_of_ble_eq_true rfl) (Nat.le_of_ble_eq_true rfl) ⟨Nat.le_of_ble_eq_true rfl, Nat.le_of_ble_eq_true rfl⟩ (Or.inr ⟨_, _, rfl, G_S0, F_S0, by omega, by omega⟩)
  · refine zz_iload_n (x := p0) rfl zd_1_3_4 ?_
    refine zz_sipush (by decide) zd_1_3_5 ?_
    refine zz_icmp_le (by omega) (by omega) zd_1_3_8 (fun c2 => ?_) (fun c2 => ?_)
    · refine zz_aload_n (x := 1000) rfl zd_1_3_21 ?_
      refine zz_getr (kd := 0) (z := 1031) zd_1_3_22 zf_TF_33 zT_1000 rfl (zz_ltn hn rfl) (zz_G.eq G_S0 1000 0 1031 rfl rfl) (by decide) 1031 rfl ?_
      refine zz_iload_n (x := p0) rfl zd_1_3_25 ?_
      refine zz_iload_n (x := p1) rfl zd_1_3_26 ?_
      refine zz_callVV [zi p0, zi p1] zd_1_3_27 zk_TF_106 zT_1031 (zz_ltn hn rfl) rfl rfl ⟨Nat.le_of_ble_eq_true rfl, Nat.le_of_ble_eq_true rfl⟩ ⟨rfl, rfl⟩ (Nat.zero_le _) (Nat.zero_le _) (zc_writeInt_6_3 p0 p1 S0 n hn G_S0 (by omega) (by omega)) (fun S3 hP => ?_)
      obtain ⟨G_S3, fS3⟩ := hP
      have F_S3 := zz_fr.trans F_S0 fS3 rfl zz_nv
      exact zz_vret zd_1_3_30 rfl (Nat.le_of_ble_eq_true rfl) (Nat.le_of_ble_eq_true rfl) (Or.inl ⟨_, rfl, G_S3, F_S3, by omega⟩)
    · exact zz_throw (i := 1) hfl hn zt_1_3_11 zyw_memory_1_3 zxl_TF_101_103_105 (Nat.le_of_ble_eq_true rfl) (Nat.le_of_ble_eq_true rfl) ⟨Nat.le_of_ble_eq_true rfl, Nat.le_of_ble_eq_true rfl⟩ (Or.inr ⟨_, _, rfl, G_S0, F_S0, by omega, by omega⟩)
abbrev zy_look_1_4 : mm_Y := (⟨"TensorForge", "look", "(II)I"⟩, prog_1_method_4_code, 3, (some .int))
theorem zyw_look_1_4 : mm_Yw zy_look_1_4 2 := ⟨mm_tb_1 1159 (by decide +kernel) rfl, mm_tb_1 1 (by decide +kernel) rfl, ⟨by decide, by decide⟩, by decide +kernel⟩
theorem zt_1_4_9 : zz_Thr zy_look_1_4 9 87 112 91 := ⟨by decide +kernel, by decide +kernel, by decide +kernel, by decide +kernel, by decide +kernel⟩
theorem zxl_TF_87_112_91 : mm_Xl "TensorForge" 87 112 91 0 := ⟨mm_tb_1 1048 (by decide +kernel) rfl, mm_tb_1 1049 (by decide +kernel) rfl, mm_tb_1 16 (by decide +kernel) rfl, ⟨32, by decide +kernel⟩, zxa_TF_91⟩
theorem zt_1_4_32 : zz_Thr zy_look_1_4 32 101 118 105 := ⟨by decide +kernel, by decide +kernel, by decide +kernel, by decide +kernel, by decide +kernel⟩
theorem zxl_TF_101_118_105 : mm_Xl "TensorForge" 101 118 105 1 := ⟨mm_tb_1 1133 (by decide +kernel) rfl, mm_tb_1 1134 (by decide +kernel) rfl, mm_tb_1 18 (by decide +kernel) rfl, ⟨33, by decide +kernel⟩, zxa_TF_105⟩
theorem zs_TF_114 : Cond.fieldLink "TensorForge" 114 "TensorForge$Reaches" "SIZES" "[I" ∈ mm_tb := mm_tb_1 1161 (by decide +kernel) rfl
abbrev zy_valueAt_6_5 : mm_Y := (⟨"TensorForge$Machine", "valueAt", "(II)I"⟩, prog_6_method_5_code, 3, (some .int))
theorem zyw_valueAt_6_5 : mm_Yw zy_valueAt_6_5 2 := ⟨mm_tb_1 1166 (by decide +kernel) rfl, mm_tb_1 4 (by decide +kernel) rfl, ⟨by decide, by decide⟩, by decide +kernel⟩
theorem zd_6_5_7 : zz_W zy_valueAt_6_5 7 133 0 4 #[33, 53, 73, 93, 113] := ⟨33, by decide +kernel⟩
theorem zg_1_4_0 : zq_at zy_look_1_4.2.1 0 27 ∧ zq_at zy_look_1_4.2.1 1 155 ∧ zq_at zy_look_1_4.2.1 2 0 ∧ zq_at zy_look_1_4.2.1 3 8 ∧ zq_at zy_look_1_4.2.1 4 27 ∧ zq_at zy_look_1_4.2.1 5 8 ∧ zq_at zy_look_1_4.2.1 6 161 ∧ zq_at zy_look_1_4.2.1 7 0 ∧ zq_at zy_look_1_4.2.1 8 13 ∧ zq_at zy_look_1_4.2.1 19 28 ∧ zq_at zy_look_1_4.2.1 20 155 ∧ zq_at zy_look_1_4.2.1 21 0 ∧ zq_at zy_look_1_4.2.1 22 12 ∧ zq_at zy_look_1_4.2.1 23 28 ∧ zq_at zy_look_1_4.2.1 24 178 ∧ zq_at zy_look_1_4.2.1 25 0 ∧ zq_at zy_look_1_4.2.1 26 114 ∧ zq_at zy_look_1_4.2.1 27 27 ∧ zq_at zy_look_1_4.2.1 28 46 ∧ zq_at zy_look_1_4.2.1 29 161 ∧ zq_at zy_look_1_4.2.1 30 0 ∧ zq_at zy_look_1_4.2.1 31 13 ∧ zq_at zy_look_1_4.2.1 42 42 := by decide +kernel
theorem zd_1_4_0 : zz_D zy_look_1_4 0 (.iload_n 1) 1 1 := ⟨zq_27 zg_1_4_0.1, rfl⟩
theorem zd_1_4_1 : zz_B zy_look_1_4 1 (Instr.ifCond .lt) 9 4 := ⟨8, zq_155 zg_1_4_0.2.1 zg_1_4_0.2.2.1 zg_1_4_0.2.2.2.1 (by decide), rfl, rfl⟩
theorem zd_1_4_4 : zz_D zy_look_1_4 4 (.iload_n 1) 1 5 := ⟨zq_27 zg_1_4_0.2.2.2.2.1, rfl⟩
theorem zd_1_4_5 : zz_D zy_look_1_4 5 (.iconst 5) 1 6 := ⟨zq_8 zg_1_4_0.2.2.2.2.2.1, rfl⟩
theorem zd_1_4_6 : zz_B zy_look_1_4 6 (Instr.if_icmp .lt) 19 9 := ⟨13, zq_161 zg_1_4_0.2.2.2.2.2.2.1 zg_1_4_0.2.2.2.2.2.2.2.1 zg_1_4_0.2.2.2.2.2.2.2.2.1 (by decide), rfl, rfl⟩
theorem zd_1_4_19 : zz_D zy_look_1_4 19 (.iload_n 2) 1 20 := ⟨zq_28 zg_1_4_0.2.2.2.2.2.2.2.2.2.1, rfl⟩
theorem zd_1_4_20 : zz_B zy_look_1_4 20 (Instr.ifCond .lt) 32 23 := ⟨12, zq_155 zg_1_4_0.2.2.2.2.2.2.2.2.2.2.1 zg_1_4_0.2.2.2.2.2.2.2.2.2.2.2.1 zg_1_4_0.2.2.2.2.2.2.2.2.2.2.2.2.1 (by decide), rfl, rfl⟩
theorem zd_1_4_23 : zz_D zy_look_1_4 23 (.iload_n 2) 1 24 := ⟨zq_28 zg_1_4_0.2.2.2.2.2.2.2.2.2.2.2.2.2.1, rfl⟩
theorem zd_1_4_24 : zz_D zy_look_1_4 24 (.getstatic 114) 3 27 := ⟨zq_178 zg_1_4_0.2.2.2.2.2.2.2.2.2.2.2.2.2.2.1 zg_1_4_0.2.2.2.2.2.2.2.2.2.2.2.2.2.2.2.1 zg_1_4_0.2.2.2.2.2.2.2.2.2.2.2.2.2.2.2.2.1 rfl, rfl⟩
theorem zd_1_4_27 : zz_D zy_look_1_4 27 (.iload_n 1) 1 28 := ⟨zq_27 zg_1_4_0.2.2.2.2.2.2.2.2.2.2.2.2.2.2.2.2.2.1, rfl⟩
theorem zd_1_4_28 : zz_D zy_look_1_4 28 (.iaload) 1 29 := ⟨zq_46 zg_1_4_0.2.2.2.2.2.2.2.2.2.2.2.2.2.2.2.2.2.2.1, rfl⟩
theorem zd_1_4_29 : zz_B zy_look_1_4 29 (Instr.if_icmp .lt) 42 32 := ⟨13, zq_161 zg_1_4_0.2.2.2.2.2.2.2.2.2.2.2.2.2.2.2.2.2.2.2.1 zg_1_4_0.2.2.2.2.2.2.2.2.2.2.2.2.2.2.2.2.2.2.2.2.1 zg_1_4_0.2.2.2.2.2.2.2.2.2.2.2.2.2.2.2.2.2.2.2.2.2.1 (by decide), rfl, rfl⟩
theorem zd_1_4_42 : zz_D zy_look_1_4 42 (.aload_n 0) 1 43 := ⟨zq_42 zg_1_4_0.2.2.2.2.2.2.2.2.2.2.2.2.2.2.2.2.2.2.2.2.2.2, rfl⟩
theorem zg_1_4_43 : zq_at zy_look_1_4.2.1 43 180 ∧ zq_at zy_look_1_4.2.1 44 0 ∧ zq_at zy_look_1_4.2.1 45 33 ∧ zq_at zy_look_1_4.2.1 46 27 ∧ zq_at zy_look_1_4.2.1 47 28 ∧ zq_at zy_look_1_4.2.1 48 182 ∧ zq_at zy_look_1_4.2.1 49 0 ∧ zq_at zy_look_1_4.2.1 50 120 := by decide +kernel
theorem zd_1_4_43 : zz_D zy_look_1_4 43 (.getfield 33) 3 46 := ⟨zq_180 zg_1_4_43.1 zg_1_4_43.2.1 zg_1_4_43.2.2.1 rfl, rfl⟩
theorem zd_1_4_46 : zz_D zy_look_1_4 46 (.iload_n 1) 1 47 := ⟨zq_27 zg_1_4_43.2.2.2.1, rfl⟩
theorem zd_1_4_47 : zz_D zy_look_1_4 47 (.iload_n 2) 1 48 := ⟨zq_28 zg_1_4_43.2.2.2.2.1, rfl⟩
theorem zd_1_4_48 : zz_D zy_look_1_4 48 (.invokevirtual 120) 3 51 := ⟨zq_182 zg_1_4_43.2.2.2.2.2.1 zg_1_4_43.2.2.2.2.2.2.1 zg_1_4_43.2.2.2.2.2.2.2 rfl, rfl⟩
theorem zg_6_5_0 : zq_at zy_valueAt_6_5.2.1 0 28 ∧ zq_at zy_valueAt_6_5.2.1 1 156 ∧ zq_at zy_valueAt_6_5.2.1 2 0 ∧ zq_at zy_valueAt_6_5.2.1 3 5 ∧ zq_at zy_valueAt_6_5.2.1 6 27 ∧ zq_at zy_valueAt_6_5.2.1 40 28 ∧ zq_at zy_valueAt_6_5.2.1 41 42 ∧ zq_at zy_valueAt_6_5.2.1 42 180 ∧ zq_at zy_valueAt_6_5.2.1 43 0 ∧ zq_at zy_valueAt_6_5.2.1 44 13 ∧ zq_at zy_valueAt_6_5.2.1 45 190 ∧ zq_at zy_valueAt_6_5.2.1 46 162 ∧ zq_at zy_valueAt_6_5.2.1 47 0 ∧ zq_at zy_valueAt_6_5.2.1 48 12 ∧ zq_at zy_valueAt_6_5.2.1 58 3 ∧ zq_at zy_valueAt_6_5.2.1 59 172 ∧ zq_at zy_valueAt_6_5.2.1 49 42 ∧ zq_at zy_valueAt_6_5.2.1 50 180 ∧ zq_at zy_valueAt_6_5.2.1 51 0 ∧ zq_at zy_valueAt_6_5.2.1 52 13 ∧ zq_at zy_valueAt_6_5.2.1 53 28 ∧ zq_at zy_valueAt_6_5.2.1 54 51 := by decide +kernel
theorem zd_6_5_0 : zz_D zy_valueAt_6_5 0 (.iload_n 2) 1 1 := ⟨zq_28 zg_6_5_0.1, rfl⟩
theorem zd_6_5_1 : zz_B zy_valueAt_6_5 1 (Instr.ifCond .ge) 6 4 := ⟨5, zq_156 zg_6_5_0.2.1 zg_6_5_0.2.2.1 zg_6_5_0.2.2.2.1 (by decide), rfl, rfl⟩
theorem zd_6_5_6 : zz_D zy_valueAt_6_5 6 (.iload_n 1) 1 7 := ⟨zq_27 zg_6_5_0.2.2.2.2.1, rfl⟩
theorem zd_6_5_40 : zz_D zy_valueAt_6_5 40 (.iload_n 2) 1 41 := ⟨zq_28 zg_6_5_0.2.2.2.2.2.1, rfl⟩
theorem zd_6_5_41 : zz_D zy_valueAt_6_5 41 (.aload_n 0) 1 42 := ⟨zq_42 zg_6_5_0.2.2.2.2.2.2.1, rfl⟩
theorem zd_6_5_42 : zz_D zy_valueAt_6_5 42 (.getfield 13) 3 45 := ⟨zq_180 zg_6_5_0.2.2.2.2.2.2.2.1 zg_6_5_0.2.2.2.2.2.2.2.2.1 zg_6_5_0.2.2.2.2.2.2.2.2.2.1 rfl, rfl⟩
theorem zd_6_5_45 : zz_D zy_valueAt_6_5 45 (.arraylength) 1 46 := ⟨zq_190 zg_6_5_0.2.2.2.2.2.2.2.2.2.2.1, rfl⟩
theorem zd_6_5_46 : zz_B zy_valueAt_6_5 46 (Instr.if_icmp .ge) 58 49 := ⟨12, zq_162 zg_6_5_0.2.2.2.2.2.2.2.2.2.2.2.1 zg_6_5_0.2.2.2.2.2.2.2.2.2.2.2.2.1 zg_6_5_0.2.2.2.2.2.2.2.2.2.2.2.2.2.1 (by decide), rfl, rfl⟩
theorem zd_6_5_58 : zz_D zy_valueAt_6_5 58 (.iconst 0) 1 59 := ⟨zq_3 zg_6_5_0.2.2.2.2.2.2.2.2.2.2.2.2.2.2.1, rfl⟩
theorem zd_6_5_59 : zz_D zy_valueAt_6_5 59 (.ireturn) 1 60 := ⟨zq_172 zg_6_5_0.2.2.2.2.2.2.2.2.2.2.2.2.2.2.2.1, rfl⟩
theorem zd_6_5_49 : zz_D zy_valueAt_6_5 49 (.aload_n 0) 1 50 := ⟨zq_42 zg_6_5_0.2.2.2.2.2.2.2.2.2.2.2.2.2.2.2.2.1, rfl⟩
theorem zd_6_5_50 : zz_D zy_valueAt_6_5 50 (.getfield 13) 3 53 := ⟨zq_180 zg_6_5_0.2.2.2.2.2.2.2.2.2.2.2.2.2.2.2.2.2.1 zg_6_5_0.2.2.2.2.2.2.2.2.2.2.2.2.2.2.2.2.2.2.1 zg_6_5_0.2.2.2.2.2.2.2.2.2.2.2.2.2.2.2.2.2.2.2.1 rfl, rfl⟩
theorem zd_6_5_53 : zz_D zy_valueAt_6_5 53 (.iload_n 2) 1 54 := ⟨zq_28 zg_6_5_0.2.2.2.2.2.2.2.2.2.2.2.2.2.2.2.2.2.2.2.2.1, rfl⟩
theorem zd_6_5_54 : zz_D zy_valueAt_6_5 54 (.baload) 1 55 := ⟨zq_51 zg_6_5_0.2.2.2.2.2.2.2.2.2.2.2.2.2.2.2.2.2.2.2.2.2, rfl⟩
theorem zg_6_5_55 : zq_at zy_valueAt_6_5.2.1 55 167 ∧ zq_at zy_valueAt_6_5.2.1 56 0 ∧ zq_at zy_valueAt_6_5.2.1 57 4 ∧ zq_at zy_valueAt_6_5.2.1 60 28 ∧ zq_at zy_valueAt_6_5.2.1 61 42 ∧ zq_at zy_valueAt_6_5.2.1 62 180 ∧ zq_at zy_valueAt_6_5.2.1 63 0 ∧ zq_at zy_valueAt_6_5.2.1 64 19 ∧ zq_at zy_valueAt_6_5.2.1 65 190 ∧ zq_at zy_valueAt_6_5.2.1 66 162 ∧ zq_at zy_valueAt_6_5.2.1 67 0 ∧ zq_at zy_valueAt_6_5.2.1 68 12 ∧ zq_at zy_valueAt_6_5.2.1 78 3 ∧ zq_at zy_valueAt_6_5.2.1 79 172 ∧ zq_at zy_valueAt_6_5.2.1 69 42 ∧ zq_at zy_valueAt_6_5.2.1 70 180 ∧ zq_at zy_valueAt_6_5.2.1 71 0 ∧ zq_at zy_valueAt_6_5.2.1 72 19 ∧ zq_at zy_valueAt_6_5.2.1 73 28 ∧ zq_at zy_valueAt_6_5.2.1 74 51 ∧ zq_at zy_valueAt_6_5.2.1 75 167 ∧ zq_at zy_valueAt_6_5.2.1 76 0 ∧ zq_at zy_valueAt_6_5.2.1 77 4 ∧ zq_at zy_valueAt_6_5.2.1 80 28 := by decide +kernel
theorem zd_6_5_55 : zz_B zy_valueAt_6_5 55 Instr.goto 59 58 := ⟨4, zq_167 zg_6_5_55.1 zg_6_5_55.2.1 zg_6_5_55.2.2.1 (by decide), rfl, rfl⟩
theorem zd_6_5_60 : zz_D zy_valueAt_6_5 60 (.iload_n 2) 1 61 := ⟨zq_28 zg_6_5_55.2.2.2.1, rfl⟩
theorem zd_6_5_61 : zz_D zy_valueAt_6_5 61 (.aload_n 0) 1 62 := ⟨zq_42 zg_6_5_55.2.2.2.2.1, rfl⟩
theorem zd_6_5_62 : zz_D zy_valueAt_6_5 62 (.getfield 19) 3 65 := ⟨zq_180 zg_6_5_55.2.2.2.2.2.1 zg_6_5_55.2.2.2.2.2.2.1 zg_6_5_55.2.2.2.2.2.2.2.1 rfl, rfl⟩
theorem zd_6_5_65 : zz_D zy_valueAt_6_5 65 (.arraylength) 1 66 := ⟨zq_190 zg_6_5_55.2.2.2.2.2.2.2.2.1, rfl⟩
theorem zd_6_5_66 : zz_B zy_valueAt_6_5 66 (Instr.if_icmp .ge) 78 69 := ⟨12, zq_162 zg_6_5_55.2.2.2.2.2.2.2.2.2.1 zg_6_5_55.2.2.2.2.2.2.2.2.2.2.1 zg_6_5_55.2.2.2.2.2.2.2.2.2.2.2.1 (by decide), rfl, rfl⟩
theorem zd_6_5_78 : zz_D zy_valueAt_6_5 78 (.iconst 0) 1 79 := ⟨zq_3 zg_6_5_55.2.2.2.2.2.2.2.2.2.2.2.2.1, rfl⟩
theorem zd_6_5_79 : zz_D zy_valueAt_6_5 79 (.ireturn) 1 80 := ⟨zq_172 zg_6_5_55.2.2.2.2.2.2.2.2.2.2.2.2.2.1, rfl⟩
theorem zd_6_5_69 : zz_D zy_valueAt_6_5 69 (.aload_n 0) 1 70 := ⟨zq_42 zg_6_5_55.2.2.2.2.2.2.2.2.2.2.2.2.2.2.1, rfl⟩
theorem zd_6_5_70 : zz_D zy_valueAt_6_5 70 (.getfield 19) 3 73 := ⟨zq_180 zg_6_5_55.2.2.2.2.2.2.2.2.2.2.2.2.2.2.2.1 zg_6_5_55.2.2.2.2.2.2.2.2.2.2.2.2.2.2.2.2.1 zg_6_5_55.2.2.2.2.2.2.2.2.2.2.2.2.2.2.2.2.2.1 rfl, rfl⟩
theorem zd_6_5_73 : zz_D zy_valueAt_6_5 73 (.iload_n 2) 1 74 := ⟨zq_28 zg_6_5_55.2.2.2.2.2.2.2.2.2.2.2.2.2.2.2.2.2.2.1, rfl⟩
theorem zd_6_5_74 : zz_D zy_valueAt_6_5 74 (.baload) 1 75 := ⟨zq_51 zg_6_5_55.2.2.2.2.2.2.2.2.2.2.2.2.2.2.2.2.2.2.2.1, rfl⟩
theorem zd_6_5_75 : zz_B zy_valueAt_6_5 75 Instr.goto 79 78 := ⟨4, zq_167 zg_6_5_55.2.2.2.2.2.2.2.2.2.2.2.2.2.2.2.2.2.2.2.2.1 zg_6_5_55.2.2.2.2.2.2.2.2.2.2.2.2.2.2.2.2.2.2.2.2.2.1 zg_6_5_55.2.2.2.2.2.2.2.2.2.2.2.2.2.2.2.2.2.2.2.2.2.2.1 (by decide), rfl, rfl⟩
theorem zd_6_5_80 : zz_D zy_valueAt_6_5 80 (.iload_n 2) 1 81 := ⟨zq_28 zg_6_5_55.2.2.2.2.2.2.2.2.2.2.2.2.2.2.2.2.2.2.2.2.2.2.2, rfl⟩
theorem zg_6_5_81 : zq_at zy_valueAt_6_5.2.1 81 42 ∧ zq_at zy_valueAt_6_5.2.1 82 180 ∧ zq_at zy_valueAt_6_5.2.1 83 0 ∧ zq_at zy_valueAt_6_5.2.1 84 22 ∧ zq_at zy_valueAt_6_5.2.1 85 190 ∧ zq_at zy_valueAt_6_5.2.1 86 162 ∧ zq_at zy_valueAt_6_5.2.1 87 0 ∧ zq_at zy_valueAt_6_5.2.1 88 12 ∧ zq_at zy_valueAt_6_5.2.1 98 3 ∧ zq_at zy_valueAt_6_5.2.1 99 172 ∧ zq_at zy_valueAt_6_5.2.1 89 42 ∧ zq_at zy_valueAt_6_5.2.1 90 180 ∧ zq_at zy_valueAt_6_5.2.1 91 0 ∧ zq_at zy_valueAt_6_5.2.1 92 22 ∧ zq_at zy_valueAt_6_5.2.1 93 28 ∧ zq_at zy_valueAt_6_5.2.1 94 51 ∧ zq_at zy_valueAt_6_5.2.1 95 167 ∧ zq_at zy_valueAt_6_5.2.1 96 0 ∧ zq_at zy_valueAt_6_5.2.1 97 4 ∧ zq_at zy_valueAt_6_5.2.1 100 28 ∧ zq_at zy_valueAt_6_5.2.1 101 42 ∧ zq_at zy_valueAt_6_5.2.1 102 180 ∧ zq_at zy_valueAt_6_5.2.1 103 0 ∧ zq_at zy_valueAt_6_5.2.1 104 25 := by decide +kernel
theorem zd_6_5_81 : zz_D zy_valueAt_6_5 81 (.aload_n 0) 1 82 := ⟨zq_42 zg_6_5_81.1, rfl⟩
theorem zd_6_5_82 : zz_D zy_valueAt_6_5 82 (.getfield 22) 3 85 := ⟨zq_180 zg_6_5_81.2.1 zg_6_5_81.2.2.1 zg_6_5_81.2.2.2.1 rfl, rfl⟩
theorem zd_6_5_85 : zz_D zy_valueAt_6_5 85 (.arraylength) 1 86 := ⟨zq_190 zg_6_5_81.2.2.2.2.1, rfl⟩
theorem zd_6_5_86 : zz_B zy_valueAt_6_5 86 (Instr.if_icmp .ge) 98 89 := ⟨12, zq_162 zg_6_5_81.2.2.2.2.2.1 zg_6_5_81.2.2.2.2.2.2.1 zg_6_5_81.2.2.2.2.2.2.2.1 (by decide), rfl, rfl⟩
theorem zd_6_5_98 : zz_D zy_valueAt_6_5 98 (.iconst 0) 1 99 := ⟨zq_3 zg_6_5_81.2.2.2.2.2.2.2.2.1, rfl⟩
theorem zd_6_5_99 : zz_D zy_valueAt_6_5 99 (.ireturn) 1 100 := ⟨zq_172 zg_6_5_81.2.2.2.2.2.2.2.2.2.1, rfl⟩
theorem zd_6_5_89 : zz_D zy_valueAt_6_5 89 (.aload_n 0) 1 90 := ⟨zq_42 zg_6_5_81.2.2.2.2.2.2.2.2.2.2.1, rfl⟩
theorem zd_6_5_90 : zz_D zy_valueAt_6_5 90 (.getfield 22) 3 93 := ⟨zq_180 zg_6_5_81.2.2.2.2.2.2.2.2.2.2.2.1 zg_6_5_81.2.2.2.2.2.2.2.2.2.2.2.2.1 zg_6_5_81.2.2.2.2.2.2.2.2.2.2.2.2.2.1 rfl, rfl⟩
theorem zd_6_5_93 : zz_D zy_valueAt_6_5 93 (.iload_n 2) 1 94 := ⟨zq_28 zg_6_5_81.2.2.2.2.2.2.2.2.2.2.2.2.2.2.1, rfl⟩
theorem zd_6_5_94 : zz_D zy_valueAt_6_5 94 (.baload) 1 95 := ⟨zq_51 zg_6_5_81.2.2.2.2.2.2.2.2.2.2.2.2.2.2.2.1, rfl⟩
theorem zd_6_5_95 : zz_B zy_valueAt_6_5 95 Instr.goto 99 98 := ⟨4, zq_167 zg_6_5_81.2.2.2.2.2.2.2.2.2.2.2.2.2.2.2.2.1 zg_6_5_81.2.2.2.2.2.2.2.2.2.2.2.2.2.2.2.2.2.1 zg_6_5_81.2.2.2.2.2.2.2.2.2.2.2.2.2.2.2.2.2.2.1 (by decide), rfl, rfl⟩
theorem zd_6_5_100 : zz_D zy_valueAt_6_5 100 (.iload_n 2) 1 101 := ⟨zq_28 zg_6_5_81.2.2.2.2.2.2.2.2.2.2.2.2.2.2.2.2.2.2.2.1, rfl⟩
theorem zd_6_5_101 : zz_D zy_valueAt_6_5 101 (.aload_n 0) 1 102 := ⟨zq_42 zg_6_5_81.2.2.2.2.2.2.2.2.2.2.2.2.2.2.2.2.2.2.2.2.1, rfl⟩
theorem zd_6_5_102 : zz_D zy_valueAt_6_5 102 (.getfield 25) 3 105 := ⟨zq_180 zg_6_5_81.2.2.2.2.2.2.2.2.2.2.2.2.2.2.2.2.2.2.2.2.2.1 zg_6_5_81.2.2.2.2.2.2.2.2.2.2.2.2.2.2.2.2.2.2.2.2.2.2.1 zg_6_5_81.2.2.2.2.2.2.2.2.2.2.2.2.2.2.2.2.2.2.2.2.2.2.2 rfl, rfl⟩
theorem zg_6_5_105 : zq_at zy_valueAt_6_5.2.1 105 190 ∧ zq_at zy_valueAt_6_5.2.1 106 162 ∧ zq_at zy_valueAt_6_5.2.1 107 0 ∧ zq_at zy_valueAt_6_5.2.1 108 12 ∧ zq_at zy_valueAt_6_5.2.1 118 3 ∧ zq_at zy_valueAt_6_5.2.1 119 172 ∧ zq_at zy_valueAt_6_5.2.1 109 42 ∧ zq_at zy_valueAt_6_5.2.1 110 180 ∧ zq_at zy_valueAt_6_5.2.1 111 0 ∧ zq_at zy_valueAt_6_5.2.1 112 25 ∧ zq_at zy_valueAt_6_5.2.1 113 28 ∧ zq_at zy_valueAt_6_5.2.1 114 46 ∧ zq_at zy_valueAt_6_5.2.1 115 167 ∧ zq_at zy_valueAt_6_5.2.1 116 0 ∧ zq_at zy_valueAt_6_5.2.1 117 4 ∧ zq_at zy_valueAt_6_5.2.1 120 28 ∧ zq_at zy_valueAt_6_5.2.1 121 42 ∧ zq_at zy_valueAt_6_5.2.1 122 180 ∧ zq_at zy_valueAt_6_5.2.1 123 0 ∧ zq_at zy_valueAt_6_5.2.1 124 28 ∧ zq_at zy_valueAt_6_5.2.1 125 190 ∧ zq_at zy_valueAt_6_5.2.1 126 162 ∧ zq_at zy_valueAt_6_5.2.1 127 0 ∧ zq_at zy_valueAt_6_5.2.1 128 12 := by decide +kernel
theorem zd_6_5_105 : zz_D zy_valueAt_6_5 105 (.arraylength) 1 106 := ⟨zq_190 zg_6_5_105.1, rfl⟩
theorem zd_6_5_106 : zz_B zy_valueAt_6_5 106 (Instr.if_icmp .ge) 118 109 := ⟨12, zq_162 zg_6_5_105.2.1 zg_6_5_105.2.2.1 zg_6_5_105.2.2.2.1 (by decide), rfl, rfl⟩
theorem zd_6_5_118 : zz_D zy_valueAt_6_5 118 (.iconst 0) 1 119 := ⟨zq_3 zg_6_5_105.2.2.2.2.1, rfl⟩
theorem zd_6_5_119 : zz_D zy_valueAt_6_5 119 (.ireturn) 1 120 := ⟨zq_172 zg_6_5_105.2.2.2.2.2.1, rfl⟩
theorem zd_6_5_109 : zz_D zy_valueAt_6_5 109 (.aload_n 0) 1 110 := ⟨zq_42 zg_6_5_105.2.2.2.2.2.2.1, rfl⟩
theorem zd_6_5_110 : zz_D zy_valueAt_6_5 110 (.getfield 25) 3 113 := ⟨zq_180 zg_6_5_105.2.2.2.2.2.2.2.1 zg_6_5_105.2.2.2.2.2.2.2.2.1 zg_6_5_105.2.2.2.2.2.2.2.2.2.1 rfl, rfl⟩
theorem zd_6_5_113 : zz_D zy_valueAt_6_5 113 (.iload_n 2) 1 114 := ⟨zq_28 zg_6_5_105.2.2.2.2.2.2.2.2.2.2.1, rfl⟩
theorem zd_6_5_114 : zz_D zy_valueAt_6_5 114 (.iaload) 1 115 := ⟨zq_46 zg_6_5_105.2.2.2.2.2.2.2.2.2.2.2.1, rfl⟩
theorem zd_6_5_115 : zz_B zy_valueAt_6_5 115 Instr.goto 119 118 := ⟨4, zq_167 zg_6_5_105.2.2.2.2.2.2.2.2.2.2.2.2.1 zg_6_5_105.2.2.2.2.2.2.2.2.2.2.2.2.2.1 zg_6_5_105.2.2.2.2.2.2.2.2.2.2.2.2.2.2.1 (by decide), rfl, rfl⟩
theorem zd_6_5_120 : zz_D zy_valueAt_6_5 120 (.iload_n 2) 1 121 := ⟨zq_28 zg_6_5_105.2.2.2.2.2.2.2.2.2.2.2.2.2.2.2.1, rfl⟩
theorem zd_6_5_121 : zz_D zy_valueAt_6_5 121 (.aload_n 0) 1 122 := ⟨zq_42 zg_6_5_105.2.2.2.2.2.2.2.2.2.2.2.2.2.2.2.2.1, rfl⟩
theorem zd_6_5_122 : zz_D zy_valueAt_6_5 122 (.getfield 28) 3 125 := ⟨zq_180 zg_6_5_105.2.2.2.2.2.2.2.2.2.2.2.2.2.2.2.2.2.1 zg_6_5_105.2.2.2.2.2.2.2.2.2.2.2.2.2.2.2.2.2.2.1 zg_6_5_105.2.2.2.2.2.2.2.2.2.2.2.2.2.2.2.2.2.2.2.1 rfl, rfl⟩
theorem zd_6_5_125 : zz_D zy_valueAt_6_5 125 (.arraylength) 1 126 := ⟨zq_190 zg_6_5_105.2.2.2.2.2.2.2.2.2.2.2.2.2.2.2.2.2.2.2.2.1, rfl⟩
theorem zd_6_5_126 : zz_B zy_valueAt_6_5 126 (Instr.if_icmp .ge) 138 129 := ⟨12, zq_162 zg_6_5_105.2.2.2.2.2.2.2.2.2.2.2.2.2.2.2.2.2.2.2.2.2.1 zg_6_5_105.2.2.2.2.2.2.2.2.2.2.2.2.2.2.2.2.2.2.2.2.2.2.1 zg_6_5_105.2.2.2.2.2.2.2.2.2.2.2.2.2.2.2.2.2.2.2.2.2.2.2 (by decide), rfl, rfl⟩
theorem zg_6_5_138 : zq_at zy_valueAt_6_5.2.1 138 3 ∧ zq_at zy_valueAt_6_5.2.1 139 172 ∧ zq_at zy_valueAt_6_5.2.1 129 42 ∧ zq_at zy_valueAt_6_5.2.1 130 180 ∧ zq_at zy_valueAt_6_5.2.1 131 0 ∧ zq_at zy_valueAt_6_5.2.1 132 28 ∧ zq_at zy_valueAt_6_5.2.1 133 28 ∧ zq_at zy_valueAt_6_5.2.1 134 51 ∧ zq_at zy_valueAt_6_5.2.1 135 167 ∧ zq_at zy_valueAt_6_5.2.1 136 0 ∧ zq_at zy_valueAt_6_5.2.1 137 4 ∧ zq_at zy_valueAt_6_5.2.1 140 3 ∧ zq_at zy_valueAt_6_5.2.1 141 172 ∧ zq_at zy_valueAt_6_5.2.1 4 3 ∧ zq_at zy_valueAt_6_5.2.1 5 172 := by decide +kernel
theorem zd_6_5_138 : zz_D zy_valueAt_6_5 138 (.iconst 0) 1 139 := ⟨zq_3 zg_6_5_138.1, rfl⟩
theorem zd_6_5_139 : zz_D zy_valueAt_6_5 139 (.ireturn) 1 140 := ⟨zq_172 zg_6_5_138.2.1, rfl⟩
theorem zd_6_5_129 : zz_D zy_valueAt_6_5 129 (.aload_n 0) 1 130 := ⟨zq_42 zg_6_5_138.2.2.1, rfl⟩
theorem zd_6_5_130 : zz_D zy_valueAt_6_5 130 (.getfield 28) 3 133 := ⟨zq_180 zg_6_5_138.2.2.2.1 zg_6_5_138.2.2.2.2.1 zg_6_5_138.2.2.2.2.2.1 rfl, rfl⟩
theorem zd_6_5_133 : zz_D zy_valueAt_6_5 133 (.iload_n 2) 1 134 := ⟨zq_28 zg_6_5_138.2.2.2.2.2.2.1, rfl⟩
theorem zd_6_5_134 : zz_D zy_valueAt_6_5 134 (.baload) 1 135 := ⟨zq_51 zg_6_5_138.2.2.2.2.2.2.2.1, rfl⟩
theorem zd_6_5_135 : zz_B zy_valueAt_6_5 135 Instr.goto 139 138 := ⟨4, zq_167 zg_6_5_138.2.2.2.2.2.2.2.2.1 zg_6_5_138.2.2.2.2.2.2.2.2.2.1 zg_6_5_138.2.2.2.2.2.2.2.2.2.2.1 (by decide), rfl, rfl⟩
theorem zd_6_5_140 : zz_D zy_valueAt_6_5 140 (.iconst 0) 1 141 := ⟨zq_3 zg_6_5_138.2.2.2.2.2.2.2.2.2.2.2.1, rfl⟩
theorem zd_6_5_141 : zz_D zy_valueAt_6_5 141 (.ireturn) 1 142 := ⟨zq_172 zg_6_5_138.2.2.2.2.2.2.2.2.2.2.2.2.1, rfl⟩
theorem zd_6_5_4 : zz_D zy_valueAt_6_5 4 (.iconst 0) 1 5 := ⟨zq_3 zg_6_5_138.2.2.2.2.2.2.2.2.2.2.2.2.2.1, rfl⟩
theorem zd_6_5_5 : zz_D zy_valueAt_6_5 5 (.ireturn) 1 6 := ⟨zq_172 zg_6_5_138.2.2.2.2.2.2.2.2.2.2.2.2.2.2, rfl⟩
-- TensorForge$Machine valueAt (II)I
abbrev zr_valueAt_6_5 : Room := { frames := 0, cells := 0, slots := 0, locals := 0 }
def zp_valueAt_6_5 (p0 : Int) (p1 : Int) (S0 : zz_S) : Int → zz_S → Prop := fun r S => S0 = S ∧ ((-2147483648) ≤ r ∧ r ≤ 2147483647)
theorem zc_valueAt_6_5 {g : mm_G} {l : Launch} (p0 : Int) (p1 : Int) (S0 : zz_S) (n : Nat) (hn : zz_end ≤ n) (G_S0 : zz_G S0) (hp0 : (-2147483648) ≤ p0 ∧ p0 ≤ 2147483647) (hp1 : (-2147483648) ≤ p1 ∧ p1 ≤ 2147483647) : mm_Met g l zy_valueAt_6_5 zr_valueAt_6_5 [.ref 1031, zi p0, zi p1] (zz_M S0 n) n (zz_QI n (zp_valueAt_6_5 p0 p1 S0)) := by
  refine zz_enter (by decide) (Nat.le_of_ble_eq_true rfl) (zz_less (ls1 := [some (.ref 1031), some (zi p0), some (zi p1)]) ⟨rfl, ⟨rfl, ⟨rfl, trivial⟩⟩⟩ ?_)
  refine zz_iload_n (x := p1) rfl zd_6_5_0 ?_
  refine zz_if_ge (by omega) zd_6_5_1 (fun c1 => ?_) (fun c1 => ?_)
  · refine zz_iload_n (x := p0) rfl zd_6_5_6 ?_
    by_cases c2 : p0 = 0
    · refine zz_swIn 0 33 c2 (by decide) zd_6_5_7 rfl rfl ?_
      refine zz_iload_n (x := p1) rfl zd_6_5_40 ?_
      refine zz_aload_n (x := 1031) rfl zd_6_5_41 ?_
      refine zz_getr (kd := 0) (z := 1032) zd_6_5_42 zf_Machine_13 zT_1031 rfl (zz_ltn hn rfl) (zz_G.eq G_S0 1031 0 1032 rfl rfl) (by decide) 1032 rfl ?_
      refine zz_alen zd_6_5_45 zT_1032 rfl (zz_ltn hn rfl) ?_
      refine zz_icmp_ge (by omega) (by omega) zd_6_5_46 (fun c3 => ?_) (fun c3 => ?_)
      · refine zz_iconst zd_6_5_58 ?_
        exact zz_iret zd_6_5_59 rfl (Nat.zero_le _) (Nat.zero_le _) ⟨_, _, rfl, rfl, by omega⟩
      · refine zz_aload_n (x := 1031) rfl zd_6_5_49 ?_
        refine zz_getr (kd := 0) (z := 1032) zd_6_5_50 zf_Machine_13 zT_1031 rfl (zz_ltn hn rfl) (zz_G.eq G_S0 1031 0 1032 rfl rfl) (by decide) 1032 rfl ?_
        refine zz_iload_n (x := p1) rfl zd_6_5_53 ?_
        have g4 := zz_G.r G_S0 1032 p1.toNat (-128) 127 rfl rfl
        refine zz_bald (z := S0 1032 p1.toNat) zd_6_5_54 zT_1032 rfl (zz_ltn hn rfl) (by decide) (by omega) rfl ?_
        refine zz_goto zd_6_5_55 ?_
        exact zz_iret zd_6_5_59 rfl (Nat.zero_le _) (Nat.zero_le _) ⟨_, _, rfl, rfl, by omega⟩
    by_cases c5 : p0 = 1
    · refine zz_swIn 1 53 c5 (by decide) zd_6_5_7 rfl rfl ?_
      refine zz_iload_n (x := p1) rfl zd_6_5_60 ?_
      refine zz_aload_n (x := 1031) rfl zd_6_5_61 ?_
      refine zz_getr (kd := 0) (z := 1033) zd_6_5_62 zf_Machine_19 zT_1031 rfl (zz_ltn hn rfl) (zz_G.eq G_S0 1031 1 1033 rfl rfl) (by decide) 1033 rfl ?_
      refine zz_alen zd_6_5_65 zT_1033 rfl (zz_ltn hn rfl) ?_
      refine zz_icmp_ge (by omega) (by omega) zd_6_5_66 (fun c6 => ?_) (fun c6 => ?_)
      · refine zz_iconst zd_6_5_78 ?_
        exact zz_iret zd_6_5_79 rfl (Nat.zero_le _) (Nat.zero_le _) ⟨_, _, rfl, rfl, by omega⟩
      · refine zz_aload_n (x := 1031) rfl zd_6_5_69 ?_
        refine zz_getr (kd := 0) (z := 1033) zd_6_5_70 zf_Machine_19 zT_1031 rfl (zz_ltn hn rfl) (zz_G.eq G_S0 1031 1 1033 rfl rfl) (by decide) 1033 rfl ?_
        refine zz_iload_n (x := p1) rfl zd_6_5_73 ?_
        have g7 := zz_G.r G_S0 1033 p1.toNat (-128) 127 rfl rfl
        refine zz_bald (z := S0 1033 p1.toNat) zd_6_5_74 zT_1033 rfl (zz_ltn hn rfl) (by decide) (by omega) rfl ?_
        refine zz_goto zd_6_5_75 ?_
        exact zz_iret zd_6_5_79 rfl (Nat.zero_le _) (Nat.zero_le _) ⟨_, _, rfl, rfl, by omega⟩
    by_cases c8 : p0 = 2
    · refine zz_swIn 2 73 c8 (by decide) zd_6_5_7 rfl rfl ?_
      refine zz_iload_n (x := p1) rfl zd_6_5_80 ?_
      refine zz_aload_n (x := 1031) rfl zd_6_5_81 ?_
      refine zz_getr (kd := 0) (z := 1034) zd_6_5_82 zf_Machine_22 zT_1031 rfl (zz_ltn hn rfl) (zz_G.eq G_S0 1031 2 1034 rfl rfl) (by decide) 1034 rfl ?_
      refine zz_alen zd_6_5_85 zT_1034 rfl (zz_ltn hn rfl) ?_
      refine zz_icmp_ge (by omega) (by omega) zd_6_5_86 (fun c9 => ?_) (fun c9 => ?_)
      · refine zz_iconst zd_6_5_98 ?_
        exact zz_iret zd_6_5_99 rfl (Nat.zero_le _) (Nat.zero_le _) ⟨_, _, rfl, rfl, by omega⟩
      · refine zz_aload_n (x := 1031) rfl zd_6_5_89 ?_
        refine zz_getr (kd := 0) (z := 1034) zd_6_5_90 zf_Machine_22 zT_1031 rfl (zz_ltn hn rfl) (zz_G.eq G_S0 1031 2 1034 rfl rfl) (by decide) 1034 rfl ?_
        refine zz_iload_n (x := p1) rfl zd_6_5_93 ?_
        have g10 := zz_G.r G_S0 1034 p1.toNat (-128) 127 rfl rfl
        refine zz_bald (z := S0 1034 p1.toNat) zd_6_5_94 zT_1034 rfl (zz_ltn hn rfl) (by decide) (by omega) rfl ?_
        refine zz_goto zd_6_5_95 ?_
        exact zz_iret zd_6_5_99 rfl (Nat.zero_le _) (Nat.zero_le _) ⟨_, _, rfl, rfl, by omega⟩
    by_cases c11 : p0 = 3
    · refine zz_swIn 3 93 c11 (by decide) zd_6_5_7 rfl rfl ?_
      refine zz_iload_n (x := p1) rfl zd_6_5_100 ?_
      refine zz_aload_n (x := 1031) rfl zd_6_5_101 ?_
      refine zz_getr (kd := 0) (z := 1035) zd_6_5_102 zf_Machine_25 zT_1031 rfl (zz_ltn hn rfl) (zz_G.eq G_S0 1031 3 1035 rfl rfl) (by decide) 1035 rfl ?_
      refine zz_alen zd_6_5_105 zT_1035 rfl (zz_ltn hn rfl) ?_
      refine zz_icmp_ge (by omega) (by omega) zd_6_5_106 (fun c12 => ?_) (fun c12 => ?_)
      · refine zz_iconst zd_6_5_118 ?_
        exact zz_iret zd_6_5_119 rfl (Nat.zero_le _) (Nat.zero_le _) ⟨_, _, rfl, rfl, by omega⟩
      · refine zz_aload_n (x := 1031) rfl zd_6_5_109 ?_
        refine zz_getr (kd := 0) (z := 1035) zd_6_5_110 zf_Machine_25 zT_1031 rfl (zz_ltn hn rfl) (zz_G.eq G_S0 1031 3 1035 rfl rfl) (by decide) 1035 rfl ?_
        refine zz_iload_n (x := p1) rfl zd_6_5_113 ?_
        have g13 := zz_G.r G_S0 1035 p1.toNat (-2147483648) 2147483647 rfl rfl
        refine zz_iald (z := S0 1035 p1.toNat) zd_6_5_114 zT_1035 rfl (zz_ltn hn rfl) (by decide) (by omega) rfl ?_
        refine zz_goto zd_6_5_115 ?_
        exact zz_iret zd_6_5_119 rfl (Nat.zero_le _) (Nat.zero_le _) ⟨_, _, rfl, rfl, by omega⟩
    by_cases c14 : p0 = 4
    · refine zz_swIn 4 113 c14 (by decide) zd_6_5_7 rfl rfl ?_
      refine zz_iload_n (x := p1) rfl zd_6_5_120 ?_
      refine zz_aload_n (x := 1031) rfl zd_6_5_121 ?_
      refine zz_getr (kd := 0) (z := 1036) zd_6_5_122 zf_Machine_28 zT_1031 rfl (zz_ltn hn rfl) (zz_G.eq G_S0 1031 4 1036 rfl rfl) (by decide) 1036 rfl ?_
      refine zz_alen zd_6_5_125 zT_1036 rfl (zz_ltn hn rfl) ?_
      refine zz_icmp_ge (by omega) (by omega) zd_6_5_126 (fun c15 => ?_) (fun c15 => ?_)
      · refine zz_iconst zd_6_5_138 ?_
        exact zz_iret zd_6_5_139 rfl (Nat.zero_le _) (Nat.zero_le _) ⟨_, _, rfl, rfl, by omega⟩
      · refine zz_aload_n (x := 1031) rfl zd_6_5_129 ?_
        refine zz_getr (kd := 0) (z := 1036) zd_6_5_130 zf_Machine_28 zT_1031 rfl (zz_ltn hn rfl) (zz_G.eq G_S0 1031 4 1036 rfl rfl) (by decide) 1036 rfl ?_
        refine zz_iload_n (x := p1) rfl zd_6_5_133 ?_
        have g16 := zz_G.r G_S0 1036 p1.toNat (-128) 127 rfl rfl
        refine zz_bald (z := S0 1036 p1.toNat) zd_6_5_134 zT_1036 rfl (zz_ltn hn rfl) (by decide) (by omega) rfl ?_
        refine zz_goto zd_6_5_135 ?_
        exact zz_iret zd_6_5_139 rfl (Nat.zero_le _) (Nat.zero_le _) ⟨_, _, rfl, rfl, by omega⟩
    refine zz_swOut (by omega) (by omega) zd_6_5_7 rfl ?_
    refine zz_iconst zd_6_5_140 ?_
    exact zz_iret zd_6_5_141 rfl (Nat.zero_le _) (Nat.zero_le _) ⟨_, _, rfl, rfl, by omega⟩
  · refine zz_iconst zd_6_5_4 ?_
    exact zz_iret zd_6_5_5 rfl (Nat.zero_le _) (Nat.zero_le _) ⟨_, _, rfl, rfl, by omega⟩
theorem zk_TF_120 : mm_Vl "TensorForge" 120 3 2 zy_valueAt_6_5 := ⟨zyw_valueAt_6_5, (R_Machine, F_Machine, 14), rfl, mm_tb_1 1163 (by decide +kernel) rfl, mm_tb_1 1164 (by decide +kernel) rfl, mm_tb_1 1165 (by decide +kernel) rfl⟩
theorem zg_1_4_51 : zq_at zy_look_1_4.2.1 51 172 := by decide +kernel
theorem zd_1_4_51 : zz_D zy_look_1_4 51 (.ireturn) 1 52 := ⟨zq_172 zg_1_4_51, rfl⟩
-- TensorForge look (II)I
abbrev zr_look_1_4 : Room := { frames := 6, cells := 1, slots := 6, locals := 82 }
def zp_look_1_4 (p0 : Int) (p1 : Int) (S0 : zz_S) : Int → zz_S → Prop := fun r S => S0 = S ∧ ((-2147483648) ≤ r ∧ r ≤ 2147483647)
def zx_look_1_4 (p0 : Int) (p1 : Int) (S0 : zz_S) : Nat → zz_S → Prop := fun i S => S0 = S ∧ (i < 4) ∧ (i = 0 ∨ i = 1)
theorem zc_look_1_4 {g : mm_G} {l : Launch} (p0 : Int) (p1 : Int) (S0 : zz_S) (n : Nat) (hn : zz_end ≤ n) (hfl : l.flags = flags0) (G_S0 : zz_G S0) (hp0 : (-2147483648) ≤ p0 ∧ p0 ≤ 2147483647) (hp1 : (-2147483648) ≤ p1 ∧ p1 ≤ 2147483647) : mm_Met g l zy_look_1_4 zr_look_1_4 [.ref 1000, zi p0, zi p1] (zz_M S0 n) n (zz_XI n (zp_look_1_4 p0 p1 S0) (zx_look_1_4 p0 p1 S0)) := by
  refine zz_enter (by decide) (Nat.le_of_ble_eq_true rfl) (zz_less (ls1 := [some (.ref 1000), some (zi p0), some (zi p1)]) ⟨rfl, ⟨rfl, ⟨rfl, trivial⟩⟩⟩ ?_)
  refine zz_iload_n (x := p0) rfl zd_1_4_0 ?_
  refine zz_if_lt (by omega) zd_1_4_1 (fun c1 => ?_) (fun c1 => ?_)
  · exact zz_throw (i := 0) hfl hn zt_1_4_9 zyw_look_1_4 zxl_TF_87_112_91 (Nat.le_of_ble_eq_true rfl) (Nat.le_of_ble_eq_true rfl) ⟨Nat.le_of_ble_eq_true rfl, Nat.le_of_ble_eq_true rfl⟩ (Or.inr ⟨_, _, rfl, rfl, by omega, by omega⟩)
  · refine zz_iload_n (x := p0) rfl zd_1_4_4 ?_
    refine zz_iconst zd_1_4_5 ?_
    refine zz_icmp_lt (by omega) (by omega) zd_1_4_6 (fun c2 => ?_) (fun c2 => ?_)
    · refine zz_iload_n (x := p1) rfl zd_1_4_19 ?_
      refine zz_if_lt (by omega) zd_1_4_20 (fun c3 => ?_) (fun c3 => ?_)
      · exact zz_throw (i := 1) hfl hn zt_1_4_32 zyw_look_1_4 zxl_TF_101_118_105 (Nat.le_of_ble_eq_true rfl) (Nat.le_of_ble_eq_true rfl) ⟨Nat.le_of_ble_eq_true rfl, Nat.le_of_ble_eq_true rfl⟩ (Or.inr ⟨_, _, rfl, rfl, by omega, by omega⟩)
      · refine zz_iload_n (x := p1) rfl zd_1_4_23 ?_
        refine zz_gets (q0 := 0) zd_1_4_24 rfl (by decide) zs_TF_114 ?_
        refine zz_iload_n (x := p0) rfl zd_1_4_27 ?_
        obtain ⟨v4, hv4, tv4⟩ := zz_sta0 (i := p0) (by omega)
        refine zz_tiald (N := 5) v4 zd_1_4_28 rfl (by decide) rfl (by decide) (by omega) tv4 ?_
        refine zz_icmp_lt (by omega) (by omega) zd_1_4_29 (fun c5 => ?_) (fun c5 => ?_)
        · refine zz_aload_n (x := 1000) rfl zd_1_4_42 ?_
          refine zz_getr (kd := 0) (z := 1031) zd_1_4_43 zf_TF_33 zT_1000 rfl (zz_ltn hn rfl) (zz_G.eq G_S0 1000 0 1031 rfl rfl) (by decide) 1031 rfl ?_
          refine zz_iload_n (x := p0) rfl zd_1_4_46 ?_
          refine zz_iload_n (x := p1) rfl zd_1_4_47 ?_
          refine zz_callVI [zi p0, zi p1] zd_1_4_48 zk_TF_120 zT_1031 (zz_ltn hn rfl) rfl rfl ⟨Nat.le_of_ble_eq_true rfl, Nat.le_of_ble_eq_true rfl⟩ ⟨rfl, rfl⟩ (Nat.zero_le _) (Nat.zero_le _) (zc_valueAt_6_5 p0 p1 S0 n hn G_S0 (by omega) (by omega)) (fun v7 S6 hP => ?_)
          obtain ⟨rfl, o8⟩ := hP
          exact zz_iret zd_1_4_51 rfl (Nat.le_of_ble_eq_true rfl) (Nat.le_of_ble_eq_true rfl) (Or.inl ⟨_, _, rfl, rfl, by omega⟩)
        · exact zz_throw (i := 1) hfl hn zt_1_4_32 zyw_look_1_4 zxl_TF_101_118_105 (Nat.le_of_ble_eq_true rfl) (Nat.le_of_ble_eq_true rfl) ⟨Nat.le_of_ble_eq_true rfl, Nat.le_of_ble_eq_true rfl⟩ (Or.inr ⟨_, _, rfl, rfl, by omega, by omega⟩)
    · exact zz_throw (i := 0) hfl hn zt_1_4_9 zyw_look_1_4 zxl_TF_87_112_91 (Nat.le_of_ble_eq_true rfl) (Nat.le_of_ble_eq_true rfl) ⟨Nat.le_of_ble_eq_true rfl, Nat.le_of_ble_eq_true rfl⟩ (Or.inr ⟨_, _, rfl, rfl, by omega, by omega⟩)
abbrev zy_word_1_5 : mm_Y := (⟨"TensorForge", "word", "(IJ)V"⟩, prog_1_method_5_code, 4, none)
theorem zyw_word_1_5 : mm_Yw zy_word_1_5 2 := ⟨mm_tb_1 1174 (by decide +kernel) rfl, mm_tb_1 1 (by decide +kernel) rfl, ⟨by decide, by decide⟩, by decide +kernel⟩
theorem zt_1_5_12 : zz_Thr zy_word_1_5 12 101 124 105 := ⟨by decide +kernel, by decide +kernel, by decide +kernel, by decide +kernel, by decide +kernel⟩
theorem zxl_TF_101_124_105 : mm_Xl "TensorForge" 101 124 105 1 := ⟨mm_tb_1 1133 (by decide +kernel) rfl, mm_tb_1 1134 (by decide +kernel) rfl, mm_tb_1 18 (by decide +kernel) rfl, ⟨34, by decide +kernel⟩, zxa_TF_105⟩
theorem zt_1_5_29 : zz_Thr zy_word_1_5 29 126 128 130 := ⟨by decide +kernel, by decide +kernel, by decide +kernel, by decide +kernel, by decide +kernel⟩
theorem zxa_TF_130 : ∀ w ∈ Bundle.ownAtoms "TensorForge" 130 (mm_xn 2) ["java/lang/RuntimeException", "java/lang/Exception"], (goodWord w = true ∧ w ∈ tables_1) ∨ w ∈ mm_xs := by decide +kernel
theorem zxl_TF_126_128_130 : mm_Xl "TensorForge" 126 128 130 2 := ⟨mm_tb_1 1176 (by decide +kernel) rfl, mm_tb_1 1177 (by decide +kernel) rfl, mm_tb_1 19 (by decide +kernel) rfl, ⟨35, by decide +kernel⟩, zxa_TF_130⟩
theorem zg_1_5_0 : zq_at zy_word_1_5.2.1 0 27 ∧ zq_at zy_word_1_5.2.1 1 155 ∧ zq_at zy_word_1_5.2.1 2 0 ∧ zq_at zy_word_1_5.2.1 3 11 ∧ zq_at zy_word_1_5.2.1 4 27 ∧ zq_at zy_word_1_5.2.1 5 42 ∧ zq_at zy_word_1_5.2.1 6 180 ∧ zq_at zy_word_1_5.2.1 7 0 ∧ zq_at zy_word_1_5.2.1 8 26 ∧ zq_at zy_word_1_5.2.1 9 164 ∧ zq_at zy_word_1_5.2.1 10 0 ∧ zq_at zy_word_1_5.2.1 11 13 ∧ zq_at zy_word_1_5.2.1 22 27 ∧ zq_at zy_word_1_5.2.1 23 17 ∧ zq_at zy_word_1_5.2.1 24 2 ∧ zq_at zy_word_1_5.2.1 25 88 ∧ zq_at zy_word_1_5.2.1 26 161 ∧ zq_at zy_word_1_5.2.1 27 0 ∧ zq_at zy_word_1_5.2.1 28 13 ∧ zq_at zy_word_1_5.2.1 39 42 ∧ zq_at zy_word_1_5.2.1 40 180 ∧ zq_at zy_word_1_5.2.1 41 0 ∧ zq_at zy_word_1_5.2.1 42 19 ∧ zq_at zy_word_1_5.2.1 43 27 := by decide +kernel
theorem zd_1_5_0 : zz_D zy_word_1_5 0 (.iload_n 1) 1 1 := ⟨zq_27 zg_1_5_0.1, rfl⟩
theorem zd_1_5_1 : zz_B zy_word_1_5 1 (Instr.ifCond .lt) 12 4 := ⟨11, zq_155 zg_1_5_0.2.1 zg_1_5_0.2.2.1 zg_1_5_0.2.2.2.1 (by decide), rfl, rfl⟩
theorem zd_1_5_4 : zz_D zy_word_1_5 4 (.iload_n 1) 1 5 := ⟨zq_27 zg_1_5_0.2.2.2.2.1, rfl⟩
theorem zd_1_5_5 : zz_D zy_word_1_5 5 (.aload_n 0) 1 6 := ⟨zq_42 zg_1_5_0.2.2.2.2.2.1, rfl⟩
theorem zd_1_5_6 : zz_D zy_word_1_5 6 (.getfield 26) 3 9 := ⟨zq_180 zg_1_5_0.2.2.2.2.2.2.1 zg_1_5_0.2.2.2.2.2.2.2.1 zg_1_5_0.2.2.2.2.2.2.2.2.1 rfl, rfl⟩
theorem zd_1_5_9 : zz_B zy_word_1_5 9 (Instr.if_icmp .le) 22 12 := ⟨13, zq_164 zg_1_5_0.2.2.2.2.2.2.2.2.2.1 zg_1_5_0.2.2.2.2.2.2.2.2.2.2.1 zg_1_5_0.2.2.2.2.2.2.2.2.2.2.2.1 (by decide), rfl, rfl⟩
theorem zd_1_5_22 : zz_D zy_word_1_5 22 (.iload_n 1) 1 23 := ⟨zq_27 zg_1_5_0.2.2.2.2.2.2.2.2.2.2.2.2.1, rfl⟩
theorem zd_1_5_23 : zz_D zy_word_1_5 23 (.sipush 600) 3 26 := ⟨zq_17 zg_1_5_0.2.2.2.2.2.2.2.2.2.2.2.2.2.1 zg_1_5_0.2.2.2.2.2.2.2.2.2.2.2.2.2.2.1 zg_1_5_0.2.2.2.2.2.2.2.2.2.2.2.2.2.2.2.1 (by decide), rfl⟩
theorem zd_1_5_26 : zz_B zy_word_1_5 26 (Instr.if_icmp .lt) 39 29 := ⟨13, zq_161 zg_1_5_0.2.2.2.2.2.2.2.2.2.2.2.2.2.2.2.2.1 zg_1_5_0.2.2.2.2.2.2.2.2.2.2.2.2.2.2.2.2.2.1 zg_1_5_0.2.2.2.2.2.2.2.2.2.2.2.2.2.2.2.2.2.2.1 (by decide), rfl, rfl⟩
theorem zd_1_5_39 : zz_D zy_word_1_5 39 (.aload_n 0) 1 40 := ⟨zq_42 zg_1_5_0.2.2.2.2.2.2.2.2.2.2.2.2.2.2.2.2.2.2.2.1, rfl⟩
theorem zd_1_5_40 : zz_D zy_word_1_5 40 (.getfield 19) 3 43 := ⟨zq_180 zg_1_5_0.2.2.2.2.2.2.2.2.2.2.2.2.2.2.2.2.2.2.2.2.1 zg_1_5_0.2.2.2.2.2.2.2.2.2.2.2.2.2.2.2.2.2.2.2.2.2.1 zg_1_5_0.2.2.2.2.2.2.2.2.2.2.2.2.2.2.2.2.2.2.2.2.2.2.1 rfl, rfl⟩
theorem zd_1_5_43 : zz_D zy_word_1_5 43 (.iload_n 1) 1 44 := ⟨zq_27 zg_1_5_0.2.2.2.2.2.2.2.2.2.2.2.2.2.2.2.2.2.2.2.2.2.2.2, rfl⟩
theorem zg_1_5_44 : zq_at zy_word_1_5.2.1 44 32 ∧ zq_at zy_word_1_5.2.1 45 80 ∧ zq_at zy_word_1_5.2.1 46 27 ∧ zq_at zy_word_1_5.2.1 47 42 ∧ zq_at zy_word_1_5.2.1 48 180 ∧ zq_at zy_word_1_5.2.1 49 0 ∧ zq_at zy_word_1_5.2.1 50 26 ∧ zq_at zy_word_1_5.2.1 51 160 ∧ zq_at zy_word_1_5.2.1 52 0 ∧ zq_at zy_word_1_5.2.1 53 13 ∧ zq_at zy_word_1_5.2.1 64 177 ∧ zq_at zy_word_1_5.2.1 54 42 ∧ zq_at zy_word_1_5.2.1 55 89 ∧ zq_at zy_word_1_5.2.1 56 180 ∧ zq_at zy_word_1_5.2.1 57 0 ∧ zq_at zy_word_1_5.2.1 58 26 ∧ zq_at zy_word_1_5.2.1 59 4 ∧ zq_at zy_word_1_5.2.1 60 96 ∧ zq_at zy_word_1_5.2.1 61 181 ∧ zq_at zy_word_1_5.2.1 62 0 ∧ zq_at zy_word_1_5.2.1 63 26 := by decide +kernel
theorem zd_1_5_44 : zz_D zy_word_1_5 44 (.lload_n 2) 1 45 := ⟨zq_32 zg_1_5_44.1, rfl⟩
theorem zd_1_5_45 : zz_D zy_word_1_5 45 (.lastore) 1 46 := ⟨zq_80 zg_1_5_44.2.1, rfl⟩
theorem zd_1_5_46 : zz_D zy_word_1_5 46 (.iload_n 1) 1 47 := ⟨zq_27 zg_1_5_44.2.2.1, rfl⟩
theorem zd_1_5_47 : zz_D zy_word_1_5 47 (.aload_n 0) 1 48 := ⟨zq_42 zg_1_5_44.2.2.2.1, rfl⟩
theorem zd_1_5_48 : zz_D zy_word_1_5 48 (.getfield 26) 3 51 := ⟨zq_180 zg_1_5_44.2.2.2.2.1 zg_1_5_44.2.2.2.2.2.1 zg_1_5_44.2.2.2.2.2.2.1 rfl, rfl⟩
theorem zd_1_5_51 : zz_B zy_word_1_5 51 (Instr.if_icmp .ne) 64 54 := ⟨13, zq_160 zg_1_5_44.2.2.2.2.2.2.2.1 zg_1_5_44.2.2.2.2.2.2.2.2.1 zg_1_5_44.2.2.2.2.2.2.2.2.2.1 (by decide), rfl, rfl⟩
theorem zd_1_5_64 : zz_D zy_word_1_5 64 (.return_) 1 65 := ⟨zq_177 zg_1_5_44.2.2.2.2.2.2.2.2.2.2.1, rfl⟩
theorem zd_1_5_54 : zz_D zy_word_1_5 54 (.aload_n 0) 1 55 := ⟨zq_42 zg_1_5_44.2.2.2.2.2.2.2.2.2.2.2.1, rfl⟩
theorem zd_1_5_55 : zz_D zy_word_1_5 55 (.dup) 1 56 := ⟨zq_89 zg_1_5_44.2.2.2.2.2.2.2.2.2.2.2.2.1, rfl⟩
theorem zd_1_5_56 : zz_D zy_word_1_5 56 (.getfield 26) 3 59 := ⟨zq_180 zg_1_5_44.2.2.2.2.2.2.2.2.2.2.2.2.2.1 zg_1_5_44.2.2.2.2.2.2.2.2.2.2.2.2.2.2.1 zg_1_5_44.2.2.2.2.2.2.2.2.2.2.2.2.2.2.2.1 rfl, rfl⟩
theorem zd_1_5_59 : zz_D zy_word_1_5 59 (.iconst 1) 1 60 := ⟨zq_4 zg_1_5_44.2.2.2.2.2.2.2.2.2.2.2.2.2.2.2.2.1, rfl⟩
theorem zd_1_5_60 : zz_D zy_word_1_5 60 (.iadd) 1 61 := ⟨zq_96 zg_1_5_44.2.2.2.2.2.2.2.2.2.2.2.2.2.2.2.2.2.1, rfl⟩
theorem zd_1_5_61 : zz_D zy_word_1_5 61 (.putfield 26) 3 64 := ⟨zq_181 zg_1_5_44.2.2.2.2.2.2.2.2.2.2.2.2.2.2.2.2.2.2.1 zg_1_5_44.2.2.2.2.2.2.2.2.2.2.2.2.2.2.2.2.2.2.2.1 zg_1_5_44.2.2.2.2.2.2.2.2.2.2.2.2.2.2.2.2.2.2.2.2 rfl, rfl⟩
-- TensorForge word (IJ)V
abbrev zr_word_1_5 : Room := { frames := 6, cells := 1, slots := 6, locals := 82 }
def zp_word_1_5 (p0 : Int) (p1 : Int) (S0 : zz_S) : zz_S → Prop := fun S => zz_G S ∧ zz_fr [(1000, 11)] [] (fun a i => a = zz_rf 4 (S0 1000 9)) S0 S
def zx_word_1_5 (p0 : Int) (p1 : Int) (S0 : zz_S) : Nat → zz_S → Prop := fun i S => zz_G S ∧ zz_fr [(1000, 11)] [] (fun a i => a = zz_rf 4 (S0 1000 9)) S0 S ∧ (i < 4) ∧ (i = 1 ∨ i = 2)
theorem zc_word_1_5 {g : mm_G} {l : Launch} (p0 : Int) (p1 : Int) (S0 : zz_S) (n : Nat) (hn : zz_end ≤ n) (hfl : l.flags = flags0) (G_S0 : zz_G S0) (hp0 : (-2147483648) ≤ p0 ∧ p0 ≤ 2147483647) (hp1 : (-9223372036854775808) ≤ p1 ∧ p1 ≤ 9223372036854775807) : mm_Met g l zy_word_1_5 zr_word_1_5 [.ref 1000, zi p0, zl p1] (zz_M S0 n) n (zz_XV n (zp_word_1_5 p0 p1 S0) (zx_word_1_5 p0 p1 S0)) := by
  refine zz_enter (by decide) (Nat.le_of_ble_eq_true rfl) (zz_less (ls1 := [some (.ref 1000), some (zi p0), some (zl p1), none]) ⟨rfl, ⟨rfl, ⟨rfl, trivial⟩⟩⟩ ?_)
  have F_S0 : zz_fr [(1000, 11)] [] (fun a i => a = zz_rf 4 (S0 1000 9)) S0 S0 := zz_fr.refl
  refine zz_iload_n (x := p0) rfl zd_1_5_0 ?_
  refine zz_if_lt (by omega) zd_1_5_1 (fun c1 => ?_) (fun c1 => ?_)
  · exact zz_throw (i := 1) hfl hn zt_1_5_12 zyw_word_1_5 zxl_TF_101_124_105 (Nat.le_of_ble_eq_true rfl) (Nat.le_of_ble_eq_true rfl) ⟨Nat.le_of_ble_eq_true rfl, Nat.le_of_ble_eq_true rfl⟩ (Or.inr ⟨_, _, rfl, G_S0, F_S0, by omega, by omega⟩)
  · refine zz_iload_n (x := p0) rfl zd_1_5_4 ?_
    refine zz_aload_n (x := 1000) rfl zd_1_5_5 ?_
    have g2 := zz_G.r G_S0 1000 11 0 600 rfl rfl
    refine zz_geti (z := S0 1000 11) zd_1_5_6 zf_TF_26 zT_1000 rfl (zz_ltn hn rfl) rfl ?_
    refine zz_icmp_le (by omega) (by omega) zd_1_5_9 (fun c3 => ?_) (fun c3 => ?_)
    · refine zz_iload_n (x := p0) rfl zd_1_5_22 ?_
      refine zz_sipush (by decide) zd_1_5_23 ?_
      refine zz_icmp_lt (by omega) (by omega) zd_1_5_26 (fun c4 => ?_) (fun c4 => ?_)
      · refine zz_aload_n (x := 1000) rfl zd_1_5_39 ?_
        have g5 := zz_G.r G_S0 1000 9 0 1 rfl rfl
        refine zz_getr (kd := 2) (z := S0 1000 9) zd_1_5_40 zf_TF_19 zT_1000 rfl (zz_ltn hn rfl) rfl (by omega) (zz_rf 4 (S0 1000 9)) rfl ?_
        refine zz_iload_n (x := p0) rfl zd_1_5_43 ?_
        refine zz_lload_n (x := p1) rfl zd_1_5_44 ?_
        refine zz_last zd_1_5_45 (zT_k4 (by omega)) rfl (zN_k4 hn (by omega)) (by decide) (by omega) (fun S6 qS6 => ?_)
        have G_S6 := zz_G.put G_S0 qS6 (-9223372036854775808) 9223372036854775807 (zR_k4 (by omega)) (by omega)
        have F_S6 := zz_fr.putv F_S0 qS6 (rfl)
        refine zz_iload_n (x := p0) rfl zd_1_5_46 ?_
        refine zz_aload_n (x := 1000) rfl zd_1_5_47 ?_
        refine zz_geti (z := S0 1000 11) zd_1_5_48 zf_TF_26 zT_1000 rfl (zz_ltn hn rfl) (zz_ro qS6 (fun h => absurd h.1 (by have := zz_rf4 (z := S0 1000 9) (by omega); omega)) rfl) ?_
        refine zz_icmp_ne (by omega) (by omega) zd_1_5_51 (fun c7 => ?_) (fun c7 => ?_)
        · exact zz_vret zd_1_5_64 rfl (Nat.le_of_ble_eq_true rfl) (Nat.le_of_ble_eq_true rfl) (Or.inl ⟨_, rfl, G_S6, F_S6⟩)
        · refine zz_aload_n (x := 1000) rfl zd_1_5_54 ?_
          refine zz_dup rfl zd_1_5_55 ?_
          refine zz_geti (z := S0 1000 11) zd_1_5_56 zf_TF_26 zT_1000 rfl (zz_ltn hn rfl) (zz_ro qS6 (fun h => absurd h.1 (by have := zz_rf4 (z := S0 1000 9) (by omega); omega)) rfl) ?_
          refine zz_iconst zd_1_5_59 ?_
          refine zz_iadd zd_1_5_60 ?_
          refine zz_puti zd_1_5_61 zf_TF_26 zT_1000 rfl (zz_ltn hn rfl) (fun S8 qS8 => ?_)
          have G_S8 := zz_G.put G_S6 qS8 0 600 rfl (by omega)
          have F_S8 := zz_fr.puts F_S6 qS8 rfl
          exact zz_vret zd_1_5_64 rfl (Nat.le_of_ble_eq_true rfl) (Nat.le_of_ble_eq_true rfl) (Or.inl ⟨_, rfl, G_S8, F_S8⟩)
      · exact zz_throw (i := 2) hfl hn zt_1_5_29 zyw_word_1_5 zxl_TF_126_128_130 (Nat.le_of_ble_eq_true rfl) (Nat.le_of_ble_eq_true rfl) ⟨Nat.le_of_ble_eq_true rfl, Nat.le_of_ble_eq_true rfl⟩ (Or.inr ⟨_, _, rfl, G_S0, F_S0, by omega, by omega⟩)
    · exact zz_throw (i := 1) hfl hn zt_1_5_12 zyw_word_1_5 zxl_TF_101_124_105 (Nat.le_of_ble_eq_true rfl) (Nat.le_of_ble_eq_true rfl) ⟨Nat.le_of_ble_eq_true rfl, Nat.le_of_ble_eq_true rfl⟩ (Or.inr ⟨_, _, rfl, G_S0, F_S0, by omega, by omega⟩)
abbrev zy_cut_1_6 : mm_Y := (⟨"TensorForge", "cut", "(I)V"⟩, prog_1_method_6_code, 2, none)
theorem zyw_cut_1_6 : mm_Yw zy_cut_1_6 1 := ⟨mm_tb_1 1198 (by decide +kernel) rfl, mm_tb_1 1 (by decide +kernel) rfl, ⟨by decide, by decide⟩, by decide +kernel⟩
theorem zt_1_6_12 : zz_Thr zy_cut_1_6 12 87 131 91 := ⟨by decide +kernel, by decide +kernel, by decide +kernel, by decide +kernel, by decide +kernel⟩
theorem zxl_TF_87_131_91 : mm_Xl "TensorForge" 87 131 91 0 := ⟨mm_tb_1 1048 (by decide +kernel) rfl, mm_tb_1 1049 (by decide +kernel) rfl, mm_tb_1 16 (by decide +kernel) rfl, ⟨36, by decide +kernel⟩, zxa_TF_91⟩
theorem zg_1_6_0 : zq_at zy_cut_1_6.2.1 0 27 ∧ zq_at zy_cut_1_6.2.1 1 155 ∧ zq_at zy_cut_1_6.2.1 2 0 ∧ zq_at zy_cut_1_6.2.1 3 11 ∧ zq_at zy_cut_1_6.2.1 4 27 ∧ zq_at zy_cut_1_6.2.1 5 42 ∧ zq_at zy_cut_1_6.2.1 6 180 ∧ zq_at zy_cut_1_6.2.1 7 0 ∧ zq_at zy_cut_1_6.2.1 8 26 ∧ zq_at zy_cut_1_6.2.1 9 164 ∧ zq_at zy_cut_1_6.2.1 10 0 ∧ zq_at zy_cut_1_6.2.1 11 13 ∧ zq_at zy_cut_1_6.2.1 22 42 ∧ zq_at zy_cut_1_6.2.1 23 27 ∧ zq_at zy_cut_1_6.2.1 24 181 ∧ zq_at zy_cut_1_6.2.1 25 0 ∧ zq_at zy_cut_1_6.2.1 26 26 ∧ zq_at zy_cut_1_6.2.1 27 177 := by decide +kernel
theorem zd_1_6_0 : zz_D zy_cut_1_6 0 (.iload_n 1) 1 1 := ⟨zq_27 zg_1_6_0.1, rfl⟩
theorem zd_1_6_1 : zz_B zy_cut_1_6 1 (Instr.ifCond .lt) 12 4 := ⟨11, zq_155 zg_1_6_0.2.1 zg_1_6_0.2.2.1 zg_1_6_0.2.2.2.1 (by decide), rfl, rfl⟩
theorem zd_1_6_4 : zz_D zy_cut_1_6 4 (.iload_n 1) 1 5 := ⟨zq_27 zg_1_6_0.2.2.2.2.1, rfl⟩
theorem zd_1_6_5 : zz_D zy_cut_1_6 5 (.aload_n 0) 1 6 := ⟨zq_42 zg_1_6_0.2.2.2.2.2.1, rfl⟩
theorem zd_1_6_6 : zz_D zy_cut_1_6 6 (.getfield 26) 3 9 := ⟨zq_180 zg_1_6_0.2.2.2.2.2.2.1 zg_1_6_0.2.2.2.2.2.2.2.1 zg_1_6_0.2.2.2.2.2.2.2.2.1 rfl, rfl⟩
theorem zd_1_6_9 : zz_B zy_cut_1_6 9 (Instr.if_icmp .le) 22 12 := ⟨13, zq_164 zg_1_6_0.2.2.2.2.2.2.2.2.2.1 zg_1_6_0.2.2.2.2.2.2.2.2.2.2.1 zg_1_6_0.2.2.2.2.2.2.2.2.2.2.2.1 (by decide), rfl, rfl⟩
theorem zd_1_6_22 : zz_D zy_cut_1_6 22 (.aload_n 0) 1 23 := ⟨zq_42 zg_1_6_0.2.2.2.2.2.2.2.2.2.2.2.2.1, rfl⟩
theorem zd_1_6_23 : zz_D zy_cut_1_6 23 (.iload_n 1) 1 24 := ⟨zq_27 zg_1_6_0.2.2.2.2.2.2.2.2.2.2.2.2.2.1, rfl⟩
theorem zd_1_6_24 : zz_D zy_cut_1_6 24 (.putfield 26) 3 27 := ⟨zq_181 zg_1_6_0.2.2.2.2.2.2.2.2.2.2.2.2.2.2.1 zg_1_6_0.2.2.2.2.2.2.2.2.2.2.2.2.2.2.2.1 zg_1_6_0.2.2.2.2.2.2.2.2.2.2.2.2.2.2.2.2.1 rfl, rfl⟩
theorem zd_1_6_27 : zz_D zy_cut_1_6 27 (.return_) 1 28 := ⟨zq_177 zg_1_6_0.2.2.2.2.2.2.2.2.2.2.2.2.2.2.2.2.2, rfl⟩
-- TensorForge cut (I)V
abbrev zr_cut_1_6 : Room := { frames := 6, cells := 1, slots := 6, locals := 82 }
def zp_cut_1_6 (p0 : Int) (S0 : zz_S) : zz_S → Prop := fun S => zz_G S ∧ zz_fr [(1000, 11)] [] (fun _ _ => False) S0 S
def zx_cut_1_6 (p0 : Int) (S0 : zz_S) : Nat → zz_S → Prop := fun i S => zz_G S ∧ zz_fr [(1000, 11)] [] (fun _ _ => False) S0 S ∧ (i < 4) ∧ (i = 0)
theorem zc_cut_1_6 {g : mm_G} {l : Launch} (p0 : Int) (S0 : zz_S) (n : Nat) (hn : zz_end ≤ n) (hfl : l.flags = flags0) (G_S0 : zz_G S0) (hp0 : (-2147483648) ≤ p0 ∧ p0 ≤ 2147483647) : mm_Met g l zy_cut_1_6 zr_cut_1_6 [.ref 1000, zi p0] (zz_M S0 n) n (zz_XV n (zp_cut_1_6 p0 S0) (zx_cut_1_6 p0 S0)) := by
  refine zz_enter (by decide) (Nat.le_of_ble_eq_true rfl) (zz_less (ls1 := [some (.ref 1000), some (zi p0)]) ⟨rfl, ⟨rfl, trivial⟩⟩ ?_)
  have F_S0 : zz_fr [(1000, 11)] [] (fun _ _ => False) S0 S0 := zz_fr.refl
  refine zz_iload_n (x := p0) rfl zd_1_6_0 ?_
  refine zz_if_lt (by omega) zd_1_6_1 (fun c1 => ?_) (fun c1 => ?_)
  · exact zz_throw (i := 0) hfl hn zt_1_6_12 zyw_cut_1_6 zxl_TF_87_131_91 (Nat.le_of_ble_eq_true rfl) (Nat.le_of_ble_eq_true rfl) ⟨Nat.le_of_ble_eq_true rfl, Nat.le_of_ble_eq_true rfl⟩ (Or.inr ⟨_, _, rfl, G_S0, F_S0, by omega, by omega⟩)
  · refine zz_iload_n (x := p0) rfl zd_1_6_4 ?_
    refine zz_aload_n (x := 1000) rfl zd_1_6_5 ?_
    have g2 := zz_G.r G_S0 1000 11 0 600 rfl rfl
    refine zz_geti (z := S0 1000 11) zd_1_6_6 zf_TF_26 zT_1000 rfl (zz_ltn hn rfl) rfl ?_
    refine zz_icmp_le (by omega) (by omega) zd_1_6_9 (fun c3 => ?_) (fun c3 => ?_)
    · refine zz_aload_n (x := 1000) rfl zd_1_6_22 ?_
      refine zz_iload_n (x := p0) rfl zd_1_6_23 ?_
      refine zz_puti zd_1_6_24 zf_TF_26 zT_1000 rfl (zz_ltn hn rfl) (fun S4 qS4 => ?_)
      have G_S4 := zz_G.put G_S0 qS4 0 600 rfl (by omega)
      have F_S4 := zz_fr.puts F_S0 qS4 rfl
      exact zz_vret zd_1_6_27 rfl (Nat.le_of_ble_eq_true rfl) (Nat.le_of_ble_eq_true rfl) (Or.inl ⟨_, rfl, G_S4, F_S4⟩)
    · exact zz_throw (i := 0) hfl hn zt_1_6_12 zyw_cut_1_6 zxl_TF_87_131_91 (Nat.le_of_ble_eq_true rfl) (Nat.le_of_ble_eq_true rfl) ⟨Nat.le_of_ble_eq_true rfl, Nat.le_of_ble_eq_true rfl⟩ (Or.inr ⟨_, _, rfl, G_S0, F_S0, by omega, by omega⟩)
abbrev zy_wordOf_1_7 : mm_Y := (⟨"TensorForge", "wordOf", "(I)J"⟩, prog_1_method_7_code, 2, (some .long))
theorem zyw_wordOf_1_7 : mm_Yw zy_wordOf_1_7 1 := ⟨mm_tb_1 1206 (by decide +kernel) rfl, mm_tb_1 1 (by decide +kernel) rfl, ⟨by decide, by decide⟩, by decide +kernel⟩
theorem zt_1_7_12 : zz_Thr zy_wordOf_1_7 12 101 124 105 := ⟨by decide +kernel, by decide +kernel, by decide +kernel, by decide +kernel, by decide +kernel⟩
theorem zg_1_7_0 : zq_at zy_wordOf_1_7.2.1 0 27 ∧ zq_at zy_wordOf_1_7.2.1 1 155 ∧ zq_at zy_wordOf_1_7.2.1 2 0 ∧ zq_at zy_wordOf_1_7.2.1 3 11 ∧ zq_at zy_wordOf_1_7.2.1 4 27 ∧ zq_at zy_wordOf_1_7.2.1 5 42 ∧ zq_at zy_wordOf_1_7.2.1 6 180 ∧ zq_at zy_wordOf_1_7.2.1 7 0 ∧ zq_at zy_wordOf_1_7.2.1 8 26 ∧ zq_at zy_wordOf_1_7.2.1 9 161 ∧ zq_at zy_wordOf_1_7.2.1 10 0 ∧ zq_at zy_wordOf_1_7.2.1 11 13 ∧ zq_at zy_wordOf_1_7.2.1 22 42 ∧ zq_at zy_wordOf_1_7.2.1 23 180 ∧ zq_at zy_wordOf_1_7.2.1 24 0 ∧ zq_at zy_wordOf_1_7.2.1 25 19 ∧ zq_at zy_wordOf_1_7.2.1 26 27 ∧ zq_at zy_wordOf_1_7.2.1 27 47 ∧ zq_at zy_wordOf_1_7.2.1 28 173 := by decide +kernel
theorem zd_1_7_0 : zz_D zy_wordOf_1_7 0 (.iload_n 1) 1 1 := ⟨zq_27 zg_1_7_0.1, rfl⟩
theorem zd_1_7_1 : zz_B zy_wordOf_1_7 1 (Instr.ifCond .lt) 12 4 := ⟨11, zq_155 zg_1_7_0.2.1 zg_1_7_0.2.2.1 zg_1_7_0.2.2.2.1 (by decide), rfl, rfl⟩
theorem zd_1_7_4 : zz_D zy_wordOf_1_7 4 (.iload_n 1) 1 5 := ⟨zq_27 zg_1_7_0.2.2.2.2.1, rfl⟩
theorem zd_1_7_5 : zz_D zy_wordOf_1_7 5 (.aload_n 0) 1 6 := ⟨zq_42 zg_1_7_0.2.2.2.2.2.1, rfl⟩
theorem zd_1_7_6 : zz_D zy_wordOf_1_7 6 (.getfield 26) 3 9 := ⟨zq_180 zg_1_7_0.2.2.2.2.2.2.1 zg_1_7_0.2.2.2.2.2.2.2.1 zg_1_7_0.2.2.2.2.2.2.2.2.1 rfl, rfl⟩
theorem zd_1_7_9 : zz_B zy_wordOf_1_7 9 (Instr.if_icmp .lt) 22 12 := ⟨13, zq_161 zg_1_7_0.2.2.2.2.2.2.2.2.2.1 zg_1_7_0.2.2.2.2.2.2.2.2.2.2.1 zg_1_7_0.2.2.2.2.2.2.2.2.2.2.2.1 (by decide), rfl, rfl⟩
theorem zd_1_7_22 : zz_D zy_wordOf_1_7 22 (.aload_n 0) 1 23 := ⟨zq_42 zg_1_7_0.2.2.2.2.2.2.2.2.2.2.2.2.1, rfl⟩
theorem zd_1_7_23 : zz_D zy_wordOf_1_7 23 (.getfield 19) 3 26 := ⟨zq_180 zg_1_7_0.2.2.2.2.2.2.2.2.2.2.2.2.2.1 zg_1_7_0.2.2.2.2.2.2.2.2.2.2.2.2.2.2.1 zg_1_7_0.2.2.2.2.2.2.2.2.2.2.2.2.2.2.2.1 rfl, rfl⟩
theorem zd_1_7_26 : zz_D zy_wordOf_1_7 26 (.iload_n 1) 1 27 := ⟨zq_27 zg_1_7_0.2.2.2.2.2.2.2.2.2.2.2.2.2.2.2.2.1, rfl⟩
theorem zd_1_7_27 : zz_D zy_wordOf_1_7 27 (.laload) 1 28 := ⟨zq_47 zg_1_7_0.2.2.2.2.2.2.2.2.2.2.2.2.2.2.2.2.2.1, rfl⟩
theorem zd_1_7_28 : zz_D zy_wordOf_1_7 28 (.lreturn) 1 29 := ⟨zq_173 zg_1_7_0.2.2.2.2.2.2.2.2.2.2.2.2.2.2.2.2.2.2, rfl⟩
-- TensorForge wordOf (I)J
abbrev zr_wordOf_1_7 : Room := { frames := 6, cells := 1, slots := 6, locals := 82 }
def zp_wordOf_1_7 (p0 : Int) (S0 : zz_S) : Int → zz_S → Prop := fun r S => S0 = S ∧ ((-9223372036854775808) ≤ r ∧ r ≤ 9223372036854775807)
def zx_wordOf_1_7 (p0 : Int) (S0 : zz_S) : Nat → zz_S → Prop := fun i S => S0 = S ∧ (i < 4) ∧ (i = 1)
theorem zc_wordOf_1_7 {g : mm_G} {l : Launch} (p0 : Int) (S0 : zz_S) (n : Nat) (hn : zz_end ≤ n) (hfl : l.flags = flags0) (G_S0 : zz_G S0) (hp0 : (-2147483648) ≤ p0 ∧ p0 ≤ 2147483647) : mm_Met g l zy_wordOf_1_7 zr_wordOf_1_7 [.ref 1000, zi p0] (zz_M S0 n) n (zz_XJ n (zp_wordOf_1_7 p0 S0) (zx_wordOf_1_7 p0 S0)) := by
  refine zz_enter (by decide) (Nat.le_of_ble_eq_true rfl) (zz_less (ls1 := [some (.ref 1000), some (zi p0)]) ⟨rfl, ⟨rfl, trivial⟩⟩ ?_)
  refine zz_iload_n (x := p0) rfl zd_1_7_0 ?_
  refine zz_if_lt (by omega) zd_1_7_1 (fun c1 => ?_) (fun c1 => ?_)
  · exact zz_throw (i := 1) hfl hn zt_1_7_12 zyw_wordOf_1_7 zxl_TF_101_124_105 (Nat.le_of_ble_eq_true rfl) (Nat.le_of_ble_eq_true rfl) ⟨Nat.le_of_ble_eq_true rfl, Nat.le_of_ble_eq_true rfl⟩ (Or.inr ⟨_, _, rfl, rfl, by omega, by omega⟩)
  · refine zz_iload_n (x := p0) rfl zd_1_7_4 ?_
    refine zz_aload_n (x := 1000) rfl zd_1_7_5 ?_
    have g2 := zz_G.r G_S0 1000 11 0 600 rfl rfl
    refine zz_geti (z := S0 1000 11) zd_1_7_6 zf_TF_26 zT_1000 rfl (zz_ltn hn rfl) rfl ?_
    refine zz_icmp_lt (by omega) (by omega) zd_1_7_9 (fun c3 => ?_) (fun c3 => ?_)
    · refine zz_aload_n (x := 1000) rfl zd_1_7_22 ?_
      have g4 := zz_G.r G_S0 1000 9 0 1 rfl rfl
      refine zz_getr (kd := 2) (z := S0 1000 9) zd_1_7_23 zf_TF_19 zT_1000 rfl (zz_ltn hn rfl) rfl (by omega) (zz_rf 4 (S0 1000 9)) rfl ?_
      refine zz_iload_n (x := p0) rfl zd_1_7_26 ?_
      have g5 := zz_G.r G_S0 (zz_rf 4 (S0 1000 9)) p0.toNat (-9223372036854775808) 9223372036854775807 (zR_k4 (by omega)) (zB_k4 (by omega))
      refine zz_lald (z := S0 (zz_rf 4 (S0 1000 9)) p0.toNat) zd_1_7_27 (zT_k4 (by omega)) rfl (zN_k4 hn (by omega)) (by decide) (by omega) rfl ?_
      exact zz_lret zd_1_7_28 rfl (Nat.le_of_ble_eq_true rfl) (Nat.le_of_ble_eq_true rfl) (Or.inl ⟨_, _, rfl, rfl, by omega⟩)
    · exact zz_throw (i := 1) hfl hn zt_1_7_12 zyw_wordOf_1_7 zxl_TF_101_124_105 (Nat.le_of_ble_eq_true rfl) (Nat.le_of_ble_eq_true rfl) ⟨Nat.le_of_ble_eq_true rfl, Nat.le_of_ble_eq_true rfl⟩ (Or.inr ⟨_, _, rfl, rfl, by omega, by omega⟩)
abbrev zy_length_1_8 : mm_Y := (⟨"TensorForge", "length", "()I"⟩, prog_1_method_8_code, 1, (some .int))
theorem zyw_length_1_8 : mm_Yw zy_length_1_8 0 := ⟨mm_tb_1 480 (by decide +kernel) rfl, mm_tb_1 1 (by decide +kernel) rfl, ⟨by decide, by decide⟩, by decide +kernel⟩
theorem zg_1_8_0 : zq_at zy_length_1_8.2.1 0 42 ∧ zq_at zy_length_1_8.2.1 1 180 ∧ zq_at zy_length_1_8.2.1 2 0 ∧ zq_at zy_length_1_8.2.1 3 26 ∧ zq_at zy_length_1_8.2.1 4 172 := by decide +kernel
theorem zd_1_8_0 : zz_D zy_length_1_8 0 (.aload_n 0) 1 1 := ⟨zq_42 zg_1_8_0.1, rfl⟩
theorem zd_1_8_1 : zz_D zy_length_1_8 1 (.getfield 26) 3 4 := ⟨zq_180 zg_1_8_0.2.1 zg_1_8_0.2.2.1 zg_1_8_0.2.2.2.1 rfl, rfl⟩
theorem zd_1_8_4 : zz_D zy_length_1_8 4 (.ireturn) 1 5 := ⟨zq_172 zg_1_8_0.2.2.2.2, rfl⟩
-- TensorForge length ()I
abbrev zr_length_1_8 : Room := { frames := 0, cells := 0, slots := 0, locals := 0 }
def zp_length_1_8  (S0 : zz_S) : Int → zz_S → Prop := fun r S => S0 = S ∧ ((-2147483648) ≤ r ∧ r ≤ 2147483647)
theorem zc_length_1_8 {g : mm_G} {l : Launch}  (S0 : zz_S) (n : Nat) (hn : zz_end ≤ n) (G_S0 : zz_G S0)  : mm_Met g l zy_length_1_8 zr_length_1_8 [.ref 1000] (zz_M S0 n) n (zz_QI n (zp_length_1_8  S0)) := by
  refine zz_enter (by decide) (Nat.le_of_ble_eq_true rfl) (zz_less (ls1 := [some (.ref 1000)]) ⟨rfl, trivial⟩ ?_)
  refine zz_aload_n (x := 1000) rfl zd_1_8_0 ?_
  have g1 := zz_G.r G_S0 1000 11 0 600 rfl rfl
  refine zz_geti (z := S0 1000 11) zd_1_8_1 zf_TF_26 zT_1000 rfl (zz_ltn hn rfl) rfl ?_
  exact zz_iret zd_1_8_4 rfl (Nat.zero_le _) (Nat.zero_le _) ⟨_, _, rfl, rfl, by omega⟩
abbrev zy_field_1_9 : mm_Y := (⟨"TensorForge", "field", "(JI)I"⟩, prog_1_method_9_code, 4, (some .int))
theorem zyw_field_1_9 : mm_Yw zy_field_1_9 2 := ⟨mm_tb_1 1213 (by decide +kernel) rfl, mm_tb_1 1 (by decide +kernel) rfl, ⟨by decide, by decide⟩, by decide +kernel⟩
theorem zt_1_9_10 : zz_Thr zy_field_1_9 10 87 135 91 := ⟨by decide +kernel, by decide +kernel, by decide +kernel, by decide +kernel, by decide +kernel⟩
theorem zxl_TF_87_135_91 : mm_Xl "TensorForge" 87 135 91 0 := ⟨mm_tb_1 1048 (by decide +kernel) rfl, mm_tb_1 1049 (by decide +kernel) rfl, mm_tb_1 16 (by decide +kernel) rfl, ⟨37, by decide +kernel⟩, zxa_TF_91⟩
abbrev zy_get_12_2 : mm_Y := (⟨"TensorForge$Words", "get", "(JI)I"⟩, prog_12_method_2_code, 3, (some .int))
theorem zyw_get_12_2 : mm_Yw zy_get_12_2 2 := ⟨mm_tb_1 494 (by decide +kernel) rfl, mm_tb_1 20 (by decide +kernel) rfl, ⟨by decide, by decide⟩, by decide +kernel⟩
theorem zs_Words_9 : Cond.fieldLink "TensorForge$Words" 9 "TensorForge$Words" "LOWEST_BIT" "[I" ∈ mm_tb := mm_tb_1 495 (by decide +kernel) rfl
theorem zz_sta1 {i : Int} (h : 0 ≤ i ∧ i < 12) : ∃ z : Int, (0 ≤ z ∧ z ≤ 59) ∧ ([0, 4, 5, 6, 7, 8, 20, 26, 31, 40, 49, 59] : List Int32).getD i.toNat 0 = Int32.ofInt z := by
  have : i = 0 ∨ i = 1 ∨ i = 2 ∨ i = 3 ∨ i = 4 ∨ i = 5 ∨ i = 6 ∨ i = 7 ∨ i = 8 ∨ i = 9 ∨ i = 10 ∨ i = 11 := by omega
  rcases this with rfl | rfl | rfl | rfl | rfl | rfl | rfl | rfl | rfl | rfl | rfl | rfl
  · exact ⟨0, by decide, by decide⟩
  · exact ⟨4, by decide, by decide⟩
  · exact ⟨5, by decide, by decide⟩
  · exact ⟨6, by decide, by decide⟩
  · exact ⟨7, by decide, by decide⟩
  · exact ⟨8, by decide, by decide⟩
  · exact ⟨20, by decide, by decide⟩
  · exact ⟨26, by decide, by decide⟩
  · exact ⟨31, by decide, by decide⟩
  · exact ⟨40, by decide, by decide⟩
  · exact ⟨49, by decide, by decide⟩
  · exact ⟨59, by decide, by decide⟩
theorem zs_Words_13 : Cond.fieldLink "TensorForge$Words" 13 "TensorForge$Words" "MOST" "[I" ∈ mm_tb := mm_tb_1 497 (by decide +kernel) rfl
theorem zz_sta2 {i : Int} (h : 0 ≤ i ∧ i < 12) : ∃ z : Int, (1 ≤ z ∧ z ≤ 4095) ∧ ([15, 1, 1, 1, 1, 4095, 63, 31, 511, 511, 1023, 31] : List Int32).getD i.toNat 0 = Int32.ofInt z := by
  have : i = 0 ∨ i = 1 ∨ i = 2 ∨ i = 3 ∨ i = 4 ∨ i = 5 ∨ i = 6 ∨ i = 7 ∨ i = 8 ∨ i = 9 ∨ i = 10 ∨ i = 11 := by omega
  rcases this with rfl | rfl | rfl | rfl | rfl | rfl | rfl | rfl | rfl | rfl | rfl | rfl
  · exact ⟨15, by decide, by decide⟩
  · exact ⟨1, by decide, by decide⟩
  · exact ⟨1, by decide, by decide⟩
  · exact ⟨1, by decide, by decide⟩
  · exact ⟨1, by decide, by decide⟩
  · exact ⟨4095, by decide, by decide⟩
  · exact ⟨63, by decide, by decide⟩
  · exact ⟨31, by decide, by decide⟩
  · exact ⟨511, by decide, by decide⟩
  · exact ⟨511, by decide, by decide⟩
  · exact ⟨1023, by decide, by decide⟩
  · exact ⟨31, by decide, by decide⟩
theorem zg_1_9_0 : zq_at zy_field_1_9.2.1 0 29 ∧ zq_at zy_field_1_9.2.1 1 155 ∧ zq_at zy_field_1_9.2.1 2 0 ∧ zq_at zy_field_1_9.2.1 3 9 ∧ zq_at zy_field_1_9.2.1 4 29 ∧ zq_at zy_field_1_9.2.1 5 16 ∧ zq_at zy_field_1_9.2.1 6 12 ∧ zq_at zy_field_1_9.2.1 7 161 ∧ zq_at zy_field_1_9.2.1 8 0 ∧ zq_at zy_field_1_9.2.1 9 13 ∧ zq_at zy_field_1_9.2.1 20 31 ∧ zq_at zy_field_1_9.2.1 21 29 ∧ zq_at zy_field_1_9.2.1 22 184 ∧ zq_at zy_field_1_9.2.1 23 0 ∧ zq_at zy_field_1_9.2.1 24 137 := by decide +kernel
theorem zd_1_9_0 : zz_D zy_field_1_9 0 (.iload_n 3) 1 1 := ⟨zq_29 zg_1_9_0.1, rfl⟩
theorem zd_1_9_1 : zz_B zy_field_1_9 1 (Instr.ifCond .lt) 10 4 := ⟨9, zq_155 zg_1_9_0.2.1 zg_1_9_0.2.2.1 zg_1_9_0.2.2.2.1 (by decide), rfl, rfl⟩
theorem zd_1_9_4 : zz_D zy_field_1_9 4 (.iload_n 3) 1 5 := ⟨zq_29 zg_1_9_0.2.2.2.2.1, rfl⟩
theorem zd_1_9_5 : zz_D zy_field_1_9 5 (.bipush 12) 2 7 := ⟨zq_16 zg_1_9_0.2.2.2.2.2.1 zg_1_9_0.2.2.2.2.2.2.1 (by decide), rfl⟩

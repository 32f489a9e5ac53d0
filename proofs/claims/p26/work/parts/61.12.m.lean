-- TensorForgeModel compile ()I
abbrev zr_compile_14_89 : Room := { frames := 8, cells := 0, slots := 0, locals := 144 }
def zp_compile_14_89  (S0 : zz_S) : Int → zz_S → Prop := fun r S => zz_G S ∧ zz_fr [(1079, 0), (1079, 7), (1079, 10), (1079, 50), (1079, 51), (1079, 52), (1079, 53), (1079, 54), (1079, 55), (1079, 56), (1079, 57), (1079, 60)] [1085, 1086, 1087] (fun _ _ => False) S0 S ∧ ((-2147483648) ≤ r ∧ r ≤ 2147483647)
theorem zb_compile_14_89_7 {g : mm_G} {l : Launch}  (S0 : zz_S) (n : Nat) (hn : zz_end ≤ n) (G_S0 : zz_G S0)  (x1 : Int) (S : zz_S) (G_S : zz_G S) (F_S : zz_fr [(1079, 0), (1079, 7), (1079, 10), (1079, 50), (1079, 51), (1079, 52), (1079, 53), (1079, 54), (1079, 55), (1079, 56), (1079, 57), (1079, 60)] [1085, 1086, 1087] (fun _ _ => False) S0 S) (i7_0 : 0 ≤ x1 ∧ x1 ≤ 10) (i7_1 : S 1079 10 ≤ 2600 + 5 * x1) (R : Nat) (hR : (2147483647 - x1).toNat = R) (k7 : ∀ (x1 : Int) (S : zz_S), zz_G S → zz_fr [(1079, 0), (1079, 7), (1079, 10), (1079, 50), (1079, 51), (1079, 52), (1079, 53), (1079, 54), (1079, 55), (1079, 56), (1079, 57), (1079, 60)] [1085, 1086, 1087] (fun _ _ => False) S0 S → (0 ≤ x1 ∧ x1 ≤ 10) → (S 1079 10 ≤ 2600 + 5 * x1) → (2147483647 - x1).toNat < R → zz_E g l zy_compile_14_89 zr_compile_14_89 (zz_QI n (zp_compile_14_89  S0)) S n 7 [some (.ref 1079), some (zi x1)] [] 0 0) : zz_E g l zy_compile_14_89 zr_compile_14_89 (zz_QI n (zp_compile_14_89  S0)) S n 7 [some (.ref 1079), some (zi x1)] [] 0 0 := by
  refine zz_iload_n (x := x1) rfl zd_14_89_7 ?_
  refine zz_aload_n (x := 1079) rfl zd_14_89_8 ?_
  have g3 := zz_G.r G_S0 1079 36 0 11 rfl rfl
  refine zz_geti (z := S0 1079 36) zd_14_89_9 zf_Md_85 zT_1079 rfl (zz_ltn hn rfl) (zz_rc F_S rfl rfl (fun h => h) rfl) ?_
  refine zz_iconst zd_14_89_12 ?_
  refine zz_isub zd_14_89_13 ?_
  refine zz_icmp_ge (by omega) (by omega) zd_14_89_14 (fun c4 => ?_) (fun c4 => ?_)
  · refine zz_aload_n (x := 1079) rfl zd_14_89_28 ?_
    refine zz_aload_n (x := 1079) rfl zd_14_89_29 ?_
    have g5 := zz_G.r G_S 1079 10 0 1000000 rfl rfl
    refine zz_geti (z := S 1079 10) zd_14_89_30 zf_Md_372 zT_1079 rfl (zz_ltn hn rfl) rfl ?_
    refine zz_sipush (by decide) zd_14_89_33 ?_
    refine zz_icmp_le (by omega) (by omega) zd_14_89_36 (fun c6 => ?_) (fun c6 => ?_)
    · refine zz_iconst zd_14_89_43 ?_
      refine zz_iconst zd_14_89_44 ?_
      refine zz_iconst zd_14_89_45 ?_
      have g7 := zz_G.r G_S 1079 0 0 3 rfl rfl
      refine zz_callVI [zi 0, zi 0, zi 0] zd_14_89_46 zk_Md_196 zT_1079 (zz_ltn hn rfl) rfl rfl ⟨Nat.le_of_ble_eq_true rfl, Nat.le_of_ble_eq_true rfl⟩ ⟨rfl, rfl⟩ (Nat.zero_le _) (Nat.zero_le _) (zc_refuse_14_3 0 0 0 S n hn G_S (by omega) (by omega) (by omega)) (fun v9 S8 hP => ?_)
      obtain ⟨G_S8, fS8, o10, o11⟩ := hP
      have F_S8 := zz_fr.trans F_S fS8 rfl zz_nv
      rcases (by omega : v9 = 0 ∨ v9 = 1) with rfl | rfl
      · have e12 : S8 1079 0 = 0 := by omega
        clear o11
        refine zz_if_eq (by omega) zd_14_89_49 (fun c13 => ?_) (fun c13 => ?_)
        · refine zz_aload_n (x := 1079) rfl zd_14_89_54 ?_
          have e14 : S8 1079 10 = S 1079 10 := (zz_rc fS8 rfl rfl (fun h => h) rfl)
          refine zz_callVV [] zd_14_89_55 zk_Md_382 zT_1079 (zz_ltn hn rfl) rfl rfl ⟨Nat.le_of_ble_eq_true rfl, Nat.le_of_ble_eq_true rfl⟩ ⟨rfl, rfl⟩ (Nat.zero_le _) (Nat.zero_le _) (zc_takeMade_14_56  S8 n hn G_S8 (by omega)) (fun S15 hP => ?_)
          obtain ⟨G_S15, fS15⟩ := hP
          have F_S15 := zz_fr.trans F_S8 fS15 rfl zz_nv
          refine zz_aload_n (x := 1079) rfl zd_14_89_58 ?_
          have g17 := zz_G.r G_S15 1079 7 0 600 rfl rfl
          refine zz_geti (z := S15 1079 7) zd_14_89_59 zf_Md_224 zT_1079 rfl (zz_ltn hn rfl) rfl ?_
          exact zz_iret zd_14_89_62 rfl (Nat.zero_le _) (Nat.zero_le _) ⟨_, _, rfl, G_S15, F_S15, by omega⟩
        · exfalso; omega
      · exfalso; omega
    · refine zz_iconst zd_14_89_39 ?_
      refine zz_goto zd_14_89_40 ?_
      refine zz_iconst zd_14_89_44 ?_
      refine zz_iconst zd_14_89_45 ?_
      have g18 := zz_G.r G_S 1079 0 0 3 rfl rfl
      refine zz_callVI [zi 1, zi 0, zi 0] zd_14_89_46 zk_Md_196 zT_1079 (zz_ltn hn rfl) rfl rfl ⟨Nat.le_of_ble_eq_true rfl, Nat.le_of_ble_eq_true rfl⟩ ⟨rfl, rfl⟩ (Nat.zero_le _) (Nat.zero_le _) (zc_refuse_14_3 1 0 0 S n hn G_S (by omega) (by omega) (by omega)) (fun v20 S19 hP => ?_)
      obtain ⟨G_S19, fS19, o21, o22⟩ := hP
      have F_S19 := zz_fr.trans F_S fS19 rfl zz_nv
      rcases (by omega : v20 = 0 ∨ v20 = 1) with rfl | rfl
      · exfalso; omega
      · have e23 : S19 1079 0 = 1 := by omega
        clear o22
        refine zz_if_eq (by omega) zd_14_89_49 (fun c24 => ?_) (fun c24 => ?_)
        · exfalso; omega
        · refine zz_iconst zd_14_89_52 ?_
          exact zz_iret zd_14_89_53 rfl (Nat.zero_le _) (Nat.zero_le _) ⟨_, _, rfl, G_S19, F_S19, by omega⟩
  · refine zz_aload_n (x := 1079) rfl zd_14_89_17 ?_
    refine zz_iload_n (x := x1) rfl zd_14_89_18 ?_
    have g25 := zz_G.r G_S 1079 10 0 1000000 rfl rfl
    refine zz_callVV [zi x1] zd_14_89_19 zk_Md_512 zT_1079 (zz_ltn hn rfl) rfl rfl ⟨Nat.le_of_ble_eq_true rfl, Nat.le_of_ble_eq_true rfl⟩ ⟨rfl, rfl⟩ (Nat.zero_le _) (Nat.zero_le _) (zc_layer_14_88 x1 S n hn G_S (by omega) (by omega)) (fun S26 hP => ?_)
    obtain ⟨G_S26, fS26, o28⟩ := hP
    have F_S26 := zz_fr.trans F_S fS26 rfl zz_nv
    refine zz_iinc [some (.ref 1079), some (zi (x1 + 1))] zd_14_89_22 rfl rfl ?_
    refine zz_goto zd_14_89_25 ?_
    have g29 := zz_G.r G_S26 1079 10 0 1000000 rfl rfl
    refine zz_less (ls1 := [some (.ref 1079), some (zi (x1 + 1))]) ⟨rfl, ⟨rfl, trivial⟩⟩ ?_
    exact k7 (x1 + 1) S26 G_S26 F_S26 (by omega) (by omega) (by omega)
theorem zi_compile_14_89 {g : mm_G} {l : Launch}  (S0 : zz_S) (n : Nat) (hn : zz_end ≤ n) (G_S0 : zz_G S0)  : ∀ N : Nat, (∀ (x1 : Int) (S : zz_S), zz_G S → zz_fr [(1079, 0), (1079, 7), (1079, 10), (1079, 50), (1079, 51), (1079, 52), (1079, 53), (1079, 54), (1079, 55), (1079, 56), (1079, 57), (1079, 60)] [1085, 1086, 1087] (fun _ _ => False) S0 S → (0 ≤ x1 ∧ x1 ≤ 10) → (S 1079 10 ≤ 2600 + 5 * x1) → (2147483647 - x1).toNat < N → zz_E g l zy_compile_14_89 zr_compile_14_89 (zz_QI n (zp_compile_14_89  S0)) S n 7 [some (.ref 1079), some (zi x1)] [] 0 0) := by
  intro N
  induction N with
  | zero => exact fun x1 S _ _ _ _ h => absurd h (Nat.not_lt_zero _)
  | succ N ih =>
    exact fun x1 S a b j0 j1 hR => zb_compile_14_89_7  S0 n hn G_S0  x1 S a b j0 j1 _ rfl (fun x1 S a b j0 j1 h => ih x1 S a b j0 j1 (Nat.lt_of_lt_of_le h (Nat.le_of_lt_succ hR)))
theorem zc_compile_14_89 {g : mm_G} {l : Launch}  (S0 : zz_S) (n : Nat) (hn : zz_end ≤ n) (G_S0 : zz_G S0)  : mm_Met g l zy_compile_14_89 zr_compile_14_89 [.ref 1079] (zz_M S0 n) n (zz_QI n (zp_compile_14_89  S0)) := by
  refine zz_enter (by decide) (Nat.le_of_ble_eq_true rfl) (zz_less (ls1 := [some (.ref 1079)]) ⟨rfl, trivial⟩ ?_)
  have F_S0 : zz_fr [(1079, 0), (1079, 7), (1079, 10), (1079, 50), (1079, 51), (1079, 52), (1079, 53), (1079, 54), (1079, 55), (1079, 56), (1079, 57), (1079, 60)] [1085, 1086, 1087] (fun _ _ => False) S0 S0 := zz_fr.refl
  have k7 : ∀ (x1 : Int) (S : zz_S), zz_G S → zz_fr [(1079, 0), (1079, 7), (1079, 10), (1079, 50), (1079, 51), (1079, 52), (1079, 53), (1079, 54), (1079, 55), (1079, 56), (1079, 57), (1079, 60)] [1085, 1086, 1087] (fun _ _ => False) S0 S → (0 ≤ x1 ∧ x1 ≤ 10) → (S 1079 10 ≤ 2600 + 5 * x1) → zz_E g l zy_compile_14_89 zr_compile_14_89 (zz_QI n (zp_compile_14_89  S0)) S n 7 [some (.ref 1079), some (zi x1)] [] 0 0 := fun x1 S a b j0 j1 => (zi_compile_14_89 (g := g) (l := l)  S0 n hn G_S0  _) x1 S a b j0 j1 (Nat.lt_succ_self _)
  refine zz_aload_n (x := 1079) rfl zd_14_89_0 ?_
  refine zz_iconst zd_14_89_1 ?_
  refine zz_puti zd_14_89_2 zf_Md_372 zT_1079 rfl (zz_ltn hn rfl) (fun S1 qS1 => ?_)
  have G_S1 := zz_G.put G_S0 qS1 0 1000000 rfl (by omega)
  have F_S1 := zz_fr.puts F_S0 qS1 rfl
  refine zz_iconst zd_14_89_5 ?_
  refine zz_istore_n [some (.ref 1079), some (zi 0)] zd_14_89_6 (by decide) rfl ?_
  have e2 : S1 1079 10 = 0 := (zz_rs qS1)
  refine zz_less (ls1 := [some (.ref 1079), some (zi 0)]) ⟨rfl, ⟨rfl, trivial⟩⟩ ?_
  exact k7 0 S1 G_S1 F_S1 (by omega) (by omega)
abbrev zy_advanceNet_14_93 : mm_Y := (⟨"TensorForgeModel", "advanceNet", "()V"⟩, prog_14_method_93_code, 2, none)
theorem zyw_advanceNet_14_93 : mm_Yw zy_advanceNet_14_93 0 := ⟨mm_tb_1 2199 (by decide +kernel) rfl, mm_tb_1 12 (by decide +kernel) rfl, ⟨by decide, by decide⟩, by decide +kernel⟩
theorem zf_Md_522 : mm_Fl "TensorForgeModel" 522 11 61 .long false := ⟨R_Md, F_Md, 69, t_Md, rfl, i_Md, by decide, mm_tb_1 1672 (by decide +kernel) rfl, rfl, t_Md_ok, n_Md, rfl, by decide +kernel⟩
theorem zg_14_93_0 : zq_at zy_advanceNet_14_93.2.1 0 42 ∧ zq_at zy_advanceNet_14_93.2.1 1 180 ∧ zq_at zy_advanceNet_14_93.2.1 2 1 ∧ zq_at zy_advanceNet_14_93.2.1 3 78 ∧ zq_at zy_advanceNet_14_93.2.1 4 42 ∧ zq_at zy_advanceNet_14_93.2.1 5 180 ∧ zq_at zy_advanceNet_14_93.2.1 6 1 ∧ zq_at zy_advanceNet_14_93.2.1 7 81 ∧ zq_at zy_advanceNet_14_93.2.1 8 162 ∧ zq_at zy_advanceNet_14_93.2.1 9 0 ∧ zq_at zy_advanceNet_14_93.2.1 10 30 ∧ zq_at zy_advanceNet_14_93.2.1 38 42 ∧ zq_at zy_advanceNet_14_93.2.1 39 180 ∧ zq_at zy_advanceNet_14_93.2.1 40 1 ∧ zq_at zy_advanceNet_14_93.2.1 41 78 ∧ zq_at zy_advanceNet_14_93.2.1 42 60 ∧ zq_at zy_advanceNet_14_93.2.1 43 42 ∧ zq_at zy_advanceNet_14_93.2.1 44 180 ∧ zq_at zy_advanceNet_14_93.2.1 45 1 ∧ zq_at zy_advanceNet_14_93.2.1 46 78 ∧ zq_at zy_advanceNet_14_93.2.1 47 42 ∧ zq_at zy_advanceNet_14_93.2.1 48 180 ∧ zq_at zy_advanceNet_14_93.2.1 49 1 ∧ zq_at zy_advanceNet_14_93.2.1 50 81 := by decide +kernel
theorem zd_14_93_0 : zz_D zy_advanceNet_14_93 0 (.aload_n 0) 1 1 := ⟨zq_42 zg_14_93_0.1, rfl⟩
theorem zd_14_93_1 : zz_D zy_advanceNet_14_93 1 (.getfield 334) 3 4 := ⟨zq_180 zg_14_93_0.2.1 zg_14_93_0.2.2.1 zg_14_93_0.2.2.2.1 rfl, rfl⟩
theorem zd_14_93_4 : zz_D zy_advanceNet_14_93 4 (.aload_n 0) 1 5 := ⟨zq_42 zg_14_93_0.2.2.2.2.1, rfl⟩
theorem zd_14_93_5 : zz_D zy_advanceNet_14_93 5 (.getfield 337) 3 8 := ⟨zq_180 zg_14_93_0.2.2.2.2.2.1 zg_14_93_0.2.2.2.2.2.2.1 zg_14_93_0.2.2.2.2.2.2.2.1 rfl, rfl⟩
theorem zd_14_93_8 : zz_B zy_advanceNet_14_93 8 (Instr.if_icmp .ge) 38 11 := ⟨30, zq_162 zg_14_93_0.2.2.2.2.2.2.2.2.1 zg_14_93_0.2.2.2.2.2.2.2.2.2.1 zg_14_93_0.2.2.2.2.2.2.2.2.2.2.1 (by decide), rfl, rfl⟩
theorem zd_14_93_38 : zz_D zy_advanceNet_14_93 38 (.aload_n 0) 1 39 := ⟨zq_42 zg_14_93_0.2.2.2.2.2.2.2.2.2.2.2.1, rfl⟩
theorem zd_14_93_39 : zz_D zy_advanceNet_14_93 39 (.getfield 334) 3 42 := ⟨zq_180 zg_14_93_0.2.2.2.2.2.2.2.2.2.2.2.2.1 zg_14_93_0.2.2.2.2.2.2.2.2.2.2.2.2.2.1 zg_14_93_0.2.2.2.2.2.2.2.2.2.2.2.2.2.2.1 rfl, rfl⟩
theorem zd_14_93_42 : zz_D zy_advanceNet_14_93 42 (.istore_n 1) 1 43 := ⟨zq_60 zg_14_93_0.2.2.2.2.2.2.2.2.2.2.2.2.2.2.2.1, rfl⟩
theorem zd_14_93_43 : zz_D zy_advanceNet_14_93 43 (.aload_n 0) 1 44 := ⟨zq_42 zg_14_93_0.2.2.2.2.2.2.2.2.2.2.2.2.2.2.2.2.1, rfl⟩
theorem zd_14_93_44 : zz_D zy_advanceNet_14_93 44 (.getfield 334) 3 47 := ⟨zq_180 zg_14_93_0.2.2.2.2.2.2.2.2.2.2.2.2.2.2.2.2.2.1 zg_14_93_0.2.2.2.2.2.2.2.2.2.2.2.2.2.2.2.2.2.2.1 zg_14_93_0.2.2.2.2.2.2.2.2.2.2.2.2.2.2.2.2.2.2.2.1 rfl, rfl⟩
theorem zd_14_93_47 : zz_D zy_advanceNet_14_93 47 (.aload_n 0) 1 48 := ⟨zq_42 zg_14_93_0.2.2.2.2.2.2.2.2.2.2.2.2.2.2.2.2.2.2.2.2.1, rfl⟩
theorem zd_14_93_48 : zz_D zy_advanceNet_14_93 48 (.getfield 337) 3 51 := ⟨zq_180 zg_14_93_0.2.2.2.2.2.2.2.2.2.2.2.2.2.2.2.2.2.2.2.2.2.1 zg_14_93_0.2.2.2.2.2.2.2.2.2.2.2.2.2.2.2.2.2.2.2.2.2.2.1 zg_14_93_0.2.2.2.2.2.2.2.2.2.2.2.2.2.2.2.2.2.2.2.2.2.2.2 rfl, rfl⟩
theorem zg_14_93_51 : zq_at zy_advanceNet_14_93.2.1 51 162 ∧ zq_at zy_advanceNet_14_93.2.1 52 0 ∧ zq_at zy_advanceNet_14_93.2.1 53 148 ∧ zq_at zy_advanceNet_14_93.2.1 199 42 ∧ zq_at zy_advanceNet_14_93.2.1 200 182 ∧ zq_at zy_advanceNet_14_93.2.1 201 1 ∧ zq_at zy_advanceNet_14_93.2.1 202 103 ∧ zq_at zy_advanceNet_14_93.2.1 203 177 ∧ zq_at zy_advanceNet_14_93.2.1 54 42 ∧ zq_at zy_advanceNet_14_93.2.1 55 180 ∧ zq_at zy_advanceNet_14_93.2.1 56 0 ∧ zq_at zy_advanceNet_14_93.2.1 57 76 ∧ zq_at zy_advanceNet_14_93.2.1 58 42 ∧ zq_at zy_advanceNet_14_93.2.1 59 180 ∧ zq_at zy_advanceNet_14_93.2.1 60 1 ∧ zq_at zy_advanceNet_14_93.2.1 61 78 ∧ zq_at zy_advanceNet_14_93.2.1 62 46 ∧ zq_at zy_advanceNet_14_93.2.1 63 133 ∧ zq_at zy_advanceNet_14_93.2.1 64 20 ∧ zq_at zy_advanceNet_14_93.2.1 65 1 ∧ zq_at zy_advanceNet_14_93.2.1 66 84 ∧ zq_at zy_advanceNet_14_93.2.1 67 20 ∧ zq_at zy_advanceNet_14_93.2.1 68 1 ∧ zq_at zy_advanceNet_14_93.2.1 69 86 := by decide +kernel
theorem zd_14_93_51 : zz_B zy_advanceNet_14_93 51 (Instr.if_icmp .ge) 199 54 := ⟨148, zq_162 zg_14_93_51.1 zg_14_93_51.2.1 zg_14_93_51.2.2.1 (by decide), rfl, rfl⟩
theorem zd_14_93_199 : zz_D zy_advanceNet_14_93 199 (.aload_n 0) 1 200 := ⟨zq_42 zg_14_93_51.2.2.2.1, rfl⟩
theorem zd_14_93_200 : zz_D zy_advanceNet_14_93 200 (.invokevirtual 359) 3 203 := ⟨zq_182 zg_14_93_51.2.2.2.2.1 zg_14_93_51.2.2.2.2.2.1 zg_14_93_51.2.2.2.2.2.2.1 rfl, rfl⟩
theorem zd_14_93_203 : zz_D zy_advanceNet_14_93 203 (.return_) 1 204 := ⟨zq_177 zg_14_93_51.2.2.2.2.2.2.2.1, rfl⟩
theorem zd_14_93_54 : zz_D zy_advanceNet_14_93 54 (.aload_n 0) 1 55 := ⟨zq_42 zg_14_93_51.2.2.2.2.2.2.2.2.1, rfl⟩
theorem zd_14_93_55 : zz_D zy_advanceNet_14_93 55 (.getfield 76) 3 58 := ⟨zq_180 zg_14_93_51.2.2.2.2.2.2.2.2.2.1 zg_14_93_51.2.2.2.2.2.2.2.2.2.2.1 zg_14_93_51.2.2.2.2.2.2.2.2.2.2.2.1 rfl, rfl⟩
theorem zd_14_93_58 : zz_D zy_advanceNet_14_93 58 (.aload_n 0) 1 59 := ⟨zq_42 zg_14_93_51.2.2.2.2.2.2.2.2.2.2.2.2.1, rfl⟩
theorem zd_14_93_59 : zz_D zy_advanceNet_14_93 59 (.getfield 334) 3 62 := ⟨zq_180 zg_14_93_51.2.2.2.2.2.2.2.2.2.2.2.2.2.1 zg_14_93_51.2.2.2.2.2.2.2.2.2.2.2.2.2.2.1 zg_14_93_51.2.2.2.2.2.2.2.2.2.2.2.2.2.2.2.1 rfl, rfl⟩
theorem zd_14_93_62 : zz_D zy_advanceNet_14_93 62 (.iaload) 1 63 := ⟨zq_46 zg_14_93_51.2.2.2.2.2.2.2.2.2.2.2.2.2.2.2.2.1, rfl⟩
theorem zd_14_93_63 : zz_D zy_advanceNet_14_93 63 (.i2l) 1 64 := ⟨zq_133 zg_14_93_51.2.2.2.2.2.2.2.2.2.2.2.2.2.2.2.2.2.1, rfl⟩
theorem zd_14_93_64 : zz_D zy_advanceNet_14_93 64 (.ldc2_w 340) 3 67 := ⟨zq_20 zg_14_93_51.2.2.2.2.2.2.2.2.2.2.2.2.2.2.2.2.2.2.1 zg_14_93_51.2.2.2.2.2.2.2.2.2.2.2.2.2.2.2.2.2.2.2.1 zg_14_93_51.2.2.2.2.2.2.2.2.2.2.2.2.2.2.2.2.2.2.2.2.1 rfl, rfl⟩
theorem zd_14_93_67 : zz_D zy_advanceNet_14_93 67 (.ldc2_w 342) 3 70 := ⟨zq_20 zg_14_93_51.2.2.2.2.2.2.2.2.2.2.2.2.2.2.2.2.2.2.2.2.2.1 zg_14_93_51.2.2.2.2.2.2.2.2.2.2.2.2.2.2.2.2.2.2.2.2.2.2.1 zg_14_93_51.2.2.2.2.2.2.2.2.2.2.2.2.2.2.2.2.2.2.2.2.2.2.2 rfl, rfl⟩
theorem zg_14_93_70 : zq_at zy_advanceNet_14_93.2.1 70 184 ∧ zq_at zy_advanceNet_14_93.2.1 71 0 ∧ zq_at zy_advanceNet_14_93.2.1 72 192 ∧ zq_at zy_advanceNet_14_93.2.1 73 153 ∧ zq_at zy_advanceNet_14_93.2.1 74 0 ∧ zq_at zy_advanceNet_14_93.2.1 75 126 ∧ zq_at zy_advanceNet_14_93.2.1 76 42 ∧ zq_at zy_advanceNet_14_93.2.1 77 9 ∧ zq_at zy_advanceNet_14_93.2.1 78 181 ∧ zq_at zy_advanceNet_14_93.2.1 79 2 ∧ zq_at zy_advanceNet_14_93.2.1 80 10 ∧ zq_at zy_advanceNet_14_93.2.1 11 42 ∧ zq_at zy_advanceNet_14_93.2.1 12 180 ∧ zq_at zy_advanceNet_14_93.2.1 13 0 ∧ zq_at zy_advanceNet_14_93.2.1 14 76 ∧ zq_at zy_advanceNet_14_93.2.1 15 42 ∧ zq_at zy_advanceNet_14_93.2.1 16 180 ∧ zq_at zy_advanceNet_14_93.2.1 17 1 ∧ zq_at zy_advanceNet_14_93.2.1 18 78 ∧ zq_at zy_advanceNet_14_93.2.1 19 46 ∧ zq_at zy_advanceNet_14_93.2.1 20 16 ∧ zq_at zy_advanceNet_14_93.2.1 21 32 := by decide +kernel
theorem zd_14_93_70 : zz_D zy_advanceNet_14_93 70 (.invokestatic 192) 3 73 := ⟨zq_184 zg_14_93_70.1 zg_14_93_70.2.1 zg_14_93_70.2.2.1 rfl, rfl⟩
theorem zd_14_93_73 : zz_B zy_advanceNet_14_93 73 (Instr.ifCond .eq) 199 76 := ⟨126, zq_153 zg_14_93_70.2.2.2.1 zg_14_93_70.2.2.2.2.1 zg_14_93_70.2.2.2.2.2.1 (by decide), rfl, rfl⟩
theorem zd_14_93_76 : zz_D zy_advanceNet_14_93 76 (.aload_n 0) 1 77 := ⟨zq_42 zg_14_93_70.2.2.2.2.2.2.1, rfl⟩
theorem zd_14_93_77 : zz_D zy_advanceNet_14_93 77 (.lconst 0) 1 78 := ⟨zq_9 zg_14_93_70.2.2.2.2.2.2.2.1, rfl⟩
theorem zd_14_93_78 : zz_D zy_advanceNet_14_93 78 (.putfield 522) 3 81 := ⟨zq_181 zg_14_93_70.2.2.2.2.2.2.2.2.1 zg_14_93_70.2.2.2.2.2.2.2.2.2.1 zg_14_93_70.2.2.2.2.2.2.2.2.2.2.1 rfl, rfl⟩
theorem zd_14_93_11 : zz_D zy_advanceNet_14_93 11 (.aload_n 0) 1 12 := ⟨zq_42 zg_14_93_70.2.2.2.2.2.2.2.2.2.2.2.1, rfl⟩
theorem zd_14_93_12 : zz_D zy_advanceNet_14_93 12 (.getfield 76) 3 15 := ⟨zq_180 zg_14_93_70.2.2.2.2.2.2.2.2.2.2.2.2.1 zg_14_93_70.2.2.2.2.2.2.2.2.2.2.2.2.2.1 zg_14_93_70.2.2.2.2.2.2.2.2.2.2.2.2.2.2.1 rfl, rfl⟩
theorem zd_14_93_15 : zz_D zy_advanceNet_14_93 15 (.aload_n 0) 1 16 := ⟨zq_42 zg_14_93_70.2.2.2.2.2.2.2.2.2.2.2.2.2.2.2.1, rfl⟩
theorem zd_14_93_16 : zz_D zy_advanceNet_14_93 16 (.getfield 334) 3 19 := ⟨zq_180 zg_14_93_70.2.2.2.2.2.2.2.2.2.2.2.2.2.2.2.2.1 zg_14_93_70.2.2.2.2.2.2.2.2.2.2.2.2.2.2.2.2.2.1 zg_14_93_70.2.2.2.2.2.2.2.2.2.2.2.2.2.2.2.2.2.2.1 rfl, rfl⟩
theorem zd_14_93_19 : zz_D zy_advanceNet_14_93 19 (.iaload) 1 20 := ⟨zq_46 zg_14_93_70.2.2.2.2.2.2.2.2.2.2.2.2.2.2.2.2.2.2.2.1, rfl⟩
theorem zd_14_93_20 : zz_D zy_advanceNet_14_93 20 (.bipush 32) 2 22 := ⟨zq_16 zg_14_93_70.2.2.2.2.2.2.2.2.2.2.2.2.2.2.2.2.2.2.2.2.1 zg_14_93_70.2.2.2.2.2.2.2.2.2.2.2.2.2.2.2.2.2.2.2.2.2 (by decide), rfl⟩
theorem zg_14_93_22 : zq_at zy_advanceNet_14_93.2.1 22 160 ∧ zq_at zy_advanceNet_14_93.2.1 23 0 ∧ zq_at zy_advanceNet_14_93.2.1 24 16 ∧ zq_at zy_advanceNet_14_93.2.1 25 42 ∧ zq_at zy_advanceNet_14_93.2.1 26 89 ∧ zq_at zy_advanceNet_14_93.2.1 27 180 ∧ zq_at zy_advanceNet_14_93.2.1 28 1 ∧ zq_at zy_advanceNet_14_93.2.1 29 78 ∧ zq_at zy_advanceNet_14_93.2.1 30 4 ∧ zq_at zy_advanceNet_14_93.2.1 31 96 ∧ zq_at zy_advanceNet_14_93.2.1 32 181 ∧ zq_at zy_advanceNet_14_93.2.1 33 1 ∧ zq_at zy_advanceNet_14_93.2.1 34 78 ∧ zq_at zy_advanceNet_14_93.2.1 35 167 ∧ zq_at zy_advanceNet_14_93.2.1 36 255 ∧ zq_at zy_advanceNet_14_93.2.1 37 221 ∧ zq_at zy_advanceNet_14_93.2.1 81 42 ∧ zq_at zy_advanceNet_14_93.2.1 82 180 ∧ zq_at zy_advanceNet_14_93.2.1 83 1 ∧ zq_at zy_advanceNet_14_93.2.1 84 78 ∧ zq_at zy_advanceNet_14_93.2.1 85 42 ∧ zq_at zy_advanceNet_14_93.2.1 86 180 ∧ zq_at zy_advanceNet_14_93.2.1 87 1 ∧ zq_at zy_advanceNet_14_93.2.1 88 81 := by decide +kernel
theorem zd_14_93_22 : zz_B zy_advanceNet_14_93 22 (Instr.if_icmp .ne) 38 25 := ⟨16, zq_160 zg_14_93_22.1 zg_14_93_22.2.1 zg_14_93_22.2.2.1 (by decide), rfl, rfl⟩
theorem zd_14_93_25 : zz_D zy_advanceNet_14_93 25 (.aload_n 0) 1 26 := ⟨zq_42 zg_14_93_22.2.2.2.1, rfl⟩
theorem zd_14_93_26 : zz_D zy_advanceNet_14_93 26 (.dup) 1 27 := ⟨zq_89 zg_14_93_22.2.2.2.2.1, rfl⟩
theorem zd_14_93_27 : zz_D zy_advanceNet_14_93 27 (.getfield 334) 3 30 := ⟨zq_180 zg_14_93_22.2.2.2.2.2.1 zg_14_93_22.2.2.2.2.2.2.1 zg_14_93_22.2.2.2.2.2.2.2.1 rfl, rfl⟩
theorem zd_14_93_30 : zz_D zy_advanceNet_14_93 30 (.iconst 1) 1 31 := ⟨zq_4 zg_14_93_22.2.2.2.2.2.2.2.2.1, rfl⟩
theorem zd_14_93_31 : zz_D zy_advanceNet_14_93 31 (.iadd) 1 32 := ⟨zq_96 zg_14_93_22.2.2.2.2.2.2.2.2.2.1, rfl⟩
theorem zd_14_93_32 : zz_D zy_advanceNet_14_93 32 (.putfield 334) 3 35 := ⟨zq_181 zg_14_93_22.2.2.2.2.2.2.2.2.2.2.1 zg_14_93_22.2.2.2.2.2.2.2.2.2.2.2.1 zg_14_93_22.2.2.2.2.2.2.2.2.2.2.2.2.1 rfl, rfl⟩
theorem zd_14_93_35 : zz_B zy_advanceNet_14_93 35 Instr.goto 0 38 := ⟨(-35), zq_167 zg_14_93_22.2.2.2.2.2.2.2.2.2.2.2.2.2.1 zg_14_93_22.2.2.2.2.2.2.2.2.2.2.2.2.2.2.1 zg_14_93_22.2.2.2.2.2.2.2.2.2.2.2.2.2.2.2.1 (by decide), rfl, rfl⟩
theorem zd_14_93_81 : zz_D zy_advanceNet_14_93 81 (.aload_n 0) 1 82 := ⟨zq_42 zg_14_93_22.2.2.2.2.2.2.2.2.2.2.2.2.2.2.2.2.1, rfl⟩
theorem zd_14_93_82 : zz_D zy_advanceNet_14_93 82 (.getfield 334) 3 85 := ⟨zq_180 zg_14_93_22.2.2.2.2.2.2.2.2.2.2.2.2.2.2.2.2.2.1 zg_14_93_22.2.2.2.2.2.2.2.2.2.2.2.2.2.2.2.2.2.2.1 zg_14_93_22.2.2.2.2.2.2.2.2.2.2.2.2.2.2.2.2.2.2.2.1 rfl, rfl⟩
theorem zd_14_93_85 : zz_D zy_advanceNet_14_93 85 (.aload_n 0) 1 86 := ⟨zq_42 zg_14_93_22.2.2.2.2.2.2.2.2.2.2.2.2.2.2.2.2.2.2.2.2.1, rfl⟩
theorem zd_14_93_86 : zz_D zy_advanceNet_14_93 86 (.getfield 337) 3 89 := ⟨zq_180 zg_14_93_22.2.2.2.2.2.2.2.2.2.2.2.2.2.2.2.2.2.2.2.2.2.1 zg_14_93_22.2.2.2.2.2.2.2.2.2.2.2.2.2.2.2.2.2.2.2.2.2.2.1 zg_14_93_22.2.2.2.2.2.2.2.2.2.2.2.2.2.2.2.2.2.2.2.2.2.2.2 rfl, rfl⟩
theorem zg_14_93_89 : zq_at zy_advanceNet_14_93.2.1 89 162 ∧ zq_at zy_advanceNet_14_93.2.1 90 0 ∧ zq_at zy_advanceNet_14_93.2.1 91 87 ∧ zq_at zy_advanceNet_14_93.2.1 176 42 ∧ zq_at zy_advanceNet_14_93.2.1 177 42 ∧ zq_at zy_advanceNet_14_93.2.1 178 180 ∧ zq_at zy_advanceNet_14_93.2.1 179 1 ∧ zq_at zy_advanceNet_14_93.2.1 180 78 ∧ zq_at zy_advanceNet_14_93.2.1 181 27 ∧ zq_at zy_advanceNet_14_93.2.1 182 100 ∧ zq_at zy_advanceNet_14_93.2.1 183 16 ∧ zq_at zy_advanceNet_14_93.2.1 184 8 ∧ zq_at zy_advanceNet_14_93.2.1 185 164 ∧ zq_at zy_advanceNet_14_93.2.1 186 0 ∧ zq_at zy_advanceNet_14_93.2.1 187 8 ∧ zq_at zy_advanceNet_14_93.2.1 193 16 ∧ zq_at zy_advanceNet_14_93.2.1 194 102 ∧ zq_at zy_advanceNet_14_93.2.1 195 181 ∧ zq_at zy_advanceNet_14_93.2.1 196 1 ∧ zq_at zy_advanceNet_14_93.2.1 197 91 ∧ zq_at zy_advanceNet_14_93.2.1 198 177 ∧ zq_at zy_advanceNet_14_93.2.1 188 16 ∧ zq_at zy_advanceNet_14_93.2.1 189 101 := by decide +kernel
theorem zd_14_93_89 : zz_B zy_advanceNet_14_93 89 (Instr.if_icmp .ge) 176 92 := ⟨87, zq_162 zg_14_93_89.1 zg_14_93_89.2.1 zg_14_93_89.2.2.1 (by decide), rfl, rfl⟩
theorem zd_14_93_176 : zz_D zy_advanceNet_14_93 176 (.aload_n 0) 1 177 := ⟨zq_42 zg_14_93_89.2.2.2.1, rfl⟩
theorem zd_14_93_177 : zz_D zy_advanceNet_14_93 177 (.aload_n 0) 1 178 := ⟨zq_42 zg_14_93_89.2.2.2.2.1, rfl⟩
theorem zd_14_93_178 : zz_D zy_advanceNet_14_93 178 (.getfield 334) 3 181 := ⟨zq_180 zg_14_93_89.2.2.2.2.2.1 zg_14_93_89.2.2.2.2.2.2.1 zg_14_93_89.2.2.2.2.2.2.2.1 rfl, rfl⟩
theorem zd_14_93_181 : zz_D zy_advanceNet_14_93 181 (.iload_n 1) 1 182 := ⟨zq_27 zg_14_93_89.2.2.2.2.2.2.2.2.1, rfl⟩
theorem zd_14_93_182 : zz_D zy_advanceNet_14_93 182 (.isub) 1 183 := ⟨zq_100 zg_14_93_89.2.2.2.2.2.2.2.2.2.1, rfl⟩
theorem zd_14_93_183 : zz_D zy_advanceNet_14_93 183 (.bipush 8) 2 185 := ⟨zq_16 zg_14_93_89.2.2.2.2.2.2.2.2.2.2.1 zg_14_93_89.2.2.2.2.2.2.2.2.2.2.2.1 (by decide), rfl⟩
theorem zd_14_93_185 : zz_B zy_advanceNet_14_93 185 (Instr.if_icmp .le) 193 188 := ⟨8, zq_164 zg_14_93_89.2.2.2.2.2.2.2.2.2.2.2.2.1 zg_14_93_89.2.2.2.2.2.2.2.2.2.2.2.2.2.1 zg_14_93_89.2.2.2.2.2.2.2.2.2.2.2.2.2.2.1 (by decide), rfl, rfl⟩
theorem zd_14_93_193 : zz_D zy_advanceNet_14_93 193 (.bipush 102) 2 195 := ⟨zq_16 zg_14_93_89.2.2.2.2.2.2.2.2.2.2.2.2.2.2.2.1 zg_14_93_89.2.2.2.2.2.2.2.2.2.2.2.2.2.2.2.2.1 (by decide), rfl⟩
theorem zd_14_93_195 : zz_D zy_advanceNet_14_93 195 (.putfield 347) 3 198 := ⟨zq_181 zg_14_93_89.2.2.2.2.2.2.2.2.2.2.2.2.2.2.2.2.2.1 zg_14_93_89.2.2.2.2.2.2.2.2.2.2.2.2.2.2.2.2.2.2.1 zg_14_93_89.2.2.2.2.2.2.2.2.2.2.2.2.2.2.2.2.2.2.2.1 rfl, rfl⟩
theorem zd_14_93_198 : zz_D zy_advanceNet_14_93 198 (.return_) 1 199 := ⟨zq_177 zg_14_93_89.2.2.2.2.2.2.2.2.2.2.2.2.2.2.2.2.2.2.2.2.1, rfl⟩
theorem zd_14_93_188 : zz_D zy_advanceNet_14_93 188 (.bipush 101) 2 190 := ⟨zq_16 zg_14_93_89.2.2.2.2.2.2.2.2.2.2.2.2.2.2.2.2.2.2.2.2.2.1 zg_14_93_89.2.2.2.2.2.2.2.2.2.2.2.2.2.2.2.2.2.2.2.2.2.2 (by decide), rfl⟩
theorem zg_14_93_190 : zq_at zy_advanceNet_14_93.2.1 190 167 ∧ zq_at zy_advanceNet_14_93.2.1 191 0 ∧ zq_at zy_advanceNet_14_93.2.1 192 5 ∧ zq_at zy_advanceNet_14_93.2.1 92 42 ∧ zq_at zy_advanceNet_14_93.2.1 93 180 ∧ zq_at zy_advanceNet_14_93.2.1 94 0 ∧ zq_at zy_advanceNet_14_93.2.1 95 76 ∧ zq_at zy_advanceNet_14_93.2.1 96 42 ∧ zq_at zy_advanceNet_14_93.2.1 97 180 ∧ zq_at zy_advanceNet_14_93.2.1 98 1 ∧ zq_at zy_advanceNet_14_93.2.1 99 78 ∧ zq_at zy_advanceNet_14_93.2.1 100 46 ∧ zq_at zy_advanceNet_14_93.2.1 101 133 ∧ zq_at zy_advanceNet_14_93.2.1 102 20 ∧ zq_at zy_advanceNet_14_93.2.1 103 1 ∧ zq_at zy_advanceNet_14_93.2.1 104 84 ∧ zq_at zy_advanceNet_14_93.2.1 105 20 ∧ zq_at zy_advanceNet_14_93.2.1 106 1 ∧ zq_at zy_advanceNet_14_93.2.1 107 86 ∧ zq_at zy_advanceNet_14_93.2.1 108 184 ∧ zq_at zy_advanceNet_14_93.2.1 109 0 ∧ zq_at zy_advanceNet_14_93.2.1 110 192 := by decide +kernel
theorem zd_14_93_190 : zz_B zy_advanceNet_14_93 190 Instr.goto 195 193 := ⟨5, zq_167 zg_14_93_190.1 zg_14_93_190.2.1 zg_14_93_190.2.2.1 (by decide), rfl, rfl⟩
theorem zd_14_93_92 : zz_D zy_advanceNet_14_93 92 (.aload_n 0) 1 93 := ⟨zq_42 zg_14_93_190.2.2.2.1, rfl⟩
theorem zd_14_93_93 : zz_D zy_advanceNet_14_93 93 (.getfield 76) 3 96 := ⟨zq_180 zg_14_93_190.2.2.2.2.1 zg_14_93_190.2.2.2.2.2.1 zg_14_93_190.2.2.2.2.2.2.1 rfl, rfl⟩
theorem zd_14_93_96 : zz_D zy_advanceNet_14_93 96 (.aload_n 0) 1 97 := ⟨zq_42 zg_14_93_190.2.2.2.2.2.2.2.1, rfl⟩
theorem zd_14_93_97 : zz_D zy_advanceNet_14_93 97 (.getfield 334) 3 100 := ⟨zq_180 zg_14_93_190.2.2.2.2.2.2.2.2.1 zg_14_93_190.2.2.2.2.2.2.2.2.2.1 zg_14_93_190.2.2.2.2.2.2.2.2.2.2.1 rfl, rfl⟩
theorem zd_14_93_100 : zz_D zy_advanceNet_14_93 100 (.iaload) 1 101 := ⟨zq_46 zg_14_93_190.2.2.2.2.2.2.2.2.2.2.2.1, rfl⟩
theorem zd_14_93_101 : zz_D zy_advanceNet_14_93 101 (.i2l) 1 102 := ⟨zq_133 zg_14_93_190.2.2.2.2.2.2.2.2.2.2.2.2.1, rfl⟩
theorem zd_14_93_102 : zz_D zy_advanceNet_14_93 102 (.ldc2_w 340) 3 105 := ⟨zq_20 zg_14_93_190.2.2.2.2.2.2.2.2.2.2.2.2.2.1 zg_14_93_190.2.2.2.2.2.2.2.2.2.2.2.2.2.2.1 zg_14_93_190.2.2.2.2.2.2.2.2.2.2.2.2.2.2.2.1 rfl, rfl⟩
theorem zd_14_93_105 : zz_D zy_advanceNet_14_93 105 (.ldc2_w 342) 3 108 := ⟨zq_20 zg_14_93_190.2.2.2.2.2.2.2.2.2.2.2.2.2.2.2.2.1 zg_14_93_190.2.2.2.2.2.2.2.2.2.2.2.2.2.2.2.2.2.1 zg_14_93_190.2.2.2.2.2.2.2.2.2.2.2.2.2.2.2.2.2.2.1 rfl, rfl⟩
theorem zd_14_93_108 : zz_D zy_advanceNet_14_93 108 (.invokestatic 192) 3 111 := ⟨zq_184 zg_14_93_190.2.2.2.2.2.2.2.2.2.2.2.2.2.2.2.2.2.2.2.1 zg_14_93_190.2.2.2.2.2.2.2.2.2.2.2.2.2.2.2.2.2.2.2.2.1 zg_14_93_190.2.2.2.2.2.2.2.2.2.2.2.2.2.2.2.2.2.2.2.2.2 rfl, rfl⟩
theorem zg_14_93_111 : zq_at zy_advanceNet_14_93.2.1 111 153 ∧ zq_at zy_advanceNet_14_93.2.1 112 0 ∧ zq_at zy_advanceNet_14_93.2.1 113 65 ∧ zq_at zy_advanceNet_14_93.2.1 114 42 ∧ zq_at zy_advanceNet_14_93.2.1 115 42 ∧ zq_at zy_advanceNet_14_93.2.1 116 180 ∧ zq_at zy_advanceNet_14_93.2.1 117 1 ∧ zq_at zy_advanceNet_14_93.2.1 118 78 ∧ zq_at zy_advanceNet_14_93.2.1 119 27 ∧ zq_at zy_advanceNet_14_93.2.1 120 100 ∧ zq_at zy_advanceNet_14_93.2.1 121 16 ∧ zq_at zy_advanceNet_14_93.2.1 122 8 ∧ zq_at zy_advanceNet_14_93.2.1 123 162 ∧ zq_at zy_advanceNet_14_93.2.1 124 0 ∧ zq_at zy_advanceNet_14_93.2.1 125 33 ∧ zq_at zy_advanceNet_14_93.2.1 156 42 ∧ zq_at zy_advanceNet_14_93.2.1 157 180 ∧ zq_at zy_advanceNet_14_93.2.1 158 2 ∧ zq_at zy_advanceNet_14_93.2.1 159 10 ∧ zq_at zy_advanceNet_14_93.2.1 160 181 ∧ zq_at zy_advanceNet_14_93.2.1 161 2 ∧ zq_at zy_advanceNet_14_93.2.1 162 10 ∧ zq_at zy_advanceNet_14_93.2.1 163 42 ∧ zq_at zy_advanceNet_14_93.2.1 164 89 := by decide +kernel
theorem zd_14_93_111 : zz_B zy_advanceNet_14_93 111 (Instr.ifCond .eq) 176 114 := ⟨65, zq_153 zg_14_93_111.1 zg_14_93_111.2.1 zg_14_93_111.2.2.1 (by decide), rfl, rfl⟩
theorem zd_14_93_114 : zz_D zy_advanceNet_14_93 114 (.aload_n 0) 1 115 := ⟨zq_42 zg_14_93_111.2.2.2.1, rfl⟩
theorem zd_14_93_115 : zz_D zy_advanceNet_14_93 115 (.aload_n 0) 1 116 := ⟨zq_42 zg_14_93_111.2.2.2.2.1, rfl⟩
theorem zd_14_93_116 : zz_D zy_advanceNet_14_93 116 (.getfield 334) 3 119 := ⟨zq_180 zg_14_93_111.2.2.2.2.2.1 zg_14_93_111.2.2.2.2.2.2.1 zg_14_93_111.2.2.2.2.2.2.2.1 rfl, rfl⟩
theorem zd_14_93_119 : zz_D zy_advanceNet_14_93 119 (.iload_n 1) 1 120 := ⟨zq_27 zg_14_93_111.2.2.2.2.2.2.2.2.1, rfl⟩
theorem zd_14_93_120 : zz_D zy_advanceNet_14_93 120 (.isub) 1 121 := ⟨zq_100 zg_14_93_111.2.2.2.2.2.2.2.2.2.1, rfl⟩
theorem zd_14_93_121 : zz_D zy_advanceNet_14_93 121 (.bipush 8) 2 123 := ⟨zq_16 zg_14_93_111.2.2.2.2.2.2.2.2.2.2.1 zg_14_93_111.2.2.2.2.2.2.2.2.2.2.2.1 (by decide), rfl⟩
theorem zd_14_93_123 : zz_B zy_advanceNet_14_93 123 (Instr.if_icmp .ge) 156 126 := ⟨33, zq_162 zg_14_93_111.2.2.2.2.2.2.2.2.2.2.2.2.1 zg_14_93_111.2.2.2.2.2.2.2.2.2.2.2.2.2.1 zg_14_93_111.2.2.2.2.2.2.2.2.2.2.2.2.2.2.1 (by decide), rfl, rfl⟩
theorem zd_14_93_156 : zz_D zy_advanceNet_14_93 156 (.aload_n 0) 1 157 := ⟨zq_42 zg_14_93_111.2.2.2.2.2.2.2.2.2.2.2.2.2.2.2.1, rfl⟩
theorem zd_14_93_157 : zz_D zy_advanceNet_14_93 157 (.getfield 522) 3 160 := ⟨zq_180 zg_14_93_111.2.2.2.2.2.2.2.2.2.2.2.2.2.2.2.2.1 zg_14_93_111.2.2.2.2.2.2.2.2.2.2.2.2.2.2.2.2.2.1 zg_14_93_111.2.2.2.2.2.2.2.2.2.2.2.2.2.2.2.2.2.2.1 rfl, rfl⟩
theorem zd_14_93_160 : zz_D zy_advanceNet_14_93 160 (.putfield 522) 3 163 := ⟨zq_181 zg_14_93_111.2.2.2.2.2.2.2.2.2.2.2.2.2.2.2.2.2.2.2.1 zg_14_93_111.2.2.2.2.2.2.2.2.2.2.2.2.2.2.2.2.2.2.2.2.1 zg_14_93_111.2.2.2.2.2.2.2.2.2.2.2.2.2.2.2.2.2.2.2.2.2.1 rfl, rfl⟩
theorem zd_14_93_163 : zz_D zy_advanceNet_14_93 163 (.aload_n 0) 1 164 := ⟨zq_42 zg_14_93_111.2.2.2.2.2.2.2.2.2.2.2.2.2.2.2.2.2.2.2.2.2.2.1, rfl⟩
theorem zd_14_93_164 : zz_D zy_advanceNet_14_93 164 (.dup) 1 165 := ⟨zq_89 zg_14_93_111.2.2.2.2.2.2.2.2.2.2.2.2.2.2.2.2.2.2.2.2.2.2.2, rfl⟩
theorem zg_14_93_165 : zq_at zy_advanceNet_14_93.2.1 165 180 ∧ zq_at zy_advanceNet_14_93.2.1 166 1 ∧ zq_at zy_advanceNet_14_93.2.1 167 78 ∧ zq_at zy_advanceNet_14_93.2.1 168 4 ∧ zq_at zy_advanceNet_14_93.2.1 169 96 ∧ zq_at zy_advanceNet_14_93.2.1 170 181 ∧ zq_at zy_advanceNet_14_93.2.1 171 1 ∧ zq_at zy_advanceNet_14_93.2.1 172 78 ∧ zq_at zy_advanceNet_14_93.2.1 173 167 ∧ zq_at zy_advanceNet_14_93.2.1 174 255 ∧ zq_at zy_advanceNet_14_93.2.1 175 164 ∧ zq_at zy_advanceNet_14_93.2.1 126 42 ∧ zq_at zy_advanceNet_14_93.2.1 127 180 ∧ zq_at zy_advanceNet_14_93.2.1 128 2 ∧ zq_at zy_advanceNet_14_93.2.1 129 10 ∧ zq_at zy_advanceNet_14_93.2.1 130 42 ∧ zq_at zy_advanceNet_14_93.2.1 131 180 ∧ zq_at zy_advanceNet_14_93.2.1 132 0 ∧ zq_at zy_advanceNet_14_93.2.1 133 76 ∧ zq_at zy_advanceNet_14_93.2.1 134 42 ∧ zq_at zy_advanceNet_14_93.2.1 135 180 ∧ zq_at zy_advanceNet_14_93.2.1 136 1 ∧ zq_at zy_advanceNet_14_93.2.1 137 78 ∧ zq_at zy_advanceNet_14_93.2.1 138 46 := by decide +kernel
theorem zd_14_93_165 : zz_D zy_advanceNet_14_93 165 (.getfield 334) 3 168 := ⟨zq_180 zg_14_93_165.1 zg_14_93_165.2.1 zg_14_93_165.2.2.1 rfl, rfl⟩
theorem zd_14_93_168 : zz_D zy_advanceNet_14_93 168 (.iconst 1) 1 169 := ⟨zq_4 zg_14_93_165.2.2.2.1, rfl⟩
theorem zd_14_93_169 : zz_D zy_advanceNet_14_93 169 (.iadd) 1 170 := ⟨zq_96 zg_14_93_165.2.2.2.2.1, rfl⟩
theorem zd_14_93_170 : zz_D zy_advanceNet_14_93 170 (.putfield 334) 3 173 := ⟨zq_181 zg_14_93_165.2.2.2.2.2.1 zg_14_93_165.2.2.2.2.2.2.1 zg_14_93_165.2.2.2.2.2.2.2.1 rfl, rfl⟩
theorem zd_14_93_173 : zz_B zy_advanceNet_14_93 173 Instr.goto 81 176 := ⟨(-92), zq_167 zg_14_93_165.2.2.2.2.2.2.2.2.1 zg_14_93_165.2.2.2.2.2.2.2.2.2.1 zg_14_93_165.2.2.2.2.2.2.2.2.2.2.1 (by decide), rfl, rfl⟩
theorem zd_14_93_126 : zz_D zy_advanceNet_14_93 126 (.aload_n 0) 1 127 := ⟨zq_42 zg_14_93_165.2.2.2.2.2.2.2.2.2.2.2.1, rfl⟩
theorem zd_14_93_127 : zz_D zy_advanceNet_14_93 127 (.getfield 522) 3 130 := ⟨zq_180 zg_14_93_165.2.2.2.2.2.2.2.2.2.2.2.2.1 zg_14_93_165.2.2.2.2.2.2.2.2.2.2.2.2.2.1 zg_14_93_165.2.2.2.2.2.2.2.2.2.2.2.2.2.2.1 rfl, rfl⟩
theorem zd_14_93_130 : zz_D zy_advanceNet_14_93 130 (.aload_n 0) 1 131 := ⟨zq_42 zg_14_93_165.2.2.2.2.2.2.2.2.2.2.2.2.2.2.2.1, rfl⟩
theorem zd_14_93_131 : zz_D zy_advanceNet_14_93 131 (.getfield 76) 3 134 := ⟨zq_180 zg_14_93_165.2.2.2.2.2.2.2.2.2.2.2.2.2.2.2.2.1 zg_14_93_165.2.2.2.2.2.2.2.2.2.2.2.2.2.2.2.2.2.1 zg_14_93_165.2.2.2.2.2.2.2.2.2.2.2.2.2.2.2.2.2.2.1 rfl, rfl⟩
theorem zd_14_93_134 : zz_D zy_advanceNet_14_93 134 (.aload_n 0) 1 135 := ⟨zq_42 zg_14_93_165.2.2.2.2.2.2.2.2.2.2.2.2.2.2.2.2.2.2.2.1, rfl⟩
theorem zd_14_93_135 : zz_D zy_advanceNet_14_93 135 (.getfield 334) 3 138 := ⟨zq_180 zg_14_93_165.2.2.2.2.2.2.2.2.2.2.2.2.2.2.2.2.2.2.2.2.1 zg_14_93_165.2.2.2.2.2.2.2.2.2.2.2.2.2.2.2.2.2.2.2.2.2.1 zg_14_93_165.2.2.2.2.2.2.2.2.2.2.2.2.2.2.2.2.2.2.2.2.2.2.1 rfl, rfl⟩
theorem zd_14_93_138 : zz_D zy_advanceNet_14_93 138 (.iaload) 1 139 := ⟨zq_46 zg_14_93_165.2.2.2.2.2.2.2.2.2.2.2.2.2.2.2.2.2.2.2.2.2.2.2, rfl⟩
theorem zg_14_93_139 : zq_at zy_advanceNet_14_93.2.1 139 16 ∧ zq_at zy_advanceNet_14_93.2.1 140 96 ∧ zq_at zy_advanceNet_14_93.2.1 141 100 ∧ zq_at zy_advanceNet_14_93.2.1 142 133 ∧ zq_at zy_advanceNet_14_93.2.1 143 8 ∧ zq_at zy_advanceNet_14_93.2.1 144 42 ∧ zq_at zy_advanceNet_14_93.2.1 145 180 ∧ zq_at zy_advanceNet_14_93.2.1 146 1 ∧ zq_at zy_advanceNet_14_93.2.1 147 78 ∧ zq_at zy_advanceNet_14_93.2.1 148 27 ∧ zq_at zy_advanceNet_14_93.2.1 149 100 ∧ zq_at zy_advanceNet_14_93.2.1 150 104 ∧ zq_at zy_advanceNet_14_93.2.1 151 121 ∧ zq_at zy_advanceNet_14_93.2.1 152 129 ∧ zq_at zy_advanceNet_14_93.2.1 153 167 ∧ zq_at zy_advanceNet_14_93.2.1 154 0 ∧ zq_at zy_advanceNet_14_93.2.1 155 7 := by decide +kernel
theorem zd_14_93_139 : zz_D zy_advanceNet_14_93 139 (.bipush 96) 2 141 := ⟨zq_16 zg_14_93_139.1 zg_14_93_139.2.1 (by decide), rfl⟩
theorem zd_14_93_141 : zz_D zy_advanceNet_14_93 141 (.isub) 1 142 := ⟨zq_100 zg_14_93_139.2.2.1, rfl⟩
theorem zd_14_93_142 : zz_D zy_advanceNet_14_93 142 (.i2l) 1 143 := ⟨zq_133 zg_14_93_139.2.2.2.1, rfl⟩
theorem zd_14_93_143 : zz_D zy_advanceNet_14_93 143 (.iconst 5) 1 144 := ⟨zq_8 zg_14_93_139.2.2.2.2.1, rfl⟩
theorem zd_14_93_144 : zz_D zy_advanceNet_14_93 144 (.aload_n 0) 1 145 := ⟨zq_42 zg_14_93_139.2.2.2.2.2.1, rfl⟩
theorem zd_14_93_145 : zz_D zy_advanceNet_14_93 145 (.getfield 334) 3 148 := ⟨zq_180 zg_14_93_139.2.2.2.2.2.2.1 zg_14_93_139.2.2.2.2.2.2.2.1 zg_14_93_139.2.2.2.2.2.2.2.2.1 rfl, rfl⟩
theorem zd_14_93_148 : zz_D zy_advanceNet_14_93 148 (.iload_n 1) 1 149 := ⟨zq_27 zg_14_93_139.2.2.2.2.2.2.2.2.2.1, rfl⟩
theorem zd_14_93_149 : zz_D zy_advanceNet_14_93 149 (.isub) 1 150 := ⟨zq_100 zg_14_93_139.2.2.2.2.2.2.2.2.2.2.1, rfl⟩
theorem zd_14_93_150 : zz_D zy_advanceNet_14_93 150 (.imul) 1 151 := ⟨zq_104 zg_14_93_139.2.2.2.2.2.2.2.2.2.2.2.1, rfl⟩
theorem zd_14_93_151 : zz_D zy_advanceNet_14_93 151 (.lshl) 1 152 := ⟨zq_121 zg_14_93_139.2.2.2.2.2.2.2.2.2.2.2.2.1, rfl⟩
theorem zd_14_93_152 : zz_D zy_advanceNet_14_93 152 (.lor) 1 153 := ⟨zq_129 zg_14_93_139.2.2.2.2.2.2.2.2.2.2.2.2.2.1, rfl⟩
theorem zd_14_93_153 : zz_B zy_advanceNet_14_93 153 Instr.goto 160 156 := ⟨7, zq_167 zg_14_93_139.2.2.2.2.2.2.2.2.2.2.2.2.2.2.1 zg_14_93_139.2.2.2.2.2.2.2.2.2.2.2.2.2.2.2.1 zg_14_93_139.2.2.2.2.2.2.2.2.2.2.2.2.2.2.2.2 (by decide), rfl, rfl⟩
-- TensorForgeModel advanceNet ()V
abbrev zr_advanceNet_14_93 : Room := { frames := 2, cells := 0, slots := 0, locals := 35 }
def zp_advanceNet_14_93  (S0 : zz_S) : zz_S → Prop := fun S => zz_G S ∧ zz_fr [(1079, 30), (1079, 31), (1079, 32), (1079, 61)] [] (fun _ _ => False) S0 S ∧ (S 1079 32 > S0 1079 32 ∨ (S 1079 32 = S0 1079 32 ∧ (S 1079 30 = 0 ∨ S 1079 30 = 101))) ∧ (S 1079 30 = zt_km (S0 1099) (S0 1079 33) (S0 1079 32)) ∧ (S 1079 32 = zt_tn (S0 1099) (S0 1079 33) (S0 1079 32)) ∧ (S 1079 30 = 100 → S 1079 31 = zt_tv (S0 1099) (S0 1079 33) (S0 1079 32)) ∧ (S 1079 30 = 102 → S 1079 61 = zt_kd (S0 1099) (S0 1079 33) (S0 1079 32)) ∧ (zt_MK (S0 1099) (S0 1079 33) (S0 1079 32) (S 1079 30) (S 1079 32) (S 1079 31) (S 1079 61))
theorem zb_advanceNet_14_93_0 {g : mm_G} {l : Launch}  (S0 : zz_S) (n : Nat) (hn : zz_end ≤ n) (G_S0 : zz_G S0) (hN : ∀ w : Nat, 1 ≤ w → w ≤ 20 → S0 1100 w = zt_cd (zt_nw.getD w []))  (S : zz_S) (G_S : zz_G S) (F_S : zz_fr [(1079, 30), (1079, 31), (1079, 32), (1079, 61)] [] (fun _ _ => False) S0 S) (i0_0 : S0 1079 32 < S0 1079 33) (i0_1 : S0 1099 ((S0 1079 32).toNat) = 32) (i0_2 : S 1079 32 ≥ S0 1079 32) (i0_3 : zt_R 32 32 (S0 1099) (S0 1079 33) (S 1079 32) = zt_R 32 32 (S0 1099) (S0 1079 33) (S0 1079 32)) (R : Nat) (hR : (34359738368 + (S0 1079 33 - S 1079 32).toNat) = R) (k0 : ∀  (S : zz_S), zz_G S → zz_fr [(1079, 30), (1079, 31), (1079, 32), (1079, 61)] [] (fun _ _ => False) S0 S → (S0 1079 32 < S0 1079 33) → (S0 1099 ((S0 1079 32).toNat) = 32) → (S 1079 32 ≥ S0 1079 32) → (zt_R 32 32 (S0 1099) (S0 1079 33) (S 1079 32) = zt_R 32 32 (S0 1099) (S0 1079 33) (S0 1079 32)) → (34359738368 + (S0 1079 33 - S 1079 32).toNat) < R → zz_E g l zy_advanceNet_14_93 zr_advanceNet_14_93 (zz_QV n (zp_advanceNet_14_93  S0)) S n 0 [some (.ref 1079)] [] 0 0) (k81 : ∀ (x1 : Int) (S : zz_S), zz_G S → zz_fr [(1079, 30), (1079, 31), (1079, 32), (1079, 61)] [] (fun _ _ => False) S0 S → (0 ≤ x1 ∧ x1 ≤ 1500) → (S0 1079 32 < S0 1079 33) → (x1 ≥ S0 1079 32) → (x1 < S 1079 32 ∨ (S 1079 32 = x1 ∧ x1 < S0 1079 33 ∧ 97 ≤ S0 1099 (S 1079 32).toNat ∧ S0 1099 (S 1079 32).toNat ≤ 122)) → (x1 = zt_R 32 32 (S0 1099) (S0 1079 33) (S0 1079 32)) → (x1 < S0 1079 33 ∧ 97 ≤ S0 1099 x1.toNat ∧ S0 1099 x1.toNat ≤ 122) → (zt_R 97 122 (S0 1099) (S0 1079 33) (S 1079 32) = zt_R 97 122 (S0 1099) (S0 1079 33) x1) → (S 1079 61 = zt_c8 (S0 1099) x1 (S 1079 32 - x1)) → (0 ≤ x1 ∧ x1 ≤ S 1079 32) → (17179869184 + (S0 1079 33 - S 1079 32).toNat) < R → zz_E g l zy_advanceNet_14_93 zr_advanceNet_14_93 (zz_QV n (zp_advanceNet_14_93  S0)) S n 81 [some (.ref 1079), some (zi x1)] [] 0 0) : zz_E g l zy_advanceNet_14_93 zr_advanceNet_14_93 (zz_QV n (zp_advanceNet_14_93  S0)) S n 0 [some (.ref 1079)] [] 0 0 := by
  refine zz_aload_n (x := 1079) rfl zd_14_93_0 ?_
  have g132 := zz_G.r G_S 1079 32 0 1500 rfl rfl
  refine zz_geti (z := S 1079 32) zd_14_93_1 zf_Md_334 zT_1079 rfl (zz_ltn hn rfl) rfl ?_
  refine zz_aload_n (x := 1079) rfl zd_14_93_4 ?_
  have g133 := zz_G.r G_S0 1079 33 0 1500 rfl rfl
  refine zz_geti (z := S0 1079 33) zd_14_93_5 zf_Md_337 zT_1079 rfl (zz_ltn hn rfl) (zz_rc F_S rfl rfl (fun h => h) rfl) ?_
  refine zz_icmp_ge (by omega) (by omega) zd_14_93_8 (fun c134 => ?_) (fun c134 => ?_)
  · refine zz_aload_n (x := 1079) rfl zd_14_93_38 ?_
    refine zz_geti (z := S 1079 32) zd_14_93_39 zf_Md_334 zT_1079 rfl (zz_ltn hn rfl) rfl ?_
    refine zz_istore_n [some (.ref 1079), some (zi (S 1079 32))] zd_14_93_42 (by decide) rfl ?_
    refine zz_aload_n (x := 1079) rfl zd_14_93_43 ?_
    refine zz_geti (z := S 1079 32) zd_14_93_44 zf_Md_334 zT_1079 rfl (zz_ltn hn rfl) rfl ?_
    refine zz_aload_n (x := 1079) rfl zd_14_93_47 ?_
    refine zz_geti (z := S0 1079 33) zd_14_93_48 zf_Md_337 zT_1079 rfl (zz_ltn hn rfl) (zz_rc F_S rfl rfl (fun h => h) rfl) ?_
    refine zz_icmp_ge (by omega) (by omega) zd_14_93_51 (fun c135 => ?_) (fun c135 => ?_)
    · refine zz_aload_n (x := 1079) rfl zd_14_93_199 ?_
      have g136 := zz_G.r G_S 1079 30 0 102 rfl rfl
      have e137 : S 1079 33 = S0 1079 33 := (zz_rc F_S rfl rfl (fun h => h) rfl)
      have g138 := zz_G.r G_S 1079 31 0 9999 rfl rfl
      refine zz_callVV [] zd_14_93_200 zk_Md_359 zT_1079 (zz_ltn hn rfl) rfl rfl ⟨Nat.le_of_ble_eq_true rfl, Nat.le_of_ble_eq_true rfl⟩ ⟨rfl, rfl⟩ (Nat.zero_le _) (Nat.zero_le _) (zc_advance_14_49  S n hn G_S (fun u h1 h2 => ((zz_rc F_S (zz_nc1 rfl) rfl (fun h => h) rfl)).trans (hN u h1 h2))) (fun S139 hP => ?_)
      obtain ⟨G_S139, fS139, o141, o142, o143, o144, o145, o146⟩ := hP
      rw [show S 1099 = S0 1099 from funext (fun u => (zz_rc F_S (zz_nc1 rfl) rfl (fun h => h) rfl)), show S 1079 33 = S0 1079 33 from (zz_rc F_S rfl rfl (fun h => h) rfl)] at o144
      rw [show S 1099 = S0 1099 from funext (fun u => (zz_rc F_S (zz_nc1 rfl) rfl (fun h => h) rfl)), show S 1079 33 = S0 1079 33 from (zz_rc F_S rfl rfl (fun h => h) rfl)] at o145
      rw [show S 1099 = S0 1099 from funext (fun u => (zz_rc F_S (zz_nc1 rfl) rfl (fun h => h) rfl)), show S 1079 33 = S0 1079 33 from (zz_rc F_S rfl rfl (fun h => h) rfl)] at o146
      have F_S139 := zz_fr.trans F_S fS139 rfl zz_nv
      have g147 := zz_G.r G_S139 1079 30 0 102 rfl rfl
      have g148 := zz_G.r G_S139 1079 32 0 1500 rfl rfl
      have g149 := zz_G.r G_S139 1079 31 0 9999 rfl rfl
      have e150 : S139 1079 61 = S 1079 61 := (zz_rc fS139 rfl rfl (fun h => h) rfl)
      exact zz_vret zd_14_93_203 rfl (Nat.zero_le _) (Nat.zero_le _) ⟨_, rfl, G_S139, F_S139, by omega, (by have q9 : S 1079 32 = zt_R 32 32 (S0 1099) (S0 1079 33) (S0 1079 32) := (zt_R0 (by omega)).symm.trans i0_3; have m9 := zt_kmd (f := (S0 1099)) (e := S0 1079 33) (p := S0 1079 32) q9 (by omega); have t9 := zt_tmq (f := (S0 1099)) (e := S0 1079 33) (p := S0 1079 32); rw [← q9] at t9; omega), (by have q9 : S 1079 32 = zt_R 32 32 (S0 1099) (S0 1079 33) (S0 1079 32) := (zt_R0 (by omega)).symm.trans i0_3; have m9 := zt_kmd (f := (S0 1099)) (e := S0 1079 33) (p := S0 1079 32) q9 (by omega); have t9 := zt_tmq (f := (S0 1099)) (e := S0 1079 33) (p := S0 1079 32); rw [← q9] at t9; omega), (fun h9 => by have q9 : S 1079 32 = zt_R 32 32 (S0 1099) (S0 1079 33) (S0 1079 32) := (zt_R0 (by omega)).symm.trans i0_3; have m9 := zt_kmd (f := (S0 1099)) (e := S0 1079 33) (p := S0 1079 32) q9 (by omega); have t9 := zt_tmq (f := (S0 1099)) (e := S0 1079 33) (p := S0 1079 32); rw [← q9] at t9; have z9 := o146 h9; omega), (fun h9 => by have q9 : S 1079 32 = zt_R 32 32 (S0 1099) (S0 1079 33) (S0 1079 32) := (zt_R0 (by omega)).symm.trans i0_3; have m9 := zt_kmd (f := (S0 1099)) (e := S0 1079 33) (p := S0 1079 32) q9 (by omega); have t9 := zt_tmq (f := (S0 1099)) (e := S0 1079 33) (p := S0 1079 32); rw [← q9] at t9; omega), ⟨(by have q9 : S 1079 32 = zt_R 32 32 (S0 1099) (S0 1079 33) (S0 1079 32) := (zt_R0 (by omega)).symm.trans i0_3; have m9 := zt_kmd (f := (S0 1099)) (e := S0 1079 33) (p := S0 1079 32) q9 (by omega); have t9 := zt_tmq (f := (S0 1099)) (e := S0 1079 33) (p := S0 1079 32); rw [← q9] at t9; omega), (by have q9 : S 1079 32 = zt_R 32 32 (S0 1099) (S0 1079 33) (S0 1079 32) := (zt_R0 (by omega)).symm.trans i0_3; have m9 := zt_kmd (f := (S0 1099)) (e := S0 1079 33) (p := S0 1079 32) q9 (by omega); have t9 := zt_tmq (f := (S0 1099)) (e := S0 1079 33) (p := S0 1079 32); rw [← q9] at t9; omega), (fun h9 => by have q9 : S 1079 32 = zt_R 32 32 (S0 1099) (S0 1079 33) (S0 1079 32) := (zt_R0 (by omega)).symm.trans i0_3; have m9 := zt_kmd (f := (S0 1099)) (e := S0 1079 33) (p := S0 1079 32) q9 (by omega); have t9 := zt_tmq (f := (S0 1099)) (e := S0 1079 33) (p := S0 1079 32); rw [← q9] at t9; have z9 := o146 h9; omega), (fun h9 => by have q9 : S 1079 32 = zt_R 32 32 (S0 1099) (S0 1079 33) (S0 1079 32) := (zt_R0 (by omega)).symm.trans i0_3; have m9 := zt_kmd (f := (S0 1099)) (e := S0 1079 33) (p := S0 1079 32) q9 (by omega); have t9 := zt_tmq (f := (S0 1099)) (e := S0 1079 33) (p := S0 1079 32); rw [← q9] at t9; omega)⟩⟩
    · refine zz_aload_n (x := 1079) rfl zd_14_93_54 ?_
      refine zz_getr (kd := 0) (z := 1099) zd_14_93_55 zf_Md_76 zT_1079 rfl (zz_ltn hn rfl) (zz_G.eq G_S 1079 27 1099 rfl rfl) (by decide) 1099 rfl ?_
      refine zz_aload_n (x := 1079) rfl zd_14_93_58 ?_
      refine zz_geti (z := S 1079 32) zd_14_93_59 zf_Md_334 zT_1079 rfl (zz_ltn hn rfl) rfl ?_
      have g151 := zz_G.r G_S0 1099 ((S 1079 32).toNat) 0 255 rfl rfl
      refine zz_iald (z := S0 1099 ((S 1079 32).toNat)) zd_14_93_62 zT_1099 rfl (zz_ltn hn rfl) (by decide) (by omega) (zz_rc F_S (zz_nc1 rfl) rfl (fun h => h) rfl) ?_
      refine zz_i2l (by omega) zd_14_93_63 ?_
      refine zz_ldc2 (z := 97) zq_Md_340 (by decide) zd_14_93_64 ?_
      refine zz_ldc2 (z := 122) zq_Md_342 (by decide) zd_14_93_67 ?_
      refine zz_callSI [zl (S0 1099 ((S 1079 32).toNat)), zl 97, zl 122] zd_14_93_70 zk_Md_192 rfl rfl ⟨Nat.le_of_ble_eq_true rfl, Nat.le_of_ble_eq_true rfl⟩ ⟨rfl, rfl⟩ (Nat.zero_le _) (Nat.zero_le _) (zc_in_14_4 (S0 1099 ((S 1079 32).toNat)) 97 122 S n hn G_S (by omega) (by omega) (by omega)) (fun v153 S152 hP => ?_)
      obtain ⟨rfl, o154, o155⟩ := hP
      rcases (by omega : v153 = 0 ∨ v153 = 1) with rfl | rfl
      · have n156 : S0 1099 ((S 1079 32).toNat) < 97 ∨ 122 < S0 1099 ((S 1079 32).toNat) := by omega
        clear o155
        refine zz_if_eq (by omega) zd_14_93_73 (fun c157 => ?_) (fun c157 => ?_)
        · refine zz_aload_n (x := 1079) rfl zd_14_93_199 ?_
          have g158 := zz_G.r G_S 1079 30 0 102 rfl rfl
          have e159 : S 1079 33 = S0 1079 33 := (zz_rc F_S rfl rfl (fun h => h) rfl)
          have g160 := zz_G.r G_S 1079 31 0 9999 rfl rfl
          refine zz_callVV [] zd_14_93_200 zk_Md_359 zT_1079 (zz_ltn hn rfl) rfl rfl ⟨Nat.le_of_ble_eq_true rfl, Nat.le_of_ble_eq_true rfl⟩ ⟨rfl, rfl⟩ (Nat.zero_le _) (Nat.zero_le _) (zc_advance_14_49  S n hn G_S (fun u h1 h2 => ((zz_rc F_S (zz_nc1 rfl) rfl (fun h => h) rfl)).trans (hN u h1 h2))) (fun S161 hP => ?_)
          obtain ⟨G_S161, fS161, o163, o164, o165, o166, o167, o168⟩ := hP
          rw [show S 1099 = S0 1099 from funext (fun u => (zz_rc F_S (zz_nc1 rfl) rfl (fun h => h) rfl)), show S 1079 33 = S0 1079 33 from (zz_rc F_S rfl rfl (fun h => h) rfl)] at o166
          rw [show S 1099 = S0 1099 from funext (fun u => (zz_rc F_S (zz_nc1 rfl) rfl (fun h => h) rfl)), show S 1079 33 = S0 1079 33 from (zz_rc F_S rfl rfl (fun h => h) rfl)] at o167
          rw [show S 1099 = S0 1099 from funext (fun u => (zz_rc F_S (zz_nc1 rfl) rfl (fun h => h) rfl)), show S 1079 33 = S0 1079 33 from (zz_rc F_S rfl rfl (fun h => h) rfl)] at o168
          have F_S161 := zz_fr.trans F_S fS161 rfl zz_nv
          have g169 := zz_G.r G_S161 1079 30 0 102 rfl rfl
          have g170 := zz_G.r G_S161 1079 32 0 1500 rfl rfl
          have g171 := zz_G.r G_S161 1079 31 0 9999 rfl rfl
          have e172 : S161 1079 61 = S 1079 61 := (zz_rc fS161 rfl rfl (fun h => h) rfl)
          exact zz_vret zd_14_93_203 rfl (Nat.zero_le _) (Nat.zero_le _) ⟨_, rfl, G_S161, F_S161, by omega, (by have q9 : S 1079 32 = zt_R 32 32 (S0 1099) (S0 1079 33) (S0 1079 32) := (zt_R0 (by omega)).symm.trans i0_3; have m9 := zt_kmd (f := (S0 1099)) (e := S0 1079 33) (p := S0 1079 32) q9 (by omega); have t9 := zt_tmq (f := (S0 1099)) (e := S0 1079 33) (p := S0 1079 32); rw [← q9] at t9; omega), (by have q9 : S 1079 32 = zt_R 32 32 (S0 1099) (S0 1079 33) (S0 1079 32) := (zt_R0 (by omega)).symm.trans i0_3; have m9 := zt_kmd (f := (S0 1099)) (e := S0 1079 33) (p := S0 1079 32) q9 (by omega); have t9 := zt_tmq (f := (S0 1099)) (e := S0 1079 33) (p := S0 1079 32); rw [← q9] at t9; omega), (fun h9 => by have q9 : S 1079 32 = zt_R 32 32 (S0 1099) (S0 1079 33) (S0 1079 32) := (zt_R0 (by omega)).symm.trans i0_3; have m9 := zt_kmd (f := (S0 1099)) (e := S0 1079 33) (p := S0 1079 32) q9 (by omega); have t9 := zt_tmq (f := (S0 1099)) (e := S0 1079 33) (p := S0 1079 32); rw [← q9] at t9; have z9 := o168 h9; omega), (fun h9 => by have q9 : S 1079 32 = zt_R 32 32 (S0 1099) (S0 1079 33) (S0 1079 32) := (zt_R0 (by omega)).symm.trans i0_3; have m9 := zt_kmd (f := (S0 1099)) (e := S0 1079 33) (p := S0 1079 32) q9 (by omega); have t9 := zt_tmq (f := (S0 1099)) (e := S0 1079 33) (p := S0 1079 32); rw [← q9] at t9; omega), ⟨(by have q9 : S 1079 32 = zt_R 32 32 (S0 1099) (S0 1079 33) (S0 1079 32) := (zt_R0 (by omega)).symm.trans i0_3; have m9 := zt_kmd (f := (S0 1099)) (e := S0 1079 33) (p := S0 1079 32) q9 (by omega); have t9 := zt_tmq (f := (S0 1099)) (e := S0 1079 33) (p := S0 1079 32); rw [← q9] at t9; omega), (by have q9 : S 1079 32 = zt_R 32 32 (S0 1099) (S0 1079 33) (S0 1079 32) := (zt_R0 (by omega)).symm.trans i0_3; have m9 := zt_kmd (f := (S0 1099)) (e := S0 1079 33) (p := S0 1079 32) q9 (by omega); have t9 := zt_tmq (f := (S0 1099)) (e := S0 1079 33) (p := S0 1079 32); rw [← q9] at t9; omega), (fun h9 => by have q9 : S 1079 32 = zt_R 32 32 (S0 1099) (S0 1079 33) (S0 1079 32) := (zt_R0 (by omega)).symm.trans i0_3; have m9 := zt_kmd (f := (S0 1099)) (e := S0 1079 33) (p := S0 1079 32) q9 (by omega); have t9 := zt_tmq (f := (S0 1099)) (e := S0 1079 33) (p := S0 1079 32); rw [← q9] at t9; have z9 := o168 h9; omega), (fun h9 => by have q9 : S 1079 32 = zt_R 32 32 (S0 1099) (S0 1079 33) (S0 1079 32) := (zt_R0 (by omega)).symm.trans i0_3; have m9 := zt_kmd (f := (S0 1099)) (e := S0 1079 33) (p := S0 1079 32) q9 (by omega); have t9 := zt_tmq (f := (S0 1099)) (e := S0 1079 33) (p := S0 1079 32); rw [← q9] at t9; omega)⟩⟩
        · exfalso; omega
      · have n173 : 97 ≤ S0 1099 ((S 1079 32).toNat) ∧ S0 1099 ((S 1079 32).toNat) ≤ 122 := by omega
        clear o155
        refine zz_if_eq (by omega) zd_14_93_73 (fun c174 => ?_) (fun c174 => ?_)
        · exfalso; omega
        · refine zz_aload_n (x := 1079) rfl zd_14_93_76 ?_
          refine zz_lconst (z := 0) (by decide) zd_14_93_77 ?_
          refine zz_putl zd_14_93_78 zf_Md_522 zT_1079 rfl (zz_ltn hn rfl) (fun S175 qS175 => ?_)
          have G_S175 := zz_G.put G_S qS175 (-9223372036854775808) 9223372036854775807 rfl (by omega)
          have F_S175 := zz_fr.puts F_S qS175 rfl
          have e176 : S175 1079 32 = S 1079 32 := (zz_ro qS175 (fun h => absurd h.2 (by decide)) rfl)
          have e177 : S175 1079 61 = 0 := (zz_rs qS175)
          refine zz_less (ls1 := [some (.ref 1079), some (zi (S 1079 32))]) ⟨rfl, ⟨rfl, trivial⟩⟩ ?_
          exact k81 (S 1079 32) S175 G_S175 F_S175 (by omega) (by omega) (by omega) (by rw [show S175 1079 32 = S 1079 32 from (zz_ro qS175 (fun h => absurd h.2 (by decide)) rfl)]; omega) ((zt_R0 (by omega)).symm.trans i0_3) (by omega) (by rw [show S175 1079 32 = S 1079 32 by omega]) (by rw [show S175 1079 32 - (S 1079 32) = 0 by omega]; exact (show S175 1079 61 = 0 by omega)) (by omega) (by omega)
  · refine zz_aload_n (x := 1079) rfl zd_14_93_11 ?_
    refine zz_getr (kd := 0) (z := 1099) zd_14_93_12 zf_Md_76 zT_1079 rfl (zz_ltn hn rfl) (zz_G.eq G_S 1079 27 1099 rfl rfl) (by decide) 1099 rfl ?_
    refine zz_aload_n (x := 1079) rfl zd_14_93_15 ?_
    refine zz_geti (z := S 1079 32) zd_14_93_16 zf_Md_334 zT_1079 rfl (zz_ltn hn rfl) rfl ?_
    have g178 := zz_G.r G_S0 1099 ((S 1079 32).toNat) 0 255 rfl rfl
    refine zz_iald (z := S0 1099 ((S 1079 32).toNat)) zd_14_93_19 zT_1099 rfl (zz_ltn hn rfl) (by decide) (by omega) (zz_rc F_S (zz_nc1 rfl) rfl (fun h => h) rfl) ?_
    refine zz_bipush (by decide) zd_14_93_20 ?_
    refine zz_icmp_ne (by omega) (by omega) zd_14_93_22 (fun c179 => ?_) (fun c179 => ?_)
    · refine zz_aload_n (x := 1079) rfl zd_14_93_38 ?_
      refine zz_geti (z := S 1079 32) zd_14_93_39 zf_Md_334 zT_1079 rfl (zz_ltn hn rfl) rfl ?_
      refine zz_istore_n [some (.ref 1079), some (zi (S 1079 32))] zd_14_93_42 (by decide) rfl ?_
      refine zz_aload_n (x := 1079) rfl zd_14_93_43 ?_
      refine zz_geti (z := S 1079 32) zd_14_93_44 zf_Md_334 zT_1079 rfl (zz_ltn hn rfl) rfl ?_
      refine zz_aload_n (x := 1079) rfl zd_14_93_47 ?_
      refine zz_geti (z := S0 1079 33) zd_14_93_48 zf_Md_337 zT_1079 rfl (zz_ltn hn rfl) (zz_rc F_S rfl rfl (fun h => h) rfl) ?_
      refine zz_icmp_ge (by omega) (by omega) zd_14_93_51 (fun c180 => ?_) (fun c180 => ?_)
      · refine zz_aload_n (x := 1079) rfl zd_14_93_199 ?_
        have g181 := zz_G.r G_S 1079 30 0 102 rfl rfl
        have e182 : S 1079 33 = S0 1079 33 := (zz_rc F_S rfl rfl (fun h => h) rfl)
        have g183 := zz_G.r G_S 1079 31 0 9999 rfl rfl
        refine zz_callVV [] zd_14_93_200 zk_Md_359 zT_1079 (zz_ltn hn rfl) rfl rfl ⟨Nat.le_of_ble_eq_true rfl, Nat.le_of_ble_eq_true rfl⟩ ⟨rfl, rfl⟩ (Nat.zero_le _) (Nat.zero_le _) (zc_advance_14_49  S n hn G_S (fun u h1 h2 => ((zz_rc F_S (zz_nc1 rfl) rfl (fun h => h) rfl)).trans (hN u h1 h2))) (fun S184 hP => ?_)
        obtain ⟨G_S184, fS184, o186, o187, o188, o189, o190, o191⟩ := hP
        rw [show S 1099 = S0 1099 from funext (fun u => (zz_rc F_S (zz_nc1 rfl) rfl (fun h => h) rfl)), show S 1079 33 = S0 1079 33 from (zz_rc F_S rfl rfl (fun h => h) rfl)] at o189
        rw [show S 1099 = S0 1099 from funext (fun u => (zz_rc F_S (zz_nc1 rfl) rfl (fun h => h) rfl)), show S 1079 33 = S0 1079 33 from (zz_rc F_S rfl rfl (fun h => h) rfl)] at o190
        rw [show S 1099 = S0 1099 from funext (fun u => (zz_rc F_S (zz_nc1 rfl) rfl (fun h => h) rfl)), show S 1079 33 = S0 1079 33 from (zz_rc F_S rfl rfl (fun h => h) rfl)] at o191
        have F_S184 := zz_fr.trans F_S fS184 rfl zz_nv
        have g192 := zz_G.r G_S184 1079 30 0 102 rfl rfl
        have g193 := zz_G.r G_S184 1079 32 0 1500 rfl rfl
        have g194 := zz_G.r G_S184 1079 31 0 9999 rfl rfl
        have e195 : S184 1079 61 = S 1079 61 := (zz_rc fS184 rfl rfl (fun h => h) rfl)
        exact zz_vret zd_14_93_203 rfl (Nat.zero_le _) (Nat.zero_le _) ⟨_, rfl, G_S184, F_S184, by omega, (by have q9 : S 1079 32 = zt_R 32 32 (S0 1099) (S0 1079 33) (S0 1079 32) := (zt_R0 (by omega)).symm.trans i0_3; have m9 := zt_kmd (f := (S0 1099)) (e := S0 1079 33) (p := S0 1079 32) q9 (by omega); have t9 := zt_tmq (f := (S0 1099)) (e := S0 1079 33) (p := S0 1079 32); rw [← q9] at t9; omega), (by have q9 : S 1079 32 = zt_R 32 32 (S0 1099) (S0 1079 33) (S0 1079 32) := (zt_R0 (by omega)).symm.trans i0_3; have m9 := zt_kmd (f := (S0 1099)) (e := S0 1079 33) (p := S0 1079 32) q9 (by omega); have t9 := zt_tmq (f := (S0 1099)) (e := S0 1079 33) (p := S0 1079 32); rw [← q9] at t9; omega), (fun h9 => by have q9 : S 1079 32 = zt_R 32 32 (S0 1099) (S0 1079 33) (S0 1079 32) := (zt_R0 (by omega)).symm.trans i0_3; have m9 := zt_kmd (f := (S0 1099)) (e := S0 1079 33) (p := S0 1079 32) q9 (by omega); have t9 := zt_tmq (f := (S0 1099)) (e := S0 1079 33) (p := S0 1079 32); rw [← q9] at t9; have z9 := o191 h9; omega), (fun h9 => by have q9 : S 1079 32 = zt_R 32 32 (S0 1099) (S0 1079 33) (S0 1079 32) := (zt_R0 (by omega)).symm.trans i0_3; have m9 := zt_kmd (f := (S0 1099)) (e := S0 1079 33) (p := S0 1079 32) q9 (by omega); have t9 := zt_tmq (f := (S0 1099)) (e := S0 1079 33) (p := S0 1079 32); rw [← q9] at t9; omega), ⟨(by have q9 : S 1079 32 = zt_R 32 32 (S0 1099) (S0 1079 33) (S0 1079 32) := (zt_R0 (by omega)).symm.trans i0_3; have m9 := zt_kmd (f := (S0 1099)) (e := S0 1079 33) (p := S0 1079 32) q9 (by omega); have t9 := zt_tmq (f := (S0 1099)) (e := S0 1079 33) (p := S0 1079 32); rw [← q9] at t9; omega), (by have q9 : S 1079 32 = zt_R 32 32 (S0 1099) (S0 1079 33) (S0 1079 32) := (zt_R0 (by omega)).symm.trans i0_3; have m9 := zt_kmd (f := (S0 1099)) (e := S0 1079 33) (p := S0 1079 32) q9 (by omega); have t9 := zt_tmq (f := (S0 1099)) (e := S0 1079 33) (p := S0 1079 32); rw [← q9] at t9; omega), (fun h9 => by have q9 : S 1079 32 = zt_R 32 32 (S0 1099) (S0 1079 33) (S0 1079 32) := (zt_R0 (by omega)).symm.trans i0_3; have m9 := zt_kmd (f := (S0 1099)) (e := S0 1079 33) (p := S0 1079 32) q9 (by omega); have t9 := zt_tmq (f := (S0 1099)) (e := S0 1079 33) (p := S0 1079 32); rw [← q9] at t9; have z9 := o191 h9; omega), (fun h9 => by have q9 : S 1079 32 = zt_R 32 32 (S0 1099) (S0 1079 33) (S0 1079 32) := (zt_R0 (by omega)).symm.trans i0_3; have m9 := zt_kmd (f := (S0 1099)) (e := S0 1079 33) (p := S0 1079 32) q9 (by omega); have t9 := zt_tmq (f := (S0 1099)) (e := S0 1079 33) (p := S0 1079 32); rw [← q9] at t9; omega)⟩⟩
      · refine zz_aload_n (x := 1079) rfl zd_14_93_54 ?_
        refine zz_getr (kd := 0) (z := 1099) zd_14_93_55 zf_Md_76 zT_1079 rfl (zz_ltn hn rfl) (zz_G.eq G_S 1079 27 1099 rfl rfl) (by decide) 1099 rfl ?_
        refine zz_aload_n (x := 1079) rfl zd_14_93_58 ?_
        refine zz_geti (z := S 1079 32) zd_14_93_59 zf_Md_334 zT_1079 rfl (zz_ltn hn rfl) rfl ?_
        refine zz_iald (z := S0 1099 ((S 1079 32).toNat)) zd_14_93_62 zT_1099 rfl (zz_ltn hn rfl) (by decide) (by omega) (zz_rc F_S (zz_nc1 rfl) rfl (fun h => h) rfl) ?_
        refine zz_i2l (by omega) zd_14_93_63 ?_
        refine zz_ldc2 (z := 97) zq_Md_340 (by decide) zd_14_93_64 ?_
        refine zz_ldc2 (z := 122) zq_Md_342 (by decide) zd_14_93_67 ?_
        refine zz_callSI [zl (S0 1099 ((S 1079 32).toNat)), zl 97, zl 122] zd_14_93_70 zk_Md_192 rfl rfl ⟨Nat.le_of_ble_eq_true rfl, Nat.le_of_ble_eq_true rfl⟩ ⟨rfl, rfl⟩ (Nat.zero_le _) (Nat.zero_le _) (zc_in_14_4 (S0 1099 ((S 1079 32).toNat)) 97 122 S n hn G_S (by omega) (by omega) (by omega)) (fun v197 S196 hP => ?_)
        obtain ⟨rfl, o198, o199⟩ := hP
        rcases (by omega : v197 = 0 ∨ v197 = 1) with rfl | rfl
        · have n200 : S0 1099 ((S 1079 32).toNat) < 97 ∨ 122 < S0 1099 ((S 1079 32).toNat) := by omega
          clear o199
          refine zz_if_eq (by omega) zd_14_93_73 (fun c201 => ?_) (fun c201 => ?_)
          · refine zz_aload_n (x := 1079) rfl zd_14_93_199 ?_
            have g202 := zz_G.r G_S 1079 30 0 102 rfl rfl
            have e203 : S 1079 33 = S0 1079 33 := (zz_rc F_S rfl rfl (fun h => h) rfl)
            have g204 := zz_G.r G_S 1079 31 0 9999 rfl rfl
            refine zz_callVV [] zd_14_93_200 zk_Md_359 zT_1079 (zz_ltn hn rfl) rfl rfl ⟨Nat.le_of_ble_eq_true rfl, Nat.le_of_ble_eq_true rfl⟩ ⟨rfl, rfl⟩ (Nat.zero_le _) (Nat.zero_le _) (zc_advance_14_49  S n hn G_S (fun u h1 h2 => ((zz_rc F_S (zz_nc1 rfl) rfl (fun h => h) rfl)).trans (hN u h1 h2))) (fun S205 hP => ?_)
            obtain ⟨G_S205, fS205, o207, o208, o209, o210, o211, o212⟩ := hP
            rw [show S 1099 = S0 1099 from funext (fun u => (zz_rc F_S (zz_nc1 rfl) rfl (fun h => h) rfl)), show S 1079 33 = S0 1079 33 from (zz_rc F_S rfl rfl (fun h => h) rfl)] at o210
            rw [show S 1099 = S0 1099 from funext (fun u => (zz_rc F_S (zz_nc1 rfl) rfl (fun h => h) rfl)), show S 1079 33 = S0 1079 33 from (zz_rc F_S rfl rfl (fun h => h) rfl)] at o211
            rw [show S 1099 = S0 1099 from funext (fun u => (zz_rc F_S (zz_nc1 rfl) rfl (fun h => h) rfl)), show S 1079 33 = S0 1079 33 from (zz_rc F_S rfl rfl (fun h => h) rfl)] at o212
            have F_S205 := zz_fr.trans F_S fS205 rfl zz_nv
            have g213 := zz_G.r G_S205 1079 30 0 102 rfl rfl
            have g214 := zz_G.r G_S205 1079 32 0 1500 rfl rfl
            have g215 := zz_G.r G_S205 1079 31 0 9999 rfl rfl
            have e216 : S205 1079 61 = S 1079 61 := (zz_rc fS205 rfl rfl (fun h => h) rfl)
            exact zz_vret zd_14_93_203 rfl (Nat.zero_le _) (Nat.zero_le _) ⟨_, rfl, G_S205, F_S205, by omega, (by have q9 : S 1079 32 = zt_R 32 32 (S0 1099) (S0 1079 33) (S0 1079 32) := (zt_R0 (by omega)).symm.trans i0_3; have m9 := zt_kmd (f := (S0 1099)) (e := S0 1079 33) (p := S0 1079 32) q9 (by omega); have t9 := zt_tmq (f := (S0 1099)) (e := S0 1079 33) (p := S0 1079 32); rw [← q9] at t9; omega), (by have q9 : S 1079 32 = zt_R 32 32 (S0 1099) (S0 1079 33) (S0 1079 32) := (zt_R0 (by omega)).symm.trans i0_3; have m9 := zt_kmd (f := (S0 1099)) (e := S0 1079 33) (p := S0 1079 32) q9 (by omega); have t9 := zt_tmq (f := (S0 1099)) (e := S0 1079 33) (p := S0 1079 32); rw [← q9] at t9; omega), (fun h9 => by have q9 : S 1079 32 = zt_R 32 32 (S0 1099) (S0 1079 33) (S0 1079 32) := (zt_R0 (by omega)).symm.trans i0_3; have m9 := zt_kmd (f := (S0 1099)) (e := S0 1079 33) (p := S0 1079 32) q9 (by omega); have t9 := zt_tmq (f := (S0 1099)) (e := S0 1079 33) (p := S0 1079 32); rw [← q9] at t9; have z9 := o212 h9; omega), (fun h9 => by have q9 : S 1079 32 = zt_R 32 32 (S0 1099) (S0 1079 33) (S0 1079 32) := (zt_R0 (by omega)).symm.trans i0_3; have m9 := zt_kmd (f := (S0 1099)) (e := S0 1079 33) (p := S0 1079 32) q9 (by omega); have t9 := zt_tmq (f := (S0 1099)) (e := S0 1079 33) (p := S0 1079 32); rw [← q9] at t9; omega), ⟨(by have q9 : S 1079 32 = zt_R 32 32 (S0 1099) (S0 1079 33) (S0 1079 32) := (zt_R0 (by omega)).symm.trans i0_3; have m9 := zt_kmd (f := (S0 1099)) (e := S0 1079 33) (p := S0 1079 32) q9 (by omega); have t9 := zt_tmq (f := (S0 1099)) (e := S0 1079 33) (p := S0 1079 32); rw [← q9] at t9; omega), (by have q9 : S 1079 32 = zt_R 32 32 (S0 1099) (S0 1079 33) (S0 1079 32) := (zt_R0 (by omega)).symm.trans i0_3; have m9 := zt_kmd (f := (S0 1099)) (e := S0 1079 33) (p := S0 1079 32) q9 (by omega); have t9 := zt_tmq (f := (S0 1099)) (e := S0 1079 33) (p := S0 1079 32); rw [← q9] at t9; omega), (fun h9 => by have q9 : S 1079 32 = zt_R 32 32 (S0 1099) (S0 1079 33) (S0 1079 32) := (zt_R0 (by omega)).symm.trans i0_3; have m9 := zt_kmd (f := (S0 1099)) (e := S0 1079 33) (p := S0 1079 32) q9 (by omega); have t9 := zt_tmq (f := (S0 1099)) (e := S0 1079 33) (p := S0 1079 32); rw [← q9] at t9; have z9 := o212 h9; omega), (fun h9 => by have q9 : S 1079 32 = zt_R 32 32 (S0 1099) (S0 1079 33) (S0 1079 32) := (zt_R0 (by omega)).symm.trans i0_3; have m9 := zt_kmd (f := (S0 1099)) (e := S0 1079 33) (p := S0 1079 32) q9 (by omega); have t9 := zt_tmq (f := (S0 1099)) (e := S0 1079 33) (p := S0 1079 32); rw [← q9] at t9; omega)⟩⟩
          · exfalso; omega
        · have n217 : 97 ≤ S0 1099 ((S 1079 32).toNat) ∧ S0 1099 ((S 1079 32).toNat) ≤ 122 := by omega
          clear o199
          refine zz_if_eq (by omega) zd_14_93_73 (fun c218 => ?_) (fun c218 => ?_)
          · exfalso; omega
          · refine zz_aload_n (x := 1079) rfl zd_14_93_76 ?_
            refine zz_lconst (z := 0) (by decide) zd_14_93_77 ?_
            refine zz_putl zd_14_93_78 zf_Md_522 zT_1079 rfl (zz_ltn hn rfl) (fun S219 qS219 => ?_)
            have G_S219 := zz_G.put G_S qS219 (-9223372036854775808) 9223372036854775807 rfl (by omega)
            have F_S219 := zz_fr.puts F_S qS219 rfl
            have e220 : S219 1079 32 = S 1079 32 := (zz_ro qS219 (fun h => absurd h.2 (by decide)) rfl)
            have e221 : S219 1079 61 = 0 := (zz_rs qS219)
            refine zz_less (ls1 := [some (.ref 1079), some (zi (S 1079 32))]) ⟨rfl, ⟨rfl, trivial⟩⟩ ?_
            exact k81 (S 1079 32) S219 G_S219 F_S219 (by omega) (by omega) (by omega) (by rw [show S219 1079 32 = S 1079 32 from (zz_ro qS219 (fun h => absurd h.2 (by decide)) rfl)]; omega) ((zt_R0 (by omega)).symm.trans i0_3) (by omega) (by rw [show S219 1079 32 = S 1079 32 by omega]) (by rw [show S219 1079 32 - (S 1079 32) = 0 by omega]; exact (show S219 1079 61 = 0 by omega)) (by omega) (by omega)
    · refine zz_aload_n (x := 1079) rfl zd_14_93_25 ?_
      refine zz_dup rfl zd_14_93_26 ?_
      refine zz_geti (z := S 1079 32) zd_14_93_27 zf_Md_334 zT_1079 rfl (zz_ltn hn rfl) rfl ?_
      refine zz_iconst zd_14_93_30 ?_
      refine zz_iadd zd_14_93_31 ?_
      refine zz_puti zd_14_93_32 zf_Md_334 zT_1079 rfl (zz_ltn hn rfl) (fun S222 qS222 => ?_)
      have G_S222 := zz_G.put G_S qS222 0 1500 rfl (by omega)
      have F_S222 := zz_fr.puts F_S qS222 rfl
      refine zz_goto zd_14_93_35 ?_
      have e223 : S222 1079 32 = (S 1079 32) + 1 := (zz_rs qS222)
      exact k0 S222 G_S222 F_S222 (by omega) (by omega) (by omega) (by rw [show S222 1079 32 = S 1079 32 + 1 by omega, zt_RS (by omega) (by omega)]; exact i0_3) (by omega)
theorem zb_advanceNet_14_93_81 {g : mm_G} {l : Launch}  (S0 : zz_S) (n : Nat) (hn : zz_end ≤ n) (G_S0 : zz_G S0) (hN : ∀ w : Nat, 1 ≤ w → w ≤ 20 → S0 1100 w = zt_cd (zt_nw.getD w [])) (x1 : Int) (S : zz_S) (G_S : zz_G S) (F_S : zz_fr [(1079, 30), (1079, 31), (1079, 32), (1079, 61)] [] (fun _ _ => False) S0 S) (i81_0 : 0 ≤ x1 ∧ x1 ≤ 1500) (i81_1 : S0 1079 32 < S0 1079 33) (i81_2 : x1 ≥ S0 1079 32) (i81_3 : x1 < S 1079 32 ∨ (S 1079 32 = x1 ∧ x1 < S0 1079 33 ∧ 97 ≤ S0 1099 (S 1079 32).toNat ∧ S0 1099 (S 1079 32).toNat ≤ 122)) (i81_4 : x1 = zt_R 32 32 (S0 1099) (S0 1079 33) (S0 1079 32)) (i81_5 : x1 < S0 1079 33 ∧ 97 ≤ S0 1099 x1.toNat ∧ S0 1099 x1.toNat ≤ 122) (i81_6 : zt_R 97 122 (S0 1099) (S0 1079 33) (S 1079 32) = zt_R 97 122 (S0 1099) (S0 1079 33) x1) (i81_7 : S 1079 61 = zt_c8 (S0 1099) x1 (S 1079 32 - x1)) (i81_8 : 0 ≤ x1 ∧ x1 ≤ S 1079 32) (R : Nat) (hR : (17179869184 + (S0 1079 33 - S 1079 32).toNat) = R) (k81 : ∀ (x1 : Int) (S : zz_S), zz_G S → zz_fr [(1079, 30), (1079, 31), (1079, 32), (1079, 61)] [] (fun _ _ => False) S0 S → (0 ≤ x1 ∧ x1 ≤ 1500) → (S0 1079 32 < S0 1079 33) → (x1 ≥ S0 1079 32) → (x1 < S 1079 32 ∨ (S 1079 32 = x1 ∧ x1 < S0 1079 33 ∧ 97 ≤ S0 1099 (S 1079 32).toNat ∧ S0 1099 (S 1079 32).toNat ≤ 122)) → (x1 = zt_R 32 32 (S0 1099) (S0 1079 33) (S0 1079 32)) → (x1 < S0 1079 33 ∧ 97 ≤ S0 1099 x1.toNat ∧ S0 1099 x1.toNat ≤ 122) → (zt_R 97 122 (S0 1099) (S0 1079 33) (S 1079 32) = zt_R 97 122 (S0 1099) (S0 1079 33) x1) → (S 1079 61 = zt_c8 (S0 1099) x1 (S 1079 32 - x1)) → (0 ≤ x1 ∧ x1 ≤ S 1079 32) → (17179869184 + (S0 1079 33 - S 1079 32).toNat) < R → zz_E g l zy_advanceNet_14_93 zr_advanceNet_14_93 (zz_QV n (zp_advanceNet_14_93  S0)) S n 81 [some (.ref 1079), some (zi x1)] [] 0 0) : zz_E g l zy_advanceNet_14_93 zr_advanceNet_14_93 (zz_QV n (zp_advanceNet_14_93  S0)) S n 81 [some (.ref 1079), some (zi x1)] [] 0 0 := by
  refine zz_aload_n (x := 1079) rfl zd_14_93_81 ?_
  have g81 := zz_G.r G_S 1079 32 0 1500 rfl rfl
  refine zz_geti (z := S 1079 32) zd_14_93_82 zf_Md_334 zT_1079 rfl (zz_ltn hn rfl) rfl ?_
  refine zz_aload_n (x := 1079) rfl zd_14_93_85 ?_
  have g82 := zz_G.r G_S0 1079 33 0 1500 rfl rfl
  refine zz_geti (z := S0 1079 33) zd_14_93_86 zf_Md_337 zT_1079 rfl (zz_ltn hn rfl) (zz_rc F_S rfl rfl (fun h => h) rfl) ?_
  refine zz_icmp_ge (by omega) (by omega) zd_14_93_89 (fun c83 => ?_) (fun c83 => ?_)
  · have hr9 := zt_R0 (lo := 97) (hi := 122) (f := (S0 1099)) (e := S0 1079 33) (p := S 1079 32) (by omega)
    have ht9 := zt_tmw (f := (S0 1099)) (e := S0 1079 33) (p := S0 1079 32) (q := x1) (by omega) (by omega) (by omega)
    rw [show zt_R 97 122 (S0 1099) (S0 1079 33) x1 = S 1079 32 by omega] at ht9
    have hk9 := zt_kmw (f := (S0 1099)) (e := S0 1079 33) (p := S0 1079 32) (q := x1) (x := S 1079 32) (by omega) ht9.1 ht9.2 (by omega)
    refine zz_aload_n (x := 1079) rfl zd_14_93_176 ?_
    refine zz_aload_n (x := 1079) rfl zd_14_93_177 ?_
    refine zz_geti (z := S 1079 32) zd_14_93_178 zf_Md_334 zT_1079 rfl (zz_ltn hn rfl) rfl ?_
    refine zz_iload_n (x := x1) rfl zd_14_93_181 ?_
    refine zz_isub zd_14_93_182 ?_
    refine zz_bipush (by decide) zd_14_93_183 ?_
    refine zz_icmp_le (by omega) (by omega) zd_14_93_185 (fun c84 => ?_) (fun c84 => ?_)
    · refine zz_bipush (by decide) zd_14_93_193 ?_
      refine zz_puti zd_14_93_195 zf_Md_347 zT_1079 rfl (zz_ltn hn rfl) (fun S85 qS85 => ?_)
      have G_S85 := zz_G.put G_S qS85 0 102 rfl (by omega)
      have F_S85 := zz_fr.puts F_S qS85 rfl
      have e86 : S85 1079 30 = 102 := (zz_rs qS85)
      have e87 : S85 1079 32 = S 1079 32 := (zz_ro qS85 (fun h => absurd h.2 (by decide)) rfl)
      have g88 := zz_G.r G_S 1079 31 0 9999 rfl rfl
      have e89 : S85 1079 31 = S 1079 31 := (zz_ro qS85 (fun h => absurd h.2 (by decide)) rfl)
      have e90 : S85 1079 61 = S 1079 61 := (zz_ro qS85 (fun h => absurd h.2 (by decide)) rfl)
      exact zz_vret zd_14_93_198 rfl (Nat.zero_le _) (Nat.zero_le _) ⟨_, rfl, G_S85, F_S85, by omega, (by rw [hk9.1]; split <;> omega), by omega, fun h9 => by omega, (fun h9 => by have b9 := zt_c8b i81_7 (by omega) (fun i h1 h2 => zt_Rl (lo := 97) (hi := 122) (e := S0 1079 33) (p := x1) h1 (by omega)); rw [hk9.2, ← b9.1]; omega), ⟨(by rw [hk9.1]; split <;> omega), by omega, fun h9 => by omega, (fun h9 => by have b9 := zt_c8b i81_7 (by omega) (fun i h1 h2 => zt_Rl (lo := 97) (hi := 122) (e := S0 1079 33) (p := x1) h1 (by omega)); rw [hk9.2, ← b9.1]; omega)⟩⟩
    · refine zz_bipush (by decide) zd_14_93_188 ?_
      refine zz_goto zd_14_93_190 ?_
      refine zz_puti zd_14_93_195 zf_Md_347 zT_1079 rfl (zz_ltn hn rfl) (fun S91 qS91 => ?_)
      have G_S91 := zz_G.put G_S qS91 0 102 rfl (by omega)
      have F_S91 := zz_fr.puts F_S qS91 rfl
      have e92 : S91 1079 30 = 101 := (zz_rs qS91)
      have e93 : S91 1079 32 = S 1079 32 := (zz_ro qS91 (fun h => absurd h.2 (by decide)) rfl)
      have g94 := zz_G.r G_S 1079 31 0 9999 rfl rfl
      have e95 : S91 1079 31 = S 1079 31 := (zz_ro qS91 (fun h => absurd h.2 (by decide)) rfl)
      have e96 : S91 1079 61 = S 1079 61 := (zz_ro qS91 (fun h => absurd h.2 (by decide)) rfl)
      exact zz_vret zd_14_93_198 rfl (Nat.zero_le _) (Nat.zero_le _) ⟨_, rfl, G_S91, F_S91, by omega, (by rw [hk9.1]; split <;> omega), by omega, fun h9 => by omega, (fun h9 => by have b9 := zt_c8b i81_7 (by omega) (fun i h1 h2 => zt_Rl (lo := 97) (hi := 122) (e := S0 1079 33) (p := x1) h1 (by omega)); rw [hk9.2, ← b9.1]; omega), ⟨(by rw [hk9.1]; split <;> omega), by omega, fun h9 => by omega, (fun h9 => by have b9 := zt_c8b i81_7 (by omega) (fun i h1 h2 => zt_Rl (lo := 97) (hi := 122) (e := S0 1079 33) (p := x1) h1 (by omega)); rw [hk9.2, ← b9.1]; omega)⟩⟩
  · refine zz_aload_n (x := 1079) rfl zd_14_93_92 ?_
    refine zz_getr (kd := 0) (z := 1099) zd_14_93_93 zf_Md_76 zT_1079 rfl (zz_ltn hn rfl) (zz_G.eq G_S 1079 27 1099 rfl rfl) (by decide) 1099 rfl ?_
    refine zz_aload_n (x := 1079) rfl zd_14_93_96 ?_
    refine zz_geti (z := S 1079 32) zd_14_93_97 zf_Md_334 zT_1079 rfl (zz_ltn hn rfl) rfl ?_
    have g97 := zz_G.r G_S0 1099 ((S 1079 32).toNat) 0 255 rfl rfl
    refine zz_iald (z := S0 1099 ((S 1079 32).toNat)) zd_14_93_100 zT_1099 rfl (zz_ltn hn rfl) (by decide) (by omega) (zz_rc F_S (zz_nc1 rfl) rfl (fun h => h) rfl) ?_
    refine zz_i2l (by omega) zd_14_93_101 ?_
    refine zz_ldc2 (z := 97) zq_Md_340 (by decide) zd_14_93_102 ?_
    refine zz_ldc2 (z := 122) zq_Md_342 (by decide) zd_14_93_105 ?_
    refine zz_callSI [zl (S0 1099 ((S 1079 32).toNat)), zl 97, zl 122] zd_14_93_108 zk_Md_192 rfl rfl ⟨Nat.le_of_ble_eq_true rfl, Nat.le_of_ble_eq_true rfl⟩ ⟨rfl, rfl⟩ (Nat.zero_le _) (Nat.zero_le _) (zc_in_14_4 (S0 1099 ((S 1079 32).toNat)) 97 122 S n hn G_S (by omega) (by omega) (by omega)) (fun v99 S98 hP => ?_)
    obtain ⟨rfl, o100, o101⟩ := hP
    rcases (by omega : v99 = 0 ∨ v99 = 1) with rfl | rfl
    · have n102 : S0 1099 ((S 1079 32).toNat) < 97 ∨ 122 < S0 1099 ((S 1079 32).toNat) := by omega
      clear o101
      refine zz_if_eq (by omega) zd_14_93_111 (fun c103 => ?_) (fun c103 => ?_)
      · have hr9 := zt_R0 (lo := 97) (hi := 122) (f := (S0 1099)) (e := S0 1079 33) (p := S 1079 32) (by omega)
        have ht9 := zt_tmw (f := (S0 1099)) (e := S0 1079 33) (p := S0 1079 32) (q := x1) (by omega) (by omega) (by omega)
        rw [show zt_R 97 122 (S0 1099) (S0 1079 33) x1 = S 1079 32 by omega] at ht9
        have hk9 := zt_kmw (f := (S0 1099)) (e := S0 1079 33) (p := S0 1079 32) (q := x1) (x := S 1079 32) (by omega) ht9.1 ht9.2 (by omega)
        refine zz_aload_n (x := 1079) rfl zd_14_93_176 ?_
        refine zz_aload_n (x := 1079) rfl zd_14_93_177 ?_
        refine zz_geti (z := S 1079 32) zd_14_93_178 zf_Md_334 zT_1079 rfl (zz_ltn hn rfl) rfl ?_
        refine zz_iload_n (x := x1) rfl zd_14_93_181 ?_
        refine zz_isub zd_14_93_182 ?_
        refine zz_bipush (by decide) zd_14_93_183 ?_
        refine zz_icmp_le (by omega) (by omega) zd_14_93_185 (fun c104 => ?_) (fun c104 => ?_)
        · refine zz_bipush (by decide) zd_14_93_193 ?_
          refine zz_puti zd_14_93_195 zf_Md_347 zT_1079 rfl (zz_ltn hn rfl) (fun S105 qS105 => ?_)
          have G_S105 := zz_G.put G_S qS105 0 102 rfl (by omega)
          have F_S105 := zz_fr.puts F_S qS105 rfl
          have e106 : S105 1079 30 = 102 := (zz_rs qS105)
          have e107 : S105 1079 32 = S 1079 32 := (zz_ro qS105 (fun h => absurd h.2 (by decide)) rfl)
          have g108 := zz_G.r G_S 1079 31 0 9999 rfl rfl
          have e109 : S105 1079 31 = S 1079 31 := (zz_ro qS105 (fun h => absurd h.2 (by decide)) rfl)
          have e110 : S105 1079 61 = S 1079 61 := (zz_ro qS105 (fun h => absurd h.2 (by decide)) rfl)
          exact zz_vret zd_14_93_198 rfl (Nat.zero_le _) (Nat.zero_le _) ⟨_, rfl, G_S105, F_S105, by omega, (by rw [hk9.1]; split <;> omega), by omega, fun h9 => by omega, (fun h9 => by have b9 := zt_c8b i81_7 (by omega) (fun i h1 h2 => zt_Rl (lo := 97) (hi := 122) (e := S0 1079 33) (p := x1) h1 (by omega)); rw [hk9.2, ← b9.1]; omega), ⟨(by rw [hk9.1]; split <;> omega), by omega, fun h9 => by omega, (fun h9 => by have b9 := zt_c8b i81_7 (by omega) (fun i h1 h2 => zt_Rl (lo := 97) (hi := 122) (e := S0 1079 33) (p := x1) h1 (by omega)); rw [hk9.2, ← b9.1]; omega)⟩⟩
        · refine zz_bipush (by decide) zd_14_93_188 ?_
          refine zz_goto zd_14_93_190 ?_
          refine zz_puti zd_14_93_195 zf_Md_347 zT_1079 rfl (zz_ltn hn rfl) (fun S111 qS111 => ?_)
          have G_S111 := zz_G.put G_S qS111 0 102 rfl (by omega)
          have F_S111 := zz_fr.puts F_S qS111 rfl
          have e112 : S111 1079 30 = 101 := (zz_rs qS111)
          have e113 : S111 1079 32 = S 1079 32 := (zz_ro qS111 (fun h => absurd h.2 (by decide)) rfl)
          have g114 := zz_G.r G_S 1079 31 0 9999 rfl rfl
          have e115 : S111 1079 31 = S 1079 31 := (zz_ro qS111 (fun h => absurd h.2 (by decide)) rfl)
          have e116 : S111 1079 61 = S 1079 61 := (zz_ro qS111 (fun h => absurd h.2 (by decide)) rfl)
          exact zz_vret zd_14_93_198 rfl (Nat.zero_le _) (Nat.zero_le _) ⟨_, rfl, G_S111, F_S111, by omega, (by rw [hk9.1]; split <;> omega), by omega, fun h9 => by omega, (fun h9 => by have b9 := zt_c8b i81_7 (by omega) (fun i h1 h2 => zt_Rl (lo := 97) (hi := 122) (e := S0 1079 33) (p := x1) h1 (by omega)); rw [hk9.2, ← b9.1]; omega), ⟨(by rw [hk9.1]; split <;> omega), by omega, fun h9 => by omega, (fun h9 => by have b9 := zt_c8b i81_7 (by omega) (fun i h1 h2 => zt_Rl (lo := 97) (hi := 122) (e := S0 1079 33) (p := x1) h1 (by omega)); rw [hk9.2, ← b9.1]; omega)⟩⟩
      · exfalso; omega
    · have n117 : 97 ≤ S0 1099 ((S 1079 32).toNat) ∧ S0 1099 ((S 1079 32).toNat) ≤ 122 := by omega
      clear o101
      refine zz_if_eq (by omega) zd_14_93_111 (fun c118 => ?_) (fun c118 => ?_)
      · exfalso; omega
      · refine zz_aload_n (x := 1079) rfl zd_14_93_114 ?_
        refine zz_aload_n (x := 1079) rfl zd_14_93_115 ?_
        refine zz_geti (z := S 1079 32) zd_14_93_116 zf_Md_334 zT_1079 rfl (zz_ltn hn rfl) rfl ?_
        refine zz_iload_n (x := x1) rfl zd_14_93_119 ?_
        refine zz_isub zd_14_93_120 ?_
        refine zz_bipush (by decide) zd_14_93_121 ?_
        refine zz_icmp_ge (by omega) (by omega) zd_14_93_123 (fun c119 => ?_) (fun c119 => ?_)
        · refine zz_aload_n (x := 1079) rfl zd_14_93_156 ?_
          have g120 := zz_G.r G_S 1079 61 (-9223372036854775808) 9223372036854775807 rfl rfl
          refine zz_getl (z := S 1079 61) zd_14_93_157 zf_Md_522 zT_1079 rfl (zz_ltn hn rfl) rfl ?_
          refine zz_putl zd_14_93_160 zf_Md_522 zT_1079 rfl (zz_ltn hn rfl) (fun S121 qS121 => ?_)
          have G_S121 := zz_G.put G_S qS121 (-9223372036854775808) 9223372036854775807 rfl (by omega)
          have F_S121 := zz_fr.puts F_S qS121 rfl
          refine zz_aload_n (x := 1079) rfl zd_14_93_163 ?_
          refine zz_dup rfl zd_14_93_164 ?_
          refine zz_geti (z := S 1079 32) zd_14_93_165 zf_Md_334 zT_1079 rfl (zz_ltn hn rfl) (zz_ro qS121 (fun h => absurd h.2 (by decide)) rfl) ?_
          refine zz_iconst zd_14_93_168 ?_
          refine zz_iadd zd_14_93_169 ?_
          refine zz_puti zd_14_93_170 zf_Md_334 zT_1079 rfl (zz_ltn hn rfl) (fun S122 qS122 => ?_)
          have G_S122 := zz_G.put G_S121 qS122 0 1500 rfl (by omega)
          have F_S122 := zz_fr.puts F_S121 qS122 rfl
          refine zz_goto zd_14_93_173 ?_
          have e123 : S122 1079 32 = (S 1079 32) + 1 := (zz_rs qS122)
          have e124 : S122 1079 61 = S 1079 61 := (zz_ro qS122 (fun h => absurd h.2 (by decide)) (zz_rs qS121))
          exact k81 x1 S122 G_S122 F_S122 (by omega) (by omega) (by omega) (by omega) i81_4 (by omega) (by rw [show S122 1079 32 = S 1079 32 + 1 by omega, zt_RS (by omega) (by omega)]; exact i81_6) (zt_c8S (d := S 1079 32 - x1) (p := S 1079 32) (x := S 1079 61) (by omega) (by omega) (fun h9 => by omega) (fun h9 => by omega) i81_7) (by omega) (by omega)
        · refine zz_aload_n (x := 1079) rfl zd_14_93_126 ?_
          have g125 := zz_G.r G_S 1079 61 (-9223372036854775808) 9223372036854775807 rfl rfl
          refine zz_getl (z := S 1079 61) zd_14_93_127 zf_Md_522 zT_1079 rfl (zz_ltn hn rfl) rfl ?_
          refine zz_aload_n (x := 1079) rfl zd_14_93_130 ?_
          refine zz_getr (kd := 0) (z := 1099) zd_14_93_131 zf_Md_76 zT_1079 rfl (zz_ltn hn rfl) (zz_G.eq G_S 1079 27 1099 rfl rfl) (by decide) 1099 rfl ?_
          refine zz_aload_n (x := 1079) rfl zd_14_93_134 ?_
          refine zz_geti (z := S 1079 32) zd_14_93_135 zf_Md_334 zT_1079 rfl (zz_ltn hn rfl) rfl ?_
          refine zz_iald (z := S0 1099 ((S 1079 32).toNat)) zd_14_93_138 zT_1099 rfl (zz_ltn hn rfl) (by decide) (by omega) (zz_rc F_S (zz_nc1 rfl) rfl (fun h => h) rfl) ?_
          refine zz_bipush (by decide) zd_14_93_139 ?_
          refine zz_isub zd_14_93_141 ?_
          refine zz_i2l (by omega) zd_14_93_142 ?_
          refine zz_iconst zd_14_93_143 ?_
          refine zz_aload_n (x := 1079) rfl zd_14_93_144 ?_
          refine zz_geti (z := S 1079 32) zd_14_93_145 zf_Md_334 zT_1079 rfl (zz_ltn hn rfl) rfl ?_
          refine zz_iload_n (x := x1) rfl zd_14_93_148 ?_
          refine zz_isub zd_14_93_149 ?_
          refine zz_imul zd_14_93_150 ?_
          refine zz_lshl zd_14_93_151 (fun v126 hv126 ev126 => ?_)
          skip
          refine zz_lor zd_14_93_152 (fun v127 hv127 ev127 => ?_)
          skip
          refine zz_goto zd_14_93_153 ?_
          refine zz_putl zd_14_93_160 zf_Md_522 zT_1079 rfl (zz_ltn hn rfl) (fun S128 qS128 => ?_)
          have G_S128 := zz_G.put G_S qS128 (-9223372036854775808) 9223372036854775807 rfl (by omega)
          have F_S128 := zz_fr.puts F_S qS128 rfl
          refine zz_aload_n (x := 1079) rfl zd_14_93_163 ?_
          refine zz_dup rfl zd_14_93_164 ?_
          refine zz_geti (z := S 1079 32) zd_14_93_165 zf_Md_334 zT_1079 rfl (zz_ltn hn rfl) (zz_ro qS128 (fun h => absurd h.2 (by decide)) rfl) ?_
          refine zz_iconst zd_14_93_168 ?_
          refine zz_iadd zd_14_93_169 ?_
          refine zz_puti zd_14_93_170 zf_Md_334 zT_1079 rfl (zz_ltn hn rfl) (fun S129 qS129 => ?_)
          have G_S129 := zz_G.put G_S128 qS129 0 1500 rfl (by omega)
          have F_S129 := zz_fr.puts F_S128 qS129 rfl
          refine zz_goto zd_14_93_173 ?_
          have e130 : S129 1079 32 = (S 1079 32) + 1 := (zz_rs qS129)
          have e131 : S129 1079 61 = v127 := (zz_ro qS129 (fun h => absurd h.2 (by decide)) (zz_rs qS128))
          exact k81 x1 S129 G_S129 F_S129 (by omega) (by omega) (by omega) (by omega) i81_4 (by omega) (by rw [show S129 1079 32 = S 1079 32 + 1 by omega, zt_RS (by omega) (by omega)]; exact i81_6) (zt_c8S (d := S 1079 32 - x1) (p := S 1079 32) (x := S 1079 61) (by omega) (by omega) (fun h9 => by have b9 := zt_c8b i81_7 (by omega) (fun i h1 h2 => zt_Rl (lo := 97) (hi := 122) (e := S0 1079 33) (p := x1) h1 (by have b := zt_Rge (lo := 97) (hi := 122) (f := (S0 1099)) (e := S0 1079 33) (p := S 1079 32); omega)); have o9 := zt_orl (d := S 1079 32 - x1) b9.2 (by omega) (by omega) ev126 ev127; omega) (fun h9 => by omega) i81_7) (by omega) (by omega)
theorem zi_advanceNet_14_93 {g : mm_G} {l : Launch}  (S0 : zz_S) (n : Nat) (hn : zz_end ≤ n) (G_S0 : zz_G S0) (hN : ∀ w : Nat, 1 ≤ w → w ≤ 20 → S0 1100 w = zt_cd (zt_nw.getD w [])) : ∀ N : Nat, (∀  (S : zz_S), zz_G S → zz_fr [(1079, 30), (1079, 31), (1079, 32), (1079, 61)] [] (fun _ _ => False) S0 S → (S0 1079 32 < S0 1079 33) → (S0 1099 ((S0 1079 32).toNat) = 32) → (S 1079 32 ≥ S0 1079 32) → (zt_R 32 32 (S0 1099) (S0 1079 33) (S 1079 32) = zt_R 32 32 (S0 1099) (S0 1079 33) (S0 1079 32)) → (34359738368 + (S0 1079 33 - S 1079 32).toNat) < N → zz_E g l zy_advanceNet_14_93 zr_advanceNet_14_93 (zz_QV n (zp_advanceNet_14_93  S0)) S n 0 [some (.ref 1079)] [] 0 0) ∧ (∀ (x1 : Int) (S : zz_S), zz_G S → zz_fr [(1079, 30), (1079, 31), (1079, 32), (1079, 61)] [] (fun _ _ => False) S0 S → (0 ≤ x1 ∧ x1 ≤ 1500) → (S0 1079 32 < S0 1079 33) → (x1 ≥ S0 1079 32) → (x1 < S 1079 32 ∨ (S 1079 32 = x1 ∧ x1 < S0 1079 33 ∧ 97 ≤ S0 1099 (S 1079 32).toNat ∧ S0 1099 (S 1079 32).toNat ≤ 122)) → (x1 = zt_R 32 32 (S0 1099) (S0 1079 33) (S0 1079 32)) → (x1 < S0 1079 33 ∧ 97 ≤ S0 1099 x1.toNat ∧ S0 1099 x1.toNat ≤ 122) → (zt_R 97 122 (S0 1099) (S0 1079 33) (S 1079 32) = zt_R 97 122 (S0 1099) (S0 1079 33) x1) → (S 1079 61 = zt_c8 (S0 1099) x1 (S 1079 32 - x1)) → (0 ≤ x1 ∧ x1 ≤ S 1079 32) → (17179869184 + (S0 1079 33 - S 1079 32).toNat) < N → zz_E g l zy_advanceNet_14_93 zr_advanceNet_14_93 (zz_QV n (zp_advanceNet_14_93  S0)) S n 81 [some (.ref 1079), some (zi x1)] [] 0 0) := by
  intro N
  induction N with
  | zero => exact ⟨fun  S _ _ _ _ _ _ h => absurd h (Nat.not_lt_zero _), fun x1 S _ _ _ _ _ _ _ _ _ _ _ h => absurd h (Nat.not_lt_zero _)⟩
  | succ N ih =>
    exact ⟨fun  S a b j0 j1 j2 j3 hR => zb_advanceNet_14_93_0  S0 n hn G_S0 hN  S a b j0 j1 j2 j3 _ rfl (fun  S a b j0 j1 j2 j3 h => ih.1  S a b j0 j1 j2 j3 (Nat.lt_of_lt_of_le h (Nat.le_of_lt_succ hR))) (fun x1 S a b j0 j1 j2 j3 j4 j5 j6 j7 j8 h => ih.2 x1 S a b j0 j1 j2 j3 j4 j5 j6 j7 j8 (Nat.lt_of_lt_of_le h (Nat.le_of_lt_succ hR))),
      fun x1 S a b j0 j1 j2 j3 j4 j5 j6 j7 j8 hR => zb_advanceNet_14_93_81  S0 n hn G_S0 hN x1 S a b j0 j1 j2 j3 j4 j5 j6 j7 j8 _ rfl (fun x1 S a b j0 j1 j2 j3 j4 j5 j6 j7 j8 h => ih.2 x1 S a b j0 j1 j2 j3 j4 j5 j6 j7 j8 (Nat.lt_of_lt_of_le h (Nat.le_of_lt_succ hR)))⟩
theorem zc_advanceNet_14_93 {g : mm_G} {l : Launch}  (S0 : zz_S) (n : Nat) (hn : zz_end ≤ n) (G_S0 : zz_G S0) (hN : ∀ w : Nat, 1 ≤ w → w ≤ 20 → S0 1100 w = zt_cd (zt_nw.getD w [])) : mm_Met g l zy_advanceNet_14_93 zr_advanceNet_14_93 [.ref 1079] (zz_M S0 n) n (zz_QV n (zp_advanceNet_14_93  S0)) := by
  refine zz_enter (by decide) (Nat.le_of_ble_eq_true rfl) (zz_less (ls1 := [some (.ref 1079)]) ⟨rfl, trivial⟩ ?_)
  have F_S0 : zz_fr [(1079, 30), (1079, 31), (1079, 32), (1079, 61)] [] (fun _ _ => False) S0 S0 := zz_fr.refl
  have k0 : ∀  (S : zz_S), zz_G S → zz_fr [(1079, 30), (1079, 31), (1079, 32), (1079, 61)] [] (fun _ _ => False) S0 S → (S0 1079 32 < S0 1079 33) → (S0 1099 ((S0 1079 32).toNat) = 32) → (S 1079 32 ≥ S0 1079 32) → (zt_R 32 32 (S0 1099) (S0 1079 33) (S 1079 32) = zt_R 32 32 (S0 1099) (S0 1079 33) (S0 1079 32)) → zz_E g l zy_advanceNet_14_93 zr_advanceNet_14_93 (zz_QV n (zp_advanceNet_14_93  S0)) S n 0 [some (.ref 1079)] [] 0 0 := fun  S a b j0 j1 j2 j3 => (zi_advanceNet_14_93 (g := g) (l := l)  S0 n hn G_S0 hN _).1  S a b j0 j1 j2 j3 (Nat.lt_succ_self _)
  have k81 : ∀ (x1 : Int) (S : zz_S), zz_G S → zz_fr [(1079, 30), (1079, 31), (1079, 32), (1079, 61)] [] (fun _ _ => False) S0 S → (0 ≤ x1 ∧ x1 ≤ 1500) → (S0 1079 32 < S0 1079 33) → (x1 ≥ S0 1079 32) → (x1 < S 1079 32 ∨ (S 1079 32 = x1 ∧ x1 < S0 1079 33 ∧ 97 ≤ S0 1099 (S 1079 32).toNat ∧ S0 1099 (S 1079 32).toNat ≤ 122)) → (x1 = zt_R 32 32 (S0 1099) (S0 1079 33) (S0 1079 32)) → (x1 < S0 1079 33 ∧ 97 ≤ S0 1099 x1.toNat ∧ S0 1099 x1.toNat ≤ 122) → (zt_R 97 122 (S0 1099) (S0 1079 33) (S 1079 32) = zt_R 97 122 (S0 1099) (S0 1079 33) x1) → (S 1079 61 = zt_c8 (S0 1099) x1 (S 1079 32 - x1)) → (0 ≤ x1 ∧ x1 ≤ S 1079 32) → zz_E g l zy_advanceNet_14_93 zr_advanceNet_14_93 (zz_QV n (zp_advanceNet_14_93  S0)) S n 81 [some (.ref 1079), some (zi x1)] [] 0 0 := fun x1 S a b j0 j1 j2 j3 j4 j5 j6 j7 j8 => (zi_advanceNet_14_93 (g := g) (l := l)  S0 n hn G_S0 hN _).2 x1 S a b j0 j1 j2 j3 j4 j5 j6 j7 j8 (Nat.lt_succ_self _)
  refine zz_aload_n (x := 1079) rfl zd_14_93_0 ?_
  have g1 := zz_G.r G_S0 1079 32 0 1500 rfl rfl
  refine zz_geti (z := S0 1079 32) zd_14_93_1 zf_Md_334 zT_1079 rfl (zz_ltn hn rfl) rfl ?_
  refine zz_aload_n (x := 1079) rfl zd_14_93_4 ?_
  have g2 := zz_G.r G_S0 1079 33 0 1500 rfl rfl
  refine zz_geti (z := S0 1079 33) zd_14_93_5 zf_Md_337 zT_1079 rfl (zz_ltn hn rfl) rfl ?_
  refine zz_icmp_ge (by omega) (by omega) zd_14_93_8 (fun c3 => ?_) (fun c3 => ?_)
  · refine zz_aload_n (x := 1079) rfl zd_14_93_38 ?_
    refine zz_geti (z := S0 1079 32) zd_14_93_39 zf_Md_334 zT_1079 rfl (zz_ltn hn rfl) rfl ?_
    refine zz_istore_n [some (.ref 1079), some (zi (S0 1079 32))] zd_14_93_42 (by decide) rfl ?_
    refine zz_aload_n (x := 1079) rfl zd_14_93_43 ?_
    refine zz_geti (z := S0 1079 32) zd_14_93_44 zf_Md_334 zT_1079 rfl (zz_ltn hn rfl) rfl ?_
    refine zz_aload_n (x := 1079) rfl zd_14_93_47 ?_
    refine zz_geti (z := S0 1079 33) zd_14_93_48 zf_Md_337 zT_1079 rfl (zz_ltn hn rfl) rfl ?_
    refine zz_icmp_ge (by omega) (by omega) zd_14_93_51 (fun c4 => ?_) (fun c4 => ?_)
    · refine zz_aload_n (x := 1079) rfl zd_14_93_199 ?_
      refine zz_callVV [] zd_14_93_200 zk_Md_359 zT_1079 (zz_ltn hn rfl) rfl rfl ⟨Nat.le_of_ble_eq_true rfl, Nat.le_of_ble_eq_true rfl⟩ ⟨rfl, rfl⟩ (Nat.zero_le _) (Nat.zero_le _) (zc_advance_14_49  S0 n hn G_S0 hN) (fun S5 hP => ?_)
      obtain ⟨G_S5, fS5, o7, o8, o9, o10, o11, o12⟩ := hP
      have F_S5 := zz_fr.trans F_S0 fS5 rfl zz_nv
      have g13 := zz_G.r G_S5 1079 30 0 102 rfl rfl
      have g14 := zz_G.r G_S5 1079 32 0 1500 rfl rfl
      have g15 := zz_G.r G_S5 1079 31 0 9999 rfl rfl
      have e16 : S5 1079 61 = S0 1079 61 := (zz_rc fS5 rfl rfl (fun h => h) rfl)
      exact zz_vret zd_14_93_203 rfl (Nat.zero_le _) (Nat.zero_le _) ⟨_, rfl, G_S5, F_S5, by omega, (by have q9 : S0 1079 32 = zt_R 32 32 (S0 1099) (S0 1079 33) (S0 1079 32) := (zt_R0 (by omega)).symm; have m9 := zt_kmd (f := (S0 1099)) (e := S0 1079 33) (p := S0 1079 32) q9 (by omega); have t9 := zt_tmq (f := (S0 1099)) (e := S0 1079 33) (p := S0 1079 32); rw [← q9] at t9; omega), (by have q9 : S0 1079 32 = zt_R 32 32 (S0 1099) (S0 1079 33) (S0 1079 32) := (zt_R0 (by omega)).symm; have m9 := zt_kmd (f := (S0 1099)) (e := S0 1079 33) (p := S0 1079 32) q9 (by omega); have t9 := zt_tmq (f := (S0 1099)) (e := S0 1079 33) (p := S0 1079 32); rw [← q9] at t9; omega), (fun h9 => by have q9 : S0 1079 32 = zt_R 32 32 (S0 1099) (S0 1079 33) (S0 1079 32) := (zt_R0 (by omega)).symm; have m9 := zt_kmd (f := (S0 1099)) (e := S0 1079 33) (p := S0 1079 32) q9 (by omega); have t9 := zt_tmq (f := (S0 1099)) (e := S0 1079 33) (p := S0 1079 32); rw [← q9] at t9; have z9 := o12 h9; omega), (fun h9 => by have q9 : S0 1079 32 = zt_R 32 32 (S0 1099) (S0 1079 33) (S0 1079 32) := (zt_R0 (by omega)).symm; have m9 := zt_kmd (f := (S0 1099)) (e := S0 1079 33) (p := S0 1079 32) q9 (by omega); have t9 := zt_tmq (f := (S0 1099)) (e := S0 1079 33) (p := S0 1079 32); rw [← q9] at t9; omega), ⟨(by have q9 : S0 1079 32 = zt_R 32 32 (S0 1099) (S0 1079 33) (S0 1079 32) := (zt_R0 (by omega)).symm; have m9 := zt_kmd (f := (S0 1099)) (e := S0 1079 33) (p := S0 1079 32) q9 (by omega); have t9 := zt_tmq (f := (S0 1099)) (e := S0 1079 33) (p := S0 1079 32); rw [← q9] at t9; omega), (by have q9 : S0 1079 32 = zt_R 32 32 (S0 1099) (S0 1079 33) (S0 1079 32) := (zt_R0 (by omega)).symm; have m9 := zt_kmd (f := (S0 1099)) (e := S0 1079 33) (p := S0 1079 32) q9 (by omega); have t9 := zt_tmq (f := (S0 1099)) (e := S0 1079 33) (p := S0 1079 32); rw [← q9] at t9; omega), (fun h9 => by have q9 : S0 1079 32 = zt_R 32 32 (S0 1099) (S0 1079 33) (S0 1079 32) := (zt_R0 (by omega)).symm; have m9 := zt_kmd (f := (S0 1099)) (e := S0 1079 33) (p := S0 1079 32) q9 (by omega); have t9 := zt_tmq (f := (S0 1099)) (e := S0 1079 33) (p := S0 1079 32); rw [← q9] at t9; have z9 := o12 h9; omega), (fun h9 => by have q9 : S0 1079 32 = zt_R 32 32 (S0 1099) (S0 1079 33) (S0 1079 32) := (zt_R0 (by omega)).symm; have m9 := zt_kmd (f := (S0 1099)) (e := S0 1079 33) (p := S0 1079 32) q9 (by omega); have t9 := zt_tmq (f := (S0 1099)) (e := S0 1079 33) (p := S0 1079 32); rw [← q9] at t9; omega)⟩⟩
    · refine zz_aload_n (x := 1079) rfl zd_14_93_54 ?_
      refine zz_getr (kd := 0) (z := 1099) zd_14_93_55 zf_Md_76 zT_1079 rfl (zz_ltn hn rfl) (zz_G.eq G_S0 1079 27 1099 rfl rfl) (by decide) 1099 rfl ?_
      refine zz_aload_n (x := 1079) rfl zd_14_93_58 ?_
      refine zz_geti (z := S0 1079 32) zd_14_93_59 zf_Md_334 zT_1079 rfl (zz_ltn hn rfl) rfl ?_
      have g17 := zz_G.r G_S0 1099 ((S0 1079 32).toNat) 0 255 rfl rfl
      refine zz_iald (z := S0 1099 ((S0 1079 32).toNat)) zd_14_93_62 zT_1099 rfl (zz_ltn hn rfl) (by decide) (by omega) rfl ?_
      refine zz_i2l (by omega) zd_14_93_63 ?_
      refine zz_ldc2 (z := 97) zq_Md_340 (by decide) zd_14_93_64 ?_
      refine zz_ldc2 (z := 122) zq_Md_342 (by decide) zd_14_93_67 ?_
      refine zz_callSI [zl (S0 1099 ((S0 1079 32).toNat)), zl 97, zl 122] zd_14_93_70 zk_Md_192 rfl rfl ⟨Nat.le_of_ble_eq_true rfl, Nat.le_of_ble_eq_true rfl⟩ ⟨rfl, rfl⟩ (Nat.zero_le _) (Nat.zero_le _) (zc_in_14_4 (S0 1099 ((S0 1079 32).toNat)) 97 122 S0 n hn G_S0 (by omega) (by omega) (by omega)) (fun v19 S18 hP => ?_)
      obtain ⟨rfl, o20, o21⟩ := hP
      rcases (by omega : v19 = 0 ∨ v19 = 1) with rfl | rfl
      · have n22 : S0 1099 ((S0 1079 32).toNat) < 97 ∨ 122 < S0 1099 ((S0 1079 32).toNat) := by omega
        clear o21
        refine zz_if_eq (by omega) zd_14_93_73 (fun c23 => ?_) (fun c23 => ?_)
        · refine zz_aload_n (x := 1079) rfl zd_14_93_199 ?_
          refine zz_callVV [] zd_14_93_200 zk_Md_359 zT_1079 (zz_ltn hn rfl) rfl rfl ⟨Nat.le_of_ble_eq_true rfl, Nat.le_of_ble_eq_true rfl⟩ ⟨rfl, rfl⟩ (Nat.zero_le _) (Nat.zero_le _) (zc_advance_14_49  S0 n hn G_S0 hN) (fun S24 hP => ?_)
          obtain ⟨G_S24, fS24, o26, o27, o28, o29, o30, o31⟩ := hP
          have F_S24 := zz_fr.trans F_S0 fS24 rfl zz_nv
          have g32 := zz_G.r G_S24 1079 30 0 102 rfl rfl
          have g33 := zz_G.r G_S24 1079 32 0 1500 rfl rfl
          have g34 := zz_G.r G_S24 1079 31 0 9999 rfl rfl
          have e35 : S24 1079 61 = S0 1079 61 := (zz_rc fS24 rfl rfl (fun h => h) rfl)
          exact zz_vret zd_14_93_203 rfl (Nat.zero_le _) (Nat.zero_le _) ⟨_, rfl, G_S24, F_S24, by omega, (by have q9 : S0 1079 32 = zt_R 32 32 (S0 1099) (S0 1079 33) (S0 1079 32) := (zt_R0 (by omega)).symm; have m9 := zt_kmd (f := (S0 1099)) (e := S0 1079 33) (p := S0 1079 32) q9 (by omega); have t9 := zt_tmq (f := (S0 1099)) (e := S0 1079 33) (p := S0 1079 32); rw [← q9] at t9; omega), (by have q9 : S0 1079 32 = zt_R 32 32 (S0 1099) (S0 1079 33) (S0 1079 32) := (zt_R0 (by omega)).symm; have m9 := zt_kmd (f := (S0 1099)) (e := S0 1079 33) (p := S0 1079 32) q9 (by omega); have t9 := zt_tmq (f := (S0 1099)) (e := S0 1079 33) (p := S0 1079 32); rw [← q9] at t9; omega), (fun h9 => by have q9 : S0 1079 32 = zt_R 32 32 (S0 1099) (S0 1079 33) (S0 1079 32) := (zt_R0 (by omega)).symm; have m9 := zt_kmd (f := (S0 1099)) (e := S0 1079 33) (p := S0 1079 32) q9 (by omega); have t9 := zt_tmq (f := (S0 1099)) (e := S0 1079 33) (p := S0 1079 32); rw [← q9] at t9; have z9 := o31 h9; omega), (fun h9 => by have q9 : S0 1079 32 = zt_R 32 32 (S0 1099) (S0 1079 33) (S0 1079 32) := (zt_R0 (by omega)).symm; have m9 := zt_kmd (f := (S0 1099)) (e := S0 1079 33) (p := S0 1079 32) q9 (by omega); have t9 := zt_tmq (f := (S0 1099)) (e := S0 1079 33) (p := S0 1079 32); rw [← q9] at t9; omega), ⟨(by have q9 : S0 1079 32 = zt_R 32 32 (S0 1099) (S0 1079 33) (S0 1079 32) := (zt_R0 (by omega)).symm; have m9 := zt_kmd (f := (S0 1099)) (e := S0 1079 33) (p := S0 1079 32) q9 (by omega); have t9 := zt_tmq (f := (S0 1099)) (e := S0 1079 33) (p := S0 1079 32); rw [← q9] at t9; omega), (by have q9 : S0 1079 32 = zt_R 32 32 (S0 1099) (S0 1079 33) (S0 1079 32) := (zt_R0 (by omega)).symm; have m9 := zt_kmd (f := (S0 1099)) (e := S0 1079 33) (p := S0 1079 32) q9 (by omega); have t9 := zt_tmq (f := (S0 1099)) (e := S0 1079 33) (p := S0 1079 32); rw [← q9] at t9; omega), (fun h9 => by have q9 : S0 1079 32 = zt_R 32 32 (S0 1099) (S0 1079 33) (S0 1079 32) := (zt_R0 (by omega)).symm; have m9 := zt_kmd (f := (S0 1099)) (e := S0 1079 33) (p := S0 1079 32) q9 (by omega); have t9 := zt_tmq (f := (S0 1099)) (e := S0 1079 33) (p := S0 1079 32); rw [← q9] at t9; have z9 := o31 h9; omega), (fun h9 => by have q9 : S0 1079 32 = zt_R 32 32 (S0 1099) (S0 1079 33) (S0 1079 32) := (zt_R0 (by omega)).symm; have m9 := zt_kmd (f := (S0 1099)) (e := S0 1079 33) (p := S0 1079 32) q9 (by omega); have t9 := zt_tmq (f := (S0 1099)) (e := S0 1079 33) (p := S0 1079 32); rw [← q9] at t9; omega)⟩⟩
        · exfalso; omega
      · have n36 : 97 ≤ S0 1099 ((S0 1079 32).toNat) ∧ S0 1099 ((S0 1079 32).toNat) ≤ 122 := by omega
        clear o21
        refine zz_if_eq (by omega) zd_14_93_73 (fun c37 => ?_) (fun c37 => ?_)
        · exfalso; omega
        · refine zz_aload_n (x := 1079) rfl zd_14_93_76 ?_
          refine zz_lconst (z := 0) (by decide) zd_14_93_77 ?_
          refine zz_putl zd_14_93_78 zf_Md_522 zT_1079 rfl (zz_ltn hn rfl) (fun S38 qS38 => ?_)
          have G_S38 := zz_G.put G_S0 qS38 (-9223372036854775808) 9223372036854775807 rfl (by omega)
          have F_S38 := zz_fr.puts F_S0 qS38 rfl
          have e39 : S38 1079 32 = S0 1079 32 := (zz_ro qS38 (fun h => absurd h.2 (by decide)) rfl)
          have e40 : S38 1079 61 = 0 := (zz_rs qS38)
          refine zz_less (ls1 := [some (.ref 1079), some (zi (S0 1079 32))]) ⟨rfl, ⟨rfl, trivial⟩⟩ ?_
          exact k81 (S0 1079 32) S38 G_S38 F_S38 (by omega) (by omega) (by omega) (by rw [show S38 1079 32 = S0 1079 32 from (zz_ro qS38 (fun h => absurd h.2 (by decide)) rfl)]; omega) (zt_R0 (by omega)).symm (by omega) (by rw [show S38 1079 32 = S0 1079 32 by omega]) (by rw [show S38 1079 32 - (S0 1079 32) = 0 by omega]; exact (show S38 1079 61 = 0 by omega)) (by omega)
  · refine zz_aload_n (x := 1079) rfl zd_14_93_11 ?_
    refine zz_getr (kd := 0) (z := 1099) zd_14_93_12 zf_Md_76 zT_1079 rfl (zz_ltn hn rfl) (zz_G.eq G_S0 1079 27 1099 rfl rfl) (by decide) 1099 rfl ?_
    refine zz_aload_n (x := 1079) rfl zd_14_93_15 ?_
    refine zz_geti (z := S0 1079 32) zd_14_93_16 zf_Md_334 zT_1079 rfl (zz_ltn hn rfl) rfl ?_
    have g41 := zz_G.r G_S0 1099 ((S0 1079 32).toNat) 0 255 rfl rfl
    refine zz_iald (z := S0 1099 ((S0 1079 32).toNat)) zd_14_93_19 zT_1099 rfl (zz_ltn hn rfl) (by decide) (by omega) rfl ?_
    refine zz_bipush (by decide) zd_14_93_20 ?_
    refine zz_icmp_ne (by omega) (by omega) zd_14_93_22 (fun c42 => ?_) (fun c42 => ?_)
    · refine zz_aload_n (x := 1079) rfl zd_14_93_38 ?_
      refine zz_geti (z := S0 1079 32) zd_14_93_39 zf_Md_334 zT_1079 rfl (zz_ltn hn rfl) rfl ?_
      refine zz_istore_n [some (.ref 1079), some (zi (S0 1079 32))] zd_14_93_42 (by decide) rfl ?_
      refine zz_aload_n (x := 1079) rfl zd_14_93_43 ?_
      refine zz_geti (z := S0 1079 32) zd_14_93_44 zf_Md_334 zT_1079 rfl (zz_ltn hn rfl) rfl ?_
      refine zz_aload_n (x := 1079) rfl zd_14_93_47 ?_
      refine zz_geti (z := S0 1079 33) zd_14_93_48 zf_Md_337 zT_1079 rfl (zz_ltn hn rfl) rfl ?_
      refine zz_icmp_ge (by omega) (by omega) zd_14_93_51 (fun c43 => ?_) (fun c43 => ?_)
      · refine zz_aload_n (x := 1079) rfl zd_14_93_199 ?_
        refine zz_callVV [] zd_14_93_200 zk_Md_359 zT_1079 (zz_ltn hn rfl) rfl rfl ⟨Nat.le_of_ble_eq_true rfl, Nat.le_of_ble_eq_true rfl⟩ ⟨rfl, rfl⟩ (Nat.zero_le _) (Nat.zero_le _) (zc_advance_14_49  S0 n hn G_S0 hN) (fun S44 hP => ?_)
        obtain ⟨G_S44, fS44, o46, o47, o48, o49, o50, o51⟩ := hP
        have F_S44 := zz_fr.trans F_S0 fS44 rfl zz_nv
        have g52 := zz_G.r G_S44 1079 30 0 102 rfl rfl
        have g53 := zz_G.r G_S44 1079 32 0 1500 rfl rfl
        have g54 := zz_G.r G_S44 1079 31 0 9999 rfl rfl
        have e55 : S44 1079 61 = S0 1079 61 := (zz_rc fS44 rfl rfl (fun h => h) rfl)
        exact zz_vret zd_14_93_203 rfl (Nat.zero_le _) (Nat.zero_le _) ⟨_, rfl, G_S44, F_S44, by omega, (by have q9 : S0 1079 32 = zt_R 32 32 (S0 1099) (S0 1079 33) (S0 1079 32) := (zt_R0 (by omega)).symm; have m9 := zt_kmd (f := (S0 1099)) (e := S0 1079 33) (p := S0 1079 32) q9 (by omega); have t9 := zt_tmq (f := (S0 1099)) (e := S0 1079 33) (p := S0 1079 32); rw [← q9] at t9; omega), (by have q9 : S0 1079 32 = zt_R 32 32 (S0 1099) (S0 1079 33) (S0 1079 32) := (zt_R0 (by omega)).symm; have m9 := zt_kmd (f := (S0 1099)) (e := S0 1079 33) (p := S0 1079 32) q9 (by omega); have t9 := zt_tmq (f := (S0 1099)) (e := S0 1079 33) (p := S0 1079 32); rw [← q9] at t9; omega), (fun h9 => by have q9 : S0 1079 32 = zt_R 32 32 (S0 1099) (S0 1079 33) (S0 1079 32) := (zt_R0 (by omega)).symm; have m9 := zt_kmd (f := (S0 1099)) (e := S0 1079 33) (p := S0 1079 32) q9 (by omega); have t9 := zt_tmq (f := (S0 1099)) (e := S0 1079 33) (p := S0 1079 32); rw [← q9] at t9; have z9 := o51 h9; omega), (fun h9 => by have q9 : S0 1079 32 = zt_R 32 32 (S0 1099) (S0 1079 33) (S0 1079 32) := (zt_R0 (by omega)).symm; have m9 := zt_kmd (f := (S0 1099)) (e := S0 1079 33) (p := S0 1079 32) q9 (by omega); have t9 := zt_tmq (f := (S0 1099)) (e := S0 1079 33) (p := S0 1079 32); rw [← q9] at t9; omega), ⟨(by have q9 : S0 1079 32 = zt_R 32 32 (S0 1099) (S0 1079 33) (S0 1079 32) := (zt_R0 (by omega)).symm; have m9 := zt_kmd (f := (S0 1099)) (e := S0 1079 33) (p := S0 1079 32) q9 (by omega); have t9 := zt_tmq (f := (S0 1099)) (e := S0 1079 33) (p := S0 1079 32); rw [← q9] at t9; omega), (by have q9 : S0 1079 32 = zt_R 32 32 (S0 1099) (S0 1079 33) (S0 1079 32) := (zt_R0 (by omega)).symm; have m9 := zt_kmd (f := (S0 1099)) (e := S0 1079 33) (p := S0 1079 32) q9 (by omega); have t9 := zt_tmq (f := (S0 1099)) (e := S0 1079 33) (p := S0 1079 32); rw [← q9] at t9; omega), (fun h9 => by have q9 : S0 1079 32 = zt_R 32 32 (S0 1099) (S0 1079 33) (S0 1079 32) := (zt_R0 (by omega)).symm; have m9 := zt_kmd (f := (S0 1099)) (e := S0 1079 33) (p := S0 1079 32) q9 (by omega); have t9 := zt_tmq (f := (S0 1099)) (e := S0 1079 33) (p := S0 1079 32); rw [← q9] at t9; have z9 := o51 h9; omega), (fun h9 => by have q9 : S0 1079 32 = zt_R 32 32 (S0 1099) (S0 1079 33) (S0 1079 32) := (zt_R0 (by omega)).symm; have m9 := zt_kmd (f := (S0 1099)) (e := S0 1079 33) (p := S0 1079 32) q9 (by omega); have t9 := zt_tmq (f := (S0 1099)) (e := S0 1079 33) (p := S0 1079 32); rw [← q9] at t9; omega)⟩⟩
      · refine zz_aload_n (x := 1079) rfl zd_14_93_54 ?_
        refine zz_getr (kd := 0) (z := 1099) zd_14_93_55 zf_Md_76 zT_1079 rfl (zz_ltn hn rfl) (zz_G.eq G_S0 1079 27 1099 rfl rfl) (by decide) 1099 rfl ?_
        refine zz_aload_n (x := 1079) rfl zd_14_93_58 ?_
        refine zz_geti (z := S0 1079 32) zd_14_93_59 zf_Md_334 zT_1079 rfl (zz_ltn hn rfl) rfl ?_
        refine zz_iald (z := S0 1099 ((S0 1079 32).toNat)) zd_14_93_62 zT_1099 rfl (zz_ltn hn rfl) (by decide) (by omega) rfl ?_
        refine zz_i2l (by omega) zd_14_93_63 ?_
        refine zz_ldc2 (z := 97) zq_Md_340 (by decide) zd_14_93_64 ?_
        refine zz_ldc2 (z := 122) zq_Md_342 (by decide) zd_14_93_67 ?_
        refine zz_callSI [zl (S0 1099 ((S0 1079 32).toNat)), zl 97, zl 122] zd_14_93_70 zk_Md_192 rfl rfl ⟨Nat.le_of_ble_eq_true rfl, Nat.le_of_ble_eq_true rfl⟩ ⟨rfl, rfl⟩ (Nat.zero_le _) (Nat.zero_le _) (zc_in_14_4 (S0 1099 ((S0 1079 32).toNat)) 97 122 S0 n hn G_S0 (by omega) (by omega) (by omega)) (fun v57 S56 hP => ?_)
        obtain ⟨rfl, o58, o59⟩ := hP
        rcases (by omega : v57 = 0 ∨ v57 = 1) with rfl | rfl
        · have n60 : S0 1099 ((S0 1079 32).toNat) < 97 ∨ 122 < S0 1099 ((S0 1079 32).toNat) := by omega
          clear o59
          refine zz_if_eq (by omega) zd_14_93_73 (fun c61 => ?_) (fun c61 => ?_)
          · refine zz_aload_n (x := 1079) rfl zd_14_93_199 ?_
            refine zz_callVV [] zd_14_93_200 zk_Md_359 zT_1079 (zz_ltn hn rfl) rfl rfl ⟨Nat.le_of_ble_eq_true rfl, Nat.le_of_ble_eq_true rfl⟩ ⟨rfl, rfl⟩ (Nat.zero_le _) (Nat.zero_le _) (zc_advance_14_49  S0 n hn G_S0 hN) (fun S62 hP => ?_)
            obtain ⟨G_S62, fS62, o64, o65, o66, o67, o68, o69⟩ := hP
            have F_S62 := zz_fr.trans F_S0 fS62 rfl zz_nv
            have g70 := zz_G.r G_S62 1079 30 0 102 rfl rfl
            have g71 := zz_G.r G_S62 1079 32 0 1500 rfl rfl
            have g72 := zz_G.r G_S62 1079 31 0 9999 rfl rfl
            have e73 : S62 1079 61 = S0 1079 61 := (zz_rc fS62 rfl rfl (fun h => h) rfl)
            exact zz_vret zd_14_93_203 rfl (Nat.zero_le _) (Nat.zero_le _) ⟨_, rfl, G_S62, F_S62, by omega, (by have q9 : S0 1079 32 = zt_R 32 32 (S0 1099) (S0 1079 33) (S0 1079 32) := (zt_R0 (by omega)).symm; have m9 := zt_kmd (f := (S0 1099)) (e := S0 1079 33) (p := S0 1079 32) q9 (by omega); have t9 := zt_tmq (f := (S0 1099)) (e := S0 1079 33) (p := S0 1079 32); rw [← q9] at t9; omega), (by have q9 : S0 1079 32 = zt_R 32 32 (S0 1099) (S0 1079 33) (S0 1079 32) := (zt_R0 (by omega)).symm; have m9 := zt_kmd (f := (S0 1099)) (e := S0 1079 33) (p := S0 1079 32) q9 (by omega); have t9 := zt_tmq (f := (S0 1099)) (e := S0 1079 33) (p := S0 1079 32); rw [← q9] at t9; omega), (fun h9 => by have q9 : S0 1079 32 = zt_R 32 32 (S0 1099) (S0 1079 33) (S0 1079 32) := (zt_R0 (by omega)).symm; have m9 := zt_kmd (f := (S0 1099)) (e := S0 1079 33) (p := S0 1079 32) q9 (by omega); have t9 := zt_tmq (f := (S0 1099)) (e := S0 1079 33) (p := S0 1079 32); rw [← q9] at t9; have z9 := o69 h9; omega), (fun h9 => by have q9 : S0 1079 32 = zt_R 32 32 (S0 1099) (S0 1079 33) (S0 1079 32) := (zt_R0 (by omega)).symm; have m9 := zt_kmd (f := (S0 1099)) (e := S0 1079 33) (p := S0 1079 32) q9 (by omega); have t9 := zt_tmq (f := (S0 1099)) (e := S0 1079 33) (p := S0 1079 32); rw [← q9] at t9; omega), ⟨(by have q9 : S0 1079 32 = zt_R 32 32 (S0 1099) (S0 1079 33) (S0 1079 32) := (zt_R0 (by omega)).symm; have m9 := zt_kmd (f := (S0 1099)) (e := S0 1079 33) (p := S0 1079 32) q9 (by omega); have t9 := zt_tmq (f := (S0 1099)) (e := S0 1079 33) (p := S0 1079 32); rw [← q9] at t9; omega), (by have q9 : S0 1079 32 = zt_R 32 32 (S0 1099) (S0 1079 33) (S0 1079 32) := (zt_R0 (by omega)).symm; have m9 := zt_kmd (f := (S0 1099)) (e := S0 1079 33) (p := S0 1079 32) q9 (by omega); have t9 := zt_tmq (f := (S0 1099)) (e := S0 1079 33) (p := S0 1079 32); rw [← q9] at t9; omega), (fun h9 => by have q9 : S0 1079 32 = zt_R 32 32 (S0 1099) (S0 1079 33) (S0 1079 32) := (zt_R0 (by omega)).symm; have m9 := zt_kmd (f := (S0 1099)) (e := S0 1079 33) (p := S0 1079 32) q9 (by omega); have t9 := zt_tmq (f := (S0 1099)) (e := S0 1079 33) (p := S0 1079 32); rw [← q9] at t9; have z9 := o69 h9; omega), (fun h9 => by have q9 : S0 1079 32 = zt_R 32 32 (S0 1099) (S0 1079 33) (S0 1079 32) := (zt_R0 (by omega)).symm; have m9 := zt_kmd (f := (S0 1099)) (e := S0 1079 33) (p := S0 1079 32) q9 (by omega); have t9 := zt_tmq (f := (S0 1099)) (e := S0 1079 33) (p := S0 1079 32); rw [← q9] at t9; omega)⟩⟩
          · exfalso; omega
        · have n74 : 97 ≤ S0 1099 ((S0 1079 32).toNat) ∧ S0 1099 ((S0 1079 32).toNat) ≤ 122 := by omega
          clear o59
          refine zz_if_eq (by omega) zd_14_93_73 (fun c75 => ?_) (fun c75 => ?_)
          · exfalso; omega
          · refine zz_aload_n (x := 1079) rfl zd_14_93_76 ?_
            refine zz_lconst (z := 0) (by decide) zd_14_93_77 ?_
            refine zz_putl zd_14_93_78 zf_Md_522 zT_1079 rfl (zz_ltn hn rfl) (fun S76 qS76 => ?_)
            have G_S76 := zz_G.put G_S0 qS76 (-9223372036854775808) 9223372036854775807 rfl (by omega)
            have F_S76 := zz_fr.puts F_S0 qS76 rfl
            have e77 : S76 1079 32 = S0 1079 32 := (zz_ro qS76 (fun h => absurd h.2 (by decide)) rfl)
            have e78 : S76 1079 61 = 0 := (zz_rs qS76)
            refine zz_less (ls1 := [some (.ref 1079), some (zi (S0 1079 32))]) ⟨rfl, ⟨rfl, trivial⟩⟩ ?_
            exact k81 (S0 1079 32) S76 G_S76 F_S76 (by omega) (by omega) (by omega) (by rw [show S76 1079 32 = S0 1079 32 from (zz_ro qS76 (fun h => absurd h.2 (by decide)) rfl)]; omega) (zt_R0 (by omega)).symm (by omega) (by rw [show S76 1079 32 = S0 1079 32 by omega]) (by rw [show S76 1079 32 - (S0 1079 32) = 0 by omega]; exact (show S76 1079 61 = 0 by omega)) (by omega)
    · refine zz_aload_n (x := 1079) rfl zd_14_93_25 ?_
      refine zz_dup rfl zd_14_93_26 ?_
      refine zz_geti (z := S0 1079 32) zd_14_93_27 zf_Md_334 zT_1079 rfl (zz_ltn hn rfl) rfl ?_
      refine zz_iconst zd_14_93_30 ?_
      refine zz_iadd zd_14_93_31 ?_
      refine zz_puti zd_14_93_32 zf_Md_334 zT_1079 rfl (zz_ltn hn rfl) (fun S79 qS79 => ?_)
      have G_S79 := zz_G.put G_S0 qS79 0 1500 rfl (by omega)
      have F_S79 := zz_fr.puts F_S0 qS79 rfl
      refine zz_goto zd_14_93_35 ?_
      have e80 : S79 1079 32 = (S0 1079 32) + 1 := (zz_rs qS79)
      exact k0 S79 G_S79 F_S79 (by omega) (by omega) (by omega) (by rw [show S79 1079 32 = S0 1079 32 + 1 by omega, zt_RS (by omega) (by omega)])
abbrev zy_isWord_14_94 : mm_Y := (⟨"TensorForgeModel", "isWord", "(J)Z"⟩, prog_14_method_94_code, 3, (some .boolean))
theorem zyw_isWord_14_94 : mm_Yw zy_isWord_14_94 1 := ⟨mm_tb_1 2208 (by decide +kernel) rfl, mm_tb_1 12 (by decide +kernel) rfl, ⟨by decide, by decide⟩, by decide +kernel⟩
theorem zg_14_94_0 : zq_at zy_isWord_14_94.2.1 0 42 ∧ zq_at zy_isWord_14_94.2.1 1 180 ∧ zq_at zy_isWord_14_94.2.1 2 1 ∧ zq_at zy_isWord_14_94.2.1 3 91 ∧ zq_at zy_isWord_14_94.2.1 4 16 ∧ zq_at zy_isWord_14_94.2.1 5 102 ∧ zq_at zy_isWord_14_94.2.1 6 160 ∧ zq_at zy_isWord_14_94.2.1 7 0 ∧ zq_at zy_isWord_14_94.2.1 8 16 ∧ zq_at zy_isWord_14_94.2.1 22 3 ∧ zq_at zy_isWord_14_94.2.1 23 172 ∧ zq_at zy_isWord_14_94.2.1 9 42 ∧ zq_at zy_isWord_14_94.2.1 10 180 ∧ zq_at zy_isWord_14_94.2.1 11 2 ∧ zq_at zy_isWord_14_94.2.1 12 10 ∧ zq_at zy_isWord_14_94.2.1 13 31 ∧ zq_at zy_isWord_14_94.2.1 14 148 ∧ zq_at zy_isWord_14_94.2.1 15 154 ∧ zq_at zy_isWord_14_94.2.1 16 0 ∧ zq_at zy_isWord_14_94.2.1 17 7 ∧ zq_at zy_isWord_14_94.2.1 18 4 ∧ zq_at zy_isWord_14_94.2.1 19 167 ∧ zq_at zy_isWord_14_94.2.1 20 0 ∧ zq_at zy_isWord_14_94.2.1 21 4 := by decide +kernel
theorem zd_14_94_0 : zz_D zy_isWord_14_94 0 (.aload_n 0) 1 1 := ⟨zq_42 zg_14_94_0.1, rfl⟩
theorem zd_14_94_1 : zz_D zy_isWord_14_94 1 (.getfield 347) 3 4 := ⟨zq_180 zg_14_94_0.2.1 zg_14_94_0.2.2.1 zg_14_94_0.2.2.2.1 rfl, rfl⟩
theorem zd_14_94_4 : zz_D zy_isWord_14_94 4 (.bipush 102) 2 6 := ⟨zq_16 zg_14_94_0.2.2.2.2.1 zg_14_94_0.2.2.2.2.2.1 (by decide), rfl⟩
theorem zd_14_94_6 : zz_B zy_isWord_14_94 6 (Instr.if_icmp .ne) 22 9 := ⟨16, zq_160 zg_14_94_0.2.2.2.2.2.2.1 zg_14_94_0.2.2.2.2.2.2.2.1 zg_14_94_0.2.2.2.2.2.2.2.2.1 (by decide), rfl, rfl⟩
theorem zd_14_94_22 : zz_D zy_isWord_14_94 22 (.iconst 0) 1 23 := ⟨zq_3 zg_14_94_0.2.2.2.2.2.2.2.2.2.1, rfl⟩
theorem zd_14_94_23 : zz_D zy_isWord_14_94 23 (.ireturn) 1 24 := ⟨zq_172 zg_14_94_0.2.2.2.2.2.2.2.2.2.2.1, rfl⟩
theorem zd_14_94_9 : zz_D zy_isWord_14_94 9 (.aload_n 0) 1 10 := ⟨zq_42 zg_14_94_0.2.2.2.2.2.2.2.2.2.2.2.1, rfl⟩
theorem zd_14_94_10 : zz_D zy_isWord_14_94 10 (.getfield 522) 3 13 := ⟨zq_180 zg_14_94_0.2.2.2.2.2.2.2.2.2.2.2.2.1 zg_14_94_0.2.2.2.2.2.2.2.2.2.2.2.2.2.1 zg_14_94_0.2.2.2.2.2.2.2.2.2.2.2.2.2.2.1 rfl, rfl⟩
theorem zd_14_94_13 : zz_D zy_isWord_14_94 13 (.lload_n 1) 1 14 := ⟨zq_31 zg_14_94_0.2.2.2.2.2.2.2.2.2.2.2.2.2.2.2.1, rfl⟩
theorem zd_14_94_14 : zz_D zy_isWord_14_94 14 (.lcmp) 1 15 := ⟨zq_148 zg_14_94_0.2.2.2.2.2.2.2.2.2.2.2.2.2.2.2.2.1, rfl⟩
theorem zd_14_94_15 : zz_B zy_isWord_14_94 15 (Instr.ifCond .ne) 22 18 := ⟨7, zq_154 zg_14_94_0.2.2.2.2.2.2.2.2.2.2.2.2.2.2.2.2.2.1 zg_14_94_0.2.2.2.2.2.2.2.2.2.2.2.2.2.2.2.2.2.2.1 zg_14_94_0.2.2.2.2.2.2.2.2.2.2.2.2.2.2.2.2.2.2.2.1 (by decide), rfl, rfl⟩
theorem zd_14_94_18 : zz_D zy_isWord_14_94 18 (.iconst 1) 1 19 := ⟨zq_4 zg_14_94_0.2.2.2.2.2.2.2.2.2.2.2.2.2.2.2.2.2.2.2.2.1, rfl⟩
theorem zd_14_94_19 : zz_B zy_isWord_14_94 19 Instr.goto 23 22 := ⟨4, zq_167 zg_14_94_0.2.2.2.2.2.2.2.2.2.2.2.2.2.2.2.2.2.2.2.2.2.1 zg_14_94_0.2.2.2.2.2.2.2.2.2.2.2.2.2.2.2.2.2.2.2.2.2.2.1 zg_14_94_0.2.2.2.2.2.2.2.2.2.2.2.2.2.2.2.2.2.2.2.2.2.2.2 (by decide), rfl, rfl⟩

-- TensorForge pool (III)I
abbrev zr_pool_1_20 : Room := { frames := 7, cells := 1, slots := 6, locals := 95 }
def zp_pool_1_20 (p0 : Int) (p1 : Int) (p2 : Int) (S0 : zz_S) : Int → zz_S → Prop := fun r S => zz_G S ∧ zz_fr [] [] (fun a i => (a = zz_rf 3 (S0 1000 7) ∧ i = 1) ∨ (a = zz_rf 6 (12 * (S0 1000 7) + S0 (zz_rf 3 (S0 1000 7)) 1) ∧ i = 0) ∨ (a = zz_rf 6 (12 * (S0 1000 7) + S0 (zz_rf 3 (S0 1000 7)) 1) ∧ i = 1) ∨ (a = zz_rf 6 (12 * (S0 1000 7) + S0 (zz_rf 3 (S0 1000 7)) 1) ∧ i = 10) ∨ (a = zz_rf 6 (12 * (S0 1000 7) + S0 (zz_rf 3 (S0 1000 7)) 1) ∧ i = 11) ∨ (a = zz_rf 6 (12 * (S0 1000 7) + S0 (zz_rf 3 (S0 1000 7)) 1) ∧ i = 12) ∨ (a = zz_rf 6 (12 * (S0 1000 7) + S0 (zz_rf 3 (S0 1000 7)) 1) ∧ i = 13) ∨ (a = zz_rf 6 (12 * (S0 1000 7) + S0 (zz_rf 3 (S0 1000 7)) 1) ∧ i = 14) ∨ (a = zz_rf 6 (12 * (S0 1000 7) + S0 (zz_rf 3 (S0 1000 7)) 1) ∧ i = 2) ∨ (a = zz_rf 6 (12 * (S0 1000 7) + S0 (zz_rf 3 (S0 1000 7)) 1) ∧ i = 3) ∨ (a = zz_rf 6 (12 * (S0 1000 7) + S0 (zz_rf 3 (S0 1000 7)) 1) ∧ i = 4) ∨ (a = zz_rf 6 (12 * (S0 1000 7) + S0 (zz_rf 3 (S0 1000 7)) 1) ∧ i = 5) ∨ (a = zz_rf 6 (12 * (S0 1000 7) + S0 (zz_rf 3 (S0 1000 7)) 1) ∧ i = 6) ∨ (a = zz_rf 6 (12 * (S0 1000 7) + S0 (zz_rf 3 (S0 1000 7)) 1) ∧ i = 7) ∨ (a = zz_rf 6 (12 * (S0 1000 7) + S0 (zz_rf 3 (S0 1000 7)) 1) ∧ i = 8) ∨ (a = zz_rf 6 (12 * (S0 1000 7) + S0 (zz_rf 3 (S0 1000 7)) 1) ∧ i = 9)) S0 S ∧ ((-2147483648) ≤ r ∧ r ≤ 2147483647)
def zx_pool_1_20 (p0 : Int) (p1 : Int) (p2 : Int) (S0 : zz_S) : Nat → zz_S → Prop := fun i S => zz_G S ∧ zz_fr [] [] (fun a i => (a = zz_rf 3 (S0 1000 7) ∧ i = 1) ∨ (a = zz_rf 6 (12 * (S0 1000 7) + S0 (zz_rf 3 (S0 1000 7)) 1) ∧ i = 0) ∨ (a = zz_rf 6 (12 * (S0 1000 7) + S0 (zz_rf 3 (S0 1000 7)) 1) ∧ i = 1) ∨ (a = zz_rf 6 (12 * (S0 1000 7) + S0 (zz_rf 3 (S0 1000 7)) 1) ∧ i = 10) ∨ (a = zz_rf 6 (12 * (S0 1000 7) + S0 (zz_rf 3 (S0 1000 7)) 1) ∧ i = 11) ∨ (a = zz_rf 6 (12 * (S0 1000 7) + S0 (zz_rf 3 (S0 1000 7)) 1) ∧ i = 12) ∨ (a = zz_rf 6 (12 * (S0 1000 7) + S0 (zz_rf 3 (S0 1000 7)) 1) ∧ i = 13) ∨ (a = zz_rf 6 (12 * (S0 1000 7) + S0 (zz_rf 3 (S0 1000 7)) 1) ∧ i = 14) ∨ (a = zz_rf 6 (12 * (S0 1000 7) + S0 (zz_rf 3 (S0 1000 7)) 1) ∧ i = 2) ∨ (a = zz_rf 6 (12 * (S0 1000 7) + S0 (zz_rf 3 (S0 1000 7)) 1) ∧ i = 3) ∨ (a = zz_rf 6 (12 * (S0 1000 7) + S0 (zz_rf 3 (S0 1000 7)) 1) ∧ i = 4) ∨ (a = zz_rf 6 (12 * (S0 1000 7) + S0 (zz_rf 3 (S0 1000 7)) 1) ∧ i = 5) ∨ (a = zz_rf 6 (12 * (S0 1000 7) + S0 (zz_rf 3 (S0 1000 7)) 1) ∧ i = 6) ∨ (a = zz_rf 6 (12 * (S0 1000 7) + S0 (zz_rf 3 (S0 1000 7)) 1) ∧ i = 7) ∨ (a = zz_rf 6 (12 * (S0 1000 7) + S0 (zz_rf 3 (S0 1000 7)) 1) ∧ i = 8) ∨ (a = zz_rf 6 (12 * (S0 1000 7) + S0 (zz_rf 3 (S0 1000 7)) 1) ∧ i = 9)) S0 S ∧ (i < 4)
theorem zc_pool_1_20 {g : mm_G} {l : Launch} (p0 : Int) (p1 : Int) (p2 : Int) (S0 : zz_S) (n : Nat) (hn : zz_end ≤ n) (hfl : l.flags = flags0) (G_S0 : zz_G S0) (hp0 : (-2147483648) ≤ p0 ∧ p0 ≤ 2147483647) (hp1 : (-2147483648) ≤ p1 ∧ p1 ≤ 2147483647) (hp2 : (-2147483648) ≤ p2 ∧ p2 ≤ 2147483647) : mm_Met g l zy_pool_1_20 zr_pool_1_20 [.ref 1000, zi p0, zi p1, zi p2] (zz_M S0 n) n (zz_XI n (zp_pool_1_20 p0 p1 p2 S0) (zx_pool_1_20 p0 p1 p2 S0)) := by
  refine zz_enter (by decide) (Nat.le_of_ble_eq_true rfl) (zz_less (ls1 := [some (.ref 1000), some (zi p0), some (zi p1), some (zi p2)]) ⟨rfl, ⟨rfl, ⟨rfl, ⟨rfl, trivial⟩⟩⟩⟩ ?_)
  have F_S0 : zz_fr [] [] (fun a i => (a = zz_rf 3 (S0 1000 7) ∧ i = 1) ∨ (a = zz_rf 6 (12 * (S0 1000 7) + S0 (zz_rf 3 (S0 1000 7)) 1) ∧ i = 0) ∨ (a = zz_rf 6 (12 * (S0 1000 7) + S0 (zz_rf 3 (S0 1000 7)) 1) ∧ i = 1) ∨ (a = zz_rf 6 (12 * (S0 1000 7) + S0 (zz_rf 3 (S0 1000 7)) 1) ∧ i = 10) ∨ (a = zz_rf 6 (12 * (S0 1000 7) + S0 (zz_rf 3 (S0 1000 7)) 1) ∧ i = 11) ∨ (a = zz_rf 6 (12 * (S0 1000 7) + S0 (zz_rf 3 (S0 1000 7)) 1) ∧ i = 12) ∨ (a = zz_rf 6 (12 * (S0 1000 7) + S0 (zz_rf 3 (S0 1000 7)) 1) ∧ i = 13) ∨ (a = zz_rf 6 (12 * (S0 1000 7) + S0 (zz_rf 3 (S0 1000 7)) 1) ∧ i = 14) ∨ (a = zz_rf 6 (12 * (S0 1000 7) + S0 (zz_rf 3 (S0 1000 7)) 1) ∧ i = 2) ∨ (a = zz_rf 6 (12 * (S0 1000 7) + S0 (zz_rf 3 (S0 1000 7)) 1) ∧ i = 3) ∨ (a = zz_rf 6 (12 * (S0 1000 7) + S0 (zz_rf 3 (S0 1000 7)) 1) ∧ i = 4) ∨ (a = zz_rf 6 (12 * (S0 1000 7) + S0 (zz_rf 3 (S0 1000 7)) 1) ∧ i = 5) ∨ (a = zz_rf 6 (12 * (S0 1000 7) + S0 (zz_rf 3 (S0 1000 7)) 1) ∧ i = 6) ∨ (a = zz_rf 6 (12 * (S0 1000 7) + S0 (zz_rf 3 (S0 1000 7)) 1) ∧ i = 7) ∨ (a = zz_rf 6 (12 * (S0 1000 7) + S0 (zz_rf 3 (S0 1000 7)) 1) ∧ i = 8) ∨ (a = zz_rf 6 (12 * (S0 1000 7) + S0 (zz_rf 3 (S0 1000 7)) 1) ∧ i = 9)) S0 S0 := zz_fr.refl
  refine zz_aload_n (x := 1000) rfl zd_1_20_0 ?_
  have g1 := zz_G.r G_S0 1000 7 0 1 rfl rfl
  refine zz_getr (kd := 1) (z := S0 1000 7) zd_1_20_1 zf_TF_10 zT_1000 rfl (zz_ltn hn rfl) rfl (by omega) (zz_rf 3 (S0 1000 7)) rfl ?_
  refine zz_callVA [] zd_1_20_4 zk_TF_220 (zT_k3 (by omega)) (zN_k3 hn (by omega)) rfl rfl ⟨Nat.le_of_ble_eq_true rfl, Nat.le_of_ble_eq_true rfl⟩ ⟨rfl, rfl⟩ (Nat.zero_le _) (Nat.zero_le _) (zc_draft_7_6 (S0 1000 7) S0 n hn G_S0 (by omega)) (fun v3 S2 hP => ?_)
  obtain ⟨rfl, o4⟩ := hP
  subst o4
  refine zz_astore [some (.ref 1000), some (zi p0), some (zi p1), some (zi p2), some (.ref (zz_rf 6 (12 * (S0 1000 7) + S0 (zz_rf 3 (S0 1000 7)) 1)))] zd_1_20_7 (by decide) rfl ?_
  refine zz_aload (x := zz_rf 6 (12 * (S0 1000 7) + S0 (zz_rf 3 (S0 1000 7)) 1)) rfl zd_1_20_9 ?_
  refine zz_iconst zd_1_20_11 ?_
  refine zz_iload_n (x := p0) rfl zd_1_20_12 ?_
  refine zz_iload_n (x := p0) rfl zd_1_20_13 ?_
  refine zz_callVV [zi 2, zi p0, zi p0] zd_1_20_14 zk_TF_226 (zT_k6 (by omega)) (zN_k6 hn (by omega)) rfl rfl ⟨Nat.le_of_ble_eq_true rfl, Nat.le_of_ble_eq_true rfl⟩ ⟨rfl, rfl⟩ (Nat.zero_le _) (Nat.zero_le _) (zc_reset_4_2 (12 * (S0 1000 7) + S0 (zz_rf 3 (S0 1000 7)) 1) 2 p0 p0 S0 n hn G_S0 (by omega) (by omega) (by omega) (by omega)) (fun S5 hP => ?_)
  obtain ⟨G_S5, fS5⟩ := hP
  have F_S5 := zz_fr.trans F_S0 fS5 rfl (fun a i h => by rcases h with h | h | h | h | h | h | h | h | h | h | h | h | h | h | h; exact Or.inr (Or.inr (Or.inr (Or.inl h))); exact Or.inr (Or.inr (Or.inr (Or.inr (Or.inl h)))); exact Or.inr (Or.inr (Or.inr (Or.inr (Or.inr (Or.inl h))))); exact Or.inr (Or.inr (Or.inr (Or.inr (Or.inr (Or.inr (Or.inl h)))))); exact Or.inr (Or.inr (Or.inr (Or.inr (Or.inr (Or.inr (Or.inr (Or.inl h))))))); exact Or.inr (Or.inr (Or.inr (Or.inr (Or.inr (Or.inr (Or.inr (Or.inr (Or.inl h)))))))); exact Or.inr (Or.inr (Or.inr (Or.inr (Or.inr (Or.inr (Or.inr (Or.inr (Or.inr (Or.inl h))))))))); exact Or.inr (Or.inr (Or.inr (Or.inr (Or.inr (Or.inr (Or.inr (Or.inr (Or.inr (Or.inr (Or.inl h)))))))))); exact Or.inr (Or.inr (Or.inr (Or.inr (Or.inr (Or.inr (Or.inr (Or.inr (Or.inr (Or.inr (Or.inr (Or.inl h))))))))))); exact Or.inr (Or.inr (Or.inr (Or.inr (Or.inr (Or.inr (Or.inr (Or.inr (Or.inr (Or.inr (Or.inr (Or.inr (Or.inl h)))))))))))); exact Or.inr (Or.inr (Or.inr (Or.inr (Or.inr (Or.inr (Or.inr (Or.inr (Or.inr (Or.inr (Or.inr (Or.inr (Or.inr (Or.inl h))))))))))))); exact Or.inr (Or.inr (Or.inr (Or.inr (Or.inr (Or.inr (Or.inr (Or.inr (Or.inr (Or.inr (Or.inr (Or.inr (Or.inr (Or.inr (Or.inl h)))))))))))))); exact Or.inr (Or.inr (Or.inr (Or.inr (Or.inr (Or.inr (Or.inr (Or.inr (Or.inr (Or.inr (Or.inr (Or.inr (Or.inr (Or.inr (Or.inr (Or.inl h))))))))))))))); exact Or.inr (Or.inr (Or.inr (Or.inr (Or.inr (Or.inr (Or.inr (Or.inr (Or.inr (Or.inr (Or.inr (Or.inr (Or.inr (Or.inr (Or.inr (Or.inr (Or.inl h)))))))))))))))); exact Or.inr (Or.inr (Or.inr (Or.inr (Or.inr (Or.inr (Or.inr (Or.inr (Or.inr (Or.inr (Or.inr (Or.inr (Or.inr (Or.inr (Or.inr (Or.inr (Or.inr (h))))))))))))))))))
  refine zz_aload (x := zz_rf 6 (12 * (S0 1000 7) + S0 (zz_rf 3 (S0 1000 7)) 1)) rfl zd_1_20_17 ?_
  refine zz_iload_n (x := p1) rfl zd_1_20_19 ?_
  refine zz_bipush (by decide) zd_1_20_20 ?_
  refine zz_idiv (by omega) (by omega) zd_1_20_22 (fun v7 hv7 av7 bv7 cv7 => ?_)
  refine zz_iload_n (x := p1) rfl zd_1_20_23 ?_
  refine zz_bipush (by decide) zd_1_20_24 ?_
  refine zz_irem (by omega) (by omega) zd_1_20_26 (fun v8 hv8 av8 bv8 cv8 => ?_)
  refine zz_callVV [zi v7, zi v8] zd_1_20_27 zk_TF_229 (zT_k6 (by omega)) (zN_k6 hn (by omega)) rfl rfl ⟨Nat.le_of_ble_eq_true rfl, Nat.le_of_ble_eq_true rfl⟩ ⟨rfl, rfl⟩ (Nat.zero_le _) (Nat.zero_le _) (zc_takeKernel_4_4 (12 * (S0 1000 7) + S0 (zz_rf 3 (S0 1000 7)) 1) v7 v8 S5 n hn G_S5 (by omega) (by omega) (by omega)) (fun S9 hP => ?_)
  obtain ⟨G_S9, fS9⟩ := hP
  have F_S9 := zz_fr.trans F_S5 fS9 rfl (fun a i h => by rcases h with h | h; exact Or.inr (Or.inr (Or.inr (Or.inr (Or.inr (Or.inr (Or.inr (Or.inr (Or.inr (Or.inr (Or.inr (Or.inl h))))))))))); exact Or.inr (Or.inr (Or.inr (Or.inr (Or.inr (Or.inr (Or.inr (Or.inr (Or.inr (Or.inr (Or.inr (Or.inr (Or.inl h)))))))))))))
  refine zz_aload (x := zz_rf 6 (12 * (S0 1000 7) + S0 (zz_rf 3 (S0 1000 7)) 1)) rfl zd_1_20_30 ?_
  refine zz_iload_n (x := p2) rfl zd_1_20_32 ?_
  refine zz_puti zd_1_20_33 zf_TF_232 (zT_k6 (by omega)) rfl (zN_k6 hn (by omega)) (fun S11 qS11 => ?_)
  have G_S11 := zz_G.put G_S9 qS11 (-2147483648) 2147483647 (zR_k6_5 (by omega)) (by omega)
  have F_S11 := zz_fr.putv F_S9 qS11 (Or.inr (Or.inr (Or.inr (Or.inr (Or.inr (Or.inr (Or.inr (Or.inr (Or.inr (Or.inr (Or.inr (Or.inl ⟨rfl, rfl⟩))))))))))))
  refine zz_aload_n (x := 1000) rfl zd_1_20_36 ?_
  refine zz_callVXI [] zd_1_20_37 zk_TF_247 zT_1000 (zz_ltn hn rfl) rfl rfl ⟨Nat.le_of_ble_eq_true rfl, Nat.le_of_ble_eq_true rfl⟩ (Nat.le_of_ble_eq_true rfl) (Nat.le_of_ble_eq_true rfl) (zc_added_1_31  S11 n hn hfl G_S11 ) zyw_pool_1_20 (fun i SX hX => by obtain ⟨GX, fX, x0⟩ := hX; exact Or.inr ⟨_, _, rfl, GX, zz_fr.trans F_S11 fX rfl (fun a i h => by rcases h with h | h | h | h | h; exact Or.inr (Or.inr (Or.inl h)); exact Or.inr (Or.inr (Or.inr (Or.inr (Or.inr (Or.inl h))))); exact Or.inr (Or.inr (Or.inr (Or.inr (Or.inr (Or.inr (Or.inl h)))))); exact Or.inr (Or.inr (Or.inr (Or.inr (Or.inr (Or.inr (Or.inr (Or.inl h))))))); exact Or.inr (Or.inr (Or.inr (Or.inr (Or.inr (Or.inr (Or.inr (Or.inr (Or.inl h))))))))), by omega⟩) (fun v15 S14 hP => ?_)
  obtain ⟨G_S14, fS14, o16⟩ := hP
  have F_S14 := zz_fr.trans F_S11 fS14 rfl (fun a i h => by rcases h with h | h | h | h | h; exact Or.inr (Or.inr (Or.inl h)); exact Or.inr (Or.inr (Or.inr (Or.inr (Or.inr (Or.inl h))))); exact Or.inr (Or.inr (Or.inr (Or.inr (Or.inr (Or.inr (Or.inl h)))))); exact Or.inr (Or.inr (Or.inr (Or.inr (Or.inr (Or.inr (Or.inr (Or.inl h))))))); exact Or.inr (Or.inr (Or.inr (Or.inr (Or.inr (Or.inr (Or.inr (Or.inr (Or.inl h)))))))))
  exact zz_iret zd_1_20_40 rfl (Nat.le_of_ble_eq_true rfl) (Nat.le_of_ble_eq_true rfl) (Or.inl ⟨_, _, rfl, G_S14, F_S14, by omega⟩)
abbrev zy_addition_1_21 : mm_Y := (⟨"TensorForge", "addition", "(III)I"⟩, prog_1_method_21_code, 5, (some .int))
theorem zyw_addition_1_21 : mm_Yw zy_addition_1_21 3 := ⟨mm_tb_1 1388 (by decide +kernel) rfl, mm_tb_1 1 (by decide +kernel) rfl, ⟨by decide, by decide⟩, by decide +kernel⟩
theorem zd_1_21_0 : zz_D zy_addition_1_21 0 (.aload_n 0) 1 1 := ⟨by decide +kernel, rfl⟩
theorem zd_1_21_1 : zz_D zy_addition_1_21 1 (.getfield 10) 3 4 := ⟨by decide +kernel, rfl⟩
theorem zd_1_21_4 : zz_D zy_addition_1_21 4 (.invokevirtual 220) 3 7 := ⟨by decide +kernel, rfl⟩
theorem zd_1_21_7 : zz_D zy_addition_1_21 7 (.astore 4) 2 9 := ⟨by decide +kernel, rfl⟩
theorem zd_1_21_9 : zz_D zy_addition_1_21 9 (.aload 4) 2 11 := ⟨by decide +kernel, rfl⟩
theorem zd_1_21_11 : zz_D zy_addition_1_21 11 (.iconst 3) 1 12 := ⟨by decide +kernel, rfl⟩
theorem zd_1_21_12 : zz_D zy_addition_1_21 12 (.iload_n 1) 1 13 := ⟨by decide +kernel, rfl⟩
theorem zd_1_21_13 : zz_D zy_addition_1_21 13 (.iload_n 2) 1 14 := ⟨by decide +kernel, rfl⟩
theorem zd_1_21_14 : zz_D zy_addition_1_21 14 (.invokevirtual 226) 3 17 := ⟨by decide +kernel, rfl⟩
theorem zd_1_21_17 : zz_D zy_addition_1_21 17 (.aload 4) 2 19 := ⟨by decide +kernel, rfl⟩
theorem zd_1_21_19 : zz_D zy_addition_1_21 19 (.iload_n 3) 1 20 := ⟨by decide +kernel, rfl⟩
theorem zd_1_21_20 : zz_D zy_addition_1_21 20 (.invokevirtual 238) 3 23 := ⟨by decide +kernel, rfl⟩
theorem zd_1_21_23 : zz_D zy_addition_1_21 23 (.aload_n 0) 1 24 := ⟨by decide +kernel, rfl⟩
theorem zd_1_21_24 : zz_D zy_addition_1_21 24 (.invokevirtual 247) 3 27 := ⟨by decide +kernel, rfl⟩
theorem zd_1_21_27 : zz_D zy_addition_1_21 27 (.ireturn) 1 28 := ⟨by decide +kernel, rfl⟩
-- TensorForge addition (III)I
abbrev zr_addition_1_21 : Room := { frames := 7, cells := 1, slots := 6, locals := 95 }
def zp_addition_1_21 (p0 : Int) (p1 : Int) (p2 : Int) (S0 : zz_S) : Int → zz_S → Prop := fun r S => zz_G S ∧ zz_fr [] [] (fun a i => (a = zz_rf 3 (S0 1000 7) ∧ i = 1) ∨ (a = zz_rf 6 (12 * (S0 1000 7) + S0 (zz_rf 3 (S0 1000 7)) 1) ∧ i = 0) ∨ (a = zz_rf 6 (12 * (S0 1000 7) + S0 (zz_rf 3 (S0 1000 7)) 1) ∧ i = 1) ∨ (a = zz_rf 6 (12 * (S0 1000 7) + S0 (zz_rf 3 (S0 1000 7)) 1) ∧ i = 10) ∨ (a = zz_rf 6 (12 * (S0 1000 7) + S0 (zz_rf 3 (S0 1000 7)) 1) ∧ i = 11) ∨ (a = zz_rf 6 (12 * (S0 1000 7) + S0 (zz_rf 3 (S0 1000 7)) 1) ∧ i = 12) ∨ (a = zz_rf 6 (12 * (S0 1000 7) + S0 (zz_rf 3 (S0 1000 7)) 1) ∧ i = 13) ∨ (a = zz_rf 6 (12 * (S0 1000 7) + S0 (zz_rf 3 (S0 1000 7)) 1) ∧ i = 14) ∨ (a = zz_rf 6 (12 * (S0 1000 7) + S0 (zz_rf 3 (S0 1000 7)) 1) ∧ i = 2) ∨ (a = zz_rf 6 (12 * (S0 1000 7) + S0 (zz_rf 3 (S0 1000 7)) 1) ∧ i = 3) ∨ (a = zz_rf 6 (12 * (S0 1000 7) + S0 (zz_rf 3 (S0 1000 7)) 1) ∧ i = 4) ∨ (a = zz_rf 6 (12 * (S0 1000 7) + S0 (zz_rf 3 (S0 1000 7)) 1) ∧ i = 5) ∨ (a = zz_rf 6 (12 * (S0 1000 7) + S0 (zz_rf 3 (S0 1000 7)) 1) ∧ i = 6) ∨ (a = zz_rf 6 (12 * (S0 1000 7) + S0 (zz_rf 3 (S0 1000 7)) 1) ∧ i = 7) ∨ (a = zz_rf 6 (12 * (S0 1000 7) + S0 (zz_rf 3 (S0 1000 7)) 1) ∧ i = 8) ∨ (a = zz_rf 6 (12 * (S0 1000 7) + S0 (zz_rf 3 (S0 1000 7)) 1) ∧ i = 9)) S0 S ∧ ((-2147483648) ≤ r ∧ r ≤ 2147483647)
def zx_addition_1_21 (p0 : Int) (p1 : Int) (p2 : Int) (S0 : zz_S) : Nat → zz_S → Prop := fun i S => zz_G S ∧ zz_fr [] [] (fun a i => (a = zz_rf 3 (S0 1000 7) ∧ i = 1) ∨ (a = zz_rf 6 (12 * (S0 1000 7) + S0 (zz_rf 3 (S0 1000 7)) 1) ∧ i = 0) ∨ (a = zz_rf 6 (12 * (S0 1000 7) + S0 (zz_rf 3 (S0 1000 7)) 1) ∧ i = 1) ∨ (a = zz_rf 6 (12 * (S0 1000 7) + S0 (zz_rf 3 (S0 1000 7)) 1) ∧ i = 10) ∨ (a = zz_rf 6 (12 * (S0 1000 7) + S0 (zz_rf 3 (S0 1000 7)) 1) ∧ i = 11) ∨ (a = zz_rf 6 (12 * (S0 1000 7) + S0 (zz_rf 3 (S0 1000 7)) 1) ∧ i = 12) ∨ (a = zz_rf 6 (12 * (S0 1000 7) + S0 (zz_rf 3 (S0 1000 7)) 1) ∧ i = 13) ∨ (a = zz_rf 6 (12 * (S0 1000 7) + S0 (zz_rf 3 (S0 1000 7)) 1) ∧ i = 14) ∨ (a = zz_rf 6 (12 * (S0 1000 7) + S0 (zz_rf 3 (S0 1000 7)) 1) ∧ i = 2) ∨ (a = zz_rf 6 (12 * (S0 1000 7) + S0 (zz_rf 3 (S0 1000 7)) 1) ∧ i = 3) ∨ (a = zz_rf 6 (12 * (S0 1000 7) + S0 (zz_rf 3 (S0 1000 7)) 1) ∧ i = 4) ∨ (a = zz_rf 6 (12 * (S0 1000 7) + S0 (zz_rf 3 (S0 1000 7)) 1) ∧ i = 5) ∨ (a = zz_rf 6 (12 * (S0 1000 7) + S0 (zz_rf 3 (S0 1000 7)) 1) ∧ i = 6) ∨ (a = zz_rf 6 (12 * (S0 1000 7) + S0 (zz_rf 3 (S0 1000 7)) 1) ∧ i = 7) ∨ (a = zz_rf 6 (12 * (S0 1000 7) + S0 (zz_rf 3 (S0 1000 7)) 1) ∧ i = 8) ∨ (a = zz_rf 6 (12 * (S0 1000 7) + S0 (zz_rf 3 (S0 1000 7)) 1) ∧ i = 9)) S0 S ∧ (i < 4)
theorem zc_addition_1_21 {g : mm_G} {l : Launch} (p0 : Int) (p1 : Int) (p2 : Int) (S0 : zz_S) (n : Nat) (hn : zz_end ≤ n) (hfl : l.flags = flags0) (G_S0 : zz_G S0) (hp0 : (-2147483648) ≤ p0 ∧ p0 ≤ 2147483647) (hp1 : (-2147483648) ≤ p1 ∧ p1 ≤ 2147483647) (hp2 : (-2147483648) ≤ p2 ∧ p2 ≤ 2147483647) : mm_Met g l zy_addition_1_21 zr_addition_1_21 [.ref 1000, zi p0, zi p1, zi p2] (zz_M S0 n) n (zz_XI n (zp_addition_1_21 p0 p1 p2 S0) (zx_addition_1_21 p0 p1 p2 S0)) := by
  refine zz_enter (by decide) (Nat.le_of_ble_eq_true rfl) (zz_less (ls1 := [some (.ref 1000), some (zi p0), some (zi p1), some (zi p2)]) ⟨rfl, ⟨rfl, ⟨rfl, ⟨rfl, trivial⟩⟩⟩⟩ ?_)
  have F_S0 : zz_fr [] [] (fun a i => (a = zz_rf 3 (S0 1000 7) ∧ i = 1) ∨ (a = zz_rf 6 (12 * (S0 1000 7) + S0 (zz_rf 3 (S0 1000 7)) 1) ∧ i = 0) ∨ (a = zz_rf 6 (12 * (S0 1000 7) + S0 (zz_rf 3 (S0 1000 7)) 1) ∧ i = 1) ∨ (a = zz_rf 6 (12 * (S0 1000 7) + S0 (zz_rf 3 (S0 1000 7)) 1) ∧ i = 10) ∨ (a = zz_rf 6 (12 * (S0 1000 7) + S0 (zz_rf 3 (S0 1000 7)) 1) ∧ i = 11) ∨ (a = zz_rf 6 (12 * (S0 1000 7) + S0 (zz_rf 3 (S0 1000 7)) 1) ∧ i = 12) ∨ (a = zz_rf 6 (12 * (S0 1000 7) + S0 (zz_rf 3 (S0 1000 7)) 1) ∧ i = 13) ∨ (a = zz_rf 6 (12 * (S0 1000 7) + S0 (zz_rf 3 (S0 1000 7)) 1) ∧ i = 14) ∨ (a = zz_rf 6 (12 * (S0 1000 7) + S0 (zz_rf 3 (S0 1000 7)) 1) ∧ i = 2) ∨ (a = zz_rf 6 (12 * (S0 1000 7) + S0 (zz_rf 3 (S0 1000 7)) 1) ∧ i = 3) ∨ (a = zz_rf 6 (12 * (S0 1000 7) + S0 (zz_rf 3 (S0 1000 7)) 1) ∧ i = 4) ∨ (a = zz_rf 6 (12 * (S0 1000 7) + S0 (zz_rf 3 (S0 1000 7)) 1) ∧ i = 5) ∨ (a = zz_rf 6 (12 * (S0 1000 7) + S0 (zz_rf 3 (S0 1000 7)) 1) ∧ i = 6) ∨ (a = zz_rf 6 (12 * (S0 1000 7) + S0 (zz_rf 3 (S0 1000 7)) 1) ∧ i = 7) ∨ (a = zz_rf 6 (12 * (S0 1000 7) + S0 (zz_rf 3 (S0 1000 7)) 1) ∧ i = 8) ∨ (a = zz_rf 6 (12 * (S0 1000 7) + S0 (zz_rf 3 (S0 1000 7)) 1) ∧ i = 9)) S0 S0 := zz_fr.refl
  refine zz_aload_n (x := 1000) rfl zd_1_21_0 ?_
  have g1 := zz_G.r G_S0 1000 7 0 1 rfl rfl
  refine zz_getr (kd := 1) (z := S0 1000 7) zd_1_21_1 zf_TF_10 zT_1000 rfl (zz_ltn hn rfl) rfl (by omega) (zz_rf 3 (S0 1000 7)) rfl ?_
  refine zz_callVA [] zd_1_21_4 zk_TF_220 (zT_k3 (by omega)) (zN_k3 hn (by omega)) rfl rfl ⟨Nat.le_of_ble_eq_true rfl, Nat.le_of_ble_eq_true rfl⟩ ⟨rfl, rfl⟩ (Nat.zero_le _) (Nat.zero_le _) (zc_draft_7_6 (S0 1000 7) S0 n hn G_S0 (by omega)) (fun v3 S2 hP => ?_)
  obtain ⟨rfl, o4⟩ := hP
  subst o4
  refine zz_astore [some (.ref 1000), some (zi p0), some (zi p1), some (zi p2), some (.ref (zz_rf 6 (12 * (S0 1000 7) + S0 (zz_rf 3 (S0 1000 7)) 1)))] zd_1_21_7 (by decide) rfl ?_
  refine zz_aload (x := zz_rf 6 (12 * (S0 1000 7) + S0 (zz_rf 3 (S0 1000 7)) 1)) rfl zd_1_21_9 ?_
  refine zz_iconst zd_1_21_11 ?_
  refine zz_iload_n (x := p0) rfl zd_1_21_12 ?_
  refine zz_iload_n (x := p1) rfl zd_1_21_13 ?_
  refine zz_callVV [zi 3, zi p0, zi p1] zd_1_21_14 zk_TF_226 (zT_k6 (by omega)) (zN_k6 hn (by omega)) rfl rfl ⟨Nat.le_of_ble_eq_true rfl, Nat.le_of_ble_eq_true rfl⟩ ⟨rfl, rfl⟩ (Nat.zero_le _) (Nat.zero_le _) (zc_reset_4_2 (12 * (S0 1000 7) + S0 (zz_rf 3 (S0 1000 7)) 1) 3 p0 p1 S0 n hn G_S0 (by omega) (by omega) (by omega) (by omega)) (fun S5 hP => ?_)
  obtain ⟨G_S5, fS5⟩ := hP
  have F_S5 := zz_fr.trans F_S0 fS5 rfl (fun a i h => by rcases h with h | h | h | h | h | h | h | h | h | h | h | h | h | h | h; exact Or.inr (Or.inr (Or.inr (Or.inl h))); exact Or.inr (Or.inr (Or.inr (Or.inr (Or.inl h)))); exact Or.inr (Or.inr (Or.inr (Or.inr (Or.inr (Or.inl h))))); exact Or.inr (Or.inr (Or.inr (Or.inr (Or.inr (Or.inr (Or.inl h)))))); exact Or.inr (Or.inr (Or.inr (Or.inr (Or.inr (Or.inr (Or.inr (Or.inl h))))))); exact Or.inr (Or.inr (Or.inr (Or.inr (Or.inr (Or.inr (Or.inr (Or.inr (Or.inl h)))))))); exact Or.inr (Or.inr (Or.inr (Or.inr (Or.inr (Or.inr (Or.inr (Or.inr (Or.inr (Or.inl h))))))))); exact Or.inr (Or.inr (Or.inr (Or.inr (Or.inr (Or.inr (Or.inr (Or.inr (Or.inr (Or.inr (Or.inl h)))))))))); exact Or.inr (Or.inr (Or.inr (Or.inr (Or.inr (Or.inr (Or.inr (Or.inr (Or.inr (Or.inr (Or.inr (Or.inl h))))))))))); exact Or.inr (Or.inr (Or.inr (Or.inr (Or.inr (Or.inr (Or.inr (Or.inr (Or.inr (Or.inr (Or.inr (Or.inr (Or.inl h)))))))))))); exact Or.inr (Or.inr (Or.inr (Or.inr (Or.inr (Or.inr (Or.inr (Or.inr (Or.inr (Or.inr (Or.inr (Or.inr (Or.inr (Or.inl h))))))))))))); exact Or.inr (Or.inr (Or.inr (Or.inr (Or.inr (Or.inr (Or.inr (Or.inr (Or.inr (Or.inr (Or.inr (Or.inr (Or.inr (Or.inr (Or.inl h)))))))))))))); exact Or.inr (Or.inr (Or.inr (Or.inr (Or.inr (Or.inr (Or.inr (Or.inr (Or.inr (Or.inr (Or.inr (Or.inr (Or.inr (Or.inr (Or.inr (Or.inl h))))))))))))))); exact Or.inr (Or.inr (Or.inr (Or.inr (Or.inr (Or.inr (Or.inr (Or.inr (Or.inr (Or.inr (Or.inr (Or.inr (Or.inr (Or.inr (Or.inr (Or.inr (Or.inl h)))))))))))))))); exact Or.inr (Or.inr (Or.inr (Or.inr (Or.inr (Or.inr (Or.inr (Or.inr (Or.inr (Or.inr (Or.inr (Or.inr (Or.inr (Or.inr (Or.inr (Or.inr (Or.inr (h))))))))))))))))))
  refine zz_aload (x := zz_rf 6 (12 * (S0 1000 7) + S0 (zz_rf 3 (S0 1000 7)) 1)) rfl zd_1_21_17 ?_
  refine zz_iload_n (x := p2) rfl zd_1_21_19 ?_
  refine zz_callVV [zi p2] zd_1_21_20 zk_TF_238 (zT_k6 (by omega)) (zN_k6 hn (by omega)) rfl rfl ⟨Nat.le_of_ble_eq_true rfl, Nat.le_of_ble_eq_true rfl⟩ ⟨rfl, rfl⟩ (Nat.zero_le _) (Nat.zero_le _) (zc_takeNarrowing_4_5 (12 * (S0 1000 7) + S0 (zz_rf 3 (S0 1000 7)) 1) p2 S5 n hn G_S5 (by omega) (by omega)) (fun S7 hP => ?_)
  obtain ⟨G_S7, fS7⟩ := hP
  have F_S7 := zz_fr.trans F_S5 fS7 rfl (fun a i h => by rcases h with h | h; exact Or.inr (Or.inr (Or.inr (Or.inr (Or.inr (Or.inr (Or.inr (Or.inr (Or.inr (Or.inr (Or.inr (Or.inr (Or.inr (Or.inr (Or.inr (Or.inl h))))))))))))))); exact Or.inr (Or.inr (Or.inr (Or.inr (Or.inr (Or.inr (Or.inr (Or.inr (Or.inr (Or.inr (Or.inr (Or.inr (Or.inr (Or.inr (Or.inr (Or.inr (Or.inl h)))))))))))))))))
  refine zz_aload_n (x := 1000) rfl zd_1_21_23 ?_
  refine zz_callVXI [] zd_1_21_24 zk_TF_247 zT_1000 (zz_ltn hn rfl) rfl rfl ⟨Nat.le_of_ble_eq_true rfl, Nat.le_of_ble_eq_true rfl⟩ (Nat.le_of_ble_eq_true rfl) (Nat.le_of_ble_eq_true rfl) (zc_added_1_31  S7 n hn hfl G_S7 ) zyw_addition_1_21 (fun i SX hX => by obtain ⟨GX, fX, x0⟩ := hX; exact Or.inr ⟨_, _, rfl, GX, zz_fr.trans F_S7 fX rfl (fun a i h => by rcases h with h | h | h | h | h; exact Or.inr (Or.inr (Or.inl h)); exact Or.inr (Or.inr (Or.inr (Or.inr (Or.inr (Or.inl h))))); exact Or.inr (Or.inr (Or.inr (Or.inr (Or.inr (Or.inr (Or.inl h)))))); exact Or.inr (Or.inr (Or.inr (Or.inr (Or.inr (Or.inr (Or.inr (Or.inl h))))))); exact Or.inr (Or.inr (Or.inr (Or.inr (Or.inr (Or.inr (Or.inr (Or.inr (Or.inl h))))))))), by omega⟩) (fun v12 S11 hP => ?_)
  obtain ⟨G_S11, fS11, o13⟩ := hP
  have F_S11 := zz_fr.trans F_S7 fS11 rfl (fun a i h => by rcases h with h | h | h | h | h; exact Or.inr (Or.inr (Or.inl h)); exact Or.inr (Or.inr (Or.inr (Or.inr (Or.inr (Or.inl h))))); exact Or.inr (Or.inr (Or.inr (Or.inr (Or.inr (Or.inr (Or.inl h)))))); exact Or.inr (Or.inr (Or.inr (Or.inr (Or.inr (Or.inr (Or.inr (Or.inl h))))))); exact Or.inr (Or.inr (Or.inr (Or.inr (Or.inr (Or.inr (Or.inr (Or.inr (Or.inl h)))))))))
  exact zz_iret zd_1_21_27 rfl (Nat.le_of_ble_eq_true rfl) (Nat.le_of_ble_eq_true rfl) (Or.inl ⟨_, _, rfl, G_S11, F_S11, by omega⟩)
abbrev zy_form_1_22 : mm_Y := (⟨"TensorForge", "form", "(II)I"⟩, prog_1_method_22_code, 4, (some .int))
theorem zyw_form_1_22 : mm_Yw zy_form_1_22 2 := ⟨mm_tb_1 1395 (by decide +kernel) rfl, mm_tb_1 1 (by decide +kernel) rfl, ⟨by decide, by decide⟩, by decide +kernel⟩
theorem zd_1_22_0 : zz_D zy_form_1_22 0 (.aload_n 0) 1 1 := ⟨by decide +kernel, rfl⟩
theorem zd_1_22_1 : zz_D zy_form_1_22 1 (.getfield 10) 3 4 := ⟨by decide +kernel, rfl⟩
theorem zd_1_22_4 : zz_D zy_form_1_22 4 (.iload_n 1) 1 5 := ⟨by decide +kernel, rfl⟩
theorem zd_1_22_5 : zz_D zy_form_1_22 5 (.invokevirtual 251) 3 8 := ⟨by decide +kernel, rfl⟩
theorem zk_TF_251 : mm_Vl "TensorForge" 251 1 1 zy_has_7_5 := ⟨zyw_has_7_5, (R_Network, F_Network, 2), rfl, mm_tb_1 1396 (by decide +kernel) rfl, mm_tb_1 859 (by decide +kernel) rfl, mm_tb_1 860 (by decide +kernel) rfl⟩
theorem zd_1_22_8 : zz_B zy_form_1_22 8 (Instr.ifCond .ne) 21 11 := ⟨13, by decide +kernel, rfl, rfl⟩
theorem zt_1_22_11 : zz_Thr zy_form_1_22 11 101 254 105 := ⟨by decide +kernel, by decide +kernel, by decide +kernel, by decide +kernel, by decide +kernel⟩
theorem zd_1_22_21 : zz_D zy_form_1_22 21 (.iload_n 2) 1 22 := ⟨by decide +kernel, rfl⟩
theorem zd_1_22_22 : zz_B zy_form_1_22 22 (Instr.ifCond .lt) 30 25 := ⟨8, by decide +kernel, rfl, rfl⟩
theorem zt_1_22_30 : zz_ThrW zy_form_1_22 30 87 256 91 := ⟨by decide +kernel, by decide +kernel, by decide +kernel, by decide +kernel, by decide +kernel⟩
theorem zxl_TF_87_256_91 : mm_Xl "TensorForge" 87 256 91 0 := ⟨mm_tb_1 1048 (by decide +kernel) rfl, mm_tb_1 1049 (by decide +kernel) rfl, mm_tb_1 16 (by decide +kernel) rfl, ⟨54, by decide +kernel⟩, zxa_TF_91⟩
theorem zd_1_22_25 : zz_D zy_form_1_22 25 (.iload_n 2) 1 26 := ⟨by decide +kernel, rfl⟩
theorem zd_1_22_26 : zz_D zy_form_1_22 26 (.iconst 3) 1 27 := ⟨by decide +kernel, rfl⟩
theorem zd_1_22_27 : zz_B zy_form_1_22 27 (Instr.if_icmp .le) 41 30 := ⟨14, by decide +kernel, rfl, rfl⟩
theorem zd_1_22_41 : zz_D zy_form_1_22 41 (.aload_n 0) 1 42 := ⟨by decide +kernel, rfl⟩
theorem zd_1_22_42 : zz_D zy_form_1_22 42 (.getfield 10) 3 45 := ⟨by decide +kernel, rfl⟩
theorem zd_1_22_45 : zz_D zy_form_1_22 45 (.getfield 258) 3 48 := ⟨by decide +kernel, rfl⟩
theorem zf_TF_258 : mm_Fl "TensorForge" 258 1 0 (.array (.object "TensorForge$Layer")) true := ⟨R_Network, F_Network, 2, t_Network, rfl, i_Network, by decide, mm_tb_1 145 (by decide +kernel) rfl, rfl, t_Network_ok, n_Network, rfl, by decide +kernel⟩
theorem zd_1_22_48 : zz_D zy_form_1_22 48 (.iload_n 1) 1 49 := ⟨by decide +kernel, rfl⟩
theorem zd_1_22_49 : zz_D zy_form_1_22 49 (.aaload) 1 50 := ⟨by decide +kernel, rfl⟩
theorem zd_1_22_50 : zz_D zy_form_1_22 50 (.astore_n 3) 1 51 := ⟨by decide +kernel, rfl⟩
theorem zd_1_22_51 : zz_D zy_form_1_22 51 (.iload_n 2) 1 52 := ⟨by decide +kernel, rfl⟩
theorem zd_1_22_52 : zz_D zy_form_1_22 52 (.iconst 3) 1 53 := ⟨by decide +kernel, rfl⟩
theorem zd_1_22_53 : zz_B zy_form_1_22 53 (Instr.if_icmp .ne) 61 56 := ⟨8, by decide +kernel, rfl, rfl⟩
theorem zd_1_22_61 : zz_D zy_form_1_22 61 (.iload_n 2) 1 62 := ⟨by decide +kernel, rfl⟩
theorem zd_1_22_62 : zz_D zy_form_1_22 62 (.iconst 2) 1 63 := ⟨by decide +kernel, rfl⟩
theorem zd_1_22_63 : zz_B zy_form_1_22 63 (Instr.if_icmp .ne) 71 66 := ⟨8, by decide +kernel, rfl, rfl⟩
theorem zd_1_22_71 : zz_D zy_form_1_22 71 (.iload_n 2) 1 72 := ⟨by decide +kernel, rfl⟩
theorem zd_1_22_72 : zz_D zy_form_1_22 72 (.iconst 1) 1 73 := ⟨by decide +kernel, rfl⟩
theorem zd_1_22_73 : zz_B zy_form_1_22 73 (Instr.if_icmp .ne) 83 76 := ⟨10, by decide +kernel, rfl, rfl⟩
theorem zd_1_22_83 : zz_D zy_form_1_22 83 (.aload_n 3) 1 84 := ⟨by decide +kernel, rfl⟩
theorem zd_1_22_84 : zz_D zy_form_1_22 84 (.getfield 268) 3 87 := ⟨by decide +kernel, rfl⟩
theorem zf_TF_268 : mm_Fl "TensorForge" 268 2 10 .int false := ⟨R_Layer, F_Layer, 15, t_Layer, rfl, i_Layer, by decide, mm_tb_1 97 (by decide +kernel) rfl, rfl, t_Layer_ok, n_Layer, rfl, by decide +kernel⟩
theorem zd_1_22_87 : zz_D zy_form_1_22 87 (.ireturn) 1 88 := ⟨by decide +kernel, rfl⟩
theorem zd_1_22_76 : zz_D zy_form_1_22 76 (.aload_n 3) 1 77 := ⟨by decide +kernel, rfl⟩
theorem zd_1_22_77 : zz_D zy_form_1_22 77 (.getfield 265) 3 80 := ⟨by decide +kernel, rfl⟩
theorem zf_TF_265 : mm_Fl "TensorForge" 265 2 11 .int false := ⟨R_Layer, F_Layer, 15, t_Layer, rfl, i_Layer, by decide, mm_tb_1 101 (by decide +kernel) rfl, rfl, t_Layer_ok, n_Layer, rfl, by decide +kernel⟩
theorem zd_1_22_80 : zz_B zy_form_1_22 80 Instr.goto 87 83 := ⟨7, by decide +kernel, rfl, rfl⟩
theorem zd_1_22_66 : zz_D zy_form_1_22 66 (.aload_n 3) 1 67 := ⟨by decide +kernel, rfl⟩
theorem zd_1_22_67 : zz_D zy_form_1_22 67 (.getfield 241) 3 70 := ⟨by decide +kernel, rfl⟩
theorem zd_1_22_70 : zz_D zy_form_1_22 70 (.ireturn) 1 71 := ⟨by decide +kernel, rfl⟩
theorem zd_1_22_56 : zz_D zy_form_1_22 56 (.aload_n 3) 1 57 := ⟨by decide +kernel, rfl⟩
theorem zd_1_22_57 : zz_D zy_form_1_22 57 (.getfield 262) 3 60 := ⟨by decide +kernel, rfl⟩
theorem zf_TF_262 : mm_Fl "TensorForge" 262 2 13 .int false := ⟨R_Layer, F_Layer, 15, t_Layer, rfl, i_Layer, by decide, mm_tb_1 109 (by decide +kernel) rfl, rfl, t_Layer_ok, n_Layer, rfl, by decide +kernel⟩
theorem zd_1_22_60 : zz_D zy_form_1_22 60 (.ireturn) 1 61 := ⟨by decide +kernel, rfl⟩
-- TensorForge form (II)I
abbrev zr_form_1_22 : Room := { frames := 6, cells := 1, slots := 6, locals := 82 }
def zp_form_1_22 (p0 : Int) (p1 : Int) (S0 : zz_S) : Int → zz_S → Prop := fun r S => S0 = S ∧ ((-2147483648) ≤ r ∧ r ≤ 2147483647)
def zx_form_1_22 (p0 : Int) (p1 : Int) (S0 : zz_S) : Nat → zz_S → Prop := fun i S => S0 = S ∧ (i < 4)
theorem zc_form_1_22 {g : mm_G} {l : Launch} (p0 : Int) (p1 : Int) (S0 : zz_S) (n : Nat) (hn : zz_end ≤ n) (hfl : l.flags = flags0) (G_S0 : zz_G S0) (hp0 : (-2147483648) ≤ p0 ∧ p0 ≤ 2147483647) (hp1 : (-2147483648) ≤ p1 ∧ p1 ≤ 2147483647) : mm_Met g l zy_form_1_22 zr_form_1_22 [.ref 1000, zi p0, zi p1] (zz_M S0 n) n (zz_XI n (zp_form_1_22 p0 p1 S0) (zx_form_1_22 p0 p1 S0)) := by
  refine zz_enter (by decide) (Nat.le_of_ble_eq_true rfl) (zz_less (ls1 := [some (.ref 1000), some (zi p0), some (zi p1)]) ⟨rfl, ⟨rfl, ⟨rfl, trivial⟩⟩⟩ ?_)
  refine zz_aload_n (x := 1000) rfl zd_1_22_0 ?_
  have g1 := zz_G.r G_S0 1000 7 0 1 rfl rfl
  refine zz_getr (kd := 1) (z := S0 1000 7) zd_1_22_1 zf_TF_10 zT_1000 rfl (zz_ltn hn rfl) rfl (by omega) (zz_rf 3 (S0 1000 7)) rfl ?_
  refine zz_iload_n (x := p0) rfl zd_1_22_4 ?_
  refine zz_callVI [zi p0] zd_1_22_5 zk_TF_251 (zT_k3 (by omega)) (zN_k3 hn (by omega)) rfl rfl ⟨Nat.le_of_ble_eq_true rfl, Nat.le_of_ble_eq_true rfl⟩ ⟨rfl, rfl⟩ (Nat.zero_le _) (Nat.zero_le _) (zc_has_7_5 (S0 1000 7) p0 S0 n hn G_S0 (by omega) (by omega)) (fun v3 S2 hP => ?_)
  obtain ⟨rfl, o4⟩ := hP
  rcases (by omega : v3 = 0 ∨ v3 = 1) with rfl | rfl
  · refine zz_if_ne (by omega) zd_1_22_8 (fun c5 => ?_) (fun c5 => ?_)
    · exfalso; omega
    · exact zz_throw (i := 1) hfl hn zt_1_22_11 zyw_form_1_22 zxl_TF_101_254_105 (Nat.le_of_ble_eq_true rfl) (Nat.le_of_ble_eq_true rfl) ⟨Nat.le_of_ble_eq_true rfl, Nat.le_of_ble_eq_true rfl⟩ (Or.inr ⟨_, _, rfl, rfl, by omega⟩)
  · refine zz_if_ne (by omega) zd_1_22_8 (fun c6 => ?_) (fun c6 => ?_)
    · refine zz_iload_n (x := p1) rfl zd_1_22_21 ?_
      refine zz_if_lt (by omega) zd_1_22_22 (fun c7 => ?_) (fun c7 => ?_)
      · exact zz_throwW (i := 0) hfl hn zt_1_22_30 zyw_form_1_22 zxl_TF_87_256_91 (Nat.le_of_ble_eq_true rfl) (Nat.le_of_ble_eq_true rfl) ⟨Nat.le_of_ble_eq_true rfl, Nat.le_of_ble_eq_true rfl⟩ (Or.inr ⟨_, _, rfl, rfl, by omega⟩)
      · refine zz_iload_n (x := p1) rfl zd_1_22_25 ?_
        refine zz_iconst zd_1_22_26 ?_
        refine zz_icmp_le (by omega) (by omega) zd_1_22_27 (fun c8 => ?_) (fun c8 => ?_)
        · refine zz_aload_n (x := 1000) rfl zd_1_22_41 ?_
          refine zz_getr (kd := 1) (z := S0 1000 7) zd_1_22_42 zf_TF_10 zT_1000 rfl (zz_ltn hn rfl) rfl (by omega) (zz_rf 3 (S0 1000 7)) rfl ?_
          refine zz_getr (kd := 0) (z := ((zz_rf 3 (S0 1000 7) + 1 : Nat) : Int)) zd_1_22_45 zf_TF_258 (zT_k3 (by omega)) rfl (zN_k3 hn (by omega)) (zE_k3a G_S0 (by omega)) (Int.natCast_nonneg _) (zz_rf 3 (S0 1000 7) + 1) (Int.toNat_natCast _) ?_
          refine zz_iload_n (x := p0) rfl zd_1_22_48 ?_
          refine zz_aald (kd := 4) (z := 12 * (S0 1000 7) + p0) zd_1_22_49 (zT_k3a (by omega)) rfl (zN_k3a hn (by omega)) (by decide) (by omega) (zE_lay G_S0 (by omega) (by omega)) (by omega) (zz_rf 6 (12 * (S0 1000 7) + p0)) rfl ?_
          refine zz_astore_n [some (.ref 1000), some (zi p0), some (zi p1), some (.ref (zz_rf 6 (12 * (S0 1000 7) + p0)))] zd_1_22_50 (by decide) rfl ?_
          refine zz_iload_n (x := p1) rfl zd_1_22_51 ?_
          refine zz_iconst zd_1_22_52 ?_
          refine zz_icmp_ne (by omega) (by omega) zd_1_22_53 (fun c9 => ?_) (fun c9 => ?_)
          · refine zz_iload_n (x := p1) rfl zd_1_22_61 ?_
            refine zz_iconst zd_1_22_62 ?_
            refine zz_icmp_ne (by omega) (by omega) zd_1_22_63 (fun c10 => ?_) (fun c10 => ?_)
            · refine zz_iload_n (x := p1) rfl zd_1_22_71 ?_
              refine zz_iconst zd_1_22_72 ?_
              refine zz_icmp_ne (by omega) (by omega) zd_1_22_73 (fun c11 => ?_) (fun c11 => ?_)
              · refine zz_aload_n (x := zz_rf 6 (12 * (S0 1000 7) + p0)) rfl zd_1_22_83 ?_
                have g12 := zz_G.r G_S0 (zz_rf 6 (12 * (S0 1000 7) + p0)) 10 (-2147483648) 2147483647 (zR_k6_10 (by omega)) (zB_k6 (by omega))
                refine zz_geti (z := S0 (zz_rf 6 (12 * (S0 1000 7) + p0)) 10) zd_1_22_84 zf_TF_268 (zT_k6 (by omega)) rfl (zN_k6 hn (by omega)) rfl ?_
                exact zz_iret zd_1_22_87 rfl (Nat.le_of_ble_eq_true rfl) (Nat.le_of_ble_eq_true rfl) (Or.inl ⟨_, _, rfl, rfl, by omega⟩)
              · refine zz_aload_n (x := zz_rf 6 (12 * (S0 1000 7) + p0)) rfl zd_1_22_76 ?_
                have g13 := zz_G.r G_S0 (zz_rf 6 (12 * (S0 1000 7) + p0)) 11 (-2147483648) 2147483647 (zR_k6_11 (by omega)) (zB_k6 (by omega))
                refine zz_geti (z := S0 (zz_rf 6 (12 * (S0 1000 7) + p0)) 11) zd_1_22_77 zf_TF_265 (zT_k6 (by omega)) rfl (zN_k6 hn (by omega)) rfl ?_
                refine zz_goto zd_1_22_80 ?_
                exact zz_iret zd_1_22_87 rfl (Nat.le_of_ble_eq_true rfl) (Nat.le_of_ble_eq_true rfl) (Or.inl ⟨_, _, rfl, rfl, by omega⟩)
            · refine zz_aload_n (x := zz_rf 6 (12 * (S0 1000 7) + p0)) rfl zd_1_22_66 ?_
              have g14 := zz_G.r G_S0 (zz_rf 6 (12 * (S0 1000 7) + p0)) 12 (-2147483648) 2147483647 (zR_k6_12 (by omega)) (zB_k6 (by omega))
              refine zz_geti (z := S0 (zz_rf 6 (12 * (S0 1000 7) + p0)) 12) zd_1_22_67 zf_TF_241 (zT_k6 (by omega)) rfl (zN_k6 hn (by omega)) rfl ?_
              exact zz_iret zd_1_22_70 rfl (Nat.le_of_ble_eq_true rfl) (Nat.le_of_ble_eq_true rfl) (Or.inl ⟨_, _, rfl, rfl, by omega⟩)
          · refine zz_aload_n (x := zz_rf 6 (12 * (S0 1000 7) + p0)) rfl zd_1_22_56 ?_
            have g15 := zz_G.r G_S0 (zz_rf 6 (12 * (S0 1000 7) + p0)) 13 (-2147483648) 2147483647 (zR_k6_13 (by omega)) (zB_k6 (by omega))
            refine zz_geti (z := S0 (zz_rf 6 (12 * (S0 1000 7) + p0)) 13) zd_1_22_57 zf_TF_262 (zT_k6 (by omega)) rfl (zN_k6 hn (by omega)) rfl ?_
            exact zz_iret zd_1_22_60 rfl (Nat.le_of_ble_eq_true rfl) (Nat.le_of_ble_eq_true rfl) (Or.inl ⟨_, _, rfl, rfl, by omega⟩)
        · exact zz_throwW (i := 0) hfl hn zt_1_22_30 zyw_form_1_22 zxl_TF_87_256_91 (Nat.le_of_ble_eq_true rfl) (Nat.le_of_ble_eq_true rfl) ⟨Nat.le_of_ble_eq_true rfl, Nat.le_of_ble_eq_true rfl⟩ (Or.inr ⟨_, _, rfl, rfl, by omega⟩)
    · exfalso; omega
abbrev zy_reckon_1_24 : mm_Y := (⟨"TensorForge", "reckon", "()V"⟩, prog_1_method_24_code, 1, none)
theorem zyw_reckon_1_24 : mm_Yw zy_reckon_1_24 0 := ⟨mm_tb_1 853 (by decide +kernel) rfl, mm_tb_1 1 (by decide +kernel) rfl, ⟨by decide, by decide⟩, by decide +kernel⟩
theorem zd_1_24_0 : zz_D zy_reckon_1_24 0 (.aload_n 0) 1 1 := ⟨by decide +kernel, rfl⟩
theorem zd_1_24_1 : zz_D zy_reckon_1_24 1 (.getfield 10) 3 4 := ⟨by decide +kernel, rfl⟩
theorem zd_1_24_4 : zz_D zy_reckon_1_24 4 (.aload_n 0) 1 5 := ⟨by decide +kernel, rfl⟩
theorem zd_1_24_5 : zz_D zy_reckon_1_24 5 (.getfield 33) 3 8 := ⟨by decide +kernel, rfl⟩
theorem zd_1_24_8 : zz_D zy_reckon_1_24 8 (.getfield 288) 3 11 := ⟨by decide +kernel, rfl⟩
theorem zf_TF_288 : mm_Fl "TensorForge" 288 3 0 (.array .byte) true := ⟨R_Machine, F_Machine, 14, t_Machine, rfl, i_Machine, by decide, mm_tb_1 185 (by decide +kernel) rfl, rfl, t_Machine_ok, n_Machine, rfl, by decide +kernel⟩
theorem zd_1_24_11 : zz_D zy_reckon_1_24 11 (.invokevirtual 292) 3 14 := ⟨by decide +kernel, rfl⟩
abbrev zy_settle_7_9 : mm_Y := (⟨"TensorForge$Network", "settle", "([B)V"⟩, prog_7_method_9_code, 4, none)
theorem zyw_settle_7_9 : mm_Yw zy_settle_7_9 1 := ⟨mm_tb_1 857 (by decide +kernel) rfl, mm_tb_1 2 (by decide +kernel) rfl, ⟨by decide, by decide⟩, by decide +kernel⟩
theorem zd_7_9_0 : zz_D zy_settle_7_9 0 (.iconst 1) 1 1 := ⟨by decide +kernel, rfl⟩
theorem zd_7_9_1 : zz_D zy_settle_7_9 1 (.istore_n 2) 1 2 := ⟨by decide +kernel, rfl⟩
theorem zd_7_9_2 : zz_D zy_settle_7_9 2 (.iload_n 2) 1 3 := ⟨by decide +kernel, rfl⟩
theorem zd_7_9_3 : zz_D zy_settle_7_9 3 (.aload_n 0) 1 4 := ⟨by decide +kernel, rfl⟩
theorem zd_7_9_4 : zz_D zy_settle_7_9 4 (.getfield 16) 3 7 := ⟨by decide +kernel, rfl⟩
theorem zd_7_9_7 : zz_B zy_settle_7_9 7 (Instr.if_icmp .ge) 68 10 := ⟨61, by decide +kernel, rfl, rfl⟩
theorem zd_7_9_68 : zz_D zy_settle_7_9 68 (.return_) 1 69 := ⟨by decide +kernel, rfl⟩
theorem zd_7_9_10 : zz_D zy_settle_7_9 10 (.aload_n 0) 1 11 := ⟨by decide +kernel, rfl⟩
theorem zd_7_9_11 : zz_D zy_settle_7_9 11 (.getfield 11) 3 14 := ⟨by decide +kernel, rfl⟩
theorem zd_7_9_14 : zz_D zy_settle_7_9 14 (.iload_n 2) 1 15 := ⟨by decide +kernel, rfl⟩
theorem zd_7_9_15 : zz_D zy_settle_7_9 15 (.aaload) 1 16 := ⟨by decide +kernel, rfl⟩
theorem zd_7_9_16 : zz_D zy_settle_7_9 16 (.astore_n 3) 1 17 := ⟨by decide +kernel, rfl⟩
theorem zd_7_9_17 : zz_D zy_settle_7_9 17 (.aload_n 0) 1 18 := ⟨by decide +kernel, rfl⟩
theorem zd_7_9_18 : zz_D zy_settle_7_9 18 (.aload_n 3) 1 19 := ⟨by decide +kernel, rfl⟩
theorem zd_7_9_19 : zz_D zy_settle_7_9 19 (.getfield 38) 3 22 := ⟨by decide +kernel, rfl⟩
theorem zd_7_9_22 : zz_D zy_settle_7_9 22 (.invokevirtual 41) 3 25 := ⟨by decide +kernel, rfl⟩
theorem zd_7_9_25 : zz_B zy_settle_7_9 25 (Instr.ifCond .eq) 62 28 := ⟨37, by decide +kernel, rfl, rfl⟩
theorem zd_7_9_62 : zz_D zy_settle_7_9 62 (.iinc 2 1) 3 65 := ⟨by decide +kernel, rfl⟩
theorem zd_7_9_65 : zz_B zy_settle_7_9 65 Instr.goto 2 68 := ⟨(-63), by decide +kernel, rfl, rfl⟩
theorem zd_7_9_28 : zz_D zy_settle_7_9 28 (.aload_n 0) 1 29 := ⟨by decide +kernel, rfl⟩
theorem zd_7_9_29 : zz_D zy_settle_7_9 29 (.aload_n 3) 1 30 := ⟨by decide +kernel, rfl⟩
theorem zd_7_9_30 : zz_D zy_settle_7_9 30 (.getfield 45) 3 33 := ⟨by decide +kernel, rfl⟩
theorem zd_7_9_33 : zz_D zy_settle_7_9 33 (.invokevirtual 41) 3 36 := ⟨by decide +kernel, rfl⟩
theorem zd_7_9_36 : zz_B zy_settle_7_9 36 (Instr.ifCond .eq) 62 39 := ⟨26, by decide +kernel, rfl, rfl⟩
theorem zd_7_9_39 : zz_D zy_settle_7_9 39 (.aload_n 3) 1 40 := ⟨by decide +kernel, rfl⟩
theorem zd_7_9_40 : zz_D zy_settle_7_9 40 (.aload_n 1) 1 41 := ⟨by decide +kernel, rfl⟩
theorem zd_7_9_41 : zz_D zy_settle_7_9 41 (.aload_n 0) 1 42 := ⟨by decide +kernel, rfl⟩
theorem zd_7_9_42 : zz_D zy_settle_7_9 42 (.getfield 11) 3 45 := ⟨by decide +kernel, rfl⟩
theorem zd_7_9_45 : zz_D zy_settle_7_9 45 (.aload_n 3) 1 46 := ⟨by decide +kernel, rfl⟩
theorem zd_7_9_46 : zz_D zy_settle_7_9 46 (.getfield 38) 3 49 := ⟨by decide +kernel, rfl⟩
theorem zd_7_9_49 : zz_D zy_settle_7_9 49 (.aaload) 1 50 := ⟨by decide +kernel, rfl⟩
theorem zd_7_9_50 : zz_D zy_settle_7_9 50 (.aload_n 0) 1 51 := ⟨by decide +kernel, rfl⟩
theorem zd_7_9_51 : zz_D zy_settle_7_9 51 (.getfield 11) 3 54 := ⟨by decide +kernel, rfl⟩
theorem zd_7_9_54 : zz_D zy_settle_7_9 54 (.aload_n 3) 1 55 := ⟨by decide +kernel, rfl⟩
theorem zd_7_9_55 : zz_D zy_settle_7_9 55 (.getfield 45) 3 58 := ⟨by decide +kernel, rfl⟩
theorem zd_7_9_58 : zz_D zy_settle_7_9 58 (.aaload) 1 59 := ⟨by decide +kernel, rfl⟩
theorem zd_7_9_59 : zz_D zy_settle_7_9 59 (.invokevirtual 72) 3 62 := ⟨by decide +kernel, rfl⟩
abbrev zy_fillCells_4_18 : mm_Y := (⟨"TensorForge$Layer", "fillCells", "([BLTensorForge$Layer;LTensorForge$Layer;)V"⟩, prog_4_method_18_code, 8, none)
theorem zyw_fillCells_4_18 : mm_Yw zy_fillCells_4_18 3 := ⟨mm_tb_1 865 (by decide +kernel) rfl, mm_tb_1 3 (by decide +kernel) rfl, ⟨by decide, by decide⟩, by decide +kernel⟩
theorem zd_4_18_0 : zz_D zy_fillCells_4_18 0 (.iconst 0) 1 1 := ⟨by decide +kernel, rfl⟩
theorem zd_4_18_1 : zz_D zy_fillCells_4_18 1 (.istore 4) 2 3 := ⟨by decide +kernel, rfl⟩
theorem zd_4_18_3 : zz_D zy_fillCells_4_18 3 (.iload 4) 2 5 := ⟨by decide +kernel, rfl⟩
theorem zd_4_18_5 : zz_D zy_fillCells_4_18 5 (.aload_n 0) 1 6 := ⟨by decide +kernel, rfl⟩
theorem zd_4_18_6 : zz_D zy_fillCells_4_18 6 (.getfield 54) 3 9 := ⟨by decide +kernel, rfl⟩
theorem zd_4_18_9 : zz_B zy_fillCells_4_18 9 (Instr.if_icmp .ge) 102 12 := ⟨93, by decide +kernel, rfl, rfl⟩
theorem zd_4_18_102 : zz_D zy_fillCells_4_18 102 (.return_) 1 103 := ⟨by decide +kernel, rfl⟩
theorem zd_4_18_12 : zz_D zy_fillCells_4_18 12 (.iconst 0) 1 13 := ⟨by decide +kernel, rfl⟩
theorem zd_4_18_13 : zz_D zy_fillCells_4_18 13 (.istore 5) 2 15 := ⟨by decide +kernel, rfl⟩
theorem zd_4_18_15 : zz_D zy_fillCells_4_18 15 (.iload 5) 2 17 := ⟨by decide +kernel, rfl⟩
theorem zd_4_18_17 : zz_D zy_fillCells_4_18 17 (.aload_n 0) 1 18 := ⟨by decide +kernel, rfl⟩
theorem zd_4_18_18 : zz_D zy_fillCells_4_18 18 (.getfield 57) 3 21 := ⟨by decide +kernel, rfl⟩
theorem zd_4_18_21 : zz_B zy_fillCells_4_18 21 (Instr.if_icmp .ge) 96 24 := ⟨75, by decide +kernel, rfl, rfl⟩
theorem zd_4_18_96 : zz_D zy_fillCells_4_18 96 (.iinc 4 1) 3 99 := ⟨by decide +kernel, rfl⟩
theorem zd_4_18_99 : zz_B zy_fillCells_4_18 99 Instr.goto 3 102 := ⟨(-96), by decide +kernel, rfl, rfl⟩
theorem zd_4_18_24 : zz_D zy_fillCells_4_18 24 (.iconst 0) 1 25 := ⟨by decide +kernel, rfl⟩
theorem zd_4_18_25 : zz_D zy_fillCells_4_18 25 (.istore 6) 2 27 := ⟨by decide +kernel, rfl⟩
theorem zd_4_18_27 : zz_D zy_fillCells_4_18 27 (.iload 6) 2 29 := ⟨by decide +kernel, rfl⟩
theorem zd_4_18_29 : zz_D zy_fillCells_4_18 29 (.aload_n 0) 1 30 := ⟨by decide +kernel, rfl⟩
theorem zd_4_18_30 : zz_D zy_fillCells_4_18 30 (.getfield 60) 3 33 := ⟨by decide +kernel, rfl⟩
theorem zd_4_18_33 : zz_B zy_fillCells_4_18 33 (Instr.if_icmp .ge) 90 36 := ⟨57, by decide +kernel, rfl, rfl⟩
theorem zd_4_18_90 : zz_D zy_fillCells_4_18 90 (.iinc 5 1) 3 93 := ⟨by decide +kernel, rfl⟩
theorem zd_4_18_93 : zz_B zy_fillCells_4_18 93 Instr.goto 15 96 := ⟨(-78), by decide +kernel, rfl, rfl⟩
theorem zd_4_18_36 : zz_D zy_fillCells_4_18 36 (.aload_n 0) 1 37 := ⟨by decide +kernel, rfl⟩
theorem zd_4_18_37 : zz_D zy_fillCells_4_18 37 (.iload 4) 2 39 := ⟨by decide +kernel, rfl⟩
theorem zd_4_18_39 : zz_D zy_fillCells_4_18 39 (.iload 5) 2 41 := ⟨by decide +kernel, rfl⟩
theorem zd_4_18_41 : zz_D zy_fillCells_4_18 41 (.iload 6) 2 43 := ⟨by decide +kernel, rfl⟩
theorem zd_4_18_43 : zz_D zy_fillCells_4_18 43 (.invokevirtual 75) 3 46 := ⟨by decide +kernel, rfl⟩
abbrev zy_cellAt_4_15 : mm_Y := (⟨"TensorForge$Layer", "cellAt", "(III)I"⟩, prog_4_method_15_code, 4, (some .int))
theorem zyw_cellAt_4_15 : mm_Yw zy_cellAt_4_15 3 := ⟨mm_tb_1 869 (by decide +kernel) rfl, mm_tb_1 3 (by decide +kernel) rfl, ⟨by decide, by decide⟩, by decide +kernel⟩
theorem zd_4_15_0 : zz_D zy_cellAt_4_15 0 (.aload_n 0) 1 1 := ⟨by decide +kernel, rfl⟩
theorem zd_4_15_1 : zz_D zy_cellAt_4_15 1 (.getfield 48) 3 4 := ⟨by decide +kernel, rfl⟩
theorem zd_4_15_4 : zz_D zy_cellAt_4_15 4 (.iload_n 1) 1 5 := ⟨by decide +kernel, rfl⟩
theorem zd_4_15_5 : zz_D zy_cellAt_4_15 5 (.aload_n 0) 1 6 := ⟨by decide +kernel, rfl⟩
theorem zd_4_15_6 : zz_D zy_cellAt_4_15 6 (.getfield 57) 3 9 := ⟨by decide +kernel, rfl⟩
theorem zd_4_15_9 : zz_D zy_cellAt_4_15 9 (.imul) 1 10 := ⟨by decide +kernel, rfl⟩
theorem zd_4_15_10 : zz_D zy_cellAt_4_15 10 (.iload_n 2) 1 11 := ⟨by decide +kernel, rfl⟩
theorem zd_4_15_11 : zz_D zy_cellAt_4_15 11 (.iadd) 1 12 := ⟨by decide +kernel, rfl⟩
theorem zd_4_15_12 : zz_D zy_cellAt_4_15 12 (.aload_n 0) 1 13 := ⟨by decide +kernel, rfl⟩
theorem zd_4_15_13 : zz_D zy_cellAt_4_15 13 (.getfield 60) 3 16 := ⟨by decide +kernel, rfl⟩
theorem zd_4_15_16 : zz_D zy_cellAt_4_15 16 (.imul) 1 17 := ⟨by decide +kernel, rfl⟩
theorem zd_4_15_17 : zz_D zy_cellAt_4_15 17 (.iadd) 1 18 := ⟨by decide +kernel, rfl⟩
theorem zd_4_15_18 : zz_D zy_cellAt_4_15 18 (.iload_n 3) 1 19 := ⟨by decide +kernel, rfl⟩
theorem zd_4_15_19 : zz_D zy_cellAt_4_15 19 (.iadd) 1 20 := ⟨by decide +kernel, rfl⟩
theorem zd_4_15_20 : zz_D zy_cellAt_4_15 20 (.ireturn) 1 21 := ⟨by decide +kernel, rfl⟩
-- TensorForge$Layer cellAt (III)I
abbrev zr_cellAt_4_15 : Room := { frames := 0, cells := 0, slots := 0, locals := 0 }
def zp_cellAt_4_15 (t : Int) (p0 : Int) (p1 : Int) (p2 : Int) (S0 : zz_S) : Int → zz_S → Prop := fun r S => S0 = S ∧ ((-2147483648) ≤ r ∧ r ≤ 2147483647)
theorem zc_cellAt_4_15 {g : mm_G} {l : Launch} (t : Int) (p0 : Int) (p1 : Int) (p2 : Int) (S0 : zz_S) (n : Nat) (hn : zz_end ≤ n) (G_S0 : zz_G S0) (ht : 0 ≤ t ∧ t ≤ 23) (hp0 : (-2147483648) ≤ p0 ∧ p0 ≤ 2147483647) (hp1 : (-2147483648) ≤ p1 ∧ p1 ≤ 2147483647) (hp2 : (-2147483648) ≤ p2 ∧ p2 ≤ 2147483647) : mm_Met g l zy_cellAt_4_15 zr_cellAt_4_15 [.ref (zz_rf 6 t), zi p0, zi p1, zi p2] (zz_M S0 n) n (zz_QI n (zp_cellAt_4_15 t p0 p1 p2 S0)) := by
  refine zz_enter (by decide) (Nat.le_of_ble_eq_true rfl) (zz_less (ls1 := [some (.ref (zz_rf 6 t)), some (zi p0), some (zi p1), some (zi p2)]) ⟨rfl, ⟨rfl, ⟨rfl, ⟨rfl, trivial⟩⟩⟩⟩ ?_)
  have b_t := zz_rf6 (z := t) (by omega)
  refine zz_aload_n (x := zz_rf 6 t) rfl zd_4_15_0 ?_
  have g1 := zz_G.r G_S0 (zz_rf 6 t) 13 (-2147483648) 2147483647 (zR_k6_13 (by omega)) (zB_k6 (by omega))
  refine zz_geti (z := S0 (zz_rf 6 t) 13) zd_4_15_1 zf_Layer_48 (zT_k6 (by omega)) rfl (zN_k6 hn (by omega)) rfl ?_
  refine zz_iload_n (x := p0) rfl zd_4_15_4 ?_
  refine zz_aload_n (x := zz_rf 6 t) rfl zd_4_15_5 ?_
  have g2 := zz_G.r G_S0 (zz_rf 6 t) 11 (-2147483648) 2147483647 (zR_k6_11 (by omega)) (zB_k6 (by omega))
  refine zz_geti (z := S0 (zz_rf 6 t) 11) zd_4_15_6 zf_Layer_57 (zT_k6 (by omega)) rfl (zN_k6 hn (by omega)) rfl ?_
  refine zz_imul zd_4_15_9 ?_
  refine zz_nrm (fun v3 hv3 ev3 => ?_)
  refine zz_iload_n (x := p1) rfl zd_4_15_10 ?_
  refine zz_iadd zd_4_15_11 ?_
  refine zz_nrm (fun v4 hv4 ev4 => ?_)
  refine zz_aload_n (x := zz_rf 6 t) rfl zd_4_15_12 ?_
  have g5 := zz_G.r G_S0 (zz_rf 6 t) 12 (-2147483648) 2147483647 (zR_k6_12 (by omega)) (zB_k6 (by omega))
  refine zz_geti (z := S0 (zz_rf 6 t) 12) zd_4_15_13 zf_Layer_60 (zT_k6 (by omega)) rfl (zN_k6 hn (by omega)) rfl ?_
  refine zz_imul zd_4_15_16 ?_
  refine zz_nrm (fun v6 hv6 ev6 => ?_)
  refine zz_iadd zd_4_15_17 ?_
  refine zz_nrm (fun v7 hv7 ev7 => ?_)
  refine zz_iload_n (x := p2) rfl zd_4_15_18 ?_
  refine zz_iadd zd_4_15_19 ?_
  refine zz_nrm (fun v8 hv8 ev8 => ?_)
  exact zz_iret zd_4_15_20 rfl (Nat.zero_le _) (Nat.zero_le _) ⟨_, _, rfl, rfl, by omega⟩
theorem zk_Layer_75 : mm_Vl "TensorForge$Layer" 75 2 3 zy_cellAt_4_15 := ⟨zyw_cellAt_4_15, (R_Layer, F_Layer, 15), rfl, mm_tb_1 866 (by decide +kernel) rfl, mm_tb_1 867 (by decide +kernel) rfl, mm_tb_1 868 (by decide +kernel) rfl⟩
theorem zd_4_18_46 : zz_D zy_fillCells_4_18 46 (.istore 7) 2 48 := ⟨by decide +kernel, rfl⟩
theorem zd_4_18_48 : zz_D zy_fillCells_4_18 48 (.iload 7) 2 50 := ⟨by decide +kernel, rfl⟩
theorem zd_4_18_50 : zz_B zy_fillCells_4_18 50 (Instr.ifCond .lt) 84 53 := ⟨34, by decide +kernel, rfl, rfl⟩
theorem zd_4_18_84 : zz_D zy_fillCells_4_18 84 (.iinc 6 1) 3 87 := ⟨by decide +kernel, rfl⟩
theorem zd_4_18_87 : zz_B zy_fillCells_4_18 87 Instr.goto 27 90 := ⟨(-60), by decide +kernel, rfl, rfl⟩
theorem zd_4_18_53 : zz_D zy_fillCells_4_18 53 (.iload 7) 2 55 := ⟨by decide +kernel, rfl⟩
theorem zd_4_18_55 : zz_D zy_fillCells_4_18 55 (.aload_n 1) 1 56 := ⟨by decide +kernel, rfl⟩
theorem zd_4_18_56 : zz_D zy_fillCells_4_18 56 (.arraylength) 1 57 := ⟨by decide +kernel, rfl⟩
theorem zd_4_18_57 : zz_B zy_fillCells_4_18 57 (Instr.if_icmp .ge) 84 60 := ⟨27, by decide +kernel, rfl, rfl⟩
theorem zd_4_18_60 : zz_D zy_fillCells_4_18 60 (.aload_n 1) 1 61 := ⟨by decide +kernel, rfl⟩
theorem zd_4_18_61 : zz_D zy_fillCells_4_18 61 (.iload 7) 2 63 := ⟨by decide +kernel, rfl⟩
theorem zd_4_18_63 : zz_D zy_fillCells_4_18 63 (.aload_n 0) 1 64 := ⟨by decide +kernel, rfl⟩
theorem zd_4_18_64 : zz_D zy_fillCells_4_18 64 (.aload_n 1) 1 65 := ⟨by decide +kernel, rfl⟩
theorem zd_4_18_65 : zz_D zy_fillCells_4_18 65 (.aload_n 2) 1 66 := ⟨by decide +kernel, rfl⟩
theorem zd_4_18_66 : zz_D zy_fillCells_4_18 66 (.aload_n 3) 1 67 := ⟨by decide +kernel, rfl⟩
theorem zd_4_18_67 : zz_D zy_fillCells_4_18 67 (.iload 4) 2 69 := ⟨by decide +kernel, rfl⟩
theorem zd_4_18_69 : zz_D zy_fillCells_4_18 69 (.iload 5) 2 71 := ⟨by decide +kernel, rfl⟩
theorem zd_4_18_71 : zz_D zy_fillCells_4_18 71 (.iload 6) 2 73 := ⟨by decide +kernel, rfl⟩
theorem zd_4_18_73 : zz_D zy_fillCells_4_18 73 (.invokevirtual 79) 3 76 := ⟨by decide +kernel, rfl⟩
abbrev zy_sumOf_4_19 : mm_Y := (⟨"TensorForge$Layer", "sumOf", "([BLTensorForge$Layer;LTensorForge$Layer;III)I"⟩, prog_4_method_19_code, 7, (some .int))
theorem zyw_sumOf_4_19 : mm_Yw zy_sumOf_4_19 6 := ⟨mm_tb_1 873 (by decide +kernel) rfl, mm_tb_1 3 (by decide +kernel) rfl, ⟨by decide, by decide⟩, by decide +kernel⟩
theorem zd_4_19_0 : zz_D zy_sumOf_4_19 0 (.aload_n 0) 1 1 := ⟨by decide +kernel, rfl⟩
theorem zd_4_19_1 : zz_D zy_sumOf_4_19 1 (.getfield 13) 3 4 := ⟨by decide +kernel, rfl⟩
theorem zd_4_19_4 : zz_D zy_sumOf_4_19 4 (.iconst 1) 1 5 := ⟨by decide +kernel, rfl⟩
theorem zd_4_19_5 : zz_B zy_sumOf_4_19 5 (Instr.if_icmp .ne) 21 8 := ⟨16, by decide +kernel, rfl, rfl⟩
theorem zd_4_19_21 : zz_D zy_sumOf_4_19 21 (.aload_n 0) 1 22 := ⟨by decide +kernel, rfl⟩
theorem zd_4_19_22 : zz_D zy_sumOf_4_19 22 (.getfield 13) 3 25 := ⟨by decide +kernel, rfl⟩
theorem zd_4_19_25 : zz_D zy_sumOf_4_19 25 (.iconst 2) 1 26 := ⟨by decide +kernel, rfl⟩
theorem zd_4_19_26 : zz_B zy_sumOf_4_19 26 (Instr.if_icmp .ne) 42 29 := ⟨16, by decide +kernel, rfl, rfl⟩
theorem zd_4_19_42 : zz_D zy_sumOf_4_19 42 (.aload_n 1) 1 43 := ⟨by decide +kernel, rfl⟩
theorem zd_4_19_43 : zz_D zy_sumOf_4_19 43 (.aload_n 2) 1 44 := ⟨by decide +kernel, rfl⟩
theorem zd_4_19_44 : zz_D zy_sumOf_4_19 44 (.iload 4) 2 46 := ⟨by decide +kernel, rfl⟩
theorem zd_4_19_46 : zz_D zy_sumOf_4_19 46 (.iload 5) 2 48 := ⟨by decide +kernel, rfl⟩
theorem zd_4_19_48 : zz_D zy_sumOf_4_19 48 (.iload 6) 2 50 := ⟨by decide +kernel, rfl⟩
theorem zd_4_19_50 : zz_D zy_sumOf_4_19 50 (.invokevirtual 75) 3 53 := ⟨by decide +kernel, rfl⟩
theorem zd_4_19_53 : zz_D zy_sumOf_4_19 53 (.invokestatic 98) 3 56 := ⟨by decide +kernel, rfl⟩
abbrev zy_byteAt_4_17 : mm_Y := (⟨"TensorForge$Layer", "byteAt", "([BI)I"⟩, prog_4_method_17_code, 2, (some .int))
theorem zyw_byteAt_4_17 : mm_Yw zy_byteAt_4_17 2 := ⟨mm_tb_1 897 (by decide +kernel) rfl, mm_tb_1 3 (by decide +kernel) rfl, ⟨by decide, by decide⟩, by decide +kernel⟩
theorem zd_4_17_0 : zz_D zy_byteAt_4_17 0 (.iload_n 1) 1 1 := ⟨by decide +kernel, rfl⟩
theorem zd_4_17_1 : zz_B zy_byteAt_4_17 1 (Instr.ifCond .lt) 10 4 := ⟨9, by decide +kernel, rfl, rfl⟩
theorem zd_4_17_10 : zz_D zy_byteAt_4_17 10 (.iconst 0) 1 11 := ⟨by decide +kernel, rfl⟩
theorem zd_4_17_11 : zz_B zy_byteAt_4_17 11 Instr.goto 17 14 := ⟨6, by decide +kernel, rfl, rfl⟩
theorem zd_4_17_17 : zz_D zy_byteAt_4_17 17 (.ireturn) 1 18 := ⟨by decide +kernel, rfl⟩
theorem zd_4_17_4 : zz_D zy_byteAt_4_17 4 (.iload_n 1) 1 5 := ⟨by decide +kernel, rfl⟩
theorem zd_4_17_5 : zz_D zy_byteAt_4_17 5 (.aload_n 0) 1 6 := ⟨by decide +kernel, rfl⟩
theorem zd_4_17_6 : zz_D zy_byteAt_4_17 6 (.arraylength) 1 7 := ⟨by decide +kernel, rfl⟩
theorem zd_4_17_7 : zz_B zy_byteAt_4_17 7 (Instr.if_icmp .lt) 14 10 := ⟨7, by decide +kernel, rfl, rfl⟩
theorem zd_4_17_14 : zz_D zy_byteAt_4_17 14 (.aload_n 0) 1 15 := ⟨by decide +kernel, rfl⟩
theorem zd_4_17_15 : zz_D zy_byteAt_4_17 15 (.iload_n 1) 1 16 := ⟨by decide +kernel, rfl⟩
theorem zd_4_17_16 : zz_D zy_byteAt_4_17 16 (.baload) 1 17 := ⟨by decide +kernel, rfl⟩
-- TensorForge$Layer byteAt ([BI)I
abbrev zr_byteAt_4_17 : Room := { frames := 0, cells := 0, slots := 0, locals := 0 }
def zp_byteAt_4_17 (p1 : Int) (S0 : zz_S) : Int → zz_S → Prop := fun r S => S0 = S ∧ ((-2147483648) ≤ r ∧ r ≤ 2147483647)
theorem zc_byteAt_4_17 {g : mm_G} {l : Launch} (p1 : Int) (S0 : zz_S) (n : Nat) (hn : zz_end ≤ n) (G_S0 : zz_G S0) (hp1 : (-2147483648) ≤ p1 ∧ p1 ≤ 2147483647) : mm_Met g l zy_byteAt_4_17 zr_byteAt_4_17 [.ref 1032, zi p1] (zz_M S0 n) n (zz_QI n (zp_byteAt_4_17 p1 S0)) := by
  refine zz_enter (by decide) (Nat.le_of_ble_eq_true rfl) (zz_less (ls1 := [some (.ref 1032), some (zi p1)]) ⟨rfl, ⟨rfl, trivial⟩⟩ ?_)
  refine zz_iload_n (x := p1) rfl zd_4_17_0 ?_
  refine zz_if_lt (by omega) zd_4_17_1 (fun c1 => ?_) (fun c1 => ?_)
  · refine zz_iconst zd_4_17_10 ?_
    refine zz_goto zd_4_17_11 ?_
    exact zz_iret zd_4_17_17 rfl (Nat.zero_le _) (Nat.zero_le _) ⟨_, _, rfl, rfl, by omega⟩
  · refine zz_iload_n (x := p1) rfl zd_4_17_4 ?_
    refine zz_aload_n (x := 1032) rfl zd_4_17_5 ?_
    refine zz_alen zd_4_17_6 zT_1032 rfl (zz_ltn hn rfl) ?_
    refine zz_icmp_lt (by omega) (by omega) zd_4_17_7 (fun c2 => ?_) (fun c2 => ?_)
    · refine zz_aload_n (x := 1032) rfl zd_4_17_14 ?_
      refine zz_iload_n (x := p1) rfl zd_4_17_15 ?_
      have g3 := zz_G.r G_S0 1032 p1.toNat (-128) 127 rfl rfl
      refine zz_bald (z := S0 1032 p1.toNat) zd_4_17_16 zT_1032 rfl (zz_ltn hn rfl) (by decide) (by omega) rfl ?_
      exact zz_iret zd_4_17_17 rfl (Nat.zero_le _) (Nat.zero_le _) ⟨_, _, rfl, rfl, by omega⟩
    · refine zz_iconst zd_4_17_10 ?_
      refine zz_goto zd_4_17_11 ?_
      exact zz_iret zd_4_17_17 rfl (Nat.zero_le _) (Nat.zero_le _) ⟨_, _, rfl, rfl, by omega⟩
theorem zk_Layer_98 : mm_Sl "TensorForge$Layer" 98 2 zy_byteAt_4_17 := ⟨zyw_byteAt_4_17, mm_tb_1 895 (by decide +kernel) rfl, mm_tb_1 896 (by decide +kernel) rfl⟩
theorem zd_4_19_56 : zz_D zy_sumOf_4_19 56 (.aload_n 1) 1 57 := ⟨by decide +kernel, rfl⟩
theorem zd_4_19_57 : zz_D zy_sumOf_4_19 57 (.aload_n 3) 1 58 := ⟨by decide +kernel, rfl⟩
theorem zd_4_19_58 : zz_D zy_sumOf_4_19 58 (.iload 4) 2 60 := ⟨by decide +kernel, rfl⟩
theorem zd_4_19_60 : zz_D zy_sumOf_4_19 60 (.iload 5) 2 62 := ⟨by decide +kernel, rfl⟩
theorem zd_4_19_62 : zz_D zy_sumOf_4_19 62 (.iload 6) 2 64 := ⟨by decide +kernel, rfl⟩
theorem zd_4_19_64 : zz_D zy_sumOf_4_19 64 (.invokevirtual 75) 3 67 := ⟨by decide +kernel, rfl⟩
theorem zd_4_19_67 : zz_D zy_sumOf_4_19 67 (.invokestatic 98) 3 70 := ⟨by decide +kernel, rfl⟩
theorem zd_4_19_70 : zz_D zy_sumOf_4_19 70 (.iadd) 1 71 := ⟨by decide +kernel, rfl⟩
theorem zd_4_19_71 : zz_D zy_sumOf_4_19 71 (.ireturn) 1 72 := ⟨by decide +kernel, rfl⟩
theorem zd_4_19_29 : zz_D zy_sumOf_4_19 29 (.aload_n 0) 1 30 := ⟨by decide +kernel, rfl⟩
theorem zd_4_19_30 : zz_D zy_sumOf_4_19 30 (.aload_n 1) 1 31 := ⟨by decide +kernel, rfl⟩
theorem zd_4_19_31 : zz_D zy_sumOf_4_19 31 (.aload_n 2) 1 32 := ⟨by decide +kernel, rfl⟩
theorem zd_4_19_32 : zz_D zy_sumOf_4_19 32 (.iload 4) 2 34 := ⟨by decide +kernel, rfl⟩
theorem zd_4_19_34 : zz_D zy_sumOf_4_19 34 (.iload 5) 2 36 := ⟨by decide +kernel, rfl⟩
theorem zd_4_19_36 : zz_D zy_sumOf_4_19 36 (.iload 6) 2 38 := ⟨by decide +kernel, rfl⟩
theorem zd_4_19_38 : zz_D zy_sumOf_4_19 38 (.invokevirtual 95) 3 41 := ⟨by decide +kernel, rfl⟩
abbrev zy_greatest_4_22 : mm_Y := (⟨"TensorForge$Layer", "greatest", "([BLTensorForge$Layer;III)I"⟩, prog_4_method_22_code, 9, (some .int))
theorem zyw_greatest_4_22 : mm_Yw zy_greatest_4_22 5 := ⟨mm_tb_1 901 (by decide +kernel) rfl, mm_tb_1 3 (by decide +kernel) rfl, ⟨by decide, by decide⟩, by decide +kernel⟩
theorem zd_4_22_0 : zz_D zy_greatest_4_22 0 (.bipush (-128)) 2 2 := ⟨by decide +kernel, rfl⟩
theorem zd_4_22_2 : zz_D zy_greatest_4_22 2 (.istore 6) 2 4 := ⟨by decide +kernel, rfl⟩
theorem zd_4_22_4 : zz_D zy_greatest_4_22 4 (.iconst 0) 1 5 := ⟨by decide +kernel, rfl⟩
theorem zd_4_22_5 : zz_D zy_greatest_4_22 5 (.istore 7) 2 7 := ⟨by decide +kernel, rfl⟩
theorem zd_4_22_7 : zz_D zy_greatest_4_22 7 (.iload 7) 2 9 := ⟨by decide +kernel, rfl⟩
theorem zd_4_22_9 : zz_D zy_greatest_4_22 9 (.aload_n 0) 1 10 := ⟨by decide +kernel, rfl⟩
theorem zd_4_22_10 : zz_D zy_greatest_4_22 10 (.getfield 23) 3 13 := ⟨by decide +kernel, rfl⟩
theorem zd_4_22_13 : zz_B zy_greatest_4_22 13 (Instr.if_icmp .ge) 76 16 := ⟨63, by decide +kernel, rfl, rfl⟩
theorem zd_4_22_76 : zz_D zy_greatest_4_22 76 (.iload 6) 2 78 := ⟨by decide +kernel, rfl⟩
theorem zd_4_22_78 : zz_D zy_greatest_4_22 78 (.ireturn) 1 79 := ⟨by decide +kernel, rfl⟩
theorem zd_4_22_16 : zz_D zy_greatest_4_22 16 (.iconst 0) 1 17 := ⟨by decide +kernel, rfl⟩
theorem zd_4_22_17 : zz_D zy_greatest_4_22 17 (.istore 8) 2 19 := ⟨by decide +kernel, rfl⟩
theorem zd_4_22_19 : zz_D zy_greatest_4_22 19 (.iload 8) 2 21 := ⟨by decide +kernel, rfl⟩
theorem zd_4_22_21 : zz_D zy_greatest_4_22 21 (.aload_n 0) 1 22 := ⟨by decide +kernel, rfl⟩
theorem zd_4_22_22 : zz_D zy_greatest_4_22 22 (.getfield 26) 3 25 := ⟨by decide +kernel, rfl⟩
theorem zd_4_22_25 : zz_B zy_greatest_4_22 25 (Instr.if_icmp .ge) 70 28 := ⟨45, by decide +kernel, rfl, rfl⟩
theorem zd_4_22_70 : zz_D zy_greatest_4_22 70 (.iinc 7 1) 3 73 := ⟨by decide +kernel, rfl⟩
theorem zd_4_22_73 : zz_B zy_greatest_4_22 73 Instr.goto 7 76 := ⟨(-66), by decide +kernel, rfl, rfl⟩
theorem zd_4_22_28 : zz_D zy_greatest_4_22 28 (.iload 6) 2 30 := ⟨by decide +kernel, rfl⟩
theorem zd_4_22_30 : zz_D zy_greatest_4_22 30 (.aload_n 1) 1 31 := ⟨by decide +kernel, rfl⟩
theorem zd_4_22_31 : zz_D zy_greatest_4_22 31 (.aload_n 2) 1 32 := ⟨by decide +kernel, rfl⟩
theorem zd_4_22_32 : zz_D zy_greatest_4_22 32 (.aload_n 0) 1 33 := ⟨by decide +kernel, rfl⟩
theorem zd_4_22_33 : zz_D zy_greatest_4_22 33 (.getfield 29) 3 36 := ⟨by decide +kernel, rfl⟩
theorem zd_4_22_36 : zz_D zy_greatest_4_22 36 (.iload_n 3) 1 37 := ⟨by decide +kernel, rfl⟩
theorem zd_4_22_37 : zz_D zy_greatest_4_22 37 (.imul) 1 38 := ⟨by decide +kernel, rfl⟩
theorem zd_4_22_38 : zz_D zy_greatest_4_22 38 (.iload 7) 2 40 := ⟨by decide +kernel, rfl⟩
theorem zd_4_22_40 : zz_D zy_greatest_4_22 40 (.iadd) 1 41 := ⟨by decide +kernel, rfl⟩
theorem zd_4_22_41 : zz_D zy_greatest_4_22 41 (.aload_n 0) 1 42 := ⟨by decide +kernel, rfl⟩
theorem zd_4_22_42 : zz_D zy_greatest_4_22 42 (.getfield 29) 3 45 := ⟨by decide +kernel, rfl⟩
theorem zd_4_22_45 : zz_D zy_greatest_4_22 45 (.iload 4) 2 47 := ⟨by decide +kernel, rfl⟩
theorem zd_4_22_47 : zz_D zy_greatest_4_22 47 (.imul) 1 48 := ⟨by decide +kernel, rfl⟩
theorem zd_4_22_48 : zz_D zy_greatest_4_22 48 (.iload 8) 2 50 := ⟨by decide +kernel, rfl⟩
theorem zd_4_22_50 : zz_D zy_greatest_4_22 50 (.iadd) 1 51 := ⟨by decide +kernel, rfl⟩
theorem zd_4_22_51 : zz_D zy_greatest_4_22 51 (.iload 5) 2 53 := ⟨by decide +kernel, rfl⟩
theorem zd_4_22_53 : zz_D zy_greatest_4_22 53 (.invokevirtual 75) 3 56 := ⟨by decide +kernel, rfl⟩
theorem zd_4_22_56 : zz_D zy_greatest_4_22 56 (.invokestatic 98) 3 59 := ⟨by decide +kernel, rfl⟩
theorem zd_4_22_59 : zz_D zy_greatest_4_22 59 (.invokestatic 121) 3 62 := ⟨by decide +kernel, rfl⟩
theorem zm_Layer_121 : Cond.methodLink "TensorForge$Layer" 121 Lib.Math.max.name ∈ mm_tb ∧ Cond.static Lib.Math.max.name ∈ mm_tb ∧ Cond.initialized "java/lang/Math" ∈ mm_tb ∧ Cond.code Lib.Math.max.name Lib.Math.max.code 2 (some .int) ∈ mm_tb := ⟨mm_tb_1 902 (by decide +kernel) rfl, mm_tb_1 709 (by decide +kernel) rfl, mm_tb_1 25 (by decide +kernel) rfl, mm_tb_1 710 (by decide +kernel) rfl⟩
theorem zd_4_22_62 : zz_D zy_greatest_4_22 62 (.istore 6) 2 64 := ⟨by decide +kernel, rfl⟩
theorem zd_4_22_64 : zz_D zy_greatest_4_22 64 (.iinc 8 1) 3 67 := ⟨by decide +kernel, rfl⟩
theorem zd_4_22_67 : zz_B zy_greatest_4_22 67 Instr.goto 19 70 := ⟨(-48), by decide +kernel, rfl, rfl⟩
-- TensorForge$Layer greatest ([BLTensorForge$Layer;III)I
abbrev zr_greatest_4_22 : Room := { frames := 1, cells := 0, slots := 0, locals := 17 }
def zp_greatest_4_22 (t : Int) (p1 : Int) (p2 : Int) (p3 : Int) (p4 : Int) (S0 : zz_S) : Int → zz_S → Prop := fun r S => S0 = S ∧ ((-2147483648) ≤ r ∧ r ≤ 2147483647)
theorem zb_greatest_4_22_7 {g : mm_G} {l : Launch} (t : Int) (p1 : Int) (p2 : Int) (p3 : Int) (p4 : Int) (S0 : zz_S) (n : Nat) (hn : zz_end ≤ n) (G_S0 : zz_G S0) (ht : 0 ≤ t ∧ t ≤ 23) (hp1 : 0 ≤ p1 ∧ p1 ≤ 23) (hp2 : (-2147483648) ≤ p2 ∧ p2 ≤ 2147483647) (hp3 : (-2147483648) ≤ p3 ∧ p3 ≤ 2147483647) (hp4 : (-2147483648) ≤ p4 ∧ p4 ≤ 2147483647) (x6 : Int) (x7 : Int) (S : zz_S) (G_S : zz_G S) (F_S : zz_fr [] [] (fun _ _ => False) S0 S) (i7_0 : (-128) ≤ x6 ∧ x6 ≤ 2147483647) (i7_1 : (-2147483648) ≤ x7 ∧ x7 ≤ 2147483647) (R : Nat) (hR : (34359738368 + (S (zz_rf 6 t) 3 - x7).toNat) * 1099511627776 + 1099511627775 = R) (k19 : ∀ (x6 : Int) (x7 : Int) (x8 : Int) (S : zz_S), zz_G S → zz_fr [] [] (fun _ _ => False) S0 S → ((-128) ≤ x6 ∧ x6 ≤ 2147483647) → ((-2147483648) ≤ x7 ∧ x7 ≤ 2147483647) → (0 ≤ x8 ∧ x8 ≤ 2147483647) → (34359738368 + (S (zz_rf 6 t) 3 - x7).toNat) * 1099511627776 + (17179869184 + (S (zz_rf 6 t) 4 - x8).toNat) < R → zz_E g l zy_greatest_4_22 zr_greatest_4_22 (zz_QI n (zp_greatest_4_22 t p1 p2 p3 p4 S0)) S n 19 [some (.ref (zz_rf 6 t)), some (.ref 1032), some (.ref (zz_rf 6 p1)), some (zi p2), some (zi p3), some (zi p4), some (zi x6), some (zi x7), some (zi x8)] [] 0 0) : zz_E g l zy_greatest_4_22 zr_greatest_4_22 (zz_QI n (zp_greatest_4_22 t p1 p2 p3 p4 S0)) S n 7 [some (.ref (zz_rf 6 t)), some (.ref 1032), some (.ref (zz_rf 6 p1)), some (zi p2), some (zi p3), some (zi p4), some (zi x6), some (zi x7)] [] 0 0 := by
  have b_p1 := zz_rf6 (z := p1) (by omega)
  have b_t := zz_rf6 (z := t) (by omega)
  refine zz_iload (x := x7) rfl zd_4_22_7 ?_
  refine zz_aload_n (x := zz_rf 6 t) rfl zd_4_22_9 ?_
  have g1 := zz_G.r G_S0 (zz_rf 6 t) 3 (-2147483648) 2147483647 (zR_k6_3 (by omega)) (zB_k6 (by omega))
  refine zz_geti (z := S0 (zz_rf 6 t) 3) zd_4_22_10 zf_Layer_23 (zT_k6 (by omega)) rfl (zN_k6 hn (by omega)) (zz_rc F_S (zP_k6 (by omega) rfl) (zQ_k6 (by omega) rfl) (fun h => h) rfl) ?_
  refine zz_icmp_ge (by omega) (by omega) zd_4_22_13 (fun c2 => ?_) (fun c2 => ?_)
  · refine zz_iload (x := x6) rfl zd_4_22_76 ?_
    exact zz_iret zd_4_22_78 rfl (Nat.zero_le _) (Nat.zero_le _) ⟨_, _, rfl, zz_fr.eq F_S, by omega⟩
  · refine zz_iconst zd_4_22_16 ?_
    refine zz_istore [some (.ref (zz_rf 6 t)), some (.ref 1032), some (.ref (zz_rf 6 p1)), some (zi p2), some (zi p3), some (zi p4), some (zi x6), some (zi x7), some (zi 0)] zd_4_22_17 (by decide) rfl ?_
    refine zz_less (ls1 := [some (.ref (zz_rf 6 t)), some (.ref 1032), some (.ref (zz_rf 6 p1)), some (zi p2), some (zi p3), some (zi p4), some (zi x6), some (zi x7), some (zi 0)]) ⟨rfl, ⟨rfl, ⟨rfl, ⟨rfl, ⟨rfl, ⟨rfl, ⟨rfl, ⟨rfl, ⟨rfl, trivial⟩⟩⟩⟩⟩⟩⟩⟩⟩ ?_
    exact k19 x6 x7 0 S G_S F_S (by omega) (by omega) (by omega) (by omega)
theorem zb_greatest_4_22_19 {g : mm_G} {l : Launch} (t : Int) (p1 : Int) (p2 : Int) (p3 : Int) (p4 : Int) (S0 : zz_S) (n : Nat) (hn : zz_end ≤ n) (G_S0 : zz_G S0) (ht : 0 ≤ t ∧ t ≤ 23) (hp1 : 0 ≤ p1 ∧ p1 ≤ 23) (hp2 : (-2147483648) ≤ p2 ∧ p2 ≤ 2147483647) (hp3 : (-2147483648) ≤ p3 ∧ p3 ≤ 2147483647) (hp4 : (-2147483648) ≤ p4 ∧ p4 ≤ 2147483647) (x6 : Int) (x7 : Int) (x8 : Int) (S : zz_S) (G_S : zz_G S) (F_S : zz_fr [] [] (fun _ _ => False) S0 S) (i19_0 : (-128) ≤ x6 ∧ x6 ≤ 2147483647) (i19_1 : (-2147483648) ≤ x7 ∧ x7 ≤ 2147483647) (i19_2 : 0 ≤ x8 ∧ x8 ≤ 2147483647) (R : Nat) (hR : (34359738368 + (S (zz_rf 6 t) 3 - x7).toNat) * 1099511627776 + (17179869184 + (S (zz_rf 6 t) 4 - x8).toNat) = R) (k7 : ∀ (x6 : Int) (x7 : Int) (S : zz_S), zz_G S → zz_fr [] [] (fun _ _ => False) S0 S → ((-128) ≤ x6 ∧ x6 ≤ 2147483647) → ((-2147483648) ≤ x7 ∧ x7 ≤ 2147483647) → (34359738368 + (S (zz_rf 6 t) 3 - x7).toNat) * 1099511627776 + 1099511627775 < R → zz_E g l zy_greatest_4_22 zr_greatest_4_22 (zz_QI n (zp_greatest_4_22 t p1 p2 p3 p4 S0)) S n 7 [some (.ref (zz_rf 6 t)), some (.ref 1032), some (.ref (zz_rf 6 p1)), some (zi p2), some (zi p3), some (zi p4), some (zi x6), some (zi x7)] [] 0 0) (k19 : ∀ (x6 : Int) (x7 : Int) (x8 : Int) (S : zz_S), zz_G S → zz_fr [] [] (fun _ _ => False) S0 S → ((-128) ≤ x6 ∧ x6 ≤ 2147483647) → ((-2147483648) ≤ x7 ∧ x7 ≤ 2147483647) → (0 ≤ x8 ∧ x8 ≤ 2147483647) → (34359738368 + (S (zz_rf 6 t) 3 - x7).toNat) * 1099511627776 + (17179869184 + (S (zz_rf 6 t) 4 - x8).toNat) < R → zz_E g l zy_greatest_4_22 zr_greatest_4_22 (zz_QI n (zp_greatest_4_22 t p1 p2 p3 p4 S0)) S n 19 [some (.ref (zz_rf 6 t)), some (.ref 1032), some (.ref (zz_rf 6 p1)), some (zi p2), some (zi p3), some (zi p4), some (zi x6), some (zi x7), some (zi x8)] [] 0 0) : zz_E g l zy_greatest_4_22 zr_greatest_4_22 (zz_QI n (zp_greatest_4_22 t p1 p2 p3 p4 S0)) S n 19 [some (.ref (zz_rf 6 t)), some (.ref 1032), some (.ref (zz_rf 6 p1)), some (zi p2), some (zi p3), some (zi p4), some (zi x6), some (zi x7), some (zi x8)] [] 0 0 := by
  have b_p1 := zz_rf6 (z := p1) (by omega)
  have b_t := zz_rf6 (z := t) (by omega)
  refine zz_iload (x := x8) rfl zd_4_22_19 ?_
  refine zz_aload_n (x := zz_rf 6 t) rfl zd_4_22_21 ?_
  have g3 := zz_G.r G_S0 (zz_rf 6 t) 4 (-2147483648) 2147483647 (zR_k6_4 (by omega)) (zB_k6 (by omega))
  refine zz_geti (z := S0 (zz_rf 6 t) 4) zd_4_22_22 zf_Layer_26 (zT_k6 (by omega)) rfl (zN_k6 hn (by omega)) (zz_rc F_S (zP_k6 (by omega) rfl) (zQ_k6 (by omega) rfl) (fun h => h) rfl) ?_
  refine zz_icmp_ge (by omega) (by omega) zd_4_22_25 (fun c4 => ?_) (fun c4 => ?_)
  · refine zz_iincN (fun v5 => [some (.ref (zz_rf 6 t)), some (.ref 1032), some (.ref (zz_rf 6 p1)), some (zi p2), some (zi p3), some (zi p4), some (zi x6), some (zi v5), some (zi x8)]) zd_4_22_70 rfl (fun _ => rfl) (fun v5 hv5 ev5 => ?_)
    refine zz_goto zd_4_22_73 ?_
    refine zz_less (ls1 := [some (.ref (zz_rf 6 t)), some (.ref 1032), some (.ref (zz_rf 6 p1)), some (zi p2), some (zi p3), some (zi p4), some (zi x6), some (zi v5)]) ⟨rfl, ⟨rfl, ⟨rfl, ⟨rfl, ⟨rfl, ⟨rfl, ⟨rfl, ⟨rfl, trivial⟩⟩⟩⟩⟩⟩⟩⟩ ?_
    exact k7 x6 v5 S G_S F_S (by omega) (by omega) (by omega)
  · refine zz_iload (x := x6) rfl zd_4_22_28 ?_
    refine zz_aload_n (x := 1032) rfl zd_4_22_30 ?_
    refine zz_aload_n (x := zz_rf 6 p1) rfl zd_4_22_31 ?_
    refine zz_aload_n (x := zz_rf 6 t) rfl zd_4_22_32 ?_
    have g6 := zz_G.r G_S0 (zz_rf 6 t) 5 (-2147483648) 2147483647 (zR_k6_5 (by omega)) (zB_k6 (by omega))
    refine zz_geti (z := S0 (zz_rf 6 t) 5) zd_4_22_33 zf_Layer_29 (zT_k6 (by omega)) rfl (zN_k6 hn (by omega)) (zz_rc F_S (zP_k6 (by omega) rfl) (zQ_k6 (by omega) rfl) (fun h => h) rfl) ?_
    refine zz_iload_n (x := p2) rfl zd_4_22_36 ?_
    refine zz_imul zd_4_22_37 ?_
    refine zz_nrm (fun v7 hv7 ev7 => ?_)
    refine zz_iload (x := x7) rfl zd_4_22_38 ?_
    refine zz_iadd zd_4_22_40 ?_
    refine zz_nrm (fun v8 hv8 ev8 => ?_)
    refine zz_aload_n (x := zz_rf 6 t) rfl zd_4_22_41 ?_
    refine zz_geti (z := S0 (zz_rf 6 t) 5) zd_4_22_42 zf_Layer_29 (zT_k6 (by omega)) rfl (zN_k6 hn (by omega)) (zz_rc F_S (zP_k6 (by omega) rfl) (zQ_k6 (by omega) rfl) (fun h => h) rfl) ?_
    refine zz_iload (x := p3) rfl zd_4_22_45 ?_
    refine zz_imul zd_4_22_47 ?_
    refine zz_nrm (fun v9 hv9 ev9 => ?_)
    refine zz_iload (x := x8) rfl zd_4_22_48 ?_
    refine zz_iadd zd_4_22_50 ?_
    refine zz_nrm (fun v10 hv10 ev10 => ?_)
    refine zz_iload (x := p4) rfl zd_4_22_51 ?_
    refine zz_callVI [zi v8, zi v10, zi p4] zd_4_22_53 zk_Layer_75 (zT_k6 (by omega)) (zN_k6 hn (by omega)) rfl rfl ⟨Nat.le_of_ble_eq_true rfl, Nat.le_of_ble_eq_true rfl⟩ ⟨rfl, rfl⟩ (Nat.zero_le _) (Nat.zero_le _) (zc_cellAt_4_15 p1 v8 v10 p4 S n hn G_S (by omega) (by omega) (by omega) (by omega)) (fun v12 S11 hP => ?_)
    obtain ⟨rfl, o13⟩ := hP
    refine zz_callSI [.ref 1032, zi v12] zd_4_22_56 zk_Layer_98 rfl rfl ⟨Nat.le_of_ble_eq_true rfl, Nat.le_of_ble_eq_true rfl⟩ ⟨rfl, rfl⟩ (Nat.zero_le _) (Nat.zero_le _) (zc_byteAt_4_17 v12 S n hn G_S (by omega)) (fun v15 S14 hP => ?_)
    obtain ⟨rfl, o16⟩ := hP
    refine zz_mmax (by omega) (by omega) zd_4_22_59 zm_Layer_121 ⟨Nat.le_of_ble_eq_true rfl, Nat.le_of_ble_eq_true rfl⟩ (Nat.zero_le _) (Nat.zero_le _) (fun v17 hv17 => ?_)
    refine zz_istore [some (.ref (zz_rf 6 t)), some (.ref 1032), some (.ref (zz_rf 6 p1)), some (zi p2), some (zi p3), some (zi p4), some (zi v17), some (zi x7), some (zi x8)] zd_4_22_62 (by decide) rfl ?_
    refine zz_iinc [some (.ref (zz_rf 6 t)), some (.ref 1032), some (.ref (zz_rf 6 p1)), some (zi p2), some (zi p3), some (zi p4), some (zi v17), some (zi x7), some (zi (x8 + 1))] zd_4_22_64 rfl rfl ?_
    refine zz_goto zd_4_22_67 ?_
    refine zz_less (ls1 := [some (.ref (zz_rf 6 t)), some (.ref 1032), some (.ref (zz_rf 6 p1)), some (zi p2), some (zi p3), some (zi p4), some (zi v17), some (zi x7), some (zi (x8 + 1))]) ⟨rfl, ⟨rfl, ⟨rfl, ⟨rfl, ⟨rfl, ⟨rfl, ⟨rfl, ⟨rfl, ⟨rfl, trivial⟩⟩⟩⟩⟩⟩⟩⟩⟩ ?_
    exact k19 v17 x7 (x8 + 1) S G_S F_S (by omega) (by omega) (by omega) (by omega)
theorem zi_greatest_4_22 {g : mm_G} {l : Launch} (t : Int) (p1 : Int) (p2 : Int) (p3 : Int) (p4 : Int) (S0 : zz_S) (n : Nat) (hn : zz_end ≤ n) (G_S0 : zz_G S0) (ht : 0 ≤ t ∧ t ≤ 23) (hp1 : 0 ≤ p1 ∧ p1 ≤ 23) (hp2 : (-2147483648) ≤ p2 ∧ p2 ≤ 2147483647) (hp3 : (-2147483648) ≤ p3 ∧ p3 ≤ 2147483647) (hp4 : (-2147483648) ≤ p4 ∧ p4 ≤ 2147483647) : ∀ N : Nat, (∀ (x6 : Int) (x7 : Int) (S : zz_S), zz_G S → zz_fr [] [] (fun _ _ => False) S0 S → ((-128) ≤ x6 ∧ x6 ≤ 2147483647) → ((-2147483648) ≤ x7 ∧ x7 ≤ 2147483647) → (34359738368 + (S (zz_rf 6 t) 3 - x7).toNat) * 1099511627776 + 1099511627775 < N → zz_E g l zy_greatest_4_22 zr_greatest_4_22 (zz_QI n (zp_greatest_4_22 t p1 p2 p3 p4 S0)) S n 7 [some (.ref (zz_rf 6 t)), some (.ref 1032), some (.ref (zz_rf 6 p1)), some (zi p2), some (zi p3), some (zi p4), some (zi x6), some (zi x7)] [] 0 0) ∧ (∀ (x6 : Int) (x7 : Int) (x8 : Int) (S : zz_S), zz_G S → zz_fr [] [] (fun _ _ => False) S0 S → ((-128) ≤ x6 ∧ x6 ≤ 2147483647) → ((-2147483648) ≤ x7 ∧ x7 ≤ 2147483647) → (0 ≤ x8 ∧ x8 ≤ 2147483647) → (34359738368 + (S (zz_rf 6 t) 3 - x7).toNat) * 1099511627776 + (17179869184 + (S (zz_rf 6 t) 4 - x8).toNat) < N → zz_E g l zy_greatest_4_22 zr_greatest_4_22 (zz_QI n (zp_greatest_4_22 t p1 p2 p3 p4 S0)) S n 19 [some (.ref (zz_rf 6 t)), some (.ref 1032), some (.ref (zz_rf 6 p1)), some (zi p2), some (zi p3), some (zi p4), some (zi x6), some (zi x7), some (zi x8)] [] 0 0) := by
  intro N
  induction N with
  | zero => exact ⟨fun x6 x7 S _ _ _ _ h => absurd h (Nat.not_lt_zero _), fun x6 x7 x8 S _ _ _ _ _ h => absurd h (Nat.not_lt_zero _)⟩
  | succ N ih =>
    exact ⟨fun x6 x7 S a b j0 j1 hR => zb_greatest_4_22_7 t p1 p2 p3 p4 S0 n hn G_S0 ht hp1 hp2 hp3 hp4 x6 x7 S a b j0 j1 _ rfl (fun x6 x7 x8 S a b j0 j1 j2 h => ih.2 x6 x7 x8 S a b j0 j1 j2 (Nat.lt_of_lt_of_le h (Nat.le_of_lt_succ hR))),
      fun x6 x7 x8 S a b j0 j1 j2 hR => zb_greatest_4_22_19 t p1 p2 p3 p4 S0 n hn G_S0 ht hp1 hp2 hp3 hp4 x6 x7 x8 S a b j0 j1 j2 _ rfl (fun x6 x7 S a b j0 j1 h => ih.1 x6 x7 S a b j0 j1 (Nat.lt_of_lt_of_le h (Nat.le_of_lt_succ hR))) (fun x6 x7 x8 S a b j0 j1 j2 h => ih.2 x6 x7 x8 S a b j0 j1 j2 (Nat.lt_of_lt_of_le h (Nat.le_of_lt_succ hR)))⟩
theorem zc_greatest_4_22 {g : mm_G} {l : Launch} (t : Int) (p1 : Int) (p2 : Int) (p3 : Int) (p4 : Int) (S0 : zz_S) (n : Nat) (hn : zz_end ≤ n) (G_S0 : zz_G S0) (ht : 0 ≤ t ∧ t ≤ 23) (hp1 : 0 ≤ p1 ∧ p1 ≤ 23) (hp2 : (-2147483648) ≤ p2 ∧ p2 ≤ 2147483647) (hp3 : (-2147483648) ≤ p3 ∧ p3 ≤ 2147483647) (hp4 : (-2147483648) ≤ p4 ∧ p4 ≤ 2147483647) : mm_Met g l zy_greatest_4_22 zr_greatest_4_22 [.ref (zz_rf 6 t), .ref 1032, .ref (zz_rf 6 p1), zi p2, zi p3, zi p4] (zz_M S0 n) n (zz_QI n (zp_greatest_4_22 t p1 p2 p3 p4 S0)) := by
  refine zz_enter (by decide) (Nat.le_of_ble_eq_true rfl) (zz_less (ls1 := [some (.ref (zz_rf 6 t)), some (.ref 1032), some (.ref (zz_rf 6 p1)), some (zi p2), some (zi p3), some (zi p4)]) ⟨rfl, ⟨rfl, ⟨rfl, ⟨rfl, ⟨rfl, ⟨rfl, trivial⟩⟩⟩⟩⟩⟩ ?_)
  have F_S0 : zz_fr [] [] (fun _ _ => False) S0 S0 := zz_fr.refl
  have k7 : ∀ (x6 : Int) (x7 : Int) (S : zz_S), zz_G S → zz_fr [] [] (fun _ _ => False) S0 S → ((-128) ≤ x6 ∧ x6 ≤ 2147483647) → ((-2147483648) ≤ x7 ∧ x7 ≤ 2147483647) → zz_E g l zy_greatest_4_22 zr_greatest_4_22 (zz_QI n (zp_greatest_4_22 t p1 p2 p3 p4 S0)) S n 7 [some (.ref (zz_rf 6 t)), some (.ref 1032), some (.ref (zz_rf 6 p1)), some (zi p2), some (zi p3), some (zi p4), some (zi x6), some (zi x7)] [] 0 0 := fun x6 x7 S a b j0 j1 => (zi_greatest_4_22 (g := g) (l := l) t p1 p2 p3 p4 S0 n hn G_S0 ht hp1 hp2 hp3 hp4 _).1 x6 x7 S a b j0 j1 (Nat.lt_succ_self _)
  have b_p1 := zz_rf6 (z := p1) (by omega)
  have b_t := zz_rf6 (z := t) (by omega)
  refine zz_bipush (by decide) zd_4_22_0 ?_
  refine zz_istore [some (.ref (zz_rf 6 t)), some (.ref 1032), some (.ref (zz_rf 6 p1)), some (zi p2), some (zi p3), some (zi p4), some (zi (-128))] zd_4_22_2 (by decide) rfl ?_
  refine zz_iconst zd_4_22_4 ?_
  refine zz_istore [some (.ref (zz_rf 6 t)), some (.ref 1032), some (.ref (zz_rf 6 p1)), some (zi p2), some (zi p3), some (zi p4), some (zi (-128)), some (zi 0)] zd_4_22_5 (by decide) rfl ?_
  refine zz_less (ls1 := [some (.ref (zz_rf 6 t)), some (.ref 1032), some (.ref (zz_rf 6 p1)), some (zi p2), some (zi p3), some (zi p4), some (zi (-128)), some (zi 0)]) ⟨rfl, ⟨rfl, ⟨rfl, ⟨rfl, ⟨rfl, ⟨rfl, ⟨rfl, ⟨rfl, trivial⟩⟩⟩⟩⟩⟩⟩⟩ ?_
  exact k7 (-128) 0 S0 G_S0 F_S0 (by omega) (by omega)
theorem zk_Layer_95 : mm_Vl "TensorForge$Layer" 95 2 5 zy_greatest_4_22 := ⟨zyw_greatest_4_22, (R_Layer, F_Layer, 15), rfl, mm_tb_1 898 (by decide +kernel) rfl, mm_tb_1 900 (by decide +kernel) rfl, mm_tb_s 40 (by decide +kernel) rfl⟩
theorem zd_4_19_41 : zz_D zy_sumOf_4_19 41 (.ireturn) 1 42 := ⟨by decide +kernel, rfl⟩
theorem zd_4_19_8 : zz_D zy_sumOf_4_19 8 (.aload_n 0) 1 9 := ⟨by decide +kernel, rfl⟩
theorem zd_4_19_9 : zz_D zy_sumOf_4_19 9 (.aload_n 1) 1 10 := ⟨by decide +kernel, rfl⟩
theorem zd_4_19_10 : zz_D zy_sumOf_4_19 10 (.aload_n 2) 1 11 := ⟨by decide +kernel, rfl⟩
theorem zd_4_19_11 : zz_D zy_sumOf_4_19 11 (.iload 4) 2 13 := ⟨by decide +kernel, rfl⟩
theorem zd_4_19_13 : zz_D zy_sumOf_4_19 13 (.iload 5) 2 15 := ⟨by decide +kernel, rfl⟩
theorem zd_4_19_15 : zz_D zy_sumOf_4_19 15 (.iload 6) 2 17 := ⟨by decide +kernel, rfl⟩
theorem zd_4_19_17 : zz_D zy_sumOf_4_19 17 (.invokevirtual 91) 3 20 := ⟨by decide +kernel, rfl⟩
abbrev zy_convolved_4_20 : mm_Y := (⟨"TensorForge$Layer", "convolved", "([BLTensorForge$Layer;III)I"⟩, prog_4_method_20_code, 12, (some .int))
theorem zyw_convolved_4_20 : mm_Yw zy_convolved_4_20 5 := ⟨mm_tb_1 877 (by decide +kernel) rfl, mm_tb_1 3 (by decide +kernel) rfl, ⟨by decide, by decide⟩, by decide +kernel⟩
theorem zd_4_20_0 : zz_D zy_convolved_4_20 0 (.aload_n 1) 1 1 := ⟨by decide +kernel, rfl⟩
theorem zd_4_20_1 : zz_D zy_convolved_4_20 1 (.aload_n 0) 1 2 := ⟨by decide +kernel, rfl⟩
theorem zd_4_20_2 : zz_D zy_convolved_4_20 2 (.iload 5) 2 4 := ⟨by decide +kernel, rfl⟩
theorem zd_4_20_4 : zz_D zy_convolved_4_20 4 (.invokevirtual 102) 3 7 := ⟨by decide +kernel, rfl⟩
abbrev zy_biasAt_4_13 : mm_Y := (⟨"TensorForge$Layer", "biasAt", "(I)I"⟩, prog_4_method_13_code, 2, (some .int))
theorem zyw_biasAt_4_13 : mm_Yw zy_biasAt_4_13 1 := ⟨mm_tb_1 881 (by decide +kernel) rfl, mm_tb_1 3 (by decide +kernel) rfl, ⟨by decide, by decide⟩, by decide +kernel⟩
theorem zd_4_13_0 : zz_D zy_biasAt_4_13 0 (.aload_n 0) 1 1 := ⟨by decide +kernel, rfl⟩
theorem zd_4_13_1 : zz_D zy_biasAt_4_13 1 (.getfield 42) 3 4 := ⟨by decide +kernel, rfl⟩
theorem zd_4_13_4 : zz_D zy_biasAt_4_13 4 (.iconst 4) 1 5 := ⟨by decide +kernel, rfl⟩
theorem zd_4_13_5 : zz_D zy_biasAt_4_13 5 (.iload_n 1) 1 6 := ⟨by decide +kernel, rfl⟩
theorem zd_4_13_6 : zz_D zy_biasAt_4_13 6 (.imul) 1 7 := ⟨by decide +kernel, rfl⟩
theorem zd_4_13_7 : zz_D zy_biasAt_4_13 7 (.iadd) 1 8 := ⟨by decide +kernel, rfl⟩
theorem zd_4_13_8 : zz_D zy_biasAt_4_13 8 (.ireturn) 1 9 := ⟨by decide +kernel, rfl⟩
-- TensorForge$Layer biasAt (I)I
abbrev zr_biasAt_4_13 : Room := { frames := 0, cells := 0, slots := 0, locals := 0 }
def zp_biasAt_4_13 (t : Int) (p0 : Int) (S0 : zz_S) : Int → zz_S → Prop := fun r S => S0 = S ∧ ((-2147483648) ≤ r ∧ r ≤ 2147483647)
theorem zc_biasAt_4_13 {g : mm_G} {l : Launch} (t : Int) (p0 : Int) (S0 : zz_S) (n : Nat) (hn : zz_end ≤ n) (G_S0 : zz_G S0) (ht : 0 ≤ t ∧ t ≤ 23) (hp0 : (-2147483648) ≤ p0 ∧ p0 ≤ 2147483647) : mm_Met g l zy_biasAt_4_13 zr_biasAt_4_13 [.ref (zz_rf 6 t), zi p0] (zz_M S0 n) n (zz_QI n (zp_biasAt_4_13 t p0 S0)) := by
  refine zz_enter (by decide) (Nat.le_of_ble_eq_true rfl) (zz_less (ls1 := [some (.ref (zz_rf 6 t)), some (zi p0)]) ⟨rfl, ⟨rfl, trivial⟩⟩ ?_)
  have b_t := zz_rf6 (z := t) (by omega)
  refine zz_aload_n (x := zz_rf 6 t) rfl zd_4_13_0 ?_
  have g1 := zz_G.r G_S0 (zz_rf 6 t) 9 (-2147483648) 2147483647 (zR_k6_9 (by omega)) (zB_k6 (by omega))
  refine zz_geti (z := S0 (zz_rf 6 t) 9) zd_4_13_1 zf_Layer_42 (zT_k6 (by omega)) rfl (zN_k6 hn (by omega)) rfl ?_
  refine zz_iconst zd_4_13_4 ?_
  refine zz_iload_n (x := p0) rfl zd_4_13_5 ?_
  refine zz_imul zd_4_13_6 ?_
  refine zz_nrm (fun v2 hv2 ev2 => ?_)
  refine zz_iadd zd_4_13_7 ?_
  refine zz_nrm (fun v3 hv3 ev3 => ?_)
  exact zz_iret zd_4_13_8 rfl (Nat.zero_le _) (Nat.zero_le _) ⟨_, _, rfl, rfl, by omega⟩
theorem zk_Layer_102 : mm_Vl "TensorForge$Layer" 102 2 1 zy_biasAt_4_13 := ⟨zyw_biasAt_4_13, (R_Layer, F_Layer, 15), rfl, mm_tb_1 878 (by decide +kernel) rfl, mm_tb_1 879 (by decide +kernel) rfl, mm_tb_1 880 (by decide +kernel) rfl⟩
theorem zd_4_20_7 : zz_D zy_convolved_4_20 7 (.invokestatic 106) 3 10 := ⟨by decide +kernel, rfl⟩
theorem zk_Layer_106 : mm_Sl "TensorForge$Layer" 106 2 zy_intAt_6_4 := ⟨zyw_intAt_6_4, mm_tb_1 882 (by decide +kernel) rfl, mm_tb_1 811 (by decide +kernel) rfl⟩
theorem zd_4_20_10 : zz_D zy_convolved_4_20 10 (.istore 6) 2 12 := ⟨by decide +kernel, rfl⟩
theorem zd_4_20_12 : zz_D zy_convolved_4_20 12 (.iconst 0) 1 13 := ⟨by decide +kernel, rfl⟩
theorem zd_4_20_13 : zz_D zy_convolved_4_20 13 (.istore 7) 2 15 := ⟨by decide +kernel, rfl⟩
theorem zd_4_20_15 : zz_D zy_convolved_4_20 15 (.iload 7) 2 17 := ⟨by decide +kernel, rfl⟩
theorem zd_4_20_17 : zz_D zy_convolved_4_20 17 (.aload_n 0) 1 18 := ⟨by decide +kernel, rfl⟩
theorem zd_4_20_18 : zz_D zy_convolved_4_20 18 (.getfield 23) 3 21 := ⟨by decide +kernel, rfl⟩
theorem zd_4_20_21 : zz_B zy_convolved_4_20 21 (Instr.if_icmp .ge) 128 24 := ⟨107, by decide +kernel, rfl, rfl⟩
theorem zd_4_20_128 : zz_D zy_convolved_4_20 128 (.iload 6) 2 130 := ⟨by decide +kernel, rfl⟩
theorem zd_4_20_130 : zz_D zy_convolved_4_20 130 (.ireturn) 1 131 := ⟨by decide +kernel, rfl⟩
theorem zd_4_20_24 : zz_D zy_convolved_4_20 24 (.iconst 0) 1 25 := ⟨by decide +kernel, rfl⟩
theorem zd_4_20_25 : zz_D zy_convolved_4_20 25 (.istore 8) 2 27 := ⟨by decide +kernel, rfl⟩
theorem zd_4_20_27 : zz_D zy_convolved_4_20 27 (.iload 8) 2 29 := ⟨by decide +kernel, rfl⟩
theorem zd_4_20_29 : zz_D zy_convolved_4_20 29 (.aload_n 0) 1 30 := ⟨by decide +kernel, rfl⟩
theorem zd_4_20_30 : zz_D zy_convolved_4_20 30 (.getfield 26) 3 33 := ⟨by decide +kernel, rfl⟩
theorem zd_4_20_33 : zz_B zy_convolved_4_20 33 (Instr.if_icmp .ge) 122 36 := ⟨89, by decide +kernel, rfl, rfl⟩
theorem zd_4_20_122 : zz_D zy_convolved_4_20 122 (.iinc 7 1) 3 125 := ⟨by decide +kernel, rfl⟩
theorem zd_4_20_125 : zz_B zy_convolved_4_20 125 Instr.goto 15 128 := ⟨(-110), by decide +kernel, rfl, rfl⟩
theorem zd_4_20_36 : zz_D zy_convolved_4_20 36 (.aload_n 0) 1 37 := ⟨by decide +kernel, rfl⟩
theorem zd_4_20_37 : zz_D zy_convolved_4_20 37 (.getfield 29) 3 40 := ⟨by decide +kernel, rfl⟩
theorem zd_4_20_40 : zz_D zy_convolved_4_20 40 (.iload_n 3) 1 41 := ⟨by decide +kernel, rfl⟩
theorem zd_4_20_41 : zz_D zy_convolved_4_20 41 (.imul) 1 42 := ⟨by decide +kernel, rfl⟩
theorem zd_4_20_42 : zz_D zy_convolved_4_20 42 (.iload 7) 2 44 := ⟨by decide +kernel, rfl⟩
theorem zd_4_20_44 : zz_D zy_convolved_4_20 44 (.iadd) 1 45 := ⟨by decide +kernel, rfl⟩
theorem zd_4_20_45 : zz_D zy_convolved_4_20 45 (.aload_n 0) 1 46 := ⟨by decide +kernel, rfl⟩
theorem zd_4_20_46 : zz_D zy_convolved_4_20 46 (.getfield 32) 3 49 := ⟨by decide +kernel, rfl⟩
theorem zd_4_20_49 : zz_D zy_convolved_4_20 49 (.isub) 1 50 := ⟨by decide +kernel, rfl⟩
theorem zd_4_20_50 : zz_D zy_convolved_4_20 50 (.istore 9) 2 52 := ⟨by decide +kernel, rfl⟩
theorem zd_4_20_52 : zz_D zy_convolved_4_20 52 (.aload_n 0) 1 53 := ⟨by decide +kernel, rfl⟩
theorem zd_4_20_53 : zz_D zy_convolved_4_20 53 (.getfield 29) 3 56 := ⟨by decide +kernel, rfl⟩
theorem zd_4_20_56 : zz_D zy_convolved_4_20 56 (.iload 4) 2 58 := ⟨by decide +kernel, rfl⟩
theorem zd_4_20_58 : zz_D zy_convolved_4_20 58 (.imul) 1 59 := ⟨by decide +kernel, rfl⟩
theorem zd_4_20_59 : zz_D zy_convolved_4_20 59 (.iload 8) 2 61 := ⟨by decide +kernel, rfl⟩
theorem zd_4_20_61 : zz_D zy_convolved_4_20 61 (.iadd) 1 62 := ⟨by decide +kernel, rfl⟩
theorem zd_4_20_62 : zz_D zy_convolved_4_20 62 (.aload_n 0) 1 63 := ⟨by decide +kernel, rfl⟩
theorem zd_4_20_63 : zz_D zy_convolved_4_20 63 (.getfield 32) 3 66 := ⟨by decide +kernel, rfl⟩
theorem zd_4_20_66 : zz_D zy_convolved_4_20 66 (.isub) 1 67 := ⟨by decide +kernel, rfl⟩
theorem zd_4_20_67 : zz_D zy_convolved_4_20 67 (.istore 10) 2 69 := ⟨by decide +kernel, rfl⟩
theorem zd_4_20_69 : zz_D zy_convolved_4_20 69 (.aload_n 2) 1 70 := ⟨by decide +kernel, rfl⟩
theorem zd_4_20_70 : zz_D zy_convolved_4_20 70 (.iload 9) 2 72 := ⟨by decide +kernel, rfl⟩
theorem zd_4_20_72 : zz_D zy_convolved_4_20 72 (.iload 10) 2 74 := ⟨by decide +kernel, rfl⟩
theorem zd_4_20_74 : zz_D zy_convolved_4_20 74 (.invokevirtual 109) 3 77 := ⟨by decide +kernel, rfl⟩
abbrev zy_hasPlace_4_16 : mm_Y := (⟨"TensorForge$Layer", "hasPlace", "(II)Z"⟩, prog_4_method_16_code, 3, (some .boolean))
theorem zyw_hasPlace_4_16 : mm_Yw zy_hasPlace_4_16 2 := ⟨mm_tb_1 886 (by decide +kernel) rfl, mm_tb_1 3 (by decide +kernel) rfl, ⟨by decide, by decide⟩, by decide +kernel⟩
theorem zd_4_16_0 : zz_D zy_hasPlace_4_16 0 (.iload_n 1) 1 1 := ⟨by decide +kernel, rfl⟩
theorem zd_4_16_1 : zz_B zy_hasPlace_4_16 1 (Instr.ifCond .lt) 28 4 := ⟨27, by decide +kernel, rfl, rfl⟩
theorem zd_4_16_28 : zz_D zy_hasPlace_4_16 28 (.iconst 0) 1 29 := ⟨by decide +kernel, rfl⟩
theorem zd_4_16_29 : zz_D zy_hasPlace_4_16 29 (.ireturn) 1 30 := ⟨by decide +kernel, rfl⟩
theorem zd_4_16_4 : zz_D zy_hasPlace_4_16 4 (.iload_n 1) 1 5 := ⟨by decide +kernel, rfl⟩
theorem zd_4_16_5 : zz_D zy_hasPlace_4_16 5 (.aload_n 0) 1 6 := ⟨by decide +kernel, rfl⟩
theorem zd_4_16_6 : zz_D zy_hasPlace_4_16 6 (.getfield 54) 3 9 := ⟨by decide +kernel, rfl⟩
theorem zd_4_16_9 : zz_B zy_hasPlace_4_16 9 (Instr.if_icmp .ge) 28 12 := ⟨19, by decide +kernel, rfl, rfl⟩
theorem zd_4_16_12 : zz_D zy_hasPlace_4_16 12 (.iload_n 2) 1 13 := ⟨by decide +kernel, rfl⟩
theorem zd_4_16_13 : zz_B zy_hasPlace_4_16 13 (Instr.ifCond .lt) 28 16 := ⟨15, by decide +kernel, rfl, rfl⟩
theorem zd_4_16_16 : zz_D zy_hasPlace_4_16 16 (.iload_n 2) 1 17 := ⟨by decide +kernel, rfl⟩
theorem zd_4_16_17 : zz_D zy_hasPlace_4_16 17 (.aload_n 0) 1 18 := ⟨by decide +kernel, rfl⟩
theorem zd_4_16_18 : zz_D zy_hasPlace_4_16 18 (.getfield 57) 3 21 := ⟨by decide +kernel, rfl⟩
theorem zd_4_16_21 : zz_B zy_hasPlace_4_16 21 (Instr.if_icmp .ge) 28 24 := ⟨7, by decide +kernel, rfl, rfl⟩
theorem zd_4_16_24 : zz_D zy_hasPlace_4_16 24 (.iconst 1) 1 25 := ⟨by decide +kernel, rfl⟩
theorem zd_4_16_25 : zz_B zy_hasPlace_4_16 25 Instr.goto 29 28 := ⟨4, by decide +kernel, rfl, rfl⟩
-- TensorForge$Layer hasPlace (II)Z
abbrev zr_hasPlace_4_16 : Room := { frames := 0, cells := 0, slots := 0, locals := 0 }
def zp_hasPlace_4_16 (t : Int) (p0 : Int) (p1 : Int) (S0 : zz_S) : Int → zz_S → Prop := fun r S => S0 = S ∧ (0 ≤ r ∧ r ≤ 1)
theorem zc_hasPlace_4_16 {g : mm_G} {l : Launch} (t : Int) (p0 : Int) (p1 : Int) (S0 : zz_S) (n : Nat) (hn : zz_end ≤ n) (G_S0 : zz_G S0) (ht : 0 ≤ t ∧ t ≤ 23) (hp0 : (-2147483648) ≤ p0 ∧ p0 ≤ 2147483647) (hp1 : (-2147483648) ≤ p1 ∧ p1 ≤ 2147483647) : mm_Met g l zy_hasPlace_4_16 zr_hasPlace_4_16 [.ref (zz_rf 6 t), zi p0, zi p1] (zz_M S0 n) n (zz_QI n (zp_hasPlace_4_16 t p0 p1 S0)) := by
  refine zz_enter (by decide) (Nat.le_of_ble_eq_true rfl) (zz_less (ls1 := [some (.ref (zz_rf 6 t)), some (zi p0), some (zi p1)]) ⟨rfl, ⟨rfl, ⟨rfl, trivial⟩⟩⟩ ?_)
  have b_t := zz_rf6 (z := t) (by omega)
  refine zz_iload_n (x := p0) rfl zd_4_16_0 ?_
  refine zz_if_lt (by omega) zd_4_16_1 (fun c1 => ?_) (fun c1 => ?_)
  · refine zz_iconst zd_4_16_28 ?_
    exact zz_zret zd_4_16_29 rfl (by omega) (Nat.zero_le _) (Nat.zero_le _) ⟨_, _, rfl, rfl, by omega⟩
  · refine zz_iload_n (x := p0) rfl zd_4_16_4 ?_
    refine zz_aload_n (x := zz_rf 6 t) rfl zd_4_16_5 ?_
    have g2 := zz_G.r G_S0 (zz_rf 6 t) 10 (-2147483648) 2147483647 (zR_k6_10 (by omega)) (zB_k6 (by omega))
    refine zz_geti (z := S0 (zz_rf 6 t) 10) zd_4_16_6 zf_Layer_54 (zT_k6 (by omega)) rfl (zN_k6 hn (by omega)) rfl ?_
    refine zz_icmp_ge (by omega) (by omega) zd_4_16_9 (fun c3 => ?_) (fun c3 => ?_)
    · refine zz_iconst zd_4_16_28 ?_
      exact zz_zret zd_4_16_29 rfl (by omega) (Nat.zero_le _) (Nat.zero_le _) ⟨_, _, rfl, rfl, by omega⟩
    · refine zz_iload_n (x := p1) rfl zd_4_16_12 ?_
      refine zz_if_lt (by omega) zd_4_16_13 (fun c4 => ?_) (fun c4 => ?_)
      · refine zz_iconst zd_4_16_28 ?_
        exact zz_zret zd_4_16_29 rfl (by omega) (Nat.zero_le _) (Nat.zero_le _) ⟨_, _, rfl, rfl, by omega⟩
      · refine zz_iload_n (x := p1) rfl zd_4_16_16 ?_
        refine zz_aload_n (x := zz_rf 6 t) rfl zd_4_16_17 ?_
        have g5 := zz_G.r G_S0 (zz_rf 6 t) 11 (-2147483648) 2147483647 (zR_k6_11 (by omega)) (zB_k6 (by omega))
        refine zz_geti (z := S0 (zz_rf 6 t) 11) zd_4_16_18 zf_Layer_57 (zT_k6 (by omega)) rfl (zN_k6 hn (by omega)) rfl ?_
        refine zz_icmp_ge (by omega) (by omega) zd_4_16_21 (fun c6 => ?_) (fun c6 => ?_)
        · refine zz_iconst zd_4_16_28 ?_
          exact zz_zret zd_4_16_29 rfl (by omega) (Nat.zero_le _) (Nat.zero_le _) ⟨_, _, rfl, rfl, by omega⟩
        · refine zz_iconst zd_4_16_24 ?_
          refine zz_goto zd_4_16_25 ?_
          exact zz_zret zd_4_16_29 rfl (by omega) (Nat.zero_le _) (Nat.zero_le _) ⟨_, _, rfl, rfl, by omega⟩
theorem zk_Layer_109 : mm_Vl "TensorForge$Layer" 109 2 2 zy_hasPlace_4_16 := ⟨zyw_hasPlace_4_16, (R_Layer, F_Layer, 15), rfl, mm_tb_1 883 (by decide +kernel) rfl, mm_tb_1 884 (by decide +kernel) rfl, mm_tb_1 885 (by decide +kernel) rfl⟩
theorem zd_4_20_77 : zz_B zy_convolved_4_20 77 (Instr.ifCond .eq) 116 80 := ⟨39, by decide +kernel, rfl, rfl⟩
theorem zd_4_20_116 : zz_D zy_convolved_4_20 116 (.iinc 8 1) 3 119 := ⟨by decide +kernel, rfl⟩
theorem zd_4_20_119 : zz_B zy_convolved_4_20 119 Instr.goto 27 122 := ⟨(-92), by decide +kernel, rfl, rfl⟩
theorem zd_4_20_80 : zz_D zy_convolved_4_20 80 (.aload_n 2) 1 81 := ⟨by decide +kernel, rfl⟩
theorem zd_4_20_81 : zz_D zy_convolved_4_20 81 (.iload 9) 2 83 := ⟨by decide +kernel, rfl⟩
theorem zd_4_20_83 : zz_D zy_convolved_4_20 83 (.iload 10) 2 85 := ⟨by decide +kernel, rfl⟩
theorem zd_4_20_85 : zz_D zy_convolved_4_20 85 (.iconst 0) 1 86 := ⟨by decide +kernel, rfl⟩
theorem zd_4_20_86 : zz_D zy_convolved_4_20 86 (.invokevirtual 75) 3 89 := ⟨by decide +kernel, rfl⟩
theorem zd_4_20_89 : zz_D zy_convolved_4_20 89 (.istore 11) 2 91 := ⟨by decide +kernel, rfl⟩
theorem zd_4_20_91 : zz_D zy_convolved_4_20 91 (.iload 6) 2 93 := ⟨by decide +kernel, rfl⟩
theorem zd_4_20_93 : zz_D zy_convolved_4_20 93 (.aload_n 0) 1 94 := ⟨by decide +kernel, rfl⟩
theorem zd_4_20_94 : zz_D zy_convolved_4_20 94 (.aload_n 1) 1 95 := ⟨by decide +kernel, rfl⟩
theorem zd_4_20_95 : zz_D zy_convolved_4_20 95 (.aload_n 2) 1 96 := ⟨by decide +kernel, rfl⟩
theorem zd_4_20_96 : zz_D zy_convolved_4_20 96 (.iload 11) 2 98 := ⟨by decide +kernel, rfl⟩
theorem zd_4_20_98 : zz_D zy_convolved_4_20 98 (.aload_n 0) 1 99 := ⟨by decide +kernel, rfl⟩
theorem zd_4_20_99 : zz_D zy_convolved_4_20 99 (.aload_n 2) 1 100 := ⟨by decide +kernel, rfl⟩
theorem zd_4_20_100 : zz_D zy_convolved_4_20 100 (.iload 7) 2 102 := ⟨by decide +kernel, rfl⟩
theorem zd_4_20_102 : zz_D zy_convolved_4_20 102 (.iload 8) 2 104 := ⟨by decide +kernel, rfl⟩
theorem zd_4_20_104 : zz_D zy_convolved_4_20 104 (.iconst 0) 1 105 := ⟨by decide +kernel, rfl⟩
theorem zd_4_20_105 : zz_D zy_convolved_4_20 105 (.iload 5) 2 107 := ⟨by decide +kernel, rfl⟩
theorem zd_4_20_107 : zz_D zy_convolved_4_20 107 (.invokevirtual 113) 3 110 := ⟨by decide +kernel, rfl⟩
abbrev zy_weightAt_4_14 : mm_Y := (⟨"TensorForge$Layer", "weightAt", "(LTensorForge$Layer;IIII)I"⟩, prog_4_method_14_code, 7, (some .int))
theorem zyw_weightAt_4_14 : mm_Yw zy_weightAt_4_14 5 := ⟨mm_tb_1 890 (by decide +kernel) rfl, mm_tb_1 3 (by decide +kernel) rfl, ⟨by decide, by decide⟩, by decide +kernel⟩
theorem zd_4_14_0 : zz_D zy_weightAt_4_14 0 (.iload_n 2) 1 1 := ⟨by decide +kernel, rfl⟩
theorem zd_4_14_1 : zz_D zy_weightAt_4_14 1 (.aload_n 0) 1 2 := ⟨by decide +kernel, rfl⟩
theorem zd_4_14_2 : zz_D zy_weightAt_4_14 2 (.getfield 26) 3 5 := ⟨by decide +kernel, rfl⟩
theorem zd_4_14_5 : zz_D zy_weightAt_4_14 5 (.imul) 1 6 := ⟨by decide +kernel, rfl⟩
theorem zd_4_14_6 : zz_D zy_weightAt_4_14 6 (.iload_n 3) 1 7 := ⟨by decide +kernel, rfl⟩
theorem zd_4_14_7 : zz_D zy_weightAt_4_14 7 (.iadd) 1 8 := ⟨by decide +kernel, rfl⟩
theorem zd_4_14_8 : zz_D zy_weightAt_4_14 8 (.aload_n 1) 1 9 := ⟨by decide +kernel, rfl⟩
theorem zd_4_14_9 : zz_D zy_weightAt_4_14 9 (.getfield 60) 3 12 := ⟨by decide +kernel, rfl⟩
theorem zd_4_14_12 : zz_D zy_weightAt_4_14 12 (.imul) 1 13 := ⟨by decide +kernel, rfl⟩
theorem zd_4_14_13 : zz_D zy_weightAt_4_14 13 (.iload 4) 2 15 := ⟨by decide +kernel, rfl⟩
theorem zd_4_14_15 : zz_D zy_weightAt_4_14 15 (.iadd) 1 16 := ⟨by decide +kernel, rfl⟩
theorem zd_4_14_16 : zz_D zy_weightAt_4_14 16 (.istore 6) 2 18 := ⟨by decide +kernel, rfl⟩
theorem zd_4_14_18 : zz_D zy_weightAt_4_14 18 (.aload_n 0) 1 19 := ⟨by decide +kernel, rfl⟩
theorem zd_4_14_19 : zz_D zy_weightAt_4_14 19 (.getfield 42) 3 22 := ⟨by decide +kernel, rfl⟩
theorem zd_4_14_22 : zz_D zy_weightAt_4_14 22 (.iconst 4) 1 23 := ⟨by decide +kernel, rfl⟩
theorem zd_4_14_23 : zz_D zy_weightAt_4_14 23 (.aload_n 0) 1 24 := ⟨by decide +kernel, rfl⟩
theorem zd_4_14_24 : zz_D zy_weightAt_4_14 24 (.getfield 60) 3 27 := ⟨by decide +kernel, rfl⟩
theorem zd_4_14_27 : zz_D zy_weightAt_4_14 27 (.imul) 1 28 := ⟨by decide +kernel, rfl⟩
theorem zd_4_14_28 : zz_D zy_weightAt_4_14 28 (.iadd) 1 29 := ⟨by decide +kernel, rfl⟩
theorem zd_4_14_29 : zz_D zy_weightAt_4_14 29 (.iload 6) 2 31 := ⟨by decide +kernel, rfl⟩
theorem zd_4_14_31 : zz_D zy_weightAt_4_14 31 (.aload_n 0) 1 32 := ⟨by decide +kernel, rfl⟩
theorem zd_4_14_32 : zz_D zy_weightAt_4_14 32 (.getfield 60) 3 35 := ⟨by decide +kernel, rfl⟩
theorem zd_4_14_35 : zz_D zy_weightAt_4_14 35 (.imul) 1 36 := ⟨by decide +kernel, rfl⟩
theorem zd_4_14_36 : zz_D zy_weightAt_4_14 36 (.iadd) 1 37 := ⟨by decide +kernel, rfl⟩
theorem zd_4_14_37 : zz_D zy_weightAt_4_14 37 (.iload 5) 2 39 := ⟨by decide +kernel, rfl⟩
theorem zd_4_14_39 : zz_D zy_weightAt_4_14 39 (.iadd) 1 40 := ⟨by decide +kernel, rfl⟩
theorem zd_4_14_40 : zz_D zy_weightAt_4_14 40 (.ireturn) 1 41 := ⟨by decide +kernel, rfl⟩
-- TensorForge$Layer weightAt (LTensorForge$Layer;IIII)I
abbrev zr_weightAt_4_14 : Room := { frames := 0, cells := 0, slots := 0, locals := 0 }
def zp_weightAt_4_14 (t : Int) (p0 : Int) (p1 : Int) (p2 : Int) (p3 : Int) (p4 : Int) (S0 : zz_S) : Int → zz_S → Prop := fun r S => S0 = S ∧ ((-2147483648) ≤ r ∧ r ≤ 2147483647)
theorem zc_weightAt_4_14 {g : mm_G} {l : Launch} (t : Int) (p0 : Int) (p1 : Int) (p2 : Int) (p3 : Int) (p4 : Int) (S0 : zz_S) (n : Nat) (hn : zz_end ≤ n) (G_S0 : zz_G S0) (ht : 0 ≤ t ∧ t ≤ 23) (hp0 : 0 ≤ p0 ∧ p0 ≤ 23) (hp1 : (-2147483648) ≤ p1 ∧ p1 ≤ 2147483647) (hp2 : (-2147483648) ≤ p2 ∧ p2 ≤ 2147483647) (hp3 : (-2147483648) ≤ p3 ∧ p3 ≤ 2147483647) (hp4 : (-2147483648) ≤ p4 ∧ p4 ≤ 2147483647) : mm_Met g l zy_weightAt_4_14 zr_weightAt_4_14 [.ref (zz_rf 6 t), .ref (zz_rf 6 p0), zi p1, zi p2, zi p3, zi p4] (zz_M S0 n) n (zz_QI n (zp_weightAt_4_14 t p0 p1 p2 p3 p4 S0)) := by
  refine zz_enter (by decide) (Nat.le_of_ble_eq_true rfl) (zz_less (ls1 := [some (.ref (zz_rf 6 t)), some (.ref (zz_rf 6 p0)), some (zi p1), some (zi p2), some (zi p3), some (zi p4)]) ⟨rfl, ⟨rfl, ⟨rfl, ⟨rfl, ⟨rfl, ⟨rfl, trivial⟩⟩⟩⟩⟩⟩ ?_)
  have b_p0 := zz_rf6 (z := p0) (by omega)
  have b_t := zz_rf6 (z := t) (by omega)
  refine zz_iload_n (x := p1) rfl zd_4_14_0 ?_
  refine zz_aload_n (x := zz_rf 6 t) rfl zd_4_14_1 ?_
  have g1 := zz_G.r G_S0 (zz_rf 6 t) 4 (-2147483648) 2147483647 (zR_k6_4 (by omega)) (zB_k6 (by omega))
  refine zz_geti (z := S0 (zz_rf 6 t) 4) zd_4_14_2 zf_Layer_26 (zT_k6 (by omega)) rfl (zN_k6 hn (by omega)) rfl ?_
  refine zz_imul zd_4_14_5 ?_
  refine zz_nrm (fun v2 hv2 ev2 => ?_)
  refine zz_iload_n (x := p2) rfl zd_4_14_6 ?_
  refine zz_iadd zd_4_14_7 ?_
  refine zz_nrm (fun v3 hv3 ev3 => ?_)
  refine zz_aload_n (x := zz_rf 6 p0) rfl zd_4_14_8 ?_
  have g4 := zz_G.r G_S0 (zz_rf 6 p0) 12 (-2147483648) 2147483647 (zR_k6_12 (by omega)) (zB_k6 (by omega))
  refine zz_geti (z := S0 (zz_rf 6 p0) 12) zd_4_14_9 zf_Layer_60 (zT_k6 (by omega)) rfl (zN_k6 hn (by omega)) rfl ?_
  refine zz_imul zd_4_14_12 ?_
  refine zz_nrm (fun v5 hv5 ev5 => ?_)
  refine zz_iload (x := p3) rfl zd_4_14_13 ?_
  refine zz_iadd zd_4_14_15 ?_
  refine zz_nrm (fun v6 hv6 ev6 => ?_)
  refine zz_istore [some (.ref (zz_rf 6 t)), some (.ref (zz_rf 6 p0)), some (zi p1), some (zi p2), some (zi p3), some (zi p4), some (zi v6)] zd_4_14_16 (by decide) rfl ?_
  refine zz_aload_n (x := zz_rf 6 t) rfl zd_4_14_18 ?_
  have g7 := zz_G.r G_S0 (zz_rf 6 t) 9 (-2147483648) 2147483647 (zR_k6_9 (by omega)) (zB_k6 (by omega))
  refine zz_geti (z := S0 (zz_rf 6 t) 9) zd_4_14_19 zf_Layer_42 (zT_k6 (by omega)) rfl (zN_k6 hn (by omega)) rfl ?_
  refine zz_iconst zd_4_14_22 ?_
  refine zz_aload_n (x := zz_rf 6 t) rfl zd_4_14_23 ?_
  have g8 := zz_G.r G_S0 (zz_rf 6 t) 12 (-2147483648) 2147483647 (zR_k6_12 (by omega)) (zB_k6 (by omega))
  refine zz_geti (z := S0 (zz_rf 6 t) 12) zd_4_14_24 zf_Layer_60 (zT_k6 (by omega)) rfl (zN_k6 hn (by omega)) rfl ?_
  refine zz_imul zd_4_14_27 ?_
  refine zz_nrm (fun v9 hv9 ev9 => ?_)
  refine zz_iadd zd_4_14_28 ?_
  refine zz_nrm (fun v10 hv10 ev10 => ?_)
  refine zz_iload (x := v6) rfl zd_4_14_29 ?_
  refine zz_aload_n (x := zz_rf 6 t) rfl zd_4_14_31 ?_
  refine zz_geti (z := S0 (zz_rf 6 t) 12) zd_4_14_32 zf_Layer_60 (zT_k6 (by omega)) rfl (zN_k6 hn (by omega)) rfl ?_
  refine zz_imul zd_4_14_35 ?_
  refine zz_nrm (fun v11 hv11 ev11 => ?_)
  refine zz_iadd zd_4_14_36 ?_
  refine zz_nrm (fun v12 hv12 ev12 => ?_)
  refine zz_iload (x := p4) rfl zd_4_14_37 ?_
  refine zz_iadd zd_4_14_39 ?_
  refine zz_nrm (fun v13 hv13 ev13 => ?_)
  exact zz_iret zd_4_14_40 rfl (Nat.zero_le _) (Nat.zero_le _) ⟨_, _, rfl, rfl, by omega⟩
theorem zk_Layer_113 : mm_Vl "TensorForge$Layer" 113 2 5 zy_weightAt_4_14 := ⟨zyw_weightAt_4_14, (R_Layer, F_Layer, 15), rfl, mm_tb_1 887 (by decide +kernel) rfl, mm_tb_1 888 (by decide +kernel) rfl, mm_tb_1 889 (by decide +kernel) rfl⟩
theorem zd_4_20_110 : zz_D zy_convolved_4_20 110 (.invokevirtual 117) 3 113 := ⟨by decide +kernel, rfl⟩
abbrev zy_product_4_21 : mm_Y := (⟨"TensorForge$Layer", "product", "([BLTensorForge$Layer;II)I"⟩, prog_4_method_21_code, 7, (some .int))
theorem zyw_product_4_21 : mm_Yw zy_product_4_21 4 := ⟨mm_tb_1 894 (by decide +kernel) rfl, mm_tb_1 3 (by decide +kernel) rfl, ⟨by decide, by decide⟩, by decide +kernel⟩
theorem zd_4_21_0 : zz_D zy_product_4_21 0 (.iconst 0) 1 1 := ⟨by decide +kernel, rfl⟩
theorem zd_4_21_1 : zz_D zy_product_4_21 1 (.istore 5) 2 3 := ⟨by decide +kernel, rfl⟩
theorem zd_4_21_3 : zz_D zy_product_4_21 3 (.iconst 0) 1 4 := ⟨by decide +kernel, rfl⟩
theorem zd_4_21_4 : zz_D zy_product_4_21 4 (.istore 6) 2 6 := ⟨by decide +kernel, rfl⟩
theorem zd_4_21_6 : zz_D zy_product_4_21 6 (.iload 6) 2 8 := ⟨by decide +kernel, rfl⟩
theorem zd_4_21_8 : zz_D zy_product_4_21 8 (.aload_n 2) 1 9 := ⟨by decide +kernel, rfl⟩
theorem zd_4_21_9 : zz_D zy_product_4_21 9 (.getfield 60) 3 12 := ⟨by decide +kernel, rfl⟩
theorem zd_4_21_12 : zz_B zy_product_4_21 12 (Instr.if_icmp .ge) 49 15 := ⟨37, by decide +kernel, rfl, rfl⟩
theorem zd_4_21_49 : zz_D zy_product_4_21 49 (.iload 5) 2 51 := ⟨by decide +kernel, rfl⟩
theorem zd_4_21_51 : zz_D zy_product_4_21 51 (.ireturn) 1 52 := ⟨by decide +kernel, rfl⟩
theorem zd_4_21_15 : zz_D zy_product_4_21 15 (.iload 5) 2 17 := ⟨by decide +kernel, rfl⟩
theorem zd_4_21_17 : zz_D zy_product_4_21 17 (.aload_n 1) 1 18 := ⟨by decide +kernel, rfl⟩
theorem zd_4_21_18 : zz_D zy_product_4_21 18 (.iload_n 3) 1 19 := ⟨by decide +kernel, rfl⟩
theorem zd_4_21_19 : zz_D zy_product_4_21 19 (.iload 6) 2 21 := ⟨by decide +kernel, rfl⟩
theorem zd_4_21_21 : zz_D zy_product_4_21 21 (.iadd) 1 22 := ⟨by decide +kernel, rfl⟩
theorem zd_4_21_22 : zz_D zy_product_4_21 22 (.invokestatic 98) 3 25 := ⟨by decide +kernel, rfl⟩
theorem zd_4_21_25 : zz_D zy_product_4_21 25 (.aload_n 1) 1 26 := ⟨by decide +kernel, rfl⟩
theorem zd_4_21_26 : zz_D zy_product_4_21 26 (.iload 4) 2 28 := ⟨by decide +kernel, rfl⟩
theorem zd_4_21_28 : zz_D zy_product_4_21 28 (.iload 6) 2 30 := ⟨by decide +kernel, rfl⟩
theorem zd_4_21_30 : zz_D zy_product_4_21 30 (.aload_n 0) 1 31 := ⟨by decide +kernel, rfl⟩
theorem zd_4_21_31 : zz_D zy_product_4_21 31 (.getfield 60) 3 34 := ⟨by decide +kernel, rfl⟩
theorem zd_4_21_34 : zz_D zy_product_4_21 34 (.imul) 1 35 := ⟨by decide +kernel, rfl⟩
theorem zd_4_21_35 : zz_D zy_product_4_21 35 (.iadd) 1 36 := ⟨by decide +kernel, rfl⟩
theorem zd_4_21_36 : zz_D zy_product_4_21 36 (.invokestatic 98) 3 39 := ⟨by decide +kernel, rfl⟩
theorem zd_4_21_39 : zz_D zy_product_4_21 39 (.imul) 1 40 := ⟨by decide +kernel, rfl⟩
theorem zd_4_21_40 : zz_D zy_product_4_21 40 (.iadd) 1 41 := ⟨by decide +kernel, rfl⟩
theorem zd_4_21_41 : zz_D zy_product_4_21 41 (.istore 5) 2 43 := ⟨by decide +kernel, rfl⟩
theorem zd_4_21_43 : zz_D zy_product_4_21 43 (.iinc 6 1) 3 46 := ⟨by decide +kernel, rfl⟩
theorem zd_4_21_46 : zz_B zy_product_4_21 46 Instr.goto 6 49 := ⟨(-40), by decide +kernel, rfl, rfl⟩
-- TensorForge$Layer product ([BLTensorForge$Layer;II)I
abbrev zr_product_4_21 : Room := { frames := 1, cells := 0, slots := 0, locals := 15 }
def zp_product_4_21 (t : Int) (p1 : Int) (p2 : Int) (p3 : Int) (S0 : zz_S) : Int → zz_S → Prop := fun r S => S0 = S ∧ ((-2147483648) ≤ r ∧ r ≤ 2147483647)
theorem zb_product_4_21_6 {g : mm_G} {l : Launch} (t : Int) (p1 : Int) (p2 : Int) (p3 : Int) (S0 : zz_S) (n : Nat) (hn : zz_end ≤ n) (G_S0 : zz_G S0) (ht : 0 ≤ t ∧ t ≤ 23) (hp1 : 0 ≤ p1 ∧ p1 ≤ 23) (hp2 : (-2147483648) ≤ p2 ∧ p2 ≤ 2147483647) (hp3 : (-2147483648) ≤ p3 ∧ p3 ≤ 2147483647) (x5 : Int) (x6 : Int) (S : zz_S) (G_S : zz_G S) (F_S : zz_fr [] [] (fun _ _ => False) S0 S) (i6_0 : (-2147483648) ≤ x5 ∧ x5 ≤ 2147483647) (i6_1 : 0 ≤ x6 ∧ x6 ≤ 2147483647) (R : Nat) (hR : (2147483647 - x6).toNat = R) (k6 : ∀ (x5 : Int) (x6 : Int) (S : zz_S), zz_G S → zz_fr [] [] (fun _ _ => False) S0 S → ((-2147483648) ≤ x5 ∧ x5 ≤ 2147483647) → (0 ≤ x6 ∧ x6 ≤ 2147483647) → (2147483647 - x6).toNat < R → zz_E g l zy_product_4_21 zr_product_4_21 (zz_QI n (zp_product_4_21 t p1 p2 p3 S0)) S n 6 [some (.ref (zz_rf 6 t)), some (.ref 1032), some (.ref (zz_rf 6 p1)), some (zi p2), some (zi p3), some (zi x5), some (zi x6)] [] 0 0) : zz_E g l zy_product_4_21 zr_product_4_21 (zz_QI n (zp_product_4_21 t p1 p2 p3 S0)) S n 6 [some (.ref (zz_rf 6 t)), some (.ref 1032), some (.ref (zz_rf 6 p1)), some (zi p2), some (zi p3), some (zi x5), some (zi x6)] [] 0 0 := by
  have b_p1 := zz_rf6 (z := p1) (by omega)
  have b_t := zz_rf6 (z := t) (by omega)
  refine zz_iload (x := x6) rfl zd_4_21_6 ?_
  refine zz_aload_n (x := zz_rf 6 p1) rfl zd_4_21_8 ?_
  have g1 := zz_G.r G_S0 (zz_rf 6 p1) 12 (-2147483648) 2147483647 (zR_k6_12 (by omega)) (zB_k6 (by omega))
  refine zz_geti (z := S0 (zz_rf 6 p1) 12) zd_4_21_9 zf_Layer_60 (zT_k6 (by omega)) rfl (zN_k6 hn (by omega)) (zz_rc F_S (zP_k6 (by omega) rfl) (zQ_k6 (by omega) rfl) (fun h => h) rfl) ?_
  refine zz_icmp_ge (by omega) (by omega) zd_4_21_12 (fun c2 => ?_) (fun c2 => ?_)
  · refine zz_iload (x := x5) rfl zd_4_21_49 ?_
    exact zz_iret zd_4_21_51 rfl (Nat.zero_le _) (Nat.zero_le _) ⟨_, _, rfl, zz_fr.eq F_S, by omega⟩
  · refine zz_iload (x := x5) rfl zd_4_21_15 ?_
    refine zz_aload_n (x := 1032) rfl zd_4_21_17 ?_
    refine zz_iload_n (x := p2) rfl zd_4_21_18 ?_
    refine zz_iload (x := x6) rfl zd_4_21_19 ?_
    refine zz_iadd zd_4_21_21 ?_
    refine zz_nrm (fun v3 hv3 ev3 => ?_)
    refine zz_callSI [.ref 1032, zi v3] zd_4_21_22 zk_Layer_98 rfl rfl ⟨Nat.le_of_ble_eq_true rfl, Nat.le_of_ble_eq_true rfl⟩ ⟨rfl, rfl⟩ (Nat.zero_le _) (Nat.zero_le _) (zc_byteAt_4_17 v3 S n hn G_S (by omega)) (fun v5 S4 hP => ?_)
    obtain ⟨rfl, o6⟩ := hP
    refine zz_aload_n (x := 1032) rfl zd_4_21_25 ?_
    refine zz_iload (x := p3) rfl zd_4_21_26 ?_
    refine zz_iload (x := x6) rfl zd_4_21_28 ?_
    refine zz_aload_n (x := zz_rf 6 t) rfl zd_4_21_30 ?_
    have g7 := zz_G.r G_S0 (zz_rf 6 t) 12 (-2147483648) 2147483647 (zR_k6_12 (by omega)) (zB_k6 (by omega))
    refine zz_geti (z := S0 (zz_rf 6 t) 12) zd_4_21_31 zf_Layer_60 (zT_k6 (by omega)) rfl (zN_k6 hn (by omega)) (zz_rc F_S (zP_k6 (by omega) rfl) (zQ_k6 (by omega) rfl) (fun h => h) rfl) ?_
    refine zz_imul zd_4_21_34 ?_
    refine zz_nrm (fun v8 hv8 ev8 => ?_)
    refine zz_iadd zd_4_21_35 ?_
    refine zz_nrm (fun v9 hv9 ev9 => ?_)
    refine zz_callSI [.ref 1032, zi v9] zd_4_21_36 zk_Layer_98 rfl rfl ⟨Nat.le_of_ble_eq_true rfl, Nat.le_of_ble_eq_true rfl⟩ ⟨rfl, rfl⟩ (Nat.zero_le _) (Nat.zero_le _) (zc_byteAt_4_17 v9 S n hn G_S (by omega)) (fun v11 S10 hP => ?_)
    obtain ⟨rfl, o12⟩ := hP
    refine zz_imul zd_4_21_39 ?_
    refine zz_nrm (fun v13 hv13 ev13 => ?_)
    refine zz_iadd zd_4_21_40 ?_
    refine zz_nrm (fun v14 hv14 ev14 => ?_)
    refine zz_istore [some (.ref (zz_rf 6 t)), some (.ref 1032), some (.ref (zz_rf 6 p1)), some (zi p2), some (zi p3), some (zi v14), some (zi x6)] zd_4_21_41 (by decide) rfl ?_
    refine zz_iinc [some (.ref (zz_rf 6 t)), some (.ref 1032), some (.ref (zz_rf 6 p1)), some (zi p2), some (zi p3), some (zi v14), some (zi (x6 + 1))] zd_4_21_43 rfl rfl ?_
    refine zz_goto zd_4_21_46 ?_
    refine zz_less (ls1 := [some (.ref (zz_rf 6 t)), some (.ref 1032), some (.ref (zz_rf 6 p1)), some (zi p2), some (zi p3), some (zi v14), some (zi (x6 + 1))]) ⟨rfl, ⟨rfl, ⟨rfl, ⟨rfl, ⟨rfl, ⟨rfl, ⟨rfl, trivial⟩⟩⟩⟩⟩⟩⟩ ?_
    exact k6 v14 (x6 + 1) S G_S F_S (by omega) (by omega) (by omega)
theorem zi_product_4_21 {g : mm_G} {l : Launch} (t : Int) (p1 : Int) (p2 : Int) (p3 : Int) (S0 : zz_S) (n : Nat) (hn : zz_end ≤ n) (G_S0 : zz_G S0) (ht : 0 ≤ t ∧ t ≤ 23) (hp1 : 0 ≤ p1 ∧ p1 ≤ 23) (hp2 : (-2147483648) ≤ p2 ∧ p2 ≤ 2147483647) (hp3 : (-2147483648) ≤ p3 ∧ p3 ≤ 2147483647) : ∀ N : Nat, (∀ (x5 : Int) (x6 : Int) (S : zz_S), zz_G S → zz_fr [] [] (fun _ _ => False) S0 S → ((-2147483648) ≤ x5 ∧ x5 ≤ 2147483647) → (0 ≤ x6 ∧ x6 ≤ 2147483647) → (2147483647 - x6).toNat < N → zz_E g l zy_product_4_21 zr_product_4_21 (zz_QI n (zp_product_4_21 t p1 p2 p3 S0)) S n 6 [some (.ref (zz_rf 6 t)), some (.ref 1032), some (.ref (zz_rf 6 p1)), some (zi p2), some (zi p3), some (zi x5), some (zi x6)] [] 0 0) := by
  intro N
  induction N with
  | zero => exact fun x5 x6 S _ _ _ _ h => absurd h (Nat.not_lt_zero _)
  | succ N ih =>
    exact fun x5 x6 S a b j0 j1 hR => zb_product_4_21_6 t p1 p2 p3 S0 n hn G_S0 ht hp1 hp2 hp3 x5 x6 S a b j0 j1 _ rfl (fun x5 x6 S a b j0 j1 h => ih x5 x6 S a b j0 j1 (Nat.lt_of_lt_of_le h (Nat.le_of_lt_succ hR)))
theorem zc_product_4_21 {g : mm_G} {l : Launch} (t : Int) (p1 : Int) (p2 : Int) (p3 : Int) (S0 : zz_S) (n : Nat) (hn : zz_end ≤ n) (G_S0 : zz_G S0) (ht : 0 ≤ t ∧ t ≤ 23) (hp1 : 0 ≤ p1 ∧ p1 ≤ 23) (hp2 : (-2147483648) ≤ p2 ∧ p2 ≤ 2147483647) (hp3 : (-2147483648) ≤ p3 ∧ p3 ≤ 2147483647) : mm_Met g l zy_product_4_21 zr_product_4_21 [.ref (zz_rf 6 t), .ref 1032, .ref (zz_rf 6 p1), zi p2, zi p3] (zz_M S0 n) n (zz_QI n (zp_product_4_21 t p1 p2 p3 S0)) := by
  refine zz_enter (by decide) (Nat.le_of_ble_eq_true rfl) (zz_less (ls1 := [some (.ref (zz_rf 6 t)), some (.ref 1032), some (.ref (zz_rf 6 p1)), some (zi p2), some (zi p3)]) ⟨rfl, ⟨rfl, ⟨rfl, ⟨rfl, ⟨rfl, trivial⟩⟩⟩⟩⟩ ?_)
  have F_S0 : zz_fr [] [] (fun _ _ => False) S0 S0 := zz_fr.refl
  have k6 : ∀ (x5 : Int) (x6 : Int) (S : zz_S), zz_G S → zz_fr [] [] (fun _ _ => False) S0 S → ((-2147483648) ≤ x5 ∧ x5 ≤ 2147483647) → (0 ≤ x6 ∧ x6 ≤ 2147483647) → zz_E g l zy_product_4_21 zr_product_4_21 (zz_QI n (zp_product_4_21 t p1 p2 p3 S0)) S n 6 [some (.ref (zz_rf 6 t)), some (.ref 1032), some (.ref (zz_rf 6 p1)), some (zi p2), some (zi p3), some (zi x5), some (zi x6)] [] 0 0 := fun x5 x6 S a b j0 j1 => (zi_product_4_21 (g := g) (l := l) t p1 p2 p3 S0 n hn G_S0 ht hp1 hp2 hp3 _) x5 x6 S a b j0 j1 (Nat.lt_succ_self _)
  have b_p1 := zz_rf6 (z := p1) (by omega)
  have b_t := zz_rf6 (z := t) (by omega)
  refine zz_iconst zd_4_21_0 ?_
  refine zz_istore [some (.ref (zz_rf 6 t)), some (.ref 1032), some (.ref (zz_rf 6 p1)), some (zi p2), some (zi p3), some (zi 0)] zd_4_21_1 (by decide) rfl ?_
  refine zz_iconst zd_4_21_3 ?_
  refine zz_istore [some (.ref (zz_rf 6 t)), some (.ref 1032), some (.ref (zz_rf 6 p1)), some (zi p2), some (zi p3), some (zi 0), some (zi 0)] zd_4_21_4 (by decide) rfl ?_
  refine zz_less (ls1 := [some (.ref (zz_rf 6 t)), some (.ref 1032), some (.ref (zz_rf 6 p1)), some (zi p2), some (zi p3), some (zi 0), some (zi 0)]) ⟨rfl, ⟨rfl, ⟨rfl, ⟨rfl, ⟨rfl, ⟨rfl, ⟨rfl, trivial⟩⟩⟩⟩⟩⟩⟩ ?_
  exact k6 0 0 S0 G_S0 F_S0 (by omega) (by omega)
theorem zk_Layer_117 : mm_Vl "TensorForge$Layer" 117 2 4 zy_product_4_21 := ⟨zyw_product_4_21, (R_Layer, F_Layer, 15), rfl, mm_tb_1 891 (by decide +kernel) rfl, mm_tb_1 893 (by decide +kernel) rfl, mm_tb_s 39 (by decide +kernel) rfl⟩
theorem zd_4_20_113 : zz_D zy_convolved_4_20 113 (.iadd) 1 114 := ⟨by decide +kernel, rfl⟩
theorem zd_4_20_114 : zz_D zy_convolved_4_20 114 (.istore 6) 2 116 := ⟨by decide +kernel, rfl⟩
-- TensorForge$Layer convolved ([BLTensorForge$Layer;III)I
abbrev zr_convolved_4_20 : Room := { frames := 2, cells := 0, slots := 0, locals := 34 }
def zp_convolved_4_20 (t : Int) (p1 : Int) (p2 : Int) (p3 : Int) (p4 : Int) (S0 : zz_S) : Int → zz_S → Prop := fun r S => S0 = S ∧ ((-2147483648) ≤ r ∧ r ≤ 2147483647)
theorem zb_convolved_4_20_15 {g : mm_G} {l : Launch} (t : Int) (p1 : Int) (p2 : Int) (p3 : Int) (p4 : Int) (S0 : zz_S) (n : Nat) (hn : zz_end ≤ n) (G_S0 : zz_G S0) (ht : 0 ≤ t ∧ t ≤ 23) (hp1 : 0 ≤ p1 ∧ p1 ≤ 23) (hp2 : (-2147483648) ≤ p2 ∧ p2 ≤ 2147483647) (hp3 : (-2147483648) ≤ p3 ∧ p3 ≤ 2147483647) (hp4 : (-2147483648) ≤ p4 ∧ p4 ≤ 2147483647) (x6 : Int) (x7 : Int) (S : zz_S) (G_S : zz_G S) (F_S : zz_fr [] [] (fun _ _ => False) S0 S) (i15_0 : (-2147483648) ≤ x6 ∧ x6 ≤ 2147483647) (i15_1 : (-2147483648) ≤ x7 ∧ x7 ≤ 2147483647) (R : Nat) (hR : (34359738368 + (S (zz_rf 6 t) 3 - x7).toNat) * 1099511627776 + 1099511627775 = R) (k27 : ∀ (x6 : Int) (x7 : Int) (x8 : Int) (S : zz_S), zz_G S → zz_fr [] [] (fun _ _ => False) S0 S → ((-2147483648) ≤ x6 ∧ x6 ≤ 2147483647) → ((-2147483648) ≤ x7 ∧ x7 ≤ 2147483647) → (0 ≤ x8 ∧ x8 ≤ 2147483647) → (34359738368 + (S (zz_rf 6 t) 3 - x7).toNat) * 1099511627776 + (17179869184 + (S (zz_rf 6 t) 4 - x8).toNat) < R → zz_E g l zy_convolved_4_20 zr_convolved_4_20 (zz_QI n (zp_convolved_4_20 t p1 p2 p3 p4 S0)) S n 27 [some (.ref (zz_rf 6 t)), some (.ref 1032), some (.ref (zz_rf 6 p1)), some (zi p2), some (zi p3), some (zi p4), some (zi x6), some (zi x7), some (zi x8)] [] 0 0) : zz_E g l zy_convolved_4_20 zr_convolved_4_20 (zz_QI n (zp_convolved_4_20 t p1 p2 p3 p4 S0)) S n 15 [some (.ref (zz_rf 6 t)), some (.ref 1032), some (.ref (zz_rf 6 p1)), some (zi p2), some (zi p3), some (zi p4), some (zi x6), some (zi x7)] [] 0 0 := by
  have b_p1 := zz_rf6 (z := p1) (by omega)
  have b_t := zz_rf6 (z := t) (by omega)
  refine zz_iload (x := x7) rfl zd_4_20_15 ?_
  refine zz_aload_n (x := zz_rf 6 t) rfl zd_4_20_17 ?_
  have g7 := zz_G.r G_S0 (zz_rf 6 t) 3 (-2147483648) 2147483647 (zR_k6_3 (by omega)) (zB_k6 (by omega))
  refine zz_geti (z := S0 (zz_rf 6 t) 3) zd_4_20_18 zf_Layer_23 (zT_k6 (by omega)) rfl (zN_k6 hn (by omega)) (zz_rc F_S (zP_k6 (by omega) rfl) (zQ_k6 (by omega) rfl) (fun h => h) rfl) ?_
  refine zz_icmp_ge (by omega) (by omega) zd_4_20_21 (fun c8 => ?_) (fun c8 => ?_)
  · refine zz_iload (x := x6) rfl zd_4_20_128 ?_
    exact zz_iret zd_4_20_130 rfl (Nat.zero_le _) (Nat.zero_le _) ⟨_, _, rfl, zz_fr.eq F_S, by omega⟩
  · refine zz_iconst zd_4_20_24 ?_
    refine zz_istore [some (.ref (zz_rf 6 t)), some (.ref 1032), some (.ref (zz_rf 6 p1)), some (zi p2), some (zi p3), some (zi p4), some (zi x6), some (zi x7), some (zi 0)] zd_4_20_25 (by decide) rfl ?_
    refine zz_less (ls1 := [some (.ref (zz_rf 6 t)), some (.ref 1032), some (.ref (zz_rf 6 p1)), some (zi p2), some (zi p3), some (zi p4), some (zi x6), some (zi x7), some (zi 0)]) ⟨rfl, ⟨rfl, ⟨rfl, ⟨rfl, ⟨rfl, ⟨rfl, ⟨rfl, ⟨rfl, ⟨rfl, trivial⟩⟩⟩⟩⟩⟩⟩⟩⟩ ?_
    exact k27 x6 x7 0 S G_S F_S (by omega) (by omega) (by omega) (by omega)
theorem zb_convolved_4_20_27 {g : mm_G} {l : Launch} (t : Int) (p1 : Int) (p2 : Int) (p3 : Int) (p4 : Int) (S0 : zz_S) (n : Nat) (hn : zz_end ≤ n) (G_S0 : zz_G S0) (ht : 0 ≤ t ∧ t ≤ 23) (hp1 : 0 ≤ p1 ∧ p1 ≤ 23) (hp2 : (-2147483648) ≤ p2 ∧ p2 ≤ 2147483647) (hp3 : (-2147483648) ≤ p3 ∧ p3 ≤ 2147483647) (hp4 : (-2147483648) ≤ p4 ∧ p4 ≤ 2147483647) (x6 : Int) (x7 : Int) (x8 : Int) (S : zz_S) (G_S : zz_G S) (F_S : zz_fr [] [] (fun _ _ => False) S0 S) (i27_0 : (-2147483648) ≤ x6 ∧ x6 ≤ 2147483647) (i27_1 : (-2147483648) ≤ x7 ∧ x7 ≤ 2147483647) (i27_2 : 0 ≤ x8 ∧ x8 ≤ 2147483647) (R : Nat) (hR : (34359738368 + (S (zz_rf 6 t) 3 - x7).toNat) * 1099511627776 + (17179869184 + (S (zz_rf 6 t) 4 - x8).toNat) = R) (k15 : ∀ (x6 : Int) (x7 : Int) (S : zz_S), zz_G S → zz_fr [] [] (fun _ _ => False) S0 S → ((-2147483648) ≤ x6 ∧ x6 ≤ 2147483647) → ((-2147483648) ≤ x7 ∧ x7 ≤ 2147483647) → (34359738368 + (S (zz_rf 6 t) 3 - x7).toNat) * 1099511627776 + 1099511627775 < R → zz_E g l zy_convolved_4_20 zr_convolved_4_20 (zz_QI n (zp_convolved_4_20 t p1 p2 p3 p4 S0)) S n 15 [some (.ref (zz_rf 6 t)), some (.ref 1032), some (.ref (zz_rf 6 p1)), some (zi p2), some (zi p3), some (zi p4), some (zi x6), some (zi x7)] [] 0 0) (k27 : ∀ (x6 : Int) (x7 : Int) (x8 : Int) (S : zz_S), zz_G S → zz_fr [] [] (fun _ _ => False) S0 S → ((-2147483648) ≤ x6 ∧ x6 ≤ 2147483647) → ((-2147483648) ≤ x7 ∧ x7 ≤ 2147483647) → (0 ≤ x8 ∧ x8 ≤ 2147483647) → (34359738368 + (S (zz_rf 6 t) 3 - x7).toNat) * 1099511627776 + (17179869184 + (S (zz_rf 6 t) 4 - x8).toNat) < R → zz_E g l zy_convolved_4_20 zr_convolved_4_20 (zz_QI n (zp_convolved_4_20 t p1 p2 p3 p4 S0)) S n 27 [some (.ref (zz_rf 6 t)), some (.ref 1032), some (.ref (zz_rf 6 p1)), some (zi p2), some (zi p3), some (zi p4), some (zi x6), some (zi x7), some (zi x8)] [] 0 0) : zz_E g l zy_convolved_4_20 zr_convolved_4_20 (zz_QI n (zp_convolved_4_20 t p1 p2 p3 p4 S0)) S n 27 [some (.ref (zz_rf 6 t)), some (.ref 1032), some (.ref (zz_rf 6 p1)), some (zi p2), some (zi p3), some (zi p4), some (zi x6), some (zi x7), some (zi x8)] [] 0 0 := by
  have b_p1 := zz_rf6 (z := p1) (by omega)
  have b_t := zz_rf6 (z := t) (by omega)
  refine zz_iload (x := x8) rfl zd_4_20_27 ?_
  refine zz_aload_n (x := zz_rf 6 t) rfl zd_4_20_29 ?_
  have g9 := zz_G.r G_S0 (zz_rf 6 t) 4 (-2147483648) 2147483647 (zR_k6_4 (by omega)) (zB_k6 (by omega))
  refine zz_geti (z := S0 (zz_rf 6 t) 4) zd_4_20_30 zf_Layer_26 (zT_k6 (by omega)) rfl (zN_k6 hn (by omega)) (zz_rc F_S (zP_k6 (by omega) rfl) (zQ_k6 (by omega) rfl) (fun h => h) rfl) ?_
  refine zz_icmp_ge (by omega) (by omega) zd_4_20_33 (fun c10 => ?_) (fun c10 => ?_)
  · refine zz_iincN (fun v11 => [some (.ref (zz_rf 6 t)), some (.ref 1032), some (.ref (zz_rf 6 p1)), some (zi p2), some (zi p3), some (zi p4), some (zi x6), some (zi v11), some (zi x8)]) zd_4_20_122 rfl (fun _ => rfl) (fun v11 hv11 ev11 => ?_)
    refine zz_goto zd_4_20_125 ?_
    refine zz_less (ls1 := [some (.ref (zz_rf 6 t)), some (.ref 1032), some (.ref (zz_rf 6 p1)), some (zi p2), some (zi p3), some (zi p4), some (zi x6), some (zi v11)]) ⟨rfl, ⟨rfl, ⟨rfl, ⟨rfl, ⟨rfl, ⟨rfl, ⟨rfl, ⟨rfl, trivial⟩⟩⟩⟩⟩⟩⟩⟩ ?_
    exact k15 x6 v11 S G_S F_S (by omega) (by omega) (by omega)
  · refine zz_aload_n (x := zz_rf 6 t) rfl zd_4_20_36 ?_
    have g12 := zz_G.r G_S0 (zz_rf 6 t) 5 (-2147483648) 2147483647 (zR_k6_5 (by omega)) (zB_k6 (by omega))
    refine zz_geti (z := S0 (zz_rf 6 t) 5) zd_4_20_37 zf_Layer_29 (zT_k6 (by omega)) rfl (zN_k6 hn (by omega)) (zz_rc F_S (zP_k6 (by omega) rfl) (zQ_k6 (by omega) rfl) (fun h => h) rfl) ?_
    refine zz_iload_n (x := p2) rfl zd_4_20_40 ?_
    refine zz_imul zd_4_20_41 ?_
    refine zz_nrm (fun v13 hv13 ev13 => ?_)
    refine zz_iload (x := x7) rfl zd_4_20_42 ?_
    refine zz_iadd zd_4_20_44 ?_
    refine zz_nrm (fun v14 hv14 ev14 => ?_)
    refine zz_aload_n (x := zz_rf 6 t) rfl zd_4_20_45 ?_
    have g15 := zz_G.r G_S0 (zz_rf 6 t) 6 (-2147483648) 2147483647 (zR_k6_6 (by omega)) (zB_k6 (by omega))
    refine zz_geti (z := S0 (zz_rf 6 t) 6) zd_4_20_46 zf_Layer_32 (zT_k6 (by omega)) rfl (zN_k6 hn (by omega)) (zz_rc F_S (zP_k6 (by omega) rfl) (zQ_k6 (by omega) rfl) (fun h => h) rfl) ?_
    refine zz_isub zd_4_20_49 ?_
    refine zz_nrm (fun v16 hv16 ev16 => ?_)
    refine zz_istore [some (.ref (zz_rf 6 t)), some (.ref 1032), some (.ref (zz_rf 6 p1)), some (zi p2), some (zi p3), some (zi p4), some (zi x6), some (zi x7), some (zi x8), some (zi v16)] zd_4_20_50 (by decide) rfl ?_
    refine zz_aload_n (x := zz_rf 6 t) rfl zd_4_20_52 ?_
    refine zz_geti (z := S0 (zz_rf 6 t) 5) zd_4_20_53 zf_Layer_29 (zT_k6 (by omega)) rfl (zN_k6 hn (by omega)) (zz_rc F_S (zP_k6 (by omega) rfl) (zQ_k6 (by omega) rfl) (fun h => h) rfl) ?_
    refine zz_iload (x := p3) rfl zd_4_20_56 ?_
    refine zz_imul zd_4_20_58 ?_
    refine zz_nrm (fun v17 hv17 ev17 => ?_)
    refine zz_iload (x := x8) rfl zd_4_20_59 ?_
    refine zz_iadd zd_4_20_61 ?_
    refine zz_nrm (fun v18 hv18 ev18 => ?_)
    refine zz_aload_n (x := zz_rf 6 t) rfl zd_4_20_62 ?_
    refine zz_geti (z := S0 (zz_rf 6 t) 6) zd_4_20_63 zf_Layer_32 (zT_k6 (by omega)) rfl (zN_k6 hn (by omega)) (zz_rc F_S (zP_k6 (by omega) rfl) (zQ_k6 (by omega) rfl) (fun h => h) rfl) ?_
    refine zz_isub zd_4_20_66 ?_
    refine zz_nrm (fun v19 hv19 ev19 => ?_)
    refine zz_istore [some (.ref (zz_rf 6 t)), some (.ref 1032), some (.ref (zz_rf 6 p1)), some (zi p2), some (zi p3), some (zi p4), some (zi x6), some (zi x7), some (zi x8), some (zi v16), some (zi v19)] zd_4_20_67 (by decide) rfl ?_
    refine zz_aload_n (x := zz_rf 6 p1) rfl zd_4_20_69 ?_
    refine zz_iload (x := v16) rfl zd_4_20_70 ?_
    refine zz_iload (x := v19) rfl zd_4_20_72 ?_
    refine zz_callVI [zi v16, zi v19] zd_4_20_74 zk_Layer_109 (zT_k6 (by omega)) (zN_k6 hn (by omega)) rfl rfl ⟨Nat.le_of_ble_eq_true rfl, Nat.le_of_ble_eq_true rfl⟩ ⟨rfl, rfl⟩ (Nat.zero_le _) (Nat.zero_le _) (zc_hasPlace_4_16 p1 v16 v19 S n hn G_S (by omega) (by omega) (by omega)) (fun v21 S20 hP => ?_)
    obtain ⟨rfl, o22⟩ := hP
    rcases (by omega : v21 = 0 ∨ v21 = 1) with rfl | rfl
    · refine zz_if_eq (by omega) zd_4_20_77 (fun c23 => ?_) (fun c23 => ?_)
      · refine zz_iinc [some (.ref (zz_rf 6 t)), some (.ref 1032), some (.ref (zz_rf 6 p1)), some (zi p2), some (zi p3), some (zi p4), some (zi x6), some (zi x7), some (zi (x8 + 1)), some (zi v16), some (zi v19)] zd_4_20_116 rfl rfl ?_
        refine zz_goto zd_4_20_119 ?_
        refine zz_less (ls1 := [some (.ref (zz_rf 6 t)), some (.ref 1032), some (.ref (zz_rf 6 p1)), some (zi p2), some (zi p3), some (zi p4), some (zi x6), some (zi x7), some (zi (x8 + 1))]) ⟨rfl, ⟨rfl, ⟨rfl, ⟨rfl, ⟨rfl, ⟨rfl, ⟨rfl, ⟨rfl, ⟨rfl, trivial⟩⟩⟩⟩⟩⟩⟩⟩⟩ ?_
        exact k27 x6 x7 (x8 + 1) S G_S F_S (by omega) (by omega) (by omega) (by omega)
      · exfalso; omega
    · refine zz_if_eq (by omega) zd_4_20_77 (fun c24 => ?_) (fun c24 => ?_)
      · exfalso; omega
      · refine zz_aload_n (x := zz_rf 6 p1) rfl zd_4_20_80 ?_
        refine zz_iload (x := v16) rfl zd_4_20_81 ?_
        refine zz_iload (x := v19) rfl zd_4_20_83 ?_
        refine zz_iconst zd_4_20_85 ?_
        refine zz_callVI [zi v16, zi v19, zi 0] zd_4_20_86 zk_Layer_75 (zT_k6 (by omega)) (zN_k6 hn (by omega)) rfl rfl ⟨Nat.le_of_ble_eq_true rfl, Nat.le_of_ble_eq_true rfl⟩ ⟨rfl, rfl⟩ (Nat.zero_le _) (Nat.zero_le _) (zc_cellAt_4_15 p1 v16 v19 0 S n hn G_S (by omega) (by omega) (by omega) (by omega)) (fun v26 S25 hP => ?_)
        obtain ⟨rfl, o27⟩ := hP
        refine zz_istore [some (.ref (zz_rf 6 t)), some (.ref 1032), some (.ref (zz_rf 6 p1)), some (zi p2), some (zi p3), some (zi p4), some (zi x6), some (zi x7), some (zi x8), some (zi v16), some (zi v19), some (zi v26)] zd_4_20_89 (by decide) rfl ?_
        refine zz_iload (x := x6) rfl zd_4_20_91 ?_
        refine zz_aload_n (x := zz_rf 6 t) rfl zd_4_20_93 ?_
        refine zz_aload_n (x := 1032) rfl zd_4_20_94 ?_
        refine zz_aload_n (x := zz_rf 6 p1) rfl zd_4_20_95 ?_
        refine zz_iload (x := v26) rfl zd_4_20_96 ?_
        refine zz_aload_n (x := zz_rf 6 t) rfl zd_4_20_98 ?_
        refine zz_aload_n (x := zz_rf 6 p1) rfl zd_4_20_99 ?_
        refine zz_iload (x := x7) rfl zd_4_20_100 ?_
        refine zz_iload (x := x8) rfl zd_4_20_102 ?_
        refine zz_iconst zd_4_20_104 ?_
        refine zz_iload (x := p4) rfl zd_4_20_105 ?_
        refine zz_callVI [.ref (zz_rf 6 p1), zi x7, zi x8, zi 0, zi p4] zd_4_20_107 zk_Layer_113 (zT_k6 (by omega)) (zN_k6 hn (by omega)) rfl rfl ⟨Nat.le_of_ble_eq_true rfl, Nat.le_of_ble_eq_true rfl⟩ ⟨rfl, rfl⟩ (Nat.zero_le _) (Nat.zero_le _) (zc_weightAt_4_14 t p1 x7 x8 0 p4 S n hn G_S (by omega) (by omega) (by omega) (by omega) (by omega) (by omega)) (fun v29 S28 hP => ?_)
        obtain ⟨rfl, o30⟩ := hP
        refine zz_callVI [.ref 1032, .ref (zz_rf 6 p1), zi v26, zi v29] zd_4_20_110 zk_Layer_117 (zT_k6 (by omega)) (zN_k6 hn (by omega)) rfl rfl ⟨Nat.le_of_ble_eq_true rfl, Nat.le_of_ble_eq_true rfl⟩ ⟨rfl, rfl⟩ (Nat.zero_le _) (Nat.zero_le _) (zc_product_4_21 t p1 v26 v29 S n hn G_S (by omega) (by omega) (by omega) (by omega)) (fun v32 S31 hP => ?_)
        obtain ⟨rfl, o33⟩ := hP
        refine zz_iadd zd_4_20_113 ?_
        refine zz_nrm (fun v34 hv34 ev34 => ?_)
        refine zz_istore [some (.ref (zz_rf 6 t)), some (.ref 1032), some (.ref (zz_rf 6 p1)), some (zi p2), some (zi p3), some (zi p4), some (zi v34), some (zi x7), some (zi x8), some (zi v16), some (zi v19), some (zi v26)] zd_4_20_114 (by decide) rfl ?_
        refine zz_iinc [some (.ref (zz_rf 6 t)), some (.ref 1032), some (.ref (zz_rf 6 p1)), some (zi p2), some (zi p3), some (zi p4), some (zi v34), some (zi x7), some (zi (x8 + 1)), some (zi v16), some (zi v19), some (zi v26)] zd_4_20_116 rfl rfl ?_
        refine zz_goto zd_4_20_119 ?_
        refine zz_less (ls1 := [some (.ref (zz_rf 6 t)), some (.ref 1032), some (.ref (zz_rf 6 p1)), some (zi p2), some (zi p3), some (zi p4), some (zi v34), some (zi x7), some (zi (x8 + 1))]) ⟨rfl, ⟨rfl, ⟨rfl, ⟨rfl, ⟨rfl, ⟨rfl, ⟨rfl, ⟨rfl, ⟨rfl, trivial⟩⟩⟩⟩⟩⟩⟩⟩⟩ ?_
        exact k27 v34 x7 (x8 + 1) S G_S F_S (by omega) (by omega) (by omega) (by omega)
theorem zi_convolved_4_20 {g : mm_G} {l : Launch} (t : Int) (p1 : Int) (p2 : Int) (p3 : Int) (p4 : Int) (S0 : zz_S) (n : Nat) (hn : zz_end ≤ n) (G_S0 : zz_G S0) (ht : 0 ≤ t ∧ t ≤ 23) (hp1 : 0 ≤ p1 ∧ p1 ≤ 23) (hp2 : (-2147483648) ≤ p2 ∧ p2 ≤ 2147483647) (hp3 : (-2147483648) ≤ p3 ∧ p3 ≤ 2147483647) (hp4 : (-2147483648) ≤ p4 ∧ p4 ≤ 2147483647) : ∀ N : Nat, (∀ (x6 : Int) (x7 : Int) (S : zz_S), zz_G S → zz_fr [] [] (fun _ _ => False) S0 S → ((-2147483648) ≤ x6 ∧ x6 ≤ 2147483647) → ((-2147483648) ≤ x7 ∧ x7 ≤ 2147483647) → (34359738368 + (S (zz_rf 6 t) 3 - x7).toNat) * 1099511627776 + 1099511627775 < N → zz_E g l zy_convolved_4_20 zr_convolved_4_20 (zz_QI n (zp_convolved_4_20 t p1 p2 p3 p4 S0)) S n 15 [some (.ref (zz_rf 6 t)), some (.ref 1032), some (.ref (zz_rf 6 p1)), some (zi p2), some (zi p3), some (zi p4), some (zi x6), some (zi x7)] [] 0 0) ∧ (∀ (x6 : Int) (x7 : Int) (x8 : Int) (S : zz_S), zz_G S → zz_fr [] [] (fun _ _ => False) S0 S → ((-2147483648) ≤ x6 ∧ x6 ≤ 2147483647) → ((-2147483648) ≤ x7 ∧ x7 ≤ 2147483647) → (0 ≤ x8 ∧ x8 ≤ 2147483647) → (34359738368 + (S (zz_rf 6 t) 3 - x7).toNat) * 1099511627776 + (17179869184 + (S (zz_rf 6 t) 4 - x8).toNat) < N → zz_E g l zy_convolved_4_20 zr_convolved_4_20 (zz_QI n (zp_convolved_4_20 t p1 p2 p3 p4 S0)) S n 27 [some (.ref (zz_rf 6 t)), some (.ref 1032), some (.ref (zz_rf 6 p1)), some (zi p2), some (zi p3), some (zi p4), some (zi x6), some (zi x7), some (zi x8)] [] 0 0) := by
  intro N
  induction N with
  | zero => exact ⟨fun x6 x7 S _ _ _ _ h => absurd h (Nat.not_lt_zero _), fun x6 x7 x8 S _ _ _ _ _ h => absurd h (Nat.not_lt_zero _)⟩
  | succ N ih =>
    exact ⟨fun x6 x7 S a b j0 j1 hR => zb_convolved_4_20_15 t p1 p2 p3 p4 S0 n hn G_S0 ht hp1 hp2 hp3 hp4 x6 x7 S a b j0 j1 _ rfl (fun x6 x7 x8 S a b j0 j1 j2 h => ih.2 x6 x7 x8 S a b j0 j1 j2 (Nat.lt_of_lt_of_le h (Nat.le_of_lt_succ hR))),
      fun x6 x7 x8 S a b j0 j1 j2 hR => zb_convolved_4_20_27 t p1 p2 p3 p4 S0 n hn G_S0 ht hp1 hp2 hp3 hp4 x6 x7 x8 S a b j0 j1 j2 _ rfl (fun x6 x7 S a b j0 j1 h => ih.1 x6 x7 S a b j0 j1 (Nat.lt_of_lt_of_le h (Nat.le_of_lt_succ hR))) (fun x6 x7 x8 S a b j0 j1 j2 h => ih.2 x6 x7 x8 S a b j0 j1 j2 (Nat.lt_of_lt_of_le h (Nat.le_of_lt_succ hR)))⟩
theorem zc_convolved_4_20 {g : mm_G} {l : Launch} (t : Int) (p1 : Int) (p2 : Int) (p3 : Int) (p4 : Int) (S0 : zz_S) (n : Nat) (hn : zz_end ≤ n) (G_S0 : zz_G S0) (ht : 0 ≤ t ∧ t ≤ 23) (hp1 : 0 ≤ p1 ∧ p1 ≤ 23) (hp2 : (-2147483648) ≤ p2 ∧ p2 ≤ 2147483647) (hp3 : (-2147483648) ≤ p3 ∧ p3 ≤ 2147483647) (hp4 : (-2147483648) ≤ p4 ∧ p4 ≤ 2147483647) : mm_Met g l zy_convolved_4_20 zr_convolved_4_20 [.ref (zz_rf 6 t), .ref 1032, .ref (zz_rf 6 p1), zi p2, zi p3, zi p4] (zz_M S0 n) n (zz_QI n (zp_convolved_4_20 t p1 p2 p3 p4 S0)) := by
  refine zz_enter (by decide) (Nat.le_of_ble_eq_true rfl) (zz_less (ls1 := [some (.ref (zz_rf 6 t)), some (.ref 1032), some (.ref (zz_rf 6 p1)), some (zi p2), some (zi p3), some (zi p4)]) ⟨rfl, ⟨rfl, ⟨rfl, ⟨rfl, ⟨rfl, ⟨rfl, trivial⟩⟩⟩⟩⟩⟩ ?_)
  have F_S0 : zz_fr [] [] (fun _ _ => False) S0 S0 := zz_fr.refl
  have k15 : ∀ (x6 : Int) (x7 : Int) (S : zz_S), zz_G S → zz_fr [] [] (fun _ _ => False) S0 S → ((-2147483648) ≤ x6 ∧ x6 ≤ 2147483647) → ((-2147483648) ≤ x7 ∧ x7 ≤ 2147483647) → zz_E g l zy_convolved_4_20 zr_convolved_4_20 (zz_QI n (zp_convolved_4_20 t p1 p2 p3 p4 S0)) S n 15 [some (.ref (zz_rf 6 t)), some (.ref 1032), some (.ref (zz_rf 6 p1)), some (zi p2), some (zi p3), some (zi p4), some (zi x6), some (zi x7)] [] 0 0 := fun x6 x7 S a b j0 j1 => (zi_convolved_4_20 (g := g) (l := l) t p1 p2 p3 p4 S0 n hn G_S0 ht hp1 hp2 hp3 hp4 _).1 x6 x7 S a b j0 j1 (Nat.lt_succ_self _)
  have b_p1 := zz_rf6 (z := p1) (by omega)
  have b_t := zz_rf6 (z := t) (by omega)
  refine zz_aload_n (x := 1032) rfl zd_4_20_0 ?_
  refine zz_aload_n (x := zz_rf 6 t) rfl zd_4_20_1 ?_
  refine zz_iload (x := p4) rfl zd_4_20_2 ?_
  refine zz_callVI [zi p4] zd_4_20_4 zk_Layer_102 (zT_k6 (by omega)) (zN_k6 hn (by omega)) rfl rfl ⟨Nat.le_of_ble_eq_true rfl, Nat.le_of_ble_eq_true rfl⟩ ⟨rfl, rfl⟩ (Nat.zero_le _) (Nat.zero_le _) (zc_biasAt_4_13 t p4 S0 n hn G_S0 (by omega) (by omega)) (fun v2 S1 hP => ?_)
  obtain ⟨rfl, o3⟩ := hP
  refine zz_callSI [.ref 1032, zi v2] zd_4_20_7 zk_Layer_106 rfl rfl ⟨Nat.le_of_ble_eq_true rfl, Nat.le_of_ble_eq_true rfl⟩ ⟨rfl, rfl⟩ (Nat.zero_le _) (Nat.zero_le _) (zc_intAt_6_4 v2 S0 n hn G_S0 (by omega)) (fun v5 S4 hP => ?_)
  obtain ⟨rfl, o6⟩ := hP
  refine zz_istore [some (.ref (zz_rf 6 t)), some (.ref 1032), some (.ref (zz_rf 6 p1)), some (zi p2), some (zi p3), some (zi p4), some (zi v5)] zd_4_20_10 (by decide) rfl ?_
  refine zz_iconst zd_4_20_12 ?_
  refine zz_istore [some (.ref (zz_rf 6 t)), some (.ref 1032), some (.ref (zz_rf 6 p1)), some (zi p2), some (zi p3), some (zi p4), some (zi v5), some (zi 0)] zd_4_20_13 (by decide) rfl ?_
  refine zz_less (ls1 := [some (.ref (zz_rf 6 t)), some (.ref 1032), some (.ref (zz_rf 6 p1)), some (zi p2), some (zi p3), some (zi p4), some (zi v5), some (zi 0)]) ⟨rfl, ⟨rfl, ⟨rfl, ⟨rfl, ⟨rfl, ⟨rfl, ⟨rfl, ⟨rfl, trivial⟩⟩⟩⟩⟩⟩⟩⟩ ?_
  exact k15 v5 0 S0 G_S0 F_S0 (by omega) (by omega)
theorem zk_Layer_91 : mm_Vl "TensorForge$Layer" 91 2 5 zy_convolved_4_20 := ⟨zyw_convolved_4_20, (R_Layer, F_Layer, 15), rfl, mm_tb_1 874 (by decide +kernel) rfl, mm_tb_1 876 (by decide +kernel) rfl, mm_tb_s 38 (by decide +kernel) rfl⟩
theorem zd_4_19_20 : zz_D zy_sumOf_4_19 20 (.ireturn) 1 21 := ⟨by decide +kernel, rfl⟩
-- TensorForge$Layer sumOf ([BLTensorForge$Layer;LTensorForge$Layer;III)I
abbrev zr_sumOf_4_19 : Room := { frames := 3, cells := 0, slots := 0, locals := 57 }
def zp_sumOf_4_19 (t : Int) (p1 : Int) (p2 : Int) (p3 : Int) (p4 : Int) (p5 : Int) (S0 : zz_S) : Int → zz_S → Prop := fun r S => S0 = S ∧ ((-2147483648) ≤ r ∧ r ≤ 2147483647)
theorem zc_sumOf_4_19 {g : mm_G} {l : Launch} (t : Int) (p1 : Int) (p2 : Int) (p3 : Int) (p4 : Int) (p5 : Int) (S0 : zz_S) (n : Nat) (hn : zz_end ≤ n) (G_S0 : zz_G S0) (ht : 0 ≤ t ∧ t ≤ 23) (hp1 : 0 ≤ p1 ∧ p1 ≤ 23) (hp2 : 0 ≤ p2 ∧ p2 ≤ 23) (hp3 : (-2147483648) ≤ p3 ∧ p3 ≤ 2147483647) (hp4 : (-2147483648) ≤ p4 ∧ p4 ≤ 2147483647) (hp5 : (-2147483648) ≤ p5 ∧ p5 ≤ 2147483647) : mm_Met g l zy_sumOf_4_19 zr_sumOf_4_19 [.ref (zz_rf 6 t), .ref 1032, .ref (zz_rf 6 p1), .ref (zz_rf 6 p2), zi p3, zi p4, zi p5] (zz_M S0 n) n (zz_QI n (zp_sumOf_4_19 t p1 p2 p3 p4 p5 S0)) := by
  refine zz_enter (by decide) (Nat.le_of_ble_eq_true rfl) (zz_less (ls1 := [some (.ref (zz_rf 6 t)), some (.ref 1032), some (.ref (zz_rf 6 p1)), some (.ref (zz_rf 6 p2)), some (zi p3), some (zi p4), some (zi p5)]) ⟨rfl, ⟨rfl, ⟨rfl, ⟨rfl, ⟨rfl, ⟨rfl, ⟨rfl, trivial⟩⟩⟩⟩⟩⟩⟩ ?_)
  have b_p1 := zz_rf6 (z := p1) (by omega)
  have b_p2 := zz_rf6 (z := p2) (by omega)
  have b_t := zz_rf6 (z := t) (by omega)
  refine zz_aload_n (x := zz_rf 6 t) rfl zd_4_19_0 ?_
  have g1 := zz_G.r G_S0 (zz_rf 6 t) 0 (-2147483648) 2147483647 (zR_k6_0 (by omega)) (zB_k6 (by omega))
  refine zz_geti (z := S0 (zz_rf 6 t) 0) zd_4_19_1 zf_Layer_13 (zT_k6 (by omega)) rfl (zN_k6 hn (by omega)) rfl ?_
  refine zz_iconst zd_4_19_4 ?_
  refine zz_icmp_ne (by omega) (by omega) zd_4_19_5 (fun c2 => ?_) (fun c2 => ?_)
  · refine zz_aload_n (x := zz_rf 6 t) rfl zd_4_19_21 ?_
    refine zz_geti (z := S0 (zz_rf 6 t) 0) zd_4_19_22 zf_Layer_13 (zT_k6 (by omega)) rfl (zN_k6 hn (by omega)) rfl ?_
    refine zz_iconst zd_4_19_25 ?_
    refine zz_icmp_ne (by omega) (by omega) zd_4_19_26 (fun c3 => ?_) (fun c3 => ?_)
    · refine zz_aload_n (x := 1032) rfl zd_4_19_42 ?_
      refine zz_aload_n (x := zz_rf 6 p1) rfl zd_4_19_43 ?_
      refine zz_iload (x := p3) rfl zd_4_19_44 ?_
      refine zz_iload (x := p4) rfl zd_4_19_46 ?_
      refine zz_iload (x := p5) rfl zd_4_19_48 ?_
      refine zz_callVI [zi p3, zi p4, zi p5] zd_4_19_50 zk_Layer_75 (zT_k6 (by omega)) (zN_k6 hn (by omega)) rfl rfl ⟨Nat.le_of_ble_eq_true rfl, Nat.le_of_ble_eq_true rfl⟩ ⟨rfl, rfl⟩ (Nat.zero_le _) (Nat.zero_le _) (zc_cellAt_4_15 p1 p3 p4 p5 S0 n hn G_S0 (by omega) (by omega) (by omega) (by omega)) (fun v5 S4 hP => ?_)
      obtain ⟨rfl, o6⟩ := hP
      refine zz_callSI [.ref 1032, zi v5] zd_4_19_53 zk_Layer_98 rfl rfl ⟨Nat.le_of_ble_eq_true rfl, Nat.le_of_ble_eq_true rfl⟩ ⟨rfl, rfl⟩ (Nat.zero_le _) (Nat.zero_le _) (zc_byteAt_4_17 v5 S0 n hn G_S0 (by omega)) (fun v8 S7 hP => ?_)
      obtain ⟨rfl, o9⟩ := hP
      refine zz_aload_n (x := 1032) rfl zd_4_19_56 ?_
      refine zz_aload_n (x := zz_rf 6 p2) rfl zd_4_19_57 ?_
      refine zz_iload (x := p3) rfl zd_4_19_58 ?_
      refine zz_iload (x := p4) rfl zd_4_19_60 ?_
      refine zz_iload (x := p5) rfl zd_4_19_62 ?_
      refine zz_callVI [zi p3, zi p4, zi p5] zd_4_19_64 zk_Layer_75 (zT_k6 (by omega)) (zN_k6 hn (by omega)) rfl rfl ⟨Nat.le_of_ble_eq_true rfl, Nat.le_of_ble_eq_true rfl⟩ ⟨rfl, rfl⟩ (Nat.zero_le _) (Nat.zero_le _) (zc_cellAt_4_15 p2 p3 p4 p5 S0 n hn G_S0 (by omega) (by omega) (by omega) (by omega)) (fun v11 S10 hP => ?_)
      obtain ⟨rfl, o12⟩ := hP
      refine zz_callSI [.ref 1032, zi v11] zd_4_19_67 zk_Layer_98 rfl rfl ⟨Nat.le_of_ble_eq_true rfl, Nat.le_of_ble_eq_true rfl⟩ ⟨rfl, rfl⟩ (Nat.zero_le _) (Nat.zero_le _) (zc_byteAt_4_17 v11 S0 n hn G_S0 (by omega)) (fun v14 S13 hP => ?_)
      obtain ⟨rfl, o15⟩ := hP
      refine zz_iadd zd_4_19_70 ?_
      refine zz_nrm (fun v16 hv16 ev16 => ?_)
      exact zz_iret zd_4_19_71 rfl (Nat.zero_le _) (Nat.zero_le _) ⟨_, _, rfl, rfl, by omega⟩
    · refine zz_aload_n (x := zz_rf 6 t) rfl zd_4_19_29 ?_
      refine zz_aload_n (x := 1032) rfl zd_4_19_30 ?_
      refine zz_aload_n (x := zz_rf 6 p1) rfl zd_4_19_31 ?_
      refine zz_iload (x := p3) rfl zd_4_19_32 ?_
      refine zz_iload (x := p4) rfl zd_4_19_34 ?_
      refine zz_iload (x := p5) rfl zd_4_19_36 ?_
      refine zz_callVI [.ref 1032, .ref (zz_rf 6 p1), zi p3, zi p4, zi p5] zd_4_19_38 zk_Layer_95 (zT_k6 (by omega)) (zN_k6 hn (by omega)) rfl rfl ⟨Nat.le_of_ble_eq_true rfl, Nat.le_of_ble_eq_true rfl⟩ ⟨rfl, rfl⟩ (Nat.zero_le _) (Nat.zero_le _) (zc_greatest_4_22 t p1 p3 p4 p5 S0 n hn G_S0 (by omega) (by omega) (by omega) (by omega) (by omega)) (fun v18 S17 hP => ?_)
      obtain ⟨rfl, o19⟩ := hP
      exact zz_iret zd_4_19_41 rfl (Nat.zero_le _) (Nat.zero_le _) ⟨_, _, rfl, rfl, by omega⟩
  · refine zz_aload_n (x := zz_rf 6 t) rfl zd_4_19_8 ?_
    refine zz_aload_n (x := 1032) rfl zd_4_19_9 ?_
    refine zz_aload_n (x := zz_rf 6 p1) rfl zd_4_19_10 ?_
    refine zz_iload (x := p3) rfl zd_4_19_11 ?_
    refine zz_iload (x := p4) rfl zd_4_19_13 ?_
    refine zz_iload (x := p5) rfl zd_4_19_15 ?_
    refine zz_callVI [.ref 1032, .ref (zz_rf 6 p1), zi p3, zi p4, zi p5] zd_4_19_17 zk_Layer_91 (zT_k6 (by omega)) (zN_k6 hn (by omega)) rfl rfl ⟨Nat.le_of_ble_eq_true rfl, Nat.le_of_ble_eq_true rfl⟩ ⟨rfl, rfl⟩ (Nat.zero_le _) (Nat.zero_le _) (zc_convolved_4_20 t p1 p3 p4 p5 S0 n hn G_S0 (by omega) (by omega) (by omega) (by omega) (by omega)) (fun v21 S20 hP => ?_)
    obtain ⟨rfl, o22⟩ := hP
    exact zz_iret zd_4_19_20 rfl (Nat.zero_le _) (Nat.zero_le _) ⟨_, _, rfl, rfl, by omega⟩
theorem zk_Layer_79 : mm_Vl "TensorForge$Layer" 79 2 6 zy_sumOf_4_19 := ⟨zyw_sumOf_4_19, (R_Layer, F_Layer, 15), rfl, mm_tb_1 870 (by decide +kernel) rfl, mm_tb_1 872 (by decide +kernel) rfl, mm_tb_s 37 (by decide +kernel) rfl⟩
theorem zd_4_18_76 : zz_D zy_fillCells_4_18 76 (.aload_n 0) 1 77 := ⟨by decide +kernel, rfl⟩
theorem zd_4_18_77 : zz_D zy_fillCells_4_18 77 (.invokevirtual 83) 3 80 := ⟨by decide +kernel, rfl⟩
abbrev zy_narrowing_4_6 : mm_Y := (⟨"TensorForge$Layer", "narrowing", "()I"⟩, prog_4_method_6_code, 1, (some .int))
theorem zyw_narrowing_4_6 : mm_Yw zy_narrowing_4_6 0 := ⟨mm_tb_1 906 (by decide +kernel) rfl, mm_tb_1 3 (by decide +kernel) rfl, ⟨by decide, by decide⟩, by decide +kernel⟩
theorem zd_4_6_0 : zz_D zy_narrowing_4_6 0 (.aload_n 0) 1 1 := ⟨by decide +kernel, rfl⟩
theorem zd_4_6_1 : zz_D zy_narrowing_4_6 1 (.getfield 38) 3 4 := ⟨by decide +kernel, rfl⟩
theorem zd_4_6_4 : zz_B zy_narrowing_4_6 4 (Instr.ifCond .eq) 17 7 := ⟨13, by decide +kernel, rfl, rfl⟩
theorem zd_4_6_17 : zz_D zy_narrowing_4_6 17 (.aload_n 0) 1 18 := ⟨by decide +kernel, rfl⟩
theorem zd_4_6_18 : zz_D zy_narrowing_4_6 18 (.getfield 35) 3 21 := ⟨by decide +kernel, rfl⟩
theorem zd_4_6_21 : zz_D zy_narrowing_4_6 21 (.ireturn) 1 22 := ⟨by decide +kernel, rfl⟩
theorem zd_4_6_7 : zz_D zy_narrowing_4_6 7 (.bipush 16) 2 9 := ⟨by decide +kernel, rfl⟩
theorem zd_4_6_9 : zz_D zy_narrowing_4_6 9 (.aload_n 0) 1 10 := ⟨by decide +kernel, rfl⟩
theorem zd_4_6_10 : zz_D zy_narrowing_4_6 10 (.getfield 35) 3 13 := ⟨by decide +kernel, rfl⟩
theorem zd_4_6_13 : zz_D zy_narrowing_4_6 13 (.iadd) 1 14 := ⟨by decide +kernel, rfl⟩
theorem zd_4_6_14 : zz_B zy_narrowing_4_6 14 Instr.goto 21 17 := ⟨7, by decide +kernel, rfl, rfl⟩
-- TensorForge$Layer narrowing ()I
abbrev zr_narrowing_4_6 : Room := { frames := 0, cells := 0, slots := 0, locals := 0 }
def zp_narrowing_4_6 (t : Int) (S0 : zz_S) : Int → zz_S → Prop := fun r S => S0 = S ∧ ((-2147483648) ≤ r ∧ r ≤ 2147483647)
theorem zc_narrowing_4_6 {g : mm_G} {l : Launch} (t : Int) (S0 : zz_S) (n : Nat) (hn : zz_end ≤ n) (G_S0 : zz_G S0) (ht : 0 ≤ t ∧ t ≤ 23) : mm_Met g l zy_narrowing_4_6 zr_narrowing_4_6 [.ref (zz_rf 6 t)] (zz_M S0 n) n (zz_QI n (zp_narrowing_4_6 t S0)) := by
  refine zz_enter (by decide) (Nat.le_of_ble_eq_true rfl) (zz_less (ls1 := [some (.ref (zz_rf 6 t))]) ⟨rfl, trivial⟩ ?_)
  have b_t := zz_rf6 (z := t) (by omega)
  refine zz_aload_n (x := zz_rf 6 t) rfl zd_4_6_0 ?_
  have g1 := zz_G.r G_S0 (zz_rf 6 t) 8 0 1 (zR_k6_8 (by omega)) (zB_k6 (by omega))
  refine zz_geti (z := S0 (zz_rf 6 t) 8) zd_4_6_1 zf_Layer_38 (zT_k6 (by omega)) rfl (zN_k6 hn (by omega)) rfl ?_
  refine zz_if_eq (by omega) zd_4_6_4 (fun c2 => ?_) (fun c2 => ?_)
  · refine zz_aload_n (x := zz_rf 6 t) rfl zd_4_6_17 ?_
    have g3 := zz_G.r G_S0 (zz_rf 6 t) 7 (-2147483648) 2147483647 (zR_k6_7 (by omega)) (zB_k6 (by omega))
    refine zz_geti (z := S0 (zz_rf 6 t) 7) zd_4_6_18 zf_Layer_35 (zT_k6 (by omega)) rfl (zN_k6 hn (by omega)) rfl ?_
    exact zz_iret zd_4_6_21 rfl (Nat.zero_le _) (Nat.zero_le _) ⟨_, _, rfl, rfl, by omega⟩
  · refine zz_bipush (by decide) zd_4_6_7 ?_
    refine zz_aload_n (x := zz_rf 6 t) rfl zd_4_6_9 ?_
    have g4 := zz_G.r G_S0 (zz_rf 6 t) 7 (-2147483648) 2147483647 (zR_k6_7 (by omega)) (zB_k6 (by omega))
    refine zz_geti (z := S0 (zz_rf 6 t) 7) zd_4_6_10 zf_Layer_35 (zT_k6 (by omega)) rfl (zN_k6 hn (by omega)) rfl ?_
    refine zz_iadd zd_4_6_13 ?_
    refine zz_nrm (fun v5 hv5 ev5 => ?_)
    refine zz_goto zd_4_6_14 ?_
    exact zz_iret zd_4_6_21 rfl (Nat.zero_le _) (Nat.zero_le _) ⟨_, _, rfl, rfl, by omega⟩
theorem zk_Layer_83 : mm_Vl "TensorForge$Layer" 83 2 0 zy_narrowing_4_6 := ⟨zyw_narrowing_4_6, (R_Layer, F_Layer, 15), rfl, mm_tb_1 903 (by decide +kernel) rfl, mm_tb_1 904 (by decide +kernel) rfl, mm_tb_1 905 (by decide +kernel) rfl⟩
theorem zd_4_18_80 : zz_D zy_fillCells_4_18 80 (.invokestatic 87) 3 83 := ⟨by decide +kernel, rfl⟩
theorem zk_Layer_87 : mm_Sl "TensorForge$Layer" 87 2 zy_narrowed_6_19 := ⟨zyw_narrowed_6_19, mm_tb_1 907 (by decide +kernel) rfl, mm_tb_1 827 (by decide +kernel) rfl⟩
theorem zd_4_18_83 : zz_D zy_fillCells_4_18 83 (.bastore) 1 84 := ⟨by decide +kernel, rfl⟩
-- TensorForge$Layer fillCells ([BLTensorForge$Layer;LTensorForge$Layer;)V
abbrev zr_fillCells_4_18 : Room := { frames := 4, cells := 0, slots := 0, locals := 77 }
def zp_fillCells_4_18 (t : Int) (p1 : Int) (p2 : Int) (S0 : zz_S) : zz_S → Prop := fun S => zz_G S ∧ zz_fr [] [1032] (fun _ _ => False) S0 S
theorem zb_fillCells_4_18_3 {g : mm_G} {l : Launch} (t : Int) (p1 : Int) (p2 : Int) (S0 : zz_S) (n : Nat) (hn : zz_end ≤ n) (G_S0 : zz_G S0) (ht : 0 ≤ t ∧ t ≤ 23) (hp1 : 0 ≤ p1 ∧ p1 ≤ 23) (hp2 : 0 ≤ p2 ∧ p2 ≤ 23) (x4 : Int) (S : zz_S) (G_S : zz_G S) (F_S : zz_fr [] [1032] (fun _ _ => False) S0 S) (i3_0 : (-2147483648) ≤ x4 ∧ x4 ≤ 2147483647) (R : Nat) (hR : (51539607552 + (S (zz_rf 6 t) 10 - x4).toNat) * 1208925819614629174706176 + 1208925819614629174706175 = R) (k15 : ∀ (x4 : Int) (x5 : Int) (S : zz_S), zz_G S → zz_fr [] [1032] (fun _ _ => False) S0 S → ((-2147483648) ≤ x4 ∧ x4 ≤ 2147483647) → ((-2147483648) ≤ x5 ∧ x5 ≤ 2147483647) → (51539607552 + (S (zz_rf 6 t) 10 - x4).toNat) * 1208925819614629174706176 + (34359738368 + (S (zz_rf 6 t) 11 - x5).toNat) * 1099511627776 + 1099511627775 < R → zz_E g l zy_fillCells_4_18 zr_fillCells_4_18 (zz_QV n (zp_fillCells_4_18 t p1 p2 S0)) S n 15 [some (.ref (zz_rf 6 t)), some (.ref 1032), some (.ref (zz_rf 6 p1)), some (.ref (zz_rf 6 p2)), some (zi x4), some (zi x5)] [] 0 0) : zz_E g l zy_fillCells_4_18 zr_fillCells_4_18 (zz_QV n (zp_fillCells_4_18 t p1 p2 S0)) S n 3 [some (.ref (zz_rf 6 t)), some (.ref 1032), some (.ref (zz_rf 6 p1)), some (.ref (zz_rf 6 p2)), some (zi x4)] [] 0 0 := by
  have b_p1 := zz_rf6 (z := p1) (by omega)
  have b_p2 := zz_rf6 (z := p2) (by omega)
  have b_t := zz_rf6 (z := t) (by omega)
  refine zz_iload (x := x4) rfl zd_4_18_3 ?_
  refine zz_aload_n (x := zz_rf 6 t) rfl zd_4_18_5 ?_
  have g1 := zz_G.r G_S0 (zz_rf 6 t) 10 (-2147483648) 2147483647 (zR_k6_10 (by omega)) (zB_k6 (by omega))
  refine zz_geti (z := S0 (zz_rf 6 t) 10) zd_4_18_6 zf_Layer_54 (zT_k6 (by omega)) rfl (zN_k6 hn (by omega)) (zz_rc F_S (zP_k6 (by omega) rfl) (zQ_k6 (by omega) rfl) (fun h => h) rfl) ?_
  refine zz_icmp_ge (by omega) (by omega) zd_4_18_9 (fun c2 => ?_) (fun c2 => ?_)
  · exact zz_vret zd_4_18_102 rfl (Nat.zero_le _) (Nat.zero_le _) ⟨_, rfl, G_S, F_S⟩
  · refine zz_iconst zd_4_18_12 ?_
    refine zz_istore [some (.ref (zz_rf 6 t)), some (.ref 1032), some (.ref (zz_rf 6 p1)), some (.ref (zz_rf 6 p2)), some (zi x4), some (zi 0)] zd_4_18_13 (by decide) rfl ?_
    refine zz_less (ls1 := [some (.ref (zz_rf 6 t)), some (.ref 1032), some (.ref (zz_rf 6 p1)), some (.ref (zz_rf 6 p2)), some (zi x4), some (zi 0)]) ⟨rfl, ⟨rfl, ⟨rfl, ⟨rfl, ⟨rfl, ⟨rfl, trivial⟩⟩⟩⟩⟩⟩ ?_
    exact k15 x4 0 S G_S F_S (by omega) (by omega) (by omega)
theorem zb_fillCells_4_18_15 {g : mm_G} {l : Launch} (t : Int) (p1 : Int) (p2 : Int) (S0 : zz_S) (n : Nat) (hn : zz_end ≤ n) (G_S0 : zz_G S0) (ht : 0 ≤ t ∧ t ≤ 23) (hp1 : 0 ≤ p1 ∧ p1 ≤ 23) (hp2 : 0 ≤ p2 ∧ p2 ≤ 23) (x4 : Int) (x5 : Int) (S : zz_S) (G_S : zz_G S) (F_S : zz_fr [] [1032] (fun _ _ => False) S0 S) (i15_0 : (-2147483648) ≤ x4 ∧ x4 ≤ 2147483647) (i15_1 : (-2147483648) ≤ x5 ∧ x5 ≤ 2147483647) (R : Nat) (hR : (51539607552 + (S (zz_rf 6 t) 10 - x4).toNat) * 1208925819614629174706176 + (34359738368 + (S (zz_rf 6 t) 11 - x5).toNat) * 1099511627776 + 1099511627775 = R) (k3 : ∀ (x4 : Int) (S : zz_S), zz_G S → zz_fr [] [1032] (fun _ _ => False) S0 S → ((-2147483648) ≤ x4 ∧ x4 ≤ 2147483647) → (51539607552 + (S (zz_rf 6 t) 10 - x4).toNat) * 1208925819614629174706176 + 1208925819614629174706175 < R → zz_E g l zy_fillCells_4_18 zr_fillCells_4_18 (zz_QV n (zp_fillCells_4_18 t p1 p2 S0)) S n 3 [some (.ref (zz_rf 6 t)), some (.ref 1032), some (.ref (zz_rf 6 p1)), some (.ref (zz_rf 6 p2)), some (zi x4)] [] 0 0) (k27 : ∀ (x4 : Int) (x5 : Int) (x6 : Int) (S : zz_S), zz_G S → zz_fr [] [1032] (fun _ _ => False) S0 S → ((-2147483648) ≤ x4 ∧ x4 ≤ 2147483647) → ((-2147483648) ≤ x5 ∧ x5 ≤ 2147483647) → (0 ≤ x6 ∧ x6 ≤ 2147483647) → (51539607552 + (S (zz_rf 6 t) 10 - x4).toNat) * 1208925819614629174706176 + (34359738368 + (S (zz_rf 6 t) 11 - x5).toNat) * 1099511627776 + (17179869184 + (S (zz_rf 6 t) 12 - x6).toNat) < R → zz_E g l zy_fillCells_4_18 zr_fillCells_4_18 (zz_QV n (zp_fillCells_4_18 t p1 p2 S0)) S n 27 [some (.ref (zz_rf 6 t)), some (.ref 1032), some (.ref (zz_rf 6 p1)), some (.ref (zz_rf 6 p2)), some (zi x4), some (zi x5), some (zi x6)] [] 0 0) : zz_E g l zy_fillCells_4_18 zr_fillCells_4_18 (zz_QV n (zp_fillCells_4_18 t p1 p2 S0)) S n 15 [some (.ref (zz_rf 6 t)), some (.ref 1032), some (.ref (zz_rf 6 p1)), some (.ref (zz_rf 6 p2)), some (zi x4), some (zi x5)] [] 0 0 := by
  have b_p1 := zz_rf6 (z := p1) (by omega)
  have b_p2 := zz_rf6 (z := p2) (by omega)
  have b_t := zz_rf6 (z := t) (by omega)
  refine zz_iload (x := x5) rfl zd_4_18_15 ?_
  refine zz_aload_n (x := zz_rf 6 t) rfl zd_4_18_17 ?_
  have g3 := zz_G.r G_S0 (zz_rf 6 t) 11 (-2147483648) 2147483647 (zR_k6_11 (by omega)) (zB_k6 (by omega))
  refine zz_geti (z := S0 (zz_rf 6 t) 11) zd_4_18_18 zf_Layer_57 (zT_k6 (by omega)) rfl (zN_k6 hn (by omega)) (zz_rc F_S (zP_k6 (by omega) rfl) (zQ_k6 (by omega) rfl) (fun h => h) rfl) ?_
  refine zz_icmp_ge (by omega) (by omega) zd_4_18_21 (fun c4 => ?_) (fun c4 => ?_)
  · refine zz_iincN (fun v5 => [some (.ref (zz_rf 6 t)), some (.ref 1032), some (.ref (zz_rf 6 p1)), some (.ref (zz_rf 6 p2)), some (zi v5), some (zi x5)]) zd_4_18_96 rfl (fun _ => rfl) (fun v5 hv5 ev5 => ?_)
    refine zz_goto zd_4_18_99 ?_
    refine zz_less (ls1 := [some (.ref (zz_rf 6 t)), some (.ref 1032), some (.ref (zz_rf 6 p1)), some (.ref (zz_rf 6 p2)), some (zi v5)]) ⟨rfl, ⟨rfl, ⟨rfl, ⟨rfl, ⟨rfl, trivial⟩⟩⟩⟩⟩ ?_
    exact k3 v5 S G_S F_S (by omega) (by omega)
  · refine zz_iconst zd_4_18_24 ?_
    refine zz_istore [some (.ref (zz_rf 6 t)), some (.ref 1032), some (.ref (zz_rf 6 p1)), some (.ref (zz_rf 6 p2)), some (zi x4), some (zi x5), some (zi 0)] zd_4_18_25 (by decide) rfl ?_
    refine zz_less (ls1 := [some (.ref (zz_rf 6 t)), some (.ref 1032), some (.ref (zz_rf 6 p1)), some (.ref (zz_rf 6 p2)), some (zi x4), some (zi x5), some (zi 0)]) ⟨rfl, ⟨rfl, ⟨rfl, ⟨rfl, ⟨rfl, ⟨rfl, ⟨rfl, trivial⟩⟩⟩⟩⟩⟩⟩ ?_
    exact k27 x4 x5 0 S G_S F_S (by omega) (by omega) (by omega) (by omega)
theorem zb_fillCells_4_18_27 {g : mm_G} {l : Launch} (t : Int) (p1 : Int) (p2 : Int) (S0 : zz_S) (n : Nat) (hn : zz_end ≤ n) (G_S0 : zz_G S0) (ht : 0 ≤ t ∧ t ≤ 23) (hp1 : 0 ≤ p1 ∧ p1 ≤ 23) (hp2 : 0 ≤ p2 ∧ p2 ≤ 23) (x4 : Int) (x5 : Int) (x6 : Int) (S : zz_S) (G_S : zz_G S) (F_S : zz_fr [] [1032] (fun _ _ => False) S0 S) (i27_0 : (-2147483648) ≤ x4 ∧ x4 ≤ 2147483647) (i27_1 : (-2147483648) ≤ x5 ∧ x5 ≤ 2147483647) (i27_2 : 0 ≤ x6 ∧ x6 ≤ 2147483647) (R : Nat) (hR : (51539607552 + (S (zz_rf 6 t) 10 - x4).toNat) * 1208925819614629174706176 + (34359738368 + (S (zz_rf 6 t) 11 - x5).toNat) * 1099511627776 + (17179869184 + (S (zz_rf 6 t) 12 - x6).toNat) = R) (k15 : ∀ (x4 : Int) (x5 : Int) (S : zz_S), zz_G S → zz_fr [] [1032] (fun _ _ => False) S0 S → ((-2147483648) ≤ x4 ∧ x4 ≤ 2147483647) → ((-2147483648) ≤ x5 ∧ x5 ≤ 2147483647) → (51539607552 + (S (zz_rf 6 t) 10 - x4).toNat) * 1208925819614629174706176 + (34359738368 + (S (zz_rf 6 t) 11 - x5).toNat) * 1099511627776 + 1099511627775 < R → zz_E g l zy_fillCells_4_18 zr_fillCells_4_18 (zz_QV n (zp_fillCells_4_18 t p1 p2 S0)) S n 15 [some (.ref (zz_rf 6 t)), some (.ref 1032), some (.ref (zz_rf 6 p1)), some (.ref (zz_rf 6 p2)), some (zi x4), some (zi x5)] [] 0 0) (k27 : ∀ (x4 : Int) (x5 : Int) (x6 : Int) (S : zz_S), zz_G S → zz_fr [] [1032] (fun _ _ => False) S0 S → ((-2147483648) ≤ x4 ∧ x4 ≤ 2147483647) → ((-2147483648) ≤ x5 ∧ x5 ≤ 2147483647) → (0 ≤ x6 ∧ x6 ≤ 2147483647) → (51539607552 + (S (zz_rf 6 t) 10 - x4).toNat) * 1208925819614629174706176 + (34359738368 + (S (zz_rf 6 t) 11 - x5).toNat) * 1099511627776 + (17179869184 + (S (zz_rf 6 t) 12 - x6).toNat) < R → zz_E g l zy_fillCells_4_18 zr_fillCells_4_18 (zz_QV n (zp_fillCells_4_18 t p1 p2 S0)) S n 27 [some (.ref (zz_rf 6 t)), some (.ref 1032), some (.ref (zz_rf 6 p1)), some (.ref (zz_rf 6 p2)), some (zi x4), some (zi x5), some (zi x6)] [] 0 0) : zz_E g l zy_fillCells_4_18 zr_fillCells_4_18 (zz_QV n (zp_fillCells_4_18 t p1 p2 S0)) S n 27 [some (.ref (zz_rf 6 t)), some (.ref 1032), some (.ref (zz_rf 6 p1)), some (.ref (zz_rf 6 p2)), some (zi x4), some (zi x5), some (zi x6)] [] 0 0 := by
  have b_p1 := zz_rf6 (z := p1) (by omega)
  have b_p2 := zz_rf6 (z := p2) (by omega)
  have b_t := zz_rf6 (z := t) (by omega)
  refine zz_iload (x := x6) rfl zd_4_18_27 ?_
  refine zz_aload_n (x := zz_rf 6 t) rfl zd_4_18_29 ?_
  have g6 := zz_G.r G_S0 (zz_rf 6 t) 12 (-2147483648) 2147483647 (zR_k6_12 (by omega)) (zB_k6 (by omega))
  refine zz_geti (z := S0 (zz_rf 6 t) 12) zd_4_18_30 zf_Layer_60 (zT_k6 (by omega)) rfl (zN_k6 hn (by omega)) (zz_rc F_S (zP_k6 (by omega) rfl) (zQ_k6 (by omega) rfl) (fun h => h) rfl) ?_
  refine zz_icmp_ge (by omega) (by omega) zd_4_18_33 (fun c7 => ?_) (fun c7 => ?_)
  · refine zz_iincN (fun v8 => [some (.ref (zz_rf 6 t)), some (.ref 1032), some (.ref (zz_rf 6 p1)), some (.ref (zz_rf 6 p2)), some (zi x4), some (zi v8), some (zi x6)]) zd_4_18_90 rfl (fun _ => rfl) (fun v8 hv8 ev8 => ?_)
    refine zz_goto zd_4_18_93 ?_
    refine zz_less (ls1 := [some (.ref (zz_rf 6 t)), some (.ref 1032), some (.ref (zz_rf 6 p1)), some (.ref (zz_rf 6 p2)), some (zi x4), some (zi v8)]) ⟨rfl, ⟨rfl, ⟨rfl, ⟨rfl, ⟨rfl, ⟨rfl, trivial⟩⟩⟩⟩⟩⟩ ?_
    exact k15 x4 v8 S G_S F_S (by omega) (by omega) (by omega)
  · refine zz_aload_n (x := zz_rf 6 t) rfl zd_4_18_36 ?_
    refine zz_iload (x := x4) rfl zd_4_18_37 ?_
    refine zz_iload (x := x5) rfl zd_4_18_39 ?_
    refine zz_iload (x := x6) rfl zd_4_18_41 ?_
    refine zz_callVI [zi x4, zi x5, zi x6] zd_4_18_43 zk_Layer_75 (zT_k6 (by omega)) (zN_k6 hn (by omega)) rfl rfl ⟨Nat.le_of_ble_eq_true rfl, Nat.le_of_ble_eq_true rfl⟩ ⟨rfl, rfl⟩ (Nat.zero_le _) (Nat.zero_le _) (zc_cellAt_4_15 t x4 x5 x6 S n hn G_S (by omega) (by omega) (by omega) (by omega)) (fun v10 S9 hP => ?_)
    obtain ⟨rfl, o11⟩ := hP
    refine zz_istore [some (.ref (zz_rf 6 t)), some (.ref 1032), some (.ref (zz_rf 6 p1)), some (.ref (zz_rf 6 p2)), some (zi x4), some (zi x5), some (zi x6), some (zi v10)] zd_4_18_46 (by decide) rfl ?_
    refine zz_iload (x := v10) rfl zd_4_18_48 ?_
    refine zz_if_lt (by omega) zd_4_18_50 (fun c12 => ?_) (fun c12 => ?_)
    · refine zz_iinc [some (.ref (zz_rf 6 t)), some (.ref 1032), some (.ref (zz_rf 6 p1)), some (.ref (zz_rf 6 p2)), some (zi x4), some (zi x5), some (zi (x6 + 1)), some (zi v10)] zd_4_18_84 rfl rfl ?_
      refine zz_goto zd_4_18_87 ?_
      refine zz_less (ls1 := [some (.ref (zz_rf 6 t)), some (.ref 1032), some (.ref (zz_rf 6 p1)), some (.ref (zz_rf 6 p2)), some (zi x4), some (zi x5), some (zi (x6 + 1))]) ⟨rfl, ⟨rfl, ⟨rfl, ⟨rfl, ⟨rfl, ⟨rfl, ⟨rfl, trivial⟩⟩⟩⟩⟩⟩⟩ ?_
      exact k27 x4 x5 (x6 + 1) S G_S F_S (by omega) (by omega) (by omega) (by omega)
    · refine zz_iload (x := v10) rfl zd_4_18_53 ?_
      refine zz_aload_n (x := 1032) rfl zd_4_18_55 ?_
      refine zz_alen zd_4_18_56 zT_1032 rfl (zz_ltn hn rfl) ?_
      refine zz_icmp_ge (by omega) (by omega) zd_4_18_57 (fun c13 => ?_) (fun c13 => ?_)
      · refine zz_iinc [some (.ref (zz_rf 6 t)), some (.ref 1032), some (.ref (zz_rf 6 p1)), some (.ref (zz_rf 6 p2)), some (zi x4), some (zi x5), some (zi (x6 + 1)), some (zi v10)] zd_4_18_84 rfl rfl ?_
        refine zz_goto zd_4_18_87 ?_
        refine zz_less (ls1 := [some (.ref (zz_rf 6 t)), some (.ref 1032), some (.ref (zz_rf 6 p1)), some (.ref (zz_rf 6 p2)), some (zi x4), some (zi x5), some (zi (x6 + 1))]) ⟨rfl, ⟨rfl, ⟨rfl, ⟨rfl, ⟨rfl, ⟨rfl, ⟨rfl, trivial⟩⟩⟩⟩⟩⟩⟩ ?_
        exact k27 x4 x5 (x6 + 1) S G_S F_S (by omega) (by omega) (by omega) (by omega)
      · refine zz_aload_n (x := 1032) rfl zd_4_18_60 ?_
        refine zz_iload (x := v10) rfl zd_4_18_61 ?_
        refine zz_aload_n (x := zz_rf 6 t) rfl zd_4_18_63 ?_
        refine zz_aload_n (x := 1032) rfl zd_4_18_64 ?_
        refine zz_aload_n (x := zz_rf 6 p1) rfl zd_4_18_65 ?_
        refine zz_aload_n (x := zz_rf 6 p2) rfl zd_4_18_66 ?_
        refine zz_iload (x := x4) rfl zd_4_18_67 ?_
        refine zz_iload (x := x5) rfl zd_4_18_69 ?_
        refine zz_iload (x := x6) rfl zd_4_18_71 ?_
        refine zz_callVI [.ref 1032, .ref (zz_rf 6 p1), .ref (zz_rf 6 p2), zi x4, zi x5, zi x6] zd_4_18_73 zk_Layer_79 (zT_k6 (by omega)) (zN_k6 hn (by omega)) rfl rfl ⟨Nat.le_of_ble_eq_true rfl, Nat.le_of_ble_eq_true rfl⟩ ⟨rfl, rfl⟩ (Nat.zero_le _) (Nat.zero_le _) (zc_sumOf_4_19 t p1 p2 x4 x5 x6 S n hn G_S (by omega) (by omega) (by omega) (by omega) (by omega) (by omega)) (fun v15 S14 hP => ?_)
        obtain ⟨rfl, o16⟩ := hP
        refine zz_aload_n (x := zz_rf 6 t) rfl zd_4_18_76 ?_
        refine zz_callVI [] zd_4_18_77 zk_Layer_83 (zT_k6 (by omega)) (zN_k6 hn (by omega)) rfl rfl ⟨Nat.le_of_ble_eq_true rfl, Nat.le_of_ble_eq_true rfl⟩ ⟨rfl, rfl⟩ (Nat.zero_le _) (Nat.zero_le _) (zc_narrowing_4_6 t S n hn G_S (by omega)) (fun v18 S17 hP => ?_)
        obtain ⟨rfl, o19⟩ := hP
        refine zz_callSI [zi v15, zi v18] zd_4_18_80 zk_Layer_87 rfl rfl ⟨Nat.le_of_ble_eq_true rfl, Nat.le_of_ble_eq_true rfl⟩ ⟨rfl, rfl⟩ (Nat.zero_le _) (Nat.zero_le _) (zc_narrowed_6_19 v15 v18 S n hn G_S (by omega) (by omega)) (fun v21 S20 hP => ?_)
        obtain ⟨rfl, o22⟩ := hP
        refine zz_bast zd_4_18_83 zT_1032 rfl (zz_ltn hn rfl) (by decide) (by omega) (by omega) (fun S23 qS23 => ?_)
        have G_S23 := zz_G.put G_S qS23 (-128) 127 rfl (by omega)
        have F_S23 := zz_fr.putc F_S qS23 rfl
        refine zz_iinc [some (.ref (zz_rf 6 t)), some (.ref 1032), some (.ref (zz_rf 6 p1)), some (.ref (zz_rf 6 p2)), some (zi x4), some (zi x5), some (zi (x6 + 1)), some (zi v10)] zd_4_18_84 rfl rfl ?_
        refine zz_goto zd_4_18_87 ?_
        refine zz_less (ls1 := [some (.ref (zz_rf 6 t)), some (.ref 1032), some (.ref (zz_rf 6 p1)), some (.ref (zz_rf 6 p2)), some (zi x4), some (zi x5), some (zi (x6 + 1))]) ⟨rfl, ⟨rfl, ⟨rfl, ⟨rfl, ⟨rfl, ⟨rfl, ⟨rfl, trivial⟩⟩⟩⟩⟩⟩⟩ ?_
        exact k27 x4 x5 (x6 + 1) S23 G_S23 F_S23 (by omega) (by omega) (by omega) (by omega)
theorem zi_fillCells_4_18 {g : mm_G} {l : Launch} (t : Int) (p1 : Int) (p2 : Int) (S0 : zz_S) (n : Nat) (hn : zz_end ≤ n) (G_S0 : zz_G S0) (ht : 0 ≤ t ∧ t ≤ 23) (hp1 : 0 ≤ p1 ∧ p1 ≤ 23) (hp2 : 0 ≤ p2 ∧ p2 ≤ 23) : ∀ N : Nat, (∀ (x4 : Int) (S : zz_S), zz_G S → zz_fr [] [1032] (fun _ _ => False) S0 S → ((-2147483648) ≤ x4 ∧ x4 ≤ 2147483647) → (51539607552 + (S (zz_rf 6 t) 10 - x4).toNat) * 1208925819614629174706176 + 1208925819614629174706175 < N → zz_E g l zy_fillCells_4_18 zr_fillCells_4_18 (zz_QV n (zp_fillCells_4_18 t p1 p2 S0)) S n 3 [some (.ref (zz_rf 6 t)), some (.ref 1032), some (.ref (zz_rf 6 p1)), some (.ref (zz_rf 6 p2)), some (zi x4)] [] 0 0) ∧ (∀ (x4 : Int) (x5 : Int) (S : zz_S), zz_G S → zz_fr [] [1032] (fun _ _ => False) S0 S → ((-2147483648) ≤ x4 ∧ x4 ≤ 2147483647) → ((-2147483648) ≤ x5 ∧ x5 ≤ 2147483647) → (51539607552 + (S (zz_rf 6 t) 10 - x4).toNat) * 1208925819614629174706176 + (34359738368 + (S (zz_rf 6 t) 11 - x5).toNat) * 1099511627776 + 1099511627775 < N → zz_E g l zy_fillCells_4_18 zr_fillCells_4_18 (zz_QV n (zp_fillCells_4_18 t p1 p2 S0)) S n 15 [some (.ref (zz_rf 6 t)), some (.ref 1032), some (.ref (zz_rf 6 p1)), some (.ref (zz_rf 6 p2)), some (zi x4), some (zi x5)] [] 0 0) ∧ (∀ (x4 : Int) (x5 : Int) (x6 : Int) (S : zz_S), zz_G S → zz_fr [] [1032] (fun _ _ => False) S0 S → ((-2147483648) ≤ x4 ∧ x4 ≤ 2147483647) → ((-2147483648) ≤ x5 ∧ x5 ≤ 2147483647) → (0 ≤ x6 ∧ x6 ≤ 2147483647) → (51539607552 + (S (zz_rf 6 t) 10 - x4).toNat) * 1208925819614629174706176 + (34359738368 + (S (zz_rf 6 t) 11 - x5).toNat) * 1099511627776 + (17179869184 + (S (zz_rf 6 t) 12 - x6).toNat) < N → zz_E g l zy_fillCells_4_18 zr_fillCells_4_18 (zz_QV n (zp_fillCells_4_18 t p1 p2 S0)) S n 27 [some (.ref (zz_rf 6 t)), some (.ref 1032), some (.ref (zz_rf 6 p1)), some (.ref (zz_rf 6 p2)), some (zi x4), some (zi x5), some (zi x6)] [] 0 0) := by
  intro N
  induction N with
  | zero => exact ⟨fun x4 S _ _ _ h => absurd h (Nat.not_lt_zero _), fun x4 x5 S _ _ _ _ h => absurd h (Nat.not_lt_zero _), fun x4 x5 x6 S _ _ _ _ _ h => absurd h (Nat.not_lt_zero _)⟩
  | succ N ih =>
    exact ⟨fun x4 S a b j0 hR => zb_fillCells_4_18_3 t p1 p2 S0 n hn G_S0 ht hp1 hp2 x4 S a b j0 _ rfl (fun x4 x5 S a b j0 j1 h => ih.2.1 x4 x5 S a b j0 j1 (Nat.lt_of_lt_of_le h (Nat.le_of_lt_succ hR))),
      fun x4 x5 S a b j0 j1 hR => zb_fillCells_4_18_15 t p1 p2 S0 n hn G_S0 ht hp1 hp2 x4 x5 S a b j0 j1 _ rfl (fun x4 S a b j0 h => ih.1 x4 S a b j0 (Nat.lt_of_lt_of_le h (Nat.le_of_lt_succ hR))) (fun x4 x5 x6 S a b j0 j1 j2 h => ih.2.2 x4 x5 x6 S a b j0 j1 j2 (Nat.lt_of_lt_of_le h (Nat.le_of_lt_succ hR))),
      fun x4 x5 x6 S a b j0 j1 j2 hR => zb_fillCells_4_18_27 t p1 p2 S0 n hn G_S0 ht hp1 hp2 x4 x5 x6 S a b j0 j1 j2 _ rfl (fun x4 x5 S a b j0 j1 h => ih.2.1 x4 x5 S a b j0 j1 (Nat.lt_of_lt_of_le h (Nat.le_of_lt_succ hR))) (fun x4 x5 x6 S a b j0 j1 j2 h => ih.2.2 x4 x5 x6 S a b j0 j1 j2 (Nat.lt_of_lt_of_le h (Nat.le_of_lt_succ hR)))⟩
theorem zc_fillCells_4_18 {g : mm_G} {l : Launch} (t : Int) (p1 : Int) (p2 : Int) (S0 : zz_S) (n : Nat) (hn : zz_end ≤ n) (G_S0 : zz_G S0) (ht : 0 ≤ t ∧ t ≤ 23) (hp1 : 0 ≤ p1 ∧ p1 ≤ 23) (hp2 : 0 ≤ p2 ∧ p2 ≤ 23) : mm_Met g l zy_fillCells_4_18 zr_fillCells_4_18 [.ref (zz_rf 6 t), .ref 1032, .ref (zz_rf 6 p1), .ref (zz_rf 6 p2)] (zz_M S0 n) n (zz_QV n (zp_fillCells_4_18 t p1 p2 S0)) := by
  refine zz_enter (by decide) (Nat.le_of_ble_eq_true rfl) (zz_less (ls1 := [some (.ref (zz_rf 6 t)), some (.ref 1032), some (.ref (zz_rf 6 p1)), some (.ref (zz_rf 6 p2))]) ⟨rfl, ⟨rfl, ⟨rfl, ⟨rfl, trivial⟩⟩⟩⟩ ?_)
  have F_S0 : zz_fr [] [1032] (fun _ _ => False) S0 S0 := zz_fr.refl
  have k3 : ∀ (x4 : Int) (S : zz_S), zz_G S → zz_fr [] [1032] (fun _ _ => False) S0 S → ((-2147483648) ≤ x4 ∧ x4 ≤ 2147483647) → zz_E g l zy_fillCells_4_18 zr_fillCells_4_18 (zz_QV n (zp_fillCells_4_18 t p1 p2 S0)) S n 3 [some (.ref (zz_rf 6 t)), some (.ref 1032), some (.ref (zz_rf 6 p1)), some (.ref (zz_rf 6 p2)), some (zi x4)] [] 0 0 := fun x4 S a b j0 => (zi_fillCells_4_18 (g := g) (l := l) t p1 p2 S0 n hn G_S0 ht hp1 hp2 _).1 x4 S a b j0 (Nat.lt_succ_self _)
  have b_p1 := zz_rf6 (z := p1) (by omega)
  have b_p2 := zz_rf6 (z := p2) (by omega)
  have b_t := zz_rf6 (z := t) (by omega)
  refine zz_iconst zd_4_18_0 ?_
  refine zz_istore [some (.ref (zz_rf 6 t)), some (.ref 1032), some (.ref (zz_rf 6 p1)), some (.ref (zz_rf 6 p2)), some (zi 0)] zd_4_18_1 (by decide) rfl ?_
  refine zz_less (ls1 := [some (.ref (zz_rf 6 t)), some (.ref 1032), some (.ref (zz_rf 6 p1)), some (.ref (zz_rf 6 p2)), some (zi 0)]) ⟨rfl, ⟨rfl, ⟨rfl, ⟨rfl, ⟨rfl, trivial⟩⟩⟩⟩⟩ ?_
  exact k3 0 S0 G_S0 F_S0 (by omega)
theorem zk_Network_72 : mm_Vl "TensorForge$Network" 72 2 3 zy_fillCells_4_18 := ⟨zyw_fillCells_4_18, (R_Layer, F_Layer, 15), rfl, mm_tb_1 862 (by decide +kernel) rfl, mm_tb_1 863 (by decide +kernel) rfl, mm_tb_1 864 (by decide +kernel) rfl⟩
-- TensorForge$Network settle ([B)V
abbrev zr_settle_7_9 : Room := { frames := 5, cells := 0, slots := 0, locals := 96 }
def zp_settle_7_9 (t : Int) (S0 : zz_S) : zz_S → Prop := fun S => zz_G S ∧ zz_fr [] [1032] (fun _ _ => False) S0 S
theorem zb_settle_7_9_2 {g : mm_G} {l : Launch} (t : Int) (S0 : zz_S) (n : Nat) (hn : zz_end ≤ n) (G_S0 : zz_G S0) (ht : 0 ≤ t ∧ t ≤ 1) (x2 : Int) (S : zz_S) (G_S : zz_G S) (F_S : zz_fr [] [1032] (fun _ _ => False) S0 S) (i2_0 : 1 ≤ x2 ∧ x2 ≤ 11) (R : Nat) (hR : (S (zz_rf 3 t) 1 - x2).toNat = R) (k2 : ∀ (x2 : Int) (S : zz_S), zz_G S → zz_fr [] [1032] (fun _ _ => False) S0 S → (1 ≤ x2 ∧ x2 ≤ 11) → (S (zz_rf 3 t) 1 - x2).toNat < R → zz_E g l zy_settle_7_9 zr_settle_7_9 (zz_QV n (zp_settle_7_9 t S0)) S n 2 [some (.ref (zz_rf 3 t)), some (.ref 1032), some (zi x2)] [] 0 0) : zz_E g l zy_settle_7_9 zr_settle_7_9 (zz_QV n (zp_settle_7_9 t S0)) S n 2 [some (.ref (zz_rf 3 t)), some (.ref 1032), some (zi x2)] [] 0 0 := by
  have b_t := zz_rf3 (z := t) (by omega)
  refine zz_iload_n (x := x2) rfl zd_7_9_2 ?_
  refine zz_aload_n (x := zz_rf 3 t) rfl zd_7_9_3 ?_
  have g1 := zz_G.r G_S0 (zz_rf 3 t) 1 1 11 (zR_k3_1 (by omega)) (zB_k3 (by omega))
  refine zz_geti (z := S0 (zz_rf 3 t) 1) zd_7_9_4 zf_Network_16 (zT_k3 (by omega)) rfl (zN_k3 hn (by omega)) (zz_rc F_S (zP_k3 (by omega) rfl) (zQ_k3 (by omega) rfl) (fun h => h) rfl) ?_
  refine zz_icmp_ge (by omega) (by omega) zd_7_9_7 (fun c2 => ?_) (fun c2 => ?_)
  · exact zz_vret zd_7_9_68 rfl (Nat.zero_le _) (Nat.zero_le _) ⟨_, rfl, G_S, F_S⟩
  · refine zz_aload_n (x := zz_rf 3 t) rfl zd_7_9_10 ?_
    refine zz_getr (kd := 0) (z := ((zz_rf 3 t + 1 : Nat) : Int)) zd_7_9_11 zf_Network_11 (zT_k3 (by omega)) rfl (zN_k3 hn (by omega)) (zE_k3a G_S (by omega)) (Int.natCast_nonneg _) (zz_rf 3 t + 1) (Int.toNat_natCast _) ?_
    refine zz_iload_n (x := x2) rfl zd_7_9_14 ?_
    refine zz_aald (kd := 4) (z := 12 * t + x2) zd_7_9_15 (zT_k3a (by omega)) rfl (zN_k3a hn (by omega)) (by decide) (by omega) (zE_lay G_S (by omega) (by omega)) (by omega) (zz_rf 6 (12 * t + x2)) rfl ?_
    refine zz_astore_n [some (.ref (zz_rf 3 t)), some (.ref 1032), some (zi x2), some (.ref (zz_rf 6 (12 * t + x2)))] zd_7_9_16 (by decide) rfl ?_
    refine zz_aload_n (x := zz_rf 3 t) rfl zd_7_9_17 ?_
    refine zz_aload_n (x := zz_rf 6 (12 * t + x2)) rfl zd_7_9_18 ?_
    have g3 := zz_G.r G_S0 (zz_rf 6 (12 * t + x2)) 1 (-2147483648) 2147483647 (zR_k6_1 (by omega)) (zB_k6 (by omega))
    refine zz_geti (z := S0 (zz_rf 6 (12 * t + x2)) 1) zd_7_9_19 zf_Network_38 (zT_k6 (by omega)) rfl (zN_k6 hn (by omega)) (zz_rc F_S (zP_k6 (by omega) rfl) (zQ_k6 (by omega) rfl) (fun h => h) rfl) ?_
    refine zz_callVI [zi (S0 (zz_rf 6 (12 * t + x2)) 1)] zd_7_9_22 zk_Network_41 (zT_k3 (by omega)) (zN_k3 hn (by omega)) rfl rfl ⟨Nat.le_of_ble_eq_true rfl, Nat.le_of_ble_eq_true rfl⟩ ⟨rfl, rfl⟩ (Nat.zero_le _) (Nat.zero_le _) (zc_has_7_5 t (S0 (zz_rf 6 (12 * t + x2)) 1) S n hn G_S (by omega) (by omega)) (fun v5 S4 hP => ?_)
    obtain ⟨rfl, o6⟩ := hP
    rcases (by omega : v5 = 0 ∨ v5 = 1) with rfl | rfl
    · refine zz_if_eq (by omega) zd_7_9_25 (fun c7 => ?_) (fun c7 => ?_)
      · refine zz_iinc [some (.ref (zz_rf 3 t)), some (.ref 1032), some (zi (x2 + 1)), some (.ref (zz_rf 6 (12 * t + x2)))] zd_7_9_62 rfl rfl ?_
        refine zz_goto zd_7_9_65 ?_
        refine zz_less (ls1 := [some (.ref (zz_rf 3 t)), some (.ref 1032), some (zi (x2 + 1))]) ⟨rfl, ⟨rfl, ⟨rfl, trivial⟩⟩⟩ ?_
        exact k2 (x2 + 1) S G_S F_S (by omega) (by omega)
      · exfalso; omega
    · refine zz_if_eq (by omega) zd_7_9_25 (fun c8 => ?_) (fun c8 => ?_)
      · exfalso; omega
      · refine zz_aload_n (x := zz_rf 3 t) rfl zd_7_9_28 ?_
        refine zz_aload_n (x := zz_rf 6 (12 * t + x2)) rfl zd_7_9_29 ?_
        have g9 := zz_G.r G_S0 (zz_rf 6 (12 * t + x2)) 2 (-2147483648) 2147483647 (zR_k6_2 (by omega)) (zB_k6 (by omega))
        refine zz_geti (z := S0 (zz_rf 6 (12 * t + x2)) 2) zd_7_9_30 zf_Network_45 (zT_k6 (by omega)) rfl (zN_k6 hn (by omega)) (zz_rc F_S (zP_k6 (by omega) rfl) (zQ_k6 (by omega) rfl) (fun h => h) rfl) ?_
        refine zz_callVI [zi (S0 (zz_rf 6 (12 * t + x2)) 2)] zd_7_9_33 zk_Network_41 (zT_k3 (by omega)) (zN_k3 hn (by omega)) rfl rfl ⟨Nat.le_of_ble_eq_true rfl, Nat.le_of_ble_eq_true rfl⟩ ⟨rfl, rfl⟩ (Nat.zero_le _) (Nat.zero_le _) (zc_has_7_5 t (S0 (zz_rf 6 (12 * t + x2)) 2) S n hn G_S (by omega) (by omega)) (fun v11 S10 hP => ?_)
        obtain ⟨rfl, o12⟩ := hP
        rcases (by omega : v11 = 0 ∨ v11 = 1) with rfl | rfl
        · refine zz_if_eq (by omega) zd_7_9_36 (fun c13 => ?_) (fun c13 => ?_)
          · refine zz_iinc [some (.ref (zz_rf 3 t)), some (.ref 1032), some (zi (x2 + 1)), some (.ref (zz_rf 6 (12 * t + x2)))] zd_7_9_62 rfl rfl ?_
            refine zz_goto zd_7_9_65 ?_
            refine zz_less (ls1 := [some (.ref (zz_rf 3 t)), some (.ref 1032), some (zi (x2 + 1))]) ⟨rfl, ⟨rfl, ⟨rfl, trivial⟩⟩⟩ ?_
            exact k2 (x2 + 1) S G_S F_S (by omega) (by omega)
          · exfalso; omega
        · refine zz_if_eq (by omega) zd_7_9_36 (fun c14 => ?_) (fun c14 => ?_)
          · exfalso; omega
          · refine zz_aload_n (x := zz_rf 6 (12 * t + x2)) rfl zd_7_9_39 ?_
            refine zz_aload_n (x := 1032) rfl zd_7_9_40 ?_
            refine zz_aload_n (x := zz_rf 3 t) rfl zd_7_9_41 ?_
            refine zz_getr (kd := 0) (z := ((zz_rf 3 t + 1 : Nat) : Int)) zd_7_9_42 zf_Network_11 (zT_k3 (by omega)) rfl (zN_k3 hn (by omega)) (zE_k3a G_S (by omega)) (Int.natCast_nonneg _) (zz_rf 3 t + 1) (Int.toNat_natCast _) ?_
            refine zz_aload_n (x := zz_rf 6 (12 * t + x2)) rfl zd_7_9_45 ?_
            refine zz_geti (z := S0 (zz_rf 6 (12 * t + x2)) 1) zd_7_9_46 zf_Network_38 (zT_k6 (by omega)) rfl (zN_k6 hn (by omega)) (zz_rc F_S (zP_k6 (by omega) rfl) (zQ_k6 (by omega) rfl) (fun h => h) rfl) ?_
            refine zz_aald (kd := 4) (z := 12 * t + (S0 (zz_rf 6 (12 * t + x2)) 1)) zd_7_9_49 (zT_k3a (by omega)) rfl (zN_k3a hn (by omega)) (by decide) (by omega) (zE_lay G_S (by omega) (by omega)) (by omega) (zz_rf 6 (12 * t + (S0 (zz_rf 6 (12 * t + x2)) 1))) rfl ?_
            refine zz_aload_n (x := zz_rf 3 t) rfl zd_7_9_50 ?_
            refine zz_getr (kd := 0) (z := ((zz_rf 3 t + 1 : Nat) : Int)) zd_7_9_51 zf_Network_11 (zT_k3 (by omega)) rfl (zN_k3 hn (by omega)) (zE_k3a G_S (by omega)) (Int.natCast_nonneg _) (zz_rf 3 t + 1) (Int.toNat_natCast _) ?_
            refine zz_aload_n (x := zz_rf 6 (12 * t + x2)) rfl zd_7_9_54 ?_
            refine zz_geti (z := S0 (zz_rf 6 (12 * t + x2)) 2) zd_7_9_55 zf_Network_45 (zT_k6 (by omega)) rfl (zN_k6 hn (by omega)) (zz_rc F_S (zP_k6 (by omega) rfl) (zQ_k6 (by omega) rfl) (fun h => h) rfl) ?_
            refine zz_aald (kd := 4) (z := 12 * t + (S0 (zz_rf 6 (12 * t + x2)) 2)) zd_7_9_58 (zT_k3a (by omega)) rfl (zN_k3a hn (by omega)) (by decide) (by omega) (zE_lay G_S (by omega) (by omega)) (by omega) (zz_rf 6 (12 * t + (S0 (zz_rf 6 (12 * t + x2)) 2))) rfl ?_
            refine zz_callVV [.ref 1032, .ref (zz_rf 6 (12 * t + (S0 (zz_rf 6 (12 * t + x2)) 1))), .ref (zz_rf 6 (12 * t + (S0 (zz_rf 6 (12 * t + x2)) 2)))] zd_7_9_59 zk_Network_72 (zT_k6 (by omega)) (zN_k6 hn (by omega)) rfl rfl ⟨Nat.le_of_ble_eq_true rfl, Nat.le_of_ble_eq_true rfl⟩ ⟨rfl, rfl⟩ (Nat.zero_le _) (Nat.zero_le _) (zc_fillCells_4_18 (12 * t + x2) (12 * t + (S0 (zz_rf 6 (12 * t + x2)) 1)) (12 * t + (S0 (zz_rf 6 (12 * t + x2)) 2)) S n hn G_S (by omega) (by omega) (by omega)) (fun S15 hP => ?_)
            obtain ⟨G_S15, fS15⟩ := hP
            have F_S15 := zz_fr.trans F_S fS15 rfl zz_nv
            refine zz_iinc [some (.ref (zz_rf 3 t)), some (.ref 1032), some (zi (x2 + 1)), some (.ref (zz_rf 6 (12 * t + x2)))] zd_7_9_62 rfl rfl ?_
            refine zz_goto zd_7_9_65 ?_
            refine zz_less (ls1 := [some (.ref (zz_rf 3 t)), some (.ref 1032), some (zi (x2 + 1))]) ⟨rfl, ⟨rfl, ⟨rfl, trivial⟩⟩⟩ ?_
            exact k2 (x2 + 1) S15 G_S15 F_S15 (by omega) (by omega)
theorem zi_settle_7_9 {g : mm_G} {l : Launch} (t : Int) (S0 : zz_S) (n : Nat) (hn : zz_end ≤ n) (G_S0 : zz_G S0) (ht : 0 ≤ t ∧ t ≤ 1) : ∀ N : Nat, (∀ (x2 : Int) (S : zz_S), zz_G S → zz_fr [] [1032] (fun _ _ => False) S0 S → (1 ≤ x2 ∧ x2 ≤ 11) → (S (zz_rf 3 t) 1 - x2).toNat < N → zz_E g l zy_settle_7_9 zr_settle_7_9 (zz_QV n (zp_settle_7_9 t S0)) S n 2 [some (.ref (zz_rf 3 t)), some (.ref 1032), some (zi x2)] [] 0 0) := by
  intro N
  induction N with
  | zero => exact fun x2 S _ _ _ h => absurd h (Nat.not_lt_zero _)
  | succ N ih =>
    exact fun x2 S a b j0 hR => zb_settle_7_9_2 t S0 n hn G_S0 ht x2 S a b j0 _ rfl (fun x2 S a b j0 h => ih x2 S a b j0 (Nat.lt_of_lt_of_le h (Nat.le_of_lt_succ hR)))
theorem zc_settle_7_9 {g : mm_G} {l : Launch} (t : Int) (S0 : zz_S) (n : Nat) (hn : zz_end ≤ n) (G_S0 : zz_G S0) (ht : 0 ≤ t ∧ t ≤ 1) : mm_Met g l zy_settle_7_9 zr_settle_7_9 [.ref (zz_rf 3 t), .ref 1032] (zz_M S0 n) n (zz_QV n (zp_settle_7_9 t S0)) := by
  refine zz_enter (by decide) (Nat.le_of_ble_eq_true rfl) (zz_less (ls1 := [some (.ref (zz_rf 3 t)), some (.ref 1032)]) ⟨rfl, ⟨rfl, trivial⟩⟩ ?_)
  have F_S0 : zz_fr [] [1032] (fun _ _ => False) S0 S0 := zz_fr.refl
  have k2 : ∀ (x2 : Int) (S : zz_S), zz_G S → zz_fr [] [1032] (fun _ _ => False) S0 S → (1 ≤ x2 ∧ x2 ≤ 11) → zz_E g l zy_settle_7_9 zr_settle_7_9 (zz_QV n (zp_settle_7_9 t S0)) S n 2 [some (.ref (zz_rf 3 t)), some (.ref 1032), some (zi x2)] [] 0 0 := fun x2 S a b j0 => (zi_settle_7_9 (g := g) (l := l) t S0 n hn G_S0 ht _) x2 S a b j0 (Nat.lt_succ_self _)
  have b_t := zz_rf3 (z := t) (by omega)
  refine zz_iconst zd_7_9_0 ?_
  refine zz_istore_n [some (.ref (zz_rf 3 t)), some (.ref 1032), some (zi 1)] zd_7_9_1 (by decide) rfl ?_
  refine zz_less (ls1 := [some (.ref (zz_rf 3 t)), some (.ref 1032), some (zi 1)]) ⟨rfl, ⟨rfl, ⟨rfl, trivial⟩⟩⟩ ?_
  exact k2 1 S0 G_S0 F_S0 (by omega)
theorem zk_TF_292 : mm_Vl "TensorForge" 292 1 1 zy_settle_7_9 := ⟨zyw_settle_7_9, (R_Network, F_Network, 2), rfl, mm_tb_1 854 (by decide +kernel) rfl, mm_tb_1 855 (by decide +kernel) rfl, mm_tb_1 856 (by decide +kernel) rfl⟩
theorem zd_1_24_14 : zz_D zy_reckon_1_24 14 (.return_) 1 15 := ⟨by decide +kernel, rfl⟩
-- TensorForge reckon ()V
abbrev zr_reckon_1_24 : Room := { frames := 6, cells := 0, slots := 0, locals := 111 }
def zp_reckon_1_24  (S0 : zz_S) : zz_S → Prop := fun S => zz_G S ∧ zz_fr [] [1032] (fun _ _ => False) S0 S
theorem zc_reckon_1_24 {g : mm_G} {l : Launch}  (S0 : zz_S) (n : Nat) (hn : zz_end ≤ n) (G_S0 : zz_G S0)  : mm_Met g l zy_reckon_1_24 zr_reckon_1_24 [.ref 1000] (zz_M S0 n) n (zz_QV n (zp_reckon_1_24  S0)) := by
  refine zz_enter (by decide) (Nat.le_of_ble_eq_true rfl) (zz_less (ls1 := [some (.ref 1000)]) ⟨rfl, trivial⟩ ?_)
  have F_S0 : zz_fr [] [1032] (fun _ _ => False) S0 S0 := zz_fr.refl
  refine zz_aload_n (x := 1000) rfl zd_1_24_0 ?_
  have g1 := zz_G.r G_S0 1000 7 0 1 rfl rfl
  refine zz_getr (kd := 1) (z := S0 1000 7) zd_1_24_1 zf_TF_10 zT_1000 rfl (zz_ltn hn rfl) rfl (by omega) (zz_rf 3 (S0 1000 7)) rfl ?_
  refine zz_aload_n (x := 1000) rfl zd_1_24_4 ?_
  refine zz_getr (kd := 0) (z := 1031) zd_1_24_5 zf_TF_33 zT_1000 rfl (zz_ltn hn rfl) (zz_G.eq G_S0 1000 0 1031 rfl rfl) (by decide) 1031 rfl ?_
  refine zz_getr (kd := 0) (z := 1032) zd_1_24_8 zf_TF_288 zT_1031 rfl (zz_ltn hn rfl) (zz_G.eq G_S0 1031 0 1032 rfl rfl) (by decide) 1032 rfl ?_
  refine zz_callVV [.ref 1032] zd_1_24_11 zk_TF_292 (zT_k3 (by omega)) (zN_k3 hn (by omega)) rfl rfl ⟨Nat.le_of_ble_eq_true rfl, Nat.le_of_ble_eq_true rfl⟩ ⟨rfl, rfl⟩ (Nat.zero_le _) (Nat.zero_le _) (zc_settle_7_9 (S0 1000 7) S0 n hn G_S0 (by omega)) (fun S2 hP => ?_)
  obtain ⟨G_S2, fS2⟩ := hP
  have F_S2 := zz_fr.trans F_S0 fS2 rfl zz_nv
  exact zz_vret zd_1_24_14 rfl (Nat.zero_le _) (Nat.zero_le _) ⟨_, rfl, G_S2, F_S2⟩
abbrev zy_network_1_25 : mm_Y := (⟨"TensorForge", "network", "()I"⟩, prog_1_method_25_code, 3, (some .int))
theorem zyw_network_1_25 : mm_Yw zy_network_1_25 0 := ⟨mm_tb_1 911 (by decide +kernel) rfl, mm_tb_1 1 (by decide +kernel) rfl, ⟨by decide, by decide⟩, by decide +kernel⟩
theorem zd_1_25_0 : zz_D zy_network_1_25 0 (.aload_n 0) 1 1 := ⟨by decide +kernel, rfl⟩
theorem zd_1_25_1 : zz_D zy_network_1_25 1 (.getfield 67) 3 4 := ⟨by decide +kernel, rfl⟩
theorem zf_TF_67 : mm_Fl "TensorForge" 67 0 4 (.object "TensorForge$NetworkReader") true := ⟨R_TF, F_TF, 12, t_TF, rfl, i_TF, by decide, mm_tb_1 444 (by decide +kernel) rfl, rfl, t_TF_ok, n_TF, rfl, by decide +kernel⟩
theorem zd_1_25_4 : zz_D zy_network_1_25 4 (.aload_n 0) 1 5 := ⟨by decide +kernel, rfl⟩
theorem zd_1_25_5 : zz_D zy_network_1_25 5 (.getfield 16) 3 8 := ⟨by decide +kernel, rfl⟩
theorem zf_TF_16 : mm_Fl "TensorForge" 16 0 8 (.object "TensorForge$Network") false := ⟨R_TF, F_TF, 12, t_TF, rfl, i_TF, by decide, mm_tb_1 448 (by decide +kernel) rfl, rfl, t_TF_ok, n_TF, rfl, by decide +kernel⟩
theorem zd_1_25_8 : zz_D zy_network_1_25 8 (.invokevirtual 296) 3 11 := ⟨by decide +kernel, rfl⟩
abbrev zy_readInto_8_2 : mm_Y := (⟨"TensorForge$NetworkReader", "readInto", "(LTensorForge$Network;)I"⟩, prog_8_method_2_code, 5, (some .int))
theorem zyw_readInto_8_2 : mm_Yw zy_readInto_8_2 1 := ⟨mm_tb_1 915 (by decide +kernel) rfl, mm_tb_1 9 (by decide +kernel) rfl, ⟨by decide, by decide⟩, by decide +kernel⟩
theorem zd_8_2_0 : zz_D zy_readInto_8_2 0 (.aload_n 0) 1 1 := ⟨by decide +kernel, rfl⟩
theorem zd_8_2_1 : zz_D zy_readInto_8_2 1 (.aload_n 1) 1 2 := ⟨by decide +kernel, rfl⟩
theorem zd_8_2_2 : zz_D zy_readInto_8_2 2 (.putfield 15) 3 5 := ⟨by decide +kernel, rfl⟩
theorem zf_NetworkReader_15 : mm_Fl "TensorForge$NetworkReader" 15 8 1 (.object "TensorForge$Network") false := ⟨R_NetworkReader, F_NetworkReader, 9, t_NetworkReader, rfl, i_NetworkReader, by decide, mm_tb_1 341 (by decide +kernel) rfl, rfl, t_NetworkReader_ok, n_NetworkReader, rfl, by decide +kernel⟩
theorem zd_8_2_5 : zz_D zy_readInto_8_2 5 (.iconst 0) 1 6 := ⟨by decide +kernel, rfl⟩
theorem zd_8_2_6 : zz_D zy_readInto_8_2 6 (.istore_n 2) 1 7 := ⟨by decide +kernel, rfl⟩
theorem zd_8_2_7 : zz_D zy_readInto_8_2 7 (.iconst 0) 1 8 := ⟨by decide +kernel, rfl⟩
theorem zd_8_2_8 : zz_D zy_readInto_8_2 8 (.istore_n 3) 1 9 := ⟨by decide +kernel, rfl⟩
theorem zd_8_2_9 : zz_D zy_readInto_8_2 9 (.aload_n 0) 1 10 := ⟨by decide +kernel, rfl⟩
theorem zd_8_2_10 : zz_D zy_readInto_8_2 10 (.getfield 25) 3 13 := ⟨by decide +kernel, rfl⟩
theorem zf_NetworkReader_25 : mm_Fl "TensorForge$NetworkReader" 25 8 3 (.array .int) true := ⟨R_NetworkReader, F_NetworkReader, 9, t_NetworkReader, rfl, i_NetworkReader, by decide, mm_tb_1 343 (by decide +kernel) rfl, rfl, t_NetworkReader_ok, n_NetworkReader, rfl, by decide +kernel⟩
theorem zd_8_2_13 : zz_D zy_readInto_8_2 13 (.iconst 0) 1 14 := ⟨by decide +kernel, rfl⟩
theorem zd_8_2_14 : zz_D zy_readInto_8_2 14 (.invokestatic 44) 3 17 := ⟨by decide +kernel, rfl⟩
-- java/util/Arrays fill ([II)V
abbrev zr_fill_27_103_1075 : Room := { frames := 0, cells := 0, slots := 0, locals := 0 }
def zp_fill_27_103_1075 (p1 : Int) (S0 : zz_S) : zz_S → Prop := fun S => zz_G S ∧ zz_fr [] [1075] (fun _ _ => False) S0 S
theorem zb_fill_27_103_1075_5 {g : mm_G} {l : Launch} (p1 : Int) (S0 : zz_S) (n : Nat) (hn : zz_end ≤ n) (G_S0 : zz_G S0) (hp1 : (-2147483648) ≤ p1 ∧ p1 ≤ 2147483647) (x2 : Int) (S : zz_S) (G_S : zz_G S) (F_S : zz_fr [] [1075] (fun _ _ => False) S0 S) (i5_0 : 0 ≤ x2 ∧ x2 ≤ 11) (R : Nat) (hR : (11 - x2).toNat = R) (k5 : ∀ (x2 : Int) (S : zz_S), zz_G S → zz_fr [] [1075] (fun _ _ => False) S0 S → (0 ≤ x2 ∧ x2 ≤ 11) → (11 - x2).toNat < R → zz_E g l zy_fill_27_103 zr_fill_27_103_1075 (zz_QV n (zp_fill_27_103_1075 p1 S0)) S n 5 [some (.ref 1075), some (zi p1), some (zi x2), some (zi 11)] [] 0 0) : zz_E g l zy_fill_27_103 zr_fill_27_103_1075 (zz_QV n (zp_fill_27_103_1075 p1 S0)) S n 5 [some (.ref 1075), some (zi p1), some (zi x2), some (zi 11)] [] 0 0 := by
  refine zz_iload_n (x := x2) rfl zd_27_103_5 ?_
  refine zz_iload_n (x := 11) rfl zd_27_103_6 ?_
  refine zz_icmp_ge (by omega) (by omega) zd_27_103_7 (fun c1 => ?_) (fun c1 => ?_)
  · exact zz_vret zd_27_103_20 rfl (Nat.zero_le _) (Nat.zero_le _) ⟨_, rfl, G_S, F_S⟩
  · refine zz_aload_n (x := 1075) rfl zd_27_103_10 ?_
    refine zz_iload_n (x := x2) rfl zd_27_103_11 ?_
    refine zz_iload_n (x := p1) rfl zd_27_103_12 ?_
    refine zz_iast zd_27_103_13 zT_1075 rfl (zz_ltn hn rfl) (by decide) (by omega) (fun S2 qS2 => ?_)
    have G_S2 := zz_G.put G_S qS2 (-1500) 1500 rfl (by omega)
    have F_S2 := zz_fr.putc F_S qS2 rfl
    refine zz_iinc [some (.ref 1075), some (zi p1), some (zi (x2 + 1)), some (zi 11)] zd_27_103_14 rfl rfl ?_
    refine zz_goto zd_27_103_17 ?_
    refine zz_less (ls1 := [some (.ref 1075), some (zi p1), some (zi (x2 + 1)), some (zi 11)]) ⟨rfl, ⟨rfl, ⟨rfl, ⟨rfl, trivial⟩⟩⟩⟩ ?_
    exact k5 (x2 + 1) S2 G_S2 F_S2 (by omega) (by omega)
theorem zi_fill_27_103_1075 {g : mm_G} {l : Launch} (p1 : Int) (S0 : zz_S) (n : Nat) (hn : zz_end ≤ n) (G_S0 : zz_G S0) (hp1 : (-2147483648) ≤ p1 ∧ p1 ≤ 2147483647) : ∀ N : Nat, (∀ (x2 : Int) (S : zz_S), zz_G S → zz_fr [] [1075] (fun _ _ => False) S0 S → (0 ≤ x2 ∧ x2 ≤ 11) → (11 - x2).toNat < N → zz_E g l zy_fill_27_103 zr_fill_27_103_1075 (zz_QV n (zp_fill_27_103_1075 p1 S0)) S n 5 [some (.ref 1075), some (zi p1), some (zi x2), some (zi 11)] [] 0 0) := by
  intro N
  induction N with
  | zero => exact fun x2 S _ _ _ h => absurd h (Nat.not_lt_zero _)
  | succ N ih =>
    exact fun x2 S a b j0 hR => zb_fill_27_103_1075_5 p1 S0 n hn G_S0 hp1 x2 S a b j0 _ rfl (fun x2 S a b j0 h => ih x2 S a b j0 (Nat.lt_of_lt_of_le h (Nat.le_of_lt_succ hR)))
theorem zc_fill_27_103_1075 {g : mm_G} {l : Launch} (p1 : Int) (S0 : zz_S) (n : Nat) (hn : zz_end ≤ n) (G_S0 : zz_G S0) (hp1 : (-2147483648) ≤ p1 ∧ p1 ≤ 2147483647) : mm_Met g l zy_fill_27_103 zr_fill_27_103_1075 [.ref 1075, zi p1] (zz_M S0 n) n (zz_QV n (zp_fill_27_103_1075 p1 S0)) := by
  refine zz_enter (by decide) (Nat.le_of_ble_eq_true rfl) (zz_less (ls1 := [some (.ref 1075), some (zi p1)]) ⟨rfl, ⟨rfl, trivial⟩⟩ ?_)
  have F_S0 : zz_fr [] [1075] (fun _ _ => False) S0 S0 := zz_fr.refl
  have k5 : ∀ (x2 : Int) (S : zz_S), zz_G S → zz_fr [] [1075] (fun _ _ => False) S0 S → (0 ≤ x2 ∧ x2 ≤ 11) → zz_E g l zy_fill_27_103 zr_fill_27_103_1075 (zz_QV n (zp_fill_27_103_1075 p1 S0)) S n 5 [some (.ref 1075), some (zi p1), some (zi x2), some (zi 11)] [] 0 0 := fun x2 S a b j0 => (zi_fill_27_103_1075 (g := g) (l := l) p1 S0 n hn G_S0 hp1 _) x2 S a b j0 (Nat.lt_succ_self _)
  refine zz_iconst zd_27_103_0 ?_
  refine zz_istore_n [some (.ref 1075), some (zi p1), some (zi 0)] zd_27_103_1 (by decide) rfl ?_
  refine zz_aload_n (x := 1075) rfl zd_27_103_2 ?_
  refine zz_alen zd_27_103_3 zT_1075 rfl (zz_ltn hn rfl) ?_
  refine zz_istore_n [some (.ref 1075), some (zi p1), some (zi 0), some (zi 11)] zd_27_103_4 (by decide) rfl ?_
  refine zz_less (ls1 := [some (.ref 1075), some (zi p1), some (zi 0), some (zi 11)]) ⟨rfl, ⟨rfl, ⟨rfl, ⟨rfl, trivial⟩⟩⟩⟩ ?_
  exact k5 0 S0 G_S0 F_S0 (by omega)
theorem zk_NetworkReader_44 : mm_Sl "TensorForge$NetworkReader" 44 2 zy_fill_27_103 := ⟨zyw_fill_27_103, mm_tb_1 916 (by decide +kernel) rfl, mm_tb_1 532 (by decide +kernel) rfl⟩
theorem zd_8_2_17 : zz_D zy_readInto_8_2 17 (.aload_n 0) 1 18 := ⟨by decide +kernel, rfl⟩
theorem zd_8_2_18 : zz_D zy_readInto_8_2 18 (.getfield 9) 3 21 := ⟨by decide +kernel, rfl⟩
theorem zf_NetworkReader_9 : mm_Fl "TensorForge$NetworkReader" 9 8 0 (.object "TensorForge$Text") true := ⟨R_NetworkReader, F_NetworkReader, 9, t_NetworkReader, rfl, i_NetworkReader, by decide, mm_tb_1 340 (by decide +kernel) rfl, rfl, t_NetworkReader_ok, n_NetworkReader, rfl, by decide +kernel⟩
theorem zd_8_2_21 : zz_D zy_readInto_8_2 21 (.invokevirtual 50) 3 24 := ⟨by decide +kernel, rfl⟩
theorem zk_NetworkReader_50 : mm_Vl "TensorForge$NetworkReader" 50 6 0 zy_rewind_11_5 := ⟨zyw_rewind_11_5, (R_Text, F_Text, 7), rfl, mm_tb_1 917 (by decide +kernel) rfl, mm_tb_1 282 (by decide +kernel) rfl, mm_tb_1 283 (by decide +kernel) rfl⟩
theorem zd_8_2_24 : zz_D zy_readInto_8_2 24 (.iload_n 3) 1 25 := ⟨by decide +kernel, rfl⟩
theorem zd_8_2_25 : zz_D zy_readInto_8_2 25 (.sipush 1500) 3 28 := ⟨by decide +kernel, rfl⟩
theorem zd_8_2_28 : zz_B zy_readInto_8_2 28 (Instr.if_icmp .gt) 143 31 := ⟨115, by decide +kernel, rfl, rfl⟩
theorem zd_8_2_31 : zz_D zy_readInto_8_2 31 (.aload_n 0) 1 32 := ⟨by decide +kernel, rfl⟩
theorem zd_8_2_32 : zz_D zy_readInto_8_2 32 (.getfield 9) 3 35 := ⟨by decide +kernel, rfl⟩
theorem zd_8_2_35 : zz_D zy_readInto_8_2 35 (.invokevirtual 55) 3 38 := ⟨by decide +kernel, rfl⟩
theorem zk_NetworkReader_55 : mm_Vl "TensorForge$NetworkReader" 55 6 0 zy_nextLine_11_6 := ⟨zyw_nextLine_11_6, (R_Text, F_Text, 7), rfl, mm_tb_1 918 (by decide +kernel) rfl, mm_tb_1 566 (by decide +kernel) rfl, mm_tb_1 567 (by decide +kernel) rfl⟩
theorem zd_8_2_38 : zz_B zy_readInto_8_2 38 (Instr.ifCond .eq) 143 41 := ⟨105, by decide +kernel, rfl, rfl⟩
theorem zd_8_2_143 : zz_D zy_readInto_8_2 143 (.iload_n 2) 1 144 := ⟨by decide +kernel, rfl⟩
theorem zd_8_2_144 : zz_B zy_readInto_8_2 144 (Instr.ifCond .eq) 151 147 := ⟨7, by decide +kernel, rfl, rfl⟩
theorem zd_8_2_151 : zz_D zy_readInto_8_2 151 (.iload_n 3) 1 152 := ⟨by decide +kernel, rfl⟩
theorem zd_8_2_152 : zz_D zy_readInto_8_2 152 (.ireturn) 1 153 := ⟨by decide +kernel, rfl⟩
theorem zd_8_2_41 : zz_D zy_readInto_8_2 41 (.aload_n 0) 1 42 := ⟨by decide +kernel, rfl⟩
theorem zd_8_2_42 : zz_D zy_readInto_8_2 42 (.getfield 9) 3 45 := ⟨by decide +kernel, rfl⟩
theorem zd_8_2_45 : zz_D zy_readInto_8_2 45 (.invokevirtual 59) 3 48 := ⟨by decide +kernel, rfl⟩
theorem zk_NetworkReader_59 : mm_Vl "TensorForge$NetworkReader" 59 6 0 zy_nextToken_11_7 := ⟨zyw_nextToken_11_7, (R_Text, F_Text, 7), rfl, mm_tb_1 919 (by decide +kernel) rfl, mm_tb_1 570 (by decide +kernel) rfl, mm_tb_1 571 (by decide +kernel) rfl⟩
theorem zd_8_2_48 : zz_D zy_readInto_8_2 48 (.aload_n 0) 1 49 := ⟨by decide +kernel, rfl⟩
theorem zd_8_2_49 : zz_D zy_readInto_8_2 49 (.getfield 9) 3 52 := ⟨by decide +kernel, rfl⟩
theorem zd_8_2_52 : zz_D zy_readInto_8_2 52 (.getfield 62) 3 55 := ⟨by decide +kernel, rfl⟩
theorem zf_NetworkReader_62 : mm_Fl "TensorForge$NetworkReader" 62 6 4 .int false := ⟨R_Text, F_Text, 7, t_Text, rfl, i_Text, by decide, mm_tb_1 291 (by decide +kernel) rfl, rfl, t_Text_ok, n_Text, rfl, by decide +kernel⟩
theorem zd_8_2_55 : zz_B zy_readInto_8_2 55 (Instr.ifCond .eq) 137 58 := ⟨82, by decide +kernel, rfl, rfl⟩
theorem zd_8_2_137 : zz_D zy_readInto_8_2 137 (.iinc 3 1) 3 140 := ⟨by decide +kernel, rfl⟩
theorem zd_8_2_140 : zz_B zy_readInto_8_2 140 Instr.goto 24 143 := ⟨(-116), by decide +kernel, rfl, rfl⟩
theorem zd_8_2_58 : zz_D zy_readInto_8_2 58 (.iload_n 2) 1 59 := ⟨by decide +kernel, rfl⟩
theorem zd_8_2_59 : zz_B zy_readInto_8_2 59 (Instr.ifCond .eq) 94 62 := ⟨35, by decide +kernel, rfl, rfl⟩
theorem zd_8_2_94 : zz_D zy_readInto_8_2 94 (.aload_n 0) 1 95 := ⟨by decide +kernel, rfl⟩
theorem zd_8_2_95 : zz_D zy_readInto_8_2 95 (.invokevirtual 75) 3 98 := ⟨by decide +kernel, rfl⟩
abbrev zy_readInput_8_3 : mm_Y := (⟨"TensorForge$NetworkReader", "readInput", "()Z"⟩, prog_8_method_3_code, 4, (some .boolean))
theorem zyw_readInput_8_3 : mm_Yw zy_readInput_8_3 0 := ⟨mm_tb_1 1021 (by decide +kernel) rfl, mm_tb_1 9 (by decide +kernel) rfl, ⟨by decide, by decide⟩, by decide +kernel⟩
theorem zd_8_3_0 : zz_D zy_readInput_8_3 0 (.aload_n 0) 1 1 := ⟨by decide +kernel, rfl⟩
theorem zd_8_3_1 : zz_D zy_readInput_8_3 1 (.getfield 9) 3 4 := ⟨by decide +kernel, rfl⟩
theorem zd_8_3_4 : zz_D zy_readInput_8_3 4 (.ldc 85) 2 6 := ⟨by decide +kernel, rfl⟩
theorem zd_8_3_6 : zz_D zy_readInput_8_3 6 (.invokevirtual 87) 3 9 := ⟨by decide +kernel, rfl⟩
theorem zk_NetworkReader_87 : mm_Vl "TensorForge$NetworkReader" 87 6 1 zy_isWord_11_9 := ⟨zyw_isWord_11_9, (R_Text, F_Text, 7), rfl, mm_tb_1 925 (by decide +kernel) rfl, mm_tb_1 595 (by decide +kernel) rfl, mm_tb_1 596 (by decide +kernel) rfl⟩
theorem zd_8_3_9 : zz_B zy_readInput_8_3 9 (Instr.ifCond .eq) 22 12 := ⟨13, by decide +kernel, rfl, rfl⟩
theorem zd_8_3_22 : zz_D zy_readInput_8_3 22 (.iconst 0) 1 23 := ⟨by decide +kernel, rfl⟩
theorem zd_8_3_23 : zz_D zy_readInput_8_3 23 (.ireturn) 1 24 := ⟨by decide +kernel, rfl⟩
theorem zd_8_3_12 : zz_D zy_readInput_8_3 12 (.aload_n 0) 1 13 := ⟨by decide +kernel, rfl⟩
theorem zd_8_3_13 : zz_D zy_readInput_8_3 13 (.getfield 9) 3 16 := ⟨by decide +kernel, rfl⟩
theorem zd_8_3_16 : zz_D zy_readInput_8_3 16 (.invokevirtual 91) 3 19 := ⟨by decide +kernel, rfl⟩
theorem zk_NetworkReader_91 : mm_Vl "TensorForge$NetworkReader" 91 6 0 zy_nextIsNumber_11_11 := ⟨zyw_nextIsNumber_11_11, (R_Text, F_Text, 7), rfl, mm_tb_1 979 (by decide +kernel) rfl, mm_tb_1 659 (by decide +kernel) rfl, mm_tb_1 660 (by decide +kernel) rfl⟩
theorem zd_8_3_19 : zz_B zy_readInput_8_3 19 (Instr.ifCond .ne) 24 22 := ⟨5, by decide +kernel, rfl, rfl⟩
theorem zd_8_3_24 : zz_D zy_readInput_8_3 24 (.aload_n 0) 1 25 := ⟨by decide +kernel, rfl⟩
theorem zd_8_3_25 : zz_D zy_readInput_8_3 25 (.getfield 9) 3 28 := ⟨by decide +kernel, rfl⟩
theorem zd_8_3_28 : zz_D zy_readInput_8_3 28 (.getfield 94) 3 31 := ⟨by decide +kernel, rfl⟩
theorem zf_NetworkReader_94 : mm_Fl "TensorForge$NetworkReader" 94 6 6 .int false := ⟨R_Text, F_Text, 7, t_Text, rfl, i_Text, by decide, mm_tb_1 295 (by decide +kernel) rfl, rfl, t_Text_ok, n_Text, rfl, by decide +kernel⟩
theorem zd_8_3_31 : zz_D zy_readInput_8_3 31 (.istore_n 1) 1 32 := ⟨by decide +kernel, rfl⟩
theorem zd_8_3_32 : zz_D zy_readInput_8_3 32 (.aload_n 0) 1 33 := ⟨by decide +kernel, rfl⟩
theorem zd_8_3_33 : zz_D zy_readInput_8_3 33 (.getfield 9) 3 36 := ⟨by decide +kernel, rfl⟩
theorem zd_8_3_36 : zz_D zy_readInput_8_3 36 (.ldc 97) 2 38 := ⟨by decide +kernel, rfl⟩
theorem zd_8_3_38 : zz_D zy_readInput_8_3 38 (.invokevirtual 99) 3 41 := ⟨by decide +kernel, rfl⟩
theorem zk_NetworkReader_99 : mm_Vl "TensorForge$NetworkReader" 99 6 1 zy_nextIsWord_11_10 := ⟨zyw_nextIsWord_11_10, (R_Text, F_Text, 7), rfl, mm_tb_1 984 (by decide +kernel) rfl, mm_tb_1 673 (by decide +kernel) rfl, mm_tb_1 674 (by decide +kernel) rfl⟩
theorem zd_8_3_41 : zz_B zy_readInput_8_3 41 (Instr.ifCond .eq) 54 44 := ⟨13, by decide +kernel, rfl, rfl⟩
theorem zd_8_3_54 : zz_D zy_readInput_8_3 54 (.iconst 0) 1 55 := ⟨by decide +kernel, rfl⟩
theorem zd_8_3_55 : zz_D zy_readInput_8_3 55 (.ireturn) 1 56 := ⟨by decide +kernel, rfl⟩
theorem zd_8_3_44 : zz_D zy_readInput_8_3 44 (.aload_n 0) 1 45 := ⟨by decide +kernel, rfl⟩
theorem zd_8_3_45 : zz_D zy_readInput_8_3 45 (.getfield 9) 3 48 := ⟨by decide +kernel, rfl⟩
theorem zd_8_3_48 : zz_D zy_readInput_8_3 48 (.invokevirtual 91) 3 51 := ⟨by decide +kernel, rfl⟩
theorem zd_8_3_51 : zz_B zy_readInput_8_3 51 (Instr.ifCond .ne) 56 54 := ⟨5, by decide +kernel, rfl, rfl⟩
theorem zd_8_3_56 : zz_D zy_readInput_8_3 56 (.aload_n 0) 1 57 := ⟨by decide +kernel, rfl⟩
theorem zd_8_3_57 : zz_D zy_readInput_8_3 57 (.getfield 9) 3 60 := ⟨by decide +kernel, rfl⟩
theorem zd_8_3_60 : zz_D zy_readInput_8_3 60 (.getfield 94) 3 63 := ⟨by decide +kernel, rfl⟩
theorem zd_8_3_63 : zz_D zy_readInput_8_3 63 (.istore_n 2) 1 64 := ⟨by decide +kernel, rfl⟩
theorem zd_8_3_64 : zz_D zy_readInput_8_3 64 (.aload_n 0) 1 65 := ⟨by decide +kernel, rfl⟩
theorem zd_8_3_65 : zz_D zy_readInput_8_3 65 (.getfield 9) 3 68 := ⟨by decide +kernel, rfl⟩
theorem zd_8_3_68 : zz_D zy_readInput_8_3 68 (.ldc 97) 2 70 := ⟨by decide +kernel, rfl⟩
theorem zd_8_3_70 : zz_D zy_readInput_8_3 70 (.invokevirtual 99) 3 73 := ⟨by decide +kernel, rfl⟩
theorem zd_8_3_73 : zz_B zy_readInput_8_3 73 (Instr.ifCond .eq) 86 76 := ⟨13, by decide +kernel, rfl, rfl⟩
theorem zd_8_3_86 : zz_D zy_readInput_8_3 86 (.iconst 0) 1 87 := ⟨by decide +kernel, rfl⟩
theorem zd_8_3_87 : zz_D zy_readInput_8_3 87 (.ireturn) 1 88 := ⟨by decide +kernel, rfl⟩
theorem zd_8_3_76 : zz_D zy_readInput_8_3 76 (.aload_n 0) 1 77 := ⟨by decide +kernel, rfl⟩
theorem zd_8_3_77 : zz_D zy_readInput_8_3 77 (.getfield 9) 3 80 := ⟨by decide +kernel, rfl⟩
theorem zd_8_3_80 : zz_D zy_readInput_8_3 80 (.invokevirtual 91) 3 83 := ⟨by decide +kernel, rfl⟩
theorem zd_8_3_83 : zz_B zy_readInput_8_3 83 (Instr.ifCond .ne) 88 86 := ⟨5, by decide +kernel, rfl, rfl⟩
theorem zd_8_3_88 : zz_D zy_readInput_8_3 88 (.aload_n 0) 1 89 := ⟨by decide +kernel, rfl⟩
theorem zd_8_3_89 : zz_D zy_readInput_8_3 89 (.getfield 9) 3 92 := ⟨by decide +kernel, rfl⟩
theorem zd_8_3_92 : zz_D zy_readInput_8_3 92 (.getfield 94) 3 95 := ⟨by decide +kernel, rfl⟩
theorem zd_8_3_95 : zz_D zy_readInput_8_3 95 (.istore_n 3) 1 96 := ⟨by decide +kernel, rfl⟩
theorem zd_8_3_96 : zz_D zy_readInput_8_3 96 (.iload_n 1) 1 97 := ⟨by decide +kernel, rfl⟩
theorem zd_8_3_97 : zz_D zy_readInput_8_3 97 (.iload_n 2) 1 98 := ⟨by decide +kernel, rfl⟩
theorem zd_8_3_98 : zz_D zy_readInput_8_3 98 (.iload_n 3) 1 99 := ⟨by decide +kernel, rfl⟩
theorem zd_8_3_99 : zz_D zy_readInput_8_3 99 (.invokestatic 102) 3 102 := ⟨by decide +kernel, rfl⟩
theorem zk_NetworkReader_102 : mm_Sl "TensorForge$NetworkReader" 102 3 zy_inputFits_7_2 := ⟨zyw_inputFits_7_2, mm_tb_1 1022 (by decide +kernel) rfl, mm_tb_1 1023 (by decide +kernel) rfl⟩
theorem zd_8_3_102 : zz_B zy_readInput_8_3 102 (Instr.ifCond .ne) 107 105 := ⟨5, by decide +kernel, rfl, rfl⟩
theorem zd_8_3_105 : zz_D zy_readInput_8_3 105 (.iconst 0) 1 106 := ⟨by decide +kernel, rfl⟩
theorem zd_8_3_106 : zz_D zy_readInput_8_3 106 (.ireturn) 1 107 := ⟨by decide +kernel, rfl⟩
theorem zd_8_3_107 : zz_D zy_readInput_8_3 107 (.aload_n 0) 1 108 := ⟨by decide +kernel, rfl⟩
theorem zd_8_3_108 : zz_D zy_readInput_8_3 108 (.getfield 15) 3 111 := ⟨by decide +kernel, rfl⟩
theorem zd_8_3_111 : zz_D zy_readInput_8_3 111 (.iload_n 1) 1 112 := ⟨by decide +kernel, rfl⟩
theorem zd_8_3_112 : zz_D zy_readInput_8_3 112 (.iload_n 2) 1 113 := ⟨by decide +kernel, rfl⟩
theorem zd_8_3_113 : zz_D zy_readInput_8_3 113 (.iload_n 3) 1 114 := ⟨by decide +kernel, rfl⟩
theorem zd_8_3_114 : zz_D zy_readInput_8_3 114 (.invokevirtual 106) 3 117 := ⟨by decide +kernel, rfl⟩
theorem zk_NetworkReader_106 : mm_Vl "TensorForge$NetworkReader" 106 1 3 zy_beginWith_7_3 := ⟨zyw_beginWith_7_3, (R_Network, F_Network, 2), rfl, mm_tb_1 1026 (by decide +kernel) rfl, mm_tb_1 1027 (by decide +kernel) rfl, mm_tb_1 1028 (by decide +kernel) rfl⟩
theorem zd_8_3_117 : zz_D zy_readInput_8_3 117 (.aload_n 0) 1 118 := ⟨by decide +kernel, rfl⟩
theorem zd_8_3_118 : zz_D zy_readInput_8_3 118 (.sipush 128) 3 121 := ⟨by decide +kernel, rfl⟩
theorem zd_8_3_121 : zz_D zy_readInput_8_3 121 (.putfield 35) 3 124 := ⟨by decide +kernel, rfl⟩
theorem zf_NetworkReader_35 : mm_Fl "TensorForge$NetworkReader" 35 8 6 .int false := ⟨R_NetworkReader, F_NetworkReader, 9, t_NetworkReader, rfl, i_NetworkReader, by decide, mm_tb_1 346 (by decide +kernel) rfl, rfl, t_NetworkReader_ok, n_NetworkReader, rfl, by decide +kernel⟩
theorem zd_8_3_124 : zz_D zy_readInput_8_3 124 (.aload_n 0) 1 125 := ⟨by decide +kernel, rfl⟩
theorem zd_8_3_125 : zz_D zy_readInput_8_3 125 (.iconst 0) 1 126 := ⟨by decide +kernel, rfl⟩
theorem zd_8_3_126 : zz_D zy_readInput_8_3 126 (.putfield 38) 3 129 := ⟨by decide +kernel, rfl⟩
theorem zf_NetworkReader_38 : mm_Fl "TensorForge$NetworkReader" 38 8 7 .int false := ⟨R_NetworkReader, F_NetworkReader, 9, t_NetworkReader, rfl, i_NetworkReader, by decide, mm_tb_1 347 (by decide +kernel) rfl, rfl, t_NetworkReader_ok, n_NetworkReader, rfl, by decide +kernel⟩
theorem zd_8_3_129 : zz_D zy_readInput_8_3 129 (.iconst 1) 1 130 := ⟨by decide +kernel, rfl⟩
theorem zd_8_3_130 : zz_D zy_readInput_8_3 130 (.ireturn) 1 131 := ⟨by decide +kernel, rfl⟩
-- TensorForge$NetworkReader readInput ()Z
abbrev zr_readInput_8_3 : Room := { frames := 6, cells := 0, slots := 0, locals := 81 }
def zp_readInput_8_3  (S0 : zz_S) : Int → zz_S → Prop := fun r S => zz_G S ∧ zz_fr [(1070, 3), (1070, 4), (1070, 5), (1070, 6), (1073, 6), (1073, 7)] [] (fun a i => (a = zz_rf 3 (S0 1073 1) ∧ i = 1) ∨ (a = zz_rf 6 (12 * (S0 1073 1) + 0) ∧ i = 0) ∨ (a = zz_rf 6 (12 * (S0 1073 1) + 0) ∧ i = 1) ∨ (a = zz_rf 6 (12 * (S0 1073 1) + 0) ∧ i = 10) ∨ (a = zz_rf 6 (12 * (S0 1073 1) + 0) ∧ i = 11) ∨ (a = zz_rf 6 (12 * (S0 1073 1) + 0) ∧ i = 12) ∨ (a = zz_rf 6 (12 * (S0 1073 1) + 0) ∧ i = 13) ∨ (a = zz_rf 6 (12 * (S0 1073 1) + 0) ∧ i = 14) ∨ (a = zz_rf 6 (12 * (S0 1073 1) + 0) ∧ i = 2) ∨ (a = zz_rf 6 (12 * (S0 1073 1) + 0) ∧ i = 3) ∨ (a = zz_rf 6 (12 * (S0 1073 1) + 0) ∧ i = 4) ∨ (a = zz_rf 6 (12 * (S0 1073 1) + 0) ∧ i = 5) ∨ (a = zz_rf 6 (12 * (S0 1073 1) + 0) ∧ i = 6) ∨ (a = zz_rf 6 (12 * (S0 1073 1) + 0) ∧ i = 7) ∨ (a = zz_rf 6 (12 * (S0 1073 1) + 0) ∧ i = 8) ∨ (a = zz_rf 6 (12 * (S0 1073 1) + 0) ∧ i = 9)) S0 S ∧ (0 ≤ r ∧ r ≤ 1)
theorem zc_readInput_8_3 {g : mm_G} {l : Launch}  (S0 : zz_S) (n : Nat) (hn : zz_end ≤ n) (G_S0 : zz_G S0)  : mm_Met g l zy_readInput_8_3 zr_readInput_8_3 [.ref 1073] (zz_M S0 n) n (zz_QI n (zp_readInput_8_3  S0)) := by
  refine zz_enter (by decide) (Nat.le_of_ble_eq_true rfl) (zz_less (ls1 := [some (.ref 1073)]) ⟨rfl, trivial⟩ ?_)
  have F_S0 : zz_fr [(1070, 3), (1070, 4), (1070, 5), (1070, 6), (1073, 6), (1073, 7)] [] (fun a i => (a = zz_rf 3 (S0 1073 1) ∧ i = 1) ∨ (a = zz_rf 6 (12 * (S0 1073 1) + 0) ∧ i = 0) ∨ (a = zz_rf 6 (12 * (S0 1073 1) + 0) ∧ i = 1) ∨ (a = zz_rf 6 (12 * (S0 1073 1) + 0) ∧ i = 10) ∨ (a = zz_rf 6 (12 * (S0 1073 1) + 0) ∧ i = 11) ∨ (a = zz_rf 6 (12 * (S0 1073 1) + 0) ∧ i = 12) ∨ (a = zz_rf 6 (12 * (S0 1073 1) + 0) ∧ i = 13) ∨ (a = zz_rf 6 (12 * (S0 1073 1) + 0) ∧ i = 14) ∨ (a = zz_rf 6 (12 * (S0 1073 1) + 0) ∧ i = 2) ∨ (a = zz_rf 6 (12 * (S0 1073 1) + 0) ∧ i = 3) ∨ (a = zz_rf 6 (12 * (S0 1073 1) + 0) ∧ i = 4) ∨ (a = zz_rf 6 (12 * (S0 1073 1) + 0) ∧ i = 5) ∨ (a = zz_rf 6 (12 * (S0 1073 1) + 0) ∧ i = 6) ∨ (a = zz_rf 6 (12 * (S0 1073 1) + 0) ∧ i = 7) ∨ (a = zz_rf 6 (12 * (S0 1073 1) + 0) ∧ i = 8) ∨ (a = zz_rf 6 (12 * (S0 1073 1) + 0) ∧ i = 9)) S0 S0 := zz_fr.refl
  refine zz_aload_n (x := 1073) rfl zd_8_3_0 ?_
  refine zz_getr (kd := 0) (z := 1070) zd_8_3_1 zf_NetworkReader_9 zT_1073 rfl (zz_ltn hn rfl) (zz_G.eq G_S0 1073 0 1070 rfl rfl) (by decide) 1070 rfl ?_
  refine zz_ldcs (t := 29) (by decide +kernel) (by decide) zd_8_3_4 ?_
  refine zz_callVI [.ref (100 + 29)] zd_8_3_6 zk_NetworkReader_87 zT_1070 (zz_ltn hn rfl) rfl rfl ⟨Nat.le_of_ble_eq_true rfl, Nat.le_of_ble_eq_true rfl⟩ ⟨rfl, rfl⟩ (Nat.zero_le _) (Nat.zero_le _) (zc_isWord_11_9 29 S0 n hn G_S0 (by omega)) (fun v2 S1 hP => ?_)
  obtain ⟨rfl, o3⟩ := hP
  rcases (by omega : v2 = 0 ∨ v2 = 1) with rfl | rfl
  · refine zz_if_eq (by omega) zd_8_3_9 (fun c4 => ?_) (fun c4 => ?_)
    · refine zz_iconst zd_8_3_22 ?_
      exact zz_zret zd_8_3_23 rfl (by omega) (Nat.zero_le _) (Nat.zero_le _) ⟨_, _, rfl, G_S0, F_S0, by omega⟩
    · exfalso; omega
  · refine zz_if_eq (by omega) zd_8_3_9 (fun c5 => ?_) (fun c5 => ?_)
    · exfalso; omega
    · refine zz_aload_n (x := 1073) rfl zd_8_3_12 ?_
      refine zz_getr (kd := 0) (z := 1070) zd_8_3_13 zf_NetworkReader_9 zT_1073 rfl (zz_ltn hn rfl) (zz_G.eq G_S0 1073 0 1070 rfl rfl) (by decide) 1070 rfl ?_
      refine zz_callVI [] zd_8_3_16 zk_NetworkReader_91 zT_1070 (zz_ltn hn rfl) rfl rfl ⟨Nat.le_of_ble_eq_true rfl, Nat.le_of_ble_eq_true rfl⟩ ⟨rfl, rfl⟩ (Nat.zero_le _) (Nat.zero_le _) (zc_nextIsNumber_11_11  S0 n hn G_S0 ) (fun v7 S6 hP => ?_)
      obtain ⟨G_S6, fS6, o8⟩ := hP
      have F_S6 := zz_fr.trans F_S0 fS6 rfl zz_nv
      rcases (by omega : v7 = 0 ∨ v7 = 1) with rfl | rfl
      · refine zz_if_ne (by omega) zd_8_3_19 (fun c9 => ?_) (fun c9 => ?_)
        · exfalso; omega
        · refine zz_iconst zd_8_3_22 ?_
          exact zz_zret zd_8_3_23 rfl (by omega) (Nat.zero_le _) (Nat.zero_le _) ⟨_, _, rfl, G_S6, F_S6, by omega⟩
      · refine zz_if_ne (by omega) zd_8_3_19 (fun c10 => ?_) (fun c10 => ?_)
        · refine zz_aload_n (x := 1073) rfl zd_8_3_24 ?_
          refine zz_getr (kd := 0) (z := 1070) zd_8_3_25 zf_NetworkReader_9 zT_1073 rfl (zz_ltn hn rfl) (zz_G.eq G_S6 1073 0 1070 rfl rfl) (by decide) 1070 rfl ?_
          have g11 := zz_G.r G_S6 1070 6 (-2147483648) 2147483647 rfl rfl
          refine zz_geti (z := S6 1070 6) zd_8_3_28 zf_NetworkReader_94 zT_1070 rfl (zz_ltn hn rfl) rfl ?_
          refine zz_istore_n [some (.ref 1073), some (zi (S6 1070 6))] zd_8_3_31 (by decide) rfl ?_
          refine zz_aload_n (x := 1073) rfl zd_8_3_32 ?_
          refine zz_getr (kd := 0) (z := 1070) zd_8_3_33 zf_NetworkReader_9 zT_1073 rfl (zz_ltn hn rfl) (zz_G.eq G_S6 1073 0 1070 rfl rfl) (by decide) 1070 rfl ?_
          refine zz_ldcs (t := 12) (by decide +kernel) (by decide) zd_8_3_36 ?_
          refine zz_callVI [.ref (100 + 12)] zd_8_3_38 zk_NetworkReader_99 zT_1070 (zz_ltn hn rfl) rfl rfl ⟨Nat.le_of_ble_eq_true rfl, Nat.le_of_ble_eq_true rfl⟩ ⟨rfl, rfl⟩ (Nat.zero_le _) (Nat.zero_le _) (zc_nextIsWord_11_10 12 S6 n hn G_S6 (by omega)) (fun v13 S12 hP => ?_)
          obtain ⟨G_S12, fS12, o14⟩ := hP
          have F_S12 := zz_fr.trans F_S6 fS12 rfl zz_nv
          rcases (by omega : v13 = 0 ∨ v13 = 1) with rfl | rfl
          · refine zz_if_eq (by omega) zd_8_3_41 (fun c15 => ?_) (fun c15 => ?_)
            · refine zz_iconst zd_8_3_54 ?_
              exact zz_zret zd_8_3_55 rfl (by omega) (Nat.zero_le _) (Nat.zero_le _) ⟨_, _, rfl, G_S12, F_S12, by omega⟩
            · exfalso; omega
          · refine zz_if_eq (by omega) zd_8_3_41 (fun c16 => ?_) (fun c16 => ?_)
            · exfalso; omega
            · refine zz_aload_n (x := 1073) rfl zd_8_3_44 ?_
              refine zz_getr (kd := 0) (z := 1070) zd_8_3_45 zf_NetworkReader_9 zT_1073 rfl (zz_ltn hn rfl) (zz_G.eq G_S12 1073 0 1070 rfl rfl) (by decide) 1070 rfl ?_
              refine zz_callVI [] zd_8_3_48 zk_NetworkReader_91 zT_1070 (zz_ltn hn rfl) rfl rfl ⟨Nat.le_of_ble_eq_true rfl, Nat.le_of_ble_eq_true rfl⟩ ⟨rfl, rfl⟩ (Nat.zero_le _) (Nat.zero_le _) (zc_nextIsNumber_11_11  S12 n hn G_S12 ) (fun v18 S17 hP => ?_)
              obtain ⟨G_S17, fS17, o19⟩ := hP
              have F_S17 := zz_fr.trans F_S12 fS17 rfl zz_nv
              rcases (by omega : v18 = 0 ∨ v18 = 1) with rfl | rfl
              · refine zz_if_ne (by omega) zd_8_3_51 (fun c20 => ?_) (fun c20 => ?_)
                · exfalso; omega
                · refine zz_iconst zd_8_3_54 ?_
                  exact zz_zret zd_8_3_55 rfl (by omega) (Nat.zero_le _) (Nat.zero_le _) ⟨_, _, rfl, G_S17, F_S17, by omega⟩
              · refine zz_if_ne (by omega) zd_8_3_51 (fun c21 => ?_) (fun c21 => ?_)
                · refine zz_aload_n (x := 1073) rfl zd_8_3_56 ?_
                  refine zz_getr (kd := 0) (z := 1070) zd_8_3_57 zf_NetworkReader_9 zT_1073 rfl (zz_ltn hn rfl) (zz_G.eq G_S17 1073 0 1070 rfl rfl) (by decide) 1070 rfl ?_
                  have g22 := zz_G.r G_S17 1070 6 (-2147483648) 2147483647 rfl rfl
                  refine zz_geti (z := S17 1070 6) zd_8_3_60 zf_NetworkReader_94 zT_1070 rfl (zz_ltn hn rfl) rfl ?_
                  refine zz_istore_n [some (.ref 1073), some (zi (S6 1070 6)), some (zi (S17 1070 6))] zd_8_3_63 (by decide) rfl ?_
                  refine zz_aload_n (x := 1073) rfl zd_8_3_64 ?_
                  refine zz_getr (kd := 0) (z := 1070) zd_8_3_65 zf_NetworkReader_9 zT_1073 rfl (zz_ltn hn rfl) (zz_G.eq G_S17 1073 0 1070 rfl rfl) (by decide) 1070 rfl ?_
                  refine zz_ldcs (t := 12) (by decide +kernel) (by decide) zd_8_3_68 ?_
                  refine zz_callVI [.ref (100 + 12)] zd_8_3_70 zk_NetworkReader_99 zT_1070 (zz_ltn hn rfl) rfl rfl ⟨Nat.le_of_ble_eq_true rfl, Nat.le_of_ble_eq_true rfl⟩ ⟨rfl, rfl⟩ (Nat.zero_le _) (Nat.zero_le _) (zc_nextIsWord_11_10 12 S17 n hn G_S17 (by omega)) (fun v24 S23 hP => ?_)
                  obtain ⟨G_S23, fS23, o25⟩ := hP
                  have F_S23 := zz_fr.trans F_S17 fS23 rfl zz_nv
                  rcases (by omega : v24 = 0 ∨ v24 = 1) with rfl | rfl
                  · refine zz_if_eq (by omega) zd_8_3_73 (fun c26 => ?_) (fun c26 => ?_)
                    · refine zz_iconst zd_8_3_86 ?_
                      exact zz_zret zd_8_3_87 rfl (by omega) (Nat.zero_le _) (Nat.zero_le _) ⟨_, _, rfl, G_S23, F_S23, by omega⟩
                    · exfalso; omega
                  · refine zz_if_eq (by omega) zd_8_3_73 (fun c27 => ?_) (fun c27 => ?_)
                    · exfalso; omega
                    · refine zz_aload_n (x := 1073) rfl zd_8_3_76 ?_
                      refine zz_getr (kd := 0) (z := 1070) zd_8_3_77 zf_NetworkReader_9 zT_1073 rfl (zz_ltn hn rfl) (zz_G.eq G_S23 1073 0 1070 rfl rfl) (by decide) 1070 rfl ?_
                      refine zz_callVI [] zd_8_3_80 zk_NetworkReader_91 zT_1070 (zz_ltn hn rfl) rfl rfl ⟨Nat.le_of_ble_eq_true rfl, Nat.le_of_ble_eq_true rfl⟩ ⟨rfl, rfl⟩ (Nat.zero_le _) (Nat.zero_le _) (zc_nextIsNumber_11_11  S23 n hn G_S23 ) (fun v29 S28 hP => ?_)
                      obtain ⟨G_S28, fS28, o30⟩ := hP
                      have F_S28 := zz_fr.trans F_S23 fS28 rfl zz_nv
                      rcases (by omega : v29 = 0 ∨ v29 = 1) with rfl | rfl
                      · refine zz_if_ne (by omega) zd_8_3_83 (fun c31 => ?_) (fun c31 => ?_)
                        · exfalso; omega
                        · refine zz_iconst zd_8_3_86 ?_
                          exact zz_zret zd_8_3_87 rfl (by omega) (Nat.zero_le _) (Nat.zero_le _) ⟨_, _, rfl, G_S28, F_S28, by omega⟩
                      · refine zz_if_ne (by omega) zd_8_3_83 (fun c32 => ?_) (fun c32 => ?_)
                        · refine zz_aload_n (x := 1073) rfl zd_8_3_88 ?_
                          refine zz_getr (kd := 0) (z := 1070) zd_8_3_89 zf_NetworkReader_9 zT_1073 rfl (zz_ltn hn rfl) (zz_G.eq G_S28 1073 0 1070 rfl rfl) (by decide) 1070 rfl ?_
                          have g33 := zz_G.r G_S28 1070 6 (-2147483648) 2147483647 rfl rfl
                          refine zz_geti (z := S28 1070 6) zd_8_3_92 zf_NetworkReader_94 zT_1070 rfl (zz_ltn hn rfl) rfl ?_
                          refine zz_istore_n [some (.ref 1073), some (zi (S6 1070 6)), some (zi (S17 1070 6)), some (zi (S28 1070 6))] zd_8_3_95 (by decide) rfl ?_
                          refine zz_iload_n (x := S6 1070 6) rfl zd_8_3_96 ?_
                          refine zz_iload_n (x := S17 1070 6) rfl zd_8_3_97 ?_
                          refine zz_iload_n (x := S28 1070 6) rfl zd_8_3_98 ?_
                          refine zz_callSI [zi (S6 1070 6), zi (S17 1070 6), zi (S28 1070 6)] zd_8_3_99 zk_NetworkReader_102 rfl rfl ⟨Nat.le_of_ble_eq_true rfl, Nat.le_of_ble_eq_true rfl⟩ ⟨rfl, rfl⟩ (Nat.zero_le _) (Nat.zero_le _) (zc_inputFits_7_2 (S6 1070 6) (S17 1070 6) (S28 1070 6) S28 n hn G_S28 (by omega) (by omega) (by omega)) (fun v35 S34 hP => ?_)
                          obtain ⟨rfl, o36⟩ := hP
                          rcases (by omega : v35 = 0 ∨ v35 = 1) with rfl | rfl
                          · refine zz_if_ne (by omega) zd_8_3_102 (fun c37 => ?_) (fun c37 => ?_)
                            · exfalso; omega
                            · refine zz_iconst zd_8_3_105 ?_
                              exact zz_zret zd_8_3_106 rfl (by omega) (Nat.zero_le _) (Nat.zero_le _) ⟨_, _, rfl, G_S28, F_S28, by omega⟩
                          · refine zz_if_ne (by omega) zd_8_3_102 (fun c38 => ?_) (fun c38 => ?_)
                            · refine zz_aload_n (x := 1073) rfl zd_8_3_107 ?_
                              have g39 := zz_G.r G_S0 1073 1 0 1 rfl rfl
                              refine zz_getr (kd := 1) (z := S0 1073 1) zd_8_3_108 zf_NetworkReader_15 zT_1073 rfl (zz_ltn hn rfl) (zz_rc fS28 rfl rfl (fun h => h) (zz_rc fS23 rfl rfl (fun h => h) (zz_rc fS17 rfl rfl (fun h => h) (zz_rc fS12 rfl rfl (fun h => h) (zz_rc fS6 rfl rfl (fun h => h) rfl))))) (by omega) (zz_rf 3 (S0 1073 1)) rfl ?_
                              refine zz_iload_n (x := S6 1070 6) rfl zd_8_3_111 ?_
                              refine zz_iload_n (x := S17 1070 6) rfl zd_8_3_112 ?_
                              refine zz_iload_n (x := S28 1070 6) rfl zd_8_3_113 ?_
                              refine zz_callVV [zi (S6 1070 6), zi (S17 1070 6), zi (S28 1070 6)] zd_8_3_114 zk_NetworkReader_106 (zT_k3 (by omega)) (zN_k3 hn (by omega)) rfl rfl ⟨Nat.le_of_ble_eq_true rfl, Nat.le_of_ble_eq_true rfl⟩ ⟨rfl, rfl⟩ (Nat.zero_le _) (Nat.zero_le _) (zc_beginWith_7_3 (S0 1073 1) (S6 1070 6) (S17 1070 6) (S28 1070 6) S28 n hn G_S28 (by omega) (by omega) (by omega) (by omega)) (fun S40 hP => ?_)
                              obtain ⟨G_S40, fS40⟩ := hP
                              have F_S40 := zz_fr.trans F_S28 fS40 rfl (fun a i h => by rcases h with h | h | h | h | h | h | h | h | h | h | h | h | h | h | h | h; exact Or.inr (Or.inr (Or.inl h)); exact Or.inr (Or.inr (Or.inr (Or.inl h))); exact Or.inr (Or.inr (Or.inr (Or.inr (Or.inl h)))); exact Or.inr (Or.inr (Or.inr (Or.inr (Or.inr (Or.inl h))))); exact Or.inr (Or.inr (Or.inr (Or.inr (Or.inr (Or.inr (Or.inl h)))))); exact Or.inr (Or.inr (Or.inr (Or.inr (Or.inr (Or.inr (Or.inr (Or.inl h))))))); exact Or.inr (Or.inr (Or.inr (Or.inr (Or.inr (Or.inr (Or.inr (Or.inr (Or.inl h)))))))); exact Or.inr (Or.inr (Or.inr (Or.inr (Or.inr (Or.inr (Or.inr (Or.inr (Or.inr (Or.inl h))))))))); exact Or.inr (Or.inr (Or.inr (Or.inr (Or.inr (Or.inr (Or.inr (Or.inr (Or.inr (Or.inr (Or.inl h)))))))))); exact Or.inr (Or.inr (Or.inr (Or.inr (Or.inr (Or.inr (Or.inr (Or.inr (Or.inr (Or.inr (Or.inr (Or.inl h))))))))))); exact Or.inr (Or.inr (Or.inr (Or.inr (Or.inr (Or.inr (Or.inr (Or.inr (Or.inr (Or.inr (Or.inr (Or.inr (Or.inl h)))))))))))); exact Or.inr (Or.inr (Or.inr (Or.inr (Or.inr (Or.inr (Or.inr (Or.inr (Or.inr (Or.inr (Or.inr (Or.inr (Or.inr (Or.inl h))))))))))))); exact Or.inr (Or.inr (Or.inr (Or.inr (Or.inr (Or.inr (Or.inr (Or.inr (Or.inr (Or.inr (Or.inr (Or.inr (Or.inr (Or.inr (Or.inl h)))))))))))))); exact Or.inr (Or.inr (Or.inr (Or.inr (Or.inr (Or.inr (Or.inr (Or.inr (Or.inr (Or.inr (Or.inr (Or.inr (Or.inr (Or.inr (Or.inr (Or.inl h))))))))))))))); exact Or.inr (Or.inr (Or.inr (Or.inr (Or.inr (Or.inr (Or.inr (Or.inr (Or.inr (Or.inr (Or.inr (Or.inr (Or.inr (Or.inr (Or.inr (Or.inr (Or.inl h)))))))))))))))); exact Or.inr (Or.inr (Or.inr (Or.inr (Or.inr (Or.inr (Or.inr (Or.inr (Or.inr (Or.inr (Or.inr (Or.inr (Or.inr (Or.inr (Or.inr (Or.inr (Or.inr (h))))))))))))))))))
                              refine zz_aload_n (x := 1073) rfl zd_8_3_117 ?_
                              refine zz_sipush (by decide) zd_8_3_118 ?_
                              refine zz_puti zd_8_3_121 zf_NetworkReader_35 zT_1073 rfl (zz_ltn hn rfl) (fun S42 qS42 => ?_)
                              have G_S42 := zz_G.put G_S40 qS42 (-2147483648) 2147483647 rfl (by omega)
                              have F_S42 := zz_fr.puts F_S40 qS42 rfl
                              refine zz_aload_n (x := 1073) rfl zd_8_3_124 ?_
                              refine zz_iconst zd_8_3_125 ?_
                              refine zz_puti zd_8_3_126 zf_NetworkReader_38 zT_1073 rfl (zz_ltn hn rfl) (fun S43 qS43 => ?_)
                              have G_S43 := zz_G.put G_S42 qS43 (-2147483648) 2147483647 rfl (by omega)
                              have F_S43 := zz_fr.puts F_S42 qS43 rfl
                              refine zz_iconst zd_8_3_129 ?_
                              exact zz_zret zd_8_3_130 rfl (by omega) (Nat.zero_le _) (Nat.zero_le _) ⟨_, _, rfl, G_S43, F_S43, by omega⟩
                            · exfalso; omega
                        · exfalso; omega
                · exfalso; omega
        · exfalso; omega
theorem zk_NetworkReader_75 : mm_Vl "TensorForge$NetworkReader" 75 8 0 zy_readInput_8_3 := ⟨zyw_readInput_8_3, (R_NetworkReader, F_NetworkReader, 9), rfl, mm_tb_1 1018 (by decide +kernel) rfl, mm_tb_1 1020 (by decide +kernel) rfl, mm_tb_s 51 (by decide +kernel) rfl⟩
theorem zd_8_2_98 : zz_B zy_readInto_8_2 98 (Instr.ifCond .eq) 112 101 := ⟨14, by decide +kernel, rfl, rfl⟩
theorem zd_8_2_112 : zz_D zy_readInto_8_2 112 (.iconst 0) 1 113 := ⟨by decide +kernel, rfl⟩
theorem zd_8_2_113 : zz_D zy_readInto_8_2 113 (.istore 4) 2 115 := ⟨by decide +kernel, rfl⟩
theorem zd_8_2_115 : zz_D zy_readInto_8_2 115 (.iload 4) 2 117 := ⟨by decide +kernel, rfl⟩
theorem zd_8_2_117 : zz_B zy_readInto_8_2 117 (Instr.ifCond .ne) 122 120 := ⟨5, by decide +kernel, rfl, rfl⟩
theorem zd_8_2_120 : zz_D zy_readInto_8_2 120 (.iload_n 3) 1 121 := ⟨by decide +kernel, rfl⟩
theorem zd_8_2_121 : zz_D zy_readInto_8_2 121 (.ireturn) 1 122 := ⟨by decide +kernel, rfl⟩
theorem zd_8_2_101 : zz_D zy_readInto_8_2 101 (.aload_n 0) 1 102 := ⟨by decide +kernel, rfl⟩
theorem zd_8_2_102 : zz_D zy_readInto_8_2 102 (.invokevirtual 68) 3 105 := ⟨by decide +kernel, rfl⟩
abbrev zy_readOptions_8_7 : mm_Y := (⟨"TensorForge$NetworkReader", "readOptions", "()Z"⟩, prog_8_method_7_code, 3, (some .boolean))
theorem zyw_readOptions_8_7 : mm_Yw zy_readOptions_8_7 0 := ⟨mm_tb_1 948 (by decide +kernel) rfl, mm_tb_1 9 (by decide +kernel) rfl, ⟨by decide, by decide⟩, by decide +kernel⟩
theorem zd_8_7_0 : zz_D zy_readOptions_8_7 0 (.aload_n 0) 1 1 := ⟨by decide +kernel, rfl⟩
theorem zd_8_7_1 : zz_D zy_readOptions_8_7 1 (.iconst 0) 1 2 := ⟨by decide +kernel, rfl⟩
theorem zd_8_7_2 : zz_D zy_readOptions_8_7 2 (.putfield 41) 3 5 := ⟨by decide +kernel, rfl⟩
theorem zf_NetworkReader_41 : mm_Fl "TensorForge$NetworkReader" 41 8 8 .int false := ⟨R_NetworkReader, F_NetworkReader, 9, t_NetworkReader, rfl, i_NetworkReader, by decide, mm_tb_1 348 (by decide +kernel) rfl, rfl, t_NetworkReader_ok, n_NetworkReader, rfl, by decide +kernel⟩
theorem zd_8_7_5 : zz_D zy_readOptions_8_7 5 (.aload_n 0) 1 6 := ⟨by decide +kernel, rfl⟩
theorem zd_8_7_6 : zz_D zy_readOptions_8_7 6 (.iconst 0) 1 7 := ⟨by decide +kernel, rfl⟩
theorem zd_8_7_7 : zz_D zy_readOptions_8_7 7 (.putfield 32) 3 10 := ⟨by decide +kernel, rfl⟩
theorem zf_NetworkReader_32 : mm_Fl "TensorForge$NetworkReader" 32 8 5 .int false := ⟨R_NetworkReader, F_NetworkReader, 9, t_NetworkReader, rfl, i_NetworkReader, by decide, mm_tb_1 345 (by decide +kernel) rfl, rfl, t_NetworkReader_ok, n_NetworkReader, rfl, by decide +kernel⟩
theorem zd_8_7_10 : zz_D zy_readOptions_8_7 10 (.iconst 0) 1 11 := ⟨by decide +kernel, rfl⟩
theorem zd_8_7_11 : zz_D zy_readOptions_8_7 11 (.istore_n 1) 1 12 := ⟨by decide +kernel, rfl⟩
theorem zd_8_7_12 : zz_D zy_readOptions_8_7 12 (.iload_n 1) 1 13 := ⟨by decide +kernel, rfl⟩
theorem zd_8_7_13 : zz_D zy_readOptions_8_7 13 (.sipush 1500) 3 16 := ⟨by decide +kernel, rfl⟩
theorem zd_8_7_16 : zz_B zy_readOptions_8_7 16 (Instr.if_icmp .gt) 107 19 := ⟨91, by decide +kernel, rfl, rfl⟩
theorem zd_8_7_19 : zz_D zy_readOptions_8_7 19 (.aload_n 0) 1 20 := ⟨by decide +kernel, rfl⟩
theorem zd_8_7_20 : zz_D zy_readOptions_8_7 20 (.getfield 9) 3 23 := ⟨by decide +kernel, rfl⟩
theorem zd_8_7_23 : zz_D zy_readOptions_8_7 23 (.invokevirtual 59) 3 26 := ⟨by decide +kernel, rfl⟩
theorem zd_8_7_26 : zz_D zy_readOptions_8_7 26 (.aload_n 0) 1 27 := ⟨by decide +kernel, rfl⟩
theorem zd_8_7_27 : zz_D zy_readOptions_8_7 27 (.getfield 9) 3 30 := ⟨by decide +kernel, rfl⟩
theorem zd_8_7_30 : zz_D zy_readOptions_8_7 30 (.getfield 62) 3 33 := ⟨by decide +kernel, rfl⟩
theorem zd_8_7_33 : zz_B zy_readOptions_8_7 33 (Instr.ifCond .ne) 58 36 := ⟨25, by decide +kernel, rfl, rfl⟩
theorem zd_8_7_58 : zz_D zy_readOptions_8_7 58 (.aload_n 0) 1 59 := ⟨by decide +kernel, rfl⟩
theorem zd_8_7_59 : zz_D zy_readOptions_8_7 59 (.invokevirtual 135) 3 62 := ⟨by decide +kernel, rfl⟩
abbrev zy_optionTold_8_8 : mm_Y := (⟨"TensorForge$NetworkReader", "optionTold", "()I"⟩, prog_8_method_8_code, 1, (some .int))
theorem zyw_optionTold_8_8 : mm_Yw zy_optionTold_8_8 0 := ⟨mm_tb_1 952 (by decide +kernel) rfl, mm_tb_1 9 (by decide +kernel) rfl, ⟨by decide, by decide⟩, by decide +kernel⟩
theorem zd_8_8_0 : zz_D zy_optionTold_8_8 0 (.aload_n 0) 1 1 := ⟨by decide +kernel, rfl⟩
theorem zd_8_8_1 : zz_D zy_optionTold_8_8 1 (.getfield 9) 3 4 := ⟨by decide +kernel, rfl⟩
theorem zd_8_8_4 : zz_D zy_optionTold_8_8 4 (.ldc 142) 2 6 := ⟨by decide +kernel, rfl⟩
theorem zd_8_8_6 : zz_D zy_optionTold_8_8 6 (.invokevirtual 87) 3 9 := ⟨by decide +kernel, rfl⟩
theorem zd_8_8_9 : zz_B zy_optionTold_8_8 9 (Instr.ifCond .eq) 14 12 := ⟨5, by decide +kernel, rfl, rfl⟩
theorem zd_8_8_14 : zz_D zy_optionTold_8_8 14 (.aload_n 0) 1 15 := ⟨by decide +kernel, rfl⟩
theorem zd_8_8_15 : zz_D zy_optionTold_8_8 15 (.getfield 9) 3 18 := ⟨by decide +kernel, rfl⟩
theorem zd_8_8_18 : zz_D zy_optionTold_8_8 18 (.ldc 144) 2 20 := ⟨by decide +kernel, rfl⟩
theorem zd_8_8_20 : zz_D zy_optionTold_8_8 20 (.invokevirtual 87) 3 23 := ⟨by decide +kernel, rfl⟩
theorem zd_8_8_23 : zz_B zy_optionTold_8_8 23 (Instr.ifCond .eq) 28 26 := ⟨5, by decide +kernel, rfl, rfl⟩
theorem zd_8_8_28 : zz_D zy_optionTold_8_8 28 (.aload_n 0) 1 29 := ⟨by decide +kernel, rfl⟩
theorem zd_8_8_29 : zz_D zy_optionTold_8_8 29 (.getfield 9) 3 32 := ⟨by decide +kernel, rfl⟩
theorem zd_8_8_32 : zz_D zy_optionTold_8_8 32 (.ldc 146) 2 34 := ⟨by decide +kernel, rfl⟩
theorem zd_8_8_34 : zz_D zy_optionTold_8_8 34 (.invokevirtual 87) 3 37 := ⟨by decide +kernel, rfl⟩
theorem zd_8_8_37 : zz_B zy_optionTold_8_8 37 (Instr.ifCond .eq) 42 40 := ⟨5, by decide +kernel, rfl, rfl⟩
theorem zd_8_8_42 : zz_D zy_optionTold_8_8 42 (.aload_n 0) 1 43 := ⟨by decide +kernel, rfl⟩
theorem zd_8_8_43 : zz_D zy_optionTold_8_8 43 (.getfield 9) 3 46 := ⟨by decide +kernel, rfl⟩
theorem zd_8_8_46 : zz_D zy_optionTold_8_8 46 (.ldc 148) 2 48 := ⟨by decide +kernel, rfl⟩
theorem zd_8_8_48 : zz_D zy_optionTold_8_8 48 (.invokevirtual 87) 3 51 := ⟨by decide +kernel, rfl⟩
theorem zd_8_8_51 : zz_B zy_optionTold_8_8 51 (Instr.ifCond .eq) 57 54 := ⟨6, by decide +kernel, rfl, rfl⟩
theorem zd_8_8_57 : zz_D zy_optionTold_8_8 57 (.aload_n 0) 1 58 := ⟨by decide +kernel, rfl⟩
theorem zd_8_8_58 : zz_D zy_optionTold_8_8 58 (.getfield 9) 3 61 := ⟨by decide +kernel, rfl⟩
theorem zd_8_8_61 : zz_D zy_optionTold_8_8 61 (.ldc 150) 2 63 := ⟨by decide +kernel, rfl⟩
theorem zd_8_8_63 : zz_D zy_optionTold_8_8 63 (.invokevirtual 87) 3 66 := ⟨by decide +kernel, rfl⟩
theorem zd_8_8_66 : zz_B zy_optionTold_8_8 66 (Instr.ifCond .eq) 72 69 := ⟨6, by decide +kernel, rfl, rfl⟩
theorem zd_8_8_72 : zz_D zy_optionTold_8_8 72 (.aload_n 0) 1 73 := ⟨by decide +kernel, rfl⟩
theorem zd_8_8_73 : zz_D zy_optionTold_8_8 73 (.getfield 9) 3 76 := ⟨by decide +kernel, rfl⟩
theorem zd_8_8_76 : zz_D zy_optionTold_8_8 76 (.ldc 152) 2 78 := ⟨by decide +kernel, rfl⟩
theorem zd_8_8_78 : zz_D zy_optionTold_8_8 78 (.invokevirtual 87) 3 81 := ⟨by decide +kernel, rfl⟩
theorem zd_8_8_81 : zz_B zy_optionTold_8_8 81 (Instr.ifCond .eq) 87 84 := ⟨6, by decide +kernel, rfl, rfl⟩
theorem zd_8_8_87 : zz_D zy_optionTold_8_8 87 (.aload_n 0) 1 88 := ⟨by decide +kernel, rfl⟩
theorem zd_8_8_88 : zz_D zy_optionTold_8_8 88 (.getfield 9) 3 91 := ⟨by decide +kernel, rfl⟩
theorem zd_8_8_91 : zz_D zy_optionTold_8_8 91 (.ldc 154) 2 93 := ⟨by decide +kernel, rfl⟩
theorem zd_8_8_93 : zz_D zy_optionTold_8_8 93 (.invokevirtual 87) 3 96 := ⟨by decide +kernel, rfl⟩
theorem zd_8_8_96 : zz_B zy_optionTold_8_8 96 (Instr.ifCond .eq) 102 99 := ⟨6, by decide +kernel, rfl, rfl⟩
theorem zd_8_8_102 : zz_D zy_optionTold_8_8 102 (.aload_n 0) 1 103 := ⟨by decide +kernel, rfl⟩
theorem zd_8_8_103 : zz_D zy_optionTold_8_8 103 (.getfield 9) 3 106 := ⟨by decide +kernel, rfl⟩
theorem zd_8_8_106 : zz_D zy_optionTold_8_8 106 (.ldc 156) 2 108 := ⟨by decide +kernel, rfl⟩
theorem zd_8_8_108 : zz_D zy_optionTold_8_8 108 (.invokevirtual 87) 3 111 := ⟨by decide +kernel, rfl⟩
theorem zd_8_8_111 : zz_B zy_optionTold_8_8 111 (Instr.ifCond .eq) 120 114 := ⟨9, by decide +kernel, rfl, rfl⟩
theorem zd_8_8_120 : zz_D zy_optionTold_8_8 120 (.iconst 0) 1 121 := ⟨by decide +kernel, rfl⟩
theorem zd_8_8_121 : zz_D zy_optionTold_8_8 121 (.ireturn) 1 122 := ⟨by decide +kernel, rfl⟩
theorem zd_8_8_114 : zz_D zy_optionTold_8_8 114 (.sipush 128) 3 117 := ⟨by decide +kernel, rfl⟩
theorem zd_8_8_117 : zz_B zy_optionTold_8_8 117 Instr.goto 121 120 := ⟨4, by decide +kernel, rfl, rfl⟩
theorem zd_8_8_99 : zz_D zy_optionTold_8_8 99 (.bipush 64) 2 101 := ⟨by decide +kernel, rfl⟩
theorem zd_8_8_101 : zz_D zy_optionTold_8_8 101 (.ireturn) 1 102 := ⟨by decide +kernel, rfl⟩
theorem zd_8_8_84 : zz_D zy_optionTold_8_8 84 (.bipush 32) 2 86 := ⟨by decide +kernel, rfl⟩
theorem zd_8_8_86 : zz_D zy_optionTold_8_8 86 (.ireturn) 1 87 := ⟨by decide +kernel, rfl⟩
theorem zd_8_8_69 : zz_D zy_optionTold_8_8 69 (.bipush 16) 2 71 := ⟨by decide +kernel, rfl⟩
theorem zd_8_8_71 : zz_D zy_optionTold_8_8 71 (.ireturn) 1 72 := ⟨by decide +kernel, rfl⟩
theorem zd_8_8_54 : zz_D zy_optionTold_8_8 54 (.bipush 8) 2 56 := ⟨by decide +kernel, rfl⟩
theorem zd_8_8_56 : zz_D zy_optionTold_8_8 56 (.ireturn) 1 57 := ⟨by decide +kernel, rfl⟩
theorem zd_8_8_40 : zz_D zy_optionTold_8_8 40 (.iconst 4) 1 41 := ⟨by decide +kernel, rfl⟩
theorem zd_8_8_41 : zz_D zy_optionTold_8_8 41 (.ireturn) 1 42 := ⟨by decide +kernel, rfl⟩
theorem zd_8_8_26 : zz_D zy_optionTold_8_8 26 (.iconst 2) 1 27 := ⟨by decide +kernel, rfl⟩
theorem zd_8_8_27 : zz_D zy_optionTold_8_8 27 (.ireturn) 1 28 := ⟨by decide +kernel, rfl⟩
theorem zd_8_8_12 : zz_D zy_optionTold_8_8 12 (.iconst 1) 1 13 := ⟨by decide +kernel, rfl⟩
theorem zd_8_8_13 : zz_D zy_optionTold_8_8 13 (.ireturn) 1 14 := ⟨by decide +kernel, rfl⟩

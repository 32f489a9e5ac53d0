-- TensorForge pool (III)I
abbrev zr_pool_1_20 : Room := { frames := 7, cells := 1, slots := 6, locals := 95 }
def zp_pool_1_20 (p0 : Int) (p1 : Int) (p2 : Int) (S0 : zz_S) : Int → zz_S → Prop := fun r S => zz_G S ∧ zz_fr [] [1001, 1003, 1004, 1005, 1006, 1007, 1008, 1009, 1010, 1011, 1012, 1013, 1014, 1015, 1017, 1018, 1019, 1020, 1021, 1022, 1023, 1024, 1025, 1026, 1027, 1028] (fun a i => (a = zz_rf 6 (12 * (S0 1000 7) + S0 (zz_rf 3 (S0 1000 7)) 1) ∧ i = 0) ∨ (a = zz_rf 6 (12 * (S0 1000 7) + S0 (zz_rf 3 (S0 1000 7)) 1) ∧ i = 1) ∨ (a = zz_rf 6 (12 * (S0 1000 7) + S0 (zz_rf 3 (S0 1000 7)) 1) ∧ i = 10) ∨ (a = zz_rf 6 (12 * (S0 1000 7) + S0 (zz_rf 3 (S0 1000 7)) 1) ∧ i = 11) ∨ (a = zz_rf 6 (12 * (S0 1000 7) + S0 (zz_rf 3 (S0 1000 7)) 1) ∧ i = 12) ∨ (a = zz_rf 6 (12 * (S0 1000 7) + S0 (zz_rf 3 (S0 1000 7)) 1) ∧ i = 13) ∨ (a = zz_rf 6 (12 * (S0 1000 7) + S0 (zz_rf 3 (S0 1000 7)) 1) ∧ i = 14) ∨ (a = zz_rf 6 (12 * (S0 1000 7) + S0 (zz_rf 3 (S0 1000 7)) 1) ∧ i = 2) ∨ (a = zz_rf 6 (12 * (S0 1000 7) + S0 (zz_rf 3 (S0 1000 7)) 1) ∧ i = 3) ∨ (a = zz_rf 6 (12 * (S0 1000 7) + S0 (zz_rf 3 (S0 1000 7)) 1) ∧ i = 4) ∨ (a = zz_rf 6 (12 * (S0 1000 7) + S0 (zz_rf 3 (S0 1000 7)) 1) ∧ i = 5) ∨ (a = zz_rf 6 (12 * (S0 1000 7) + S0 (zz_rf 3 (S0 1000 7)) 1) ∧ i = 6) ∨ (a = zz_rf 6 (12 * (S0 1000 7) + S0 (zz_rf 3 (S0 1000 7)) 1) ∧ i = 7) ∨ (a = zz_rf 6 (12 * (S0 1000 7) + S0 (zz_rf 3 (S0 1000 7)) 1) ∧ i = 8) ∨ (a = zz_rf 6 (12 * (S0 1000 7) + S0 (zz_rf 3 (S0 1000 7)) 1) ∧ i = 9)) S0 S ∧ ((-2147483648) ≤ r ∧ r ≤ 2147483647) ∧ (zz_Hc S)
def zx_pool_1_20 (p0 : Int) (p1 : Int) (p2 : Int) (S0 : zz_S) : Nat → zz_S → Prop := fun i S => zz_G S ∧ zz_fr [] [1001, 1003, 1004, 1005, 1006, 1007, 1008, 1009, 1010, 1011, 1012, 1013, 1014, 1015, 1017, 1018, 1019, 1020, 1021, 1022, 1023, 1024, 1025, 1026, 1027, 1028] (fun a i => (a = zz_rf 6 (12 * (S0 1000 7) + S0 (zz_rf 3 (S0 1000 7)) 1) ∧ i = 0) ∨ (a = zz_rf 6 (12 * (S0 1000 7) + S0 (zz_rf 3 (S0 1000 7)) 1) ∧ i = 1) ∨ (a = zz_rf 6 (12 * (S0 1000 7) + S0 (zz_rf 3 (S0 1000 7)) 1) ∧ i = 10) ∨ (a = zz_rf 6 (12 * (S0 1000 7) + S0 (zz_rf 3 (S0 1000 7)) 1) ∧ i = 11) ∨ (a = zz_rf 6 (12 * (S0 1000 7) + S0 (zz_rf 3 (S0 1000 7)) 1) ∧ i = 12) ∨ (a = zz_rf 6 (12 * (S0 1000 7) + S0 (zz_rf 3 (S0 1000 7)) 1) ∧ i = 13) ∨ (a = zz_rf 6 (12 * (S0 1000 7) + S0 (zz_rf 3 (S0 1000 7)) 1) ∧ i = 14) ∨ (a = zz_rf 6 (12 * (S0 1000 7) + S0 (zz_rf 3 (S0 1000 7)) 1) ∧ i = 2) ∨ (a = zz_rf 6 (12 * (S0 1000 7) + S0 (zz_rf 3 (S0 1000 7)) 1) ∧ i = 3) ∨ (a = zz_rf 6 (12 * (S0 1000 7) + S0 (zz_rf 3 (S0 1000 7)) 1) ∧ i = 4) ∨ (a = zz_rf 6 (12 * (S0 1000 7) + S0 (zz_rf 3 (S0 1000 7)) 1) ∧ i = 5) ∨ (a = zz_rf 6 (12 * (S0 1000 7) + S0 (zz_rf 3 (S0 1000 7)) 1) ∧ i = 6) ∨ (a = zz_rf 6 (12 * (S0 1000 7) + S0 (zz_rf 3 (S0 1000 7)) 1) ∧ i = 7) ∨ (a = zz_rf 6 (12 * (S0 1000 7) + S0 (zz_rf 3 (S0 1000 7)) 1) ∧ i = 8) ∨ (a = zz_rf 6 (12 * (S0 1000 7) + S0 (zz_rf 3 (S0 1000 7)) 1) ∧ i = 9)) S0 S ∧ (i < 4) ∧ (i = 0 ∨ i = 1 ∨ i = 2) ∧ (zz_Hc S)
theorem zc_pool_1_20 {g : mm_G} {l : Launch} (p0 : Int) (p1 : Int) (p2 : Int) (S0 : zz_S) (n : Nat) (hn : zz_end ≤ n) (hfl : l.flags = flags0) (G_S0 : zz_G S0) (hp0 : (-2147483648) ≤ p0 ∧ p0 ≤ 2147483647) (hp1 : (-2147483648) ≤ p1 ∧ p1 ≤ 2147483647) (hp2 : (-2147483648) ≤ p2 ∧ p2 ≤ 2147483647) (H_S0 : zz_Hc S0) : mm_Met g l zy_pool_1_20 zr_pool_1_20 [.ref 1000, zi p0, zi p1, zi p2] (zz_M S0 n) n (zz_XI n (zp_pool_1_20 p0 p1 p2 S0) (zx_pool_1_20 p0 p1 p2 S0)) := by
  refine zz_enter (by decide) (Nat.le_of_ble_eq_true rfl) (zz_less (ls1 := [some (.ref 1000), some (zi p0), some (zi p1), some (zi p2)]) ⟨rfl, ⟨rfl, ⟨rfl, ⟨rfl, trivial⟩⟩⟩⟩ ?_)
  have F_S0 : zz_fr [] [1001, 1003, 1004, 1005, 1006, 1007, 1008, 1009, 1010, 1011, 1012, 1013, 1014, 1015, 1017, 1018, 1019, 1020, 1021, 1022, 1023, 1024, 1025, 1026, 1027, 1028] (fun a i => (a = zz_rf 6 (12 * (S0 1000 7) + S0 (zz_rf 3 (S0 1000 7)) 1) ∧ i = 0) ∨ (a = zz_rf 6 (12 * (S0 1000 7) + S0 (zz_rf 3 (S0 1000 7)) 1) ∧ i = 1) ∨ (a = zz_rf 6 (12 * (S0 1000 7) + S0 (zz_rf 3 (S0 1000 7)) 1) ∧ i = 10) ∨ (a = zz_rf 6 (12 * (S0 1000 7) + S0 (zz_rf 3 (S0 1000 7)) 1) ∧ i = 11) ∨ (a = zz_rf 6 (12 * (S0 1000 7) + S0 (zz_rf 3 (S0 1000 7)) 1) ∧ i = 12) ∨ (a = zz_rf 6 (12 * (S0 1000 7) + S0 (zz_rf 3 (S0 1000 7)) 1) ∧ i = 13) ∨ (a = zz_rf 6 (12 * (S0 1000 7) + S0 (zz_rf 3 (S0 1000 7)) 1) ∧ i = 14) ∨ (a = zz_rf 6 (12 * (S0 1000 7) + S0 (zz_rf 3 (S0 1000 7)) 1) ∧ i = 2) ∨ (a = zz_rf 6 (12 * (S0 1000 7) + S0 (zz_rf 3 (S0 1000 7)) 1) ∧ i = 3) ∨ (a = zz_rf 6 (12 * (S0 1000 7) + S0 (zz_rf 3 (S0 1000 7)) 1) ∧ i = 4) ∨ (a = zz_rf 6 (12 * (S0 1000 7) + S0 (zz_rf 3 (S0 1000 7)) 1) ∧ i = 5) ∨ (a = zz_rf 6 (12 * (S0 1000 7) + S0 (zz_rf 3 (S0 1000 7)) 1) ∧ i = 6) ∨ (a = zz_rf 6 (12 * (S0 1000 7) + S0 (zz_rf 3 (S0 1000 7)) 1) ∧ i = 7) ∨ (a = zz_rf 6 (12 * (S0 1000 7) + S0 (zz_rf 3 (S0 1000 7)) 1) ∧ i = 8) ∨ (a = zz_rf 6 (12 * (S0 1000 7) + S0 (zz_rf 3 (S0 1000 7)) 1) ∧ i = 9)) S0 S0 := zz_fr.refl
  refine zz_aload_n (x := 1000) rfl zd_1_20_0 ?_
  have g1 := zz_G.r G_S0 1000 7 0 1 rfl rfl
  refine zz_getr (kd := 1) (z := S0 1000 7) zd_1_20_1 zf_TF_10 zT_1000 rfl (zz_ltn hn rfl) rfl (by omega) (zz_rf 3 (S0 1000 7)) rfl ?_
  refine zz_callVA [] zd_1_20_4 zk_TF_220 (zT_k3 (by omega)) (zN_k3 hn (by omega)) rfl rfl ⟨Nat.le_of_ble_eq_true rfl, Nat.le_of_ble_eq_true rfl⟩ ⟨rfl, rfl⟩ (Nat.zero_le _) (Nat.zero_le _) (zc_draft_7_6 (S0 1000 7) S0 n hn G_S0 (by omega)) (fun v3 S2 hP => ?_)
  obtain ⟨rfl, o4, o5⟩ := hP
  subst o4
  refine zz_astore [some (.ref 1000), some (zi p0), some (zi p1), some (zi p2), some (.ref (zz_rf 6 (12 * (S0 1000 7) + S0 (zz_rf 3 (S0 1000 7)) 1)))] zd_1_20_7 (by decide) rfl ?_
  refine zz_aload (x := zz_rf 6 (12 * (S0 1000 7) + S0 (zz_rf 3 (S0 1000 7)) 1)) rfl zd_1_20_9 ?_
  refine zz_iconst zd_1_20_11 ?_
  refine zz_iload_n (x := p0) rfl zd_1_20_12 ?_
  refine zz_iload_n (x := p0) rfl zd_1_20_13 ?_
  refine zz_callVV [zi 2, zi p0, zi p0] zd_1_20_14 zk_TF_226 (zT_k6 (by omega)) (zN_k6 hn (by omega)) rfl rfl ⟨Nat.le_of_ble_eq_true rfl, Nat.le_of_ble_eq_true rfl⟩ ⟨rfl, rfl⟩ (Nat.zero_le _) (Nat.zero_le _) (zc_reset_4_2 (12 * (S0 1000 7) + S0 (zz_rf 3 (S0 1000 7)) 1) 2 p0 p0 S0 n hn G_S0 (by omega) (by omega) (by omega) (by omega)) (fun S6 hP => ?_)
  obtain ⟨G_S6, fS6, o8⟩ := hP
  have g9 := zz_G.r G_S0 1000 7 0 1 rfl rfl
  have b10 := zz_G.r G_S0 (zz_rf 3 (S0 1000 7)) 1 1 11 (zR_k3_1 (by omega)) (zB_k3 (by omega))
  have F_S6 := zz_fr.trans F_S0 fS6 rfl (fun a i h => by rcases h with h | h | h | h | h | h | h | h | h | h | h | h | h | h | h; exact Or.inr (Or.inr (Or.inl h)); exact Or.inr (Or.inr (Or.inr (Or.inl h))); exact Or.inr (Or.inr (Or.inr (Or.inr (Or.inl h)))); exact Or.inr (Or.inr (Or.inr (Or.inr (Or.inr (Or.inl h))))); exact Or.inr (Or.inr (Or.inr (Or.inr (Or.inr (Or.inr (Or.inl h)))))); exact Or.inr (Or.inr (Or.inr (Or.inr (Or.inr (Or.inr (Or.inr (Or.inl h))))))); exact Or.inr (Or.inr (Or.inr (Or.inr (Or.inr (Or.inr (Or.inr (Or.inr (Or.inl h)))))))); exact Or.inr (Or.inr (Or.inr (Or.inr (Or.inr (Or.inr (Or.inr (Or.inr (Or.inr (Or.inl h))))))))); exact Or.inr (Or.inr (Or.inr (Or.inr (Or.inr (Or.inr (Or.inr (Or.inr (Or.inr (Or.inr (Or.inl h)))))))))); exact Or.inr (Or.inr (Or.inr (Or.inr (Or.inr (Or.inr (Or.inr (Or.inr (Or.inr (Or.inr (Or.inr (Or.inl h))))))))))); exact Or.inr (Or.inr (Or.inr (Or.inr (Or.inr (Or.inr (Or.inr (Or.inr (Or.inr (Or.inr (Or.inr (Or.inr (Or.inl h)))))))))))); exact Or.inr (Or.inr (Or.inr (Or.inr (Or.inr (Or.inr (Or.inr (Or.inr (Or.inr (Or.inr (Or.inr (Or.inr (Or.inr (Or.inl h))))))))))))); exact Or.inr (Or.inr (Or.inr (Or.inr (Or.inr (Or.inr (Or.inr (Or.inr (Or.inr (Or.inr (Or.inr (Or.inr (Or.inr (Or.inr (Or.inl h)))))))))))))); exact Or.inr (Or.inr (Or.inr (Or.inr (Or.inr (Or.inr (Or.inr (Or.inr (Or.inr (Or.inr (Or.inr (Or.inr (Or.inr (Or.inr (Or.inr (Or.inl h))))))))))))))); exact Or.inr (Or.inr (Or.inr (Or.inr (Or.inr (Or.inr (Or.inr (Or.inr (Or.inr (Or.inr (Or.inr (Or.inr (Or.inr (Or.inr (Or.inr (Or.inr (h)))))))))))))))))
  have b11 := zz_G.r G_S0 (zz_rf 3 (S0 1000 7)) 1 1 11 (zR_k3_1 (by omega)) (zB_k3 (by omega))
  have b12 := zz_rf6 (z := (12 * (S0 1000 7) + S0 (zz_rf 3 (S0 1000 7)) 1)) (by omega)
  have b13 := zz_rf3 (z := (S0 1000 7)) (by omega)
  have H_S6 : zz_Hc S6 := zz_Hc.fr (q := (S0 1000 7)) (z := 12 * (S0 1000 7) + S0 (zz_rf 3 (S0 1000 7)) 1) fS6 rfl rfl G_S0 (by omega) rfl (fun b j h => by omega) H_S0
  refine zz_aload (x := zz_rf 6 (12 * (S0 1000 7) + S0 (zz_rf 3 (S0 1000 7)) 1)) rfl zd_1_20_17 ?_
  refine zz_iload_n (x := p1) rfl zd_1_20_19 ?_
  refine zz_bipush (by decide) zd_1_20_20 ?_
  refine zz_idiv (by omega) (by omega) zd_1_20_22 (fun v14 hv14 av14 bv14 cv14 => ?_)
  refine zz_iload_n (x := p1) rfl zd_1_20_23 ?_
  refine zz_bipush (by decide) zd_1_20_24 ?_
  refine zz_irem (by omega) (by omega) zd_1_20_26 (fun v15 hv15 av15 bv15 cv15 => ?_)
  refine zz_callVV [zi v14, zi v15] zd_1_20_27 zk_TF_229 (zT_k6 (by omega)) (zN_k6 hn (by omega)) rfl rfl ⟨Nat.le_of_ble_eq_true rfl, Nat.le_of_ble_eq_true rfl⟩ ⟨rfl, rfl⟩ (Nat.zero_le _) (Nat.zero_le _) (zc_takeKernel_4_4 (12 * (S0 1000 7) + S0 (zz_rf 3 (S0 1000 7)) 1) v14 v15 S6 n hn G_S6 (by omega) (by omega) (by omega)) (fun S16 hP => ?_)
  obtain ⟨G_S16, fS16⟩ := hP
  have F_S16 := zz_fr.trans F_S6 fS16 rfl (fun a i h => by rcases h with h | h; exact Or.inr (Or.inr (Or.inr (Or.inr (Or.inr (Or.inr (Or.inr (Or.inr (Or.inr (Or.inr (Or.inl h)))))))))); exact Or.inr (Or.inr (Or.inr (Or.inr (Or.inr (Or.inr (Or.inr (Or.inr (Or.inr (Or.inr (Or.inr (Or.inl h))))))))))))
  have H_S16 : zz_Hc S16 := zz_Hc.fr (q := (S0 1000 7)) (z := 12 * (S0 1000 7) + S0 (zz_rf 3 (S0 1000 7)) 1) fS16 rfl rfl G_S6 (by omega) (by rw [show S6 (zz_rf 3 (S0 1000 7)) 1 = S0 (zz_rf 3 (S0 1000 7)) 1 from (zz_rc fS6 (zP_k3 (by omega) rfl) (zQ_k3 (by omega) rfl) (by omega) rfl)]) (fun b j h => by omega) H_S6
  refine zz_aload (x := zz_rf 6 (12 * (S0 1000 7) + S0 (zz_rf 3 (S0 1000 7)) 1)) rfl zd_1_20_30 ?_
  refine zz_iload_n (x := p2) rfl zd_1_20_32 ?_
  refine zz_puti zd_1_20_33 zf_TF_232 (zT_k6 (by omega)) rfl (zN_k6 hn (by omega)) (fun S18 qS18 => ?_)
  have G_S18 := zz_G.put G_S16 qS18 (-2147483648) 2147483647 (zR_k6_5 (by omega)) (by omega)
  have F_S18 := zz_fr.putc F_S16 qS18 (zM_k6 (by omega) rfl)
  have H_S18 : zz_Hc S18 := zz_Hc.fr (q := (S0 1000 7)) (z := 12 * (S0 1000 7) + S0 (zz_rf 3 (S0 1000 7)) 1) (zz_fr.put1 qS18) rfl rfl G_S16 (by omega) (by rw [show S16 (zz_rf 3 (S0 1000 7)) 1 = S0 (zz_rf 3 (S0 1000 7)) 1 from (zz_rc fS16 (zP_k3 (by omega) rfl) (zQ_k3 (by omega) rfl) (by omega) (zz_rc fS6 (zP_k3 (by omega) rfl) (zQ_k3 (by omega) rfl) (by omega) rfl))]) (fun b j h => Or.inr (Or.inr h.1)) H_S16
  refine zz_aload_n (x := 1000) rfl zd_1_20_36 ?_
  have g25 := zz_G.r G_S18 1000 7 0 1 rfl rfl
  have b26 := zz_G.r G_S18 (zz_rf 3 (S18 1000 7)) 1 1 11 (zR_k3_1 (by omega)) (zB_k3 (by omega))
  refine zz_callVXI [] zd_1_20_37 zk_TF_247 zT_1000 (zz_ltn hn rfl) rfl rfl ⟨Nat.le_of_ble_eq_true rfl, Nat.le_of_ble_eq_true rfl⟩ (Nat.le_of_ble_eq_true rfl) (Nat.le_of_ble_eq_true rfl) (zc_added_1_31  S18 n hn hfl G_S18 H_S18) zyw_pool_1_20 (fun i SX hX => by obtain ⟨GX, fX, x0, x1, x2⟩ := hX; exact Or.inr ⟨_, _, rfl, GX, zz_fr.trans F_S18 fX rfl (fun a i h => by rcases h with h | h | h | h | h; exact Or.inr (Or.inl (h.1 ▸ zM_k3 (z := (S18 1000 7)) (by omega) rfl)); exact Or.inr (Or.inl (h.1 ▸ zM_k6 (z := (12 * (S18 1000 7) + S18 (zz_rf 3 (S18 1000 7)) 1)) (by omega) rfl)); exact Or.inr (Or.inl (h.1 ▸ zM_k6 (z := (12 * (S18 1000 7) + S18 (zz_rf 3 (S18 1000 7)) 1)) (by omega) rfl)); exact Or.inr (Or.inl (h.1 ▸ zM_k6 (z := (12 * (S18 1000 7) + S18 (zz_rf 3 (S18 1000 7)) 1)) (by omega) rfl)); exact Or.inr (Or.inl (h.1 ▸ zM_k6 (z := (12 * (S18 1000 7) + S18 (zz_rf 3 (S18 1000 7)) 1)) (by omega) rfl))), by omega, by omega, x2⟩) (fun v22 S21 hP => ?_)
  obtain ⟨G_S21, fS21, o23, o24⟩ := hP
  have F_S21 := zz_fr.trans F_S18 fS21 rfl (fun a i h => by rcases h with h | h | h | h | h; exact Or.inr (Or.inl (h.1 ▸ zM_k3 (z := (S18 1000 7)) (by omega) rfl)); exact Or.inr (Or.inl (h.1 ▸ zM_k6 (z := (12 * (S18 1000 7) + S18 (zz_rf 3 (S18 1000 7)) 1)) (by omega) rfl)); exact Or.inr (Or.inl (h.1 ▸ zM_k6 (z := (12 * (S18 1000 7) + S18 (zz_rf 3 (S18 1000 7)) 1)) (by omega) rfl)); exact Or.inr (Or.inl (h.1 ▸ zM_k6 (z := (12 * (S18 1000 7) + S18 (zz_rf 3 (S18 1000 7)) 1)) (by omega) rfl)); exact Or.inr (Or.inl (h.1 ▸ zM_k6 (z := (12 * (S18 1000 7) + S18 (zz_rf 3 (S18 1000 7)) 1)) (by omega) rfl)))
  have b27 := zz_rf3 (z := (S18 1000 7)) (by omega)
  have b28 := zz_G.r G_S18 (zz_rf 3 (S18 1000 7)) 1 1 11 (zR_k3_1 (by omega)) (zB_k3 (by omega))
  have b29 := zz_rf6 (z := (12 * (S18 1000 7) + S18 (zz_rf 3 (S18 1000 7)) 1)) (by omega)
  have H_S21 : zz_Hc S21 := o24
  exact zz_iret zd_1_20_40 rfl (Nat.le_of_ble_eq_true rfl) (Nat.le_of_ble_eq_true rfl) (Or.inl ⟨_, _, rfl, G_S21, F_S21, by omega, H_S21⟩)
abbrev zy_addition_1_21 : mm_Y := (⟨"TensorForge", "addition", "(III)I"⟩, prog_1_method_21_code, 5, (some .int))
theorem zyw_addition_1_21 : mm_Yw zy_addition_1_21 3 := ⟨mm_tb_1 1388 (by decide +kernel) rfl, mm_tb_1 1 (by decide +kernel) rfl, ⟨by decide, by decide⟩, by decide +kernel⟩
theorem zd_1_21_0 : zz_D zy_addition_1_21 0 (.aload_n 0) 1 1 := ⟨by decide +kernel, rfl⟩
theorem zd_1_21_1 : zz_D zy_addition_1_21 1 (.getfield 10) 3 4 := ⟨by decide +kernel, rfl⟩
theorem zd_1_21_4 : zz_D zy_addition_1_21 4 (.invokevirtual 220) 3 7 := ⟨by decide +kernel, rfl⟩
theorem zd_1_21_7 : zz_D zy_addition_1_21 7 (.astore 4) 2 9 := ⟨by decide +kernel, rfl⟩
theorem zd_1_21_9 : zz_D zy_addition_1_21 9 (.aload 4) 2 11 := ⟨by decide +kernel, rfl⟩
theorem zd_1_21_11 : zz_D zy_addition_1_21 11 (.iconst 3) 1 12 := ⟨by decide +kernel, rfl⟩
theorem zd_1_21_12 : zz_D zy_addition_1_21 12 (.iload_n 1) 1 13 := ⟨by decide +kernel, rfl⟩
theorem zd_1_21_13 : zz_D zy_addition_1_21 13 (.iload_n 2) 1 14 := ⟨by decide +kernel, rfl⟩
theorem zd_1_21_14 : zz_D zy_addition_1_21 14 (.invokevirtual 226) 3 17 := ⟨by decide +kernel, rfl⟩
theorem zd_1_21_17 : zz_D zy_addition_1_21 17 (.aload 4) 2 19 := ⟨by decide +kernel, rfl⟩
theorem zd_1_21_19 : zz_D zy_addition_1_21 19 (.iload_n 3) 1 20 := ⟨by decide +kernel, rfl⟩
theorem zd_1_21_20 : zz_D zy_addition_1_21 20 (.invokevirtual 238) 3 23 := ⟨by decide +kernel, rfl⟩
theorem zd_1_21_23 : zz_D zy_addition_1_21 23 (.aload_n 0) 1 24 := ⟨by decide +kernel, rfl⟩
theorem zd_1_21_24 : zz_D zy_addition_1_21 24 (.invokevirtual 247) 3 27 := ⟨by decide +kernel, rfl⟩
theorem zd_1_21_27 : zz_D zy_addition_1_21 27 (.ireturn) 1 28 := ⟨by decide +kernel, rfl⟩
-- TensorForge addition (III)I
abbrev zr_addition_1_21 : Room := { frames := 7, cells := 1, slots := 6, locals := 95 }
def zp_addition_1_21 (p0 : Int) (p1 : Int) (p2 : Int) (S0 : zz_S) : Int → zz_S → Prop := fun r S => zz_G S ∧ zz_fr [] [1001, 1003, 1004, 1005, 1006, 1007, 1008, 1009, 1010, 1011, 1012, 1013, 1014, 1015, 1017, 1018, 1019, 1020, 1021, 1022, 1023, 1024, 1025, 1026, 1027, 1028] (fun a i => (a = zz_rf 6 (12 * (S0 1000 7) + S0 (zz_rf 3 (S0 1000 7)) 1) ∧ i = 0) ∨ (a = zz_rf 6 (12 * (S0 1000 7) + S0 (zz_rf 3 (S0 1000 7)) 1) ∧ i = 1) ∨ (a = zz_rf 6 (12 * (S0 1000 7) + S0 (zz_rf 3 (S0 1000 7)) 1) ∧ i = 10) ∨ (a = zz_rf 6 (12 * (S0 1000 7) + S0 (zz_rf 3 (S0 1000 7)) 1) ∧ i = 11) ∨ (a = zz_rf 6 (12 * (S0 1000 7) + S0 (zz_rf 3 (S0 1000 7)) 1) ∧ i = 12) ∨ (a = zz_rf 6 (12 * (S0 1000 7) + S0 (zz_rf 3 (S0 1000 7)) 1) ∧ i = 13) ∨ (a = zz_rf 6 (12 * (S0 1000 7) + S0 (zz_rf 3 (S0 1000 7)) 1) ∧ i = 14) ∨ (a = zz_rf 6 (12 * (S0 1000 7) + S0 (zz_rf 3 (S0 1000 7)) 1) ∧ i = 2) ∨ (a = zz_rf 6 (12 * (S0 1000 7) + S0 (zz_rf 3 (S0 1000 7)) 1) ∧ i = 3) ∨ (a = zz_rf 6 (12 * (S0 1000 7) + S0 (zz_rf 3 (S0 1000 7)) 1) ∧ i = 4) ∨ (a = zz_rf 6 (12 * (S0 1000 7) + S0 (zz_rf 3 (S0 1000 7)) 1) ∧ i = 5) ∨ (a = zz_rf 6 (12 * (S0 1000 7) + S0 (zz_rf 3 (S0 1000 7)) 1) ∧ i = 6) ∨ (a = zz_rf 6 (12 * (S0 1000 7) + S0 (zz_rf 3 (S0 1000 7)) 1) ∧ i = 7) ∨ (a = zz_rf 6 (12 * (S0 1000 7) + S0 (zz_rf 3 (S0 1000 7)) 1) ∧ i = 8) ∨ (a = zz_rf 6 (12 * (S0 1000 7) + S0 (zz_rf 3 (S0 1000 7)) 1) ∧ i = 9)) S0 S ∧ ((-2147483648) ≤ r ∧ r ≤ 2147483647) ∧ (zz_Hc S)
def zx_addition_1_21 (p0 : Int) (p1 : Int) (p2 : Int) (S0 : zz_S) : Nat → zz_S → Prop := fun i S => zz_G S ∧ zz_fr [] [1001, 1003, 1004, 1005, 1006, 1007, 1008, 1009, 1010, 1011, 1012, 1013, 1014, 1015, 1017, 1018, 1019, 1020, 1021, 1022, 1023, 1024, 1025, 1026, 1027, 1028] (fun a i => (a = zz_rf 6 (12 * (S0 1000 7) + S0 (zz_rf 3 (S0 1000 7)) 1) ∧ i = 0) ∨ (a = zz_rf 6 (12 * (S0 1000 7) + S0 (zz_rf 3 (S0 1000 7)) 1) ∧ i = 1) ∨ (a = zz_rf 6 (12 * (S0 1000 7) + S0 (zz_rf 3 (S0 1000 7)) 1) ∧ i = 10) ∨ (a = zz_rf 6 (12 * (S0 1000 7) + S0 (zz_rf 3 (S0 1000 7)) 1) ∧ i = 11) ∨ (a = zz_rf 6 (12 * (S0 1000 7) + S0 (zz_rf 3 (S0 1000 7)) 1) ∧ i = 12) ∨ (a = zz_rf 6 (12 * (S0 1000 7) + S0 (zz_rf 3 (S0 1000 7)) 1) ∧ i = 13) ∨ (a = zz_rf 6 (12 * (S0 1000 7) + S0 (zz_rf 3 (S0 1000 7)) 1) ∧ i = 14) ∨ (a = zz_rf 6 (12 * (S0 1000 7) + S0 (zz_rf 3 (S0 1000 7)) 1) ∧ i = 2) ∨ (a = zz_rf 6 (12 * (S0 1000 7) + S0 (zz_rf 3 (S0 1000 7)) 1) ∧ i = 3) ∨ (a = zz_rf 6 (12 * (S0 1000 7) + S0 (zz_rf 3 (S0 1000 7)) 1) ∧ i = 4) ∨ (a = zz_rf 6 (12 * (S0 1000 7) + S0 (zz_rf 3 (S0 1000 7)) 1) ∧ i = 5) ∨ (a = zz_rf 6 (12 * (S0 1000 7) + S0 (zz_rf 3 (S0 1000 7)) 1) ∧ i = 6) ∨ (a = zz_rf 6 (12 * (S0 1000 7) + S0 (zz_rf 3 (S0 1000 7)) 1) ∧ i = 7) ∨ (a = zz_rf 6 (12 * (S0 1000 7) + S0 (zz_rf 3 (S0 1000 7)) 1) ∧ i = 8) ∨ (a = zz_rf 6 (12 * (S0 1000 7) + S0 (zz_rf 3 (S0 1000 7)) 1) ∧ i = 9)) S0 S ∧ (i < 4) ∧ (i = 0 ∨ i = 1 ∨ i = 2) ∧ (zz_Hc S)
theorem zc_addition_1_21 {g : mm_G} {l : Launch} (p0 : Int) (p1 : Int) (p2 : Int) (S0 : zz_S) (n : Nat) (hn : zz_end ≤ n) (hfl : l.flags = flags0) (G_S0 : zz_G S0) (hp0 : (-2147483648) ≤ p0 ∧ p0 ≤ 2147483647) (hp1 : (-2147483648) ≤ p1 ∧ p1 ≤ 2147483647) (hp2 : (-2147483648) ≤ p2 ∧ p2 ≤ 2147483647) (H_S0 : zz_Hc S0) : mm_Met g l zy_addition_1_21 zr_addition_1_21 [.ref 1000, zi p0, zi p1, zi p2] (zz_M S0 n) n (zz_XI n (zp_addition_1_21 p0 p1 p2 S0) (zx_addition_1_21 p0 p1 p2 S0)) := by
  refine zz_enter (by decide) (Nat.le_of_ble_eq_true rfl) (zz_less (ls1 := [some (.ref 1000), some (zi p0), some (zi p1), some (zi p2)]) ⟨rfl, ⟨rfl, ⟨rfl, ⟨rfl, trivial⟩⟩⟩⟩ ?_)
  have F_S0 : zz_fr [] [1001, 1003, 1004, 1005, 1006, 1007, 1008, 1009, 1010, 1011, 1012, 1013, 1014, 1015, 1017, 1018, 1019, 1020, 1021, 1022, 1023, 1024, 1025, 1026, 1027, 1028] (fun a i => (a = zz_rf 6 (12 * (S0 1000 7) + S0 (zz_rf 3 (S0 1000 7)) 1) ∧ i = 0) ∨ (a = zz_rf 6 (12 * (S0 1000 7) + S0 (zz_rf 3 (S0 1000 7)) 1) ∧ i = 1) ∨ (a = zz_rf 6 (12 * (S0 1000 7) + S0 (zz_rf 3 (S0 1000 7)) 1) ∧ i = 10) ∨ (a = zz_rf 6 (12 * (S0 1000 7) + S0 (zz_rf 3 (S0 1000 7)) 1) ∧ i = 11) ∨ (a = zz_rf 6 (12 * (S0 1000 7) + S0 (zz_rf 3 (S0 1000 7)) 1) ∧ i = 12) ∨ (a = zz_rf 6 (12 * (S0 1000 7) + S0 (zz_rf 3 (S0 1000 7)) 1) ∧ i = 13) ∨ (a = zz_rf 6 (12 * (S0 1000 7) + S0 (zz_rf 3 (S0 1000 7)) 1) ∧ i = 14) ∨ (a = zz_rf 6 (12 * (S0 1000 7) + S0 (zz_rf 3 (S0 1000 7)) 1) ∧ i = 2) ∨ (a = zz_rf 6 (12 * (S0 1000 7) + S0 (zz_rf 3 (S0 1000 7)) 1) ∧ i = 3) ∨ (a = zz_rf 6 (12 * (S0 1000 7) + S0 (zz_rf 3 (S0 1000 7)) 1) ∧ i = 4) ∨ (a = zz_rf 6 (12 * (S0 1000 7) + S0 (zz_rf 3 (S0 1000 7)) 1) ∧ i = 5) ∨ (a = zz_rf 6 (12 * (S0 1000 7) + S0 (zz_rf 3 (S0 1000 7)) 1) ∧ i = 6) ∨ (a = zz_rf 6 (12 * (S0 1000 7) + S0 (zz_rf 3 (S0 1000 7)) 1) ∧ i = 7) ∨ (a = zz_rf 6 (12 * (S0 1000 7) + S0 (zz_rf 3 (S0 1000 7)) 1) ∧ i = 8) ∨ (a = zz_rf 6 (12 * (S0 1000 7) + S0 (zz_rf 3 (S0 1000 7)) 1) ∧ i = 9)) S0 S0 := zz_fr.refl
  refine zz_aload_n (x := 1000) rfl zd_1_21_0 ?_
  have g1 := zz_G.r G_S0 1000 7 0 1 rfl rfl
  refine zz_getr (kd := 1) (z := S0 1000 7) zd_1_21_1 zf_TF_10 zT_1000 rfl (zz_ltn hn rfl) rfl (by omega) (zz_rf 3 (S0 1000 7)) rfl ?_
  refine zz_callVA [] zd_1_21_4 zk_TF_220 (zT_k3 (by omega)) (zN_k3 hn (by omega)) rfl rfl ⟨Nat.le_of_ble_eq_true rfl, Nat.le_of_ble_eq_true rfl⟩ ⟨rfl, rfl⟩ (Nat.zero_le _) (Nat.zero_le _) (zc_draft_7_6 (S0 1000 7) S0 n hn G_S0 (by omega)) (fun v3 S2 hP => ?_)
  obtain ⟨rfl, o4, o5⟩ := hP
  subst o4
  refine zz_astore [some (.ref 1000), some (zi p0), some (zi p1), some (zi p2), some (.ref (zz_rf 6 (12 * (S0 1000 7) + S0 (zz_rf 3 (S0 1000 7)) 1)))] zd_1_21_7 (by decide) rfl ?_
  refine zz_aload (x := zz_rf 6 (12 * (S0 1000 7) + S0 (zz_rf 3 (S0 1000 7)) 1)) rfl zd_1_21_9 ?_
  refine zz_iconst zd_1_21_11 ?_
  refine zz_iload_n (x := p0) rfl zd_1_21_12 ?_
  refine zz_iload_n (x := p1) rfl zd_1_21_13 ?_
  refine zz_callVV [zi 3, zi p0, zi p1] zd_1_21_14 zk_TF_226 (zT_k6 (by omega)) (zN_k6 hn (by omega)) rfl rfl ⟨Nat.le_of_ble_eq_true rfl, Nat.le_of_ble_eq_true rfl⟩ ⟨rfl, rfl⟩ (Nat.zero_le _) (Nat.zero_le _) (zc_reset_4_2 (12 * (S0 1000 7) + S0 (zz_rf 3 (S0 1000 7)) 1) 3 p0 p1 S0 n hn G_S0 (by omega) (by omega) (by omega) (by omega)) (fun S6 hP => ?_)
  obtain ⟨G_S6, fS6, o8⟩ := hP
  have g9 := zz_G.r G_S0 1000 7 0 1 rfl rfl
  have b10 := zz_G.r G_S0 (zz_rf 3 (S0 1000 7)) 1 1 11 (zR_k3_1 (by omega)) (zB_k3 (by omega))
  have F_S6 := zz_fr.trans F_S0 fS6 rfl (fun a i h => by rcases h with h | h | h | h | h | h | h | h | h | h | h | h | h | h | h; exact Or.inr (Or.inr (Or.inl h)); exact Or.inr (Or.inr (Or.inr (Or.inl h))); exact Or.inr (Or.inr (Or.inr (Or.inr (Or.inl h)))); exact Or.inr (Or.inr (Or.inr (Or.inr (Or.inr (Or.inl h))))); exact Or.inr (Or.inr (Or.inr (Or.inr (Or.inr (Or.inr (Or.inl h)))))); exact Or.inr (Or.inr (Or.inr (Or.inr (Or.inr (Or.inr (Or.inr (Or.inl h))))))); exact Or.inr (Or.inr (Or.inr (Or.inr (Or.inr (Or.inr (Or.inr (Or.inr (Or.inl h)))))))); exact Or.inr (Or.inr (Or.inr (Or.inr (Or.inr (Or.inr (Or.inr (Or.inr (Or.inr (Or.inl h))))))))); exact Or.inr (Or.inr (Or.inr (Or.inr (Or.inr (Or.inr (Or.inr (Or.inr (Or.inr (Or.inr (Or.inl h)))))))))); exact Or.inr (Or.inr (Or.inr (Or.inr (Or.inr (Or.inr (Or.inr (Or.inr (Or.inr (Or.inr (Or.inr (Or.inl h))))))))))); exact Or.inr (Or.inr (Or.inr (Or.inr (Or.inr (Or.inr (Or.inr (Or.inr (Or.inr (Or.inr (Or.inr (Or.inr (Or.inl h)))))))))))); exact Or.inr (Or.inr (Or.inr (Or.inr (Or.inr (Or.inr (Or.inr (Or.inr (Or.inr (Or.inr (Or.inr (Or.inr (Or.inr (Or.inl h))))))))))))); exact Or.inr (Or.inr (Or.inr (Or.inr (Or.inr (Or.inr (Or.inr (Or.inr (Or.inr (Or.inr (Or.inr (Or.inr (Or.inr (Or.inr (Or.inl h)))))))))))))); exact Or.inr (Or.inr (Or.inr (Or.inr (Or.inr (Or.inr (Or.inr (Or.inr (Or.inr (Or.inr (Or.inr (Or.inr (Or.inr (Or.inr (Or.inr (Or.inl h))))))))))))))); exact Or.inr (Or.inr (Or.inr (Or.inr (Or.inr (Or.inr (Or.inr (Or.inr (Or.inr (Or.inr (Or.inr (Or.inr (Or.inr (Or.inr (Or.inr (Or.inr (h)))))))))))))))))
  have b11 := zz_G.r G_S0 (zz_rf 3 (S0 1000 7)) 1 1 11 (zR_k3_1 (by omega)) (zB_k3 (by omega))
  have b12 := zz_rf6 (z := (12 * (S0 1000 7) + S0 (zz_rf 3 (S0 1000 7)) 1)) (by omega)
  have b13 := zz_rf3 (z := (S0 1000 7)) (by omega)
  have H_S6 : zz_Hc S6 := zz_Hc.fr (q := (S0 1000 7)) (z := 12 * (S0 1000 7) + S0 (zz_rf 3 (S0 1000 7)) 1) fS6 rfl rfl G_S0 (by omega) rfl (fun b j h => by omega) H_S0
  refine zz_aload (x := zz_rf 6 (12 * (S0 1000 7) + S0 (zz_rf 3 (S0 1000 7)) 1)) rfl zd_1_21_17 ?_
  refine zz_iload_n (x := p2) rfl zd_1_21_19 ?_
  refine zz_callVV [zi p2] zd_1_21_20 zk_TF_238 (zT_k6 (by omega)) (zN_k6 hn (by omega)) rfl rfl ⟨Nat.le_of_ble_eq_true rfl, Nat.le_of_ble_eq_true rfl⟩ ⟨rfl, rfl⟩ (Nat.zero_le _) (Nat.zero_le _) (zc_takeNarrowing_4_5 (12 * (S0 1000 7) + S0 (zz_rf 3 (S0 1000 7)) 1) p2 S6 n hn G_S6 (by omega) (by omega)) (fun S14 hP => ?_)
  obtain ⟨G_S14, fS14⟩ := hP
  have F_S14 := zz_fr.trans F_S6 fS14 rfl (fun a i h => by rcases h with h | h; exact Or.inr (Or.inr (Or.inr (Or.inr (Or.inr (Or.inr (Or.inr (Or.inr (Or.inr (Or.inr (Or.inr (Or.inr (Or.inr (Or.inr (Or.inl h)))))))))))))); exact Or.inr (Or.inr (Or.inr (Or.inr (Or.inr (Or.inr (Or.inr (Or.inr (Or.inr (Or.inr (Or.inr (Or.inr (Or.inr (Or.inr (Or.inr (Or.inl h))))))))))))))))
  have H_S14 : zz_Hc S14 := zz_Hc.fr (q := (S0 1000 7)) (z := 12 * (S0 1000 7) + S0 (zz_rf 3 (S0 1000 7)) 1) fS14 rfl rfl G_S6 (by omega) (by rw [show S6 (zz_rf 3 (S0 1000 7)) 1 = S0 (zz_rf 3 (S0 1000 7)) 1 from (zz_rc fS6 (zP_k3 (by omega) rfl) (zQ_k3 (by omega) rfl) (by omega) rfl)]) (fun b j h => by omega) H_S6
  refine zz_aload_n (x := 1000) rfl zd_1_21_23 ?_
  have g22 := zz_G.r G_S14 1000 7 0 1 rfl rfl
  have b23 := zz_G.r G_S14 (zz_rf 3 (S14 1000 7)) 1 1 11 (zR_k3_1 (by omega)) (zB_k3 (by omega))
  refine zz_callVXI [] zd_1_21_24 zk_TF_247 zT_1000 (zz_ltn hn rfl) rfl rfl ⟨Nat.le_of_ble_eq_true rfl, Nat.le_of_ble_eq_true rfl⟩ (Nat.le_of_ble_eq_true rfl) (Nat.le_of_ble_eq_true rfl) (zc_added_1_31  S14 n hn hfl G_S14 H_S14) zyw_addition_1_21 (fun i SX hX => by obtain ⟨GX, fX, x0, x1, x2⟩ := hX; exact Or.inr ⟨_, _, rfl, GX, zz_fr.trans F_S14 fX rfl (fun a i h => by rcases h with h | h | h | h | h; exact Or.inr (Or.inl (h.1 ▸ zM_k3 (z := (S14 1000 7)) (by omega) rfl)); exact Or.inr (Or.inl (h.1 ▸ zM_k6 (z := (12 * (S14 1000 7) + S14 (zz_rf 3 (S14 1000 7)) 1)) (by omega) rfl)); exact Or.inr (Or.inl (h.1 ▸ zM_k6 (z := (12 * (S14 1000 7) + S14 (zz_rf 3 (S14 1000 7)) 1)) (by omega) rfl)); exact Or.inr (Or.inl (h.1 ▸ zM_k6 (z := (12 * (S14 1000 7) + S14 (zz_rf 3 (S14 1000 7)) 1)) (by omega) rfl)); exact Or.inr (Or.inl (h.1 ▸ zM_k6 (z := (12 * (S14 1000 7) + S14 (zz_rf 3 (S14 1000 7)) 1)) (by omega) rfl))), by omega, by omega, x2⟩) (fun v19 S18 hP => ?_)
  obtain ⟨G_S18, fS18, o20, o21⟩ := hP
  have F_S18 := zz_fr.trans F_S14 fS18 rfl (fun a i h => by rcases h with h | h | h | h | h; exact Or.inr (Or.inl (h.1 ▸ zM_k3 (z := (S14 1000 7)) (by omega) rfl)); exact Or.inr (Or.inl (h.1 ▸ zM_k6 (z := (12 * (S14 1000 7) + S14 (zz_rf 3 (S14 1000 7)) 1)) (by omega) rfl)); exact Or.inr (Or.inl (h.1 ▸ zM_k6 (z := (12 * (S14 1000 7) + S14 (zz_rf 3 (S14 1000 7)) 1)) (by omega) rfl)); exact Or.inr (Or.inl (h.1 ▸ zM_k6 (z := (12 * (S14 1000 7) + S14 (zz_rf 3 (S14 1000 7)) 1)) (by omega) rfl)); exact Or.inr (Or.inl (h.1 ▸ zM_k6 (z := (12 * (S14 1000 7) + S14 (zz_rf 3 (S14 1000 7)) 1)) (by omega) rfl)))
  have b24 := zz_rf3 (z := (S14 1000 7)) (by omega)
  have b25 := zz_G.r G_S14 (zz_rf 3 (S14 1000 7)) 1 1 11 (zR_k3_1 (by omega)) (zB_k3 (by omega))
  have b26 := zz_rf6 (z := (12 * (S14 1000 7) + S14 (zz_rf 3 (S14 1000 7)) 1)) (by omega)
  have H_S18 : zz_Hc S18 := o21
  exact zz_iret zd_1_21_27 rfl (Nat.le_of_ble_eq_true rfl) (Nat.le_of_ble_eq_true rfl) (Or.inl ⟨_, _, rfl, G_S18, F_S18, by omega, H_S18⟩)
abbrev zy_form_1_22 : mm_Y := (⟨"TensorForge", "form", "(II)I"⟩, prog_1_method_22_code, 4, (some .int))
theorem zyw_form_1_22 : mm_Yw zy_form_1_22 2 := ⟨mm_tb_1 1395 (by decide +kernel) rfl, mm_tb_1 1 (by decide +kernel) rfl, ⟨by decide, by decide⟩, by decide +kernel⟩
theorem zd_1_22_0 : zz_D zy_form_1_22 0 (.aload_n 0) 1 1 := ⟨by decide +kernel, rfl⟩
theorem zd_1_22_1 : zz_D zy_form_1_22 1 (.getfield 10) 3 4 := ⟨by decide +kernel, rfl⟩
theorem zd_1_22_4 : zz_D zy_form_1_22 4 (.iload_n 1) 1 5 := ⟨by decide +kernel, rfl⟩
theorem zd_1_22_5 : zz_D zy_form_1_22 5 (.invokevirtual 251) 3 8 := ⟨by decide +kernel, rfl⟩
theorem zk_TF_251 : mm_Vl "TensorForge" 251 1 1 zy_has_7_5 := ⟨zyw_has_7_5, (R_Network, F_Network, 2), rfl, mm_tb_1 1396 (by decide +kernel) rfl, mm_tb_1 859 (by decide +kernel) rfl, mm_tb_1 860 (by decide +kernel) rfl⟩
theorem zd_1_22_8 : zz_B zy_form_1_22 8 (Instr.ifCond .ne) 21 11 := ⟨13, by decide +kernel, rfl, rfl⟩
theorem zt_1_22_11 : zz_Thr zy_form_1_22 11 101 254 105 := ⟨by decide +kernel, by decide +kernel, by decide +kernel, by decide +kernel, by decide +kernel⟩
theorem zd_1_22_21 : zz_D zy_form_1_22 21 (.iload_n 2) 1 22 := ⟨by decide +kernel, rfl⟩
theorem zd_1_22_22 : zz_B zy_form_1_22 22 (Instr.ifCond .lt) 30 25 := ⟨8, by decide +kernel, rfl, rfl⟩
theorem zt_1_22_30 : zz_ThrW zy_form_1_22 30 87 256 91 := ⟨by decide +kernel, by decide +kernel, by decide +kernel, by decide +kernel, by decide +kernel⟩
theorem zxl_TF_87_256_91 : mm_Xl "TensorForge" 87 256 91 0 := ⟨mm_tb_1 1048 (by decide +kernel) rfl, mm_tb_1 1049 (by decide +kernel) rfl, mm_tb_1 16 (by decide +kernel) rfl, ⟨54, by decide +kernel⟩, zxa_TF_91⟩
theorem zd_1_22_25 : zz_D zy_form_1_22 25 (.iload_n 2) 1 26 := ⟨by decide +kernel, rfl⟩
theorem zd_1_22_26 : zz_D zy_form_1_22 26 (.iconst 3) 1 27 := ⟨by decide +kernel, rfl⟩
theorem zd_1_22_27 : zz_B zy_form_1_22 27 (Instr.if_icmp .le) 41 30 := ⟨14, by decide +kernel, rfl, rfl⟩
theorem zd_1_22_41 : zz_D zy_form_1_22 41 (.aload_n 0) 1 42 := ⟨by decide +kernel, rfl⟩
theorem zd_1_22_42 : zz_D zy_form_1_22 42 (.getfield 10) 3 45 := ⟨by decide +kernel, rfl⟩
theorem zd_1_22_45 : zz_D zy_form_1_22 45 (.getfield 258) 3 48 := ⟨by decide +kernel, rfl⟩
theorem zf_TF_258 : mm_Fl "TensorForge" 258 1 0 (.array (.object "TensorForge$Layer")) true := ⟨R_Network, F_Network, 2, t_Network, rfl, i_Network, by decide, mm_tb_1 145 (by decide +kernel) rfl, rfl, t_Network_ok, n_Network, rfl, by decide +kernel⟩
theorem zd_1_22_48 : zz_D zy_form_1_22 48 (.iload_n 1) 1 49 := ⟨by decide +kernel, rfl⟩
theorem zd_1_22_49 : zz_D zy_form_1_22 49 (.aaload) 1 50 := ⟨by decide +kernel, rfl⟩
theorem zd_1_22_50 : zz_D zy_form_1_22 50 (.astore_n 3) 1 51 := ⟨by decide +kernel, rfl⟩
theorem zd_1_22_51 : zz_D zy_form_1_22 51 (.iload_n 2) 1 52 := ⟨by decide +kernel, rfl⟩
theorem zd_1_22_52 : zz_D zy_form_1_22 52 (.iconst 3) 1 53 := ⟨by decide +kernel, rfl⟩
theorem zd_1_22_53 : zz_B zy_form_1_22 53 (Instr.if_icmp .ne) 61 56 := ⟨8, by decide +kernel, rfl, rfl⟩
theorem zd_1_22_61 : zz_D zy_form_1_22 61 (.iload_n 2) 1 62 := ⟨by decide +kernel, rfl⟩
theorem zd_1_22_62 : zz_D zy_form_1_22 62 (.iconst 2) 1 63 := ⟨by decide +kernel, rfl⟩
theorem zd_1_22_63 : zz_B zy_form_1_22 63 (Instr.if_icmp .ne) 71 66 := ⟨8, by decide +kernel, rfl, rfl⟩
theorem zd_1_22_71 : zz_D zy_form_1_22 71 (.iload_n 2) 1 72 := ⟨by decide +kernel, rfl⟩
theorem zd_1_22_72 : zz_D zy_form_1_22 72 (.iconst 1) 1 73 := ⟨by decide +kernel, rfl⟩
theorem zd_1_22_73 : zz_B zy_form_1_22 73 (Instr.if_icmp .ne) 83 76 := ⟨10, by decide +kernel, rfl, rfl⟩
theorem zd_1_22_83 : zz_D zy_form_1_22 83 (.aload_n 3) 1 84 := ⟨by decide +kernel, rfl⟩
theorem zd_1_22_84 : zz_D zy_form_1_22 84 (.getfield 268) 3 87 := ⟨by decide +kernel, rfl⟩
theorem zf_TF_268 : mm_Fl "TensorForge" 268 2 10 .int false := ⟨R_Layer, F_Layer, 15, t_Layer, rfl, i_Layer, by decide, mm_tb_1 97 (by decide +kernel) rfl, rfl, t_Layer_ok, n_Layer, rfl, by decide +kernel⟩
theorem zd_1_22_87 : zz_D zy_form_1_22 87 (.ireturn) 1 88 := ⟨by decide +kernel, rfl⟩
theorem zd_1_22_76 : zz_D zy_form_1_22 76 (.aload_n 3) 1 77 := ⟨by decide +kernel, rfl⟩
theorem zd_1_22_77 : zz_D zy_form_1_22 77 (.getfield 265) 3 80 := ⟨by decide +kernel, rfl⟩
theorem zf_TF_265 : mm_Fl "TensorForge" 265 2 11 .int false := ⟨R_Layer, F_Layer, 15, t_Layer, rfl, i_Layer, by decide, mm_tb_1 101 (by decide +kernel) rfl, rfl, t_Layer_ok, n_Layer, rfl, by decide +kernel⟩
theorem zd_1_22_80 : zz_B zy_form_1_22 80 Instr.goto 87 83 := ⟨7, by decide +kernel, rfl, rfl⟩
theorem zd_1_22_66 : zz_D zy_form_1_22 66 (.aload_n 3) 1 67 := ⟨by decide +kernel, rfl⟩
theorem zd_1_22_67 : zz_D zy_form_1_22 67 (.getfield 241) 3 70 := ⟨by decide +kernel, rfl⟩
theorem zd_1_22_70 : zz_D zy_form_1_22 70 (.ireturn) 1 71 := ⟨by decide +kernel, rfl⟩
theorem zd_1_22_56 : zz_D zy_form_1_22 56 (.aload_n 3) 1 57 := ⟨by decide +kernel, rfl⟩
theorem zd_1_22_57 : zz_D zy_form_1_22 57 (.getfield 262) 3 60 := ⟨by decide +kernel, rfl⟩
theorem zf_TF_262 : mm_Fl "TensorForge" 262 2 13 .int false := ⟨R_Layer, F_Layer, 15, t_Layer, rfl, i_Layer, by decide, mm_tb_1 109 (by decide +kernel) rfl, rfl, t_Layer_ok, n_Layer, rfl, by decide +kernel⟩
theorem zd_1_22_60 : zz_D zy_form_1_22 60 (.ireturn) 1 61 := ⟨by decide +kernel, rfl⟩
-- TensorForge form (II)I
abbrev zr_form_1_22 : Room := { frames := 6, cells := 1, slots := 6, locals := 82 }
def zp_form_1_22 (p0 : Int) (p1 : Int) (S0 : zz_S) : Int → zz_S → Prop := fun r S => S0 = S ∧ ((-2147483648) ≤ r ∧ r ≤ 2147483647)
def zx_form_1_22 (p0 : Int) (p1 : Int) (S0 : zz_S) : Nat → zz_S → Prop := fun i S => S0 = S ∧ (i < 4) ∧ (i = 0 ∨ i = 1)
theorem zc_form_1_22 {g : mm_G} {l : Launch} (p0 : Int) (p1 : Int) (S0 : zz_S) (n : Nat) (hn : zz_end ≤ n) (hfl : l.flags = flags0) (G_S0 : zz_G S0) (hp0 : (-2147483648) ≤ p0 ∧ p0 ≤ 2147483647) (hp1 : (-2147483648) ≤ p1 ∧ p1 ≤ 2147483647) : mm_Met g l zy_form_1_22 zr_form_1_22 [.ref 1000, zi p0, zi p1] (zz_M S0 n) n (zz_XI n (zp_form_1_22 p0 p1 S0) (zx_form_1_22 p0 p1 S0)) := by
  refine zz_enter (by decide) (Nat.le_of_ble_eq_true rfl) (zz_less (ls1 := [some (.ref 1000), some (zi p0), some (zi p1)]) ⟨rfl, ⟨rfl, ⟨rfl, trivial⟩⟩⟩ ?_)
  refine zz_aload_n (x := 1000) rfl zd_1_22_0 ?_
  have g1 := zz_G.r G_S0 1000 7 0 1 rfl rfl
  refine zz_getr (kd := 1) (z := S0 1000 7) zd_1_22_1 zf_TF_10 zT_1000 rfl (zz_ltn hn rfl) rfl (by omega) (zz_rf 3 (S0 1000 7)) rfl ?_
  refine zz_iload_n (x := p0) rfl zd_1_22_4 ?_
  refine zz_callVI [zi p0] zd_1_22_5 zk_TF_251 (zT_k3 (by omega)) (zN_k3 hn (by omega)) rfl rfl ⟨Nat.le_of_ble_eq_true rfl, Nat.le_of_ble_eq_true rfl⟩ ⟨rfl, rfl⟩ (Nat.zero_le _) (Nat.zero_le _) (zc_has_7_5 (S0 1000 7) p0 S0 n hn G_S0 (by omega) (by omega)) (fun v3 S2 hP => ?_)
  obtain ⟨rfl, o4, o5⟩ := hP
  rcases (by omega : v3 = 0 ∨ v3 = 1) with rfl | rfl
  · refine zz_if_ne (by omega) zd_1_22_8 (fun c6 => ?_) (fun c6 => ?_)
    · exfalso; omega
    · exact zz_throw (i := 1) hfl hn zt_1_22_11 zyw_form_1_22 zxl_TF_101_254_105 (Nat.le_of_ble_eq_true rfl) (Nat.le_of_ble_eq_true rfl) ⟨Nat.le_of_ble_eq_true rfl, Nat.le_of_ble_eq_true rfl⟩ (Or.inr ⟨_, _, rfl, rfl, by omega, by omega⟩)
  · refine zz_if_ne (by omega) zd_1_22_8 (fun c7 => ?_) (fun c7 => ?_)
    · refine zz_iload_n (x := p1) rfl zd_1_22_21 ?_
      refine zz_if_lt (by omega) zd_1_22_22 (fun c8 => ?_) (fun c8 => ?_)
      · exact zz_throwW (i := 0) hfl hn zt_1_22_30 zyw_form_1_22 zxl_TF_87_256_91 (Nat.le_of_ble_eq_true rfl) (Nat.le_of_ble_eq_true rfl) ⟨Nat.le_of_ble_eq_true rfl, Nat.le_of_ble_eq_true rfl⟩ (Or.inr ⟨_, _, rfl, rfl, by omega, by omega⟩)
      · refine zz_iload_n (x := p1) rfl zd_1_22_25 ?_
        refine zz_iconst zd_1_22_26 ?_
        refine zz_icmp_le (by omega) (by omega) zd_1_22_27 (fun c9 => ?_) (fun c9 => ?_)
        · refine zz_aload_n (x := 1000) rfl zd_1_22_41 ?_
          refine zz_getr (kd := 1) (z := S0 1000 7) zd_1_22_42 zf_TF_10 zT_1000 rfl (zz_ltn hn rfl) rfl (by omega) (zz_rf 3 (S0 1000 7)) rfl ?_
          refine zz_getr (kd := 0) (z := ((zz_rf 3 (S0 1000 7) + 1 : Nat) : Int)) zd_1_22_45 zf_TF_258 (zT_k3 (by omega)) rfl (zN_k3 hn (by omega)) (zE_k3a G_S0 (by omega)) (Int.natCast_nonneg _) (zz_rf 3 (S0 1000 7) + 1) (Int.toNat_natCast _) ?_
          refine zz_iload_n (x := p0) rfl zd_1_22_48 ?_
          refine zz_aald (kd := 4) (z := 12 * (S0 1000 7) + p0) zd_1_22_49 (zT_k3a (by omega)) rfl (zN_k3a hn (by omega)) (by decide) (by omega) (zE_lay G_S0 (by omega) (by omega)) (by omega) (zz_rf 6 (12 * (S0 1000 7) + p0)) rfl ?_
          refine zz_astore_n [some (.ref 1000), some (zi p0), some (zi p1), some (.ref (zz_rf 6 (12 * (S0 1000 7) + p0)))] zd_1_22_50 (by decide) rfl ?_
          refine zz_iload_n (x := p1) rfl zd_1_22_51 ?_
          refine zz_iconst zd_1_22_52 ?_
          refine zz_icmp_ne (by omega) (by omega) zd_1_22_53 (fun c10 => ?_) (fun c10 => ?_)
          · refine zz_iload_n (x := p1) rfl zd_1_22_61 ?_
            refine zz_iconst zd_1_22_62 ?_
            refine zz_icmp_ne (by omega) (by omega) zd_1_22_63 (fun c11 => ?_) (fun c11 => ?_)
            · refine zz_iload_n (x := p1) rfl zd_1_22_71 ?_
              refine zz_iconst zd_1_22_72 ?_
              refine zz_icmp_ne (by omega) (by omega) zd_1_22_73 (fun c12 => ?_) (fun c12 => ?_)
              · refine zz_aload_n (x := zz_rf 6 (12 * (S0 1000 7) + p0)) rfl zd_1_22_83 ?_
                have g13 := zz_G.r G_S0 (zz_rf 6 (12 * (S0 1000 7) + p0)) 10 (-2147483648) 2147483647 (zR_k6_10 (by omega)) (zB_k6 (by omega))
                refine zz_geti (z := S0 (zz_rf 6 (12 * (S0 1000 7) + p0)) 10) zd_1_22_84 zf_TF_268 (zT_k6 (by omega)) rfl (zN_k6 hn (by omega)) rfl ?_
                exact zz_iret zd_1_22_87 rfl (Nat.le_of_ble_eq_true rfl) (Nat.le_of_ble_eq_true rfl) (Or.inl ⟨_, _, rfl, rfl, by omega⟩)
              · refine zz_aload_n (x := zz_rf 6 (12 * (S0 1000 7) + p0)) rfl zd_1_22_76 ?_
                have g14 := zz_G.r G_S0 (zz_rf 6 (12 * (S0 1000 7) + p0)) 11 (-2147483648) 2147483647 (zR_k6_11 (by omega)) (zB_k6 (by omega))
                refine zz_geti (z := S0 (zz_rf 6 (12 * (S0 1000 7) + p0)) 11) zd_1_22_77 zf_TF_265 (zT_k6 (by omega)) rfl (zN_k6 hn (by omega)) rfl ?_
                refine zz_goto zd_1_22_80 ?_
                exact zz_iret zd_1_22_87 rfl (Nat.le_of_ble_eq_true rfl) (Nat.le_of_ble_eq_true rfl) (Or.inl ⟨_, _, rfl, rfl, by omega⟩)
            · refine zz_aload_n (x := zz_rf 6 (12 * (S0 1000 7) + p0)) rfl zd_1_22_66 ?_
              have g15 := zz_G.r G_S0 (zz_rf 6 (12 * (S0 1000 7) + p0)) 12 (-2147483648) 2147483647 (zR_k6_12 (by omega)) (zB_k6 (by omega))
              refine zz_geti (z := S0 (zz_rf 6 (12 * (S0 1000 7) + p0)) 12) zd_1_22_67 zf_TF_241 (zT_k6 (by omega)) rfl (zN_k6 hn (by omega)) rfl ?_
              exact zz_iret zd_1_22_70 rfl (Nat.le_of_ble_eq_true rfl) (Nat.le_of_ble_eq_true rfl) (Or.inl ⟨_, _, rfl, rfl, by omega⟩)
          · refine zz_aload_n (x := zz_rf 6 (12 * (S0 1000 7) + p0)) rfl zd_1_22_56 ?_
            have g16 := zz_G.r G_S0 (zz_rf 6 (12 * (S0 1000 7) + p0)) 13 (-2147483648) 2147483647 (zR_k6_13 (by omega)) (zB_k6 (by omega))
            refine zz_geti (z := S0 (zz_rf 6 (12 * (S0 1000 7) + p0)) 13) zd_1_22_57 zf_TF_262 (zT_k6 (by omega)) rfl (zN_k6 hn (by omega)) rfl ?_
            exact zz_iret zd_1_22_60 rfl (Nat.le_of_ble_eq_true rfl) (Nat.le_of_ble_eq_true rfl) (Or.inl ⟨_, _, rfl, rfl, by omega⟩)
        · exact zz_throwW (i := 0) hfl hn zt_1_22_30 zyw_form_1_22 zxl_TF_87_256_91 (Nat.le_of_ble_eq_true rfl) (Nat.le_of_ble_eq_true rfl) ⟨Nat.le_of_ble_eq_true rfl, Nat.le_of_ble_eq_true rfl⟩ (Or.inr ⟨_, _, rfl, rfl, by omega, by omega⟩)
    · exfalso; omega
abbrev zy_compile_1_23 : mm_Y := (⟨"TensorForge", "compile", "()I"⟩, prog_1_method_23_code, 2, (some .int))
theorem zyw_compile_1_23 : mm_Yw zy_compile_1_23 0 := ⟨mm_tb_1 1404 (by decide +kernel) rfl, mm_tb_1 1 (by decide +kernel) rfl, ⟨by decide, by decide⟩, by decide +kernel⟩
theorem zd_1_23_0 : zz_D zy_compile_1_23 0 (.aload_n 0) 1 1 := ⟨by decide +kernel, rfl⟩
theorem zd_1_23_1 : zz_D zy_compile_1_23 1 (.getfield 76) 3 4 := ⟨by decide +kernel, rfl⟩
theorem zd_1_23_4 : zz_D zy_compile_1_23 4 (.aload_n 0) 1 5 := ⟨by decide +kernel, rfl⟩
theorem zd_1_23_5 : zz_D zy_compile_1_23 5 (.getfield 33) 3 8 := ⟨by decide +kernel, rfl⟩
theorem zd_1_23_8 : zz_D zy_compile_1_23 8 (.getfield 271) 3 11 := ⟨by decide +kernel, rfl⟩
theorem zf_TF_271 : mm_Fl "TensorForge" 271 3 6 .int false := ⟨R_Machine, F_Machine, 14, t_Machine, rfl, i_Machine, by decide, mm_tb_1 193 (by decide +kernel) rfl, rfl, t_Machine_ok, n_Machine, rfl, by decide +kernel⟩
theorem zd_1_23_11 : zz_D zy_compile_1_23 11 (.aload_n 0) 1 12 := ⟨by decide +kernel, rfl⟩
theorem zd_1_23_12 : zz_D zy_compile_1_23 12 (.getfield 23) 3 15 := ⟨by decide +kernel, rfl⟩
theorem zd_1_23_15 : zz_D zy_compile_1_23 15 (.invokevirtual 274) 3 18 := ⟨by decide +kernel, rfl⟩
abbrev zy_open_3_2 : mm_Y := (⟨"TensorForge$Compiler", "open", "(I[J)V"⟩, prog_3_method_2_code, 3, none)
theorem zyw_open_3_2 : mm_Yw zy_open_3_2 2 := ⟨mm_tb_1 1408 (by decide +kernel) rfl, mm_tb_1 10 (by decide +kernel) rfl, ⟨by decide, by decide⟩, by decide +kernel⟩
theorem zd_3_2_0 : zz_D zy_open_3_2 0 (.aload_n 0) 1 1 := ⟨by decide +kernel, rfl⟩
theorem zd_3_2_1 : zz_D zy_open_3_2 1 (.iconst 2) 1 2 := ⟨by decide +kernel, rfl⟩
theorem zd_3_2_2 : zz_D zy_open_3_2 2 (.bipush 8) 2 4 := ⟨by decide +kernel, rfl⟩
theorem zd_3_2_4 : zz_D zy_open_3_2 4 (.iload_n 1) 1 5 := ⟨by decide +kernel, rfl⟩
theorem zd_3_2_5 : zz_D zy_open_3_2 5 (.invokestatic 24) 3 8 := ⟨by decide +kernel, rfl⟩
theorem zm_Compiler_24 : Cond.methodLink "TensorForge$Compiler" 24 Lib.Math.min.name ∈ mm_tb ∧ Cond.static Lib.Math.min.name ∈ mm_tb ∧ Cond.initialized "java/lang/Math" ∈ mm_tb ∧ Cond.code Lib.Math.min.name Lib.Math.min.code 2 (some .int) ∈ mm_tb := ⟨mm_tb_1 1409 (by decide +kernel) rfl, mm_tb_1 706 (by decide +kernel) rfl, mm_tb_1 25 (by decide +kernel) rfl, mm_tb_1 707 (by decide +kernel) rfl⟩
theorem zd_3_2_8 : zz_D zy_open_3_2 8 (.invokestatic 30) 3 11 := ⟨by decide +kernel, rfl⟩
theorem zm_Compiler_30 : Cond.methodLink "TensorForge$Compiler" 30 Lib.Math.max.name ∈ mm_tb ∧ Cond.static Lib.Math.max.name ∈ mm_tb ∧ Cond.initialized "java/lang/Math" ∈ mm_tb ∧ Cond.code Lib.Math.max.name Lib.Math.max.code 2 (some .int) ∈ mm_tb := ⟨mm_tb_1 1410 (by decide +kernel) rfl, mm_tb_1 709 (by decide +kernel) rfl, mm_tb_1 25 (by decide +kernel) rfl, mm_tb_1 710 (by decide +kernel) rfl⟩
theorem zd_3_2_11 : zz_D zy_open_3_2 11 (.putfield 21) 3 14 := ⟨by decide +kernel, rfl⟩
theorem zd_3_2_14 : zz_D zy_open_3_2 14 (.aload_n 0) 1 15 := ⟨by decide +kernel, rfl⟩
theorem zd_3_2_15 : zz_D zy_open_3_2 15 (.aload_n 2) 1 16 := ⟨by decide +kernel, rfl⟩
theorem zd_3_2_16 : zz_D zy_open_3_2 16 (.putfield 9) 3 19 := ⟨by decide +kernel, rfl⟩
theorem zd_3_2_19 : zz_D zy_open_3_2 19 (.aload_n 0) 1 20 := ⟨by decide +kernel, rfl⟩
theorem zd_3_2_20 : zz_D zy_open_3_2 20 (.iconst 0) 1 21 := ⟨by decide +kernel, rfl⟩
theorem zd_3_2_21 : zz_D zy_open_3_2 21 (.putfield 15) 3 24 := ⟨by decide +kernel, rfl⟩
theorem zd_3_2_24 : zz_D zy_open_3_2 24 (.return_) 1 25 := ⟨by decide +kernel, rfl⟩
-- TensorForge$Compiler open (I[J)V
abbrev zr_open_3_2 : Room := { frames := 1, cells := 0, slots := 0, locals := 15 }
def zp_open_3_2 (p0 : Int) (p1 : Int) (S0 : zz_S) : zz_S → Prop := fun S => zz_G S ∧ zz_fr [(1076, 0), (1076, 1), (1076, 2)] [] (fun _ _ => False) S0 S
theorem zc_open_3_2 {g : mm_G} {l : Launch} (p0 : Int) (p1 : Int) (S0 : zz_S) (n : Nat) (hn : zz_end ≤ n) (G_S0 : zz_G S0) (hp0 : (-2147483648) ≤ p0 ∧ p0 ≤ 2147483647) (hp1 : 0 ≤ p1 ∧ p1 ≤ 1) : mm_Met g l zy_open_3_2 zr_open_3_2 [.ref 1076, zi p0, .ref (zz_rf 4 p1)] (zz_M S0 n) n (zz_QV n (zp_open_3_2 p0 p1 S0)) := by
  refine zz_enter (by decide) (Nat.le_of_ble_eq_true rfl) (zz_less (ls1 := [some (.ref 1076), some (zi p0), some (.ref (zz_rf 4 p1))]) ⟨rfl, ⟨rfl, ⟨rfl, trivial⟩⟩⟩ ?_)
  have F_S0 : zz_fr [(1076, 0), (1076, 1), (1076, 2)] [] (fun _ _ => False) S0 S0 := zz_fr.refl
  have b_p1 := zz_rf4 (z := p1) (by omega)
  refine zz_aload_n (x := 1076) rfl zd_3_2_0 ?_
  refine zz_iconst zd_3_2_1 ?_
  refine zz_bipush (by decide) zd_3_2_2 ?_
  refine zz_iload_n (x := p0) rfl zd_3_2_4 ?_
  refine zz_mmin (by omega) (by omega) zd_3_2_5 zm_Compiler_24 ⟨Nat.le_of_ble_eq_true rfl, Nat.le_of_ble_eq_true rfl⟩ (Nat.zero_le _) (Nat.zero_le _) (fun v1 hv1 => ?_)
  refine zz_mmax (by omega) (by omega) zd_3_2_8 zm_Compiler_30 ⟨Nat.le_of_ble_eq_true rfl, Nat.le_of_ble_eq_true rfl⟩ (Nat.zero_le _) (Nat.zero_le _) (fun v2 hv2 => ?_)
  refine zz_puti zd_3_2_11 zf_Compiler_21 zT_1076 rfl (zz_ltn hn rfl) (fun S3 qS3 => ?_)
  have G_S3 := zz_G.put G_S0 qS3 2 8 rfl (by omega)
  have F_S3 := zz_fr.puts F_S0 qS3 rfl
  refine zz_aload_n (x := 1076) rfl zd_3_2_14 ?_
  refine zz_aload_n (x := zz_rf 4 p1) rfl zd_3_2_15 ?_
  refine zz_putr (kd := 2) p1 zd_3_2_16 zf_Compiler_9 zT_1076 rfl (zz_ltn hn rfl) (by omega) rfl (fun _ => rfl) (fun _ => rfl) (fun S4 qS4 => ?_)
  have G_S4 := zz_G.put G_S3 qS4 0 1 rfl (by omega)
  have F_S4 := zz_fr.puts F_S3 qS4 rfl
  refine zz_aload_n (x := 1076) rfl zd_3_2_19 ?_
  refine zz_iconst zd_3_2_20 ?_
  refine zz_puti zd_3_2_21 zf_Compiler_15 zT_1076 rfl (zz_ltn hn rfl) (fun S5 qS5 => ?_)
  have G_S5 := zz_G.put G_S4 qS5 0 1000000 rfl (by omega)
  have F_S5 := zz_fr.puts F_S4 qS5 rfl
  exact zz_vret zd_3_2_24 rfl (Nat.zero_le _) (Nat.zero_le _) ⟨_, rfl, G_S5, F_S5⟩
theorem zk_TF_274 : mm_Vl "TensorForge" 274 9 2 zy_open_3_2 := ⟨zyw_open_3_2, (R_Compiler, F_Compiler, 17), rfl, mm_tb_1 1405 (by decide +kernel) rfl, mm_tb_1 1406 (by decide +kernel) rfl, mm_tb_1 1407 (by decide +kernel) rfl⟩
theorem zd_1_23_18 : zz_D zy_compile_1_23 18 (.iconst 1) 1 19 := ⟨by decide +kernel, rfl⟩
theorem zd_1_23_19 : zz_D zy_compile_1_23 19 (.istore_n 1) 1 20 := ⟨by decide +kernel, rfl⟩
theorem zd_1_23_20 : zz_D zy_compile_1_23 20 (.iload_n 1) 1 21 := ⟨by decide +kernel, rfl⟩
theorem zd_1_23_21 : zz_D zy_compile_1_23 21 (.aload_n 0) 1 22 := ⟨by decide +kernel, rfl⟩
theorem zd_1_23_22 : zz_D zy_compile_1_23 22 (.getfield 10) 3 25 := ⟨by decide +kernel, rfl⟩
theorem zd_1_23_25 : zz_D zy_compile_1_23 25 (.getfield 278) 3 28 := ⟨by decide +kernel, rfl⟩
theorem zd_1_23_28 : zz_B zy_compile_1_23 28 (Instr.if_icmp .ge) 49 31 := ⟨21, by decide +kernel, rfl, rfl⟩
theorem zd_1_23_49 : zz_D zy_compile_1_23 49 (.aload_n 0) 1 50 := ⟨by decide +kernel, rfl⟩
theorem zd_1_23_50 : zz_D zy_compile_1_23 50 (.getfield 76) 3 53 := ⟨by decide +kernel, rfl⟩
theorem zd_1_23_53 : zz_D zy_compile_1_23 53 (.getfield 285) 3 56 := ⟨by decide +kernel, rfl⟩
theorem zf_TF_285 : mm_Fl "TensorForge" 285 9 1 .int false := ⟨R_Compiler, F_Compiler, 17, t_Compiler, rfl, i_Compiler, by decide, mm_tb_1 376 (by decide +kernel) rfl, rfl, t_Compiler_ok, n_Compiler, rfl, by decide +kernel⟩
theorem zd_1_23_56 : zz_D zy_compile_1_23 56 (.sipush 600) 3 59 := ⟨by decide +kernel, rfl⟩
theorem zd_1_23_59 : zz_B zy_compile_1_23 59 (Instr.if_icmp .le) 73 62 := ⟨14, by decide +kernel, rfl, rfl⟩
theorem zd_1_23_73 : zz_D zy_compile_1_23 73 (.aload_n 0) 1 74 := ⟨by decide +kernel, rfl⟩
theorem zd_1_23_74 : zz_D zy_compile_1_23 74 (.aload_n 0) 1 75 := ⟨by decide +kernel, rfl⟩
theorem zd_1_23_75 : zz_D zy_compile_1_23 75 (.getfield 76) 3 78 := ⟨by decide +kernel, rfl⟩
theorem zd_1_23_78 : zz_D zy_compile_1_23 78 (.getfield 285) 3 81 := ⟨by decide +kernel, rfl⟩
theorem zd_1_23_81 : zz_D zy_compile_1_23 81 (.invokevirtual 169) 3 84 := ⟨by decide +kernel, rfl⟩
theorem zd_1_23_84 : zz_D zy_compile_1_23 84 (.aload_n 0) 1 85 := ⟨by decide +kernel, rfl⟩
theorem zd_1_23_85 : zz_D zy_compile_1_23 85 (.getfield 26) 3 88 := ⟨by decide +kernel, rfl⟩
theorem zd_1_23_88 : zz_D zy_compile_1_23 88 (.ireturn) 1 89 := ⟨by decide +kernel, rfl⟩
theorem zt_1_23_62 : zz_ThrW zy_compile_1_23 62 126 286 130 := ⟨by decide +kernel, by decide +kernel, by decide +kernel, by decide +kernel, by decide +kernel⟩
theorem zxl_TF_126_286_130 : mm_Xl "TensorForge" 126 286 130 2 := ⟨mm_tb_1 1176 (by decide +kernel) rfl, mm_tb_1 1177 (by decide +kernel) rfl, mm_tb_1 19 (by decide +kernel) rfl, ⟨55, by decide +kernel⟩, zxa_TF_130⟩
theorem zd_1_23_31 : zz_D zy_compile_1_23 31 (.aload_n 0) 1 32 := ⟨by decide +kernel, rfl⟩
theorem zd_1_23_32 : zz_D zy_compile_1_23 32 (.getfield 76) 3 35 := ⟨by decide +kernel, rfl⟩
theorem zd_1_23_35 : zz_D zy_compile_1_23 35 (.aload_n 0) 1 36 := ⟨by decide +kernel, rfl⟩
theorem zd_1_23_36 : zz_D zy_compile_1_23 36 (.getfield 10) 3 39 := ⟨by decide +kernel, rfl⟩
theorem zd_1_23_39 : zz_D zy_compile_1_23 39 (.iload_n 1) 1 40 := ⟨by decide +kernel, rfl⟩
theorem zd_1_23_40 : zz_D zy_compile_1_23 40 (.invokevirtual 281) 3 43 := ⟨by decide +kernel, rfl⟩
abbrev zy_makeLayer_3_3 : mm_Y := (⟨"TensorForge$Compiler", "makeLayer", "(LTensorForge$Network;I)V"⟩, prog_3_method_3_code, 7, none)
theorem zyw_makeLayer_3_3 : mm_Yw zy_makeLayer_3_3 2 := ⟨mm_tb_1 1414 (by decide +kernel) rfl, mm_tb_1 10 (by decide +kernel) rfl, ⟨by decide, by decide⟩, by decide +kernel⟩
theorem zd_3_3_0 : zz_D zy_makeLayer_3_3 0 (.aload_n 1) 1 1 := ⟨by decide +kernel, rfl⟩
theorem zd_3_3_1 : zz_D zy_makeLayer_3_3 1 (.iload_n 2) 1 2 := ⟨by decide +kernel, rfl⟩
theorem zd_3_3_2 : zz_D zy_makeLayer_3_3 2 (.invokevirtual 33) 3 5 := ⟨by decide +kernel, rfl⟩
theorem zk_Compiler_33 : mm_Vl "TensorForge$Compiler" 33 1 1 zy_has_7_5 := ⟨zyw_has_7_5, (R_Network, F_Network, 2), rfl, mm_tb_1 1415 (by decide +kernel) rfl, mm_tb_1 859 (by decide +kernel) rfl, mm_tb_1 860 (by decide +kernel) rfl⟩
theorem zd_3_3_5 : zz_B zy_makeLayer_3_3 5 (Instr.ifCond .eq) 40 8 := ⟨35, by decide +kernel, rfl, rfl⟩
theorem zd_3_3_40 : zz_D zy_makeLayer_3_3 40 (.return_) 1 41 := ⟨by decide +kernel, rfl⟩
theorem zd_3_3_8 : zz_D zy_makeLayer_3_3 8 (.aload_n 1) 1 9 := ⟨by decide +kernel, rfl⟩
theorem zd_3_3_9 : zz_D zy_makeLayer_3_3 9 (.aload_n 1) 1 10 := ⟨by decide +kernel, rfl⟩
theorem zd_3_3_10 : zz_D zy_makeLayer_3_3 10 (.getfield 39) 3 13 := ⟨by decide +kernel, rfl⟩
theorem zf_Compiler_39 : mm_Fl "TensorForge$Compiler" 39 1 0 (.array (.object "TensorForge$Layer")) true := ⟨R_Network, F_Network, 2, t_Network, rfl, i_Network, by decide, mm_tb_1 144 (by decide +kernel) rfl, rfl, t_Network_ok, n_Network, rfl, by decide +kernel⟩
theorem zd_3_3_13 : zz_D zy_makeLayer_3_3 13 (.iload_n 2) 1 14 := ⟨by decide +kernel, rfl⟩
theorem zd_3_3_14 : zz_D zy_makeLayer_3_3 14 (.aaload) 1 15 := ⟨by decide +kernel, rfl⟩
theorem zd_3_3_15 : zz_D zy_makeLayer_3_3 15 (.getfield 43) 3 18 := ⟨by decide +kernel, rfl⟩
theorem zf_Compiler_43 : mm_Fl "TensorForge$Compiler" 43 2 1 .int false := ⟨R_Layer, F_Layer, 15, t_Layer, rfl, i_Layer, by decide, mm_tb_1 61 (by decide +kernel) rfl, rfl, t_Layer_ok, n_Layer, rfl, by decide +kernel⟩
theorem zd_3_3_18 : zz_D zy_makeLayer_3_3 18 (.invokevirtual 33) 3 21 := ⟨by decide +kernel, rfl⟩
theorem zd_3_3_21 : zz_B zy_makeLayer_3_3 21 (Instr.ifCond .eq) 40 24 := ⟨19, by decide +kernel, rfl, rfl⟩
theorem zd_3_3_24 : zz_D zy_makeLayer_3_3 24 (.aload_n 1) 1 25 := ⟨by decide +kernel, rfl⟩
theorem zd_3_3_25 : zz_D zy_makeLayer_3_3 25 (.aload_n 1) 1 26 := ⟨by decide +kernel, rfl⟩
theorem zd_3_3_26 : zz_D zy_makeLayer_3_3 26 (.getfield 39) 3 29 := ⟨by decide +kernel, rfl⟩
theorem zd_3_3_29 : zz_D zy_makeLayer_3_3 29 (.iload_n 2) 1 30 := ⟨by decide +kernel, rfl⟩
theorem zd_3_3_30 : zz_D zy_makeLayer_3_3 30 (.aaload) 1 31 := ⟨by decide +kernel, rfl⟩
theorem zd_3_3_31 : zz_D zy_makeLayer_3_3 31 (.getfield 48) 3 34 := ⟨by decide +kernel, rfl⟩
theorem zf_Compiler_48 : mm_Fl "TensorForge$Compiler" 48 2 2 .int false := ⟨R_Layer, F_Layer, 15, t_Layer, rfl, i_Layer, by decide, mm_tb_1 65 (by decide +kernel) rfl, rfl, t_Layer_ok, n_Layer, rfl, by decide +kernel⟩
theorem zd_3_3_34 : zz_D zy_makeLayer_3_3 34 (.invokevirtual 33) 3 37 := ⟨by decide +kernel, rfl⟩
theorem zd_3_3_37 : zz_B zy_makeLayer_3_3 37 (Instr.ifCond .ne) 41 40 := ⟨4, by decide +kernel, rfl, rfl⟩
theorem zd_3_3_41 : zz_D zy_makeLayer_3_3 41 (.aload_n 0) 1 42 := ⟨by decide +kernel, rfl⟩
theorem zd_3_3_42 : zz_D zy_makeLayer_3_3 42 (.aload_n 1) 1 43 := ⟨by decide +kernel, rfl⟩
theorem zd_3_3_43 : zz_D zy_makeLayer_3_3 43 (.getfield 39) 3 46 := ⟨by decide +kernel, rfl⟩
theorem zd_3_3_46 : zz_D zy_makeLayer_3_3 46 (.iload_n 2) 1 47 := ⟨by decide +kernel, rfl⟩
theorem zd_3_3_47 : zz_D zy_makeLayer_3_3 47 (.aaload) 1 48 := ⟨by decide +kernel, rfl⟩
theorem zd_3_3_48 : zz_D zy_makeLayer_3_3 48 (.putfield 51) 3 51 := ⟨by decide +kernel, rfl⟩
theorem zf_Compiler_51 : mm_Fl "TensorForge$Compiler" 51 9 3 (.object "TensorForge$Layer") false := ⟨R_Compiler, F_Compiler, 17, t_Compiler, rfl, i_Compiler, by decide, mm_tb_1 378 (by decide +kernel) rfl, rfl, t_Compiler_ok, n_Compiler, rfl, by decide +kernel⟩
theorem zd_3_3_51 : zz_D zy_makeLayer_3_3 51 (.aload_n 0) 1 52 := ⟨by decide +kernel, rfl⟩
theorem zd_3_3_52 : zz_D zy_makeLayer_3_3 52 (.aload_n 1) 1 53 := ⟨by decide +kernel, rfl⟩
theorem zd_3_3_53 : zz_D zy_makeLayer_3_3 53 (.getfield 39) 3 56 := ⟨by decide +kernel, rfl⟩
theorem zd_3_3_56 : zz_D zy_makeLayer_3_3 56 (.aload_n 0) 1 57 := ⟨by decide +kernel, rfl⟩
theorem zd_3_3_57 : zz_D zy_makeLayer_3_3 57 (.getfield 51) 3 60 := ⟨by decide +kernel, rfl⟩
theorem zd_3_3_60 : zz_D zy_makeLayer_3_3 60 (.getfield 43) 3 63 := ⟨by decide +kernel, rfl⟩
theorem zd_3_3_63 : zz_D zy_makeLayer_3_3 63 (.aaload) 1 64 := ⟨by decide +kernel, rfl⟩
theorem zd_3_3_64 : zz_D zy_makeLayer_3_3 64 (.putfield 55) 3 67 := ⟨by decide +kernel, rfl⟩
theorem zf_Compiler_55 : mm_Fl "TensorForge$Compiler" 55 9 4 (.object "TensorForge$Layer") false := ⟨R_Compiler, F_Compiler, 17, t_Compiler, rfl, i_Compiler, by decide, mm_tb_1 379 (by decide +kernel) rfl, rfl, t_Compiler_ok, n_Compiler, rfl, by decide +kernel⟩
theorem zd_3_3_67 : zz_D zy_makeLayer_3_3 67 (.aload_n 0) 1 68 := ⟨by decide +kernel, rfl⟩
theorem zd_3_3_68 : zz_D zy_makeLayer_3_3 68 (.aload_n 1) 1 69 := ⟨by decide +kernel, rfl⟩
theorem zd_3_3_69 : zz_D zy_makeLayer_3_3 69 (.getfield 39) 3 72 := ⟨by decide +kernel, rfl⟩
theorem zd_3_3_72 : zz_D zy_makeLayer_3_3 72 (.aload_n 0) 1 73 := ⟨by decide +kernel, rfl⟩
theorem zd_3_3_73 : zz_D zy_makeLayer_3_3 73 (.getfield 51) 3 76 := ⟨by decide +kernel, rfl⟩
theorem zd_3_3_76 : zz_D zy_makeLayer_3_3 76 (.getfield 48) 3 79 := ⟨by decide +kernel, rfl⟩
theorem zd_3_3_79 : zz_D zy_makeLayer_3_3 79 (.aaload) 1 80 := ⟨by decide +kernel, rfl⟩
theorem zd_3_3_80 : zz_D zy_makeLayer_3_3 80 (.putfield 58) 3 83 := ⟨by decide +kernel, rfl⟩
theorem zf_Compiler_58 : mm_Fl "TensorForge$Compiler" 58 9 5 (.object "TensorForge$Layer") false := ⟨R_Compiler, F_Compiler, 17, t_Compiler, rfl, i_Compiler, by decide, mm_tb_1 380 (by decide +kernel) rfl, rfl, t_Compiler_ok, n_Compiler, rfl, by decide +kernel⟩
theorem zd_3_3_83 : zz_D zy_makeLayer_3_3 83 (.aload_n 0) 1 84 := ⟨by decide +kernel, rfl⟩
theorem zd_3_3_84 : zz_D zy_makeLayer_3_3 84 (.getfield 51) 3 87 := ⟨by decide +kernel, rfl⟩
theorem zd_3_3_87 : zz_D zy_makeLayer_3_3 87 (.getfield 61) 3 90 := ⟨by decide +kernel, rfl⟩
theorem zf_Compiler_61 : mm_Fl "TensorForge$Compiler" 61 2 0 .int false := ⟨R_Layer, F_Layer, 15, t_Layer, rfl, i_Layer, by decide, mm_tb_1 58 (by decide +kernel) rfl, rfl, t_Layer_ok, n_Layer, rfl, by decide +kernel⟩
theorem zd_3_3_90 : zz_D zy_makeLayer_3_3 90 (.iconst 3) 1 91 := ⟨by decide +kernel, rfl⟩
theorem zd_3_3_91 : zz_B zy_makeLayer_3_3 91 (Instr.if_icmp .ne) 98 94 := ⟨7, by decide +kernel, rfl, rfl⟩
theorem zd_3_3_98 : zz_D zy_makeLayer_3_3 98 (.iconst 0) 1 99 := ⟨by decide +kernel, rfl⟩
theorem zd_3_3_99 : zz_D zy_makeLayer_3_3 99 (.istore_n 3) 1 100 := ⟨by decide +kernel, rfl⟩
theorem zd_3_3_100 : zz_D zy_makeLayer_3_3 100 (.iload_n 3) 1 101 := ⟨by decide +kernel, rfl⟩
theorem zd_3_3_101 : zz_B zy_makeLayer_3_3 101 (Instr.ifCond .eq) 108 104 := ⟨7, by decide +kernel, rfl, rfl⟩
theorem zd_3_3_108 : zz_D zy_makeLayer_3_3 108 (.aload_n 0) 1 109 := ⟨by decide +kernel, rfl⟩
theorem zd_3_3_109 : zz_D zy_makeLayer_3_3 109 (.getfield 51) 3 112 := ⟨by decide +kernel, rfl⟩
theorem zd_3_3_112 : zz_D zy_makeLayer_3_3 112 (.getfield 64) 3 115 := ⟨by decide +kernel, rfl⟩
theorem zf_Compiler_64 : mm_Fl "TensorForge$Compiler" 64 2 10 .int false := ⟨R_Layer, F_Layer, 15, t_Layer, rfl, i_Layer, by decide, mm_tb_1 95 (by decide +kernel) rfl, rfl, t_Layer_ok, n_Layer, rfl, by decide +kernel⟩
theorem zd_3_3_115 : zz_D zy_makeLayer_3_3 115 (.istore 4) 2 117 := ⟨by decide +kernel, rfl⟩
theorem zd_3_3_117 : zz_D zy_makeLayer_3_3 117 (.iload_n 3) 1 118 := ⟨by decide +kernel, rfl⟩
theorem zd_3_3_118 : zz_B zy_makeLayer_3_3 118 (Instr.ifCond .eq) 139 121 := ⟨21, by decide +kernel, rfl, rfl⟩
theorem zd_3_3_139 : zz_D zy_makeLayer_3_3 139 (.aload_n 0) 1 140 := ⟨by decide +kernel, rfl⟩
theorem zd_3_3_140 : zz_D zy_makeLayer_3_3 140 (.getfield 51) 3 143 := ⟨by decide +kernel, rfl⟩
theorem zd_3_3_143 : zz_D zy_makeLayer_3_3 143 (.getfield 67) 3 146 := ⟨by decide +kernel, rfl⟩
theorem zf_Compiler_67 : mm_Fl "TensorForge$Compiler" 67 2 11 .int false := ⟨R_Layer, F_Layer, 15, t_Layer, rfl, i_Layer, by decide, mm_tb_1 99 (by decide +kernel) rfl, rfl, t_Layer_ok, n_Layer, rfl, by decide +kernel⟩
theorem zd_3_3_146 : zz_D zy_makeLayer_3_3 146 (.istore 5) 2 148 := ⟨by decide +kernel, rfl⟩
theorem zd_3_3_148 : zz_D zy_makeLayer_3_3 148 (.sipush 128) 3 151 := ⟨by decide +kernel, rfl⟩
theorem zd_3_3_151 : zz_D zy_makeLayer_3_3 151 (.aload_n 0) 1 152 := ⟨by decide +kernel, rfl⟩
theorem zd_3_3_152 : zz_D zy_makeLayer_3_3 152 (.getfield 21) 3 155 := ⟨by decide +kernel, rfl⟩
theorem zd_3_3_155 : zz_D zy_makeLayer_3_3 155 (.idiv) 1 156 := ⟨by decide +kernel, rfl⟩
theorem zd_3_3_156 : zz_D zy_makeLayer_3_3 156 (.bipush 63) 2 158 := ⟨by decide +kernel, rfl⟩
theorem zd_3_3_158 : zz_D zy_makeLayer_3_3 158 (.invokestatic 24) 3 161 := ⟨by decide +kernel, rfl⟩
theorem zd_3_3_161 : zz_D zy_makeLayer_3_3 161 (.istore 6) 2 163 := ⟨by decide +kernel, rfl⟩
theorem zd_3_3_163 : zz_D zy_makeLayer_3_3 163 (.aload_n 0) 1 164 := ⟨by decide +kernel, rfl⟩
theorem zd_3_3_164 : zz_D zy_makeLayer_3_3 164 (.iconst 0) 1 165 := ⟨by decide +kernel, rfl⟩
theorem zd_3_3_165 : zz_D zy_makeLayer_3_3 165 (.putfield 70) 3 168 := ⟨by decide +kernel, rfl⟩
theorem zf_Compiler_70 : mm_Fl "TensorForge$Compiler" 70 9 6 .int false := ⟨R_Compiler, F_Compiler, 17, t_Compiler, rfl, i_Compiler, by decide, mm_tb_1 381 (by decide +kernel) rfl, rfl, t_Compiler_ok, n_Compiler, rfl, by decide +kernel⟩
theorem zd_3_3_168 : zz_D zy_makeLayer_3_3 168 (.aload_n 0) 1 169 := ⟨by decide +kernel, rfl⟩
theorem zd_3_3_169 : zz_D zy_makeLayer_3_3 169 (.iconst 0) 1 170 := ⟨by decide +kernel, rfl⟩
theorem zd_3_3_170 : zz_D zy_makeLayer_3_3 170 (.putfield 73) 3 173 := ⟨by decide +kernel, rfl⟩
theorem zf_Compiler_73 : mm_Fl "TensorForge$Compiler" 73 9 12 .int false := ⟨R_Compiler, F_Compiler, 17, t_Compiler, rfl, i_Compiler, by decide, mm_tb_1 387 (by decide +kernel) rfl, rfl, t_Compiler_ok, n_Compiler, rfl, by decide +kernel⟩
theorem zd_3_3_173 : zz_D zy_makeLayer_3_3 173 (.aload_n 0) 1 174 := ⟨by decide +kernel, rfl⟩
theorem zd_3_3_174 : zz_D zy_makeLayer_3_3 174 (.iconst 0) 1 175 := ⟨by decide +kernel, rfl⟩
theorem zd_3_3_175 : zz_D zy_makeLayer_3_3 175 (.putfield 76) 3 178 := ⟨by decide +kernel, rfl⟩
theorem zf_Compiler_76 : mm_Fl "TensorForge$Compiler" 76 9 7 .int false := ⟨R_Compiler, F_Compiler, 17, t_Compiler, rfl, i_Compiler, by decide, mm_tb_1 382 (by decide +kernel) rfl, rfl, t_Compiler_ok, n_Compiler, rfl, by decide +kernel⟩
theorem zd_3_3_94 : zz_D zy_makeLayer_3_3 94 (.iconst 1) 1 95 := ⟨by decide +kernel, rfl⟩
theorem zd_3_3_95 : zz_B zy_makeLayer_3_3 95 Instr.goto 99 98 := ⟨4, by decide +kernel, rfl, rfl⟩
theorem zd_3_3_104 : zz_D zy_makeLayer_3_3 104 (.iconst 1) 1 105 := ⟨by decide +kernel, rfl⟩
theorem zd_3_3_105 : zz_B zy_makeLayer_3_3 105 Instr.goto 115 108 := ⟨10, by decide +kernel, rfl, rfl⟩
theorem zd_3_3_121 : zz_D zy_makeLayer_3_3 121 (.aload_n 0) 1 122 := ⟨by decide +kernel, rfl⟩
theorem zd_3_3_122 : zz_D zy_makeLayer_3_3 122 (.getfield 51) 3 125 := ⟨by decide +kernel, rfl⟩
theorem zd_3_3_125 : zz_D zy_makeLayer_3_3 125 (.getfield 64) 3 128 := ⟨by decide +kernel, rfl⟩
theorem zd_3_3_128 : zz_D zy_makeLayer_3_3 128 (.aload_n 0) 1 129 := ⟨by decide +kernel, rfl⟩
theorem zd_3_3_129 : zz_D zy_makeLayer_3_3 129 (.getfield 51) 3 132 := ⟨by decide +kernel, rfl⟩
theorem zd_3_3_132 : zz_D zy_makeLayer_3_3 132 (.getfield 67) 3 135 := ⟨by decide +kernel, rfl⟩
theorem zd_3_3_135 : zz_D zy_makeLayer_3_3 135 (.imul) 1 136 := ⟨by decide +kernel, rfl⟩
theorem zd_3_3_136 : zz_B zy_makeLayer_3_3 136 Instr.goto 146 139 := ⟨10, by decide +kernel, rfl, rfl⟩
theorem zd_3_3_178 : zz_D zy_makeLayer_3_3 178 (.aload_n 0) 1 179 := ⟨by decide +kernel, rfl⟩
theorem zd_3_3_179 : zz_D zy_makeLayer_3_3 179 (.getfield 76) 3 182 := ⟨by decide +kernel, rfl⟩
theorem zd_3_3_182 : zz_D zy_makeLayer_3_3 182 (.aload_n 0) 1 183 := ⟨by decide +kernel, rfl⟩
theorem zd_3_3_183 : zz_D zy_makeLayer_3_3 183 (.getfield 51) 3 186 := ⟨by decide +kernel, rfl⟩
theorem zd_3_3_186 : zz_D zy_makeLayer_3_3 186 (.getfield 79) 3 189 := ⟨by decide +kernel, rfl⟩
theorem zf_Compiler_79 : mm_Fl "TensorForge$Compiler" 79 2 12 .int false := ⟨R_Layer, F_Layer, 15, t_Layer, rfl, i_Layer, by decide, mm_tb_1 103 (by decide +kernel) rfl, rfl, t_Layer_ok, n_Layer, rfl, by decide +kernel⟩
theorem zd_3_3_189 : zz_B zy_makeLayer_3_3 189 (Instr.if_icmp .ge) 317 192 := ⟨128, by decide +kernel, rfl, rfl⟩
theorem zd_3_3_317 : zz_D zy_makeLayer_3_3 317 (.aload_n 0) 1 318 := ⟨by decide +kernel, rfl⟩
theorem zd_3_3_318 : zz_D zy_makeLayer_3_3 318 (.invokevirtual 97) 3 321 := ⟨by decide +kernel, rfl⟩
abbrev zy_makeWaits_3_12 : mm_Y := (⟨"TensorForge$Compiler", "makeWaits", "()V"⟩, prog_3_method_12_code, 5, none)
theorem zyw_makeWaits_3_12 : mm_Yw zy_makeWaits_3_12 0 := ⟨mm_tb_1 1479 (by decide +kernel) rfl, mm_tb_1 10 (by decide +kernel) rfl, ⟨by decide, by decide⟩, by decide +kernel⟩
theorem zd_3_12_0 : zz_D zy_makeWaits_3_12 0 (.iconst 0) 1 1 := ⟨by decide +kernel, rfl⟩
theorem zd_3_12_1 : zz_D zy_makeWaits_3_12 1 (.bipush 9) 2 3 := ⟨by decide +kernel, rfl⟩
theorem zd_3_12_3 : zz_D zy_makeWaits_3_12 3 (.invokestatic 132) 3 6 := ⟨by decide +kernel, rfl⟩
theorem zk_Compiler_132 : mm_Sl "TensorForge$Compiler" 132 2 zy_bits_12_4 := ⟨zyw_bits_12_4, mm_tb_1 1435 (by decide +kernel) rfl, mm_tb_1 647 (by decide +kernel) rfl⟩
theorem zd_3_12_6 : zz_D zy_makeWaits_3_12 6 (.iconst 2) 1 7 := ⟨by decide +kernel, rfl⟩
theorem zd_3_12_7 : zz_D zy_makeWaits_3_12 7 (.invokestatic 139) 3 10 := ⟨by decide +kernel, rfl⟩
abbrev zy_flag_12_5 : mm_Y := (⟨"TensorForge$Words", "flag", "(I)J"⟩, prog_12_method_5_code, 1, (some .long))
theorem zyw_flag_12_5 : mm_Yw zy_flag_12_5 1 := ⟨mm_tb_1 1469 (by decide +kernel) rfl, mm_tb_1 20 (by decide +kernel) rfl, ⟨by decide, by decide⟩, by decide +kernel⟩
theorem zd_12_5_0 : zz_D zy_flag_12_5 0 (.iload_n 0) 1 1 := ⟨by decide +kernel, rfl⟩
theorem zd_12_5_1 : zz_D zy_flag_12_5 1 (.iconst 1) 1 2 := ⟨by decide +kernel, rfl⟩
theorem zd_12_5_2 : zz_D zy_flag_12_5 2 (.invokestatic 20) 3 5 := ⟨by decide +kernel, rfl⟩
theorem zk_Words_20 : mm_Sl "TensorForge$Words" 20 2 zy_bits_12_4 := ⟨zyw_bits_12_4, mm_tb_1 1470 (by decide +kernel) rfl, mm_tb_1 647 (by decide +kernel) rfl⟩
theorem zd_12_5_5 : zz_D zy_flag_12_5 5 (.lreturn) 1 6 := ⟨by decide +kernel, rfl⟩
-- TensorForge$Words flag (I)J
abbrev zr_flag_12_5 : Room := { frames := 1, cells := 0, slots := 0, locals := 13 }
def zp_flag_12_5 (p0 : Int) (S0 : zz_S) : Int → zz_S → Prop := fun r S => S0 = S ∧ ((-9223372036854775808) ≤ r ∧ r ≤ 9223372036854775807)
theorem zc_flag_12_5 {g : mm_G} {l : Launch} (p0 : Int) (S0 : zz_S) (n : Nat) (hn : zz_end ≤ n) (G_S0 : zz_G S0) (hp0 : (-2147483648) ≤ p0 ∧ p0 ≤ 2147483647) : mm_Met g l zy_flag_12_5 zr_flag_12_5 [zi p0] (zz_M S0 n) n (zz_QJ n (zp_flag_12_5 p0 S0)) := by
  refine zz_enter (by decide) (Nat.le_of_ble_eq_true rfl) (zz_less (ls1 := [some (zi p0)]) ⟨rfl, trivial⟩ ?_)
  refine zz_iload_n (x := p0) rfl zd_12_5_0 ?_
  refine zz_iconst zd_12_5_1 ?_
  refine zz_callSJ [zi p0, zi 1] zd_12_5_2 zk_Words_20 rfl rfl ⟨Nat.le_of_ble_eq_true rfl, Nat.le_of_ble_eq_true rfl⟩ ⟨rfl, rfl⟩ (Nat.zero_le _) (Nat.zero_le _) (zc_bits_12_4 p0 1 S0 n hn G_S0 (by omega) (by omega)) (fun v2 S1 hP => ?_)
  obtain ⟨rfl, o3⟩ := hP
  exact zz_lret zd_12_5_5 rfl (Nat.zero_le _) (Nat.zero_le _) ⟨_, _, rfl, rfl, by omega⟩
theorem zk_Compiler_139 : mm_Sl "TensorForge$Compiler" 139 1 zy_flag_12_5 := ⟨zyw_flag_12_5, mm_tb_1 1467 (by decide +kernel) rfl, mm_tb_1 1468 (by decide +kernel) rfl⟩
theorem zd_3_12_10 : zz_D zy_makeWaits_3_12 10 (.lor) 1 11 := ⟨by decide +kernel, rfl⟩
theorem zd_3_12_11 : zz_D zy_makeWaits_3_12 11 (.lstore_n 1) 1 12 := ⟨by decide +kernel, rfl⟩
theorem zd_3_12_12 : zz_D zy_makeWaits_3_12 12 (.aload_n 0) 1 13 := ⟨by decide +kernel, rfl⟩
theorem zd_3_12_13 : zz_D zy_makeWaits_3_12 13 (.getfield 70) 3 16 := ⟨by decide +kernel, rfl⟩
theorem zd_3_12_16 : zz_D zy_makeWaits_3_12 16 (.iconst 1) 1 17 := ⟨by decide +kernel, rfl⟩
theorem zd_3_12_17 : zz_B zy_makeWaits_3_12 17 (Instr.if_icmp .le) 32 20 := ⟨15, by decide +kernel, rfl, rfl⟩
theorem zd_3_12_32 : zz_D zy_makeWaits_3_12 32 (.aload_n 0) 1 33 := ⟨by decide +kernel, rfl⟩
theorem zd_3_12_33 : zz_D zy_makeWaits_3_12 33 (.lload_n 1) 1 34 := ⟨by decide +kernel, rfl⟩
theorem zd_3_12_34 : zz_D zy_makeWaits_3_12 34 (.bipush 11) 2 36 := ⟨by decide +kernel, rfl⟩
theorem zd_3_12_36 : zz_D zy_makeWaits_3_12 36 (.iconst 1) 1 37 := ⟨by decide +kernel, rfl⟩
theorem zd_3_12_37 : zz_D zy_makeWaits_3_12 37 (.invokestatic 132) 3 40 := ⟨by decide +kernel, rfl⟩
theorem zd_3_12_40 : zz_D zy_makeWaits_3_12 40 (.lor) 1 41 := ⟨by decide +kernel, rfl⟩
theorem zd_3_12_41 : zz_D zy_makeWaits_3_12 41 (.iconst 3) 1 42 := ⟨by decide +kernel, rfl⟩
theorem zd_3_12_42 : zz_D zy_makeWaits_3_12 42 (.invokestatic 139) 3 45 := ⟨by decide +kernel, rfl⟩
theorem zd_3_12_45 : zz_D zy_makeWaits_3_12 45 (.lor) 1 46 := ⟨by decide +kernel, rfl⟩
theorem zd_3_12_46 : zz_D zy_makeWaits_3_12 46 (.invokevirtual 143) 3 49 := ⟨by decide +kernel, rfl⟩
abbrev zy_emit_3_15 : mm_Y := (⟨"TensorForge$Compiler", "emit", "(J)V"⟩, prog_3_method_15_code, 3, none)
theorem zyw_emit_3_15 : mm_Yw zy_emit_3_15 1 := ⟨mm_tb_1 1440 (by decide +kernel) rfl, mm_tb_1 10 (by decide +kernel) rfl, ⟨by decide, by decide⟩, by decide +kernel⟩
theorem zd_3_15_0 : zz_D zy_emit_3_15 0 (.aload_n 0) 1 1 := ⟨by decide +kernel, rfl⟩
theorem zd_3_15_1 : zz_D zy_emit_3_15 1 (.getfield 15) 3 4 := ⟨by decide +kernel, rfl⟩
theorem zd_3_15_4 : zz_D zy_emit_3_15 4 (.sipush 600) 3 7 := ⟨by decide +kernel, rfl⟩
theorem zd_3_15_7 : zz_B zy_emit_3_15 7 (Instr.if_icmp .ge) 32 10 := ⟨25, by decide +kernel, rfl, rfl⟩
theorem zd_3_15_32 : zz_D zy_emit_3_15 32 (.aload_n 0) 1 33 := ⟨by decide +kernel, rfl⟩
theorem zd_3_15_33 : zz_D zy_emit_3_15 33 (.dup) 1 34 := ⟨by decide +kernel, rfl⟩
theorem zd_3_15_34 : zz_D zy_emit_3_15 34 (.getfield 15) 3 37 := ⟨by decide +kernel, rfl⟩
theorem zd_3_15_37 : zz_D zy_emit_3_15 37 (.iconst 1) 1 38 := ⟨by decide +kernel, rfl⟩
theorem zd_3_15_38 : zz_D zy_emit_3_15 38 (.iadd) 1 39 := ⟨by decide +kernel, rfl⟩
theorem zd_3_15_39 : zz_D zy_emit_3_15 39 (.putfield 15) 3 42 := ⟨by decide +kernel, rfl⟩
theorem zd_3_15_42 : zz_D zy_emit_3_15 42 (.return_) 1 43 := ⟨by decide +kernel, rfl⟩
theorem zd_3_15_10 : zz_D zy_emit_3_15 10 (.aload_n 0) 1 11 := ⟨by decide +kernel, rfl⟩
theorem zd_3_15_11 : zz_D zy_emit_3_15 11 (.getfield 15) 3 14 := ⟨by decide +kernel, rfl⟩
theorem zd_3_15_14 : zz_D zy_emit_3_15 14 (.aload_n 0) 1 15 := ⟨by decide +kernel, rfl⟩
theorem zd_3_15_15 : zz_D zy_emit_3_15 15 (.getfield 9) 3 18 := ⟨by decide +kernel, rfl⟩
theorem zd_3_15_18 : zz_D zy_emit_3_15 18 (.arraylength) 1 19 := ⟨by decide +kernel, rfl⟩
theorem zd_3_15_19 : zz_B zy_emit_3_15 19 (Instr.if_icmp .ge) 32 22 := ⟨13, by decide +kernel, rfl, rfl⟩
theorem zd_3_15_22 : zz_D zy_emit_3_15 22 (.aload_n 0) 1 23 := ⟨by decide +kernel, rfl⟩
theorem zd_3_15_23 : zz_D zy_emit_3_15 23 (.getfield 9) 3 26 := ⟨by decide +kernel, rfl⟩
theorem zd_3_15_26 : zz_D zy_emit_3_15 26 (.aload_n 0) 1 27 := ⟨by decide +kernel, rfl⟩
theorem zd_3_15_27 : zz_D zy_emit_3_15 27 (.getfield 15) 3 30 := ⟨by decide +kernel, rfl⟩
theorem zd_3_15_30 : zz_D zy_emit_3_15 30 (.lload_n 1) 1 31 := ⟨by decide +kernel, rfl⟩
theorem zd_3_15_31 : zz_D zy_emit_3_15 31 (.lastore) 1 32 := ⟨by decide +kernel, rfl⟩
-- TensorForge$Compiler emit (J)V
abbrev zr_emit_3_15 : Room := { frames := 0, cells := 0, slots := 0, locals := 0 }
def zp_emit_3_15 (p0 : Int) (S0 : zz_S) : zz_S → Prop := fun S => zz_G S ∧ zz_fr [(1076, 1)] [] (fun a i => a = zz_rf 4 (S0 1076 0)) S0 S ∧ (S 1076 1 = S0 1076 1 + 1)
theorem zc_emit_3_15 {g : mm_G} {l : Launch} (p0 : Int) (S0 : zz_S) (n : Nat) (hn : zz_end ≤ n) (G_S0 : zz_G S0) (hp0 : (-9223372036854775808) ≤ p0 ∧ p0 ≤ 9223372036854775807) (hq : S0 1076 1 ≤ 990000) : mm_Met g l zy_emit_3_15 zr_emit_3_15 [.ref 1076, zl p0] (zz_M S0 n) n (zz_QV n (zp_emit_3_15 p0 S0)) := by
  refine zz_enter (by decide) (Nat.le_of_ble_eq_true rfl) (zz_less (ls1 := [some (.ref 1076), some (zl p0), none]) ⟨rfl, ⟨rfl, trivial⟩⟩ ?_)
  have F_S0 : zz_fr [(1076, 1)] [] (fun a i => a = zz_rf 4 (S0 1076 0)) S0 S0 := zz_fr.refl
  refine zz_aload_n (x := 1076) rfl zd_3_15_0 ?_
  have g1 := zz_G.r G_S0 1076 1 0 1000000 rfl rfl
  refine zz_geti (z := S0 1076 1) zd_3_15_1 zf_Compiler_15 zT_1076 rfl (zz_ltn hn rfl) rfl ?_
  refine zz_sipush (by decide) zd_3_15_4 ?_
  refine zz_icmp_ge (by omega) (by omega) zd_3_15_7 (fun c2 => ?_) (fun c2 => ?_)
  · refine zz_aload_n (x := 1076) rfl zd_3_15_32 ?_
    refine zz_dup rfl zd_3_15_33 ?_
    refine zz_geti (z := S0 1076 1) zd_3_15_34 zf_Compiler_15 zT_1076 rfl (zz_ltn hn rfl) rfl ?_
    refine zz_iconst zd_3_15_37 ?_
    refine zz_iadd zd_3_15_38 ?_
    refine zz_puti zd_3_15_39 zf_Compiler_15 zT_1076 rfl (zz_ltn hn rfl) (fun S3 qS3 => ?_)
    have G_S3 := zz_G.put G_S0 qS3 0 1000000 rfl (by omega)
    have F_S3 := zz_fr.puts F_S0 qS3 rfl
    have e4 : S3 1076 1 = (S0 1076 1) + 1 := (zz_rs qS3)
    exact zz_vret zd_3_15_42 rfl (Nat.zero_le _) (Nat.zero_le _) ⟨_, rfl, G_S3, F_S3, by omega⟩
  · refine zz_aload_n (x := 1076) rfl zd_3_15_10 ?_
    refine zz_geti (z := S0 1076 1) zd_3_15_11 zf_Compiler_15 zT_1076 rfl (zz_ltn hn rfl) rfl ?_
    refine zz_aload_n (x := 1076) rfl zd_3_15_14 ?_
    have g5 := zz_G.r G_S0 1076 0 0 1 rfl rfl
    refine zz_getr (kd := 2) (z := S0 1076 0) zd_3_15_15 zf_Compiler_9 zT_1076 rfl (zz_ltn hn rfl) rfl (by omega) (zz_rf 4 (S0 1076 0)) rfl ?_
    refine zz_alen zd_3_15_18 (zT_k4 (by omega)) rfl (zN_k4 hn (by omega)) ?_
    refine zz_icmp_ge (by omega) (by omega) zd_3_15_19 (fun c6 => ?_) (fun c6 => ?_)
    · exfalso; omega
    · refine zz_aload_n (x := 1076) rfl zd_3_15_22 ?_
      refine zz_getr (kd := 2) (z := S0 1076 0) zd_3_15_23 zf_Compiler_9 zT_1076 rfl (zz_ltn hn rfl) rfl (by omega) (zz_rf 4 (S0 1076 0)) rfl ?_
      refine zz_aload_n (x := 1076) rfl zd_3_15_26 ?_
      refine zz_geti (z := S0 1076 1) zd_3_15_27 zf_Compiler_15 zT_1076 rfl (zz_ltn hn rfl) rfl ?_
      refine zz_lload_n (x := p0) rfl zd_3_15_30 ?_
      refine zz_last zd_3_15_31 (zT_k4 (by omega)) rfl (zN_k4 hn (by omega)) (by decide) (by omega) (fun S7 qS7 => ?_)
      have G_S7 := zz_G.put G_S0 qS7 (-9223372036854775808) 9223372036854775807 (zR_k4 (by omega)) (by omega)
      have F_S7 := zz_fr.putv F_S0 qS7 (rfl)
      refine zz_aload_n (x := 1076) rfl zd_3_15_32 ?_
      refine zz_dup rfl zd_3_15_33 ?_
      refine zz_geti (z := S0 1076 1) zd_3_15_34 zf_Compiler_15 zT_1076 rfl (zz_ltn hn rfl) (zz_ro qS7 (fun h => absurd h.1 (by have := zz_rf4 (z := S0 1076 0) (by omega); omega)) rfl) ?_
      refine zz_iconst zd_3_15_37 ?_
      refine zz_iadd zd_3_15_38 ?_
      refine zz_puti zd_3_15_39 zf_Compiler_15 zT_1076 rfl (zz_ltn hn rfl) (fun S8 qS8 => ?_)
      have G_S8 := zz_G.put G_S7 qS8 0 1000000 rfl (by omega)
      have F_S8 := zz_fr.puts F_S7 qS8 rfl
      have e9 : S8 1076 1 = (S0 1076 1) + 1 := (zz_rs qS8)
      exact zz_vret zd_3_15_42 rfl (Nat.zero_le _) (Nat.zero_le _) ⟨_, rfl, G_S8, F_S8, by omega⟩
theorem zk_Compiler_143 : mm_Vl "TensorForge$Compiler" 143 9 1 zy_emit_3_15 := ⟨zyw_emit_3_15, (R_Compiler, F_Compiler, 17), rfl, mm_tb_1 1437 (by decide +kernel) rfl, mm_tb_1 1439 (by decide +kernel) rfl, mm_tb_s 67 (by decide +kernel) rfl⟩
theorem zd_3_12_49 : zz_D zy_makeWaits_3_12 49 (.aload_n 0) 1 50 := ⟨by decide +kernel, rfl⟩
theorem zd_3_12_50 : zz_D zy_makeWaits_3_12 50 (.getfield 73) 3 53 := ⟨by decide +kernel, rfl⟩
theorem zd_3_12_53 : zz_D zy_makeWaits_3_12 53 (.iconst 1) 1 54 := ⟨by decide +kernel, rfl⟩
theorem zd_3_12_54 : zz_B zy_makeWaits_3_12 54 (Instr.if_icmp .le) 61 57 := ⟨7, by decide +kernel, rfl, rfl⟩
theorem zd_3_12_61 : zz_D zy_makeWaits_3_12 61 (.iconst 2) 1 62 := ⟨by decide +kernel, rfl⟩
theorem zd_3_12_62 : zz_D zy_makeWaits_3_12 62 (.istore_n 3) 1 63 := ⟨by decide +kernel, rfl⟩
theorem zd_3_12_63 : zz_D zy_makeWaits_3_12 63 (.iconst 0) 1 64 := ⟨by decide +kernel, rfl⟩
theorem zd_3_12_64 : zz_D zy_makeWaits_3_12 64 (.istore 4) 2 66 := ⟨by decide +kernel, rfl⟩
theorem zd_3_12_57 : zz_D zy_makeWaits_3_12 57 (.iconst 3) 1 58 := ⟨by decide +kernel, rfl⟩
theorem zd_3_12_58 : zz_B zy_makeWaits_3_12 58 Instr.goto 62 61 := ⟨4, by decide +kernel, rfl, rfl⟩
theorem zd_3_12_20 : zz_D zy_makeWaits_3_12 20 (.aload_n 0) 1 21 := ⟨by decide +kernel, rfl⟩
theorem zd_3_12_21 : zz_D zy_makeWaits_3_12 21 (.lload_n 1) 1 22 := ⟨by decide +kernel, rfl⟩
theorem zd_3_12_22 : zz_D zy_makeWaits_3_12 22 (.bipush 11) 2 24 := ⟨by decide +kernel, rfl⟩
theorem zd_3_12_24 : zz_D zy_makeWaits_3_12 24 (.iconst 1) 1 25 := ⟨by decide +kernel, rfl⟩
theorem zd_3_12_25 : zz_D zy_makeWaits_3_12 25 (.invokestatic 132) 3 28 := ⟨by decide +kernel, rfl⟩
theorem zd_3_12_28 : zz_D zy_makeWaits_3_12 28 (.lor) 1 29 := ⟨by decide +kernel, rfl⟩
theorem zd_3_12_29 : zz_D zy_makeWaits_3_12 29 (.invokevirtual 143) 3 32 := ⟨by decide +kernel, rfl⟩
theorem zd_3_12_66 : zz_D zy_makeWaits_3_12 66 (.iload 4) 2 68 := ⟨by decide +kernel, rfl⟩
theorem zd_3_12_68 : zz_D zy_makeWaits_3_12 68 (.iload_n 3) 1 69 := ⟨by decide +kernel, rfl⟩
theorem zd_3_12_69 : zz_B zy_makeWaits_3_12 69 (Instr.if_icmp .ge) 83 72 := ⟨14, by decide +kernel, rfl, rfl⟩
theorem zd_3_12_72 : zz_D zy_makeWaits_3_12 72 (.aload_n 0) 1 73 := ⟨by decide +kernel, rfl⟩
theorem zd_3_12_73 : zz_D zy_makeWaits_3_12 73 (.lload_n 1) 1 74 := ⟨by decide +kernel, rfl⟩
theorem zd_3_12_74 : zz_D zy_makeWaits_3_12 74 (.invokevirtual 143) 3 77 := ⟨by decide +kernel, rfl⟩
theorem zd_3_12_77 : zz_D zy_makeWaits_3_12 77 (.iinc 4 1) 3 80 := ⟨by decide +kernel, rfl⟩
theorem zd_3_12_80 : zz_B zy_makeWaits_3_12 80 Instr.goto 66 83 := ⟨(-14), by decide +kernel, rfl, rfl⟩
theorem zd_3_12_83 : zz_D zy_makeWaits_3_12 83 (.return_) 1 84 := ⟨by decide +kernel, rfl⟩
-- TensorForge$Compiler makeWaits ()V
abbrev zr_makeWaits_3_12 : Room := { frames := 2, cells := 0, slots := 0, locals := 28 }
def zp_makeWaits_3_12  (S0 : zz_S) : zz_S → Prop := fun S => zz_G S ∧ zz_fr [(1076, 1)] [1029, 1030] (fun a i => a = zz_rf 4 (S0 1076 0)) S0 S ∧ (S0 1076 1 ≤ S 1076 1 ∧ S 1076 1 ≤ S0 1076 1 + 5)
theorem zb_makeWaits_3_12_66 {g : mm_G} {l : Launch}  (S0 : zz_S) (n : Nat) (hn : zz_end ≤ n) (G_S0 : zz_G S0) (hq : S0 1076 1 ≤ 900000) (x1 : Int) (x3 : Int) (x4 : Int) (S : zz_S) (G_S : zz_G S) (F_S : zz_fr [(1076, 1)] [1029, 1030] (fun a i => a = zz_rf 4 (S0 1076 0)) S0 S) (i66_0 : (-9223372036854775808) ≤ x1 ∧ x1 ≤ 9223372036854775807) (i66_1 : 2 ≤ x3 ∧ x3 ≤ 3) (i66_2 : 0 ≤ x4 ∧ x4 ≤ 3) (R : Nat) (hR : (x3 - x4).toNat = R) (k66 : ∀ (x1 : Int) (x3 : Int) (x4 : Int) (S : zz_S), zz_G S → zz_fr [(1076, 1)] [1029, 1030] (fun a i => a = zz_rf 4 (S0 1076 0)) S0 S → ((-9223372036854775808) ≤ x1 ∧ x1 ≤ 9223372036854775807) → (2 ≤ x3 ∧ x3 ≤ 3) → (0 ≤ x4 ∧ x4 ≤ 3) → (x3 - x4).toNat < R → zz_E g l zy_makeWaits_3_12 zr_makeWaits_3_12 (zz_QV n (zp_makeWaits_3_12  S0)) S n 66 [some (.ref 1076), some (zl x1), none, some (zi x3), some (zi x4)] [] 0 0) : zz_E g l zy_makeWaits_3_12 zr_makeWaits_3_12 (zz_QV n (zp_makeWaits_3_12  S0)) S n 66 [some (.ref 1076), some (zl x1), none, some (zi x3), some (zi x4)] [] 0 0 := by
  refine zz_iload (x := x4) rfl zd_3_12_66 ?_
  refine zz_iload_n (x := x3) rfl zd_3_12_68 ?_
  refine zz_icmp_ge (by omega) (by omega) zd_3_12_69 (fun c52 => ?_) (fun c52 => ?_)
  · have g53 := zz_G.r G_S 1076 1 0 1000000 rfl rfl
    exact zz_vret zd_3_12_83 rfl (Nat.zero_le _) (Nat.zero_le _) ⟨_, rfl, G_S, F_S, by omega⟩
  · refine zz_aload_n (x := 1076) rfl zd_3_12_72 ?_
    refine zz_lload_n (x := x1) rfl zd_3_12_73 ?_
    have g54 := zz_G.r G_S 1076 1 0 1000000 rfl rfl
    refine zz_callVV [zl x1] zd_3_12_74 zk_Compiler_143 zT_1076 (zz_ltn hn rfl) rfl rfl ⟨Nat.le_of_ble_eq_true rfl, Nat.le_of_ble_eq_true rfl⟩ ⟨rfl, rfl⟩ (Nat.zero_le _) (Nat.zero_le _) (zc_emit_3_15 x1 S n hn G_S (by omega) (by omega)) (fun S55 hP => ?_)
    obtain ⟨G_S55, fS55, o57⟩ := hP
    have g58 := zz_G.r G_S 1076 0 0 1 rfl rfl
    have F_S55 := zz_fr.trans F_S fS55 rfl (fun a i h => Or.inr (Or.inl (h ▸ zM_k4 (z := (S 1076 0)) (by omega) rfl)))
    have b59 := zz_rf4 (z := (S 1076 0)) (by omega)
    refine zz_iinc [some (.ref 1076), some (zl x1), none, some (zi x3), some (zi (x4 + 1))] zd_3_12_77 rfl rfl ?_
    refine zz_goto zd_3_12_80 ?_
    refine zz_less (ls1 := [some (.ref 1076), some (zl x1), none, some (zi x3), some (zi (x4 + 1))]) ⟨rfl, ⟨rfl, ⟨rfl, ⟨rfl, trivial⟩⟩⟩⟩ ?_
    exact k66 x1 x3 (x4 + 1) S55 G_S55 F_S55 (by omega) (by omega) (by omega) (by omega)
theorem zi_makeWaits_3_12 {g : mm_G} {l : Launch}  (S0 : zz_S) (n : Nat) (hn : zz_end ≤ n) (G_S0 : zz_G S0) (hq : S0 1076 1 ≤ 900000) : ∀ N : Nat, (∀ (x1 : Int) (x3 : Int) (x4 : Int) (S : zz_S), zz_G S → zz_fr [(1076, 1)] [1029, 1030] (fun a i => a = zz_rf 4 (S0 1076 0)) S0 S → ((-9223372036854775808) ≤ x1 ∧ x1 ≤ 9223372036854775807) → (2 ≤ x3 ∧ x3 ≤ 3) → (0 ≤ x4 ∧ x4 ≤ 3) → (x3 - x4).toNat < N → zz_E g l zy_makeWaits_3_12 zr_makeWaits_3_12 (zz_QV n (zp_makeWaits_3_12  S0)) S n 66 [some (.ref 1076), some (zl x1), none, some (zi x3), some (zi x4)] [] 0 0) := by
  intro N
  induction N with
  | zero => exact fun x1 x3 x4 S _ _ _ _ _ h => absurd h (Nat.not_lt_zero _)
  | succ N ih =>
    exact fun x1 x3 x4 S a b j0 j1 j2 hR => zb_makeWaits_3_12_66  S0 n hn G_S0 hq x1 x3 x4 S a b j0 j1 j2 _ rfl (fun x1 x3 x4 S a b j0 j1 j2 h => ih x1 x3 x4 S a b j0 j1 j2 (Nat.lt_of_lt_of_le h (Nat.le_of_lt_succ hR)))
theorem zc_makeWaits_3_12 {g : mm_G} {l : Launch}  (S0 : zz_S) (n : Nat) (hn : zz_end ≤ n) (G_S0 : zz_G S0) (hq : S0 1076 1 ≤ 900000) : mm_Met g l zy_makeWaits_3_12 zr_makeWaits_3_12 [.ref 1076] (zz_M S0 n) n (zz_QV n (zp_makeWaits_3_12  S0)) := by
  refine zz_enter (by decide) (Nat.le_of_ble_eq_true rfl) (zz_less (ls1 := [some (.ref 1076)]) ⟨rfl, trivial⟩ ?_)
  have F_S0 : zz_fr [(1076, 1)] [1029, 1030] (fun a i => a = zz_rf 4 (S0 1076 0)) S0 S0 := zz_fr.refl
  have k66 : ∀ (x1 : Int) (x3 : Int) (x4 : Int) (S : zz_S), zz_G S → zz_fr [(1076, 1)] [1029, 1030] (fun a i => a = zz_rf 4 (S0 1076 0)) S0 S → ((-9223372036854775808) ≤ x1 ∧ x1 ≤ 9223372036854775807) → (2 ≤ x3 ∧ x3 ≤ 3) → (0 ≤ x4 ∧ x4 ≤ 3) → zz_E g l zy_makeWaits_3_12 zr_makeWaits_3_12 (zz_QV n (zp_makeWaits_3_12  S0)) S n 66 [some (.ref 1076), some (zl x1), none, some (zi x3), some (zi x4)] [] 0 0 := fun x1 x3 x4 S a b j0 j1 j2 => (zi_makeWaits_3_12 (g := g) (l := l)  S0 n hn G_S0 hq _) x1 x3 x4 S a b j0 j1 j2 (Nat.lt_succ_self _)
  refine zz_iconst zd_3_12_0 ?_
  refine zz_bipush (by decide) zd_3_12_1 ?_
  refine zz_callSJ [zi 0, zi 9] zd_3_12_3 zk_Compiler_132 rfl rfl ⟨Nat.le_of_ble_eq_true rfl, Nat.le_of_ble_eq_true rfl⟩ ⟨rfl, rfl⟩ (Nat.zero_le _) (Nat.zero_le _) (zc_bits_12_4 0 9 S0 n hn G_S0 (by omega) (by omega)) (fun v2 S1 hP => ?_)
  obtain ⟨rfl, o3⟩ := hP
  refine zz_iconst zd_3_12_6 ?_
  refine zz_callSJ [zi 2] zd_3_12_7 zk_Compiler_139 rfl rfl ⟨Nat.le_of_ble_eq_true rfl, Nat.le_of_ble_eq_true rfl⟩ ⟨rfl, rfl⟩ (Nat.zero_le _) (Nat.zero_le _) (zc_flag_12_5 2 S0 n hn G_S0 (by omega)) (fun v5 S4 hP => ?_)
  obtain ⟨rfl, o6⟩ := hP
  refine zz_lor zd_3_12_10 (fun v7 hv7 ev7 => ?_)
  refine zz_lstore_n [some (.ref 1076), some (zl v7), none] zd_3_12_11 (by decide) rfl ?_
  refine zz_aload_n (x := 1076) rfl zd_3_12_12 ?_
  have g8 := zz_G.r G_S0 1076 6 (-2147483648) 2147483647 rfl rfl
  refine zz_geti (z := S0 1076 6) zd_3_12_13 zf_Compiler_70 zT_1076 rfl (zz_ltn hn rfl) rfl ?_
  refine zz_iconst zd_3_12_16 ?_
  refine zz_icmp_le (by omega) (by omega) zd_3_12_17 (fun c9 => ?_) (fun c9 => ?_)
  · refine zz_aload_n (x := 1076) rfl zd_3_12_32 ?_
    refine zz_lload_n (x := v7) rfl zd_3_12_33 ?_
    refine zz_bipush (by decide) zd_3_12_34 ?_
    refine zz_iconst zd_3_12_36 ?_
    refine zz_callSJ [zi 11, zi 1] zd_3_12_37 zk_Compiler_132 rfl rfl ⟨Nat.le_of_ble_eq_true rfl, Nat.le_of_ble_eq_true rfl⟩ ⟨rfl, rfl⟩ (Nat.zero_le _) (Nat.zero_le _) (zc_bits_12_4 11 1 S0 n hn G_S0 (by omega) (by omega)) (fun v11 S10 hP => ?_)
    obtain ⟨rfl, o12⟩ := hP
    refine zz_lor zd_3_12_40 (fun v13 hv13 ev13 => ?_)
    refine zz_iconst zd_3_12_41 ?_
    refine zz_callSJ [zi 3] zd_3_12_42 zk_Compiler_139 rfl rfl ⟨Nat.le_of_ble_eq_true rfl, Nat.le_of_ble_eq_true rfl⟩ ⟨rfl, rfl⟩ (Nat.zero_le _) (Nat.zero_le _) (zc_flag_12_5 3 S0 n hn G_S0 (by omega)) (fun v15 S14 hP => ?_)
    obtain ⟨rfl, o16⟩ := hP
    refine zz_lor zd_3_12_45 (fun v17 hv17 ev17 => ?_)
    have g18 := zz_G.r G_S0 1076 1 0 1000000 rfl rfl
    refine zz_callVV [zl v17] zd_3_12_46 zk_Compiler_143 zT_1076 (zz_ltn hn rfl) rfl rfl ⟨Nat.le_of_ble_eq_true rfl, Nat.le_of_ble_eq_true rfl⟩ ⟨rfl, rfl⟩ (Nat.zero_le _) (Nat.zero_le _) (zc_emit_3_15 v17 S0 n hn G_S0 (by omega) (by omega)) (fun S19 hP => ?_)
    obtain ⟨G_S19, fS19, o21⟩ := hP
    have g22 := zz_G.r G_S0 1076 0 0 1 rfl rfl
    have F_S19 := zz_fr.trans F_S0 fS19 rfl (fun a i h => Or.inr (Or.inr (h)))
    have b23 := zz_rf4 (z := (S0 1076 0)) (by omega)
    refine zz_aload_n (x := 1076) rfl zd_3_12_49 ?_
    have g24 := zz_G.r G_S0 1076 12 (-2147483648) 2147483647 rfl rfl
    refine zz_geti (z := S0 1076 12) zd_3_12_50 zf_Compiler_73 zT_1076 rfl (zz_ltn hn rfl) (zz_rc fS19 rfl rfl (by omega) rfl) ?_
    refine zz_iconst zd_3_12_53 ?_
    refine zz_icmp_le (by omega) (by omega) zd_3_12_54 (fun c25 => ?_) (fun c25 => ?_)
    · refine zz_iconst zd_3_12_61 ?_
      refine zz_istore_n [some (.ref 1076), some (zl v7), none, some (zi 2)] zd_3_12_62 (by decide) rfl ?_
      refine zz_iconst zd_3_12_63 ?_
      refine zz_istore [some (.ref 1076), some (zl v7), none, some (zi 2), some (zi 0)] zd_3_12_64 (by decide) rfl ?_
      refine zz_less (ls1 := [some (.ref 1076), some (zl v7), none, some (zi 2), some (zi 0)]) ⟨rfl, ⟨rfl, ⟨rfl, ⟨rfl, trivial⟩⟩⟩⟩ ?_
      exact k66 v7 2 0 S19 G_S19 F_S19 (by omega) (by omega) (by omega)
    · refine zz_iconst zd_3_12_57 ?_
      refine zz_goto zd_3_12_58 ?_
      refine zz_istore_n [some (.ref 1076), some (zl v7), none, some (zi 3)] zd_3_12_62 (by decide) rfl ?_
      refine zz_iconst zd_3_12_63 ?_
      refine zz_istore [some (.ref 1076), some (zl v7), none, some (zi 3), some (zi 0)] zd_3_12_64 (by decide) rfl ?_
      refine zz_less (ls1 := [some (.ref 1076), some (zl v7), none, some (zi 3), some (zi 0)]) ⟨rfl, ⟨rfl, ⟨rfl, ⟨rfl, trivial⟩⟩⟩⟩ ?_
      exact k66 v7 3 0 S19 G_S19 F_S19 (by omega) (by omega) (by omega)
  · refine zz_aload_n (x := 1076) rfl zd_3_12_20 ?_
    refine zz_lload_n (x := v7) rfl zd_3_12_21 ?_
    refine zz_bipush (by decide) zd_3_12_22 ?_
    refine zz_iconst zd_3_12_24 ?_
    refine zz_callSJ [zi 11, zi 1] zd_3_12_25 zk_Compiler_132 rfl rfl ⟨Nat.le_of_ble_eq_true rfl, Nat.le_of_ble_eq_true rfl⟩ ⟨rfl, rfl⟩ (Nat.zero_le _) (Nat.zero_le _) (zc_bits_12_4 11 1 S0 n hn G_S0 (by omega) (by omega)) (fun v27 S26 hP => ?_)
    obtain ⟨rfl, o28⟩ := hP
    refine zz_lor zd_3_12_28 (fun v29 hv29 ev29 => ?_)
    have g30 := zz_G.r G_S0 1076 1 0 1000000 rfl rfl
    refine zz_callVV [zl v29] zd_3_12_29 zk_Compiler_143 zT_1076 (zz_ltn hn rfl) rfl rfl ⟨Nat.le_of_ble_eq_true rfl, Nat.le_of_ble_eq_true rfl⟩ ⟨rfl, rfl⟩ (Nat.zero_le _) (Nat.zero_le _) (zc_emit_3_15 v29 S0 n hn G_S0 (by omega) (by omega)) (fun S31 hP => ?_)
    obtain ⟨G_S31, fS31, o33⟩ := hP
    have g34 := zz_G.r G_S0 1076 0 0 1 rfl rfl
    have F_S31 := zz_fr.trans F_S0 fS31 rfl (fun a i h => Or.inr (Or.inr (h)))
    have b35 := zz_rf4 (z := (S0 1076 0)) (by omega)
    refine zz_aload_n (x := 1076) rfl zd_3_12_32 ?_
    refine zz_lload_n (x := v7) rfl zd_3_12_33 ?_
    refine zz_bipush (by decide) zd_3_12_34 ?_
    refine zz_iconst zd_3_12_36 ?_
    refine zz_callSJ [zi 11, zi 1] zd_3_12_37 zk_Compiler_132 rfl rfl ⟨Nat.le_of_ble_eq_true rfl, Nat.le_of_ble_eq_true rfl⟩ ⟨rfl, rfl⟩ (Nat.zero_le _) (Nat.zero_le _) (zc_bits_12_4 11 1 S31 n hn G_S31 (by omega) (by omega)) (fun v37 S36 hP => ?_)
    obtain ⟨rfl, o38⟩ := hP
    refine zz_lor zd_3_12_40 (fun v39 hv39 ev39 => ?_)
    refine zz_iconst zd_3_12_41 ?_
    refine zz_callSJ [zi 3] zd_3_12_42 zk_Compiler_139 rfl rfl ⟨Nat.le_of_ble_eq_true rfl, Nat.le_of_ble_eq_true rfl⟩ ⟨rfl, rfl⟩ (Nat.zero_le _) (Nat.zero_le _) (zc_flag_12_5 3 S31 n hn G_S31 (by omega)) (fun v41 S40 hP => ?_)
    obtain ⟨rfl, o42⟩ := hP
    refine zz_lor zd_3_12_45 (fun v43 hv43 ev43 => ?_)
    have g44 := zz_G.r G_S31 1076 1 0 1000000 rfl rfl
    refine zz_callVV [zl v43] zd_3_12_46 zk_Compiler_143 zT_1076 (zz_ltn hn rfl) rfl rfl ⟨Nat.le_of_ble_eq_true rfl, Nat.le_of_ble_eq_true rfl⟩ ⟨rfl, rfl⟩ (Nat.zero_le _) (Nat.zero_le _) (zc_emit_3_15 v43 S31 n hn G_S31 (by omega) (by omega)) (fun S45 hP => ?_)
    obtain ⟨G_S45, fS45, o47⟩ := hP
    have g48 := zz_G.r G_S31 1076 0 0 1 rfl rfl
    have F_S45 := zz_fr.trans F_S31 fS45 rfl (fun a i h => Or.inr (Or.inl (h ▸ zM_k4 (z := (S31 1076 0)) (by omega) rfl)))
    have b49 := zz_rf4 (z := (S31 1076 0)) (by omega)
    refine zz_aload_n (x := 1076) rfl zd_3_12_49 ?_
    have g50 := zz_G.r G_S0 1076 12 (-2147483648) 2147483647 rfl rfl
    refine zz_geti (z := S0 1076 12) zd_3_12_50 zf_Compiler_73 zT_1076 rfl (zz_ltn hn rfl) (zz_rc fS45 rfl rfl (by omega) (zz_rc fS31 rfl rfl (by omega) rfl)) ?_
    refine zz_iconst zd_3_12_53 ?_
    refine zz_icmp_le (by omega) (by omega) zd_3_12_54 (fun c51 => ?_) (fun c51 => ?_)
    · refine zz_iconst zd_3_12_61 ?_
      refine zz_istore_n [some (.ref 1076), some (zl v7), none, some (zi 2)] zd_3_12_62 (by decide) rfl ?_
      refine zz_iconst zd_3_12_63 ?_
      refine zz_istore [some (.ref 1076), some (zl v7), none, some (zi 2), some (zi 0)] zd_3_12_64 (by decide) rfl ?_
      refine zz_less (ls1 := [some (.ref 1076), some (zl v7), none, some (zi 2), some (zi 0)]) ⟨rfl, ⟨rfl, ⟨rfl, ⟨rfl, trivial⟩⟩⟩⟩ ?_
      exact k66 v7 2 0 S45 G_S45 F_S45 (by omega) (by omega) (by omega)
    · refine zz_iconst zd_3_12_57 ?_
      refine zz_goto zd_3_12_58 ?_
      refine zz_istore_n [some (.ref 1076), some (zl v7), none, some (zi 3)] zd_3_12_62 (by decide) rfl ?_
      refine zz_iconst zd_3_12_63 ?_
      refine zz_istore [some (.ref 1076), some (zl v7), none, some (zi 3), some (zi 0)] zd_3_12_64 (by decide) rfl ?_
      refine zz_less (ls1 := [some (.ref 1076), some (zl v7), none, some (zi 3), some (zi 0)]) ⟨rfl, ⟨rfl, ⟨rfl, ⟨rfl, trivial⟩⟩⟩⟩ ?_
      exact k66 v7 3 0 S45 G_S45 F_S45 (by omega) (by omega) (by omega)
theorem zk_Compiler_97 : mm_Vl "TensorForge$Compiler" 97 9 0 zy_makeWaits_3_12 := ⟨zyw_makeWaits_3_12, (R_Compiler, F_Compiler, 17), rfl, mm_tb_1 1476 (by decide +kernel) rfl, mm_tb_1 1478 (by decide +kernel) rfl, mm_tb_s 75 (by decide +kernel) rfl⟩
theorem zd_3_3_321 : zz_D zy_makeLayer_3_3 321 (.return_) 1 322 := ⟨by decide +kernel, rfl⟩
theorem zd_3_3_192 : zz_D zy_makeLayer_3_3 192 (.aload_n 0) 1 193 := ⟨by decide +kernel, rfl⟩
theorem zd_3_3_193 : zz_D zy_makeLayer_3_3 193 (.aload_n 0) 1 194 := ⟨by decide +kernel, rfl⟩
theorem zd_3_3_194 : zz_D zy_makeLayer_3_3 194 (.getfield 21) 3 197 := ⟨by decide +kernel, rfl⟩
theorem zd_3_3_197 : zz_D zy_makeLayer_3_3 197 (.aload_n 0) 1 198 := ⟨by decide +kernel, rfl⟩
theorem zd_3_3_198 : zz_D zy_makeLayer_3_3 198 (.getfield 51) 3 201 := ⟨by decide +kernel, rfl⟩
theorem zd_3_3_201 : zz_D zy_makeLayer_3_3 201 (.getfield 79) 3 204 := ⟨by decide +kernel, rfl⟩
theorem zd_3_3_204 : zz_D zy_makeLayer_3_3 204 (.aload_n 0) 1 205 := ⟨by decide +kernel, rfl⟩
theorem zd_3_3_205 : zz_D zy_makeLayer_3_3 205 (.getfield 76) 3 208 := ⟨by decide +kernel, rfl⟩
theorem zd_3_3_208 : zz_D zy_makeLayer_3_3 208 (.isub) 1 209 := ⟨by decide +kernel, rfl⟩
theorem zd_3_3_209 : zz_D zy_makeLayer_3_3 209 (.invokestatic 24) 3 212 := ⟨by decide +kernel, rfl⟩
theorem zd_3_3_212 : zz_D zy_makeLayer_3_3 212 (.putfield 82) 3 215 := ⟨by decide +kernel, rfl⟩
theorem zf_Compiler_82 : mm_Fl "TensorForge$Compiler" 82 9 8 .int false := ⟨R_Compiler, F_Compiler, 17, t_Compiler, rfl, i_Compiler, by decide, mm_tb_1 383 (by decide +kernel) rfl, rfl, t_Compiler_ok, n_Compiler, rfl, by decide +kernel⟩
theorem zd_3_3_215 : zz_D zy_makeLayer_3_3 215 (.aload_n 0) 1 216 := ⟨by decide +kernel, rfl⟩
theorem zd_3_3_216 : zz_D zy_makeLayer_3_3 216 (.iconst 0) 1 217 := ⟨by decide +kernel, rfl⟩
theorem zd_3_3_217 : zz_D zy_makeLayer_3_3 217 (.putfield 85) 3 220 := ⟨by decide +kernel, rfl⟩
theorem zf_Compiler_85 : mm_Fl "TensorForge$Compiler" 85 9 9 .int false := ⟨R_Compiler, F_Compiler, 17, t_Compiler, rfl, i_Compiler, by decide, mm_tb_1 384 (by decide +kernel) rfl, rfl, t_Compiler_ok, n_Compiler, rfl, by decide +kernel⟩
theorem zd_3_3_220 : zz_D zy_makeLayer_3_3 220 (.aload_n 0) 1 221 := ⟨by decide +kernel, rfl⟩
theorem zd_3_3_221 : zz_D zy_makeLayer_3_3 221 (.getfield 85) 3 224 := ⟨by decide +kernel, rfl⟩
theorem zd_3_3_224 : zz_D zy_makeLayer_3_3 224 (.iload 4) 2 226 := ⟨by decide +kernel, rfl⟩
theorem zd_3_3_226 : zz_B zy_makeLayer_3_3 226 (Instr.if_icmp .ge) 301 229 := ⟨75, by decide +kernel, rfl, rfl⟩
theorem zd_3_3_301 : zz_D zy_makeLayer_3_3 301 (.aload_n 0) 1 302 := ⟨by decide +kernel, rfl⟩
theorem zd_3_3_302 : zz_D zy_makeLayer_3_3 302 (.dup) 1 303 := ⟨by decide +kernel, rfl⟩
theorem zd_3_3_303 : zz_D zy_makeLayer_3_3 303 (.getfield 76) 3 306 := ⟨by decide +kernel, rfl⟩
theorem zd_3_3_306 : zz_D zy_makeLayer_3_3 306 (.aload_n 0) 1 307 := ⟨by decide +kernel, rfl⟩
theorem zd_3_3_307 : zz_D zy_makeLayer_3_3 307 (.getfield 21) 3 310 := ⟨by decide +kernel, rfl⟩
theorem zd_3_3_310 : zz_D zy_makeLayer_3_3 310 (.iadd) 1 311 := ⟨by decide +kernel, rfl⟩
theorem zd_3_3_311 : zz_D zy_makeLayer_3_3 311 (.putfield 76) 3 314 := ⟨by decide +kernel, rfl⟩
theorem zd_3_3_314 : zz_B zy_makeLayer_3_3 314 Instr.goto 178 317 := ⟨(-136), by decide +kernel, rfl, rfl⟩
theorem zd_3_3_229 : zz_D zy_makeLayer_3_3 229 (.aload_n 0) 1 230 := ⟨by decide +kernel, rfl⟩
theorem zd_3_3_230 : zz_D zy_makeLayer_3_3 230 (.iconst 0) 1 231 := ⟨by decide +kernel, rfl⟩
theorem zd_3_3_231 : zz_D zy_makeLayer_3_3 231 (.putfield 88) 3 234 := ⟨by decide +kernel, rfl⟩
theorem zf_Compiler_88 : mm_Fl "TensorForge$Compiler" 88 9 10 .int false := ⟨R_Compiler, F_Compiler, 17, t_Compiler, rfl, i_Compiler, by decide, mm_tb_1 385 (by decide +kernel) rfl, rfl, t_Compiler_ok, n_Compiler, rfl, by decide +kernel⟩
theorem zd_3_3_234 : zz_D zy_makeLayer_3_3 234 (.aload_n 0) 1 235 := ⟨by decide +kernel, rfl⟩
theorem zd_3_3_235 : zz_D zy_makeLayer_3_3 235 (.getfield 88) 3 238 := ⟨by decide +kernel, rfl⟩
theorem zd_3_3_238 : zz_D zy_makeLayer_3_3 238 (.iload 5) 2 240 := ⟨by decide +kernel, rfl⟩
theorem zd_3_3_240 : zz_B zy_makeLayer_3_3 240 (Instr.if_icmp .ge) 288 243 := ⟨48, by decide +kernel, rfl, rfl⟩
theorem zd_3_3_288 : zz_D zy_makeLayer_3_3 288 (.aload_n 0) 1 289 := ⟨by decide +kernel, rfl⟩
theorem zd_3_3_289 : zz_D zy_makeLayer_3_3 289 (.dup) 1 290 := ⟨by decide +kernel, rfl⟩
theorem zd_3_3_290 : zz_D zy_makeLayer_3_3 290 (.getfield 85) 3 293 := ⟨by decide +kernel, rfl⟩
theorem zd_3_3_293 : zz_D zy_makeLayer_3_3 293 (.iconst 1) 1 294 := ⟨by decide +kernel, rfl⟩
theorem zd_3_3_294 : zz_D zy_makeLayer_3_3 294 (.iadd) 1 295 := ⟨by decide +kernel, rfl⟩
theorem zd_3_3_295 : zz_D zy_makeLayer_3_3 295 (.putfield 85) 3 298 := ⟨by decide +kernel, rfl⟩
theorem zd_3_3_298 : zz_B zy_makeLayer_3_3 298 Instr.goto 220 301 := ⟨(-78), by decide +kernel, rfl, rfl⟩
theorem zd_3_3_243 : zz_D zy_makeLayer_3_3 243 (.aload_n 0) 1 244 := ⟨by decide +kernel, rfl⟩
theorem zd_3_3_244 : zz_D zy_makeLayer_3_3 244 (.getfield 15) 3 247 := ⟨by decide +kernel, rfl⟩
theorem zd_3_3_247 : zz_D zy_makeLayer_3_3 247 (.sipush 600) 3 250 := ⟨by decide +kernel, rfl⟩
theorem zd_3_3_250 : zz_B zy_makeLayer_3_3 250 (Instr.if_icmp .le) 254 253 := ⟨4, by decide +kernel, rfl, rfl⟩
theorem zd_3_3_254 : zz_D zy_makeLayer_3_3 254 (.aload_n 0) 1 255 := ⟨by decide +kernel, rfl⟩
theorem zd_3_3_255 : zz_D zy_makeLayer_3_3 255 (.iload 6) 2 257 := ⟨by decide +kernel, rfl⟩
theorem zd_3_3_257 : zz_D zy_makeLayer_3_3 257 (.iload 5) 2 259 := ⟨by decide +kernel, rfl⟩
theorem zd_3_3_259 : zz_D zy_makeLayer_3_3 259 (.aload_n 0) 1 260 := ⟨by decide +kernel, rfl⟩
theorem zd_3_3_260 : zz_D zy_makeLayer_3_3 260 (.getfield 88) 3 263 := ⟨by decide +kernel, rfl⟩
theorem zd_3_3_263 : zz_D zy_makeLayer_3_3 263 (.isub) 1 264 := ⟨by decide +kernel, rfl⟩
theorem zd_3_3_264 : zz_D zy_makeLayer_3_3 264 (.invokestatic 24) 3 267 := ⟨by decide +kernel, rfl⟩
theorem zd_3_3_267 : zz_D zy_makeLayer_3_3 267 (.putfield 91) 3 270 := ⟨by decide +kernel, rfl⟩
theorem zf_Compiler_91 : mm_Fl "TensorForge$Compiler" 91 9 11 .int false := ⟨R_Compiler, F_Compiler, 17, t_Compiler, rfl, i_Compiler, by decide, mm_tb_1 386 (by decide +kernel) rfl, rfl, t_Compiler_ok, n_Compiler, rfl, by decide +kernel⟩
theorem zd_3_3_270 : zz_D zy_makeLayer_3_3 270 (.aload_n 0) 1 271 := ⟨by decide +kernel, rfl⟩
theorem zd_3_3_271 : zz_D zy_makeLayer_3_3 271 (.invokevirtual 94) 3 274 := ⟨by decide +kernel, rfl⟩
abbrev zy_makeTile_3_4 : mm_Y := (⟨"TensorForge$Compiler", "makeTile", "()V"⟩, prog_3_method_4_code, 10, none)
theorem zyw_makeTile_3_4 : mm_Yw zy_makeTile_3_4 0 := ⟨mm_tb_1 1419 (by decide +kernel) rfl, mm_tb_1 10 (by decide +kernel) rfl, ⟨by decide, by decide⟩, by decide +kernel⟩
theorem zd_3_4_0 : zz_D zy_makeTile_3_4 0 (.aload_n 0) 1 1 := ⟨by decide +kernel, rfl⟩
theorem zd_3_4_1 : zz_D zy_makeTile_3_4 1 (.getfield 51) 3 4 := ⟨by decide +kernel, rfl⟩
theorem zd_3_4_4 : zz_D zy_makeTile_3_4 4 (.getfield 61) 3 7 := ⟨by decide +kernel, rfl⟩
theorem zd_3_4_7 : zz_D zy_makeTile_3_4 7 (.iconst 1) 1 8 := ⟨by decide +kernel, rfl⟩
theorem zd_3_4_8 : zz_B zy_makeTile_3_4 8 (Instr.if_icmp .ne) 15 11 := ⟨7, by decide +kernel, rfl, rfl⟩
theorem zd_3_4_15 : zz_D zy_makeTile_3_4 15 (.iconst 0) 1 16 := ⟨by decide +kernel, rfl⟩
theorem zd_3_4_16 : zz_D zy_makeTile_3_4 16 (.istore_n 1) 1 17 := ⟨by decide +kernel, rfl⟩
theorem zd_3_4_17 : zz_D zy_makeTile_3_4 17 (.aload_n 0) 1 18 := ⟨by decide +kernel, rfl⟩
theorem zd_3_4_18 : zz_D zy_makeTile_3_4 18 (.getfield 51) 3 21 := ⟨by decide +kernel, rfl⟩
theorem zd_3_4_21 : zz_D zy_makeTile_3_4 21 (.getfield 61) 3 24 := ⟨by decide +kernel, rfl⟩
theorem zd_3_4_24 : zz_D zy_makeTile_3_4 24 (.iconst 3) 1 25 := ⟨by decide +kernel, rfl⟩
theorem zd_3_4_25 : zz_B zy_makeTile_3_4 25 (Instr.if_icmp .ne) 32 28 := ⟨7, by decide +kernel, rfl, rfl⟩
theorem zd_3_4_32 : zz_D zy_makeTile_3_4 32 (.iconst 0) 1 33 := ⟨by decide +kernel, rfl⟩
theorem zd_3_4_33 : zz_D zy_makeTile_3_4 33 (.istore_n 2) 1 34 := ⟨by decide +kernel, rfl⟩
theorem zd_3_4_34 : zz_D zy_makeTile_3_4 34 (.iload_n 2) 1 35 := ⟨by decide +kernel, rfl⟩
theorem zd_3_4_35 : zz_B zy_makeTile_3_4 35 (Instr.ifCond .eq) 42 38 := ⟨7, by decide +kernel, rfl, rfl⟩
theorem zd_3_4_42 : zz_D zy_makeTile_3_4 42 (.aload_n 0) 1 43 := ⟨by decide +kernel, rfl⟩
theorem zd_3_4_43 : zz_D zy_makeTile_3_4 43 (.getfield 51) 3 46 := ⟨by decide +kernel, rfl⟩
theorem zd_3_4_46 : zz_D zy_makeTile_3_4 46 (.getfield 100) 3 49 := ⟨by decide +kernel, rfl⟩
theorem zf_Compiler_100 : mm_Fl "TensorForge$Compiler" 100 2 3 .int false := ⟨R_Layer, F_Layer, 15, t_Layer, rfl, i_Layer, by decide, mm_tb_1 69 (by decide +kernel) rfl, rfl, t_Layer_ok, n_Layer, rfl, by decide +kernel⟩
theorem zd_3_4_49 : zz_D zy_makeTile_3_4 49 (.istore_n 3) 1 50 := ⟨by decide +kernel, rfl⟩
theorem zd_3_4_50 : zz_D zy_makeTile_3_4 50 (.iload_n 2) 1 51 := ⟨by decide +kernel, rfl⟩
theorem zd_3_4_51 : zz_B zy_makeTile_3_4 51 (Instr.ifCond .eq) 58 54 := ⟨7, by decide +kernel, rfl, rfl⟩
theorem zd_3_4_58 : zz_D zy_makeTile_3_4 58 (.aload_n 0) 1 59 := ⟨by decide +kernel, rfl⟩
theorem zd_3_4_59 : zz_D zy_makeTile_3_4 59 (.getfield 51) 3 62 := ⟨by decide +kernel, rfl⟩
theorem zd_3_4_62 : zz_D zy_makeTile_3_4 62 (.getfield 103) 3 65 := ⟨by decide +kernel, rfl⟩
theorem zf_Compiler_103 : mm_Fl "TensorForge$Compiler" 103 2 4 .int false := ⟨R_Layer, F_Layer, 15, t_Layer, rfl, i_Layer, by decide, mm_tb_1 73 (by decide +kernel) rfl, rfl, t_Layer_ok, n_Layer, rfl, by decide +kernel⟩
theorem zd_3_4_65 : zz_D zy_makeTile_3_4 65 (.istore 4) 2 67 := ⟨by decide +kernel, rfl⟩
theorem zd_3_4_67 : zz_D zy_makeTile_3_4 67 (.iload_n 1) 1 68 := ⟨by decide +kernel, rfl⟩
theorem zd_3_4_68 : zz_B zy_makeTile_3_4 68 (Instr.ifCond .eq) 81 71 := ⟨13, by decide +kernel, rfl, rfl⟩
theorem zd_3_4_81 : zz_D zy_makeTile_3_4 81 (.iconst 1) 1 82 := ⟨by decide +kernel, rfl⟩
theorem zd_3_4_82 : zz_D zy_makeTile_3_4 82 (.istore 5) 2 84 := ⟨by decide +kernel, rfl⟩
theorem zd_3_4_84 : zz_D zy_makeTile_3_4 84 (.aload_n 0) 1 85 := ⟨by decide +kernel, rfl⟩
theorem zd_3_4_85 : zz_D zy_makeTile_3_4 85 (.getfield 73) 3 88 := ⟨by decide +kernel, rfl⟩
theorem zd_3_4_88 : zz_D zy_makeTile_3_4 88 (.istore 6) 2 90 := ⟨by decide +kernel, rfl⟩
theorem zd_3_4_90 : zz_D zy_makeTile_3_4 90 (.aload_n 0) 1 91 := ⟨by decide +kernel, rfl⟩
theorem zd_3_4_91 : zz_D zy_makeTile_3_4 91 (.iconst 0) 1 92 := ⟨by decide +kernel, rfl⟩
theorem zd_3_4_92 : zz_D zy_makeTile_3_4 92 (.putfield 106) 3 95 := ⟨by decide +kernel, rfl⟩
theorem zf_Compiler_106 : mm_Fl "TensorForge$Compiler" 106 9 13 .int false := ⟨R_Compiler, F_Compiler, 17, t_Compiler, rfl, i_Compiler, by decide, mm_tb_1 388 (by decide +kernel) rfl, rfl, t_Compiler_ok, n_Compiler, rfl, by decide +kernel⟩
theorem zd_3_4_28 : zz_D zy_makeTile_3_4 28 (.iconst 1) 1 29 := ⟨by decide +kernel, rfl⟩
theorem zd_3_4_29 : zz_B zy_makeTile_3_4 29 Instr.goto 33 32 := ⟨4, by decide +kernel, rfl, rfl⟩
theorem zd_3_4_38 : zz_D zy_makeTile_3_4 38 (.iconst 1) 1 39 := ⟨by decide +kernel, rfl⟩
theorem zd_3_4_39 : zz_B zy_makeTile_3_4 39 Instr.goto 49 42 := ⟨10, by decide +kernel, rfl, rfl⟩
theorem zd_3_4_54 : zz_D zy_makeTile_3_4 54 (.iconst 2) 1 55 := ⟨by decide +kernel, rfl⟩
theorem zd_3_4_55 : zz_B zy_makeTile_3_4 55 Instr.goto 65 58 := ⟨10, by decide +kernel, rfl, rfl⟩
theorem zd_3_4_11 : zz_D zy_makeTile_3_4 11 (.iconst 1) 1 12 := ⟨by decide +kernel, rfl⟩
theorem zd_3_4_12 : zz_B zy_makeTile_3_4 12 Instr.goto 16 15 := ⟨4, by decide +kernel, rfl, rfl⟩
theorem zd_3_4_71 : zz_D zy_makeTile_3_4 71 (.aload_n 0) 1 72 := ⟨by decide +kernel, rfl⟩
theorem zd_3_4_72 : zz_D zy_makeTile_3_4 72 (.getfield 55) 3 75 := ⟨by decide +kernel, rfl⟩
theorem zd_3_4_75 : zz_D zy_makeTile_3_4 75 (.getfield 79) 3 78 := ⟨by decide +kernel, rfl⟩
theorem zd_3_4_78 : zz_B zy_makeTile_3_4 78 Instr.goto 82 81 := ⟨4, by decide +kernel, rfl, rfl⟩
theorem zd_3_4_95 : zz_D zy_makeTile_3_4 95 (.aload_n 0) 1 96 := ⟨by decide +kernel, rfl⟩
theorem zd_3_4_96 : zz_D zy_makeTile_3_4 96 (.getfield 106) 3 99 := ⟨by decide +kernel, rfl⟩
theorem zd_3_4_99 : zz_D zy_makeTile_3_4 99 (.iload_n 3) 1 100 := ⟨by decide +kernel, rfl⟩
theorem zd_3_4_100 : zz_B zy_makeTile_3_4 100 (Instr.if_icmp .ge) 279 103 := ⟨179, by decide +kernel, rfl, rfl⟩
theorem zd_3_4_279 : zz_D zy_makeTile_3_4 279 (.aload_n 0) 1 280 := ⟨by decide +kernel, rfl⟩
theorem zd_3_4_280 : zz_D zy_makeTile_3_4 280 (.invokevirtual 122) 3 283 := ⟨by decide +kernel, rfl⟩
abbrev zy_tileHalf_3_13 : mm_Y := (⟨"TensorForge$Compiler", "tileHalf", "()I"⟩, prog_3_method_13_code, 1, (some .int))
theorem zyw_tileHalf_3_13 : mm_Yw zy_tileHalf_3_13 0 := ⟨mm_tb_1 1434 (by decide +kernel) rfl, mm_tb_1 10 (by decide +kernel) rfl, ⟨by decide, by decide⟩, by decide +kernel⟩
theorem zd_3_13_0 : zz_D zy_tileHalf_3_13 0 (.sipush 128) 3 3 := ⟨by decide +kernel, rfl⟩
theorem zd_3_13_3 : zz_D zy_tileHalf_3_13 3 (.aload_n 0) 1 4 := ⟨by decide +kernel, rfl⟩
theorem zd_3_13_4 : zz_D zy_tileHalf_3_13 4 (.getfield 70) 3 7 := ⟨by decide +kernel, rfl⟩
theorem zd_3_13_7 : zz_D zy_tileHalf_3_13 7 (.iconst 1) 1 8 := ⟨by decide +kernel, rfl⟩
theorem zd_3_13_8 : zz_D zy_tileHalf_3_13 8 (.iand) 1 9 := ⟨by decide +kernel, rfl⟩
theorem zd_3_13_9 : zz_D zy_tileHalf_3_13 9 (.imul) 1 10 := ⟨by decide +kernel, rfl⟩
theorem zd_3_13_10 : zz_D zy_tileHalf_3_13 10 (.ireturn) 1 11 := ⟨by decide +kernel, rfl⟩
-- TensorForge$Compiler tileHalf ()I
abbrev zr_tileHalf_3_13 : Room := { frames := 0, cells := 0, slots := 0, locals := 0 }
def zp_tileHalf_3_13  (S0 : zz_S) : Int → zz_S → Prop := fun r S => S0 = S ∧ ((-2147483648) ≤ r ∧ r ≤ 2147483647)
theorem zc_tileHalf_3_13 {g : mm_G} {l : Launch}  (S0 : zz_S) (n : Nat) (hn : zz_end ≤ n) (G_S0 : zz_G S0)  : mm_Met g l zy_tileHalf_3_13 zr_tileHalf_3_13 [.ref 1076] (zz_M S0 n) n (zz_QI n (zp_tileHalf_3_13  S0)) := by
  refine zz_enter (by decide) (Nat.le_of_ble_eq_true rfl) (zz_less (ls1 := [some (.ref 1076)]) ⟨rfl, trivial⟩ ?_)
  refine zz_sipush (by decide) zd_3_13_0 ?_
  refine zz_aload_n (x := 1076) rfl zd_3_13_3 ?_
  have g1 := zz_G.r G_S0 1076 6 (-2147483648) 2147483647 rfl rfl
  refine zz_geti (z := S0 1076 6) zd_3_13_4 zf_Compiler_70 zT_1076 rfl (zz_ltn hn rfl) rfl ?_
  refine zz_iconst zd_3_13_7 ?_
  refine zz_iand (by omega) (by omega) zd_3_13_8 (fun v2 hv2 av2 bv2 ev2 => ?_)
  refine zz_imul zd_3_13_9 ?_
  exact zz_iret zd_3_13_10 rfl (Nat.zero_le _) (Nat.zero_le _) ⟨_, _, rfl, rfl, by omega⟩
theorem zk_Compiler_122 : mm_Vl "TensorForge$Compiler" 122 9 0 zy_tileHalf_3_13 := ⟨zyw_tileHalf_3_13, (R_Compiler, F_Compiler, 17), rfl, mm_tb_1 1431 (by decide +kernel) rfl, mm_tb_1 1433 (by decide +kernel) rfl, mm_tb_s 66 (by decide +kernel) rfl⟩
theorem zd_3_4_283 : zz_D zy_makeTile_3_4 283 (.istore 7) 2 285 := ⟨by decide +kernel, rfl⟩
theorem zd_3_4_285 : zz_D zy_makeTile_3_4 285 (.bipush 7) 2 287 := ⟨by decide +kernel, rfl⟩
theorem zd_3_4_287 : zz_D zy_makeTile_3_4 287 (.aload_n 0) 1 288 := ⟨by decide +kernel, rfl⟩
theorem zd_3_4_288 : zz_D zy_makeTile_3_4 288 (.getfield 91) 3 291 := ⟨by decide +kernel, rfl⟩
theorem zd_3_4_291 : zz_D zy_makeTile_3_4 291 (.aload_n 0) 1 292 := ⟨by decide +kernel, rfl⟩
theorem zd_3_4_292 : zz_D zy_makeTile_3_4 292 (.getfield 82) 3 295 := ⟨by decide +kernel, rfl⟩
theorem zd_3_4_295 : zz_D zy_makeTile_3_4 295 (.invokestatic 128) 3 298 := ⟨by decide +kernel, rfl⟩
abbrev zy_shaped_12_6 : mm_Y := (⟨"TensorForge$Words", "shaped", "(III)J"⟩, prog_12_method_6_code, 3, (some .long))
theorem zyw_shaped_12_6 : mm_Yw zy_shaped_12_6 3 := ⟨mm_tb_1 1430 (by decide +kernel) rfl, mm_tb_1 20 (by decide +kernel) rfl, ⟨by decide, by decide⟩, by decide +kernel⟩
theorem zd_12_6_0 : zz_D zy_shaped_12_6 0 (.iload_n 0) 1 1 := ⟨by decide +kernel, rfl⟩
theorem zd_12_6_1 : zz_D zy_shaped_12_6 1 (.i2l) 1 2 := ⟨by decide +kernel, rfl⟩
theorem zd_12_6_2 : zz_D zy_shaped_12_6 2 (.iload_n 1) 1 3 := ⟨by decide +kernel, rfl⟩
theorem zd_12_6_3 : zz_D zy_shaped_12_6 3 (.i2l) 1 4 := ⟨by decide +kernel, rfl⟩
theorem zd_12_6_4 : zz_D zy_shaped_12_6 4 (.getstatic 9) 3 7 := ⟨by decide +kernel, rfl⟩
theorem zd_12_6_7 : zz_D zy_shaped_12_6 7 (.bipush 6) 2 9 := ⟨by decide +kernel, rfl⟩
theorem zd_12_6_9 : zz_D zy_shaped_12_6 9 (.iaload) 1 10 := ⟨by decide +kernel, rfl⟩
theorem zd_12_6_10 : zz_D zy_shaped_12_6 10 (.lshl) 1 11 := ⟨by decide +kernel, rfl⟩
theorem zd_12_6_11 : zz_D zy_shaped_12_6 11 (.lor) 1 12 := ⟨by decide +kernel, rfl⟩
theorem zd_12_6_12 : zz_D zy_shaped_12_6 12 (.iload_n 2) 1 13 := ⟨by decide +kernel, rfl⟩
theorem zd_12_6_13 : zz_D zy_shaped_12_6 13 (.i2l) 1 14 := ⟨by decide +kernel, rfl⟩
theorem zd_12_6_14 : zz_D zy_shaped_12_6 14 (.getstatic 9) 3 17 := ⟨by decide +kernel, rfl⟩
theorem zd_12_6_17 : zz_D zy_shaped_12_6 17 (.bipush 7) 2 19 := ⟨by decide +kernel, rfl⟩
theorem zd_12_6_19 : zz_D zy_shaped_12_6 19 (.iaload) 1 20 := ⟨by decide +kernel, rfl⟩
theorem zd_12_6_20 : zz_D zy_shaped_12_6 20 (.lshl) 1 21 := ⟨by decide +kernel, rfl⟩
theorem zd_12_6_21 : zz_D zy_shaped_12_6 21 (.lor) 1 22 := ⟨by decide +kernel, rfl⟩
theorem zd_12_6_22 : zz_D zy_shaped_12_6 22 (.lreturn) 1 23 := ⟨by decide +kernel, rfl⟩
-- TensorForge$Words shaped (III)J
abbrev zr_shaped_12_6 : Room := { frames := 0, cells := 0, slots := 0, locals := 0 }
def zp_shaped_12_6 (p0 : Int) (p1 : Int) (p2 : Int) (S0 : zz_S) : Int → zz_S → Prop := fun r S => S0 = S ∧ ((-9223372036854775808) ≤ r ∧ r ≤ 9223372036854775807)
theorem zc_shaped_12_6 {g : mm_G} {l : Launch} (p0 : Int) (p1 : Int) (p2 : Int) (S0 : zz_S) (n : Nat) (hn : zz_end ≤ n) (G_S0 : zz_G S0) (hp0 : (-2147483648) ≤ p0 ∧ p0 ≤ 2147483647) (hp1 : (-2147483648) ≤ p1 ∧ p1 ≤ 2147483647) (hp2 : (-2147483648) ≤ p2 ∧ p2 ≤ 2147483647) : mm_Met g l zy_shaped_12_6 zr_shaped_12_6 [zi p0, zi p1, zi p2] (zz_M S0 n) n (zz_QJ n (zp_shaped_12_6 p0 p1 p2 S0)) := by
  refine zz_enter (by decide) (Nat.le_of_ble_eq_true rfl) (zz_less (ls1 := [some (zi p0), some (zi p1), some (zi p2)]) ⟨rfl, ⟨rfl, ⟨rfl, trivial⟩⟩⟩ ?_)
  refine zz_iload_n (x := p0) rfl zd_12_6_0 ?_
  refine zz_i2l (by omega) zd_12_6_1 ?_
  refine zz_iload_n (x := p1) rfl zd_12_6_2 ?_
  refine zz_i2l (by omega) zd_12_6_3 ?_
  refine zz_gets (q0 := 1) zd_12_6_4 rfl (by decide) zs_Words_9 ?_
  refine zz_bipush (by decide) zd_12_6_7 ?_
  refine zz_tiald 20 zd_12_6_9 rfl (by decide) rfl (by decide) (by decide) rfl ?_
  refine zz_lshl zd_12_6_10 (fun v1 hv1 ev1 => ?_)
  refine zz_lor zd_12_6_11 (fun v2 hv2 ev2 => ?_)
  refine zz_iload_n (x := p2) rfl zd_12_6_12 ?_
  refine zz_i2l (by omega) zd_12_6_13 ?_
  refine zz_gets (q0 := 1) zd_12_6_14 rfl (by decide) zs_Words_9 ?_
  refine zz_bipush (by decide) zd_12_6_17 ?_
  refine zz_tiald 26 zd_12_6_19 rfl (by decide) rfl (by decide) (by decide) rfl ?_
  refine zz_lshl zd_12_6_20 (fun v3 hv3 ev3 => ?_)
  refine zz_lor zd_12_6_21 (fun v4 hv4 ev4 => ?_)
  exact zz_lret zd_12_6_22 rfl (Nat.zero_le _) (Nat.zero_le _) ⟨_, _, rfl, rfl, by omega⟩
theorem zk_Compiler_128 : mm_Sl "TensorForge$Compiler" 128 3 zy_shaped_12_6 := ⟨zyw_shaped_12_6, mm_tb_1 1428 (by decide +kernel) rfl, mm_tb_1 1429 (by decide +kernel) rfl⟩
theorem zd_3_4_298 : zz_D zy_makeTile_3_4 298 (.bipush 8) 2 300 := ⟨by decide +kernel, rfl⟩
theorem zd_3_4_300 : zz_D zy_makeTile_3_4 300 (.iload 7) 2 302 := ⟨by decide +kernel, rfl⟩
theorem zd_3_4_302 : zz_D zy_makeTile_3_4 302 (.invokestatic 132) 3 305 := ⟨by decide +kernel, rfl⟩
theorem zd_3_4_305 : zz_D zy_makeTile_3_4 305 (.lor) 1 306 := ⟨by decide +kernel, rfl⟩
theorem zd_3_4_306 : zz_D zy_makeTile_3_4 306 (.bipush 9) 2 308 := ⟨by decide +kernel, rfl⟩
theorem zd_3_4_308 : zz_D zy_makeTile_3_4 308 (.iload 7) 2 310 := ⟨by decide +kernel, rfl⟩
theorem zd_3_4_310 : zz_D zy_makeTile_3_4 310 (.invokestatic 132) 3 313 := ⟨by decide +kernel, rfl⟩
theorem zd_3_4_313 : zz_D zy_makeTile_3_4 313 (.lor) 1 314 := ⟨by decide +kernel, rfl⟩
theorem zd_3_4_314 : zz_D zy_makeTile_3_4 314 (.bipush 11) 2 316 := ⟨by decide +kernel, rfl⟩
theorem zd_3_4_316 : zz_D zy_makeTile_3_4 316 (.aload_n 0) 1 317 := ⟨by decide +kernel, rfl⟩
theorem zd_3_4_317 : zz_D zy_makeTile_3_4 317 (.getfield 51) 3 320 := ⟨by decide +kernel, rfl⟩
theorem zd_3_4_320 : zz_D zy_makeTile_3_4 320 (.invokevirtual 136) 3 323 := ⟨by decide +kernel, rfl⟩
abbrev zy_narrowing_4_6 : mm_Y := (⟨"TensorForge$Layer", "narrowing", "()I"⟩, prog_4_method_6_code, 1, (some .int))
theorem zyw_narrowing_4_6 : mm_Yw zy_narrowing_4_6 0 := ⟨mm_tb_1 906 (by decide +kernel) rfl, mm_tb_1 3 (by decide +kernel) rfl, ⟨by decide, by decide⟩, by decide +kernel⟩
theorem zd_4_6_0 : zz_D zy_narrowing_4_6 0 (.aload_n 0) 1 1 := ⟨by decide +kernel, rfl⟩
theorem zd_4_6_1 : zz_D zy_narrowing_4_6 1 (.getfield 38) 3 4 := ⟨by decide +kernel, rfl⟩
theorem zd_4_6_4 : zz_B zy_narrowing_4_6 4 (Instr.ifCond .eq) 17 7 := ⟨13, by decide +kernel, rfl, rfl⟩
theorem zd_4_6_17 : zz_D zy_narrowing_4_6 17 (.aload_n 0) 1 18 := ⟨by decide +kernel, rfl⟩
theorem zd_4_6_18 : zz_D zy_narrowing_4_6 18 (.getfield 35) 3 21 := ⟨by decide +kernel, rfl⟩
theorem zd_4_6_21 : zz_D zy_narrowing_4_6 21 (.ireturn) 1 22 := ⟨by decide +kernel, rfl⟩
theorem zd_4_6_7 : zz_D zy_narrowing_4_6 7 (.bipush 16) 2 9 := ⟨by decide +kernel, rfl⟩
theorem zd_4_6_9 : zz_D zy_narrowing_4_6 9 (.aload_n 0) 1 10 := ⟨by decide +kernel, rfl⟩
theorem zd_4_6_10 : zz_D zy_narrowing_4_6 10 (.getfield 35) 3 13 := ⟨by decide +kernel, rfl⟩
theorem zd_4_6_13 : zz_D zy_narrowing_4_6 13 (.iadd) 1 14 := ⟨by decide +kernel, rfl⟩
theorem zd_4_6_14 : zz_B zy_narrowing_4_6 14 Instr.goto 21 17 := ⟨7, by decide +kernel, rfl, rfl⟩
-- TensorForge$Layer narrowing ()I
abbrev zr_narrowing_4_6 : Room := { frames := 0, cells := 0, slots := 0, locals := 0 }
def zp_narrowing_4_6 (t : Int) (S0 : zz_S) : Int → zz_S → Prop := fun r S => S0 = S ∧ ((-2147483648) ≤ r ∧ r ≤ 2147483647)
theorem zc_narrowing_4_6 {g : mm_G} {l : Launch} (t : Int) (S0 : zz_S) (n : Nat) (hn : zz_end ≤ n) (G_S0 : zz_G S0) (ht : 0 ≤ t ∧ t ≤ 23) : mm_Met g l zy_narrowing_4_6 zr_narrowing_4_6 [.ref (zz_rf 6 t)] (zz_M S0 n) n (zz_QI n (zp_narrowing_4_6 t S0)) := by
  refine zz_enter (by decide) (Nat.le_of_ble_eq_true rfl) (zz_less (ls1 := [some (.ref (zz_rf 6 t))]) ⟨rfl, trivial⟩ ?_)
  have b_t := zz_rf6 (z := t) (by omega)
  refine zz_aload_n (x := zz_rf 6 t) rfl zd_4_6_0 ?_
  have g1 := zz_G.r G_S0 (zz_rf 6 t) 8 0 1 (zR_k6_8 (by omega)) (zB_k6 (by omega))
  refine zz_geti (z := S0 (zz_rf 6 t) 8) zd_4_6_1 zf_Layer_38 (zT_k6 (by omega)) rfl (zN_k6 hn (by omega)) rfl ?_
  refine zz_if_eq (by omega) zd_4_6_4 (fun c2 => ?_) (fun c2 => ?_)
  · refine zz_aload_n (x := zz_rf 6 t) rfl zd_4_6_17 ?_
    have g3 := zz_G.r G_S0 (zz_rf 6 t) 7 (-2147483648) 2147483647 (zR_k6_7 (by omega)) (zB_k6 (by omega))
    refine zz_geti (z := S0 (zz_rf 6 t) 7) zd_4_6_18 zf_Layer_35 (zT_k6 (by omega)) rfl (zN_k6 hn (by omega)) rfl ?_
    exact zz_iret zd_4_6_21 rfl (Nat.zero_le _) (Nat.zero_le _) ⟨_, _, rfl, rfl, by omega⟩
  · refine zz_bipush (by decide) zd_4_6_7 ?_
    refine zz_aload_n (x := zz_rf 6 t) rfl zd_4_6_9 ?_
    have g4 := zz_G.r G_S0 (zz_rf 6 t) 7 (-2147483648) 2147483647 (zR_k6_7 (by omega)) (zB_k6 (by omega))
    refine zz_geti (z := S0 (zz_rf 6 t) 7) zd_4_6_10 zf_Layer_35 (zT_k6 (by omega)) rfl (zN_k6 hn (by omega)) rfl ?_
    refine zz_iadd zd_4_6_13 ?_
    refine zz_nrm (fun v5 hv5 ev5 => ?_)
    refine zz_goto zd_4_6_14 ?_
    exact zz_iret zd_4_6_21 rfl (Nat.zero_le _) (Nat.zero_le _) ⟨_, _, rfl, rfl, by omega⟩
theorem zk_Compiler_136 : mm_Vl "TensorForge$Compiler" 136 2 0 zy_narrowing_4_6 := ⟨zyw_narrowing_4_6, (R_Layer, F_Layer, 15), rfl, mm_tb_1 1475 (by decide +kernel) rfl, mm_tb_1 904 (by decide +kernel) rfl, mm_tb_1 905 (by decide +kernel) rfl⟩
theorem zd_3_4_323 : zz_D zy_makeTile_3_4 323 (.invokestatic 132) 3 326 := ⟨by decide +kernel, rfl⟩
theorem zd_3_4_326 : zz_D zy_makeTile_3_4 326 (.lor) 1 327 := ⟨by decide +kernel, rfl⟩
theorem zd_3_4_327 : zz_D zy_makeTile_3_4 327 (.iconst 3) 1 328 := ⟨by decide +kernel, rfl⟩
theorem zd_3_4_328 : zz_D zy_makeTile_3_4 328 (.invokestatic 139) 3 331 := ⟨by decide +kernel, rfl⟩
theorem zd_3_4_331 : zz_D zy_makeTile_3_4 331 (.lor) 1 332 := ⟨by decide +kernel, rfl⟩
theorem zd_3_4_332 : zz_D zy_makeTile_3_4 332 (.iconst 4) 1 333 := ⟨by decide +kernel, rfl⟩
theorem zd_3_4_333 : zz_D zy_makeTile_3_4 333 (.invokestatic 139) 3 336 := ⟨by decide +kernel, rfl⟩
theorem zd_3_4_336 : zz_D zy_makeTile_3_4 336 (.lor) 1 337 := ⟨by decide +kernel, rfl⟩
theorem zd_3_4_337 : zz_D zy_makeTile_3_4 337 (.lstore 8) 2 339 := ⟨by decide +kernel, rfl⟩
theorem zd_3_4_339 : zz_D zy_makeTile_3_4 339 (.aload_n 0) 1 340 := ⟨by decide +kernel, rfl⟩
theorem zd_3_4_340 : zz_D zy_makeTile_3_4 340 (.aload_n 0) 1 341 := ⟨by decide +kernel, rfl⟩
theorem zd_3_4_341 : zz_D zy_makeTile_3_4 341 (.getfield 70) 3 344 := ⟨by decide +kernel, rfl⟩
theorem zd_3_4_344 : zz_D zy_makeTile_3_4 344 (.iconst 1) 1 345 := ⟨by decide +kernel, rfl⟩
theorem zd_3_4_345 : zz_B zy_makeTile_3_4 345 (Instr.if_icmp .le) 358 348 := ⟨13, by decide +kernel, rfl, rfl⟩
theorem zd_3_4_358 : zz_D zy_makeTile_3_4 358 (.lload 8) 2 360 := ⟨by decide +kernel, rfl⟩
theorem zd_3_4_360 : zz_D zy_makeTile_3_4 360 (.invokevirtual 143) 3 363 := ⟨by decide +kernel, rfl⟩
theorem zd_3_4_363 : zz_D zy_makeTile_3_4 363 (.aload_n 0) 1 364 := ⟨by decide +kernel, rfl⟩
theorem zd_3_4_364 : zz_D zy_makeTile_3_4 364 (.bipush 8) 2 366 := ⟨by decide +kernel, rfl⟩
theorem zd_3_4_366 : zz_D zy_makeTile_3_4 366 (.aload_n 0) 1 367 := ⟨by decide +kernel, rfl⟩
theorem zd_3_4_367 : zz_D zy_makeTile_3_4 367 (.getfield 91) 3 370 := ⟨by decide +kernel, rfl⟩
theorem zd_3_4_370 : zz_D zy_makeTile_3_4 370 (.aload_n 0) 1 371 := ⟨by decide +kernel, rfl⟩
theorem zd_3_4_371 : zz_D zy_makeTile_3_4 371 (.getfield 82) 3 374 := ⟨by decide +kernel, rfl⟩
theorem zd_3_4_374 : zz_D zy_makeTile_3_4 374 (.invokestatic 128) 3 377 := ⟨by decide +kernel, rfl⟩
theorem zd_3_4_377 : zz_D zy_makeTile_3_4 377 (.bipush 8) 2 379 := ⟨by decide +kernel, rfl⟩
theorem zd_3_4_379 : zz_D zy_makeTile_3_4 379 (.iload 7) 2 381 := ⟨by decide +kernel, rfl⟩
theorem zd_3_4_381 : zz_D zy_makeTile_3_4 381 (.invokestatic 132) 3 384 := ⟨by decide +kernel, rfl⟩
theorem zd_3_4_384 : zz_D zy_makeTile_3_4 384 (.lor) 1 385 := ⟨by decide +kernel, rfl⟩
theorem zd_3_4_385 : zz_D zy_makeTile_3_4 385 (.iconst 5) 1 386 := ⟨by decide +kernel, rfl⟩
theorem zd_3_4_386 : zz_D zy_makeTile_3_4 386 (.aload_n 0) 1 387 := ⟨by decide +kernel, rfl⟩
theorem zd_3_4_387 : zz_D zy_makeTile_3_4 387 (.getfield 51) 3 390 := ⟨by decide +kernel, rfl⟩
theorem zd_3_4_390 : zz_D zy_makeTile_3_4 390 (.aload_n 0) 1 391 := ⟨by decide +kernel, rfl⟩
theorem zd_3_4_391 : zz_D zy_makeTile_3_4 391 (.getfield 85) 3 394 := ⟨by decide +kernel, rfl⟩
theorem zd_3_4_394 : zz_D zy_makeTile_3_4 394 (.aload_n 0) 1 395 := ⟨by decide +kernel, rfl⟩
theorem zd_3_4_395 : zz_D zy_makeTile_3_4 395 (.getfield 88) 3 398 := ⟨by decide +kernel, rfl⟩
theorem zd_3_4_398 : zz_D zy_makeTile_3_4 398 (.aload_n 0) 1 399 := ⟨by decide +kernel, rfl⟩
theorem zd_3_4_399 : zz_D zy_makeTile_3_4 399 (.getfield 76) 3 402 := ⟨by decide +kernel, rfl⟩
theorem zd_3_4_402 : zz_D zy_makeTile_3_4 402 (.invokevirtual 147) 3 405 := ⟨by decide +kernel, rfl⟩
abbrev zy_cellAt_4_15 : mm_Y := (⟨"TensorForge$Layer", "cellAt", "(III)I"⟩, prog_4_method_15_code, 4, (some .int))
theorem zyw_cellAt_4_15 : mm_Yw zy_cellAt_4_15 3 := ⟨mm_tb_1 869 (by decide +kernel) rfl, mm_tb_1 3 (by decide +kernel) rfl, ⟨by decide, by decide⟩, by decide +kernel⟩
theorem zd_4_15_0 : zz_D zy_cellAt_4_15 0 (.aload_n 0) 1 1 := ⟨by decide +kernel, rfl⟩
theorem zd_4_15_1 : zz_D zy_cellAt_4_15 1 (.getfield 48) 3 4 := ⟨by decide +kernel, rfl⟩
theorem zd_4_15_4 : zz_D zy_cellAt_4_15 4 (.iload_n 1) 1 5 := ⟨by decide +kernel, rfl⟩
theorem zd_4_15_5 : zz_D zy_cellAt_4_15 5 (.aload_n 0) 1 6 := ⟨by decide +kernel, rfl⟩
theorem zd_4_15_6 : zz_D zy_cellAt_4_15 6 (.getfield 57) 3 9 := ⟨by decide +kernel, rfl⟩
theorem zd_4_15_9 : zz_D zy_cellAt_4_15 9 (.imul) 1 10 := ⟨by decide +kernel, rfl⟩
theorem zd_4_15_10 : zz_D zy_cellAt_4_15 10 (.iload_n 2) 1 11 := ⟨by decide +kernel, rfl⟩
theorem zd_4_15_11 : zz_D zy_cellAt_4_15 11 (.iadd) 1 12 := ⟨by decide +kernel, rfl⟩
theorem zd_4_15_12 : zz_D zy_cellAt_4_15 12 (.aload_n 0) 1 13 := ⟨by decide +kernel, rfl⟩
theorem zd_4_15_13 : zz_D zy_cellAt_4_15 13 (.getfield 60) 3 16 := ⟨by decide +kernel, rfl⟩
theorem zd_4_15_16 : zz_D zy_cellAt_4_15 16 (.imul) 1 17 := ⟨by decide +kernel, rfl⟩
theorem zd_4_15_17 : zz_D zy_cellAt_4_15 17 (.iadd) 1 18 := ⟨by decide +kernel, rfl⟩
theorem zd_4_15_18 : zz_D zy_cellAt_4_15 18 (.iload_n 3) 1 19 := ⟨by decide +kernel, rfl⟩
theorem zd_4_15_19 : zz_D zy_cellAt_4_15 19 (.iadd) 1 20 := ⟨by decide +kernel, rfl⟩
theorem zd_4_15_20 : zz_D zy_cellAt_4_15 20 (.ireturn) 1 21 := ⟨by decide +kernel, rfl⟩
-- TensorForge$Layer cellAt (III)I
abbrev zr_cellAt_4_15 : Room := { frames := 0, cells := 0, slots := 0, locals := 0 }
def zp_cellAt_4_15 (t : Int) (p0 : Int) (p1 : Int) (p2 : Int) (S0 : zz_S) : Int → zz_S → Prop := fun r S => S0 = S ∧ ((-2147483648) ≤ r ∧ r ≤ 2147483647)
theorem zc_cellAt_4_15 {g : mm_G} {l : Launch} (t : Int) (p0 : Int) (p1 : Int) (p2 : Int) (S0 : zz_S) (n : Nat) (hn : zz_end ≤ n) (G_S0 : zz_G S0) (ht : 0 ≤ t ∧ t ≤ 23) (hp0 : (-2147483648) ≤ p0 ∧ p0 ≤ 2147483647) (hp1 : (-2147483648) ≤ p1 ∧ p1 ≤ 2147483647) (hp2 : (-2147483648) ≤ p2 ∧ p2 ≤ 2147483647) : mm_Met g l zy_cellAt_4_15 zr_cellAt_4_15 [.ref (zz_rf 6 t), zi p0, zi p1, zi p2] (zz_M S0 n) n (zz_QI n (zp_cellAt_4_15 t p0 p1 p2 S0)) := by
  refine zz_enter (by decide) (Nat.le_of_ble_eq_true rfl) (zz_less (ls1 := [some (.ref (zz_rf 6 t)), some (zi p0), some (zi p1), some (zi p2)]) ⟨rfl, ⟨rfl, ⟨rfl, ⟨rfl, trivial⟩⟩⟩⟩ ?_)
  have b_t := zz_rf6 (z := t) (by omega)
  refine zz_aload_n (x := zz_rf 6 t) rfl zd_4_15_0 ?_
  have g1 := zz_G.r G_S0 (zz_rf 6 t) 13 (-2147483648) 2147483647 (zR_k6_13 (by omega)) (zB_k6 (by omega))
  refine zz_geti (z := S0 (zz_rf 6 t) 13) zd_4_15_1 zf_Layer_48 (zT_k6 (by omega)) rfl (zN_k6 hn (by omega)) rfl ?_
  refine zz_iload_n (x := p0) rfl zd_4_15_4 ?_
  refine zz_aload_n (x := zz_rf 6 t) rfl zd_4_15_5 ?_
  have g2 := zz_G.r G_S0 (zz_rf 6 t) 11 (-2147483648) 2147483647 (zR_k6_11 (by omega)) (zB_k6 (by omega))
  refine zz_geti (z := S0 (zz_rf 6 t) 11) zd_4_15_6 zf_Layer_57 (zT_k6 (by omega)) rfl (zN_k6 hn (by omega)) rfl ?_
  refine zz_imul zd_4_15_9 ?_
  refine zz_nrm (fun v3 hv3 ev3 => ?_)
  refine zz_iload_n (x := p1) rfl zd_4_15_10 ?_
  refine zz_iadd zd_4_15_11 ?_
  refine zz_nrm (fun v4 hv4 ev4 => ?_)
  refine zz_aload_n (x := zz_rf 6 t) rfl zd_4_15_12 ?_
  have g5 := zz_G.r G_S0 (zz_rf 6 t) 12 (-2147483648) 2147483647 (zR_k6_12 (by omega)) (zB_k6 (by omega))
  refine zz_geti (z := S0 (zz_rf 6 t) 12) zd_4_15_13 zf_Layer_60 (zT_k6 (by omega)) rfl (zN_k6 hn (by omega)) rfl ?_
  refine zz_imul zd_4_15_16 ?_
  refine zz_nrm (fun v6 hv6 ev6 => ?_)
  refine zz_iadd zd_4_15_17 ?_
  refine zz_nrm (fun v7 hv7 ev7 => ?_)
  refine zz_iload_n (x := p2) rfl zd_4_15_18 ?_
  refine zz_iadd zd_4_15_19 ?_
  refine zz_nrm (fun v8 hv8 ev8 => ?_)
  exact zz_iret zd_4_15_20 rfl (Nat.zero_le _) (Nat.zero_le _) ⟨_, _, rfl, rfl, by omega⟩
theorem zk_Compiler_147 : mm_Vl "TensorForge$Compiler" 147 2 3 zy_cellAt_4_15 := ⟨zyw_cellAt_4_15, (R_Layer, F_Layer, 15), rfl, mm_tb_1 1458 (by decide +kernel) rfl, mm_tb_1 867 (by decide +kernel) rfl, mm_tb_1 868 (by decide +kernel) rfl⟩
theorem zd_3_4_405 : zz_D zy_makeTile_3_4 405 (.invokestatic 132) 3 408 := ⟨by decide +kernel, rfl⟩
theorem zd_3_4_408 : zz_D zy_makeTile_3_4 408 (.lor) 1 409 := ⟨by decide +kernel, rfl⟩
theorem zd_3_4_409 : zz_D zy_makeTile_3_4 409 (.bipush 10) 2 411 := ⟨by decide +kernel, rfl⟩
theorem zd_3_4_411 : zz_D zy_makeTile_3_4 411 (.aload_n 0) 1 412 := ⟨by decide +kernel, rfl⟩
theorem zd_3_4_412 : zz_D zy_makeTile_3_4 412 (.getfield 51) 3 415 := ⟨by decide +kernel, rfl⟩
theorem zd_3_4_415 : zz_D zy_makeTile_3_4 415 (.getfield 79) 3 418 := ⟨by decide +kernel, rfl⟩
theorem zd_3_4_418 : zz_D zy_makeTile_3_4 418 (.invokestatic 132) 3 421 := ⟨by decide +kernel, rfl⟩
theorem zd_3_4_421 : zz_D zy_makeTile_3_4 421 (.lor) 1 422 := ⟨by decide +kernel, rfl⟩
theorem zd_3_4_422 : zz_D zy_makeTile_3_4 422 (.iconst 1) 1 423 := ⟨by decide +kernel, rfl⟩
theorem zd_3_4_423 : zz_D zy_makeTile_3_4 423 (.invokestatic 139) 3 426 := ⟨by decide +kernel, rfl⟩
theorem zd_3_4_426 : zz_D zy_makeTile_3_4 426 (.lor) 1 427 := ⟨by decide +kernel, rfl⟩
theorem zd_3_4_427 : zz_D zy_makeTile_3_4 427 (.iconst 3) 1 428 := ⟨by decide +kernel, rfl⟩
theorem zd_3_4_428 : zz_D zy_makeTile_3_4 428 (.invokestatic 139) 3 431 := ⟨by decide +kernel, rfl⟩
theorem zd_3_4_431 : zz_D zy_makeTile_3_4 431 (.lor) 1 432 := ⟨by decide +kernel, rfl⟩
theorem zd_3_4_432 : zz_D zy_makeTile_3_4 432 (.invokevirtual 143) 3 435 := ⟨by decide +kernel, rfl⟩
theorem zd_3_4_435 : zz_D zy_makeTile_3_4 435 (.aload_n 0) 1 436 := ⟨by decide +kernel, rfl⟩
theorem zd_3_4_436 : zz_D zy_makeTile_3_4 436 (.dup) 1 437 := ⟨by decide +kernel, rfl⟩
theorem zd_3_4_437 : zz_D zy_makeTile_3_4 437 (.getfield 70) 3 440 := ⟨by decide +kernel, rfl⟩
theorem zd_3_4_440 : zz_D zy_makeTile_3_4 440 (.iconst 1) 1 441 := ⟨by decide +kernel, rfl⟩
theorem zd_3_4_441 : zz_D zy_makeTile_3_4 441 (.iadd) 1 442 := ⟨by decide +kernel, rfl⟩
theorem zd_3_4_442 : zz_D zy_makeTile_3_4 442 (.putfield 70) 3 445 := ⟨by decide +kernel, rfl⟩
theorem zd_3_4_445 : zz_D zy_makeTile_3_4 445 (.return_) 1 446 := ⟨by decide +kernel, rfl⟩
theorem zd_3_4_348 : zz_D zy_makeTile_3_4 348 (.lload 8) 2 350 := ⟨by decide +kernel, rfl⟩
theorem zd_3_4_350 : zz_D zy_makeTile_3_4 350 (.iconst 2) 1 351 := ⟨by decide +kernel, rfl⟩
theorem zd_3_4_351 : zz_D zy_makeTile_3_4 351 (.invokestatic 139) 3 354 := ⟨by decide +kernel, rfl⟩
theorem zd_3_4_354 : zz_D zy_makeTile_3_4 354 (.lor) 1 355 := ⟨by decide +kernel, rfl⟩
theorem zd_3_4_355 : zz_B zy_makeTile_3_4 355 Instr.goto 360 358 := ⟨5, by decide +kernel, rfl, rfl⟩
theorem zd_3_4_103 : zz_D zy_makeTile_3_4 103 (.aload_n 0) 1 104 := ⟨by decide +kernel, rfl⟩
theorem zd_3_4_104 : zz_D zy_makeTile_3_4 104 (.iconst 0) 1 105 := ⟨by decide +kernel, rfl⟩
theorem zd_3_4_105 : zz_D zy_makeTile_3_4 105 (.putfield 109) 3 108 := ⟨by decide +kernel, rfl⟩
theorem zf_Compiler_109 : mm_Fl "TensorForge$Compiler" 109 9 14 .int false := ⟨R_Compiler, F_Compiler, 17, t_Compiler, rfl, i_Compiler, by decide, mm_tb_1 389 (by decide +kernel) rfl, rfl, t_Compiler_ok, n_Compiler, rfl, by decide +kernel⟩
theorem zd_3_4_108 : zz_D zy_makeTile_3_4 108 (.aload_n 0) 1 109 := ⟨by decide +kernel, rfl⟩
theorem zd_3_4_109 : zz_D zy_makeTile_3_4 109 (.getfield 109) 3 112 := ⟨by decide +kernel, rfl⟩
theorem zd_3_4_112 : zz_D zy_makeTile_3_4 112 (.iload 4) 2 114 := ⟨by decide +kernel, rfl⟩
theorem zd_3_4_114 : zz_B zy_makeTile_3_4 114 (Instr.if_icmp .ge) 266 117 := ⟨152, by decide +kernel, rfl, rfl⟩
theorem zd_3_4_266 : zz_D zy_makeTile_3_4 266 (.aload_n 0) 1 267 := ⟨by decide +kernel, rfl⟩
theorem zd_3_4_267 : zz_D zy_makeTile_3_4 267 (.dup) 1 268 := ⟨by decide +kernel, rfl⟩
theorem zd_3_4_268 : zz_D zy_makeTile_3_4 268 (.getfield 106) 3 271 := ⟨by decide +kernel, rfl⟩
theorem zd_3_4_271 : zz_D zy_makeTile_3_4 271 (.iconst 1) 1 272 := ⟨by decide +kernel, rfl⟩
theorem zd_3_4_272 : zz_D zy_makeTile_3_4 272 (.iadd) 1 273 := ⟨by decide +kernel, rfl⟩
theorem zd_3_4_273 : zz_D zy_makeTile_3_4 273 (.putfield 106) 3 276 := ⟨by decide +kernel, rfl⟩
theorem zd_3_4_276 : zz_B zy_makeTile_3_4 276 Instr.goto 95 279 := ⟨(-181), by decide +kernel, rfl, rfl⟩
theorem zd_3_4_117 : zz_D zy_makeTile_3_4 117 (.aload_n 0) 1 118 := ⟨by decide +kernel, rfl⟩
theorem zd_3_4_118 : zz_D zy_makeTile_3_4 118 (.iconst 0) 1 119 := ⟨by decide +kernel, rfl⟩
theorem zd_3_4_119 : zz_D zy_makeTile_3_4 119 (.putfield 112) 3 122 := ⟨by decide +kernel, rfl⟩
theorem zf_Compiler_112 : mm_Fl "TensorForge$Compiler" 112 9 15 .int false := ⟨R_Compiler, F_Compiler, 17, t_Compiler, rfl, i_Compiler, by decide, mm_tb_1 390 (by decide +kernel) rfl, rfl, t_Compiler_ok, n_Compiler, rfl, by decide +kernel⟩
theorem zd_3_4_122 : zz_D zy_makeTile_3_4 122 (.aload_n 0) 1 123 := ⟨by decide +kernel, rfl⟩
theorem zd_3_4_123 : zz_D zy_makeTile_3_4 123 (.getfield 112) 3 126 := ⟨by decide +kernel, rfl⟩
theorem zd_3_4_126 : zz_D zy_makeTile_3_4 126 (.iload 5) 2 128 := ⟨by decide +kernel, rfl⟩
theorem zd_3_4_128 : zz_B zy_makeTile_3_4 128 (Instr.if_icmp .ge) 253 131 := ⟨125, by decide +kernel, rfl, rfl⟩
theorem zd_3_4_253 : zz_D zy_makeTile_3_4 253 (.aload_n 0) 1 254 := ⟨by decide +kernel, rfl⟩
theorem zd_3_4_254 : zz_D zy_makeTile_3_4 254 (.dup) 1 255 := ⟨by decide +kernel, rfl⟩
theorem zd_3_4_255 : zz_D zy_makeTile_3_4 255 (.getfield 109) 3 258 := ⟨by decide +kernel, rfl⟩
theorem zd_3_4_258 : zz_D zy_makeTile_3_4 258 (.iconst 1) 1 259 := ⟨by decide +kernel, rfl⟩
theorem zd_3_4_259 : zz_D zy_makeTile_3_4 259 (.iadd) 1 260 := ⟨by decide +kernel, rfl⟩
theorem zd_3_4_260 : zz_D zy_makeTile_3_4 260 (.putfield 109) 3 263 := ⟨by decide +kernel, rfl⟩
theorem zd_3_4_263 : zz_B zy_makeTile_3_4 263 Instr.goto 108 266 := ⟨(-155), by decide +kernel, rfl, rfl⟩
theorem zd_3_4_131 : zz_D zy_makeTile_3_4 131 (.aload_n 0) 1 132 := ⟨by decide +kernel, rfl⟩
theorem zd_3_4_132 : zz_D zy_makeTile_3_4 132 (.iload_n 1) 1 133 := ⟨by decide +kernel, rfl⟩
theorem zd_3_4_133 : zz_B zy_makeTile_3_4 133 (Instr.ifCond .eq) 158 136 := ⟨25, by decide +kernel, rfl, rfl⟩
theorem zd_3_4_158 : zz_D zy_makeTile_3_4 158 (.aload_n 0) 1 159 := ⟨by decide +kernel, rfl⟩
theorem zd_3_4_159 : zz_D zy_makeTile_3_4 159 (.getfield 82) 3 162 := ⟨by decide +kernel, rfl⟩
theorem zd_3_4_162 : zz_D zy_makeTile_3_4 162 (.putfield 115) 3 165 := ⟨by decide +kernel, rfl⟩
theorem zf_Compiler_115 : mm_Fl "TensorForge$Compiler" 115 9 16 .int false := ⟨R_Compiler, F_Compiler, 17, t_Compiler, rfl, i_Compiler, by decide, mm_tb_1 391 (by decide +kernel) rfl, rfl, t_Compiler_ok, n_Compiler, rfl, by decide +kernel⟩
theorem zd_3_4_165 : zz_D zy_makeTile_3_4 165 (.aload_n 0) 1 166 := ⟨by decide +kernel, rfl⟩
theorem zd_3_4_166 : zz_D zy_makeTile_3_4 166 (.getfield 106) 3 169 := ⟨by decide +kernel, rfl⟩
theorem zd_3_4_169 : zz_D zy_makeTile_3_4 169 (.iload_n 3) 1 170 := ⟨by decide +kernel, rfl⟩
theorem zd_3_4_170 : zz_D zy_makeTile_3_4 170 (.iconst 1) 1 171 := ⟨by decide +kernel, rfl⟩
theorem zd_3_4_171 : zz_D zy_makeTile_3_4 171 (.isub) 1 172 := ⟨by decide +kernel, rfl⟩
theorem zd_3_4_172 : zz_B zy_makeTile_3_4 172 (Instr.if_icmp .ne) 204 175 := ⟨32, by decide +kernel, rfl, rfl⟩
theorem zd_3_4_204 : zz_D zy_makeTile_3_4 204 (.iconst 0) 1 205 := ⟨by decide +kernel, rfl⟩
theorem zd_3_4_205 : zz_D zy_makeTile_3_4 205 (.istore 7) 2 207 := ⟨by decide +kernel, rfl⟩
theorem zd_3_4_207 : zz_D zy_makeTile_3_4 207 (.aload_n 0) 1 208 := ⟨by decide +kernel, rfl⟩
theorem zd_3_4_208 : zz_D zy_makeTile_3_4 208 (.aload_n 0) 1 209 := ⟨by decide +kernel, rfl⟩
theorem zd_3_4_209 : zz_D zy_makeTile_3_4 209 (.getfield 73) 3 212 := ⟨by decide +kernel, rfl⟩
theorem zd_3_4_212 : zz_D zy_makeTile_3_4 212 (.iload 6) 2 214 := ⟨by decide +kernel, rfl⟩
theorem zd_3_4_214 : zz_B zy_makeTile_3_4 214 (Instr.if_icmp .ne) 221 217 := ⟨7, by decide +kernel, rfl, rfl⟩
theorem zd_3_4_221 : zz_D zy_makeTile_3_4 221 (.iconst 0) 1 222 := ⟨by decide +kernel, rfl⟩
theorem zd_3_4_222 : zz_D zy_makeTile_3_4 222 (.iload 7) 2 224 := ⟨by decide +kernel, rfl⟩
theorem zd_3_4_224 : zz_D zy_makeTile_3_4 224 (.invokevirtual 118) 3 227 := ⟨by decide +kernel, rfl⟩
abbrev zy_makeGroup_3_5 : mm_Y := (⟨"TensorForge$Compiler", "makeGroup", "(ZZ)V"⟩, prog_3_method_5_code, 6, none)
theorem zyw_makeGroup_3_5 : mm_Yw zy_makeGroup_3_5 2 := ⟨mm_tb_1 1423 (by decide +kernel) rfl, mm_tb_1 10 (by decide +kernel) rfl, ⟨by decide, by decide⟩, by decide +kernel⟩
theorem zd_3_5_0 : zz_D zy_makeGroup_3_5 0 (.aload_n 0) 1 1 := ⟨by decide +kernel, rfl⟩
theorem zd_3_5_1 : zz_D zy_makeGroup_3_5 1 (.getfield 15) 3 4 := ⟨by decide +kernel, rfl⟩
theorem zd_3_5_4 : zz_D zy_makeGroup_3_5 4 (.istore_n 3) 1 5 := ⟨by decide +kernel, rfl⟩
theorem zd_3_5_5 : zz_D zy_makeGroup_3_5 5 (.aload_n 0) 1 6 := ⟨by decide +kernel, rfl⟩
theorem zd_3_5_6 : zz_D zy_makeGroup_3_5 6 (.getfield 51) 3 9 := ⟨by decide +kernel, rfl⟩
theorem zd_3_5_9 : zz_D zy_makeGroup_3_5 9 (.getfield 61) 3 12 := ⟨by decide +kernel, rfl⟩
theorem zd_3_5_12 : zz_D zy_makeGroup_3_5 12 (.iconst 1) 1 13 := ⟨by decide +kernel, rfl⟩
theorem zd_3_5_13 : zz_B zy_makeGroup_3_5 13 (Instr.if_icmp .ne) 32 16 := ⟨19, by decide +kernel, rfl, rfl⟩
theorem zd_3_5_32 : zz_D zy_makeGroup_3_5 32 (.aload_n 0) 1 33 := ⟨by decide +kernel, rfl⟩
theorem zd_3_5_33 : zz_D zy_makeGroup_3_5 33 (.getfield 51) 3 36 := ⟨by decide +kernel, rfl⟩
theorem zd_3_5_36 : zz_D zy_makeGroup_3_5 36 (.getfield 61) 3 39 := ⟨by decide +kernel, rfl⟩
theorem zd_3_5_39 : zz_D zy_makeGroup_3_5 39 (.iconst 2) 1 40 := ⟨by decide +kernel, rfl⟩
theorem zd_3_5_40 : zz_B zy_makeGroup_3_5 40 (Instr.if_icmp .ne) 54 43 := ⟨14, by decide +kernel, rfl, rfl⟩
theorem zd_3_5_54 : zz_D zy_makeGroup_3_5 54 (.aload_n 0) 1 55 := ⟨by decide +kernel, rfl⟩
theorem zd_3_5_55 : zz_D zy_makeGroup_3_5 55 (.getfield 109) 3 58 := ⟨by decide +kernel, rfl⟩
theorem zd_3_5_58 : zz_B zy_makeGroup_3_5 58 (Instr.ifCond .ne) 68 61 := ⟨10, by decide +kernel, rfl, rfl⟩
theorem zd_3_5_68 : zz_D zy_makeGroup_3_5 68 (.aload_n 0) 1 69 := ⟨by decide +kernel, rfl⟩
theorem zd_3_5_69 : zz_D zy_makeGroup_3_5 69 (.getfield 58) 3 72 := ⟨by decide +kernel, rfl⟩
theorem zd_3_5_72 : zz_D zy_makeGroup_3_5 72 (.astore 4) 2 74 := ⟨by decide +kernel, rfl⟩
theorem zd_3_5_74 : zz_D zy_makeGroup_3_5 74 (.aload_n 0) 1 75 := ⟨by decide +kernel, rfl⟩
theorem zd_3_5_75 : zz_D zy_makeGroup_3_5 75 (.iconst 0) 1 76 := ⟨by decide +kernel, rfl⟩
theorem zd_3_5_76 : zz_D zy_makeGroup_3_5 76 (.aload_n 0) 1 77 := ⟨by decide +kernel, rfl⟩
theorem zd_3_5_77 : zz_D zy_makeGroup_3_5 77 (.getfield 91) 3 80 := ⟨by decide +kernel, rfl⟩
theorem zd_3_5_80 : zz_D zy_makeGroup_3_5 80 (.aload 4) 2 82 := ⟨by decide +kernel, rfl⟩
theorem zd_3_5_82 : zz_D zy_makeGroup_3_5 82 (.iconst 0) 1 83 := ⟨by decide +kernel, rfl⟩
theorem zd_3_5_83 : zz_D zy_makeGroup_3_5 83 (.aload_n 0) 1 84 := ⟨by decide +kernel, rfl⟩
theorem zd_3_5_84 : zz_D zy_makeGroup_3_5 84 (.getfield 88) 3 87 := ⟨by decide +kernel, rfl⟩
theorem zd_3_5_87 : zz_D zy_makeGroup_3_5 87 (.aload_n 0) 1 88 := ⟨by decide +kernel, rfl⟩
theorem zd_3_5_88 : zz_D zy_makeGroup_3_5 88 (.getfield 76) 3 91 := ⟨by decide +kernel, rfl⟩
theorem zd_3_5_91 : zz_D zy_makeGroup_3_5 91 (.invokevirtual 147) 3 94 := ⟨by decide +kernel, rfl⟩
theorem zd_3_5_94 : zz_D zy_makeGroup_3_5 94 (.aload 4) 2 96 := ⟨by decide +kernel, rfl⟩
theorem zd_3_5_96 : zz_D zy_makeGroup_3_5 96 (.getfield 79) 3 99 := ⟨by decide +kernel, rfl⟩
theorem zd_3_5_99 : zz_D zy_makeGroup_3_5 99 (.invokevirtual 159) 3 102 := ⟨by decide +kernel, rfl⟩
abbrev zy_loadPlaces_3_10 : mm_Y := (⟨"TensorForge$Compiler", "loadPlaces", "(IIII)V"⟩, prog_3_method_10_code, 5, none)
theorem zyw_loadPlaces_3_10 : mm_Yw zy_loadPlaces_3_10 4 := ⟨mm_tb_1 1462 (by decide +kernel) rfl, mm_tb_1 10 (by decide +kernel) rfl, ⟨by decide, by decide⟩, by decide +kernel⟩
theorem zd_3_10_0 : zz_D zy_loadPlaces_3_10 0 (.iload_n 2) 1 1 := ⟨by decide +kernel, rfl⟩
theorem zd_3_10_1 : zz_D zy_loadPlaces_3_10 1 (.iload_n 1) 1 2 := ⟨by decide +kernel, rfl⟩
theorem zd_3_10_2 : zz_B zy_loadPlaces_3_10 2 (Instr.if_icmp .le) 51 5 := ⟨49, by decide +kernel, rfl, rfl⟩
theorem zd_3_10_51 : zz_D zy_loadPlaces_3_10 51 (.return_) 1 52 := ⟨by decide +kernel, rfl⟩
theorem zd_3_10_5 : zz_D zy_loadPlaces_3_10 5 (.aload_n 0) 1 6 := ⟨by decide +kernel, rfl⟩
theorem zd_3_10_6 : zz_D zy_loadPlaces_3_10 6 (.iconst 1) 1 7 := ⟨by decide +kernel, rfl⟩
theorem zd_3_10_7 : zz_D zy_loadPlaces_3_10 7 (.iload_n 2) 1 8 := ⟨by decide +kernel, rfl⟩
theorem zd_3_10_8 : zz_D zy_loadPlaces_3_10 8 (.iload_n 1) 1 9 := ⟨by decide +kernel, rfl⟩
theorem zd_3_10_9 : zz_D zy_loadPlaces_3_10 9 (.isub) 1 10 := ⟨by decide +kernel, rfl⟩
theorem zd_3_10_10 : zz_D zy_loadPlaces_3_10 10 (.aload_n 0) 1 11 := ⟨by decide +kernel, rfl⟩
theorem zd_3_10_11 : zz_D zy_loadPlaces_3_10 11 (.getfield 115) 3 14 := ⟨by decide +kernel, rfl⟩
theorem zd_3_10_14 : zz_D zy_loadPlaces_3_10 14 (.invokestatic 128) 3 17 := ⟨by decide +kernel, rfl⟩
theorem zd_3_10_17 : zz_D zy_loadPlaces_3_10 17 (.bipush 8) 2 19 := ⟨by decide +kernel, rfl⟩
theorem zd_3_10_19 : zz_D zy_loadPlaces_3_10 19 (.aload_n 0) 1 20 := ⟨by decide +kernel, rfl⟩
theorem zd_3_10_20 : zz_D zy_loadPlaces_3_10 20 (.invokevirtual 175) 3 23 := ⟨by decide +kernel, rfl⟩
abbrev zy_groupHalf_3_14 : mm_Y := (⟨"TensorForge$Compiler", "groupHalf", "()I"⟩, prog_3_method_14_code, 1, (some .int))
theorem zyw_groupHalf_3_14 : mm_Yw zy_groupHalf_3_14 0 := ⟨mm_tb_1 1444 (by decide +kernel) rfl, mm_tb_1 10 (by decide +kernel) rfl, ⟨by decide, by decide⟩, by decide +kernel⟩
theorem zd_3_14_0 : zz_D zy_groupHalf_3_14 0 (.sipush 256) 3 3 := ⟨by decide +kernel, rfl⟩
theorem zd_3_14_3 : zz_D zy_groupHalf_3_14 3 (.aload_n 0) 1 4 := ⟨by decide +kernel, rfl⟩
theorem zd_3_14_4 : zz_D zy_groupHalf_3_14 4 (.getfield 73) 3 7 := ⟨by decide +kernel, rfl⟩
theorem zd_3_14_7 : zz_D zy_groupHalf_3_14 7 (.iconst 1) 1 8 := ⟨by decide +kernel, rfl⟩
theorem zd_3_14_8 : zz_D zy_groupHalf_3_14 8 (.iand) 1 9 := ⟨by decide +kernel, rfl⟩
theorem zd_3_14_9 : zz_D zy_groupHalf_3_14 9 (.imul) 1 10 := ⟨by decide +kernel, rfl⟩
theorem zd_3_14_10 : zz_D zy_groupHalf_3_14 10 (.ireturn) 1 11 := ⟨by decide +kernel, rfl⟩
-- TensorForge$Compiler groupHalf ()I
abbrev zr_groupHalf_3_14 : Room := { frames := 0, cells := 0, slots := 0, locals := 0 }
def zp_groupHalf_3_14  (S0 : zz_S) : Int → zz_S → Prop := fun r S => S0 = S ∧ ((-2147483648) ≤ r ∧ r ≤ 2147483647)
theorem zc_groupHalf_3_14 {g : mm_G} {l : Launch}  (S0 : zz_S) (n : Nat) (hn : zz_end ≤ n) (G_S0 : zz_G S0)  : mm_Met g l zy_groupHalf_3_14 zr_groupHalf_3_14 [.ref 1076] (zz_M S0 n) n (zz_QI n (zp_groupHalf_3_14  S0)) := by
  refine zz_enter (by decide) (Nat.le_of_ble_eq_true rfl) (zz_less (ls1 := [some (.ref 1076)]) ⟨rfl, trivial⟩ ?_)
  refine zz_sipush (by decide) zd_3_14_0 ?_
  refine zz_aload_n (x := 1076) rfl zd_3_14_3 ?_
  have g1 := zz_G.r G_S0 1076 12 (-2147483648) 2147483647 rfl rfl
  refine zz_geti (z := S0 1076 12) zd_3_14_4 zf_Compiler_73 zT_1076 rfl (zz_ltn hn rfl) rfl ?_
  refine zz_iconst zd_3_14_7 ?_
  refine zz_iand (by omega) (by omega) zd_3_14_8 (fun v2 hv2 av2 bv2 ev2 => ?_)
  refine zz_imul zd_3_14_9 ?_
  exact zz_iret zd_3_14_10 rfl (Nat.zero_le _) (Nat.zero_le _) ⟨_, _, rfl, rfl, by omega⟩
theorem zk_Compiler_175 : mm_Vl "TensorForge$Compiler" 175 9 0 zy_groupHalf_3_14 := ⟨zyw_groupHalf_3_14, (R_Compiler, F_Compiler, 17), rfl, mm_tb_1 1441 (by decide +kernel) rfl, mm_tb_1 1443 (by decide +kernel) rfl, mm_tb_s 68 (by decide +kernel) rfl⟩
theorem zd_3_10_23 : zz_D zy_loadPlaces_3_10 23 (.iload_n 1) 1 24 := ⟨by decide +kernel, rfl⟩
theorem zd_3_10_24 : zz_D zy_loadPlaces_3_10 24 (.aload_n 0) 1 25 := ⟨by decide +kernel, rfl⟩
theorem zd_3_10_25 : zz_D zy_loadPlaces_3_10 25 (.getfield 21) 3 28 := ⟨by decide +kernel, rfl⟩
theorem zd_3_10_28 : zz_D zy_loadPlaces_3_10 28 (.imul) 1 29 := ⟨by decide +kernel, rfl⟩
theorem zd_3_10_29 : zz_D zy_loadPlaces_3_10 29 (.iadd) 1 30 := ⟨by decide +kernel, rfl⟩
theorem zd_3_10_30 : zz_D zy_loadPlaces_3_10 30 (.invokestatic 132) 3 33 := ⟨by decide +kernel, rfl⟩
theorem zd_3_10_33 : zz_D zy_loadPlaces_3_10 33 (.lor) 1 34 := ⟨by decide +kernel, rfl⟩
theorem zd_3_10_34 : zz_D zy_loadPlaces_3_10 34 (.iconst 5) 1 35 := ⟨by decide +kernel, rfl⟩
theorem zd_3_10_35 : zz_D zy_loadPlaces_3_10 35 (.iload_n 3) 1 36 := ⟨by decide +kernel, rfl⟩
theorem zd_3_10_36 : zz_D zy_loadPlaces_3_10 36 (.invokestatic 132) 3 39 := ⟨by decide +kernel, rfl⟩
theorem zd_3_10_39 : zz_D zy_loadPlaces_3_10 39 (.lor) 1 40 := ⟨by decide +kernel, rfl⟩
theorem zd_3_10_40 : zz_D zy_loadPlaces_3_10 40 (.bipush 10) 2 42 := ⟨by decide +kernel, rfl⟩
theorem zd_3_10_42 : zz_D zy_loadPlaces_3_10 42 (.iload 4) 2 44 := ⟨by decide +kernel, rfl⟩
theorem zd_3_10_44 : zz_D zy_loadPlaces_3_10 44 (.invokestatic 132) 3 47 := ⟨by decide +kernel, rfl⟩
theorem zd_3_10_47 : zz_D zy_loadPlaces_3_10 47 (.lor) 1 48 := ⟨by decide +kernel, rfl⟩
theorem zd_3_10_48 : zz_D zy_loadPlaces_3_10 48 (.invokevirtual 143) 3 51 := ⟨by decide +kernel, rfl⟩
-- TensorForge$Compiler loadPlaces (IIII)V
abbrev zr_loadPlaces_3_10 : Room := { frames := 1, cells := 0, slots := 0, locals := 16 }
def zp_loadPlaces_3_10 (p0 : Int) (p1 : Int) (p2 : Int) (p3 : Int) (S0 : zz_S) : zz_S → Prop := fun S => zz_G S ∧ zz_fr [(1076, 1)] [] (fun a i => a = zz_rf 4 (S0 1076 0)) S0 S ∧ (S0 1076 1 ≤ S 1076 1 ∧ S 1076 1 ≤ S0 1076 1 + 1)
theorem zc_loadPlaces_3_10 {g : mm_G} {l : Launch} (p0 : Int) (p1 : Int) (p2 : Int) (p3 : Int) (S0 : zz_S) (n : Nat) (hn : zz_end ≤ n) (G_S0 : zz_G S0) (hp0 : (-2147483648) ≤ p0 ∧ p0 ≤ 2147483647) (hp1 : (-2147483648) ≤ p1 ∧ p1 ≤ 2147483647) (hp2 : (-2147483648) ≤ p2 ∧ p2 ≤ 2147483647) (hp3 : (-2147483648) ≤ p3 ∧ p3 ≤ 2147483647) (hq : S0 1076 1 ≤ 900000) (hl : 0 ≤ S0 1076 3 ∧ 0 ≤ S0 1076 4 ∧ 0 ≤ S0 1076 5) : mm_Met g l zy_loadPlaces_3_10 zr_loadPlaces_3_10 [.ref 1076, zi p0, zi p1, zi p2, zi p3] (zz_M S0 n) n (zz_QV n (zp_loadPlaces_3_10 p0 p1 p2 p3 S0)) := by
  refine zz_enter (by decide) (Nat.le_of_ble_eq_true rfl) (zz_less (ls1 := [some (.ref 1076), some (zi p0), some (zi p1), some (zi p2), some (zi p3)]) ⟨rfl, ⟨rfl, ⟨rfl, ⟨rfl, ⟨rfl, trivial⟩⟩⟩⟩⟩ ?_)
  have F_S0 : zz_fr [(1076, 1)] [] (fun a i => a = zz_rf 4 (S0 1076 0)) S0 S0 := zz_fr.refl
  refine zz_iload_n (x := p1) rfl zd_3_10_0 ?_
  refine zz_iload_n (x := p0) rfl zd_3_10_1 ?_
  refine zz_icmp_le (by omega) (by omega) zd_3_10_2 (fun c1 => ?_) (fun c1 => ?_)
  · have g2 := zz_G.r G_S0 1076 1 0 1000000 rfl rfl
    exact zz_vret zd_3_10_51 rfl (Nat.zero_le _) (Nat.zero_le _) ⟨_, rfl, G_S0, F_S0, by omega⟩
  · refine zz_aload_n (x := 1076) rfl zd_3_10_5 ?_
    refine zz_iconst zd_3_10_6 ?_
    refine zz_iload_n (x := p1) rfl zd_3_10_7 ?_
    refine zz_iload_n (x := p0) rfl zd_3_10_8 ?_
    refine zz_isub zd_3_10_9 ?_
    refine zz_nrm (fun v3 hv3 ev3 => ?_)
    refine zz_aload_n (x := 1076) rfl zd_3_10_10 ?_
    have g4 := zz_G.r G_S0 1076 16 (-2147483648) 2147483647 rfl rfl
    refine zz_geti (z := S0 1076 16) zd_3_10_11 zf_Compiler_115 zT_1076 rfl (zz_ltn hn rfl) rfl ?_
    refine zz_callSJ [zi 1, zi v3, zi (S0 1076 16)] zd_3_10_14 zk_Compiler_128 rfl rfl ⟨Nat.le_of_ble_eq_true rfl, Nat.le_of_ble_eq_true rfl⟩ ⟨rfl, rfl⟩ (Nat.zero_le _) (Nat.zero_le _) (zc_shaped_12_6 1 v3 (S0 1076 16) S0 n hn G_S0 (by omega) (by omega) (by omega)) (fun v6 S5 hP => ?_)
    obtain ⟨rfl, o7⟩ := hP
    refine zz_bipush (by decide) zd_3_10_17 ?_
    refine zz_aload_n (x := 1076) rfl zd_3_10_19 ?_
    refine zz_callVI [] zd_3_10_20 zk_Compiler_175 zT_1076 (zz_ltn hn rfl) rfl rfl ⟨Nat.le_of_ble_eq_true rfl, Nat.le_of_ble_eq_true rfl⟩ ⟨rfl, rfl⟩ (Nat.zero_le _) (Nat.zero_le _) (zc_groupHalf_3_14  S0 n hn G_S0 ) (fun v9 S8 hP => ?_)
    obtain ⟨rfl, o10⟩ := hP
    refine zz_iload_n (x := p0) rfl zd_3_10_23 ?_
    refine zz_aload_n (x := 1076) rfl zd_3_10_24 ?_
    have g11 := zz_G.r G_S0 1076 2 2 8 rfl rfl
    refine zz_geti (z := S0 1076 2) zd_3_10_25 zf_Compiler_21 zT_1076 rfl (zz_ltn hn rfl) rfl ?_
    refine zz_imul zd_3_10_28 ?_
    refine zz_nrm (fun v12 hv12 ev12 => ?_)
    refine zz_iadd zd_3_10_29 ?_
    refine zz_nrm (fun v13 hv13 ev13 => ?_)
    refine zz_callSJ [zi 8, zi v13] zd_3_10_30 zk_Compiler_132 rfl rfl ⟨Nat.le_of_ble_eq_true rfl, Nat.le_of_ble_eq_true rfl⟩ ⟨rfl, rfl⟩ (Nat.zero_le _) (Nat.zero_le _) (zc_bits_12_4 8 v13 S0 n hn G_S0 (by omega) (by omega)) (fun v15 S14 hP => ?_)
    obtain ⟨rfl, o16⟩ := hP
    refine zz_lor zd_3_10_33 (fun v17 hv17 ev17 => ?_)
    refine zz_iconst zd_3_10_34 ?_
    refine zz_iload_n (x := p2) rfl zd_3_10_35 ?_
    refine zz_callSJ [zi 5, zi p2] zd_3_10_36 zk_Compiler_132 rfl rfl ⟨Nat.le_of_ble_eq_true rfl, Nat.le_of_ble_eq_true rfl⟩ ⟨rfl, rfl⟩ (Nat.zero_le _) (Nat.zero_le _) (zc_bits_12_4 5 p2 S0 n hn G_S0 (by omega) (by omega)) (fun v19 S18 hP => ?_)
    obtain ⟨rfl, o20⟩ := hP
    refine zz_lor zd_3_10_39 (fun v21 hv21 ev21 => ?_)
    refine zz_bipush (by decide) zd_3_10_40 ?_
    refine zz_iload (x := p3) rfl zd_3_10_42 ?_
    refine zz_callSJ [zi 10, zi p3] zd_3_10_44 zk_Compiler_132 rfl rfl ⟨Nat.le_of_ble_eq_true rfl, Nat.le_of_ble_eq_true rfl⟩ ⟨rfl, rfl⟩ (Nat.zero_le _) (Nat.zero_le _) (zc_bits_12_4 10 p3 S0 n hn G_S0 (by omega) (by omega)) (fun v23 S22 hP => ?_)
    obtain ⟨rfl, o24⟩ := hP
    refine zz_lor zd_3_10_47 (fun v25 hv25 ev25 => ?_)
    have g26 := zz_G.r G_S0 1076 1 0 1000000 rfl rfl
    refine zz_callVV [zl v25] zd_3_10_48 zk_Compiler_143 zT_1076 (zz_ltn hn rfl) rfl rfl ⟨Nat.le_of_ble_eq_true rfl, Nat.le_of_ble_eq_true rfl⟩ ⟨rfl, rfl⟩ (Nat.zero_le _) (Nat.zero_le _) (zc_emit_3_15 v25 S0 n hn G_S0 (by omega) (by omega)) (fun S27 hP => ?_)
    obtain ⟨G_S27, fS27, o29⟩ := hP
    have g30 := zz_G.r G_S0 1076 0 0 1 rfl rfl
    have F_S27 := zz_fr.trans F_S0 fS27 rfl (fun a i h => Or.inr (Or.inr (h)))
    have b31 := zz_rf4 (z := (S0 1076 0)) (by omega)
    have g32 := zz_G.r G_S27 1076 1 0 1000000 rfl rfl
    exact zz_vret zd_3_10_51 rfl (Nat.zero_le _) (Nat.zero_le _) ⟨_, rfl, G_S27, F_S27, by omega⟩
theorem zk_Compiler_159 : mm_Vl "TensorForge$Compiler" 159 9 4 zy_loadPlaces_3_10 := ⟨zyw_loadPlaces_3_10, (R_Compiler, F_Compiler, 17), rfl, mm_tb_1 1459 (by decide +kernel) rfl, mm_tb_1 1461 (by decide +kernel) rfl, mm_tb_s 72 (by decide +kernel) rfl⟩
theorem zd_3_5_102 : zz_D zy_makeGroup_3_5 102 (.aload_n 0) 1 103 := ⟨by decide +kernel, rfl⟩
theorem zd_3_5_103 : zz_D zy_makeGroup_3_5 103 (.getfield 73) 3 106 := ⟨by decide +kernel, rfl⟩
theorem zd_3_5_106 : zz_D zy_makeGroup_3_5 106 (.iconst 1) 1 107 := ⟨by decide +kernel, rfl⟩
theorem zd_3_5_107 : zz_B zy_makeGroup_3_5 107 (Instr.if_icmp .le) 116 110 := ⟨9, by decide +kernel, rfl, rfl⟩
theorem zd_3_5_116 : zz_D zy_makeGroup_3_5 116 (.aload_n 0) 1 117 := ⟨by decide +kernel, rfl⟩
theorem zd_3_5_117 : zz_D zy_makeGroup_3_5 117 (.aload_n 0) 1 118 := ⟨by decide +kernel, rfl⟩
theorem zd_3_5_118 : zz_D zy_makeGroup_3_5 118 (.getfield 15) 3 121 := ⟨by decide +kernel, rfl⟩
theorem zd_3_5_121 : zz_D zy_makeGroup_3_5 121 (.iconst 1) 1 122 := ⟨by decide +kernel, rfl⟩
theorem zd_3_5_122 : zz_D zy_makeGroup_3_5 122 (.isub) 1 123 := ⟨by decide +kernel, rfl⟩
theorem zd_3_5_123 : zz_D zy_makeGroup_3_5 123 (.iconst 4) 1 124 := ⟨by decide +kernel, rfl⟩
theorem zd_3_5_124 : zz_D zy_makeGroup_3_5 124 (.invokevirtual 163) 3 127 := ⟨by decide +kernel, rfl⟩
abbrev zy_mark_3_16 : mm_Y := (⟨"TensorForge$Compiler", "mark", "(II)V"⟩, prog_3_method_16_code, 3, none)
theorem zyw_mark_3_16 : mm_Yw zy_mark_3_16 2 := ⟨mm_tb_1 1466 (by decide +kernel) rfl, mm_tb_1 10 (by decide +kernel) rfl, ⟨by decide, by decide⟩, by decide +kernel⟩
theorem zd_3_16_0 : zz_D zy_mark_3_16 0 (.iload_n 1) 1 1 := ⟨by decide +kernel, rfl⟩
theorem zd_3_16_1 : zz_B zy_mark_3_16 1 (Instr.ifCond .lt) 33 4 := ⟨32, by decide +kernel, rfl, rfl⟩
theorem zd_3_16_33 : zz_D zy_mark_3_16 33 (.return_) 1 34 := ⟨by decide +kernel, rfl⟩
theorem zd_3_16_4 : zz_D zy_mark_3_16 4 (.iload_n 1) 1 5 := ⟨by decide +kernel, rfl⟩
theorem zd_3_16_5 : zz_D zy_mark_3_16 5 (.sipush 600) 3 8 := ⟨by decide +kernel, rfl⟩
theorem zd_3_16_8 : zz_B zy_mark_3_16 8 (Instr.if_icmp .ge) 33 11 := ⟨25, by decide +kernel, rfl, rfl⟩
theorem zd_3_16_11 : zz_D zy_mark_3_16 11 (.iload_n 1) 1 12 := ⟨by decide +kernel, rfl⟩
theorem zd_3_16_12 : zz_D zy_mark_3_16 12 (.aload_n 0) 1 13 := ⟨by decide +kernel, rfl⟩
theorem zd_3_16_13 : zz_D zy_mark_3_16 13 (.getfield 9) 3 16 := ⟨by decide +kernel, rfl⟩
theorem zd_3_16_16 : zz_D zy_mark_3_16 16 (.arraylength) 1 17 := ⟨by decide +kernel, rfl⟩
theorem zd_3_16_17 : zz_B zy_mark_3_16 17 (Instr.if_icmp .ge) 33 20 := ⟨16, by decide +kernel, rfl, rfl⟩
theorem zd_3_16_20 : zz_D zy_mark_3_16 20 (.aload_n 0) 1 21 := ⟨by decide +kernel, rfl⟩
theorem zd_3_16_21 : zz_D zy_mark_3_16 21 (.getfield 9) 3 24 := ⟨by decide +kernel, rfl⟩
theorem zd_3_16_24 : zz_D zy_mark_3_16 24 (.iload_n 1) 1 25 := ⟨by decide +kernel, rfl⟩
theorem zd_3_16_25 : zz_D zy_mark_3_16 25 (.dup2) 1 26 := ⟨by decide +kernel, rfl⟩
theorem zd_3_16_26 : zz_D zy_mark_3_16 26 (.laload) 1 27 := ⟨by decide +kernel, rfl⟩
theorem zd_3_16_27 : zz_D zy_mark_3_16 27 (.iload_n 2) 1 28 := ⟨by decide +kernel, rfl⟩
theorem zd_3_16_28 : zz_D zy_mark_3_16 28 (.invokestatic 139) 3 31 := ⟨by decide +kernel, rfl⟩
theorem zd_3_16_31 : zz_D zy_mark_3_16 31 (.lor) 1 32 := ⟨by decide +kernel, rfl⟩
theorem zd_3_16_32 : zz_D zy_mark_3_16 32 (.lastore) 1 33 := ⟨by decide +kernel, rfl⟩
-- TensorForge$Compiler mark (II)V
abbrev zr_mark_3_16 : Room := { frames := 2, cells := 0, slots := 0, locals := 29 }
def zp_mark_3_16 (p0 : Int) (p1 : Int) (S0 : zz_S) : zz_S → Prop := fun S => zz_G S ∧ zz_fr [] [] (fun a i => a = zz_rf 4 (S0 1076 0)) S0 S
theorem zc_mark_3_16 {g : mm_G} {l : Launch} (p0 : Int) (p1 : Int) (S0 : zz_S) (n : Nat) (hn : zz_end ≤ n) (G_S0 : zz_G S0) (hp0 : (-2147483648) ≤ p0 ∧ p0 ≤ 2147483647) (hp1 : (-2147483648) ≤ p1 ∧ p1 ≤ 2147483647) : mm_Met g l zy_mark_3_16 zr_mark_3_16 [.ref 1076, zi p0, zi p1] (zz_M S0 n) n (zz_QV n (zp_mark_3_16 p0 p1 S0)) := by
  refine zz_enter (by decide) (Nat.le_of_ble_eq_true rfl) (zz_less (ls1 := [some (.ref 1076), some (zi p0), some (zi p1)]) ⟨rfl, ⟨rfl, ⟨rfl, trivial⟩⟩⟩ ?_)
  have F_S0 : zz_fr [] [] (fun a i => a = zz_rf 4 (S0 1076 0)) S0 S0 := zz_fr.refl
  refine zz_iload_n (x := p0) rfl zd_3_16_0 ?_
  refine zz_if_lt (by omega) zd_3_16_1 (fun c1 => ?_) (fun c1 => ?_)
  · exact zz_vret zd_3_16_33 rfl (Nat.zero_le _) (Nat.zero_le _) ⟨_, rfl, G_S0, F_S0⟩
  · refine zz_iload_n (x := p0) rfl zd_3_16_4 ?_
    refine zz_sipush (by decide) zd_3_16_5 ?_
    refine zz_icmp_ge (by omega) (by omega) zd_3_16_8 (fun c2 => ?_) (fun c2 => ?_)
    · exact zz_vret zd_3_16_33 rfl (Nat.zero_le _) (Nat.zero_le _) ⟨_, rfl, G_S0, F_S0⟩
    · refine zz_iload_n (x := p0) rfl zd_3_16_11 ?_
      refine zz_aload_n (x := 1076) rfl zd_3_16_12 ?_
      have g3 := zz_G.r G_S0 1076 0 0 1 rfl rfl
      refine zz_getr (kd := 2) (z := S0 1076 0) zd_3_16_13 zf_Compiler_9 zT_1076 rfl (zz_ltn hn rfl) rfl (by omega) (zz_rf 4 (S0 1076 0)) rfl ?_
      refine zz_alen zd_3_16_16 (zT_k4 (by omega)) rfl (zN_k4 hn (by omega)) ?_
      refine zz_icmp_ge (by omega) (by omega) zd_3_16_17 (fun c4 => ?_) (fun c4 => ?_)
      · exfalso; omega
      · refine zz_aload_n (x := 1076) rfl zd_3_16_20 ?_
        refine zz_getr (kd := 2) (z := S0 1076 0) zd_3_16_21 zf_Compiler_9 zT_1076 rfl (zz_ltn hn rfl) rfl (by omega) (zz_rf 4 (S0 1076 0)) rfl ?_
        refine zz_iload_n (x := p0) rfl zd_3_16_24 ?_
        refine zz_dup2_11 rfl rfl zd_3_16_25 ?_
        have g5 := zz_G.r G_S0 (zz_rf 4 (S0 1076 0)) p0.toNat (-9223372036854775808) 9223372036854775807 (zR_k4 (by omega)) (zB_k4 (by omega))
        refine zz_lald (z := S0 (zz_rf 4 (S0 1076 0)) p0.toNat) zd_3_16_26 (zT_k4 (by omega)) rfl (zN_k4 hn (by omega)) (by decide) (by omega) rfl ?_
        refine zz_iload_n (x := p1) rfl zd_3_16_27 ?_
        refine zz_callSJ [zi p1] zd_3_16_28 zk_Compiler_139 rfl rfl ⟨Nat.le_of_ble_eq_true rfl, Nat.le_of_ble_eq_true rfl⟩ ⟨rfl, rfl⟩ (Nat.zero_le _) (Nat.zero_le _) (zc_flag_12_5 p1 S0 n hn G_S0 (by omega)) (fun v7 S6 hP => ?_)
        obtain ⟨rfl, o8⟩ := hP
        refine zz_lor zd_3_16_31 (fun v9 hv9 ev9 => ?_)
        refine zz_last zd_3_16_32 (zT_k4 (by omega)) rfl (zN_k4 hn (by omega)) (by decide) (by omega) (fun S10 qS10 => ?_)
        have G_S10 := zz_G.put G_S0 qS10 (-9223372036854775808) 9223372036854775807 (zR_k4 (by omega)) (by omega)
        have F_S10 := zz_fr.putv F_S0 qS10 (rfl)
        exact zz_vret zd_3_16_33 rfl (Nat.zero_le _) (Nat.zero_le _) ⟨_, rfl, G_S10, F_S10⟩
theorem zk_Compiler_163 : mm_Vl "TensorForge$Compiler" 163 9 2 zy_mark_3_16 := ⟨zyw_mark_3_16, (R_Compiler, F_Compiler, 17), rfl, mm_tb_1 1463 (by decide +kernel) rfl, mm_tb_1 1465 (by decide +kernel) rfl, mm_tb_s 73 (by decide +kernel) rfl⟩
theorem zd_3_5_127 : zz_D zy_makeGroup_3_5 127 (.aload_n 0) 1 128 := ⟨by decide +kernel, rfl⟩
theorem zd_3_5_128 : zz_D zy_makeGroup_3_5 128 (.iload_n 1) 1 129 := ⟨by decide +kernel, rfl⟩
theorem zd_3_5_129 : zz_D zy_makeGroup_3_5 129 (.invokevirtual 167) 3 132 := ⟨by decide +kernel, rfl⟩
abbrev zy_workOf_3_11 : mm_Y := (⟨"TensorForge$Compiler", "workOf", "(Z)J"⟩, prog_3_method_11_code, 3, (some .long))
theorem zyw_workOf_3_11 : mm_Yw zy_workOf_3_11 1 := ⟨mm_tb_1 1474 (by decide +kernel) rfl, mm_tb_1 10 (by decide +kernel) rfl, ⟨by decide, by decide⟩, by decide +kernel⟩
theorem zd_3_11_0 : zz_D zy_workOf_3_11 0 (.aload_n 0) 1 1 := ⟨by decide +kernel, rfl⟩
theorem zd_3_11_1 : zz_D zy_workOf_3_11 1 (.getfield 51) 3 4 := ⟨by decide +kernel, rfl⟩
theorem zd_3_11_4 : zz_D zy_workOf_3_11 4 (.getfield 61) 3 7 := ⟨by decide +kernel, rfl⟩
theorem zd_3_11_7 : zz_D zy_workOf_3_11 7 (.iconst 1) 1 8 := ⟨by decide +kernel, rfl⟩
theorem zd_3_11_8 : zz_B zy_workOf_3_11 8 (Instr.if_icmp .ne) 68 11 := ⟨60, by decide +kernel, rfl, rfl⟩
theorem zd_3_11_68 : zz_D zy_workOf_3_11 68 (.aload_n 0) 1 69 := ⟨by decide +kernel, rfl⟩
theorem zd_3_11_69 : zz_D zy_workOf_3_11 69 (.getfield 51) 3 72 := ⟨by decide +kernel, rfl⟩
theorem zd_3_11_72 : zz_D zy_workOf_3_11 72 (.getfield 61) 3 75 := ⟨by decide +kernel, rfl⟩
theorem zd_3_11_75 : zz_D zy_workOf_3_11 75 (.iconst 2) 1 76 := ⟨by decide +kernel, rfl⟩
theorem zd_3_11_76 : zz_B zy_workOf_3_11 76 (Instr.if_icmp .ne) 83 79 := ⟨7, by decide +kernel, rfl, rfl⟩
theorem zd_3_11_83 : zz_D zy_workOf_3_11 83 (.iconst 1) 1 84 := ⟨by decide +kernel, rfl⟩
theorem zd_3_11_84 : zz_D zy_workOf_3_11 84 (.istore_n 2) 1 85 := ⟨by decide +kernel, rfl⟩
theorem zd_3_11_85 : zz_D zy_workOf_3_11 85 (.bipush 6) 2 87 := ⟨by decide +kernel, rfl⟩
theorem zd_3_11_87 : zz_D zy_workOf_3_11 87 (.aload_n 0) 1 88 := ⟨by decide +kernel, rfl⟩
theorem zd_3_11_88 : zz_D zy_workOf_3_11 88 (.getfield 91) 3 91 := ⟨by decide +kernel, rfl⟩
theorem zd_3_11_91 : zz_D zy_workOf_3_11 91 (.aload_n 0) 1 92 := ⟨by decide +kernel, rfl⟩
theorem zd_3_11_92 : zz_D zy_workOf_3_11 92 (.getfield 82) 3 95 := ⟨by decide +kernel, rfl⟩
theorem zd_3_11_95 : zz_D zy_workOf_3_11 95 (.invokestatic 128) 3 98 := ⟨by decide +kernel, rfl⟩
theorem zd_3_11_98 : zz_D zy_workOf_3_11 98 (.bipush 8) 2 100 := ⟨by decide +kernel, rfl⟩
theorem zd_3_11_100 : zz_D zy_workOf_3_11 100 (.aload_n 0) 1 101 := ⟨by decide +kernel, rfl⟩
theorem zd_3_11_101 : zz_D zy_workOf_3_11 101 (.invokevirtual 175) 3 104 := ⟨by decide +kernel, rfl⟩
theorem zd_3_11_104 : zz_D zy_workOf_3_11 104 (.invokestatic 132) 3 107 := ⟨by decide +kernel, rfl⟩
theorem zd_3_11_107 : zz_D zy_workOf_3_11 107 (.lor) 1 108 := ⟨by decide +kernel, rfl⟩
theorem zd_3_11_108 : zz_D zy_workOf_3_11 108 (.bipush 9) 2 110 := ⟨by decide +kernel, rfl⟩
theorem zd_3_11_110 : zz_D zy_workOf_3_11 110 (.aload_n 0) 1 111 := ⟨by decide +kernel, rfl⟩
theorem zd_3_11_111 : zz_D zy_workOf_3_11 111 (.invokevirtual 122) 3 114 := ⟨by decide +kernel, rfl⟩
theorem zd_3_11_114 : zz_D zy_workOf_3_11 114 (.invokestatic 132) 3 117 := ⟨by decide +kernel, rfl⟩
theorem zd_3_11_117 : zz_D zy_workOf_3_11 117 (.lor) 1 118 := ⟨by decide +kernel, rfl⟩
theorem zd_3_11_118 : zz_D zy_workOf_3_11 118 (.bipush 11) 2 120 := ⟨by decide +kernel, rfl⟩
theorem zd_3_11_120 : zz_D zy_workOf_3_11 120 (.iload_n 1) 1 121 := ⟨by decide +kernel, rfl⟩
theorem zd_3_11_121 : zz_B zy_workOf_3_11 121 (Instr.ifCond .eq) 128 124 := ⟨7, by decide +kernel, rfl, rfl⟩
theorem zd_3_11_128 : zz_D zy_workOf_3_11 128 (.iload_n 2) 1 129 := ⟨by decide +kernel, rfl⟩
theorem zd_3_11_129 : zz_D zy_workOf_3_11 129 (.invokestatic 132) 3 132 := ⟨by decide +kernel, rfl⟩
theorem zd_3_11_132 : zz_D zy_workOf_3_11 132 (.lor) 1 133 := ⟨by decide +kernel, rfl⟩
theorem zd_3_11_133 : zz_D zy_workOf_3_11 133 (.lreturn) 1 134 := ⟨by decide +kernel, rfl⟩
theorem zd_3_11_124 : zz_D zy_workOf_3_11 124 (.iconst 0) 1 125 := ⟨by decide +kernel, rfl⟩
theorem zd_3_11_125 : zz_B zy_workOf_3_11 125 Instr.goto 129 128 := ⟨4, by decide +kernel, rfl, rfl⟩
theorem zd_3_11_79 : zz_D zy_workOf_3_11 79 (.iconst 2) 1 80 := ⟨by decide +kernel, rfl⟩
theorem zd_3_11_80 : zz_B zy_workOf_3_11 80 Instr.goto 84 83 := ⟨4, by decide +kernel, rfl, rfl⟩
theorem zd_3_11_11 : zz_D zy_workOf_3_11 11 (.iconst 5) 1 12 := ⟨by decide +kernel, rfl⟩
theorem zd_3_11_12 : zz_D zy_workOf_3_11 12 (.aload_n 0) 1 13 := ⟨by decide +kernel, rfl⟩
theorem zd_3_11_13 : zz_D zy_workOf_3_11 13 (.getfield 91) 3 16 := ⟨by decide +kernel, rfl⟩
theorem zd_3_11_16 : zz_D zy_workOf_3_11 16 (.aload_n 0) 1 17 := ⟨by decide +kernel, rfl⟩
theorem zd_3_11_17 : zz_D zy_workOf_3_11 17 (.getfield 82) 3 20 := ⟨by decide +kernel, rfl⟩
theorem zd_3_11_20 : zz_D zy_workOf_3_11 20 (.invokestatic 128) 3 23 := ⟨by decide +kernel, rfl⟩
theorem zd_3_11_23 : zz_D zy_workOf_3_11 23 (.bipush 8) 2 25 := ⟨by decide +kernel, rfl⟩
theorem zd_3_11_25 : zz_D zy_workOf_3_11 25 (.aload_n 0) 1 26 := ⟨by decide +kernel, rfl⟩
theorem zd_3_11_26 : zz_D zy_workOf_3_11 26 (.invokevirtual 175) 3 29 := ⟨by decide +kernel, rfl⟩
theorem zd_3_11_29 : zz_D zy_workOf_3_11 29 (.invokestatic 132) 3 32 := ⟨by decide +kernel, rfl⟩
theorem zd_3_11_32 : zz_D zy_workOf_3_11 32 (.lor) 1 33 := ⟨by decide +kernel, rfl⟩
theorem zd_3_11_33 : zz_D zy_workOf_3_11 33 (.bipush 10) 2 35 := ⟨by decide +kernel, rfl⟩
theorem zd_3_11_35 : zz_D zy_workOf_3_11 35 (.aload_n 0) 1 36 := ⟨by decide +kernel, rfl⟩
theorem zd_3_11_36 : zz_D zy_workOf_3_11 36 (.invokevirtual 175) 3 39 := ⟨by decide +kernel, rfl⟩
theorem zd_3_11_39 : zz_D zy_workOf_3_11 39 (.invokestatic 132) 3 42 := ⟨by decide +kernel, rfl⟩
theorem zd_3_11_42 : zz_D zy_workOf_3_11 42 (.lor) 1 43 := ⟨by decide +kernel, rfl⟩
theorem zd_3_11_43 : zz_D zy_workOf_3_11 43 (.bipush 9) 2 45 := ⟨by decide +kernel, rfl⟩
theorem zd_3_11_45 : zz_D zy_workOf_3_11 45 (.aload_n 0) 1 46 := ⟨by decide +kernel, rfl⟩
theorem zd_3_11_46 : zz_D zy_workOf_3_11 46 (.invokevirtual 122) 3 49 := ⟨by decide +kernel, rfl⟩
theorem zd_3_11_49 : zz_D zy_workOf_3_11 49 (.invokestatic 132) 3 52 := ⟨by decide +kernel, rfl⟩
theorem zd_3_11_52 : zz_D zy_workOf_3_11 52 (.lor) 1 53 := ⟨by decide +kernel, rfl⟩
theorem zd_3_11_53 : zz_D zy_workOf_3_11 53 (.bipush 11) 2 55 := ⟨by decide +kernel, rfl⟩
theorem zd_3_11_55 : zz_D zy_workOf_3_11 55 (.iconst 2) 1 56 := ⟨by decide +kernel, rfl⟩
theorem zd_3_11_56 : zz_D zy_workOf_3_11 56 (.aload_n 0) 1 57 := ⟨by decide +kernel, rfl⟩
theorem zd_3_11_57 : zz_D zy_workOf_3_11 57 (.getfield 115) 3 60 := ⟨by decide +kernel, rfl⟩
theorem zd_3_11_60 : zz_D zy_workOf_3_11 60 (.imul) 1 61 := ⟨by decide +kernel, rfl⟩
theorem zd_3_11_61 : zz_D zy_workOf_3_11 61 (.iconst 1) 1 62 := ⟨by decide +kernel, rfl⟩
theorem zd_3_11_62 : zz_D zy_workOf_3_11 62 (.iadd) 1 63 := ⟨by decide +kernel, rfl⟩
theorem zd_3_11_63 : zz_D zy_workOf_3_11 63 (.invokestatic 132) 3 66 := ⟨by decide +kernel, rfl⟩
theorem zd_3_11_66 : zz_D zy_workOf_3_11 66 (.lor) 1 67 := ⟨by decide +kernel, rfl⟩
theorem zd_3_11_67 : zz_D zy_workOf_3_11 67 (.lreturn) 1 68 := ⟨by decide +kernel, rfl⟩
-- TensorForge$Compiler workOf (Z)J
abbrev zr_workOf_3_11 : Room := { frames := 1, cells := 0, slots := 0, locals := 15 }
def zp_workOf_3_11 (p0 : Int) (S0 : zz_S) : Int → zz_S → Prop := fun r S => S0 = S ∧ ((-9223372036854775808) ≤ r ∧ r ≤ 9223372036854775807)
theorem zc_workOf_3_11 {g : mm_G} {l : Launch} (p0 : Int) (S0 : zz_S) (n : Nat) (hn : zz_end ≤ n) (G_S0 : zz_G S0) (hp0 : 0 ≤ p0 ∧ p0 ≤ 1) (hl : 0 ≤ S0 1076 3 ∧ 0 ≤ S0 1076 4 ∧ 0 ≤ S0 1076 5) : mm_Met g l zy_workOf_3_11 zr_workOf_3_11 [.ref 1076, zi p0] (zz_M S0 n) n (zz_QJ n (zp_workOf_3_11 p0 S0)) := by
  refine zz_enter (by decide) (Nat.le_of_ble_eq_true rfl) (zz_less (ls1 := [some (.ref 1076), some (zi p0)]) ⟨rfl, ⟨rfl, trivial⟩⟩ ?_)
  refine zz_aload_n (x := 1076) rfl zd_3_11_0 ?_
  have g1 := zz_G.r G_S0 1076 3 (-1) 23 rfl rfl
  refine zz_getr (kd := 4) (z := S0 1076 3) zd_3_11_1 zf_Compiler_51 zT_1076 rfl (zz_ltn hn rfl) rfl (by omega) (zz_rf 6 (S0 1076 3)) rfl ?_
  have g2 := zz_G.r G_S0 (zz_rf 6 (S0 1076 3)) 0 (-2147483648) 2147483647 (zR_k6_0 (by omega)) (zB_k6 (by omega))
  refine zz_geti (z := S0 (zz_rf 6 (S0 1076 3)) 0) zd_3_11_4 zf_Compiler_61 (zT_k6 (by omega)) rfl (zN_k6 hn (by omega)) rfl ?_
  refine zz_iconst zd_3_11_7 ?_
  refine zz_icmp_ne (by omega) (by omega) zd_3_11_8 (fun c3 => ?_) (fun c3 => ?_)
  · refine zz_aload_n (x := 1076) rfl zd_3_11_68 ?_
    refine zz_getr (kd := 4) (z := S0 1076 3) zd_3_11_69 zf_Compiler_51 zT_1076 rfl (zz_ltn hn rfl) rfl (by omega) (zz_rf 6 (S0 1076 3)) rfl ?_
    refine zz_geti (z := S0 (zz_rf 6 (S0 1076 3)) 0) zd_3_11_72 zf_Compiler_61 (zT_k6 (by omega)) rfl (zN_k6 hn (by omega)) rfl ?_
    refine zz_iconst zd_3_11_75 ?_
    refine zz_icmp_ne (by omega) (by omega) zd_3_11_76 (fun c4 => ?_) (fun c4 => ?_)
    · refine zz_iconst zd_3_11_83 ?_
      refine zz_istore_n [some (.ref 1076), some (zi p0), some (zi 1)] zd_3_11_84 (by decide) rfl ?_
      refine zz_bipush (by decide) zd_3_11_85 ?_
      refine zz_aload_n (x := 1076) rfl zd_3_11_87 ?_
      have g5 := zz_G.r G_S0 1076 11 (-2147483648) 2147483647 rfl rfl
      refine zz_geti (z := S0 1076 11) zd_3_11_88 zf_Compiler_91 zT_1076 rfl (zz_ltn hn rfl) rfl ?_
      refine zz_aload_n (x := 1076) rfl zd_3_11_91 ?_
      have g6 := zz_G.r G_S0 1076 8 (-2147483648) 2147483647 rfl rfl
      refine zz_geti (z := S0 1076 8) zd_3_11_92 zf_Compiler_82 zT_1076 rfl (zz_ltn hn rfl) rfl ?_
      refine zz_callSJ [zi 6, zi (S0 1076 11), zi (S0 1076 8)] zd_3_11_95 zk_Compiler_128 rfl rfl ⟨Nat.le_of_ble_eq_true rfl, Nat.le_of_ble_eq_true rfl⟩ ⟨rfl, rfl⟩ (Nat.zero_le _) (Nat.zero_le _) (zc_shaped_12_6 6 (S0 1076 11) (S0 1076 8) S0 n hn G_S0 (by omega) (by omega) (by omega)) (fun v8 S7 hP => ?_)
      obtain ⟨rfl, o9⟩ := hP
      refine zz_bipush (by decide) zd_3_11_98 ?_
      refine zz_aload_n (x := 1076) rfl zd_3_11_100 ?_
      refine zz_callVI [] zd_3_11_101 zk_Compiler_175 zT_1076 (zz_ltn hn rfl) rfl rfl ⟨Nat.le_of_ble_eq_true rfl, Nat.le_of_ble_eq_true rfl⟩ ⟨rfl, rfl⟩ (Nat.zero_le _) (Nat.zero_le _) (zc_groupHalf_3_14  S0 n hn G_S0 ) (fun v11 S10 hP => ?_)
      obtain ⟨rfl, o12⟩ := hP
      refine zz_callSJ [zi 8, zi v11] zd_3_11_104 zk_Compiler_132 rfl rfl ⟨Nat.le_of_ble_eq_true rfl, Nat.le_of_ble_eq_true rfl⟩ ⟨rfl, rfl⟩ (Nat.zero_le _) (Nat.zero_le _) (zc_bits_12_4 8 v11 S0 n hn G_S0 (by omega) (by omega)) (fun v14 S13 hP => ?_)
      obtain ⟨rfl, o15⟩ := hP
      refine zz_lor zd_3_11_107 (fun v16 hv16 ev16 => ?_)
      refine zz_bipush (by decide) zd_3_11_108 ?_
      refine zz_aload_n (x := 1076) rfl zd_3_11_110 ?_
      refine zz_callVI [] zd_3_11_111 zk_Compiler_122 zT_1076 (zz_ltn hn rfl) rfl rfl ⟨Nat.le_of_ble_eq_true rfl, Nat.le_of_ble_eq_true rfl⟩ ⟨rfl, rfl⟩ (Nat.zero_le _) (Nat.zero_le _) (zc_tileHalf_3_13  S0 n hn G_S0 ) (fun v18 S17 hP => ?_)
      obtain ⟨rfl, o19⟩ := hP
      refine zz_callSJ [zi 9, zi v18] zd_3_11_114 zk_Compiler_132 rfl rfl ⟨Nat.le_of_ble_eq_true rfl, Nat.le_of_ble_eq_true rfl⟩ ⟨rfl, rfl⟩ (Nat.zero_le _) (Nat.zero_le _) (zc_bits_12_4 9 v18 S0 n hn G_S0 (by omega) (by omega)) (fun v21 S20 hP => ?_)
      obtain ⟨rfl, o22⟩ := hP
      refine zz_lor zd_3_11_117 (fun v23 hv23 ev23 => ?_)
      refine zz_bipush (by decide) zd_3_11_118 ?_
      refine zz_iload_n (x := p0) rfl zd_3_11_120 ?_
      refine zz_if_eq (by omega) zd_3_11_121 (fun c24 => ?_) (fun c24 => ?_)
      · refine zz_iload_n (x := 1) rfl zd_3_11_128 ?_
        refine zz_callSJ [zi 11, zi 1] zd_3_11_129 zk_Compiler_132 rfl rfl ⟨Nat.le_of_ble_eq_true rfl, Nat.le_of_ble_eq_true rfl⟩ ⟨rfl, rfl⟩ (Nat.zero_le _) (Nat.zero_le _) (zc_bits_12_4 11 1 S0 n hn G_S0 (by omega) (by omega)) (fun v26 S25 hP => ?_)
        obtain ⟨rfl, o27⟩ := hP
        refine zz_lor zd_3_11_132 (fun v28 hv28 ev28 => ?_)
        exact zz_lret zd_3_11_133 rfl (Nat.zero_le _) (Nat.zero_le _) ⟨_, _, rfl, rfl, by omega⟩
      · refine zz_iconst zd_3_11_124 ?_
        refine zz_goto zd_3_11_125 ?_
        refine zz_callSJ [zi 11, zi 0] zd_3_11_129 zk_Compiler_132 rfl rfl ⟨Nat.le_of_ble_eq_true rfl, Nat.le_of_ble_eq_true rfl⟩ ⟨rfl, rfl⟩ (Nat.zero_le _) (Nat.zero_le _) (zc_bits_12_4 11 0 S0 n hn G_S0 (by omega) (by omega)) (fun v30 S29 hP => ?_)
        obtain ⟨rfl, o31⟩ := hP
        refine zz_lor zd_3_11_132 (fun v32 hv32 ev32 => ?_)
        exact zz_lret zd_3_11_133 rfl (Nat.zero_le _) (Nat.zero_le _) ⟨_, _, rfl, rfl, by omega⟩
    · refine zz_iconst zd_3_11_79 ?_
      refine zz_goto zd_3_11_80 ?_
      refine zz_istore_n [some (.ref 1076), some (zi p0), some (zi 2)] zd_3_11_84 (by decide) rfl ?_
      refine zz_bipush (by decide) zd_3_11_85 ?_
      refine zz_aload_n (x := 1076) rfl zd_3_11_87 ?_
      have g33 := zz_G.r G_S0 1076 11 (-2147483648) 2147483647 rfl rfl
      refine zz_geti (z := S0 1076 11) zd_3_11_88 zf_Compiler_91 zT_1076 rfl (zz_ltn hn rfl) rfl ?_
      refine zz_aload_n (x := 1076) rfl zd_3_11_91 ?_
      have g34 := zz_G.r G_S0 1076 8 (-2147483648) 2147483647 rfl rfl
      refine zz_geti (z := S0 1076 8) zd_3_11_92 zf_Compiler_82 zT_1076 rfl (zz_ltn hn rfl) rfl ?_
      refine zz_callSJ [zi 6, zi (S0 1076 11), zi (S0 1076 8)] zd_3_11_95 zk_Compiler_128 rfl rfl ⟨Nat.le_of_ble_eq_true rfl, Nat.le_of_ble_eq_true rfl⟩ ⟨rfl, rfl⟩ (Nat.zero_le _) (Nat.zero_le _) (zc_shaped_12_6 6 (S0 1076 11) (S0 1076 8) S0 n hn G_S0 (by omega) (by omega) (by omega)) (fun v36 S35 hP => ?_)
      obtain ⟨rfl, o37⟩ := hP
      refine zz_bipush (by decide) zd_3_11_98 ?_
      refine zz_aload_n (x := 1076) rfl zd_3_11_100 ?_
      refine zz_callVI [] zd_3_11_101 zk_Compiler_175 zT_1076 (zz_ltn hn rfl) rfl rfl ⟨Nat.le_of_ble_eq_true rfl, Nat.le_of_ble_eq_true rfl⟩ ⟨rfl, rfl⟩ (Nat.zero_le _) (Nat.zero_le _) (zc_groupHalf_3_14  S0 n hn G_S0 ) (fun v39 S38 hP => ?_)
      obtain ⟨rfl, o40⟩ := hP
      refine zz_callSJ [zi 8, zi v39] zd_3_11_104 zk_Compiler_132 rfl rfl ⟨Nat.le_of_ble_eq_true rfl, Nat.le_of_ble_eq_true rfl⟩ ⟨rfl, rfl⟩ (Nat.zero_le _) (Nat.zero_le _) (zc_bits_12_4 8 v39 S0 n hn G_S0 (by omega) (by omega)) (fun v42 S41 hP => ?_)
      obtain ⟨rfl, o43⟩ := hP
      refine zz_lor zd_3_11_107 (fun v44 hv44 ev44 => ?_)
      refine zz_bipush (by decide) zd_3_11_108 ?_
      refine zz_aload_n (x := 1076) rfl zd_3_11_110 ?_
      refine zz_callVI [] zd_3_11_111 zk_Compiler_122 zT_1076 (zz_ltn hn rfl) rfl rfl ⟨Nat.le_of_ble_eq_true rfl, Nat.le_of_ble_eq_true rfl⟩ ⟨rfl, rfl⟩ (Nat.zero_le _) (Nat.zero_le _) (zc_tileHalf_3_13  S0 n hn G_S0 ) (fun v46 S45 hP => ?_)
      obtain ⟨rfl, o47⟩ := hP
      refine zz_callSJ [zi 9, zi v46] zd_3_11_114 zk_Compiler_132 rfl rfl ⟨Nat.le_of_ble_eq_true rfl, Nat.le_of_ble_eq_true rfl⟩ ⟨rfl, rfl⟩ (Nat.zero_le _) (Nat.zero_le _) (zc_bits_12_4 9 v46 S0 n hn G_S0 (by omega) (by omega)) (fun v49 S48 hP => ?_)
      obtain ⟨rfl, o50⟩ := hP
      refine zz_lor zd_3_11_117 (fun v51 hv51 ev51 => ?_)
      refine zz_bipush (by decide) zd_3_11_118 ?_
      refine zz_iload_n (x := p0) rfl zd_3_11_120 ?_
      refine zz_if_eq (by omega) zd_3_11_121 (fun c52 => ?_) (fun c52 => ?_)
      · refine zz_iload_n (x := 2) rfl zd_3_11_128 ?_
        refine zz_callSJ [zi 11, zi 2] zd_3_11_129 zk_Compiler_132 rfl rfl ⟨Nat.le_of_ble_eq_true rfl, Nat.le_of_ble_eq_true rfl⟩ ⟨rfl, rfl⟩ (Nat.zero_le _) (Nat.zero_le _) (zc_bits_12_4 11 2 S0 n hn G_S0 (by omega) (by omega)) (fun v54 S53 hP => ?_)
        obtain ⟨rfl, o55⟩ := hP
        refine zz_lor zd_3_11_132 (fun v56 hv56 ev56 => ?_)
        exact zz_lret zd_3_11_133 rfl (Nat.zero_le _) (Nat.zero_le _) ⟨_, _, rfl, rfl, by omega⟩
      · refine zz_iconst zd_3_11_124 ?_
        refine zz_goto zd_3_11_125 ?_
        refine zz_callSJ [zi 11, zi 0] zd_3_11_129 zk_Compiler_132 rfl rfl ⟨Nat.le_of_ble_eq_true rfl, Nat.le_of_ble_eq_true rfl⟩ ⟨rfl, rfl⟩ (Nat.zero_le _) (Nat.zero_le _) (zc_bits_12_4 11 0 S0 n hn G_S0 (by omega) (by omega)) (fun v58 S57 hP => ?_)
        obtain ⟨rfl, o59⟩ := hP
        refine zz_lor zd_3_11_132 (fun v60 hv60 ev60 => ?_)
        exact zz_lret zd_3_11_133 rfl (Nat.zero_le _) (Nat.zero_le _) ⟨_, _, rfl, rfl, by omega⟩
  · refine zz_iconst zd_3_11_11 ?_
    refine zz_aload_n (x := 1076) rfl zd_3_11_12 ?_
    have g61 := zz_G.r G_S0 1076 11 (-2147483648) 2147483647 rfl rfl
    refine zz_geti (z := S0 1076 11) zd_3_11_13 zf_Compiler_91 zT_1076 rfl (zz_ltn hn rfl) rfl ?_
    refine zz_aload_n (x := 1076) rfl zd_3_11_16 ?_
    have g62 := zz_G.r G_S0 1076 8 (-2147483648) 2147483647 rfl rfl
    refine zz_geti (z := S0 1076 8) zd_3_11_17 zf_Compiler_82 zT_1076 rfl (zz_ltn hn rfl) rfl ?_
    refine zz_callSJ [zi 5, zi (S0 1076 11), zi (S0 1076 8)] zd_3_11_20 zk_Compiler_128 rfl rfl ⟨Nat.le_of_ble_eq_true rfl, Nat.le_of_ble_eq_true rfl⟩ ⟨rfl, rfl⟩ (Nat.zero_le _) (Nat.zero_le _) (zc_shaped_12_6 5 (S0 1076 11) (S0 1076 8) S0 n hn G_S0 (by omega) (by omega) (by omega)) (fun v64 S63 hP => ?_)
    obtain ⟨rfl, o65⟩ := hP
    refine zz_bipush (by decide) zd_3_11_23 ?_
    refine zz_aload_n (x := 1076) rfl zd_3_11_25 ?_
    refine zz_callVI [] zd_3_11_26 zk_Compiler_175 zT_1076 (zz_ltn hn rfl) rfl rfl ⟨Nat.le_of_ble_eq_true rfl, Nat.le_of_ble_eq_true rfl⟩ ⟨rfl, rfl⟩ (Nat.zero_le _) (Nat.zero_le _) (zc_groupHalf_3_14  S0 n hn G_S0 ) (fun v67 S66 hP => ?_)
    obtain ⟨rfl, o68⟩ := hP
    refine zz_callSJ [zi 8, zi v67] zd_3_11_29 zk_Compiler_132 rfl rfl ⟨Nat.le_of_ble_eq_true rfl, Nat.le_of_ble_eq_true rfl⟩ ⟨rfl, rfl⟩ (Nat.zero_le _) (Nat.zero_le _) (zc_bits_12_4 8 v67 S0 n hn G_S0 (by omega) (by omega)) (fun v70 S69 hP => ?_)
    obtain ⟨rfl, o71⟩ := hP
    refine zz_lor zd_3_11_32 (fun v72 hv72 ev72 => ?_)
    refine zz_bipush (by decide) zd_3_11_33 ?_
    refine zz_aload_n (x := 1076) rfl zd_3_11_35 ?_
    refine zz_callVI [] zd_3_11_36 zk_Compiler_175 zT_1076 (zz_ltn hn rfl) rfl rfl ⟨Nat.le_of_ble_eq_true rfl, Nat.le_of_ble_eq_true rfl⟩ ⟨rfl, rfl⟩ (Nat.zero_le _) (Nat.zero_le _) (zc_groupHalf_3_14  S0 n hn G_S0 ) (fun v74 S73 hP => ?_)
    obtain ⟨rfl, o75⟩ := hP
    refine zz_callSJ [zi 10, zi v74] zd_3_11_39 zk_Compiler_132 rfl rfl ⟨Nat.le_of_ble_eq_true rfl, Nat.le_of_ble_eq_true rfl⟩ ⟨rfl, rfl⟩ (Nat.zero_le _) (Nat.zero_le _) (zc_bits_12_4 10 v74 S0 n hn G_S0 (by omega) (by omega)) (fun v77 S76 hP => ?_)
    obtain ⟨rfl, o78⟩ := hP
    refine zz_lor zd_3_11_42 (fun v79 hv79 ev79 => ?_)
    refine zz_bipush (by decide) zd_3_11_43 ?_
    refine zz_aload_n (x := 1076) rfl zd_3_11_45 ?_
    refine zz_callVI [] zd_3_11_46 zk_Compiler_122 zT_1076 (zz_ltn hn rfl) rfl rfl ⟨Nat.le_of_ble_eq_true rfl, Nat.le_of_ble_eq_true rfl⟩ ⟨rfl, rfl⟩ (Nat.zero_le _) (Nat.zero_le _) (zc_tileHalf_3_13  S0 n hn G_S0 ) (fun v81 S80 hP => ?_)
    obtain ⟨rfl, o82⟩ := hP
    refine zz_callSJ [zi 9, zi v81] zd_3_11_49 zk_Compiler_132 rfl rfl ⟨Nat.le_of_ble_eq_true rfl, Nat.le_of_ble_eq_true rfl⟩ ⟨rfl, rfl⟩ (Nat.zero_le _) (Nat.zero_le _) (zc_bits_12_4 9 v81 S0 n hn G_S0 (by omega) (by omega)) (fun v84 S83 hP => ?_)
    obtain ⟨rfl, o85⟩ := hP
    refine zz_lor zd_3_11_52 (fun v86 hv86 ev86 => ?_)
    refine zz_bipush (by decide) zd_3_11_53 ?_
    refine zz_iconst zd_3_11_55 ?_
    refine zz_aload_n (x := 1076) rfl zd_3_11_56 ?_
    have g87 := zz_G.r G_S0 1076 16 (-2147483648) 2147483647 rfl rfl
    refine zz_geti (z := S0 1076 16) zd_3_11_57 zf_Compiler_115 zT_1076 rfl (zz_ltn hn rfl) rfl ?_
    refine zz_imul zd_3_11_60 ?_
    refine zz_nrm (fun v88 hv88 ev88 => ?_)
    refine zz_iconst zd_3_11_61 ?_
    refine zz_iadd zd_3_11_62 ?_
    refine zz_nrm (fun v89 hv89 ev89 => ?_)
    refine zz_callSJ [zi 11, zi v89] zd_3_11_63 zk_Compiler_132 rfl rfl ⟨Nat.le_of_ble_eq_true rfl, Nat.le_of_ble_eq_true rfl⟩ ⟨rfl, rfl⟩ (Nat.zero_le _) (Nat.zero_le _) (zc_bits_12_4 11 v89 S0 n hn G_S0 (by omega) (by omega)) (fun v91 S90 hP => ?_)
    obtain ⟨rfl, o92⟩ := hP
    refine zz_lor zd_3_11_66 (fun v93 hv93 ev93 => ?_)
    exact zz_lret zd_3_11_67 rfl (Nat.zero_le _) (Nat.zero_le _) ⟨_, _, rfl, rfl, by omega⟩
theorem zk_Compiler_167 : mm_Vl "TensorForge$Compiler" 167 9 1 zy_workOf_3_11 := ⟨zyw_workOf_3_11, (R_Compiler, F_Compiler, 17), rfl, mm_tb_1 1471 (by decide +kernel) rfl, mm_tb_1 1473 (by decide +kernel) rfl, mm_tb_s 74 (by decide +kernel) rfl⟩
theorem zd_3_5_132 : zz_D zy_makeGroup_3_5 132 (.iconst 1) 1 133 := ⟨by decide +kernel, rfl⟩
theorem zd_3_5_133 : zz_D zy_makeGroup_3_5 133 (.invokestatic 139) 3 136 := ⟨by decide +kernel, rfl⟩
theorem zd_3_5_136 : zz_D zy_makeGroup_3_5 136 (.lor) 1 137 := ⟨by decide +kernel, rfl⟩
theorem zd_3_5_137 : zz_D zy_makeGroup_3_5 137 (.lstore 4) 2 139 := ⟨by decide +kernel, rfl⟩
theorem zd_3_5_139 : zz_D zy_makeGroup_3_5 139 (.aload_n 0) 1 140 := ⟨by decide +kernel, rfl⟩
theorem zd_3_5_140 : zz_D zy_makeGroup_3_5 140 (.iload_n 2) 1 141 := ⟨by decide +kernel, rfl⟩
theorem zd_3_5_141 : zz_B zy_makeGroup_3_5 141 (Instr.ifCond .eq) 149 144 := ⟨8, by decide +kernel, rfl, rfl⟩
theorem zd_3_5_149 : zz_D zy_makeGroup_3_5 149 (.lload 4) 2 151 := ⟨by decide +kernel, rfl⟩
theorem zd_3_5_151 : zz_D zy_makeGroup_3_5 151 (.iconst 3) 1 152 := ⟨by decide +kernel, rfl⟩
theorem zd_3_5_152 : zz_D zy_makeGroup_3_5 152 (.invokestatic 139) 3 155 := ⟨by decide +kernel, rfl⟩
theorem zd_3_5_155 : zz_D zy_makeGroup_3_5 155 (.lor) 1 156 := ⟨by decide +kernel, rfl⟩
theorem zd_3_5_156 : zz_D zy_makeGroup_3_5 156 (.invokevirtual 143) 3 159 := ⟨by decide +kernel, rfl⟩
theorem zd_3_5_159 : zz_D zy_makeGroup_3_5 159 (.return_) 1 160 := ⟨by decide +kernel, rfl⟩
theorem zd_3_5_144 : zz_D zy_makeGroup_3_5 144 (.lload 4) 2 146 := ⟨by decide +kernel, rfl⟩
theorem zd_3_5_146 : zz_B zy_makeGroup_3_5 146 Instr.goto 156 149 := ⟨10, by decide +kernel, rfl, rfl⟩
theorem zd_3_5_110 : zz_D zy_makeGroup_3_5 110 (.aload_n 0) 1 111 := ⟨by decide +kernel, rfl⟩
theorem zd_3_5_111 : zz_D zy_makeGroup_3_5 111 (.iload_n 3) 1 112 := ⟨by decide +kernel, rfl⟩
theorem zd_3_5_112 : zz_D zy_makeGroup_3_5 112 (.iconst 2) 1 113 := ⟨by decide +kernel, rfl⟩
theorem zd_3_5_113 : zz_D zy_makeGroup_3_5 113 (.invokevirtual 163) 3 116 := ⟨by decide +kernel, rfl⟩
theorem zd_3_5_61 : zz_D zy_makeGroup_3_5 61 (.aload_n 0) 1 62 := ⟨by decide +kernel, rfl⟩
theorem zd_3_5_62 : zz_D zy_makeGroup_3_5 62 (.getfield 55) 3 65 := ⟨by decide +kernel, rfl⟩
theorem zd_3_5_65 : zz_B zy_makeGroup_3_5 65 Instr.goto 72 68 := ⟨7, by decide +kernel, rfl, rfl⟩
theorem zd_3_5_43 : zz_D zy_makeGroup_3_5 43 (.aload_n 0) 1 44 := ⟨by decide +kernel, rfl⟩
theorem zd_3_5_44 : zz_D zy_makeGroup_3_5 44 (.aload_n 0) 1 45 := ⟨by decide +kernel, rfl⟩
theorem zd_3_5_45 : zz_D zy_makeGroup_3_5 45 (.getfield 76) 3 48 := ⟨by decide +kernel, rfl⟩
theorem zd_3_5_48 : zz_D zy_makeGroup_3_5 48 (.invokevirtual 155) 3 51 := ⟨by decide +kernel, rfl⟩
abbrev zy_loadMet_3_7 : mm_Y := (⟨"TensorForge$Compiler", "loadMet", "(I)V"⟩, prog_3_method_7_code, 5, none)
theorem zyw_loadMet_3_7 : mm_Yw zy_loadMet_3_7 1 := ⟨mm_tb_1 1449 (by decide +kernel) rfl, mm_tb_1 10 (by decide +kernel) rfl, ⟨by decide, by decide⟩, by decide +kernel⟩
theorem zd_3_7_0 : zz_D zy_loadMet_3_7 0 (.aload_n 0) 1 1 := ⟨by decide +kernel, rfl⟩
theorem zd_3_7_1 : zz_D zy_loadMet_3_7 1 (.getfield 51) 3 4 := ⟨by decide +kernel, rfl⟩
theorem zd_3_7_4 : zz_D zy_loadMet_3_7 4 (.getfield 182) 3 7 := ⟨by decide +kernel, rfl⟩
theorem zf_Compiler_182 : mm_Fl "TensorForge$Compiler" 182 2 5 .int false := ⟨R_Layer, F_Layer, 15, t_Layer, rfl, i_Layer, by decide, mm_tb_1 76 (by decide +kernel) rfl, rfl, t_Layer_ok, n_Layer, rfl, by decide +kernel⟩
theorem zd_3_7_7 : zz_D zy_loadMet_3_7 7 (.aload_n 0) 1 8 := ⟨by decide +kernel, rfl⟩
theorem zd_3_7_8 : zz_D zy_loadMet_3_7 8 (.getfield 85) 3 11 := ⟨by decide +kernel, rfl⟩
theorem zd_3_7_11 : zz_D zy_loadMet_3_7 11 (.imul) 1 12 := ⟨by decide +kernel, rfl⟩
theorem zd_3_7_12 : zz_D zy_loadMet_3_7 12 (.aload_n 0) 1 13 := ⟨by decide +kernel, rfl⟩
theorem zd_3_7_13 : zz_D zy_loadMet_3_7 13 (.getfield 106) 3 16 := ⟨by decide +kernel, rfl⟩
theorem zd_3_7_16 : zz_D zy_loadMet_3_7 16 (.iadd) 1 17 := ⟨by decide +kernel, rfl⟩
theorem zd_3_7_17 : zz_D zy_loadMet_3_7 17 (.aload_n 0) 1 18 := ⟨by decide +kernel, rfl⟩
theorem zd_3_7_18 : zz_D zy_loadMet_3_7 18 (.getfield 51) 3 21 := ⟨by decide +kernel, rfl⟩
theorem zd_3_7_21 : zz_D zy_loadMet_3_7 21 (.getfield 185) 3 24 := ⟨by decide +kernel, rfl⟩
theorem zf_Compiler_185 : mm_Fl "TensorForge$Compiler" 185 2 6 .int false := ⟨R_Layer, F_Layer, 15, t_Layer, rfl, i_Layer, by decide, mm_tb_1 81 (by decide +kernel) rfl, rfl, t_Layer_ok, n_Layer, rfl, by decide +kernel⟩
theorem zd_3_7_24 : zz_D zy_loadMet_3_7 24 (.isub) 1 25 := ⟨by decide +kernel, rfl⟩
theorem zd_3_7_25 : zz_D zy_loadMet_3_7 25 (.istore_n 2) 1 26 := ⟨by decide +kernel, rfl⟩
theorem zd_3_7_26 : zz_D zy_loadMet_3_7 26 (.iload_n 2) 1 27 := ⟨by decide +kernel, rfl⟩
theorem zd_3_7_27 : zz_B zy_loadMet_3_7 27 (Instr.ifCond .lt) 41 30 := ⟨14, by decide +kernel, rfl, rfl⟩
theorem zd_3_7_41 : zz_D zy_loadMet_3_7 41 (.aload_n 0) 1 42 := ⟨by decide +kernel, rfl⟩
theorem zd_3_7_42 : zz_D zy_loadMet_3_7 42 (.iconst 0) 1 43 := ⟨by decide +kernel, rfl⟩
theorem zd_3_7_43 : zz_D zy_loadMet_3_7 43 (.aload_n 0) 1 44 := ⟨by decide +kernel, rfl⟩
theorem zd_3_7_44 : zz_D zy_loadMet_3_7 44 (.getfield 91) 3 47 := ⟨by decide +kernel, rfl⟩
theorem zd_3_7_47 : zz_D zy_loadMet_3_7 47 (.invokevirtual 188) 3 50 := ⟨by decide +kernel, rfl⟩
abbrev zy_clearPlaces_3_9 : mm_Y := (⟨"TensorForge$Compiler", "clearPlaces", "(II)V"⟩, prog_3_method_9_code, 3, none)
theorem zyw_clearPlaces_3_9 : mm_Yw zy_clearPlaces_3_9 2 := ⟨mm_tb_1 1453 (by decide +kernel) rfl, mm_tb_1 10 (by decide +kernel) rfl, ⟨by decide, by decide⟩, by decide +kernel⟩
theorem zd_3_9_0 : zz_D zy_clearPlaces_3_9 0 (.iload_n 2) 1 1 := ⟨by decide +kernel, rfl⟩
theorem zd_3_9_1 : zz_D zy_clearPlaces_3_9 1 (.iload_n 1) 1 2 := ⟨by decide +kernel, rfl⟩
theorem zd_3_9_2 : zz_B zy_clearPlaces_3_9 2 (Instr.if_icmp .le) 37 5 := ⟨35, by decide +kernel, rfl, rfl⟩
theorem zd_3_9_37 : zz_D zy_clearPlaces_3_9 37 (.return_) 1 38 := ⟨by decide +kernel, rfl⟩
theorem zd_3_9_5 : zz_D zy_clearPlaces_3_9 5 (.aload_n 0) 1 6 := ⟨by decide +kernel, rfl⟩
theorem zd_3_9_6 : zz_D zy_clearPlaces_3_9 6 (.iconst 3) 1 7 := ⟨by decide +kernel, rfl⟩
theorem zd_3_9_7 : zz_D zy_clearPlaces_3_9 7 (.iload_n 2) 1 8 := ⟨by decide +kernel, rfl⟩
theorem zd_3_9_8 : zz_D zy_clearPlaces_3_9 8 (.iload_n 1) 1 9 := ⟨by decide +kernel, rfl⟩
theorem zd_3_9_9 : zz_D zy_clearPlaces_3_9 9 (.isub) 1 10 := ⟨by decide +kernel, rfl⟩
theorem zd_3_9_10 : zz_D zy_clearPlaces_3_9 10 (.aload_n 0) 1 11 := ⟨by decide +kernel, rfl⟩
theorem zd_3_9_11 : zz_D zy_clearPlaces_3_9 11 (.getfield 115) 3 14 := ⟨by decide +kernel, rfl⟩
theorem zd_3_9_14 : zz_D zy_clearPlaces_3_9 14 (.invokestatic 128) 3 17 := ⟨by decide +kernel, rfl⟩
theorem zd_3_9_17 : zz_D zy_clearPlaces_3_9 17 (.bipush 8) 2 19 := ⟨by decide +kernel, rfl⟩
theorem zd_3_9_19 : zz_D zy_clearPlaces_3_9 19 (.aload_n 0) 1 20 := ⟨by decide +kernel, rfl⟩
theorem zd_3_9_20 : zz_D zy_clearPlaces_3_9 20 (.invokevirtual 175) 3 23 := ⟨by decide +kernel, rfl⟩
theorem zd_3_9_23 : zz_D zy_clearPlaces_3_9 23 (.iload_n 1) 1 24 := ⟨by decide +kernel, rfl⟩
theorem zd_3_9_24 : zz_D zy_clearPlaces_3_9 24 (.aload_n 0) 1 25 := ⟨by decide +kernel, rfl⟩
theorem zd_3_9_25 : zz_D zy_clearPlaces_3_9 25 (.getfield 21) 3 28 := ⟨by decide +kernel, rfl⟩
theorem zd_3_9_28 : zz_D zy_clearPlaces_3_9 28 (.imul) 1 29 := ⟨by decide +kernel, rfl⟩
theorem zd_3_9_29 : zz_D zy_clearPlaces_3_9 29 (.iadd) 1 30 := ⟨by decide +kernel, rfl⟩
theorem zd_3_9_30 : zz_D zy_clearPlaces_3_9 30 (.invokestatic 132) 3 33 := ⟨by decide +kernel, rfl⟩
theorem zd_3_9_33 : zz_D zy_clearPlaces_3_9 33 (.lor) 1 34 := ⟨by decide +kernel, rfl⟩
theorem zd_3_9_34 : zz_D zy_clearPlaces_3_9 34 (.invokevirtual 143) 3 37 := ⟨by decide +kernel, rfl⟩

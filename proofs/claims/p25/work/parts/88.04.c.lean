-- TensorForge convolution (IIIIII)I
abbrev zr_convolution_1_19 : Room := { frames := 7, cells := 1, slots := 6, locals := 95 }
def zp_convolution_1_19 (p0 : Int) (p1 : Int) (p2 : Int) (p3 : Int) (p4 : Int) (p5 : Int) (S0 : zz_S) : Int → zz_S → Prop := fun r S => zz_G S ∧ zz_fr [] [1001, 1003, 1004, 1005, 1006, 1007, 1008, 1009, 1010, 1011, 1012, 1013, 1014, 1015, 1017, 1018, 1019, 1020, 1021, 1022, 1023, 1024, 1025, 1026, 1027, 1028] (fun _ _ => False) S0 S ∧ ((-2147483648) ≤ r ∧ r ≤ 2147483647) ∧ (∀ v : zn_T, zn_C S0 (S0 1000 7) v → zn_V v → zn_F v 1 p0 p0 (p1.tdiv 10) (p1.tmod 10) (p3.tdiv 10) (p3.tmod 10) (zn_sh p4) p2 p5 0 ∧ r = v 15 0 ∧ ∀ nm : Int, zn_C S (S0 1000 7) (zn_nw v 1 p0 p0 (p1.tdiv 10) (p1.tmod 10) (p3.tdiv 10) (p3.tmod 10) (zn_sh p4) (zn_rl p4) p2 p5 nm)) ∧ (zz_Hc S)
def zx_convolution_1_19 (p0 : Int) (p1 : Int) (p2 : Int) (p3 : Int) (p4 : Int) (p5 : Int) (S0 : zz_S) : Nat → zz_S → Prop := fun i S => zz_G S ∧ zz_fr [] [1001, 1003, 1004, 1005, 1006, 1007, 1008, 1009, 1010, 1011, 1012, 1013, 1014, 1015, 1017, 1018, 1019, 1020, 1021, 1022, 1023, 1024, 1025, 1026, 1027, 1028] (fun _ _ => False) S0 S ∧ (i < 4) ∧ (i = 0 ∨ i = 1 ∨ i = 2) ∧ (∀ v : zn_T, zn_C S0 (S0 1000 7) v → zn_V v → zn_F v 1 p0 p0 (p1.tdiv 10) (p1.tmod 10) (p3.tdiv 10) (p3.tmod 10) (zn_sh p4) p2 p5 (if i = 0 then 2 else if i = 1 then 1 else 3) ∧ zn_C S (S0 1000 7) v) ∧ (zz_Hc S)
theorem zc_convolution_1_19 {g : mm_G} {l : Launch} (p0 : Int) (p1 : Int) (p2 : Int) (p3 : Int) (p4 : Int) (p5 : Int) (S0 : zz_S) (n : Nat) (hn : zz_end ≤ n) (hfl : l.flags = flags0) (G_S0 : zz_G S0) (hp0 : (-2147483648) ≤ p0 ∧ p0 ≤ 2147483647) (hp1 : (-2147483648) ≤ p1 ∧ p1 ≤ 2147483647) (hp2 : (-2147483648) ≤ p2 ∧ p2 ≤ 2147483647) (hp3 : (-2147483648) ≤ p3 ∧ p3 ≤ 2147483647) (hp4 : (-2147483648) ≤ p4 ∧ p4 ≤ 2147483647) (hp5 : (-2147483648) ≤ p5 ∧ p5 ≤ 2147483647) (H_S0 : zz_Hc S0) : mm_Met g l zy_convolution_1_19 zr_convolution_1_19 [.ref 1000, zi p0, zi p1, zi p2, zi p3, zi p4, zi p5] (zz_M S0 n) n (zz_XI n (zp_convolution_1_19 p0 p1 p2 p3 p4 p5 S0) (zx_convolution_1_19 p0 p1 p2 p3 p4 p5 S0)) := by
  refine zz_enter (by decide) (Nat.le_of_ble_eq_true rfl) (zz_less (ls1 := [some (.ref 1000), some (zi p0), some (zi p1), some (zi p2), some (zi p3), some (zi p4), some (zi p5)]) ⟨rfl, ⟨rfl, ⟨rfl, ⟨rfl, ⟨rfl, ⟨rfl, ⟨rfl, trivial⟩⟩⟩⟩⟩⟩⟩ ?_)
  have F_S0 : zz_fr [] [1001, 1003, 1004, 1005, 1006, 1007, 1008, 1009, 1010, 1011, 1012, 1013, 1014, 1015, 1017, 1018, 1019, 1020, 1021, 1022, 1023, 1024, 1025, 1026, 1027, 1028] (fun _ _ => False) S0 S0 := zz_fr.refl
  refine zz_aload_n (x := 1000) rfl zd_1_19_0 ?_
  have g1 := zz_G.r G_S0 1000 7 0 1 rfl rfl
  refine zz_getr (kd := 1) (z := S0 1000 7) zd_1_19_1 zf_TF_10 zT_1000 rfl (zz_ltn hn rfl) rfl (by omega) (zz_rf 3 (S0 1000 7)) rfl ?_
  refine zz_callVA [] zd_1_19_4 zk_TF_220 (zT_k3 (by omega)) (zN_k3 hn (by omega)) rfl rfl ⟨Nat.le_of_ble_eq_true rfl, Nat.le_of_ble_eq_true rfl⟩ ⟨rfl, rfl⟩ (Nat.zero_le _) (Nat.zero_le _) (zc_draft_7_6 (S0 1000 7) S0 n hn G_S0 (by omega)) (fun v3 S2 hP => ?_)
  obtain ⟨rfl, o4, o5⟩ := hP
  subst o4
  refine zz_astore [some (.ref 1000), some (zi p0), some (zi p1), some (zi p2), some (zi p3), some (zi p4), some (zi p5), some (.ref (zz_rf 6 (12 * (S0 1000 7) + S0 (zz_rf 3 (S0 1000 7)) 1)))] zd_1_19_7 (by decide) rfl ?_
  refine zz_aload (x := zz_rf 6 (12 * (S0 1000 7) + S0 (zz_rf 3 (S0 1000 7)) 1)) rfl zd_1_19_9 ?_
  refine zz_iconst zd_1_19_11 ?_
  refine zz_iload_n (x := p0) rfl zd_1_19_12 ?_
  refine zz_iload_n (x := p0) rfl zd_1_19_13 ?_
  refine zz_callVV [zi 1, zi p0, zi p0] zd_1_19_14 zk_TF_226 (zT_k6 (by omega)) (zN_k6 hn (by omega)) rfl rfl ⟨Nat.le_of_ble_eq_true rfl, Nat.le_of_ble_eq_true rfl⟩ ⟨rfl, rfl⟩ (Nat.zero_le _) (Nat.zero_le _) (zc_reset_4_2 (12 * (S0 1000 7) + S0 (zz_rf 3 (S0 1000 7)) 1) 1 p0 p0 S0 n hn G_S0 (by omega) (by omega) (by omega) (by omega)) (fun S6 hP => ?_)
  obtain ⟨G_S6, fS6, o8, o9⟩ := hP
  have g10 := zz_G.r G_S0 1000 7 0 1 rfl rfl
  have b11 := zz_G.r G_S0 (zz_rf 3 (S0 1000 7)) 1 1 11 (zR_k3_1 (by omega)) (zB_k3 (by omega))
  have F_S6 := zz_fr.trans F_S0 fS6 rfl (fun a i h => by rcases h with h | h | h | h | h | h | h | h | h | h | h | h | h | h | h; exact Or.inr (Or.inl (h.1 ▸ zM_k6 (z := (12 * (S0 1000 7) + S0 (zz_rf 3 (S0 1000 7)) 1)) (by omega) rfl)); exact Or.inr (Or.inl (h.1 ▸ zM_k6 (z := (12 * (S0 1000 7) + S0 (zz_rf 3 (S0 1000 7)) 1)) (by omega) rfl)); exact Or.inr (Or.inl (h.1 ▸ zM_k6 (z := (12 * (S0 1000 7) + S0 (zz_rf 3 (S0 1000 7)) 1)) (by omega) rfl)); exact Or.inr (Or.inl (h.1 ▸ zM_k6 (z := (12 * (S0 1000 7) + S0 (zz_rf 3 (S0 1000 7)) 1)) (by omega) rfl)); exact Or.inr (Or.inl (h.1 ▸ zM_k6 (z := (12 * (S0 1000 7) + S0 (zz_rf 3 (S0 1000 7)) 1)) (by omega) rfl)); exact Or.inr (Or.inl (h.1 ▸ zM_k6 (z := (12 * (S0 1000 7) + S0 (zz_rf 3 (S0 1000 7)) 1)) (by omega) rfl)); exact Or.inr (Or.inl (h.1 ▸ zM_k6 (z := (12 * (S0 1000 7) + S0 (zz_rf 3 (S0 1000 7)) 1)) (by omega) rfl)); exact Or.inr (Or.inl (h.1 ▸ zM_k6 (z := (12 * (S0 1000 7) + S0 (zz_rf 3 (S0 1000 7)) 1)) (by omega) rfl)); exact Or.inr (Or.inl (h.1 ▸ zM_k6 (z := (12 * (S0 1000 7) + S0 (zz_rf 3 (S0 1000 7)) 1)) (by omega) rfl)); exact Or.inr (Or.inl (h.1 ▸ zM_k6 (z := (12 * (S0 1000 7) + S0 (zz_rf 3 (S0 1000 7)) 1)) (by omega) rfl)); exact Or.inr (Or.inl (h.1 ▸ zM_k6 (z := (12 * (S0 1000 7) + S0 (zz_rf 3 (S0 1000 7)) 1)) (by omega) rfl)); exact Or.inr (Or.inl (h.1 ▸ zM_k6 (z := (12 * (S0 1000 7) + S0 (zz_rf 3 (S0 1000 7)) 1)) (by omega) rfl)); exact Or.inr (Or.inl (h.1 ▸ zM_k6 (z := (12 * (S0 1000 7) + S0 (zz_rf 3 (S0 1000 7)) 1)) (by omega) rfl)); exact Or.inr (Or.inl (h.1 ▸ zM_k6 (z := (12 * (S0 1000 7) + S0 (zz_rf 3 (S0 1000 7)) 1)) (by omega) rfl)); exact Or.inr (Or.inl (h.1 ▸ zM_k6 (z := (12 * (S0 1000 7) + S0 (zz_rf 3 (S0 1000 7)) 1)) (by omega) rfl)))
  have b12 := zz_G.r G_S0 (zz_rf 3 (S0 1000 7)) 1 1 11 (zR_k3_1 (by omega)) (zB_k3 (by omega))
  have b13 := zz_rf6 (z := (12 * (S0 1000 7) + S0 (zz_rf 3 (S0 1000 7)) 1)) (by omega)
  have b14 := zz_rf3 (z := (S0 1000 7)) (by omega)
  have H_S6 : zz_Hc S6 := zz_Hc.fr (q := (S0 1000 7)) (z := 12 * (S0 1000 7) + S0 (zz_rf 3 (S0 1000 7)) 1) fS6 rfl rfl G_S0 (by omega) rfl (fun b j h => by omega) H_S0
  refine zz_aload (x := zz_rf 6 (12 * (S0 1000 7) + S0 (zz_rf 3 (S0 1000 7)) 1)) rfl zd_1_19_17 ?_
  refine zz_iload_n (x := p1) rfl zd_1_19_19 ?_
  refine zz_bipush (by decide) zd_1_19_20 ?_
  refine zz_idiv (by omega) (by omega) zd_1_19_22 (fun v15 hv15 av15 bv15 cv15 => ?_)
  refine zz_iload_n (x := p1) rfl zd_1_19_23 ?_
  refine zz_bipush (by decide) zd_1_19_24 ?_
  refine zz_irem (by omega) (by omega) zd_1_19_26 (fun v16 hv16 av16 bv16 cv16 => ?_)
  refine zz_callVV [zi v15, zi v16] zd_1_19_27 zk_TF_229 (zT_k6 (by omega)) (zN_k6 hn (by omega)) rfl rfl ⟨Nat.le_of_ble_eq_true rfl, Nat.le_of_ble_eq_true rfl⟩ ⟨rfl, rfl⟩ (Nat.zero_le _) (Nat.zero_le _) (zc_takeKernel_4_4 (12 * (S0 1000 7) + S0 (zz_rf 3 (S0 1000 7)) 1) v15 v16 S6 n hn G_S6 (by omega) (by omega) (by omega)) (fun S17 hP => ?_)
  obtain ⟨G_S17, fS17, o19⟩ := hP
  have F_S17 := zz_fr.trans F_S6 fS17 rfl (fun a i h => by rcases h with h | h; exact Or.inr (Or.inl (h.1 ▸ zM_k6 (z := (12 * (S0 1000 7) + S0 (zz_rf 3 (S0 1000 7)) 1)) (by omega) rfl)); exact Or.inr (Or.inl (h.1 ▸ zM_k6 (z := (12 * (S0 1000 7) + S0 (zz_rf 3 (S0 1000 7)) 1)) (by omega) rfl)))
  have H_S17 : zz_Hc S17 := zz_Hc.fr (q := (S0 1000 7)) (z := 12 * (S0 1000 7) + S0 (zz_rf 3 (S0 1000 7)) 1) fS17 rfl rfl G_S6 (by omega) (by rw [show S6 (zz_rf 3 (S0 1000 7)) 1 = S0 (zz_rf 3 (S0 1000 7)) 1 from (zz_rc fS6 (zP_k3 (by omega) rfl) (zQ_k3 (by omega) rfl) (by have hz_ := zz_rf3 (z := S0 1000 7) (by omega); omega) rfl)]) (fun b j h => by omega) H_S6
  refine zz_aload (x := zz_rf 6 (12 * (S0 1000 7) + S0 (zz_rf 3 (S0 1000 7)) 1)) rfl zd_1_19_30 ?_
  refine zz_iload (x := p3) rfl zd_1_19_32 ?_
  refine zz_bipush (by decide) zd_1_19_34 ?_
  refine zz_idiv (by omega) (by omega) zd_1_19_36 (fun v20 hv20 av20 bv20 cv20 => ?_)
  skip
  refine zz_puti zd_1_19_37 zf_TF_232 (zT_k6 (by omega)) rfl (zN_k6 hn (by omega)) (fun S21 qS21 => ?_)
  have G_S21 := zz_G.put G_S17 qS21 (-2147483648) 2147483647 (zR_k6_5 (by omega)) (by omega)
  have F_S21 := zz_fr.putc F_S17 qS21 (zM_k6 (by omega) rfl)
  have H_S21 : zz_Hc S21 := zz_Hc.fr (q := (S0 1000 7)) (z := 12 * (S0 1000 7) + S0 (zz_rf 3 (S0 1000 7)) 1) (zz_fr.put1 qS21) rfl rfl G_S17 (by omega) (by rw [show S17 (zz_rf 3 (S0 1000 7)) 1 = S0 (zz_rf 3 (S0 1000 7)) 1 from (zz_rc fS17 (zP_k3 (by omega) rfl) (zQ_k3 (by omega) rfl) (by have hz_ := zz_rf3 (z := S0 1000 7) (by omega); omega) (zz_rc fS6 (zP_k3 (by omega) rfl) (zQ_k3 (by omega) rfl) (by have hz_ := zz_rf3 (z := S0 1000 7) (by omega); omega) rfl))]) (fun b j h => Or.inr (Or.inr h.1)) H_S17
  refine zz_aload (x := zz_rf 6 (12 * (S0 1000 7) + S0 (zz_rf 3 (S0 1000 7)) 1)) rfl zd_1_19_40 ?_
  refine zz_iload (x := p3) rfl zd_1_19_42 ?_
  refine zz_bipush (by decide) zd_1_19_44 ?_
  refine zz_irem (by omega) (by omega) zd_1_19_46 (fun v22 hv22 av22 bv22 cv22 => ?_)
  skip
  refine zz_puti zd_1_19_47 zf_TF_235 (zT_k6 (by omega)) rfl (zN_k6 hn (by omega)) (fun S23 qS23 => ?_)
  have G_S23 := zz_G.put G_S21 qS23 (-2147483648) 2147483647 (zR_k6_6 (by omega)) (by omega)
  have F_S23 := zz_fr.putc F_S21 qS23 (zM_k6 (by omega) rfl)
  have H_S23 : zz_Hc S23 := zz_Hc.fr (q := (S0 1000 7)) (z := 12 * (S0 1000 7) + S0 (zz_rf 3 (S0 1000 7)) 1) (zz_fr.put1 qS23) rfl rfl G_S21 (by omega) (by rw [show S21 (zz_rf 3 (S0 1000 7)) 1 = S0 (zz_rf 3 (S0 1000 7)) 1 from (zz_ro qS21 (fun h => absurd h.2 (by decide)) (zz_rc fS17 (zP_k3 (by omega) rfl) (zQ_k3 (by omega) rfl) (by have hz_ := zz_rf3 (z := S0 1000 7) (by omega); omega) (zz_rc fS6 (zP_k3 (by omega) rfl) (zQ_k3 (by omega) rfl) (by have hz_ := zz_rf3 (z := S0 1000 7) (by omega); omega) rfl)))]) (fun b j h => Or.inr (Or.inr h.1)) H_S21
  refine zz_aload (x := zz_rf 6 (12 * (S0 1000 7) + S0 (zz_rf 3 (S0 1000 7)) 1)) rfl zd_1_19_50 ?_
  refine zz_iload (x := p4) rfl zd_1_19_52 ?_
  refine zz_callVV [zi p4] zd_1_19_54 zk_TF_238 (zT_k6 (by omega)) (zN_k6 hn (by omega)) rfl rfl ⟨Nat.le_of_ble_eq_true rfl, Nat.le_of_ble_eq_true rfl⟩ ⟨rfl, rfl⟩ (Nat.zero_le _) (Nat.zero_le _) (zc_takeNarrowing_4_5 (12 * (S0 1000 7) + S0 (zz_rf 3 (S0 1000 7)) 1) p4 S23 n hn G_S23 (by omega) (by omega)) (fun S24 hP => ?_)
  obtain ⟨G_S24, fS24, o26⟩ := hP
  have F_S24 := zz_fr.trans F_S23 fS24 rfl (fun a i h => by rcases h with h | h; exact Or.inr (Or.inl (h.1 ▸ zM_k6 (z := (12 * (S0 1000 7) + S0 (zz_rf 3 (S0 1000 7)) 1)) (by omega) rfl)); exact Or.inr (Or.inl (h.1 ▸ zM_k6 (z := (12 * (S0 1000 7) + S0 (zz_rf 3 (S0 1000 7)) 1)) (by omega) rfl)))
  have H_S24 : zz_Hc S24 := zz_Hc.fr (q := (S0 1000 7)) (z := 12 * (S0 1000 7) + S0 (zz_rf 3 (S0 1000 7)) 1) fS24 rfl rfl G_S23 (by omega) (by rw [show S23 (zz_rf 3 (S0 1000 7)) 1 = S0 (zz_rf 3 (S0 1000 7)) 1 from (zz_ro qS23 (fun h => absurd h.2 (by decide)) (zz_ro qS21 (fun h => absurd h.2 (by decide)) (zz_rc fS17 (zP_k3 (by omega) rfl) (zQ_k3 (by omega) rfl) (by have hz_ := zz_rf3 (z := S0 1000 7) (by omega); omega) (zz_rc fS6 (zP_k3 (by omega) rfl) (zQ_k3 (by omega) rfl) (by have hz_ := zz_rf3 (z := S0 1000 7) (by omega); omega) rfl))))]) (fun b j h => by omega) H_S23
  refine zz_aload (x := zz_rf 6 (12 * (S0 1000 7) + S0 (zz_rf 3 (S0 1000 7)) 1)) rfl zd_1_19_57 ?_
  refine zz_iload_n (x := p2) rfl zd_1_19_59 ?_
  refine zz_puti zd_1_19_60 zf_TF_241 (zT_k6 (by omega)) rfl (zN_k6 hn (by omega)) (fun S27 qS27 => ?_)
  have G_S27 := zz_G.put G_S24 qS27 (-2147483648) 2147483647 (zR_k6_12 (by omega)) (by omega)
  have F_S27 := zz_fr.putc F_S24 qS27 (zM_k6 (by omega) rfl)
  have H_S27 : zz_Hc S27 := zz_Hc.fr (q := (S0 1000 7)) (z := 12 * (S0 1000 7) + S0 (zz_rf 3 (S0 1000 7)) 1) (zz_fr.put1 qS27) rfl rfl G_S24 (by omega) (by rw [show S24 (zz_rf 3 (S0 1000 7)) 1 = S0 (zz_rf 3 (S0 1000 7)) 1 from (zz_rc fS24 (zP_k3 (by omega) rfl) (zQ_k3 (by omega) rfl) (by have hz_ := zz_rf3 (z := S0 1000 7) (by omega); omega) (zz_ro qS23 (fun h => absurd h.2 (by decide)) (zz_ro qS21 (fun h => absurd h.2 (by decide)) (zz_rc fS17 (zP_k3 (by omega) rfl) (zQ_k3 (by omega) rfl) (by have hz_ := zz_rf3 (z := S0 1000 7) (by omega); omega) (zz_rc fS6 (zP_k3 (by omega) rfl) (zQ_k3 (by omega) rfl) (by have hz_ := zz_rf3 (z := S0 1000 7) (by omega); omega) rfl)))))]) (fun b j h => Or.inr (Or.inr h.1)) H_S24
  refine zz_aload (x := zz_rf 6 (12 * (S0 1000 7) + S0 (zz_rf 3 (S0 1000 7)) 1)) rfl zd_1_19_63 ?_
  refine zz_iload (x := p5) rfl zd_1_19_65 ?_
  refine zz_puti zd_1_19_67 zf_TF_244 (zT_k6 (by omega)) rfl (zN_k6 hn (by omega)) (fun S28 qS28 => ?_)
  have G_S28 := zz_G.put G_S27 qS28 (-2147483648) 2147483647 (zR_k6_9 (by omega)) (by omega)
  have F_S28 := zz_fr.putc F_S27 qS28 (zM_k6 (by omega) rfl)
  have H_S28 : zz_Hc S28 := zz_Hc.fr (q := (S0 1000 7)) (z := 12 * (S0 1000 7) + S0 (zz_rf 3 (S0 1000 7)) 1) (zz_fr.put1 qS28) rfl rfl G_S27 (by omega) (by rw [show S27 (zz_rf 3 (S0 1000 7)) 1 = S0 (zz_rf 3 (S0 1000 7)) 1 from (zz_ro qS27 (fun h => absurd h.2 (by decide)) (zz_rc fS24 (zP_k3 (by omega) rfl) (zQ_k3 (by omega) rfl) (by have hz_ := zz_rf3 (z := S0 1000 7) (by omega); omega) (zz_ro qS23 (fun h => absurd h.2 (by decide)) (zz_ro qS21 (fun h => absurd h.2 (by decide)) (zz_rc fS17 (zP_k3 (by omega) rfl) (zQ_k3 (by omega) rfl) (by have hz_ := zz_rf3 (z := S0 1000 7) (by omega); omega) (zz_rc fS6 (zP_k3 (by omega) rfl) (zQ_k3 (by omega) rfl) (by have hz_ := zz_rf3 (z := S0 1000 7) (by omega); omega) rfl))))))]) (fun b j h => Or.inr (Or.inr h.1)) H_S27
  refine zz_aload_n (x := 1000) rfl zd_1_19_70 ?_
  have e29 : S28 1000 7 = S0 1000 7 := (zz_ro qS28 (fun h => absurd h.2 (by decide)) (zz_ro qS27 (fun h => absurd h.2 (by decide)) (zz_rc fS24 rfl rfl (by first | decide | omega) (zz_ro qS23 (fun h => absurd h.2 (by decide)) (zz_ro qS21 (fun h => absurd h.2 (by decide)) (zz_rc fS17 rfl rfl (by first | decide | omega) (zz_rc fS6 rfl rfl (by first | decide | omega) rfl)))))))
  have e30 : S28 (zz_rf 3 (S0 1000 7)) 1 = S0 (zz_rf 3 (S0 1000 7)) 1 := (zz_ro qS28 (fun h => absurd h.2 (by decide)) (zz_ro qS27 (fun h => absurd h.2 (by decide)) (zz_rc fS24 (zP_k3 (by omega) rfl) (zQ_k3 (by omega) rfl) (by have hz_ := zz_rf3 (z := S0 1000 7) (by omega); omega) (zz_ro qS23 (fun h => absurd h.2 (by decide)) (zz_ro qS21 (fun h => absurd h.2 (by decide)) (zz_rc fS17 (zP_k3 (by omega) rfl) (zQ_k3 (by omega) rfl) (by have hz_ := zz_rf3 (z := S0 1000 7) (by omega); omega) (zz_rc fS6 (zP_k3 (by omega) rfl) (zQ_k3 (by omega) rfl) (by have hz_ := zz_rf3 (z := S0 1000 7) (by omega); omega) rfl)))))))
  have e31 : S28 (zz_rf 6 (12 * (S0 1000 7) + S0 (zz_rf 3 (S0 1000 7)) 1)) 0 = S6 (zz_rf 6 (12 * (S0 1000 7) + S0 (zz_rf 3 (S0 1000 7)) 1)) 0 := (zz_ro qS28 (fun h => absurd h.2 (by decide)) (zz_ro qS27 (fun h => absurd h.2 (by decide)) (zz_rc fS24 (zP_k6 (by omega) rfl) (zQ_k6 (by omega) rfl) (by have hz_ := zz_rf6 (z := 12 * (S0 1000 7) + S0 (zz_rf 3 (S0 1000 7)) 1) (by omega); omega) (zz_ro qS23 (fun h => absurd h.2 (by decide)) (zz_ro qS21 (fun h => absurd h.2 (by decide)) (zz_rc fS17 (zP_k6 (by omega) rfl) (zQ_k6 (by omega) rfl) (by have hz_ := zz_rf6 (z := 12 * (S0 1000 7) + S0 (zz_rf 3 (S0 1000 7)) 1) (by omega); omega) rfl))))))
  have e32 : S28 (zz_rf 6 (12 * (S0 1000 7) + S0 (zz_rf 3 (S0 1000 7)) 1)) 1 = S6 (zz_rf 6 (12 * (S0 1000 7) + S0 (zz_rf 3 (S0 1000 7)) 1)) 1 := (zz_ro qS28 (fun h => absurd h.2 (by decide)) (zz_ro qS27 (fun h => absurd h.2 (by decide)) (zz_rc fS24 (zP_k6 (by omega) rfl) (zQ_k6 (by omega) rfl) (by have hz_ := zz_rf6 (z := 12 * (S0 1000 7) + S0 (zz_rf 3 (S0 1000 7)) 1) (by omega); omega) (zz_ro qS23 (fun h => absurd h.2 (by decide)) (zz_ro qS21 (fun h => absurd h.2 (by decide)) (zz_rc fS17 (zP_k6 (by omega) rfl) (zQ_k6 (by omega) rfl) (by have hz_ := zz_rf6 (z := 12 * (S0 1000 7) + S0 (zz_rf 3 (S0 1000 7)) 1) (by omega); omega) rfl))))))
  have e33 : S28 (zz_rf 6 (12 * (S0 1000 7) + S0 (zz_rf 3 (S0 1000 7)) 1)) 12 = p2 := (zz_ro qS28 (fun h => absurd h.2 (by decide)) (zz_rs qS27))
  have e34 : S28 (zz_rf 6 (12 * (S0 1000 7) + S0 (zz_rf 3 (S0 1000 7)) 1)) 2 = S6 (zz_rf 6 (12 * (S0 1000 7) + S0 (zz_rf 3 (S0 1000 7)) 1)) 2 := (zz_ro qS28 (fun h => absurd h.2 (by decide)) (zz_ro qS27 (fun h => absurd h.2 (by decide)) (zz_rc fS24 (zP_k6 (by omega) rfl) (zQ_k6 (by omega) rfl) (by have hz_ := zz_rf6 (z := 12 * (S0 1000 7) + S0 (zz_rf 3 (S0 1000 7)) 1) (by omega); omega) (zz_ro qS23 (fun h => absurd h.2 (by decide)) (zz_ro qS21 (fun h => absurd h.2 (by decide)) (zz_rc fS17 (zP_k6 (by omega) rfl) (zQ_k6 (by omega) rfl) (by have hz_ := zz_rf6 (z := 12 * (S0 1000 7) + S0 (zz_rf 3 (S0 1000 7)) 1) (by omega); omega) rfl))))))
  have e35 : S28 (zz_rf 6 (12 * (S0 1000 7) + S0 (zz_rf 3 (S0 1000 7)) 1)) 3 = S17 (zz_rf 6 (12 * (S0 1000 7) + S0 (zz_rf 3 (S0 1000 7)) 1)) 3 := (zz_ro qS28 (fun h => absurd h.2 (by decide)) (zz_ro qS27 (fun h => absurd h.2 (by decide)) (zz_rc fS24 (zP_k6 (by omega) rfl) (zQ_k6 (by omega) rfl) (by have hz_ := zz_rf6 (z := 12 * (S0 1000 7) + S0 (zz_rf 3 (S0 1000 7)) 1) (by omega); omega) (zz_ro qS23 (fun h => absurd h.2 (by decide)) (zz_ro qS21 (fun h => absurd h.2 (by decide)) rfl)))))
  have e36 : S28 (zz_rf 6 (12 * (S0 1000 7) + S0 (zz_rf 3 (S0 1000 7)) 1)) 4 = S17 (zz_rf 6 (12 * (S0 1000 7) + S0 (zz_rf 3 (S0 1000 7)) 1)) 4 := (zz_ro qS28 (fun h => absurd h.2 (by decide)) (zz_ro qS27 (fun h => absurd h.2 (by decide)) (zz_rc fS24 (zP_k6 (by omega) rfl) (zQ_k6 (by omega) rfl) (by have hz_ := zz_rf6 (z := 12 * (S0 1000 7) + S0 (zz_rf 3 (S0 1000 7)) 1) (by omega); omega) (zz_ro qS23 (fun h => absurd h.2 (by decide)) (zz_ro qS21 (fun h => absurd h.2 (by decide)) rfl)))))
  have e37 : S28 (zz_rf 6 (12 * (S0 1000 7) + S0 (zz_rf 3 (S0 1000 7)) 1)) 5 = v20 := (zz_ro qS28 (fun h => absurd h.2 (by decide)) (zz_ro qS27 (fun h => absurd h.2 (by decide)) (zz_rc fS24 (zP_k6 (by omega) rfl) (zQ_k6 (by omega) rfl) (by have hz_ := zz_rf6 (z := 12 * (S0 1000 7) + S0 (zz_rf 3 (S0 1000 7)) 1) (by omega); omega) (zz_ro qS23 (fun h => absurd h.2 (by decide)) (zz_rs qS21)))))
  have e38 : S28 (zz_rf 6 (12 * (S0 1000 7) + S0 (zz_rf 3 (S0 1000 7)) 1)) 6 = v22 := (zz_ro qS28 (fun h => absurd h.2 (by decide)) (zz_ro qS27 (fun h => absurd h.2 (by decide)) (zz_rc fS24 (zP_k6 (by omega) rfl) (zQ_k6 (by omega) rfl) (by have hz_ := zz_rf6 (z := 12 * (S0 1000 7) + S0 (zz_rf 3 (S0 1000 7)) 1) (by omega); omega) (zz_rs qS23))))
  have e39 : S28 (zz_rf 6 (12 * (S0 1000 7) + S0 (zz_rf 3 (S0 1000 7)) 1)) 7 = S24 (zz_rf 6 (12 * (S0 1000 7) + S0 (zz_rf 3 (S0 1000 7)) 1)) 7 := (zz_ro qS28 (fun h => absurd h.2 (by decide)) (zz_ro qS27 (fun h => absurd h.2 (by decide)) rfl))
  have e40 : S28 (zz_rf 6 (12 * (S0 1000 7) + S0 (zz_rf 3 (S0 1000 7)) 1)) 8 = S24 (zz_rf 6 (12 * (S0 1000 7) + S0 (zz_rf 3 (S0 1000 7)) 1)) 8 := (zz_ro qS28 (fun h => absurd h.2 (by decide)) (zz_ro qS27 (fun h => absurd h.2 (by decide)) rfl))
  have e41 : S28 (zz_rf 6 (12 * (S0 1000 7) + S0 (zz_rf 3 (S0 1000 7)) 1)) 9 = p5 := (zz_rs qS28)
  have g49 := zz_G.r G_S28 1000 7 0 1 rfl rfl
  have b50 := zz_G.r G_S28 (zz_rf 3 (S28 1000 7)) 1 1 11 (zR_k3_1 (by omega)) (zB_k3 (by omega))
  refine zz_callVXI [] zd_1_19_71 zk_TF_247 zT_1000 (zz_ltn hn rfl) rfl rfl ⟨Nat.le_of_ble_eq_true rfl, Nat.le_of_ble_eq_true rfl⟩ (Nat.le_of_ble_eq_true rfl) (Nat.le_of_ble_eq_true rfl) (zc_added_1_31  S28 n hn hfl G_S28 H_S28) zyw_convolution_1_19 (fun i SX hX => by obtain ⟨GX, fX, x0, x1, x2, x3⟩ := hX; exact Or.inr ⟨_, _, rfl, GX, zz_fr.trans F_S28 fX rfl (fun a i h => by rcases h with h | h | h | h | h; exact Or.inr (Or.inl (h.1 ▸ zM_k3 (z := (S28 1000 7)) (by omega) rfl)); exact Or.inr (Or.inl (h.1 ▸ zM_k6 (z := (12 * (S28 1000 7) + S28 (zz_rf 3 (S28 1000 7)) 1)) (by omega) rfl)); exact Or.inr (Or.inl (h.1 ▸ zM_k6 (z := (12 * (S28 1000 7) + S28 (zz_rf 3 (S28 1000 7)) 1)) (by omega) rfl)); exact Or.inr (Or.inl (h.1 ▸ zM_k6 (z := (12 * (S28 1000 7) + S28 (zz_rf 3 (S28 1000 7)) 1)) (by omega) rfl)); exact Or.inr (Or.inl (h.1 ▸ zM_k6 (z := (12 * (S28 1000 7) + S28 (zz_rf 3 (S28 1000 7)) 1)) (by omega) rfl))), by omega, by omega, (fun v hC hV => by have C1 : zn_C S28 (S0 1000 7) v := zn_C.kp hC hV (fun a i h1 h2 h3 => ((zz_ro qS28 (fun h => by omega) rfl : S28 a i = S27 a i).trans ((zz_ro qS27 (fun h => by omega) rfl : S27 a i = S24 a i).trans ((fS24 a i rfl rfl (fun h => by omega) : S24 a i = S23 a i).trans ((zz_ro qS23 (fun h => by omega) rfl : S23 a i = S21 a i).trans ((zz_ro qS21 (fun h => by omega) rfl : S21 a i = S17 a i).trans ((fS17 a i rfl rfl (fun h => by omega) : S17 a i = S6 a i).trans (fS6 a i rfl rfl (fun h => by omega) : S6 a i = S0 a i)))))))) (by omega); have h9 := x2 v (by rw [show S28 1000 7 = S0 1000 7 by omega]; exact C1) hV; rw [show S28 1000 7 = S0 1000 7 by omega, show S28 (zz_rf 3 (S0 1000 7)) 1 = S0 (zz_rf 3 (S0 1000 7)) 1 by omega] at h9; have n9 := zn_nar o26; rw [show S28 (zz_rf 6 (12 * (S0 1000 7) + S0 (zz_rf 3 (S0 1000 7)) 1)) 0 = 1 by omega, show S28 (zz_rf 6 (12 * (S0 1000 7) + S0 (zz_rf 3 (S0 1000 7)) 1)) 1 = p0 by omega, show S28 (zz_rf 6 (12 * (S0 1000 7) + S0 (zz_rf 3 (S0 1000 7)) 1)) 2 = p0 by omega, show S28 (zz_rf 6 (12 * (S0 1000 7) + S0 (zz_rf 3 (S0 1000 7)) 1)) 3 = p1.tdiv 10 from (show S28 (zz_rf 6 (12 * (S0 1000 7) + S0 (zz_rf 3 (S0 1000 7)) 1)) 3 = v15 by omega).trans av15, show S28 (zz_rf 6 (12 * (S0 1000 7) + S0 (zz_rf 3 (S0 1000 7)) 1)) 4 = p1.tmod 10 from (show S28 (zz_rf 6 (12 * (S0 1000 7) + S0 (zz_rf 3 (S0 1000 7)) 1)) 4 = v16 by omega).trans av16, show S28 (zz_rf 6 (12 * (S0 1000 7) + S0 (zz_rf 3 (S0 1000 7)) 1)) 5 = p3.tdiv 10 from (show S28 (zz_rf 6 (12 * (S0 1000 7) + S0 (zz_rf 3 (S0 1000 7)) 1)) 5 = v20 by omega).trans av20, show S28 (zz_rf 6 (12 * (S0 1000 7) + S0 (zz_rf 3 (S0 1000 7)) 1)) 6 = p3.tmod 10 from (show S28 (zz_rf 6 (12 * (S0 1000 7) + S0 (zz_rf 3 (S0 1000 7)) 1)) 6 = v22 by omega).trans av22, show S28 (zz_rf 6 (12 * (S0 1000 7) + S0 (zz_rf 3 (S0 1000 7)) 1)) 7 = zn_sh p4 by omega, show S28 (zz_rf 6 (12 * (S0 1000 7) + S0 (zz_rf 3 (S0 1000 7)) 1)) 12 = p2 by omega, show S28 (zz_rf 6 (12 * (S0 1000 7) + S0 (zz_rf 3 (S0 1000 7)) 1)) 9 = p5 by omega] at h9; exact h9 (Or.inl rfl)), x3⟩) (fun v45 S44 hP => ?_)
  obtain ⟨G_S44, fS44, o46, o47, o48⟩ := hP
  rw [show S28 1000 7 = S0 1000 7 from (zz_ro qS28 (fun h => absurd h.2 (by decide)) (zz_ro qS27 (fun h => absurd h.2 (by decide)) (zz_rc fS24 rfl rfl (by first | decide | omega) (zz_ro qS23 (fun h => absurd h.2 (by decide)) (zz_ro qS21 (fun h => absurd h.2 (by decide)) (zz_rc fS17 rfl rfl (by first | decide | omega) (zz_rc fS6 rfl rfl (by first | decide | omega) rfl)))))))] at o47
  have F_S44 := zz_fr.trans F_S28 fS44 rfl (fun a i h => by rcases h with h | h | h | h | h; exact Or.inr (Or.inl (h.1 ▸ zM_k3 (z := (S28 1000 7)) (by omega) rfl)); exact Or.inr (Or.inl (h.1 ▸ zM_k6 (z := (12 * (S28 1000 7) + S28 (zz_rf 3 (S28 1000 7)) 1)) (by omega) rfl)); exact Or.inr (Or.inl (h.1 ▸ zM_k6 (z := (12 * (S28 1000 7) + S28 (zz_rf 3 (S28 1000 7)) 1)) (by omega) rfl)); exact Or.inr (Or.inl (h.1 ▸ zM_k6 (z := (12 * (S28 1000 7) + S28 (zz_rf 3 (S28 1000 7)) 1)) (by omega) rfl)); exact Or.inr (Or.inl (h.1 ▸ zM_k6 (z := (12 * (S28 1000 7) + S28 (zz_rf 3 (S28 1000 7)) 1)) (by omega) rfl)))
  have b51 := zz_rf3 (z := (S28 1000 7)) (by omega)
  have b52 := zz_G.r G_S28 (zz_rf 3 (S28 1000 7)) 1 1 11 (zR_k3_1 (by omega)) (zB_k3 (by omega))
  have b53 := zz_rf6 (z := (12 * (S28 1000 7) + S28 (zz_rf 3 (S28 1000 7)) 1)) (by omega)
  have H_S44 : zz_Hc S44 := o48
  exact zz_iret zd_1_19_74 rfl (Nat.le_of_ble_eq_true rfl) (Nat.le_of_ble_eq_true rfl) (Or.inl ⟨_, _, rfl, G_S44, F_S44, by omega, (fun v hC hV => by have C1 : zn_C S28 (S0 1000 7) v := zn_C.kp hC hV (fun a i h1 h2 h3 => ((zz_ro qS28 (fun h => by omega) rfl : S28 a i = S27 a i).trans ((zz_ro qS27 (fun h => by omega) rfl : S27 a i = S24 a i).trans ((fS24 a i rfl rfl (fun h => by omega) : S24 a i = S23 a i).trans ((zz_ro qS23 (fun h => by omega) rfl : S23 a i = S21 a i).trans ((zz_ro qS21 (fun h => by omega) rfl : S21 a i = S17 a i).trans ((fS17 a i rfl rfl (fun h => by omega) : S17 a i = S6 a i).trans (fS6 a i rfl rfl (fun h => by omega) : S6 a i = S0 a i)))))))) (by omega); have h9 := o47 v C1 hV; rw [show S28 (zz_rf 3 (S0 1000 7)) 1 = S0 (zz_rf 3 (S0 1000 7)) 1 by omega] at h9; have n9 := zn_nar o26; rw [show S28 (zz_rf 6 (12 * (S0 1000 7) + S0 (zz_rf 3 (S0 1000 7)) 1)) 0 = 1 by omega, show S28 (zz_rf 6 (12 * (S0 1000 7) + S0 (zz_rf 3 (S0 1000 7)) 1)) 1 = p0 by omega, show S28 (zz_rf 6 (12 * (S0 1000 7) + S0 (zz_rf 3 (S0 1000 7)) 1)) 2 = p0 by omega, show S28 (zz_rf 6 (12 * (S0 1000 7) + S0 (zz_rf 3 (S0 1000 7)) 1)) 3 = p1.tdiv 10 from (show S28 (zz_rf 6 (12 * (S0 1000 7) + S0 (zz_rf 3 (S0 1000 7)) 1)) 3 = v15 by omega).trans av15, show S28 (zz_rf 6 (12 * (S0 1000 7) + S0 (zz_rf 3 (S0 1000 7)) 1)) 4 = p1.tmod 10 from (show S28 (zz_rf 6 (12 * (S0 1000 7) + S0 (zz_rf 3 (S0 1000 7)) 1)) 4 = v16 by omega).trans av16, show S28 (zz_rf 6 (12 * (S0 1000 7) + S0 (zz_rf 3 (S0 1000 7)) 1)) 5 = p3.tdiv 10 from (show S28 (zz_rf 6 (12 * (S0 1000 7) + S0 (zz_rf 3 (S0 1000 7)) 1)) 5 = v20 by omega).trans av20, show S28 (zz_rf 6 (12 * (S0 1000 7) + S0 (zz_rf 3 (S0 1000 7)) 1)) 6 = p3.tmod 10 from (show S28 (zz_rf 6 (12 * (S0 1000 7) + S0 (zz_rf 3 (S0 1000 7)) 1)) 6 = v22 by omega).trans av22, show S28 (zz_rf 6 (12 * (S0 1000 7) + S0 (zz_rf 3 (S0 1000 7)) 1)) 7 = zn_sh p4 by omega, show S28 (zz_rf 6 (12 * (S0 1000 7) + S0 (zz_rf 3 (S0 1000 7)) 1)) 12 = p2 by omega, show S28 (zz_rf 6 (12 * (S0 1000 7) + S0 (zz_rf 3 (S0 1000 7)) 1)) 9 = p5 by omega, show S28 (zz_rf 6 (12 * (S0 1000 7) + S0 (zz_rf 3 (S0 1000 7)) 1)) 8 = zn_rl p4 by omega] at h9; exact h9 (Or.inl rfl)), H_S44⟩)
abbrev zy_pool_1_20 : mm_Y := (⟨"TensorForge", "pool", "(III)I"⟩, prog_1_method_20_code, 5, (some .int))
theorem zyw_pool_1_20 : mm_Yw zy_pool_1_20 3 := ⟨mm_tb_1 1381 (by decide +kernel) rfl, mm_tb_1 1 (by decide +kernel) rfl, ⟨by decide, by decide⟩, by decide +kernel⟩
theorem zg_1_20_0 : zq_at zy_pool_1_20.2.1 0 42 ∧ zq_at zy_pool_1_20.2.1 1 180 ∧ zq_at zy_pool_1_20.2.1 2 0 ∧ zq_at zy_pool_1_20.2.1 3 10 ∧ zq_at zy_pool_1_20.2.1 4 182 ∧ zq_at zy_pool_1_20.2.1 5 0 ∧ zq_at zy_pool_1_20.2.1 6 220 ∧ zq_at zy_pool_1_20.2.1 7 58 ∧ zq_at zy_pool_1_20.2.1 8 4 ∧ zq_at zy_pool_1_20.2.1 9 25 ∧ zq_at zy_pool_1_20.2.1 10 4 ∧ zq_at zy_pool_1_20.2.1 11 5 ∧ zq_at zy_pool_1_20.2.1 12 27 ∧ zq_at zy_pool_1_20.2.1 13 27 ∧ zq_at zy_pool_1_20.2.1 14 182 ∧ zq_at zy_pool_1_20.2.1 15 0 ∧ zq_at zy_pool_1_20.2.1 16 226 ∧ zq_at zy_pool_1_20.2.1 17 25 ∧ zq_at zy_pool_1_20.2.1 18 4 ∧ zq_at zy_pool_1_20.2.1 19 28 ∧ zq_at zy_pool_1_20.2.1 20 16 ∧ zq_at zy_pool_1_20.2.1 21 10 ∧ zq_at zy_pool_1_20.2.1 22 108 ∧ zq_at zy_pool_1_20.2.1 23 28 := by decide +kernel
theorem zd_1_20_0 : zz_D zy_pool_1_20 0 (.aload_n 0) 1 1 := ⟨zq_42 zg_1_20_0.1, rfl⟩
theorem zd_1_20_1 : zz_D zy_pool_1_20 1 (.getfield 10) 3 4 := ⟨zq_180 zg_1_20_0.2.1 zg_1_20_0.2.2.1 zg_1_20_0.2.2.2.1 rfl, rfl⟩
theorem zd_1_20_4 : zz_D zy_pool_1_20 4 (.invokevirtual 220) 3 7 := ⟨zq_182 zg_1_20_0.2.2.2.2.1 zg_1_20_0.2.2.2.2.2.1 zg_1_20_0.2.2.2.2.2.2.1 rfl, rfl⟩
theorem zd_1_20_7 : zz_D zy_pool_1_20 7 (.astore 4) 2 9 := ⟨zq_58 zg_1_20_0.2.2.2.2.2.2.2.1 zg_1_20_0.2.2.2.2.2.2.2.2.1, rfl⟩
theorem zd_1_20_9 : zz_D zy_pool_1_20 9 (.aload 4) 2 11 := ⟨zq_25 zg_1_20_0.2.2.2.2.2.2.2.2.2.1 zg_1_20_0.2.2.2.2.2.2.2.2.2.2.1, rfl⟩
theorem zd_1_20_11 : zz_D zy_pool_1_20 11 (.iconst 2) 1 12 := ⟨zq_5 zg_1_20_0.2.2.2.2.2.2.2.2.2.2.2.1, rfl⟩
theorem zd_1_20_12 : zz_D zy_pool_1_20 12 (.iload_n 1) 1 13 := ⟨zq_27 zg_1_20_0.2.2.2.2.2.2.2.2.2.2.2.2.1, rfl⟩
theorem zd_1_20_13 : zz_D zy_pool_1_20 13 (.iload_n 1) 1 14 := ⟨zq_27 zg_1_20_0.2.2.2.2.2.2.2.2.2.2.2.2.2.1, rfl⟩
theorem zd_1_20_14 : zz_D zy_pool_1_20 14 (.invokevirtual 226) 3 17 := ⟨zq_182 zg_1_20_0.2.2.2.2.2.2.2.2.2.2.2.2.2.2.1 zg_1_20_0.2.2.2.2.2.2.2.2.2.2.2.2.2.2.2.1 zg_1_20_0.2.2.2.2.2.2.2.2.2.2.2.2.2.2.2.2.1 rfl, rfl⟩
theorem zd_1_20_17 : zz_D zy_pool_1_20 17 (.aload 4) 2 19 := ⟨zq_25 zg_1_20_0.2.2.2.2.2.2.2.2.2.2.2.2.2.2.2.2.2.1 zg_1_20_0.2.2.2.2.2.2.2.2.2.2.2.2.2.2.2.2.2.2.1, rfl⟩
theorem zd_1_20_19 : zz_D zy_pool_1_20 19 (.iload_n 2) 1 20 := ⟨zq_28 zg_1_20_0.2.2.2.2.2.2.2.2.2.2.2.2.2.2.2.2.2.2.2.1, rfl⟩
theorem zd_1_20_20 : zz_D zy_pool_1_20 20 (.bipush 10) 2 22 := ⟨zq_16 zg_1_20_0.2.2.2.2.2.2.2.2.2.2.2.2.2.2.2.2.2.2.2.2.1 zg_1_20_0.2.2.2.2.2.2.2.2.2.2.2.2.2.2.2.2.2.2.2.2.2.1 (by decide), rfl⟩
theorem zd_1_20_22 : zz_D zy_pool_1_20 22 (.idiv) 1 23 := ⟨zq_108 zg_1_20_0.2.2.2.2.2.2.2.2.2.2.2.2.2.2.2.2.2.2.2.2.2.2.1, rfl⟩
theorem zd_1_20_23 : zz_D zy_pool_1_20 23 (.iload_n 2) 1 24 := ⟨zq_28 zg_1_20_0.2.2.2.2.2.2.2.2.2.2.2.2.2.2.2.2.2.2.2.2.2.2.2, rfl⟩
theorem zg_1_20_24 : zq_at zy_pool_1_20.2.1 24 16 ∧ zq_at zy_pool_1_20.2.1 25 10 ∧ zq_at zy_pool_1_20.2.1 26 112 ∧ zq_at zy_pool_1_20.2.1 27 182 ∧ zq_at zy_pool_1_20.2.1 28 0 ∧ zq_at zy_pool_1_20.2.1 29 229 ∧ zq_at zy_pool_1_20.2.1 30 25 ∧ zq_at zy_pool_1_20.2.1 31 4 ∧ zq_at zy_pool_1_20.2.1 32 29 ∧ zq_at zy_pool_1_20.2.1 33 181 ∧ zq_at zy_pool_1_20.2.1 34 0 ∧ zq_at zy_pool_1_20.2.1 35 232 ∧ zq_at zy_pool_1_20.2.1 36 42 ∧ zq_at zy_pool_1_20.2.1 37 182 ∧ zq_at zy_pool_1_20.2.1 38 0 ∧ zq_at zy_pool_1_20.2.1 39 247 ∧ zq_at zy_pool_1_20.2.1 40 172 := by decide +kernel
theorem zd_1_20_24 : zz_D zy_pool_1_20 24 (.bipush 10) 2 26 := ⟨zq_16 zg_1_20_24.1 zg_1_20_24.2.1 (by decide), rfl⟩
theorem zd_1_20_26 : zz_D zy_pool_1_20 26 (.irem) 1 27 := ⟨zq_112 zg_1_20_24.2.2.1, rfl⟩
theorem zd_1_20_27 : zz_D zy_pool_1_20 27 (.invokevirtual 229) 3 30 := ⟨zq_182 zg_1_20_24.2.2.2.1 zg_1_20_24.2.2.2.2.1 zg_1_20_24.2.2.2.2.2.1 rfl, rfl⟩
theorem zd_1_20_30 : zz_D zy_pool_1_20 30 (.aload 4) 2 32 := ⟨zq_25 zg_1_20_24.2.2.2.2.2.2.1 zg_1_20_24.2.2.2.2.2.2.2.1, rfl⟩
theorem zd_1_20_32 : zz_D zy_pool_1_20 32 (.iload_n 3) 1 33 := ⟨zq_29 zg_1_20_24.2.2.2.2.2.2.2.2.1, rfl⟩
theorem zd_1_20_33 : zz_D zy_pool_1_20 33 (.putfield 232) 3 36 := ⟨zq_181 zg_1_20_24.2.2.2.2.2.2.2.2.2.1 zg_1_20_24.2.2.2.2.2.2.2.2.2.2.1 zg_1_20_24.2.2.2.2.2.2.2.2.2.2.2.1 rfl, rfl⟩
theorem zd_1_20_36 : zz_D zy_pool_1_20 36 (.aload_n 0) 1 37 := ⟨zq_42 zg_1_20_24.2.2.2.2.2.2.2.2.2.2.2.2.1, rfl⟩
theorem zd_1_20_37 : zz_D zy_pool_1_20 37 (.invokevirtual 247) 3 40 := ⟨zq_182 zg_1_20_24.2.2.2.2.2.2.2.2.2.2.2.2.2.1 zg_1_20_24.2.2.2.2.2.2.2.2.2.2.2.2.2.2.1 zg_1_20_24.2.2.2.2.2.2.2.2.2.2.2.2.2.2.2.1 rfl, rfl⟩
theorem zd_1_20_40 : zz_D zy_pool_1_20 40 (.ireturn) 1 41 := ⟨zq_172 zg_1_20_24.2.2.2.2.2.2.2.2.2.2.2.2.2.2.2.2, rfl⟩
-- TensorForge pool (III)I
abbrev zr_pool_1_20 : Room := { frames := 7, cells := 1, slots := 6, locals := 95 }
def zp_pool_1_20 (p0 : Int) (p1 : Int) (p2 : Int) (S0 : zz_S) : Int → zz_S → Prop := fun r S => zz_G S ∧ zz_fr [] [1001, 1003, 1004, 1005, 1006, 1007, 1008, 1009, 1010, 1011, 1012, 1013, 1014, 1015, 1017, 1018, 1019, 1020, 1021, 1022, 1023, 1024, 1025, 1026, 1027, 1028] (fun _ _ => False) S0 S ∧ ((-2147483648) ≤ r ∧ r ≤ 2147483647) ∧ (∀ v : zn_T, zn_C S0 (S0 1000 7) v → zn_V v → zn_F v 2 p0 p0 (p1.tdiv 10) (p1.tmod 10) p2 0 0 1 0 0 ∧ r = v 15 0 ∧ ∀ nm : Int, zn_C S (S0 1000 7) (zn_nw v 2 p0 p0 (p1.tdiv 10) (p1.tmod 10) p2 0 0 0 1 0 nm)) ∧ (zz_Hc S)
def zx_pool_1_20 (p0 : Int) (p1 : Int) (p2 : Int) (S0 : zz_S) : Nat → zz_S → Prop := fun i S => zz_G S ∧ zz_fr [] [1001, 1003, 1004, 1005, 1006, 1007, 1008, 1009, 1010, 1011, 1012, 1013, 1014, 1015, 1017, 1018, 1019, 1020, 1021, 1022, 1023, 1024, 1025, 1026, 1027, 1028] (fun _ _ => False) S0 S ∧ (i < 4) ∧ (i = 0 ∨ i = 1 ∨ i = 2) ∧ (∀ v : zn_T, zn_C S0 (S0 1000 7) v → zn_V v → zn_F v 2 p0 p0 (p1.tdiv 10) (p1.tmod 10) p2 0 0 1 0 (if i = 0 then 2 else if i = 1 then 1 else 3) ∧ zn_C S (S0 1000 7) v) ∧ (zz_Hc S)
theorem zc_pool_1_20 {g : mm_G} {l : Launch} (p0 : Int) (p1 : Int) (p2 : Int) (S0 : zz_S) (n : Nat) (hn : zz_end ≤ n) (hfl : l.flags = flags0) (G_S0 : zz_G S0) (hp0 : (-2147483648) ≤ p0 ∧ p0 ≤ 2147483647) (hp1 : (-2147483648) ≤ p1 ∧ p1 ≤ 2147483647) (hp2 : (-2147483648) ≤ p2 ∧ p2 ≤ 2147483647) (H_S0 : zz_Hc S0) : mm_Met g l zy_pool_1_20 zr_pool_1_20 [.ref 1000, zi p0, zi p1, zi p2] (zz_M S0 n) n (zz_XI n (zp_pool_1_20 p0 p1 p2 S0) (zx_pool_1_20 p0 p1 p2 S0)) := by
  refine zz_enter (by decide) (Nat.le_of_ble_eq_true rfl) (zz_less (ls1 := [some (.ref 1000), some (zi p0), some (zi p1), some (zi p2)]) ⟨rfl, ⟨rfl, ⟨rfl, ⟨rfl, trivial⟩⟩⟩⟩ ?_)
  have F_S0 : zz_fr [] [1001, 1003, 1004, 1005, 1006, 1007, 1008, 1009, 1010, 1011, 1012, 1013, 1014, 1015, 1017, 1018, 1019, 1020, 1021, 1022, 1023, 1024, 1025, 1026, 1027, 1028] (fun _ _ => False) S0 S0 := zz_fr.refl
  refine zz_aload_n (x := 1000) rfl zd_1_20_0 ?_
  have g1 := zz_G.r G_S0 1000 7 0 1 rfl rfl
  refine zz_getr (kd := 1) (z := S0 1000 7) zd_1_20_1 zf_TF_10 zT_1000 rfl (zz_ltn hn rfl) rfl (by omega) (zz_rf 3 (S0 1000 7)) rfl ?_
  refine zz_callVA [] zd_1_20_4 zk_TF_220 (zT_k3 (by omega)) (zN_k3 hn (by omega)) rfl rfl ⟨Nat.le_of_ble_eq_true rfl, Nat.le_of_ble_eq_true rfl⟩ ⟨rfl, rfl⟩ (Nat.zero_le _) (Nat.zero_le _) (zc_draft_7_6 (S0 1000 7) S0 n hn G_S0 (by omega)) (fun v3 S2 hP => ?_)
  obtain ⟨rfl, o4, o5⟩ := hP
  subst o4
  refine zz_astore [some (.ref 1000), some (zi p0), some (zi p1), some (zi p2), some (.ref (zz_rf 6 (12 * (S0 1000 7) + S0 (zz_rf 3 (S0 1000 7)) 1)))] zd_1_20_7 (by decide) rfl ?_
  refine zz_aload (x := zz_rf 6 (12 * (S0 1000 7) + S0 (zz_rf 3 (S0 1000 7)) 1)) rfl zd_1_20_9 ?_
  refine zz_iconst zd_1_20_11 ?_
  refine zz_iload_n (x := p0) rfl zd_1_20_12 ?_
  refine zz_iload_n (x := p0) rfl zd_1_20_13 ?_
  refine zz_callVV [zi 2, zi p0, zi p0] zd_1_20_14 zk_TF_226 (zT_k6 (by omega)) (zN_k6 hn (by omega)) rfl rfl ⟨Nat.le_of_ble_eq_true rfl, Nat.le_of_ble_eq_true rfl⟩ ⟨rfl, rfl⟩ (Nat.zero_le _) (Nat.zero_le _) (zc_reset_4_2 (12 * (S0 1000 7) + S0 (zz_rf 3 (S0 1000 7)) 1) 2 p0 p0 S0 n hn G_S0 (by omega) (by omega) (by omega) (by omega)) (fun S6 hP => ?_)
  obtain ⟨G_S6, fS6, o8, o9⟩ := hP
  have g10 := zz_G.r G_S0 1000 7 0 1 rfl rfl
  have b11 := zz_G.r G_S0 (zz_rf 3 (S0 1000 7)) 1 1 11 (zR_k3_1 (by omega)) (zB_k3 (by omega))
  have F_S6 := zz_fr.trans F_S0 fS6 rfl (fun a i h => by rcases h with h | h | h | h | h | h | h | h | h | h | h | h | h | h | h; exact Or.inr (Or.inl (h.1 ▸ zM_k6 (z := (12 * (S0 1000 7) + S0 (zz_rf 3 (S0 1000 7)) 1)) (by omega) rfl)); exact Or.inr (Or.inl (h.1 ▸ zM_k6 (z := (12 * (S0 1000 7) + S0 (zz_rf 3 (S0 1000 7)) 1)) (by omega) rfl)); exact Or.inr (Or.inl (h.1 ▸ zM_k6 (z := (12 * (S0 1000 7) + S0 (zz_rf 3 (S0 1000 7)) 1)) (by omega) rfl)); exact Or.inr (Or.inl (h.1 ▸ zM_k6 (z := (12 * (S0 1000 7) + S0 (zz_rf 3 (S0 1000 7)) 1)) (by omega) rfl)); exact Or.inr (Or.inl (h.1 ▸ zM_k6 (z := (12 * (S0 1000 7) + S0 (zz_rf 3 (S0 1000 7)) 1)) (by omega) rfl)); exact Or.inr (Or.inl (h.1 ▸ zM_k6 (z := (12 * (S0 1000 7) + S0 (zz_rf 3 (S0 1000 7)) 1)) (by omega) rfl)); exact Or.inr (Or.inl (h.1 ▸ zM_k6 (z := (12 * (S0 1000 7) + S0 (zz_rf 3 (S0 1000 7)) 1)) (by omega) rfl)); exact Or.inr (Or.inl (h.1 ▸ zM_k6 (z := (12 * (S0 1000 7) + S0 (zz_rf 3 (S0 1000 7)) 1)) (by omega) rfl)); exact Or.inr (Or.inl (h.1 ▸ zM_k6 (z := (12 * (S0 1000 7) + S0 (zz_rf 3 (S0 1000 7)) 1)) (by omega) rfl)); exact Or.inr (Or.inl (h.1 ▸ zM_k6 (z := (12 * (S0 1000 7) + S0 (zz_rf 3 (S0 1000 7)) 1)) (by omega) rfl)); exact Or.inr (Or.inl (h.1 ▸ zM_k6 (z := (12 * (S0 1000 7) + S0 (zz_rf 3 (S0 1000 7)) 1)) (by omega) rfl)); exact Or.inr (Or.inl (h.1 ▸ zM_k6 (z := (12 * (S0 1000 7) + S0 (zz_rf 3 (S0 1000 7)) 1)) (by omega) rfl)); exact Or.inr (Or.inl (h.1 ▸ zM_k6 (z := (12 * (S0 1000 7) + S0 (zz_rf 3 (S0 1000 7)) 1)) (by omega) rfl)); exact Or.inr (Or.inl (h.1 ▸ zM_k6 (z := (12 * (S0 1000 7) + S0 (zz_rf 3 (S0 1000 7)) 1)) (by omega) rfl)); exact Or.inr (Or.inl (h.1 ▸ zM_k6 (z := (12 * (S0 1000 7) + S0 (zz_rf 3 (S0 1000 7)) 1)) (by omega) rfl)))
  have b12 := zz_G.r G_S0 (zz_rf 3 (S0 1000 7)) 1 1 11 (zR_k3_1 (by omega)) (zB_k3 (by omega))
  have b13 := zz_rf6 (z := (12 * (S0 1000 7) + S0 (zz_rf 3 (S0 1000 7)) 1)) (by omega)
  have b14 := zz_rf3 (z := (S0 1000 7)) (by omega)
  have H_S6 : zz_Hc S6 := zz_Hc.fr (q := (S0 1000 7)) (z := 12 * (S0 1000 7) + S0 (zz_rf 3 (S0 1000 7)) 1) fS6 rfl rfl G_S0 (by omega) rfl (fun b j h => by omega) H_S0
  refine zz_aload (x := zz_rf 6 (12 * (S0 1000 7) + S0 (zz_rf 3 (S0 1000 7)) 1)) rfl zd_1_20_17 ?_
  refine zz_iload_n (x := p1) rfl zd_1_20_19 ?_
  refine zz_bipush (by decide) zd_1_20_20 ?_
  refine zz_idiv (by omega) (by omega) zd_1_20_22 (fun v15 hv15 av15 bv15 cv15 => ?_)
  refine zz_iload_n (x := p1) rfl zd_1_20_23 ?_
  refine zz_bipush (by decide) zd_1_20_24 ?_
  refine zz_irem (by omega) (by omega) zd_1_20_26 (fun v16 hv16 av16 bv16 cv16 => ?_)
  refine zz_callVV [zi v15, zi v16] zd_1_20_27 zk_TF_229 (zT_k6 (by omega)) (zN_k6 hn (by omega)) rfl rfl ⟨Nat.le_of_ble_eq_true rfl, Nat.le_of_ble_eq_true rfl⟩ ⟨rfl, rfl⟩ (Nat.zero_le _) (Nat.zero_le _) (zc_takeKernel_4_4 (12 * (S0 1000 7) + S0 (zz_rf 3 (S0 1000 7)) 1) v15 v16 S6 n hn G_S6 (by omega) (by omega) (by omega)) (fun S17 hP => ?_)
  obtain ⟨G_S17, fS17, o19⟩ := hP
  have F_S17 := zz_fr.trans F_S6 fS17 rfl (fun a i h => by rcases h with h | h; exact Or.inr (Or.inl (h.1 ▸ zM_k6 (z := (12 * (S0 1000 7) + S0 (zz_rf 3 (S0 1000 7)) 1)) (by omega) rfl)); exact Or.inr (Or.inl (h.1 ▸ zM_k6 (z := (12 * (S0 1000 7) + S0 (zz_rf 3 (S0 1000 7)) 1)) (by omega) rfl)))
  have H_S17 : zz_Hc S17 := zz_Hc.fr (q := (S0 1000 7)) (z := 12 * (S0 1000 7) + S0 (zz_rf 3 (S0 1000 7)) 1) fS17 rfl rfl G_S6 (by omega) (by rw [show S6 (zz_rf 3 (S0 1000 7)) 1 = S0 (zz_rf 3 (S0 1000 7)) 1 from (zz_rc fS6 (zP_k3 (by omega) rfl) (zQ_k3 (by omega) rfl) (by have hz_ := zz_rf3 (z := S0 1000 7) (by omega); omega) rfl)]) (fun b j h => by omega) H_S6
  refine zz_aload (x := zz_rf 6 (12 * (S0 1000 7) + S0 (zz_rf 3 (S0 1000 7)) 1)) rfl zd_1_20_30 ?_
  refine zz_iload_n (x := p2) rfl zd_1_20_32 ?_
  refine zz_puti zd_1_20_33 zf_TF_232 (zT_k6 (by omega)) rfl (zN_k6 hn (by omega)) (fun S20 qS20 => ?_)
  have G_S20 := zz_G.put G_S17 qS20 (-2147483648) 2147483647 (zR_k6_5 (by omega)) (by omega)
  have F_S20 := zz_fr.putc F_S17 qS20 (zM_k6 (by omega) rfl)
  have H_S20 : zz_Hc S20 := zz_Hc.fr (q := (S0 1000 7)) (z := 12 * (S0 1000 7) + S0 (zz_rf 3 (S0 1000 7)) 1) (zz_fr.put1 qS20) rfl rfl G_S17 (by omega) (by rw [show S17 (zz_rf 3 (S0 1000 7)) 1 = S0 (zz_rf 3 (S0 1000 7)) 1 from (zz_rc fS17 (zP_k3 (by omega) rfl) (zQ_k3 (by omega) rfl) (by have hz_ := zz_rf3 (z := S0 1000 7) (by omega); omega) (zz_rc fS6 (zP_k3 (by omega) rfl) (zQ_k3 (by omega) rfl) (by have hz_ := zz_rf3 (z := S0 1000 7) (by omega); omega) rfl))]) (fun b j h => Or.inr (Or.inr h.1)) H_S17
  refine zz_aload_n (x := 1000) rfl zd_1_20_36 ?_
  have e21 : S20 1000 7 = S0 1000 7 := (zz_ro qS20 (fun h => absurd h.2 (by decide)) (zz_rc fS17 rfl rfl (by first | decide | omega) (zz_rc fS6 rfl rfl (by first | decide | omega) rfl)))
  have e22 : S20 (zz_rf 3 (S0 1000 7)) 1 = S0 (zz_rf 3 (S0 1000 7)) 1 := (zz_ro qS20 (fun h => absurd h.2 (by decide)) (zz_rc fS17 (zP_k3 (by omega) rfl) (zQ_k3 (by omega) rfl) (by have hz_ := zz_rf3 (z := S0 1000 7) (by omega); omega) (zz_rc fS6 (zP_k3 (by omega) rfl) (zQ_k3 (by omega) rfl) (by have hz_ := zz_rf3 (z := S0 1000 7) (by omega); omega) rfl)))
  have e23 : S20 (zz_rf 6 (12 * (S0 1000 7) + S0 (zz_rf 3 (S0 1000 7)) 1)) 0 = S6 (zz_rf 6 (12 * (S0 1000 7) + S0 (zz_rf 3 (S0 1000 7)) 1)) 0 := (zz_ro qS20 (fun h => absurd h.2 (by decide)) (zz_rc fS17 (zP_k6 (by omega) rfl) (zQ_k6 (by omega) rfl) (by have hz_ := zz_rf6 (z := 12 * (S0 1000 7) + S0 (zz_rf 3 (S0 1000 7)) 1) (by omega); omega) rfl))
  have e24 : S20 (zz_rf 6 (12 * (S0 1000 7) + S0 (zz_rf 3 (S0 1000 7)) 1)) 1 = S6 (zz_rf 6 (12 * (S0 1000 7) + S0 (zz_rf 3 (S0 1000 7)) 1)) 1 := (zz_ro qS20 (fun h => absurd h.2 (by decide)) (zz_rc fS17 (zP_k6 (by omega) rfl) (zQ_k6 (by omega) rfl) (by have hz_ := zz_rf6 (z := 12 * (S0 1000 7) + S0 (zz_rf 3 (S0 1000 7)) 1) (by omega); omega) rfl))
  have e25 : S20 (zz_rf 6 (12 * (S0 1000 7) + S0 (zz_rf 3 (S0 1000 7)) 1)) 12 = S6 (zz_rf 6 (12 * (S0 1000 7) + S0 (zz_rf 3 (S0 1000 7)) 1)) 12 := (zz_ro qS20 (fun h => absurd h.2 (by decide)) (zz_rc fS17 (zP_k6 (by omega) rfl) (zQ_k6 (by omega) rfl) (by have hz_ := zz_rf6 (z := 12 * (S0 1000 7) + S0 (zz_rf 3 (S0 1000 7)) 1) (by omega); omega) rfl))
  have e26 : S20 (zz_rf 6 (12 * (S0 1000 7) + S0 (zz_rf 3 (S0 1000 7)) 1)) 2 = S6 (zz_rf 6 (12 * (S0 1000 7) + S0 (zz_rf 3 (S0 1000 7)) 1)) 2 := (zz_ro qS20 (fun h => absurd h.2 (by decide)) (zz_rc fS17 (zP_k6 (by omega) rfl) (zQ_k6 (by omega) rfl) (by have hz_ := zz_rf6 (z := 12 * (S0 1000 7) + S0 (zz_rf 3 (S0 1000 7)) 1) (by omega); omega) rfl))
  have e27 : S20 (zz_rf 6 (12 * (S0 1000 7) + S0 (zz_rf 3 (S0 1000 7)) 1)) 3 = S17 (zz_rf 6 (12 * (S0 1000 7) + S0 (zz_rf 3 (S0 1000 7)) 1)) 3 := (zz_ro qS20 (fun h => absurd h.2 (by decide)) rfl)
  have e28 : S20 (zz_rf 6 (12 * (S0 1000 7) + S0 (zz_rf 3 (S0 1000 7)) 1)) 4 = S17 (zz_rf 6 (12 * (S0 1000 7) + S0 (zz_rf 3 (S0 1000 7)) 1)) 4 := (zz_ro qS20 (fun h => absurd h.2 (by decide)) rfl)
  have e29 : S20 (zz_rf 6 (12 * (S0 1000 7) + S0 (zz_rf 3 (S0 1000 7)) 1)) 5 = p2 := (zz_rs qS20)
  have e30 : S20 (zz_rf 6 (12 * (S0 1000 7) + S0 (zz_rf 3 (S0 1000 7)) 1)) 6 = S6 (zz_rf 6 (12 * (S0 1000 7) + S0 (zz_rf 3 (S0 1000 7)) 1)) 6 := (zz_ro qS20 (fun h => absurd h.2 (by decide)) (zz_rc fS17 (zP_k6 (by omega) rfl) (zQ_k6 (by omega) rfl) (by have hz_ := zz_rf6 (z := 12 * (S0 1000 7) + S0 (zz_rf 3 (S0 1000 7)) 1) (by omega); omega) rfl))
  have e31 : S20 (zz_rf 6 (12 * (S0 1000 7) + S0 (zz_rf 3 (S0 1000 7)) 1)) 7 = S6 (zz_rf 6 (12 * (S0 1000 7) + S0 (zz_rf 3 (S0 1000 7)) 1)) 7 := (zz_ro qS20 (fun h => absurd h.2 (by decide)) (zz_rc fS17 (zP_k6 (by omega) rfl) (zQ_k6 (by omega) rfl) (by have hz_ := zz_rf6 (z := 12 * (S0 1000 7) + S0 (zz_rf 3 (S0 1000 7)) 1) (by omega); omega) rfl))
  have e32 : S20 (zz_rf 6 (12 * (S0 1000 7) + S0 (zz_rf 3 (S0 1000 7)) 1)) 8 = S6 (zz_rf 6 (12 * (S0 1000 7) + S0 (zz_rf 3 (S0 1000 7)) 1)) 8 := (zz_ro qS20 (fun h => absurd h.2 (by decide)) (zz_rc fS17 (zP_k6 (by omega) rfl) (zQ_k6 (by omega) rfl) (by have hz_ := zz_rf6 (z := 12 * (S0 1000 7) + S0 (zz_rf 3 (S0 1000 7)) 1) (by omega); omega) rfl))
  have e33 : S20 (zz_rf 6 (12 * (S0 1000 7) + S0 (zz_rf 3 (S0 1000 7)) 1)) 9 = S6 (zz_rf 6 (12 * (S0 1000 7) + S0 (zz_rf 3 (S0 1000 7)) 1)) 9 := (zz_ro qS20 (fun h => absurd h.2 (by decide)) (zz_rc fS17 (zP_k6 (by omega) rfl) (zQ_k6 (by omega) rfl) (by have hz_ := zz_rf6 (z := 12 * (S0 1000 7) + S0 (zz_rf 3 (S0 1000 7)) 1) (by omega); omega) rfl))
  have g41 := zz_G.r G_S20 1000 7 0 1 rfl rfl
  have b42 := zz_G.r G_S20 (zz_rf 3 (S20 1000 7)) 1 1 11 (zR_k3_1 (by omega)) (zB_k3 (by omega))
  refine zz_callVXI [] zd_1_20_37 zk_TF_247 zT_1000 (zz_ltn hn rfl) rfl rfl ⟨Nat.le_of_ble_eq_true rfl, Nat.le_of_ble_eq_true rfl⟩ (Nat.le_of_ble_eq_true rfl) (Nat.le_of_ble_eq_true rfl) (zc_added_1_31  S20 n hn hfl G_S20 H_S20) zyw_pool_1_20 (fun i SX hX => by obtain ⟨GX, fX, x0, x1, x2, x3⟩ := hX; exact Or.inr ⟨_, _, rfl, GX, zz_fr.trans F_S20 fX rfl (fun a i h => by rcases h with h | h | h | h | h; exact Or.inr (Or.inl (h.1 ▸ zM_k3 (z := (S20 1000 7)) (by omega) rfl)); exact Or.inr (Or.inl (h.1 ▸ zM_k6 (z := (12 * (S20 1000 7) + S20 (zz_rf 3 (S20 1000 7)) 1)) (by omega) rfl)); exact Or.inr (Or.inl (h.1 ▸ zM_k6 (z := (12 * (S20 1000 7) + S20 (zz_rf 3 (S20 1000 7)) 1)) (by omega) rfl)); exact Or.inr (Or.inl (h.1 ▸ zM_k6 (z := (12 * (S20 1000 7) + S20 (zz_rf 3 (S20 1000 7)) 1)) (by omega) rfl)); exact Or.inr (Or.inl (h.1 ▸ zM_k6 (z := (12 * (S20 1000 7) + S20 (zz_rf 3 (S20 1000 7)) 1)) (by omega) rfl))), by omega, by omega, (fun v hC hV => by have C1 : zn_C S20 (S0 1000 7) v := zn_C.kp hC hV (fun a i h1 h2 h3 => ((zz_ro qS20 (fun h => by omega) rfl : S20 a i = S17 a i).trans ((fS17 a i rfl rfl (fun h => by omega) : S17 a i = S6 a i).trans (fS6 a i rfl rfl (fun h => by omega) : S6 a i = S0 a i)))) (by omega); have h9 := x2 v (by rw [show S20 1000 7 = S0 1000 7 by omega]; exact C1) hV; rw [show S20 1000 7 = S0 1000 7 by omega, show S20 (zz_rf 3 (S0 1000 7)) 1 = S0 (zz_rf 3 (S0 1000 7)) 1 by omega] at h9; rw [show S20 (zz_rf 6 (12 * (S0 1000 7) + S0 (zz_rf 3 (S0 1000 7)) 1)) 0 = 2 by omega, show S20 (zz_rf 6 (12 * (S0 1000 7) + S0 (zz_rf 3 (S0 1000 7)) 1)) 1 = p0 by omega, show S20 (zz_rf 6 (12 * (S0 1000 7) + S0 (zz_rf 3 (S0 1000 7)) 1)) 2 = p0 by omega, show S20 (zz_rf 6 (12 * (S0 1000 7) + S0 (zz_rf 3 (S0 1000 7)) 1)) 3 = p1.tdiv 10 from (show S20 (zz_rf 6 (12 * (S0 1000 7) + S0 (zz_rf 3 (S0 1000 7)) 1)) 3 = v15 by omega).trans av15, show S20 (zz_rf 6 (12 * (S0 1000 7) + S0 (zz_rf 3 (S0 1000 7)) 1)) 4 = p1.tmod 10 from (show S20 (zz_rf 6 (12 * (S0 1000 7) + S0 (zz_rf 3 (S0 1000 7)) 1)) 4 = v16 by omega).trans av16, show S20 (zz_rf 6 (12 * (S0 1000 7) + S0 (zz_rf 3 (S0 1000 7)) 1)) 5 = p2 by omega, show S20 (zz_rf 6 (12 * (S0 1000 7) + S0 (zz_rf 3 (S0 1000 7)) 1)) 6 = 0 by omega, show S20 (zz_rf 6 (12 * (S0 1000 7) + S0 (zz_rf 3 (S0 1000 7)) 1)) 7 = 0 by omega, show S20 (zz_rf 6 (12 * (S0 1000 7) + S0 (zz_rf 3 (S0 1000 7)) 1)) 12 = 1 by omega, show S20 (zz_rf 6 (12 * (S0 1000 7) + S0 (zz_rf 3 (S0 1000 7)) 1)) 9 = 0 by omega] at h9; exact h9 (Or.inr (Or.inl ⟨rfl, rfl⟩))), x3⟩) (fun v37 S36 hP => ?_)
  obtain ⟨G_S36, fS36, o38, o39, o40⟩ := hP
  rw [show S20 1000 7 = S0 1000 7 from (zz_ro qS20 (fun h => absurd h.2 (by decide)) (zz_rc fS17 rfl rfl (by first | decide | omega) (zz_rc fS6 rfl rfl (by first | decide | omega) rfl)))] at o39
  have F_S36 := zz_fr.trans F_S20 fS36 rfl (fun a i h => by rcases h with h | h | h | h | h; exact Or.inr (Or.inl (h.1 ▸ zM_k3 (z := (S20 1000 7)) (by omega) rfl)); exact Or.inr (Or.inl (h.1 ▸ zM_k6 (z := (12 * (S20 1000 7) + S20 (zz_rf 3 (S20 1000 7)) 1)) (by omega) rfl)); exact Or.inr (Or.inl (h.1 ▸ zM_k6 (z := (12 * (S20 1000 7) + S20 (zz_rf 3 (S20 1000 7)) 1)) (by omega) rfl)); exact Or.inr (Or.inl (h.1 ▸ zM_k6 (z := (12 * (S20 1000 7) + S20 (zz_rf 3 (S20 1000 7)) 1)) (by omega) rfl)); exact Or.inr (Or.inl (h.1 ▸ zM_k6 (z := (12 * (S20 1000 7) + S20 (zz_rf 3 (S20 1000 7)) 1)) (by omega) rfl)))
  have b43 := zz_rf3 (z := (S20 1000 7)) (by omega)
  have b44 := zz_G.r G_S20 (zz_rf 3 (S20 1000 7)) 1 1 11 (zR_k3_1 (by omega)) (zB_k3 (by omega))
  have b45 := zz_rf6 (z := (12 * (S20 1000 7) + S20 (zz_rf 3 (S20 1000 7)) 1)) (by omega)
  have H_S36 : zz_Hc S36 := o40
  exact zz_iret zd_1_20_40 rfl (Nat.le_of_ble_eq_true rfl) (Nat.le_of_ble_eq_true rfl) (Or.inl ⟨_, _, rfl, G_S36, F_S36, by omega, (fun v hC hV => by have C1 : zn_C S20 (S0 1000 7) v := zn_C.kp hC hV (fun a i h1 h2 h3 => ((zz_ro qS20 (fun h => by omega) rfl : S20 a i = S17 a i).trans ((fS17 a i rfl rfl (fun h => by omega) : S17 a i = S6 a i).trans (fS6 a i rfl rfl (fun h => by omega) : S6 a i = S0 a i)))) (by omega); have h9 := o39 v C1 hV; rw [show S20 (zz_rf 3 (S0 1000 7)) 1 = S0 (zz_rf 3 (S0 1000 7)) 1 by omega] at h9; rw [show S20 (zz_rf 6 (12 * (S0 1000 7) + S0 (zz_rf 3 (S0 1000 7)) 1)) 0 = 2 by omega, show S20 (zz_rf 6 (12 * (S0 1000 7) + S0 (zz_rf 3 (S0 1000 7)) 1)) 1 = p0 by omega, show S20 (zz_rf 6 (12 * (S0 1000 7) + S0 (zz_rf 3 (S0 1000 7)) 1)) 2 = p0 by omega, show S20 (zz_rf 6 (12 * (S0 1000 7) + S0 (zz_rf 3 (S0 1000 7)) 1)) 3 = p1.tdiv 10 from (show S20 (zz_rf 6 (12 * (S0 1000 7) + S0 (zz_rf 3 (S0 1000 7)) 1)) 3 = v15 by omega).trans av15, show S20 (zz_rf 6 (12 * (S0 1000 7) + S0 (zz_rf 3 (S0 1000 7)) 1)) 4 = p1.tmod 10 from (show S20 (zz_rf 6 (12 * (S0 1000 7) + S0 (zz_rf 3 (S0 1000 7)) 1)) 4 = v16 by omega).trans av16, show S20 (zz_rf 6 (12 * (S0 1000 7) + S0 (zz_rf 3 (S0 1000 7)) 1)) 5 = p2 by omega, show S20 (zz_rf 6 (12 * (S0 1000 7) + S0 (zz_rf 3 (S0 1000 7)) 1)) 6 = 0 by omega, show S20 (zz_rf 6 (12 * (S0 1000 7) + S0 (zz_rf 3 (S0 1000 7)) 1)) 7 = 0 by omega, show S20 (zz_rf 6 (12 * (S0 1000 7) + S0 (zz_rf 3 (S0 1000 7)) 1)) 12 = 1 by omega, show S20 (zz_rf 6 (12 * (S0 1000 7) + S0 (zz_rf 3 (S0 1000 7)) 1)) 9 = 0 by omega, show S20 (zz_rf 6 (12 * (S0 1000 7) + S0 (zz_rf 3 (S0 1000 7)) 1)) 8 = 0 by omega] at h9; exact h9 (Or.inr (Or.inl ⟨rfl, rfl⟩))), H_S36⟩)
abbrev zy_addition_1_21 : mm_Y := (⟨"TensorForge", "addition", "(III)I"⟩, prog_1_method_21_code, 5, (some .int))
theorem zyw_addition_1_21 : mm_Yw zy_addition_1_21 3 := ⟨mm_tb_1 1388 (by decide +kernel) rfl, mm_tb_1 1 (by decide +kernel) rfl, ⟨by decide, by decide⟩, by decide +kernel⟩
theorem zg_1_21_0 : zq_at zy_addition_1_21.2.1 0 42 ∧ zq_at zy_addition_1_21.2.1 1 180 ∧ zq_at zy_addition_1_21.2.1 2 0 ∧ zq_at zy_addition_1_21.2.1 3 10 ∧ zq_at zy_addition_1_21.2.1 4 182 ∧ zq_at zy_addition_1_21.2.1 5 0 ∧ zq_at zy_addition_1_21.2.1 6 220 ∧ zq_at zy_addition_1_21.2.1 7 58 ∧ zq_at zy_addition_1_21.2.1 8 4 ∧ zq_at zy_addition_1_21.2.1 9 25 ∧ zq_at zy_addition_1_21.2.1 10 4 ∧ zq_at zy_addition_1_21.2.1 11 6 ∧ zq_at zy_addition_1_21.2.1 12 27 ∧ zq_at zy_addition_1_21.2.1 13 28 ∧ zq_at zy_addition_1_21.2.1 14 182 ∧ zq_at zy_addition_1_21.2.1 15 0 ∧ zq_at zy_addition_1_21.2.1 16 226 ∧ zq_at zy_addition_1_21.2.1 17 25 ∧ zq_at zy_addition_1_21.2.1 18 4 ∧ zq_at zy_addition_1_21.2.1 19 29 ∧ zq_at zy_addition_1_21.2.1 20 182 ∧ zq_at zy_addition_1_21.2.1 21 0 ∧ zq_at zy_addition_1_21.2.1 22 238 ∧ zq_at zy_addition_1_21.2.1 23 42 := by decide +kernel
theorem zd_1_21_0 : zz_D zy_addition_1_21 0 (.aload_n 0) 1 1 := ⟨zq_42 zg_1_21_0.1, rfl⟩
theorem zd_1_21_1 : zz_D zy_addition_1_21 1 (.getfield 10) 3 4 := ⟨zq_180 zg_1_21_0.2.1 zg_1_21_0.2.2.1 zg_1_21_0.2.2.2.1 rfl, rfl⟩
theorem zd_1_21_4 : zz_D zy_addition_1_21 4 (.invokevirtual 220) 3 7 := ⟨zq_182 zg_1_21_0.2.2.2.2.1 zg_1_21_0.2.2.2.2.2.1 zg_1_21_0.2.2.2.2.2.2.1 rfl, rfl⟩
theorem zd_1_21_7 : zz_D zy_addition_1_21 7 (.astore 4) 2 9 := ⟨zq_58 zg_1_21_0.2.2.2.2.2.2.2.1 zg_1_21_0.2.2.2.2.2.2.2.2.1, rfl⟩
theorem zd_1_21_9 : zz_D zy_addition_1_21 9 (.aload 4) 2 11 := ⟨zq_25 zg_1_21_0.2.2.2.2.2.2.2.2.2.1 zg_1_21_0.2.2.2.2.2.2.2.2.2.2.1, rfl⟩
theorem zd_1_21_11 : zz_D zy_addition_1_21 11 (.iconst 3) 1 12 := ⟨zq_6 zg_1_21_0.2.2.2.2.2.2.2.2.2.2.2.1, rfl⟩
theorem zd_1_21_12 : zz_D zy_addition_1_21 12 (.iload_n 1) 1 13 := ⟨zq_27 zg_1_21_0.2.2.2.2.2.2.2.2.2.2.2.2.1, rfl⟩
theorem zd_1_21_13 : zz_D zy_addition_1_21 13 (.iload_n 2) 1 14 := ⟨zq_28 zg_1_21_0.2.2.2.2.2.2.2.2.2.2.2.2.2.1, rfl⟩
theorem zd_1_21_14 : zz_D zy_addition_1_21 14 (.invokevirtual 226) 3 17 := ⟨zq_182 zg_1_21_0.2.2.2.2.2.2.2.2.2.2.2.2.2.2.1 zg_1_21_0.2.2.2.2.2.2.2.2.2.2.2.2.2.2.2.1 zg_1_21_0.2.2.2.2.2.2.2.2.2.2.2.2.2.2.2.2.1 rfl, rfl⟩
theorem zd_1_21_17 : zz_D zy_addition_1_21 17 (.aload 4) 2 19 := ⟨zq_25 zg_1_21_0.2.2.2.2.2.2.2.2.2.2.2.2.2.2.2.2.2.1 zg_1_21_0.2.2.2.2.2.2.2.2.2.2.2.2.2.2.2.2.2.2.1, rfl⟩
theorem zd_1_21_19 : zz_D zy_addition_1_21 19 (.iload_n 3) 1 20 := ⟨zq_29 zg_1_21_0.2.2.2.2.2.2.2.2.2.2.2.2.2.2.2.2.2.2.2.1, rfl⟩
theorem zd_1_21_20 : zz_D zy_addition_1_21 20 (.invokevirtual 238) 3 23 := ⟨zq_182 zg_1_21_0.2.2.2.2.2.2.2.2.2.2.2.2.2.2.2.2.2.2.2.2.1 zg_1_21_0.2.2.2.2.2.2.2.2.2.2.2.2.2.2.2.2.2.2.2.2.2.1 zg_1_21_0.2.2.2.2.2.2.2.2.2.2.2.2.2.2.2.2.2.2.2.2.2.2.1 rfl, rfl⟩
theorem zd_1_21_23 : zz_D zy_addition_1_21 23 (.aload_n 0) 1 24 := ⟨zq_42 zg_1_21_0.2.2.2.2.2.2.2.2.2.2.2.2.2.2.2.2.2.2.2.2.2.2.2, rfl⟩
theorem zg_1_21_24 : zq_at zy_addition_1_21.2.1 24 182 ∧ zq_at zy_addition_1_21.2.1 25 0 ∧ zq_at zy_addition_1_21.2.1 26 247 ∧ zq_at zy_addition_1_21.2.1 27 172 := by decide +kernel
theorem zd_1_21_24 : zz_D zy_addition_1_21 24 (.invokevirtual 247) 3 27 := ⟨zq_182 zg_1_21_24.1 zg_1_21_24.2.1 zg_1_21_24.2.2.1 rfl, rfl⟩
theorem zd_1_21_27 : zz_D zy_addition_1_21 27 (.ireturn) 1 28 := ⟨zq_172 zg_1_21_24.2.2.2, rfl⟩
-- TensorForge addition (III)I
abbrev zr_addition_1_21 : Room := { frames := 7, cells := 1, slots := 6, locals := 95 }
def zp_addition_1_21 (p0 : Int) (p1 : Int) (p2 : Int) (S0 : zz_S) : Int → zz_S → Prop := fun r S => zz_G S ∧ zz_fr [] [1001, 1003, 1004, 1005, 1006, 1007, 1008, 1009, 1010, 1011, 1012, 1013, 1014, 1015, 1017, 1018, 1019, 1020, 1021, 1022, 1023, 1024, 1025, 1026, 1027, 1028] (fun _ _ => False) S0 S ∧ ((-2147483648) ≤ r ∧ r ≤ 2147483647) ∧ (∀ v : zn_T, zn_C S0 (S0 1000 7) v → zn_V v → zn_F v 3 p0 p1 1 1 1 0 (zn_sh p2) 1 0 0 ∧ r = v 15 0 ∧ ∀ nm : Int, zn_C S (S0 1000 7) (zn_nw v 3 p0 p1 1 1 1 0 (zn_sh p2) (zn_rl p2) 1 0 nm)) ∧ (zz_Hc S)
def zx_addition_1_21 (p0 : Int) (p1 : Int) (p2 : Int) (S0 : zz_S) : Nat → zz_S → Prop := fun i S => zz_G S ∧ zz_fr [] [1001, 1003, 1004, 1005, 1006, 1007, 1008, 1009, 1010, 1011, 1012, 1013, 1014, 1015, 1017, 1018, 1019, 1020, 1021, 1022, 1023, 1024, 1025, 1026, 1027, 1028] (fun _ _ => False) S0 S ∧ (i < 4) ∧ (i = 0 ∨ i = 1 ∨ i = 2) ∧ (∀ v : zn_T, zn_C S0 (S0 1000 7) v → zn_V v → zn_F v 3 p0 p1 1 1 1 0 (zn_sh p2) 1 0 (if i = 0 then 2 else if i = 1 then 1 else 3) ∧ zn_C S (S0 1000 7) v) ∧ (zz_Hc S)
theorem zc_addition_1_21 {g : mm_G} {l : Launch} (p0 : Int) (p1 : Int) (p2 : Int) (S0 : zz_S) (n : Nat) (hn : zz_end ≤ n) (hfl : l.flags = flags0) (G_S0 : zz_G S0) (hp0 : (-2147483648) ≤ p0 ∧ p0 ≤ 2147483647) (hp1 : (-2147483648) ≤ p1 ∧ p1 ≤ 2147483647) (hp2 : (-2147483648) ≤ p2 ∧ p2 ≤ 2147483647) (H_S0 : zz_Hc S0) : mm_Met g l zy_addition_1_21 zr_addition_1_21 [.ref 1000, zi p0, zi p1, zi p2] (zz_M S0 n) n (zz_XI n (zp_addition_1_21 p0 p1 p2 S0) (zx_addition_1_21 p0 p1 p2 S0)) := by
  refine zz_enter (by decide) (Nat.le_of_ble_eq_true rfl) (zz_less (ls1 := [some (.ref 1000), some (zi p0), some (zi p1), some (zi p2)]) ⟨rfl, ⟨rfl, ⟨rfl, ⟨rfl, trivial⟩⟩⟩⟩ ?_)
  have F_S0 : zz_fr [] [1001, 1003, 1004, 1005, 1006, 1007, 1008, 1009, 1010, 1011, 1012, 1013, 1014, 1015, 1017, 1018, 1019, 1020, 1021, 1022, 1023, 1024, 1025, 1026, 1027, 1028] (fun _ _ => False) S0 S0 := zz_fr.refl
  refine zz_aload_n (x := 1000) rfl zd_1_21_0 ?_
  have g1 := zz_G.r G_S0 1000 7 0 1 rfl rfl
  refine zz_getr (kd := 1) (z := S0 1000 7) zd_1_21_1 zf_TF_10 zT_1000 rfl (zz_ltn hn rfl) rfl (by omega) (zz_rf 3 (S0 1000 7)) rfl ?_
  refine zz_callVA [] zd_1_21_4 zk_TF_220 (zT_k3 (by omega)) (zN_k3 hn (by omega)) rfl rfl ⟨Nat.le_of_ble_eq_true rfl, Nat.le_of_ble_eq_true rfl⟩ ⟨rfl, rfl⟩ (Nat.zero_le _) (Nat.zero_le _) (zc_draft_7_6 (S0 1000 7) S0 n hn G_S0 (by omega)) (fun v3 S2 hP => ?_)
  obtain ⟨rfl, o4, o5⟩ := hP
  subst o4
  refine zz_astore [some (.ref 1000), some (zi p0), some (zi p1), some (zi p2), some (.ref (zz_rf 6 (12 * (S0 1000 7) + S0 (zz_rf 3 (S0 1000 7)) 1)))] zd_1_21_7 (by decide) rfl ?_
  refine zz_aload (x := zz_rf 6 (12 * (S0 1000 7) + S0 (zz_rf 3 (S0 1000 7)) 1)) rfl zd_1_21_9 ?_
  refine zz_iconst zd_1_21_11 ?_
  refine zz_iload_n (x := p0) rfl zd_1_21_12 ?_
  refine zz_iload_n (x := p1) rfl zd_1_21_13 ?_
  refine zz_callVV [zi 3, zi p0, zi p1] zd_1_21_14 zk_TF_226 (zT_k6 (by omega)) (zN_k6 hn (by omega)) rfl rfl ⟨Nat.le_of_ble_eq_true rfl, Nat.le_of_ble_eq_true rfl⟩ ⟨rfl, rfl⟩ (Nat.zero_le _) (Nat.zero_le _) (zc_reset_4_2 (12 * (S0 1000 7) + S0 (zz_rf 3 (S0 1000 7)) 1) 3 p0 p1 S0 n hn G_S0 (by omega) (by omega) (by omega) (by omega)) (fun S6 hP => ?_)
  obtain ⟨G_S6, fS6, o8, o9⟩ := hP
  have g10 := zz_G.r G_S0 1000 7 0 1 rfl rfl
  have b11 := zz_G.r G_S0 (zz_rf 3 (S0 1000 7)) 1 1 11 (zR_k3_1 (by omega)) (zB_k3 (by omega))
  have F_S6 := zz_fr.trans F_S0 fS6 rfl (fun a i h => by rcases h with h | h | h | h | h | h | h | h | h | h | h | h | h | h | h; exact Or.inr (Or.inl (h.1 ▸ zM_k6 (z := (12 * (S0 1000 7) + S0 (zz_rf 3 (S0 1000 7)) 1)) (by omega) rfl)); exact Or.inr (Or.inl (h.1 ▸ zM_k6 (z := (12 * (S0 1000 7) + S0 (zz_rf 3 (S0 1000 7)) 1)) (by omega) rfl)); exact Or.inr (Or.inl (h.1 ▸ zM_k6 (z := (12 * (S0 1000 7) + S0 (zz_rf 3 (S0 1000 7)) 1)) (by omega) rfl)); exact Or.inr (Or.inl (h.1 ▸ zM_k6 (z := (12 * (S0 1000 7) + S0 (zz_rf 3 (S0 1000 7)) 1)) (by omega) rfl)); exact Or.inr (Or.inl (h.1 ▸ zM_k6 (z := (12 * (S0 1000 7) + S0 (zz_rf 3 (S0 1000 7)) 1)) (by omega) rfl)); exact Or.inr (Or.inl (h.1 ▸ zM_k6 (z := (12 * (S0 1000 7) + S0 (zz_rf 3 (S0 1000 7)) 1)) (by omega) rfl)); exact Or.inr (Or.inl (h.1 ▸ zM_k6 (z := (12 * (S0 1000 7) + S0 (zz_rf 3 (S0 1000 7)) 1)) (by omega) rfl)); exact Or.inr (Or.inl (h.1 ▸ zM_k6 (z := (12 * (S0 1000 7) + S0 (zz_rf 3 (S0 1000 7)) 1)) (by omega) rfl)); exact Or.inr (Or.inl (h.1 ▸ zM_k6 (z := (12 * (S0 1000 7) + S0 (zz_rf 3 (S0 1000 7)) 1)) (by omega) rfl)); exact Or.inr (Or.inl (h.1 ▸ zM_k6 (z := (12 * (S0 1000 7) + S0 (zz_rf 3 (S0 1000 7)) 1)) (by omega) rfl)); exact Or.inr (Or.inl (h.1 ▸ zM_k6 (z := (12 * (S0 1000 7) + S0 (zz_rf 3 (S0 1000 7)) 1)) (by omega) rfl)); exact Or.inr (Or.inl (h.1 ▸ zM_k6 (z := (12 * (S0 1000 7) + S0 (zz_rf 3 (S0 1000 7)) 1)) (by omega) rfl)); exact Or.inr (Or.inl (h.1 ▸ zM_k6 (z := (12 * (S0 1000 7) + S0 (zz_rf 3 (S0 1000 7)) 1)) (by omega) rfl)); exact Or.inr (Or.inl (h.1 ▸ zM_k6 (z := (12 * (S0 1000 7) + S0 (zz_rf 3 (S0 1000 7)) 1)) (by omega) rfl)); exact Or.inr (Or.inl (h.1 ▸ zM_k6 (z := (12 * (S0 1000 7) + S0 (zz_rf 3 (S0 1000 7)) 1)) (by omega) rfl)))
  have b12 := zz_G.r G_S0 (zz_rf 3 (S0 1000 7)) 1 1 11 (zR_k3_1 (by omega)) (zB_k3 (by omega))
  have b13 := zz_rf6 (z := (12 * (S0 1000 7) + S0 (zz_rf 3 (S0 1000 7)) 1)) (by omega)
  have b14 := zz_rf3 (z := (S0 1000 7)) (by omega)
  have H_S6 : zz_Hc S6 := zz_Hc.fr (q := (S0 1000 7)) (z := 12 * (S0 1000 7) + S0 (zz_rf 3 (S0 1000 7)) 1) fS6 rfl rfl G_S0 (by omega) rfl (fun b j h => by omega) H_S0
  refine zz_aload (x := zz_rf 6 (12 * (S0 1000 7) + S0 (zz_rf 3 (S0 1000 7)) 1)) rfl zd_1_21_17 ?_
  refine zz_iload_n (x := p2) rfl zd_1_21_19 ?_
  refine zz_callVV [zi p2] zd_1_21_20 zk_TF_238 (zT_k6 (by omega)) (zN_k6 hn (by omega)) rfl rfl ⟨Nat.le_of_ble_eq_true rfl, Nat.le_of_ble_eq_true rfl⟩ ⟨rfl, rfl⟩ (Nat.zero_le _) (Nat.zero_le _) (zc_takeNarrowing_4_5 (12 * (S0 1000 7) + S0 (zz_rf 3 (S0 1000 7)) 1) p2 S6 n hn G_S6 (by omega) (by omega)) (fun S15 hP => ?_)
  obtain ⟨G_S15, fS15, o17⟩ := hP
  have F_S15 := zz_fr.trans F_S6 fS15 rfl (fun a i h => by rcases h with h | h; exact Or.inr (Or.inl (h.1 ▸ zM_k6 (z := (12 * (S0 1000 7) + S0 (zz_rf 3 (S0 1000 7)) 1)) (by omega) rfl)); exact Or.inr (Or.inl (h.1 ▸ zM_k6 (z := (12 * (S0 1000 7) + S0 (zz_rf 3 (S0 1000 7)) 1)) (by omega) rfl)))
  have H_S15 : zz_Hc S15 := zz_Hc.fr (q := (S0 1000 7)) (z := 12 * (S0 1000 7) + S0 (zz_rf 3 (S0 1000 7)) 1) fS15 rfl rfl G_S6 (by omega) (by rw [show S6 (zz_rf 3 (S0 1000 7)) 1 = S0 (zz_rf 3 (S0 1000 7)) 1 from (zz_rc fS6 (zP_k3 (by omega) rfl) (zQ_k3 (by omega) rfl) (by have hz_ := zz_rf3 (z := S0 1000 7) (by omega); omega) rfl)]) (fun b j h => by omega) H_S6
  refine zz_aload_n (x := 1000) rfl zd_1_21_23 ?_
  have e18 : S15 1000 7 = S0 1000 7 := (zz_rc fS15 rfl rfl (by first | decide | omega) (zz_rc fS6 rfl rfl (by first | decide | omega) rfl))
  have e19 : S15 (zz_rf 3 (S0 1000 7)) 1 = S0 (zz_rf 3 (S0 1000 7)) 1 := (zz_rc fS15 (zP_k3 (by omega) rfl) (zQ_k3 (by omega) rfl) (by have hz_ := zz_rf3 (z := S0 1000 7) (by omega); omega) (zz_rc fS6 (zP_k3 (by omega) rfl) (zQ_k3 (by omega) rfl) (by have hz_ := zz_rf3 (z := S0 1000 7) (by omega); omega) rfl))
  have e20 : S15 (zz_rf 6 (12 * (S0 1000 7) + S0 (zz_rf 3 (S0 1000 7)) 1)) 0 = S6 (zz_rf 6 (12 * (S0 1000 7) + S0 (zz_rf 3 (S0 1000 7)) 1)) 0 := (zz_rc fS15 (zP_k6 (by omega) rfl) (zQ_k6 (by omega) rfl) (by have hz_ := zz_rf6 (z := 12 * (S0 1000 7) + S0 (zz_rf 3 (S0 1000 7)) 1) (by omega); omega) rfl)
  have e21 : S15 (zz_rf 6 (12 * (S0 1000 7) + S0 (zz_rf 3 (S0 1000 7)) 1)) 1 = S6 (zz_rf 6 (12 * (S0 1000 7) + S0 (zz_rf 3 (S0 1000 7)) 1)) 1 := (zz_rc fS15 (zP_k6 (by omega) rfl) (zQ_k6 (by omega) rfl) (by have hz_ := zz_rf6 (z := 12 * (S0 1000 7) + S0 (zz_rf 3 (S0 1000 7)) 1) (by omega); omega) rfl)
  have e22 : S15 (zz_rf 6 (12 * (S0 1000 7) + S0 (zz_rf 3 (S0 1000 7)) 1)) 12 = S6 (zz_rf 6 (12 * (S0 1000 7) + S0 (zz_rf 3 (S0 1000 7)) 1)) 12 := (zz_rc fS15 (zP_k6 (by omega) rfl) (zQ_k6 (by omega) rfl) (by have hz_ := zz_rf6 (z := 12 * (S0 1000 7) + S0 (zz_rf 3 (S0 1000 7)) 1) (by omega); omega) rfl)
  have e23 : S15 (zz_rf 6 (12 * (S0 1000 7) + S0 (zz_rf 3 (S0 1000 7)) 1)) 2 = S6 (zz_rf 6 (12 * (S0 1000 7) + S0 (zz_rf 3 (S0 1000 7)) 1)) 2 := (zz_rc fS15 (zP_k6 (by omega) rfl) (zQ_k6 (by omega) rfl) (by have hz_ := zz_rf6 (z := 12 * (S0 1000 7) + S0 (zz_rf 3 (S0 1000 7)) 1) (by omega); omega) rfl)
  have e24 : S15 (zz_rf 6 (12 * (S0 1000 7) + S0 (zz_rf 3 (S0 1000 7)) 1)) 3 = S6 (zz_rf 6 (12 * (S0 1000 7) + S0 (zz_rf 3 (S0 1000 7)) 1)) 3 := (zz_rc fS15 (zP_k6 (by omega) rfl) (zQ_k6 (by omega) rfl) (by have hz_ := zz_rf6 (z := 12 * (S0 1000 7) + S0 (zz_rf 3 (S0 1000 7)) 1) (by omega); omega) rfl)
  have e25 : S15 (zz_rf 6 (12 * (S0 1000 7) + S0 (zz_rf 3 (S0 1000 7)) 1)) 4 = S6 (zz_rf 6 (12 * (S0 1000 7) + S0 (zz_rf 3 (S0 1000 7)) 1)) 4 := (zz_rc fS15 (zP_k6 (by omega) rfl) (zQ_k6 (by omega) rfl) (by have hz_ := zz_rf6 (z := 12 * (S0 1000 7) + S0 (zz_rf 3 (S0 1000 7)) 1) (by omega); omega) rfl)
  have e26 : S15 (zz_rf 6 (12 * (S0 1000 7) + S0 (zz_rf 3 (S0 1000 7)) 1)) 5 = S6 (zz_rf 6 (12 * (S0 1000 7) + S0 (zz_rf 3 (S0 1000 7)) 1)) 5 := (zz_rc fS15 (zP_k6 (by omega) rfl) (zQ_k6 (by omega) rfl) (by have hz_ := zz_rf6 (z := 12 * (S0 1000 7) + S0 (zz_rf 3 (S0 1000 7)) 1) (by omega); omega) rfl)
  have e27 : S15 (zz_rf 6 (12 * (S0 1000 7) + S0 (zz_rf 3 (S0 1000 7)) 1)) 6 = S6 (zz_rf 6 (12 * (S0 1000 7) + S0 (zz_rf 3 (S0 1000 7)) 1)) 6 := (zz_rc fS15 (zP_k6 (by omega) rfl) (zQ_k6 (by omega) rfl) (by have hz_ := zz_rf6 (z := 12 * (S0 1000 7) + S0 (zz_rf 3 (S0 1000 7)) 1) (by omega); omega) rfl)
  have e28 : S15 (zz_rf 6 (12 * (S0 1000 7) + S0 (zz_rf 3 (S0 1000 7)) 1)) 9 = S6 (zz_rf 6 (12 * (S0 1000 7) + S0 (zz_rf 3 (S0 1000 7)) 1)) 9 := (zz_rc fS15 (zP_k6 (by omega) rfl) (zQ_k6 (by omega) rfl) (by have hz_ := zz_rf6 (z := 12 * (S0 1000 7) + S0 (zz_rf 3 (S0 1000 7)) 1) (by omega); omega) rfl)
  have g36 := zz_G.r G_S15 1000 7 0 1 rfl rfl
  have b37 := zz_G.r G_S15 (zz_rf 3 (S15 1000 7)) 1 1 11 (zR_k3_1 (by omega)) (zB_k3 (by omega))
  refine zz_callVXI [] zd_1_21_24 zk_TF_247 zT_1000 (zz_ltn hn rfl) rfl rfl ⟨Nat.le_of_ble_eq_true rfl, Nat.le_of_ble_eq_true rfl⟩ (Nat.le_of_ble_eq_true rfl) (Nat.le_of_ble_eq_true rfl) (zc_added_1_31  S15 n hn hfl G_S15 H_S15) zyw_addition_1_21 (fun i SX hX => by obtain ⟨GX, fX, x0, x1, x2, x3⟩ := hX; exact Or.inr ⟨_, _, rfl, GX, zz_fr.trans F_S15 fX rfl (fun a i h => by rcases h with h | h | h | h | h; exact Or.inr (Or.inl (h.1 ▸ zM_k3 (z := (S15 1000 7)) (by omega) rfl)); exact Or.inr (Or.inl (h.1 ▸ zM_k6 (z := (12 * (S15 1000 7) + S15 (zz_rf 3 (S15 1000 7)) 1)) (by omega) rfl)); exact Or.inr (Or.inl (h.1 ▸ zM_k6 (z := (12 * (S15 1000 7) + S15 (zz_rf 3 (S15 1000 7)) 1)) (by omega) rfl)); exact Or.inr (Or.inl (h.1 ▸ zM_k6 (z := (12 * (S15 1000 7) + S15 (zz_rf 3 (S15 1000 7)) 1)) (by omega) rfl)); exact Or.inr (Or.inl (h.1 ▸ zM_k6 (z := (12 * (S15 1000 7) + S15 (zz_rf 3 (S15 1000 7)) 1)) (by omega) rfl))), by omega, by omega, (fun v hC hV => by have C1 : zn_C S15 (S0 1000 7) v := zn_C.kp hC hV (fun a i h1 h2 h3 => ((fS15 a i rfl rfl (fun h => by omega) : S15 a i = S6 a i).trans (fS6 a i rfl rfl (fun h => by omega) : S6 a i = S0 a i))) (by omega); have h9 := x2 v (by rw [show S15 1000 7 = S0 1000 7 by omega]; exact C1) hV; rw [show S15 1000 7 = S0 1000 7 by omega, show S15 (zz_rf 3 (S0 1000 7)) 1 = S0 (zz_rf 3 (S0 1000 7)) 1 by omega] at h9; have n9 := zn_nar o17; rw [show S15 (zz_rf 6 (12 * (S0 1000 7) + S0 (zz_rf 3 (S0 1000 7)) 1)) 0 = 3 by omega, show S15 (zz_rf 6 (12 * (S0 1000 7) + S0 (zz_rf 3 (S0 1000 7)) 1)) 1 = p0 by omega, show S15 (zz_rf 6 (12 * (S0 1000 7) + S0 (zz_rf 3 (S0 1000 7)) 1)) 2 = p1 by omega, show S15 (zz_rf 6 (12 * (S0 1000 7) + S0 (zz_rf 3 (S0 1000 7)) 1)) 3 = 1 by omega, show S15 (zz_rf 6 (12 * (S0 1000 7) + S0 (zz_rf 3 (S0 1000 7)) 1)) 4 = 1 by omega, show S15 (zz_rf 6 (12 * (S0 1000 7) + S0 (zz_rf 3 (S0 1000 7)) 1)) 5 = 1 by omega, show S15 (zz_rf 6 (12 * (S0 1000 7) + S0 (zz_rf 3 (S0 1000 7)) 1)) 6 = 0 by omega, show S15 (zz_rf 6 (12 * (S0 1000 7) + S0 (zz_rf 3 (S0 1000 7)) 1)) 7 = zn_sh p2 by omega, show S15 (zz_rf 6 (12 * (S0 1000 7) + S0 (zz_rf 3 (S0 1000 7)) 1)) 12 = 1 by omega, show S15 (zz_rf 6 (12 * (S0 1000 7) + S0 (zz_rf 3 (S0 1000 7)) 1)) 9 = 0 by omega] at h9; exact h9 (Or.inr (Or.inr rfl))), x3⟩) (fun v32 S31 hP => ?_)
  obtain ⟨G_S31, fS31, o33, o34, o35⟩ := hP
  rw [show S15 1000 7 = S0 1000 7 from (zz_rc fS15 rfl rfl (by first | decide | omega) (zz_rc fS6 rfl rfl (by first | decide | omega) rfl))] at o34
  have F_S31 := zz_fr.trans F_S15 fS31 rfl (fun a i h => by rcases h with h | h | h | h | h; exact Or.inr (Or.inl (h.1 ▸ zM_k3 (z := (S15 1000 7)) (by omega) rfl)); exact Or.inr (Or.inl (h.1 ▸ zM_k6 (z := (12 * (S15 1000 7) + S15 (zz_rf 3 (S15 1000 7)) 1)) (by omega) rfl)); exact Or.inr (Or.inl (h.1 ▸ zM_k6 (z := (12 * (S15 1000 7) + S15 (zz_rf 3 (S15 1000 7)) 1)) (by omega) rfl)); exact Or.inr (Or.inl (h.1 ▸ zM_k6 (z := (12 * (S15 1000 7) + S15 (zz_rf 3 (S15 1000 7)) 1)) (by omega) rfl)); exact Or.inr (Or.inl (h.1 ▸ zM_k6 (z := (12 * (S15 1000 7) + S15 (zz_rf 3 (S15 1000 7)) 1)) (by omega) rfl)))
  have b38 := zz_rf3 (z := (S15 1000 7)) (by omega)
  have b39 := zz_G.r G_S15 (zz_rf 3 (S15 1000 7)) 1 1 11 (zR_k3_1 (by omega)) (zB_k3 (by omega))
  have b40 := zz_rf6 (z := (12 * (S15 1000 7) + S15 (zz_rf 3 (S15 1000 7)) 1)) (by omega)
  have H_S31 : zz_Hc S31 := o35
  exact zz_iret zd_1_21_27 rfl (Nat.le_of_ble_eq_true rfl) (Nat.le_of_ble_eq_true rfl) (Or.inl ⟨_, _, rfl, G_S31, F_S31, by omega, (fun v hC hV => by have C1 : zn_C S15 (S0 1000 7) v := zn_C.kp hC hV (fun a i h1 h2 h3 => ((fS15 a i rfl rfl (fun h => by omega) : S15 a i = S6 a i).trans (fS6 a i rfl rfl (fun h => by omega) : S6 a i = S0 a i))) (by omega); have h9 := o34 v C1 hV; rw [show S15 (zz_rf 3 (S0 1000 7)) 1 = S0 (zz_rf 3 (S0 1000 7)) 1 by omega] at h9; have n9 := zn_nar o17; rw [show S15 (zz_rf 6 (12 * (S0 1000 7) + S0 (zz_rf 3 (S0 1000 7)) 1)) 0 = 3 by omega, show S15 (zz_rf 6 (12 * (S0 1000 7) + S0 (zz_rf 3 (S0 1000 7)) 1)) 1 = p0 by omega, show S15 (zz_rf 6 (12 * (S0 1000 7) + S0 (zz_rf 3 (S0 1000 7)) 1)) 2 = p1 by omega, show S15 (zz_rf 6 (12 * (S0 1000 7) + S0 (zz_rf 3 (S0 1000 7)) 1)) 3 = 1 by omega, show S15 (zz_rf 6 (12 * (S0 1000 7) + S0 (zz_rf 3 (S0 1000 7)) 1)) 4 = 1 by omega, show S15 (zz_rf 6 (12 * (S0 1000 7) + S0 (zz_rf 3 (S0 1000 7)) 1)) 5 = 1 by omega, show S15 (zz_rf 6 (12 * (S0 1000 7) + S0 (zz_rf 3 (S0 1000 7)) 1)) 6 = 0 by omega, show S15 (zz_rf 6 (12 * (S0 1000 7) + S0 (zz_rf 3 (S0 1000 7)) 1)) 7 = zn_sh p2 by omega, show S15 (zz_rf 6 (12 * (S0 1000 7) + S0 (zz_rf 3 (S0 1000 7)) 1)) 12 = 1 by omega, show S15 (zz_rf 6 (12 * (S0 1000 7) + S0 (zz_rf 3 (S0 1000 7)) 1)) 9 = 0 by omega, show S15 (zz_rf 6 (12 * (S0 1000 7) + S0 (zz_rf 3 (S0 1000 7)) 1)) 8 = zn_rl p2 by omega] at h9; exact h9 (Or.inr (Or.inr rfl))), H_S31⟩)
abbrev zy_form_1_22 : mm_Y := (⟨"TensorForge", "form", "(II)I"⟩, prog_1_method_22_code, 4, (some .int))
theorem zyw_form_1_22 : mm_Yw zy_form_1_22 2 := ⟨mm_tb_1 1395 (by decide +kernel) rfl, mm_tb_1 1 (by decide +kernel) rfl, ⟨by decide, by decide⟩, by decide +kernel⟩
theorem zk_TF_251 : mm_Vl "TensorForge" 251 1 1 zy_has_7_5 := ⟨zyw_has_7_5, (R_Network, F_Network, 2), rfl, mm_tb_1 1396 (by decide +kernel) rfl, mm_tb_1 859 (by decide +kernel) rfl, mm_tb_1 860 (by decide +kernel) rfl⟩
theorem zt_1_22_11 : zz_Thr zy_form_1_22 11 101 254 105 := ⟨by decide +kernel, by decide +kernel, by decide +kernel, by decide +kernel, by decide +kernel⟩
theorem zt_1_22_30 : zz_ThrW zy_form_1_22 30 87 256 91 := ⟨by decide +kernel, by decide +kernel, by decide +kernel, by decide +kernel, by decide +kernel⟩
theorem zxl_TF_87_256_91 : mm_Xl "TensorForge" 87 256 91 0 := ⟨mm_tb_1 1048 (by decide +kernel) rfl, mm_tb_1 1049 (by decide +kernel) rfl, mm_tb_1 16 (by decide +kernel) rfl, ⟨54, by decide +kernel⟩, zxa_TF_91⟩
theorem zf_TF_258 : mm_Fl "TensorForge" 258 1 0 (.array (.object "TensorForge$Layer")) true := ⟨R_Network, F_Network, 2, t_Network, rfl, i_Network, by decide, mm_tb_1 145 (by decide +kernel) rfl, rfl, t_Network_ok, n_Network, rfl, by decide +kernel⟩
theorem zf_TF_268 : mm_Fl "TensorForge" 268 2 10 .int false := ⟨R_Layer, F_Layer, 15, t_Layer, rfl, i_Layer, by decide, mm_tb_1 97 (by decide +kernel) rfl, rfl, t_Layer_ok, n_Layer, rfl, by decide +kernel⟩
theorem zf_TF_265 : mm_Fl "TensorForge" 265 2 11 .int false := ⟨R_Layer, F_Layer, 15, t_Layer, rfl, i_Layer, by decide, mm_tb_1 101 (by decide +kernel) rfl, rfl, t_Layer_ok, n_Layer, rfl, by decide +kernel⟩
theorem zf_TF_262 : mm_Fl "TensorForge" 262 2 13 .int false := ⟨R_Layer, F_Layer, 15, t_Layer, rfl, i_Layer, by decide, mm_tb_1 109 (by decide +kernel) rfl, rfl, t_Layer_ok, n_Layer, rfl, by decide +kernel⟩
theorem zg_1_22_0 : zq_at zy_form_1_22.2.1 0 42 ∧ zq_at zy_form_1_22.2.1 1 180 ∧ zq_at zy_form_1_22.2.1 2 0 ∧ zq_at zy_form_1_22.2.1 3 10 ∧ zq_at zy_form_1_22.2.1 4 27 ∧ zq_at zy_form_1_22.2.1 5 182 ∧ zq_at zy_form_1_22.2.1 6 0 ∧ zq_at zy_form_1_22.2.1 7 251 ∧ zq_at zy_form_1_22.2.1 8 154 ∧ zq_at zy_form_1_22.2.1 9 0 ∧ zq_at zy_form_1_22.2.1 10 13 ∧ zq_at zy_form_1_22.2.1 21 28 ∧ zq_at zy_form_1_22.2.1 22 155 ∧ zq_at zy_form_1_22.2.1 23 0 ∧ zq_at zy_form_1_22.2.1 24 8 ∧ zq_at zy_form_1_22.2.1 25 28 ∧ zq_at zy_form_1_22.2.1 26 6 ∧ zq_at zy_form_1_22.2.1 27 164 ∧ zq_at zy_form_1_22.2.1 28 0 ∧ zq_at zy_form_1_22.2.1 29 14 ∧ zq_at zy_form_1_22.2.1 41 42 ∧ zq_at zy_form_1_22.2.1 42 180 ∧ zq_at zy_form_1_22.2.1 43 0 ∧ zq_at zy_form_1_22.2.1 44 10 := by decide +kernel
theorem zd_1_22_0 : zz_D zy_form_1_22 0 (.aload_n 0) 1 1 := ⟨zq_42 zg_1_22_0.1, rfl⟩
theorem zd_1_22_1 : zz_D zy_form_1_22 1 (.getfield 10) 3 4 := ⟨zq_180 zg_1_22_0.2.1 zg_1_22_0.2.2.1 zg_1_22_0.2.2.2.1 rfl, rfl⟩
theorem zd_1_22_4 : zz_D zy_form_1_22 4 (.iload_n 1) 1 5 := ⟨zq_27 zg_1_22_0.2.2.2.2.1, rfl⟩
theorem zd_1_22_5 : zz_D zy_form_1_22 5 (.invokevirtual 251) 3 8 := ⟨zq_182 zg_1_22_0.2.2.2.2.2.1 zg_1_22_0.2.2.2.2.2.2.1 zg_1_22_0.2.2.2.2.2.2.2.1 rfl, rfl⟩
theorem zd_1_22_8 : zz_B zy_form_1_22 8 (Instr.ifCond .ne) 21 11 := ⟨13, zq_154 zg_1_22_0.2.2.2.2.2.2.2.2.1 zg_1_22_0.2.2.2.2.2.2.2.2.2.1 zg_1_22_0.2.2.2.2.2.2.2.2.2.2.1 (by decide), rfl, rfl⟩
theorem zd_1_22_21 : zz_D zy_form_1_22 21 (.iload_n 2) 1 22 := ⟨zq_28 zg_1_22_0.2.2.2.2.2.2.2.2.2.2.2.1, rfl⟩
theorem zd_1_22_22 : zz_B zy_form_1_22 22 (Instr.ifCond .lt) 30 25 := ⟨8, zq_155 zg_1_22_0.2.2.2.2.2.2.2.2.2.2.2.2.1 zg_1_22_0.2.2.2.2.2.2.2.2.2.2.2.2.2.1 zg_1_22_0.2.2.2.2.2.2.2.2.2.2.2.2.2.2.1 (by decide), rfl, rfl⟩
theorem zd_1_22_25 : zz_D zy_form_1_22 25 (.iload_n 2) 1 26 := ⟨zq_28 zg_1_22_0.2.2.2.2.2.2.2.2.2.2.2.2.2.2.2.1, rfl⟩
theorem zd_1_22_26 : zz_D zy_form_1_22 26 (.iconst 3) 1 27 := ⟨zq_6 zg_1_22_0.2.2.2.2.2.2.2.2.2.2.2.2.2.2.2.2.1, rfl⟩
theorem zd_1_22_27 : zz_B zy_form_1_22 27 (Instr.if_icmp .le) 41 30 := ⟨14, zq_164 zg_1_22_0.2.2.2.2.2.2.2.2.2.2.2.2.2.2.2.2.2.1 zg_1_22_0.2.2.2.2.2.2.2.2.2.2.2.2.2.2.2.2.2.2.1 zg_1_22_0.2.2.2.2.2.2.2.2.2.2.2.2.2.2.2.2.2.2.2.1 (by decide), rfl, rfl⟩
theorem zd_1_22_41 : zz_D zy_form_1_22 41 (.aload_n 0) 1 42 := ⟨zq_42 zg_1_22_0.2.2.2.2.2.2.2.2.2.2.2.2.2.2.2.2.2.2.2.2.1, rfl⟩
theorem zd_1_22_42 : zz_D zy_form_1_22 42 (.getfield 10) 3 45 := ⟨zq_180 zg_1_22_0.2.2.2.2.2.2.2.2.2.2.2.2.2.2.2.2.2.2.2.2.2.1 zg_1_22_0.2.2.2.2.2.2.2.2.2.2.2.2.2.2.2.2.2.2.2.2.2.2.1 zg_1_22_0.2.2.2.2.2.2.2.2.2.2.2.2.2.2.2.2.2.2.2.2.2.2.2 rfl, rfl⟩
theorem zg_1_22_45 : zq_at zy_form_1_22.2.1 45 180 ∧ zq_at zy_form_1_22.2.1 46 1 ∧ zq_at zy_form_1_22.2.1 47 2 ∧ zq_at zy_form_1_22.2.1 48 27 ∧ zq_at zy_form_1_22.2.1 49 50 ∧ zq_at zy_form_1_22.2.1 50 78 ∧ zq_at zy_form_1_22.2.1 51 28 ∧ zq_at zy_form_1_22.2.1 52 6 ∧ zq_at zy_form_1_22.2.1 53 160 ∧ zq_at zy_form_1_22.2.1 54 0 ∧ zq_at zy_form_1_22.2.1 55 8 ∧ zq_at zy_form_1_22.2.1 61 28 ∧ zq_at zy_form_1_22.2.1 62 5 ∧ zq_at zy_form_1_22.2.1 63 160 ∧ zq_at zy_form_1_22.2.1 64 0 ∧ zq_at zy_form_1_22.2.1 65 8 ∧ zq_at zy_form_1_22.2.1 71 28 ∧ zq_at zy_form_1_22.2.1 72 4 ∧ zq_at zy_form_1_22.2.1 73 160 ∧ zq_at zy_form_1_22.2.1 74 0 ∧ zq_at zy_form_1_22.2.1 75 10 ∧ zq_at zy_form_1_22.2.1 83 45 := by decide +kernel
theorem zd_1_22_45 : zz_D zy_form_1_22 45 (.getfield 258) 3 48 := ⟨zq_180 zg_1_22_45.1 zg_1_22_45.2.1 zg_1_22_45.2.2.1 rfl, rfl⟩
theorem zd_1_22_48 : zz_D zy_form_1_22 48 (.iload_n 1) 1 49 := ⟨zq_27 zg_1_22_45.2.2.2.1, rfl⟩
theorem zd_1_22_49 : zz_D zy_form_1_22 49 (.aaload) 1 50 := ⟨zq_50 zg_1_22_45.2.2.2.2.1, rfl⟩
theorem zd_1_22_50 : zz_D zy_form_1_22 50 (.astore_n 3) 1 51 := ⟨zq_78 zg_1_22_45.2.2.2.2.2.1, rfl⟩
theorem zd_1_22_51 : zz_D zy_form_1_22 51 (.iload_n 2) 1 52 := ⟨zq_28 zg_1_22_45.2.2.2.2.2.2.1, rfl⟩
theorem zd_1_22_52 : zz_D zy_form_1_22 52 (.iconst 3) 1 53 := ⟨zq_6 zg_1_22_45.2.2.2.2.2.2.2.1, rfl⟩
theorem zd_1_22_53 : zz_B zy_form_1_22 53 (Instr.if_icmp .ne) 61 56 := ⟨8, zq_160 zg_1_22_45.2.2.2.2.2.2.2.2.1 zg_1_22_45.2.2.2.2.2.2.2.2.2.1 zg_1_22_45.2.2.2.2.2.2.2.2.2.2.1 (by decide), rfl, rfl⟩
theorem zd_1_22_61 : zz_D zy_form_1_22 61 (.iload_n 2) 1 62 := ⟨zq_28 zg_1_22_45.2.2.2.2.2.2.2.2.2.2.2.1, rfl⟩
theorem zd_1_22_62 : zz_D zy_form_1_22 62 (.iconst 2) 1 63 := ⟨zq_5 zg_1_22_45.2.2.2.2.2.2.2.2.2.2.2.2.1, rfl⟩
theorem zd_1_22_63 : zz_B zy_form_1_22 63 (Instr.if_icmp .ne) 71 66 := ⟨8, zq_160 zg_1_22_45.2.2.2.2.2.2.2.2.2.2.2.2.2.1 zg_1_22_45.2.2.2.2.2.2.2.2.2.2.2.2.2.2.1 zg_1_22_45.2.2.2.2.2.2.2.2.2.2.2.2.2.2.2.1 (by decide), rfl, rfl⟩
theorem zd_1_22_71 : zz_D zy_form_1_22 71 (.iload_n 2) 1 72 := ⟨zq_28 zg_1_22_45.2.2.2.2.2.2.2.2.2.2.2.2.2.2.2.2.1, rfl⟩
theorem zd_1_22_72 : zz_D zy_form_1_22 72 (.iconst 1) 1 73 := ⟨zq_4 zg_1_22_45.2.2.2.2.2.2.2.2.2.2.2.2.2.2.2.2.2.1, rfl⟩
theorem zd_1_22_73 : zz_B zy_form_1_22 73 (Instr.if_icmp .ne) 83 76 := ⟨10, zq_160 zg_1_22_45.2.2.2.2.2.2.2.2.2.2.2.2.2.2.2.2.2.2.1 zg_1_22_45.2.2.2.2.2.2.2.2.2.2.2.2.2.2.2.2.2.2.2.1 zg_1_22_45.2.2.2.2.2.2.2.2.2.2.2.2.2.2.2.2.2.2.2.2.1 (by decide), rfl, rfl⟩
theorem zd_1_22_83 : zz_D zy_form_1_22 83 (.aload_n 3) 1 84 := ⟨zq_45 zg_1_22_45.2.2.2.2.2.2.2.2.2.2.2.2.2.2.2.2.2.2.2.2.2, rfl⟩
theorem zg_1_22_84 : zq_at zy_form_1_22.2.1 84 180 ∧ zq_at zy_form_1_22.2.1 85 1 ∧ zq_at zy_form_1_22.2.1 86 12 ∧ zq_at zy_form_1_22.2.1 87 172 ∧ zq_at zy_form_1_22.2.1 76 45 ∧ zq_at zy_form_1_22.2.1 77 180 ∧ zq_at zy_form_1_22.2.1 78 1 ∧ zq_at zy_form_1_22.2.1 79 9 ∧ zq_at zy_form_1_22.2.1 80 167 ∧ zq_at zy_form_1_22.2.1 81 0 ∧ zq_at zy_form_1_22.2.1 82 7 ∧ zq_at zy_form_1_22.2.1 66 45 ∧ zq_at zy_form_1_22.2.1 67 180 ∧ zq_at zy_form_1_22.2.1 68 0 ∧ zq_at zy_form_1_22.2.1 69 241 ∧ zq_at zy_form_1_22.2.1 70 172 ∧ zq_at zy_form_1_22.2.1 56 45 ∧ zq_at zy_form_1_22.2.1 57 180 ∧ zq_at zy_form_1_22.2.1 58 1 ∧ zq_at zy_form_1_22.2.1 59 6 ∧ zq_at zy_form_1_22.2.1 60 172 := by decide +kernel
theorem zd_1_22_84 : zz_D zy_form_1_22 84 (.getfield 268) 3 87 := ⟨zq_180 zg_1_22_84.1 zg_1_22_84.2.1 zg_1_22_84.2.2.1 rfl, rfl⟩
theorem zd_1_22_87 : zz_D zy_form_1_22 87 (.ireturn) 1 88 := ⟨zq_172 zg_1_22_84.2.2.2.1, rfl⟩
theorem zd_1_22_76 : zz_D zy_form_1_22 76 (.aload_n 3) 1 77 := ⟨zq_45 zg_1_22_84.2.2.2.2.1, rfl⟩
theorem zd_1_22_77 : zz_D zy_form_1_22 77 (.getfield 265) 3 80 := ⟨zq_180 zg_1_22_84.2.2.2.2.2.1 zg_1_22_84.2.2.2.2.2.2.1 zg_1_22_84.2.2.2.2.2.2.2.1 rfl, rfl⟩
theorem zd_1_22_80 : zz_B zy_form_1_22 80 Instr.goto 87 83 := ⟨7, zq_167 zg_1_22_84.2.2.2.2.2.2.2.2.1 zg_1_22_84.2.2.2.2.2.2.2.2.2.1 zg_1_22_84.2.2.2.2.2.2.2.2.2.2.1 (by decide), rfl, rfl⟩
theorem zd_1_22_66 : zz_D zy_form_1_22 66 (.aload_n 3) 1 67 := ⟨zq_45 zg_1_22_84.2.2.2.2.2.2.2.2.2.2.2.1, rfl⟩
theorem zd_1_22_67 : zz_D zy_form_1_22 67 (.getfield 241) 3 70 := ⟨zq_180 zg_1_22_84.2.2.2.2.2.2.2.2.2.2.2.2.1 zg_1_22_84.2.2.2.2.2.2.2.2.2.2.2.2.2.1 zg_1_22_84.2.2.2.2.2.2.2.2.2.2.2.2.2.2.1 rfl, rfl⟩
theorem zd_1_22_70 : zz_D zy_form_1_22 70 (.ireturn) 1 71 := ⟨zq_172 zg_1_22_84.2.2.2.2.2.2.2.2.2.2.2.2.2.2.2.1, rfl⟩
theorem zd_1_22_56 : zz_D zy_form_1_22 56 (.aload_n 3) 1 57 := ⟨zq_45 zg_1_22_84.2.2.2.2.2.2.2.2.2.2.2.2.2.2.2.2.1, rfl⟩
theorem zd_1_22_57 : zz_D zy_form_1_22 57 (.getfield 262) 3 60 := ⟨zq_180 zg_1_22_84.2.2.2.2.2.2.2.2.2.2.2.2.2.2.2.2.2.1 zg_1_22_84.2.2.2.2.2.2.2.2.2.2.2.2.2.2.2.2.2.2.1 zg_1_22_84.2.2.2.2.2.2.2.2.2.2.2.2.2.2.2.2.2.2.2.1 rfl, rfl⟩
theorem zd_1_22_60 : zz_D zy_form_1_22 60 (.ireturn) 1 61 := ⟨zq_172 zg_1_22_84.2.2.2.2.2.2.2.2.2.2.2.2.2.2.2.2.2.2.2.2, rfl⟩
-- TensorForge form (II)I
abbrev zr_form_1_22 : Room := { frames := 6, cells := 1, slots := 6, locals := 82 }
def zp_form_1_22 (p0 : Int) (p1 : Int) (S0 : zz_S) : Int → zz_S → Prop := fun r S => S0 = S ∧ ((-2147483648) ≤ r ∧ r ≤ 2147483647) ∧ (∀ v : zn_T, zn_C S0 (S0 1000 7) v → zn_V v → (0 ≤ p0 ∧ p0 < v 15 0) ∧ (0 ≤ p1 ∧ p1 ≤ 3) ∧ r = zn_fo v p0 p1)
def zx_form_1_22 (p0 : Int) (p1 : Int) (S0 : zz_S) : Nat → zz_S → Prop := fun i S => S0 = S ∧ (i < 4) ∧ (i = 0 ∨ i = 1) ∧ (∀ v : zn_T, zn_C S0 (S0 1000 7) v → (i = 1 ∧ ¬ (0 ≤ p0 ∧ p0 < v 15 0)) ∨ (i = 0 ∧ (0 ≤ p0 ∧ p0 < v 15 0) ∧ (p1 < 0 ∨ 3 < p1)))
theorem zc_form_1_22 {g : mm_G} {l : Launch} (p0 : Int) (p1 : Int) (S0 : zz_S) (n : Nat) (hn : zz_end ≤ n) (hfl : l.flags = flags0) (G_S0 : zz_G S0) (hp0 : (-2147483648) ≤ p0 ∧ p0 ≤ 2147483647) (hp1 : (-2147483648) ≤ p1 ∧ p1 ≤ 2147483647) : mm_Met g l zy_form_1_22 zr_form_1_22 [.ref 1000, zi p0, zi p1] (zz_M S0 n) n (zz_XI n (zp_form_1_22 p0 p1 S0) (zx_form_1_22 p0 p1 S0)) := by
  refine zz_enter (by decide) (Nat.le_of_ble_eq_true rfl) (zz_less (ls1 := [some (.ref 1000), some (zi p0), some (zi p1)]) ⟨rfl, ⟨rfl, ⟨rfl, trivial⟩⟩⟩ ?_)
  refine zz_aload_n (x := 1000) rfl zd_1_22_0 ?_
  have g1 := zz_G.r G_S0 1000 7 0 1 rfl rfl
  refine zz_getr (kd := 1) (z := S0 1000 7) zd_1_22_1 zf_TF_10 zT_1000 rfl (zz_ltn hn rfl) rfl (by omega) (zz_rf 3 (S0 1000 7)) rfl ?_
  refine zz_iload_n (x := p0) rfl zd_1_22_4 ?_
  refine zz_callVI [zi p0] zd_1_22_5 zk_TF_251 (zT_k3 (by omega)) (zN_k3 hn (by omega)) rfl rfl ⟨Nat.le_of_ble_eq_true rfl, Nat.le_of_ble_eq_true rfl⟩ ⟨rfl, rfl⟩ (Nat.zero_le _) (Nat.zero_le _) (zc_has_7_5 (S0 1000 7) p0 S0 n hn G_S0 (by omega) (by omega)) (fun v3 S2 hP => ?_)
  obtain ⟨rfl, o4, o5⟩ := hP
  rcases (by omega : v3 = 0 ∨ v3 = 1) with rfl | rfl
  · refine zz_if_ne (by omega) zd_1_22_8 (fun c6 => ?_) (fun c6 => ?_)
    · exfalso; omega
    · exact zz_throw (i := 1) hfl hn zt_1_22_11 zyw_form_1_22 zxl_TF_101_254_105 (Nat.le_of_ble_eq_true rfl) (Nat.le_of_ble_eq_true rfl) ⟨Nat.le_of_ble_eq_true rfl, Nat.le_of_ble_eq_true rfl⟩ (Or.inr ⟨_, _, rfl, rfl, by omega, by omega, (fun v hC => by have h9 := hC.1; omega)⟩)
  · refine zz_if_ne (by omega) zd_1_22_8 (fun c7 => ?_) (fun c7 => ?_)
    · have ht9 := zz_G.r G_S0 (zz_rf 3 (S0 1000 7)) 1 1 11 (zR_k3_1 (by omega)) (zB_k3 (by omega))
      refine zz_iload_n (x := p1) rfl zd_1_22_21 ?_
      refine zz_if_lt (by omega) zd_1_22_22 (fun c8 => ?_) (fun c8 => ?_)
      · exact zz_throwW (i := 0) hfl hn zt_1_22_30 zyw_form_1_22 zxl_TF_87_256_91 (Nat.le_of_ble_eq_true rfl) (Nat.le_of_ble_eq_true rfl) ⟨Nat.le_of_ble_eq_true rfl, Nat.le_of_ble_eq_true rfl⟩ (Or.inr ⟨_, _, rfl, rfl, by omega, by omega, (fun v hC => by have h9 := hC.1; omega)⟩)
      · refine zz_iload_n (x := p1) rfl zd_1_22_25 ?_
        refine zz_iconst zd_1_22_26 ?_
        refine zz_icmp_le (by omega) (by omega) zd_1_22_27 (fun c9 => ?_) (fun c9 => ?_)
        · refine zz_aload_n (x := 1000) rfl zd_1_22_41 ?_
          refine zz_getr (kd := 1) (z := S0 1000 7) zd_1_22_42 zf_TF_10 zT_1000 rfl (zz_ltn hn rfl) rfl (by omega) (zz_rf 3 (S0 1000 7)) rfl ?_
          refine zz_getr (kd := 0) (z := ((zz_rf 3 (S0 1000 7) + 1 : Nat) : Int)) zd_1_22_45 zf_TF_258 (zT_k3 (by omega)) rfl (zN_k3 hn (by omega)) (zE_k3a G_S0 (by omega)) (Int.natCast_nonneg _) (zz_rf 3 (S0 1000 7) + 1) (Int.toNat_natCast _) ?_
          refine zz_iload_n (x := p0) rfl zd_1_22_48 ?_
          refine zz_aald (kd := 4) (z := 12 * (S0 1000 7) + p0) zd_1_22_49 (zT_k3a (by omega)) rfl (zN_k3a hn (by omega)) (by decide) (by omega) (zE_lay G_S0 (by omega) (by omega)) (by omega) (zz_rf 6 (12 * (S0 1000 7) + p0)) rfl ?_
          refine zz_astore_n [some (.ref 1000), some (zi p0), some (zi p1), some (.ref (zz_rf 6 (12 * (S0 1000 7) + p0)))] zd_1_22_50 (by decide) rfl ?_
          refine zz_iload_n (x := p1) rfl zd_1_22_51 ?_
          refine zz_iconst zd_1_22_52 ?_
          refine zz_icmp_ne (by omega) (by omega) zd_1_22_53 (fun c10 => ?_) (fun c10 => ?_)
          · refine zz_iload_n (x := p1) rfl zd_1_22_61 ?_
            refine zz_iconst zd_1_22_62 ?_
            refine zz_icmp_ne (by omega) (by omega) zd_1_22_63 (fun c11 => ?_) (fun c11 => ?_)
            · refine zz_iload_n (x := p1) rfl zd_1_22_71 ?_
              refine zz_iconst zd_1_22_72 ?_
              refine zz_icmp_ne (by omega) (by omega) zd_1_22_73 (fun c12 => ?_) (fun c12 => ?_)
              · refine zz_aload_n (x := zz_rf 6 (12 * (S0 1000 7) + p0)) rfl zd_1_22_83 ?_
                have g13 := zz_G.r G_S0 (zz_rf 6 (12 * (S0 1000 7) + p0)) 10 (-2147483648) 2147483647 (zR_k6_10 (by omega)) (zB_k6 (by omega))
                refine zz_geti (z := S0 (zz_rf 6 (12 * (S0 1000 7) + p0)) 10) zd_1_22_84 zf_TF_268 (zT_k6 (by omega)) rfl (zN_k6 hn (by omega)) rfl ?_
                exact zz_iret zd_1_22_87 rfl (Nat.le_of_ble_eq_true rfl) (Nat.le_of_ble_eq_true rfl) (Or.inl ⟨_, _, rfl, rfl, by omega, (fun v hC hV => by have h9 := hC.1; have c9 := zn_Cs hC (k := p0) (by omega) (by omega) 10 (by decide); exact ⟨by omega, by omega, by unfold zn_fo; rw [if_pos (by omega)]; exact c9⟩)⟩)
              · refine zz_aload_n (x := zz_rf 6 (12 * (S0 1000 7) + p0)) rfl zd_1_22_76 ?_
                have g14 := zz_G.r G_S0 (zz_rf 6 (12 * (S0 1000 7) + p0)) 11 (-2147483648) 2147483647 (zR_k6_11 (by omega)) (zB_k6 (by omega))
                refine zz_geti (z := S0 (zz_rf 6 (12 * (S0 1000 7) + p0)) 11) zd_1_22_77 zf_TF_265 (zT_k6 (by omega)) rfl (zN_k6 hn (by omega)) rfl ?_
                refine zz_goto zd_1_22_80 ?_
                exact zz_iret zd_1_22_87 rfl (Nat.le_of_ble_eq_true rfl) (Nat.le_of_ble_eq_true rfl) (Or.inl ⟨_, _, rfl, rfl, by omega, (fun v hC hV => by have h9 := hC.1; have c9 := zn_Cs hC (k := p0) (by omega) (by omega) 11 (by decide); exact ⟨by omega, by omega, by unfold zn_fo; rw [if_neg (by omega), if_pos (by omega)]; exact c9⟩)⟩)
            · refine zz_aload_n (x := zz_rf 6 (12 * (S0 1000 7) + p0)) rfl zd_1_22_66 ?_
              have g15 := zz_G.r G_S0 (zz_rf 6 (12 * (S0 1000 7) + p0)) 12 (-2147483648) 2147483647 (zR_k6_12 (by omega)) (zB_k6 (by omega))
              refine zz_geti (z := S0 (zz_rf 6 (12 * (S0 1000 7) + p0)) 12) zd_1_22_67 zf_TF_241 (zT_k6 (by omega)) rfl (zN_k6 hn (by omega)) rfl ?_
              exact zz_iret zd_1_22_70 rfl (Nat.le_of_ble_eq_true rfl) (Nat.le_of_ble_eq_true rfl) (Or.inl ⟨_, _, rfl, rfl, by omega, (fun v hC hV => by have h9 := hC.1; have c9 := zn_Cs hC (k := p0) (by omega) (by omega) 12 (by decide); exact ⟨by omega, by omega, by unfold zn_fo; rw [if_neg (by omega), if_neg (by omega), if_pos (by omega)]; exact c9⟩)⟩)
          · refine zz_aload_n (x := zz_rf 6 (12 * (S0 1000 7) + p0)) rfl zd_1_22_56 ?_
            have g16 := zz_G.r G_S0 (zz_rf 6 (12 * (S0 1000 7) + p0)) 13 (-2147483648) 2147483647 (zR_k6_13 (by omega)) (zB_k6 (by omega))
            refine zz_geti (z := S0 (zz_rf 6 (12 * (S0 1000 7) + p0)) 13) zd_1_22_57 zf_TF_262 (zT_k6 (by omega)) rfl (zN_k6 hn (by omega)) rfl ?_
            exact zz_iret zd_1_22_60 rfl (Nat.le_of_ble_eq_true rfl) (Nat.le_of_ble_eq_true rfl) (Or.inl ⟨_, _, rfl, rfl, by omega, (fun v hC hV => by have h9 := hC.1; have c9 := zn_Cs hC (k := p0) (by omega) (by omega) 13 (by decide); exact ⟨by omega, by omega, by unfold zn_fo; rw [if_neg (by omega), if_neg (by omega), if_neg (by omega)]; exact c9⟩)⟩)
        · exact zz_throwW (i := 0) hfl hn zt_1_22_30 zyw_form_1_22 zxl_TF_87_256_91 (Nat.le_of_ble_eq_true rfl) (Nat.le_of_ble_eq_true rfl) ⟨Nat.le_of_ble_eq_true rfl, Nat.le_of_ble_eq_true rfl⟩ (Or.inr ⟨_, _, rfl, rfl, by omega, by omega, (fun v hC => by have h9 := hC.1; omega)⟩)
    · exfalso; omega
abbrev zy_compile_1_23 : mm_Y := (⟨"TensorForge", "compile", "()I"⟩, prog_1_method_23_code, 2, (some .int))
theorem zyw_compile_1_23 : mm_Yw zy_compile_1_23 0 := ⟨mm_tb_1 1404 (by decide +kernel) rfl, mm_tb_1 1 (by decide +kernel) rfl, ⟨by decide, by decide⟩, by decide +kernel⟩
theorem zf_TF_271 : mm_Fl "TensorForge" 271 3 6 .int false := ⟨R_Machine, F_Machine, 14, t_Machine, rfl, i_Machine, by decide, mm_tb_1 193 (by decide +kernel) rfl, rfl, t_Machine_ok, n_Machine, rfl, by decide +kernel⟩
abbrev zy_open_3_2 : mm_Y := (⟨"TensorForge$Compiler", "open", "(I[J)V"⟩, prog_3_method_2_code, 3, none)
theorem zyw_open_3_2 : mm_Yw zy_open_3_2 2 := ⟨mm_tb_1 1408 (by decide +kernel) rfl, mm_tb_1 10 (by decide +kernel) rfl, ⟨by decide, by decide⟩, by decide +kernel⟩
theorem zm_Compiler_24 : Cond.methodLink "TensorForge$Compiler" 24 Lib.Math.min.name ∈ mm_tb ∧ Cond.static Lib.Math.min.name ∈ mm_tb ∧ Cond.initialized "java/lang/Math" ∈ mm_tb ∧ Cond.code Lib.Math.min.name Lib.Math.min.code 2 (some .int) ∈ mm_tb := ⟨mm_tb_1 1409 (by decide +kernel) rfl, mm_tb_1 706 (by decide +kernel) rfl, mm_tb_1 25 (by decide +kernel) rfl, mm_tb_1 707 (by decide +kernel) rfl⟩
theorem zm_Compiler_30 : Cond.methodLink "TensorForge$Compiler" 30 Lib.Math.max.name ∈ mm_tb ∧ Cond.static Lib.Math.max.name ∈ mm_tb ∧ Cond.initialized "java/lang/Math" ∈ mm_tb ∧ Cond.code Lib.Math.max.name Lib.Math.max.code 2 (some .int) ∈ mm_tb := ⟨mm_tb_1 1410 (by decide +kernel) rfl, mm_tb_1 709 (by decide +kernel) rfl, mm_tb_1 25 (by decide +kernel) rfl, mm_tb_1 710 (by decide +kernel) rfl⟩
theorem zg_1_23_0 : zq_at zy_compile_1_23.2.1 0 42 ∧ zq_at zy_compile_1_23.2.1 1 180 ∧ zq_at zy_compile_1_23.2.1 2 0 ∧ zq_at zy_compile_1_23.2.1 3 76 ∧ zq_at zy_compile_1_23.2.1 4 42 ∧ zq_at zy_compile_1_23.2.1 5 180 ∧ zq_at zy_compile_1_23.2.1 6 0 ∧ zq_at zy_compile_1_23.2.1 7 33 ∧ zq_at zy_compile_1_23.2.1 8 180 ∧ zq_at zy_compile_1_23.2.1 9 1 ∧ zq_at zy_compile_1_23.2.1 10 15 ∧ zq_at zy_compile_1_23.2.1 11 42 ∧ zq_at zy_compile_1_23.2.1 12 180 ∧ zq_at zy_compile_1_23.2.1 13 0 ∧ zq_at zy_compile_1_23.2.1 14 23 ∧ zq_at zy_compile_1_23.2.1 15 182 ∧ zq_at zy_compile_1_23.2.1 16 1 ∧ zq_at zy_compile_1_23.2.1 17 18 := by decide +kernel
theorem zd_1_23_0 : zz_D zy_compile_1_23 0 (.aload_n 0) 1 1 := ⟨zq_42 zg_1_23_0.1, rfl⟩
theorem zd_1_23_1 : zz_D zy_compile_1_23 1 (.getfield 76) 3 4 := ⟨zq_180 zg_1_23_0.2.1 zg_1_23_0.2.2.1 zg_1_23_0.2.2.2.1 rfl, rfl⟩
theorem zd_1_23_4 : zz_D zy_compile_1_23 4 (.aload_n 0) 1 5 := ⟨zq_42 zg_1_23_0.2.2.2.2.1, rfl⟩
theorem zd_1_23_5 : zz_D zy_compile_1_23 5 (.getfield 33) 3 8 := ⟨zq_180 zg_1_23_0.2.2.2.2.2.1 zg_1_23_0.2.2.2.2.2.2.1 zg_1_23_0.2.2.2.2.2.2.2.1 rfl, rfl⟩
theorem zd_1_23_8 : zz_D zy_compile_1_23 8 (.getfield 271) 3 11 := ⟨zq_180 zg_1_23_0.2.2.2.2.2.2.2.2.1 zg_1_23_0.2.2.2.2.2.2.2.2.2.1 zg_1_23_0.2.2.2.2.2.2.2.2.2.2.1 rfl, rfl⟩
theorem zd_1_23_11 : zz_D zy_compile_1_23 11 (.aload_n 0) 1 12 := ⟨zq_42 zg_1_23_0.2.2.2.2.2.2.2.2.2.2.2.1, rfl⟩
theorem zd_1_23_12 : zz_D zy_compile_1_23 12 (.getfield 23) 3 15 := ⟨zq_180 zg_1_23_0.2.2.2.2.2.2.2.2.2.2.2.2.1 zg_1_23_0.2.2.2.2.2.2.2.2.2.2.2.2.2.1 zg_1_23_0.2.2.2.2.2.2.2.2.2.2.2.2.2.2.1 rfl, rfl⟩
theorem zd_1_23_15 : zz_D zy_compile_1_23 15 (.invokevirtual 274) 3 18 := ⟨zq_182 zg_1_23_0.2.2.2.2.2.2.2.2.2.2.2.2.2.2.2.1 zg_1_23_0.2.2.2.2.2.2.2.2.2.2.2.2.2.2.2.2.1 zg_1_23_0.2.2.2.2.2.2.2.2.2.2.2.2.2.2.2.2.2 rfl, rfl⟩
theorem zg_3_2_0 : zq_at zy_open_3_2.2.1 0 42 ∧ zq_at zy_open_3_2.2.1 1 5 ∧ zq_at zy_open_3_2.2.1 2 16 ∧ zq_at zy_open_3_2.2.1 3 8 ∧ zq_at zy_open_3_2.2.1 4 27 ∧ zq_at zy_open_3_2.2.1 5 184 ∧ zq_at zy_open_3_2.2.1 6 0 ∧ zq_at zy_open_3_2.2.1 7 24 ∧ zq_at zy_open_3_2.2.1 8 184 ∧ zq_at zy_open_3_2.2.1 9 0 ∧ zq_at zy_open_3_2.2.1 10 30 ∧ zq_at zy_open_3_2.2.1 11 181 ∧ zq_at zy_open_3_2.2.1 12 0 ∧ zq_at zy_open_3_2.2.1 13 21 ∧ zq_at zy_open_3_2.2.1 14 42 ∧ zq_at zy_open_3_2.2.1 15 44 ∧ zq_at zy_open_3_2.2.1 16 181 ∧ zq_at zy_open_3_2.2.1 17 0 ∧ zq_at zy_open_3_2.2.1 18 9 ∧ zq_at zy_open_3_2.2.1 19 42 ∧ zq_at zy_open_3_2.2.1 20 3 ∧ zq_at zy_open_3_2.2.1 21 181 ∧ zq_at zy_open_3_2.2.1 22 0 ∧ zq_at zy_open_3_2.2.1 23 15 := by decide +kernel
theorem zd_3_2_0 : zz_D zy_open_3_2 0 (.aload_n 0) 1 1 := ⟨zq_42 zg_3_2_0.1, rfl⟩
theorem zd_3_2_1 : zz_D zy_open_3_2 1 (.iconst 2) 1 2 := ⟨zq_5 zg_3_2_0.2.1, rfl⟩
theorem zd_3_2_2 : zz_D zy_open_3_2 2 (.bipush 8) 2 4 := ⟨zq_16 zg_3_2_0.2.2.1 zg_3_2_0.2.2.2.1 (by decide), rfl⟩
theorem zd_3_2_4 : zz_D zy_open_3_2 4 (.iload_n 1) 1 5 := ⟨zq_27 zg_3_2_0.2.2.2.2.1, rfl⟩
theorem zd_3_2_5 : zz_D zy_open_3_2 5 (.invokestatic 24) 3 8 := ⟨zq_184 zg_3_2_0.2.2.2.2.2.1 zg_3_2_0.2.2.2.2.2.2.1 zg_3_2_0.2.2.2.2.2.2.2.1 rfl, rfl⟩
theorem zd_3_2_8 : zz_D zy_open_3_2 8 (.invokestatic 30) 3 11 := ⟨zq_184 zg_3_2_0.2.2.2.2.2.2.2.2.1 zg_3_2_0.2.2.2.2.2.2.2.2.2.1 zg_3_2_0.2.2.2.2.2.2.2.2.2.2.1 rfl, rfl⟩
theorem zd_3_2_11 : zz_D zy_open_3_2 11 (.putfield 21) 3 14 := ⟨zq_181 zg_3_2_0.2.2.2.2.2.2.2.2.2.2.2.1 zg_3_2_0.2.2.2.2.2.2.2.2.2.2.2.2.1 zg_3_2_0.2.2.2.2.2.2.2.2.2.2.2.2.2.1 rfl, rfl⟩
theorem zd_3_2_14 : zz_D zy_open_3_2 14 (.aload_n 0) 1 15 := ⟨zq_42 zg_3_2_0.2.2.2.2.2.2.2.2.2.2.2.2.2.2.1, rfl⟩
theorem zd_3_2_15 : zz_D zy_open_3_2 15 (.aload_n 2) 1 16 := ⟨zq_44 zg_3_2_0.2.2.2.2.2.2.2.2.2.2.2.2.2.2.2.1, rfl⟩
theorem zd_3_2_16 : zz_D zy_open_3_2 16 (.putfield 9) 3 19 := ⟨zq_181 zg_3_2_0.2.2.2.2.2.2.2.2.2.2.2.2.2.2.2.2.1 zg_3_2_0.2.2.2.2.2.2.2.2.2.2.2.2.2.2.2.2.2.1 zg_3_2_0.2.2.2.2.2.2.2.2.2.2.2.2.2.2.2.2.2.2.1 rfl, rfl⟩
theorem zd_3_2_19 : zz_D zy_open_3_2 19 (.aload_n 0) 1 20 := ⟨zq_42 zg_3_2_0.2.2.2.2.2.2.2.2.2.2.2.2.2.2.2.2.2.2.2.1, rfl⟩
theorem zd_3_2_20 : zz_D zy_open_3_2 20 (.iconst 0) 1 21 := ⟨zq_3 zg_3_2_0.2.2.2.2.2.2.2.2.2.2.2.2.2.2.2.2.2.2.2.2.1, rfl⟩
theorem zd_3_2_21 : zz_D zy_open_3_2 21 (.putfield 15) 3 24 := ⟨zq_181 zg_3_2_0.2.2.2.2.2.2.2.2.2.2.2.2.2.2.2.2.2.2.2.2.2.1 zg_3_2_0.2.2.2.2.2.2.2.2.2.2.2.2.2.2.2.2.2.2.2.2.2.2.1 zg_3_2_0.2.2.2.2.2.2.2.2.2.2.2.2.2.2.2.2.2.2.2.2.2.2.2 rfl, rfl⟩
theorem zg_3_2_24 : zq_at zy_open_3_2.2.1 24 177 := by decide +kernel
theorem zd_3_2_24 : zz_D zy_open_3_2 24 (.return_) 1 25 := ⟨zq_177 zg_3_2_24, rfl⟩
-- TensorForge$Compiler open (I[J)V
abbrev zr_open_3_2 : Room := { frames := 1, cells := 0, slots := 0, locals := 15 }
def zp_open_3_2 (p0 : Int) (p1 : Int) (S0 : zz_S) : zz_S → Prop := fun S => zz_G S ∧ zz_fr [(1076, 0), (1076, 1), (1076, 2)] [] (fun _ _ => False) S0 S ∧ (S 1076 1 = 0)
theorem zc_open_3_2 {g : mm_G} {l : Launch} (p0 : Int) (p1 : Int) (S0 : zz_S) (n : Nat) (hn : zz_end ≤ n) (G_S0 : zz_G S0) (hp0 : (-2147483648) ≤ p0 ∧ p0 ≤ 2147483647) (hp1 : 0 ≤ p1 ∧ p1 ≤ 1) : mm_Met g l zy_open_3_2 zr_open_3_2 [.ref 1076, zi p0, .ref (zz_rf 4 p1)] (zz_M S0 n) n (zz_QV n (zp_open_3_2 p0 p1 S0)) := by
  refine zz_enter (by decide) (Nat.le_of_ble_eq_true rfl) (zz_less (ls1 := [some (.ref 1076), some (zi p0), some (.ref (zz_rf 4 p1))]) ⟨rfl, ⟨rfl, ⟨rfl, trivial⟩⟩⟩ ?_)
  have F_S0 : zz_fr [(1076, 0), (1076, 1), (1076, 2)] [] (fun _ _ => False) S0 S0 := zz_fr.refl
  have b_p1 := zz_rf4 (z := p1) (by omega)
  refine zz_aload_n (x := 1076) rfl zd_3_2_0 ?_
  refine zz_iconst zd_3_2_1 ?_
  refine zz_bipush (by decide) zd_3_2_2 ?_
  refine zz_iload_n (x := p0) rfl zd_3_2_4 ?_
  refine zz_mmin (by omega) (by omega) zd_3_2_5 zm_Compiler_24 ⟨Nat.le_of_ble_eq_true rfl, Nat.le_of_ble_eq_true rfl⟩ (Nat.zero_le _) (Nat.zero_le _) (fun v1 hv1 => ?_)
  refine zz_mmax (by omega) (by omega) zd_3_2_8 zm_Compiler_30 ⟨Nat.le_of_ble_eq_true rfl, Nat.le_of_ble_eq_true rfl⟩ (Nat.zero_le _) (Nat.zero_le _) (fun v2 hv2 => ?_)
  refine zz_puti zd_3_2_11 zf_Compiler_21 zT_1076 rfl (zz_ltn hn rfl) (fun S3 qS3 => ?_)
  have G_S3 := zz_G.put G_S0 qS3 2 8 rfl (by omega)
  have F_S3 := zz_fr.puts F_S0 qS3 rfl
  refine zz_aload_n (x := 1076) rfl zd_3_2_14 ?_
  refine zz_aload_n (x := zz_rf 4 p1) rfl zd_3_2_15 ?_
  refine zz_putr (kd := 2) p1 zd_3_2_16 zf_Compiler_9 zT_1076 rfl (zz_ltn hn rfl) (by omega) rfl (fun _ => rfl) (fun _ => rfl) (fun S4 qS4 => ?_)
  have G_S4 := zz_G.put G_S3 qS4 0 1 rfl (by omega)
  have F_S4 := zz_fr.puts F_S3 qS4 rfl
  refine zz_aload_n (x := 1076) rfl zd_3_2_19 ?_
  refine zz_iconst zd_3_2_20 ?_
  refine zz_puti zd_3_2_21 zf_Compiler_15 zT_1076 rfl (zz_ltn hn rfl) (fun S5 qS5 => ?_)
  have G_S5 := zz_G.put G_S4 qS5 0 1000000 rfl (by omega)
  have F_S5 := zz_fr.puts F_S4 qS5 rfl
  have e6 : S5 1076 1 = 0 := (zz_rs qS5)
  exact zz_vret zd_3_2_24 rfl (Nat.zero_le _) (Nat.zero_le _) ⟨_, rfl, G_S5, F_S5, by omega⟩
theorem zk_TF_274 : mm_Vl "TensorForge" 274 9 2 zy_open_3_2 := ⟨zyw_open_3_2, (R_Compiler, F_Compiler, 17), rfl, mm_tb_1 1405 (by decide +kernel) rfl, mm_tb_1 1406 (by decide +kernel) rfl, mm_tb_1 1407 (by decide +kernel) rfl⟩
theorem zf_TF_285 : mm_Fl "TensorForge" 285 9 1 .int false := ⟨R_Compiler, F_Compiler, 17, t_Compiler, rfl, i_Compiler, by decide, mm_tb_1 376 (by decide +kernel) rfl, rfl, t_Compiler_ok, n_Compiler, rfl, by decide +kernel⟩
theorem zt_1_23_62 : zz_ThrW zy_compile_1_23 62 126 286 130 := ⟨by decide +kernel, by decide +kernel, by decide +kernel, by decide +kernel, by decide +kernel⟩
theorem zxl_TF_126_286_130 : mm_Xl "TensorForge" 126 286 130 2 := ⟨mm_tb_1 1176 (by decide +kernel) rfl, mm_tb_1 1177 (by decide +kernel) rfl, mm_tb_1 19 (by decide +kernel) rfl, ⟨55, by decide +kernel⟩, zxa_TF_130⟩
abbrev zy_makeLayer_3_3 : mm_Y := (⟨"TensorForge$Compiler", "makeLayer", "(LTensorForge$Network;I)V"⟩, prog_3_method_3_code, 7, none)
theorem zyw_makeLayer_3_3 : mm_Yw zy_makeLayer_3_3 2 := ⟨mm_tb_1 1414 (by decide +kernel) rfl, mm_tb_1 10 (by decide +kernel) rfl, ⟨by decide, by decide⟩, by decide +kernel⟩
theorem zk_Compiler_33 : mm_Vl "TensorForge$Compiler" 33 1 1 zy_has_7_5 := ⟨zyw_has_7_5, (R_Network, F_Network, 2), rfl, mm_tb_1 1415 (by decide +kernel) rfl, mm_tb_1 859 (by decide +kernel) rfl, mm_tb_1 860 (by decide +kernel) rfl⟩
theorem zf_Compiler_39 : mm_Fl "TensorForge$Compiler" 39 1 0 (.array (.object "TensorForge$Layer")) true := ⟨R_Network, F_Network, 2, t_Network, rfl, i_Network, by decide, mm_tb_1 144 (by decide +kernel) rfl, rfl, t_Network_ok, n_Network, rfl, by decide +kernel⟩
theorem zf_Compiler_43 : mm_Fl "TensorForge$Compiler" 43 2 1 .int false := ⟨R_Layer, F_Layer, 15, t_Layer, rfl, i_Layer, by decide, mm_tb_1 61 (by decide +kernel) rfl, rfl, t_Layer_ok, n_Layer, rfl, by decide +kernel⟩
theorem zf_Compiler_48 : mm_Fl "TensorForge$Compiler" 48 2 2 .int false := ⟨R_Layer, F_Layer, 15, t_Layer, rfl, i_Layer, by decide, mm_tb_1 65 (by decide +kernel) rfl, rfl, t_Layer_ok, n_Layer, rfl, by decide +kernel⟩
theorem zf_Compiler_51 : mm_Fl "TensorForge$Compiler" 51 9 3 (.object "TensorForge$Layer") false := ⟨R_Compiler, F_Compiler, 17, t_Compiler, rfl, i_Compiler, by decide, mm_tb_1 378 (by decide +kernel) rfl, rfl, t_Compiler_ok, n_Compiler, rfl, by decide +kernel⟩
theorem zf_Compiler_55 : mm_Fl "TensorForge$Compiler" 55 9 4 (.object "TensorForge$Layer") false := ⟨R_Compiler, F_Compiler, 17, t_Compiler, rfl, i_Compiler, by decide, mm_tb_1 379 (by decide +kernel) rfl, rfl, t_Compiler_ok, n_Compiler, rfl, by decide +kernel⟩
theorem zf_Compiler_58 : mm_Fl "TensorForge$Compiler" 58 9 5 (.object "TensorForge$Layer") false := ⟨R_Compiler, F_Compiler, 17, t_Compiler, rfl, i_Compiler, by decide, mm_tb_1 380 (by decide +kernel) rfl, rfl, t_Compiler_ok, n_Compiler, rfl, by decide +kernel⟩
theorem zf_Compiler_61 : mm_Fl "TensorForge$Compiler" 61 2 0 .int false := ⟨R_Layer, F_Layer, 15, t_Layer, rfl, i_Layer, by decide, mm_tb_1 58 (by decide +kernel) rfl, rfl, t_Layer_ok, n_Layer, rfl, by decide +kernel⟩
theorem zf_Compiler_64 : mm_Fl "TensorForge$Compiler" 64 2 10 .int false := ⟨R_Layer, F_Layer, 15, t_Layer, rfl, i_Layer, by decide, mm_tb_1 95 (by decide +kernel) rfl, rfl, t_Layer_ok, n_Layer, rfl, by decide +kernel⟩
theorem zf_Compiler_67 : mm_Fl "TensorForge$Compiler" 67 2 11 .int false := ⟨R_Layer, F_Layer, 15, t_Layer, rfl, i_Layer, by decide, mm_tb_1 99 (by decide +kernel) rfl, rfl, t_Layer_ok, n_Layer, rfl, by decide +kernel⟩
theorem zf_Compiler_70 : mm_Fl "TensorForge$Compiler" 70 9 6 .int false := ⟨R_Compiler, F_Compiler, 17, t_Compiler, rfl, i_Compiler, by decide, mm_tb_1 381 (by decide +kernel) rfl, rfl, t_Compiler_ok, n_Compiler, rfl, by decide +kernel⟩
theorem zf_Compiler_73 : mm_Fl "TensorForge$Compiler" 73 9 12 .int false := ⟨R_Compiler, F_Compiler, 17, t_Compiler, rfl, i_Compiler, by decide, mm_tb_1 387 (by decide +kernel) rfl, rfl, t_Compiler_ok, n_Compiler, rfl, by decide +kernel⟩
theorem zf_Compiler_76 : mm_Fl "TensorForge$Compiler" 76 9 7 .int false := ⟨R_Compiler, F_Compiler, 17, t_Compiler, rfl, i_Compiler, by decide, mm_tb_1 382 (by decide +kernel) rfl, rfl, t_Compiler_ok, n_Compiler, rfl, by decide +kernel⟩
theorem zf_Compiler_79 : mm_Fl "TensorForge$Compiler" 79 2 12 .int false := ⟨R_Layer, F_Layer, 15, t_Layer, rfl, i_Layer, by decide, mm_tb_1 103 (by decide +kernel) rfl, rfl, t_Layer_ok, n_Layer, rfl, by decide +kernel⟩
abbrev zy_makeWaits_3_12 : mm_Y := (⟨"TensorForge$Compiler", "makeWaits", "()V"⟩, prog_3_method_12_code, 5, none)
theorem zyw_makeWaits_3_12 : mm_Yw zy_makeWaits_3_12 0 := ⟨mm_tb_1 1479 (by decide +kernel) rfl, mm_tb_1 10 (by decide +kernel) rfl, ⟨by decide, by decide⟩, by decide +kernel⟩
theorem zk_Compiler_132 : mm_Sl "TensorForge$Compiler" 132 2 zy_bits_12_4 := ⟨zyw_bits_12_4, mm_tb_1 1435 (by decide +kernel) rfl, mm_tb_1 647 (by decide +kernel) rfl⟩
abbrev zy_flag_12_5 : mm_Y := (⟨"TensorForge$Words", "flag", "(I)J"⟩, prog_12_method_5_code, 1, (some .long))
theorem zyw_flag_12_5 : mm_Yw zy_flag_12_5 1 := ⟨mm_tb_1 1469 (by decide +kernel) rfl, mm_tb_1 20 (by decide +kernel) rfl, ⟨by decide, by decide⟩, by decide +kernel⟩
theorem zk_Words_20 : mm_Sl "TensorForge$Words" 20 2 zy_bits_12_4 := ⟨zyw_bits_12_4, mm_tb_1 1470 (by decide +kernel) rfl, mm_tb_1 647 (by decide +kernel) rfl⟩
theorem zg_1_23_18 : zq_at zy_compile_1_23.2.1 18 4 ∧ zq_at zy_compile_1_23.2.1 19 60 ∧ zq_at zy_compile_1_23.2.1 20 27 ∧ zq_at zy_compile_1_23.2.1 21 42 ∧ zq_at zy_compile_1_23.2.1 22 180 ∧ zq_at zy_compile_1_23.2.1 23 0 ∧ zq_at zy_compile_1_23.2.1 24 10 ∧ zq_at zy_compile_1_23.2.1 25 180 ∧ zq_at zy_compile_1_23.2.1 26 1 ∧ zq_at zy_compile_1_23.2.1 27 22 ∧ zq_at zy_compile_1_23.2.1 28 162 ∧ zq_at zy_compile_1_23.2.1 29 0 ∧ zq_at zy_compile_1_23.2.1 30 21 ∧ zq_at zy_compile_1_23.2.1 49 42 ∧ zq_at zy_compile_1_23.2.1 50 180 ∧ zq_at zy_compile_1_23.2.1 51 0 ∧ zq_at zy_compile_1_23.2.1 52 76 ∧ zq_at zy_compile_1_23.2.1 53 180 ∧ zq_at zy_compile_1_23.2.1 54 1 ∧ zq_at zy_compile_1_23.2.1 55 29 ∧ zq_at zy_compile_1_23.2.1 56 17 ∧ zq_at zy_compile_1_23.2.1 57 2 ∧ zq_at zy_compile_1_23.2.1 58 88 := by decide +kernel
theorem zd_1_23_18 : zz_D zy_compile_1_23 18 (.iconst 1) 1 19 := ⟨zq_4 zg_1_23_18.1, rfl⟩
theorem zd_1_23_19 : zz_D zy_compile_1_23 19 (.istore_n 1) 1 20 := ⟨zq_60 zg_1_23_18.2.1, rfl⟩
theorem zd_1_23_20 : zz_D zy_compile_1_23 20 (.iload_n 1) 1 21 := ⟨zq_27 zg_1_23_18.2.2.1, rfl⟩
theorem zd_1_23_21 : zz_D zy_compile_1_23 21 (.aload_n 0) 1 22 := ⟨zq_42 zg_1_23_18.2.2.2.1, rfl⟩
theorem zd_1_23_22 : zz_D zy_compile_1_23 22 (.getfield 10) 3 25 := ⟨zq_180 zg_1_23_18.2.2.2.2.1 zg_1_23_18.2.2.2.2.2.1 zg_1_23_18.2.2.2.2.2.2.1 rfl, rfl⟩
theorem zd_1_23_25 : zz_D zy_compile_1_23 25 (.getfield 278) 3 28 := ⟨zq_180 zg_1_23_18.2.2.2.2.2.2.2.1 zg_1_23_18.2.2.2.2.2.2.2.2.1 zg_1_23_18.2.2.2.2.2.2.2.2.2.1 rfl, rfl⟩
theorem zd_1_23_28 : zz_B zy_compile_1_23 28 (Instr.if_icmp .ge) 49 31 := ⟨21, zq_162 zg_1_23_18.2.2.2.2.2.2.2.2.2.2.1 zg_1_23_18.2.2.2.2.2.2.2.2.2.2.2.1 zg_1_23_18.2.2.2.2.2.2.2.2.2.2.2.2.1 (by decide), rfl, rfl⟩
theorem zd_1_23_49 : zz_D zy_compile_1_23 49 (.aload_n 0) 1 50 := ⟨zq_42 zg_1_23_18.2.2.2.2.2.2.2.2.2.2.2.2.2.1, rfl⟩
theorem zd_1_23_50 : zz_D zy_compile_1_23 50 (.getfield 76) 3 53 := ⟨zq_180 zg_1_23_18.2.2.2.2.2.2.2.2.2.2.2.2.2.2.1 zg_1_23_18.2.2.2.2.2.2.2.2.2.2.2.2.2.2.2.1 zg_1_23_18.2.2.2.2.2.2.2.2.2.2.2.2.2.2.2.2.1 rfl, rfl⟩
theorem zd_1_23_53 : zz_D zy_compile_1_23 53 (.getfield 285) 3 56 := ⟨zq_180 zg_1_23_18.2.2.2.2.2.2.2.2.2.2.2.2.2.2.2.2.2.1 zg_1_23_18.2.2.2.2.2.2.2.2.2.2.2.2.2.2.2.2.2.2.1 zg_1_23_18.2.2.2.2.2.2.2.2.2.2.2.2.2.2.2.2.2.2.2.1 rfl, rfl⟩
theorem zd_1_23_56 : zz_D zy_compile_1_23 56 (.sipush 600) 3 59 := ⟨zq_17 zg_1_23_18.2.2.2.2.2.2.2.2.2.2.2.2.2.2.2.2.2.2.2.2.1 zg_1_23_18.2.2.2.2.2.2.2.2.2.2.2.2.2.2.2.2.2.2.2.2.2.1 zg_1_23_18.2.2.2.2.2.2.2.2.2.2.2.2.2.2.2.2.2.2.2.2.2.2 (by decide), rfl⟩
theorem zg_1_23_59 : zq_at zy_compile_1_23.2.1 59 164 ∧ zq_at zy_compile_1_23.2.1 60 0 ∧ zq_at zy_compile_1_23.2.1 61 14 ∧ zq_at zy_compile_1_23.2.1 73 42 ∧ zq_at zy_compile_1_23.2.1 74 42 ∧ zq_at zy_compile_1_23.2.1 75 180 ∧ zq_at zy_compile_1_23.2.1 76 0 ∧ zq_at zy_compile_1_23.2.1 77 76 ∧ zq_at zy_compile_1_23.2.1 78 180 ∧ zq_at zy_compile_1_23.2.1 79 1 ∧ zq_at zy_compile_1_23.2.1 80 29 ∧ zq_at zy_compile_1_23.2.1 81 182 ∧ zq_at zy_compile_1_23.2.1 82 0 ∧ zq_at zy_compile_1_23.2.1 83 169 ∧ zq_at zy_compile_1_23.2.1 84 42 ∧ zq_at zy_compile_1_23.2.1 85 180 ∧ zq_at zy_compile_1_23.2.1 86 0 ∧ zq_at zy_compile_1_23.2.1 87 26 ∧ zq_at zy_compile_1_23.2.1 88 172 ∧ zq_at zy_compile_1_23.2.1 31 42 ∧ zq_at zy_compile_1_23.2.1 32 180 ∧ zq_at zy_compile_1_23.2.1 33 0 ∧ zq_at zy_compile_1_23.2.1 34 76 ∧ zq_at zy_compile_1_23.2.1 35 42 := by decide +kernel
theorem zd_1_23_59 : zz_B zy_compile_1_23 59 (Instr.if_icmp .le) 73 62 := ⟨14, zq_164 zg_1_23_59.1 zg_1_23_59.2.1 zg_1_23_59.2.2.1 (by decide), rfl, rfl⟩
theorem zd_1_23_73 : zz_D zy_compile_1_23 73 (.aload_n 0) 1 74 := ⟨zq_42 zg_1_23_59.2.2.2.1, rfl⟩
theorem zd_1_23_74 : zz_D zy_compile_1_23 74 (.aload_n 0) 1 75 := ⟨zq_42 zg_1_23_59.2.2.2.2.1, rfl⟩
theorem zd_1_23_75 : zz_D zy_compile_1_23 75 (.getfield 76) 3 78 := ⟨zq_180 zg_1_23_59.2.2.2.2.2.1 zg_1_23_59.2.2.2.2.2.2.1 zg_1_23_59.2.2.2.2.2.2.2.1 rfl, rfl⟩
theorem zd_1_23_78 : zz_D zy_compile_1_23 78 (.getfield 285) 3 81 := ⟨zq_180 zg_1_23_59.2.2.2.2.2.2.2.2.1 zg_1_23_59.2.2.2.2.2.2.2.2.2.1 zg_1_23_59.2.2.2.2.2.2.2.2.2.2.1 rfl, rfl⟩
theorem zd_1_23_81 : zz_D zy_compile_1_23 81 (.invokevirtual 169) 3 84 := ⟨zq_182 zg_1_23_59.2.2.2.2.2.2.2.2.2.2.2.1 zg_1_23_59.2.2.2.2.2.2.2.2.2.2.2.2.1 zg_1_23_59.2.2.2.2.2.2.2.2.2.2.2.2.2.1 rfl, rfl⟩
theorem zd_1_23_84 : zz_D zy_compile_1_23 84 (.aload_n 0) 1 85 := ⟨zq_42 zg_1_23_59.2.2.2.2.2.2.2.2.2.2.2.2.2.2.1, rfl⟩
theorem zd_1_23_85 : zz_D zy_compile_1_23 85 (.getfield 26) 3 88 := ⟨zq_180 zg_1_23_59.2.2.2.2.2.2.2.2.2.2.2.2.2.2.2.1 zg_1_23_59.2.2.2.2.2.2.2.2.2.2.2.2.2.2.2.2.1 zg_1_23_59.2.2.2.2.2.2.2.2.2.2.2.2.2.2.2.2.2.1 rfl, rfl⟩
theorem zd_1_23_88 : zz_D zy_compile_1_23 88 (.ireturn) 1 89 := ⟨zq_172 zg_1_23_59.2.2.2.2.2.2.2.2.2.2.2.2.2.2.2.2.2.2.1, rfl⟩
theorem zd_1_23_31 : zz_D zy_compile_1_23 31 (.aload_n 0) 1 32 := ⟨zq_42 zg_1_23_59.2.2.2.2.2.2.2.2.2.2.2.2.2.2.2.2.2.2.2.1, rfl⟩
theorem zd_1_23_32 : zz_D zy_compile_1_23 32 (.getfield 76) 3 35 := ⟨zq_180 zg_1_23_59.2.2.2.2.2.2.2.2.2.2.2.2.2.2.2.2.2.2.2.2.1 zg_1_23_59.2.2.2.2.2.2.2.2.2.2.2.2.2.2.2.2.2.2.2.2.2.1 zg_1_23_59.2.2.2.2.2.2.2.2.2.2.2.2.2.2.2.2.2.2.2.2.2.2.1 rfl, rfl⟩
theorem zd_1_23_35 : zz_D zy_compile_1_23 35 (.aload_n 0) 1 36 := ⟨zq_42 zg_1_23_59.2.2.2.2.2.2.2.2.2.2.2.2.2.2.2.2.2.2.2.2.2.2.2, rfl⟩
theorem zg_1_23_36 : zq_at zy_compile_1_23.2.1 36 180 ∧ zq_at zy_compile_1_23.2.1 37 0 ∧ zq_at zy_compile_1_23.2.1 38 10 ∧ zq_at zy_compile_1_23.2.1 39 27 ∧ zq_at zy_compile_1_23.2.1 40 182 ∧ zq_at zy_compile_1_23.2.1 41 1 ∧ zq_at zy_compile_1_23.2.1 42 25 := by decide +kernel
theorem zd_1_23_36 : zz_D zy_compile_1_23 36 (.getfield 10) 3 39 := ⟨zq_180 zg_1_23_36.1 zg_1_23_36.2.1 zg_1_23_36.2.2.1 rfl, rfl⟩
theorem zd_1_23_39 : zz_D zy_compile_1_23 39 (.iload_n 1) 1 40 := ⟨zq_27 zg_1_23_36.2.2.2.1, rfl⟩
theorem zd_1_23_40 : zz_D zy_compile_1_23 40 (.invokevirtual 281) 3 43 := ⟨zq_182 zg_1_23_36.2.2.2.2.1 zg_1_23_36.2.2.2.2.2.1 zg_1_23_36.2.2.2.2.2.2 rfl, rfl⟩
theorem zg_3_3_0 : zq_at zy_makeLayer_3_3.2.1 0 43 ∧ zq_at zy_makeLayer_3_3.2.1 1 28 ∧ zq_at zy_makeLayer_3_3.2.1 2 182 ∧ zq_at zy_makeLayer_3_3.2.1 3 0 ∧ zq_at zy_makeLayer_3_3.2.1 4 33 ∧ zq_at zy_makeLayer_3_3.2.1 5 153 ∧ zq_at zy_makeLayer_3_3.2.1 6 0 ∧ zq_at zy_makeLayer_3_3.2.1 7 35 ∧ zq_at zy_makeLayer_3_3.2.1 40 177 ∧ zq_at zy_makeLayer_3_3.2.1 8 43 ∧ zq_at zy_makeLayer_3_3.2.1 9 43 ∧ zq_at zy_makeLayer_3_3.2.1 10 180 ∧ zq_at zy_makeLayer_3_3.2.1 11 0 ∧ zq_at zy_makeLayer_3_3.2.1 12 39 ∧ zq_at zy_makeLayer_3_3.2.1 13 28 ∧ zq_at zy_makeLayer_3_3.2.1 14 50 ∧ zq_at zy_makeLayer_3_3.2.1 15 180 ∧ zq_at zy_makeLayer_3_3.2.1 16 0 ∧ zq_at zy_makeLayer_3_3.2.1 17 43 ∧ zq_at zy_makeLayer_3_3.2.1 18 182 ∧ zq_at zy_makeLayer_3_3.2.1 19 0 ∧ zq_at zy_makeLayer_3_3.2.1 20 33 := by decide +kernel
theorem zd_3_3_0 : zz_D zy_makeLayer_3_3 0 (.aload_n 1) 1 1 := ⟨zq_43 zg_3_3_0.1, rfl⟩
theorem zd_3_3_1 : zz_D zy_makeLayer_3_3 1 (.iload_n 2) 1 2 := ⟨zq_28 zg_3_3_0.2.1, rfl⟩
theorem zd_3_3_2 : zz_D zy_makeLayer_3_3 2 (.invokevirtual 33) 3 5 := ⟨zq_182 zg_3_3_0.2.2.1 zg_3_3_0.2.2.2.1 zg_3_3_0.2.2.2.2.1 rfl, rfl⟩
theorem zd_3_3_5 : zz_B zy_makeLayer_3_3 5 (Instr.ifCond .eq) 40 8 := ⟨35, zq_153 zg_3_3_0.2.2.2.2.2.1 zg_3_3_0.2.2.2.2.2.2.1 zg_3_3_0.2.2.2.2.2.2.2.1 (by decide), rfl, rfl⟩
theorem zd_3_3_40 : zz_D zy_makeLayer_3_3 40 (.return_) 1 41 := ⟨zq_177 zg_3_3_0.2.2.2.2.2.2.2.2.1, rfl⟩
theorem zd_3_3_8 : zz_D zy_makeLayer_3_3 8 (.aload_n 1) 1 9 := ⟨zq_43 zg_3_3_0.2.2.2.2.2.2.2.2.2.1, rfl⟩
theorem zd_3_3_9 : zz_D zy_makeLayer_3_3 9 (.aload_n 1) 1 10 := ⟨zq_43 zg_3_3_0.2.2.2.2.2.2.2.2.2.2.1, rfl⟩
theorem zd_3_3_10 : zz_D zy_makeLayer_3_3 10 (.getfield 39) 3 13 := ⟨zq_180 zg_3_3_0.2.2.2.2.2.2.2.2.2.2.2.1 zg_3_3_0.2.2.2.2.2.2.2.2.2.2.2.2.1 zg_3_3_0.2.2.2.2.2.2.2.2.2.2.2.2.2.1 rfl, rfl⟩
theorem zd_3_3_13 : zz_D zy_makeLayer_3_3 13 (.iload_n 2) 1 14 := ⟨zq_28 zg_3_3_0.2.2.2.2.2.2.2.2.2.2.2.2.2.2.1, rfl⟩
theorem zd_3_3_14 : zz_D zy_makeLayer_3_3 14 (.aaload) 1 15 := ⟨zq_50 zg_3_3_0.2.2.2.2.2.2.2.2.2.2.2.2.2.2.2.1, rfl⟩
theorem zd_3_3_15 : zz_D zy_makeLayer_3_3 15 (.getfield 43) 3 18 := ⟨zq_180 zg_3_3_0.2.2.2.2.2.2.2.2.2.2.2.2.2.2.2.2.1 zg_3_3_0.2.2.2.2.2.2.2.2.2.2.2.2.2.2.2.2.2.1 zg_3_3_0.2.2.2.2.2.2.2.2.2.2.2.2.2.2.2.2.2.2.1 rfl, rfl⟩
theorem zd_3_3_18 : zz_D zy_makeLayer_3_3 18 (.invokevirtual 33) 3 21 := ⟨zq_182 zg_3_3_0.2.2.2.2.2.2.2.2.2.2.2.2.2.2.2.2.2.2.2.1 zg_3_3_0.2.2.2.2.2.2.2.2.2.2.2.2.2.2.2.2.2.2.2.2.1 zg_3_3_0.2.2.2.2.2.2.2.2.2.2.2.2.2.2.2.2.2.2.2.2.2 rfl, rfl⟩
theorem zg_3_3_21 : zq_at zy_makeLayer_3_3.2.1 21 153 ∧ zq_at zy_makeLayer_3_3.2.1 22 0 ∧ zq_at zy_makeLayer_3_3.2.1 23 19 ∧ zq_at zy_makeLayer_3_3.2.1 24 43 ∧ zq_at zy_makeLayer_3_3.2.1 25 43 ∧ zq_at zy_makeLayer_3_3.2.1 26 180 ∧ zq_at zy_makeLayer_3_3.2.1 27 0 ∧ zq_at zy_makeLayer_3_3.2.1 28 39 ∧ zq_at zy_makeLayer_3_3.2.1 29 28 ∧ zq_at zy_makeLayer_3_3.2.1 30 50 ∧ zq_at zy_makeLayer_3_3.2.1 31 180 ∧ zq_at zy_makeLayer_3_3.2.1 32 0 ∧ zq_at zy_makeLayer_3_3.2.1 33 48 ∧ zq_at zy_makeLayer_3_3.2.1 34 182 ∧ zq_at zy_makeLayer_3_3.2.1 35 0 ∧ zq_at zy_makeLayer_3_3.2.1 36 33 ∧ zq_at zy_makeLayer_3_3.2.1 37 154 ∧ zq_at zy_makeLayer_3_3.2.1 38 0 ∧ zq_at zy_makeLayer_3_3.2.1 39 4 ∧ zq_at zy_makeLayer_3_3.2.1 41 42 ∧ zq_at zy_makeLayer_3_3.2.1 42 43 ∧ zq_at zy_makeLayer_3_3.2.1 43 180 ∧ zq_at zy_makeLayer_3_3.2.1 44 0 ∧ zq_at zy_makeLayer_3_3.2.1 45 39 := by decide +kernel
theorem zd_3_3_21 : zz_B zy_makeLayer_3_3 21 (Instr.ifCond .eq) 40 24 := ⟨19, zq_153 zg_3_3_21.1 zg_3_3_21.2.1 zg_3_3_21.2.2.1 (by decide), rfl, rfl⟩
theorem zd_3_3_24 : zz_D zy_makeLayer_3_3 24 (.aload_n 1) 1 25 := ⟨zq_43 zg_3_3_21.2.2.2.1, rfl⟩
theorem zd_3_3_25 : zz_D zy_makeLayer_3_3 25 (.aload_n 1) 1 26 := ⟨zq_43 zg_3_3_21.2.2.2.2.1, rfl⟩
theorem zd_3_3_26 : zz_D zy_makeLayer_3_3 26 (.getfield 39) 3 29 := ⟨zq_180 zg_3_3_21.2.2.2.2.2.1 zg_3_3_21.2.2.2.2.2.2.1 zg_3_3_21.2.2.2.2.2.2.2.1 rfl, rfl⟩
theorem zd_3_3_29 : zz_D zy_makeLayer_3_3 29 (.iload_n 2) 1 30 := ⟨zq_28 zg_3_3_21.2.2.2.2.2.2.2.2.1, rfl⟩
theorem zd_3_3_30 : zz_D zy_makeLayer_3_3 30 (.aaload) 1 31 := ⟨zq_50 zg_3_3_21.2.2.2.2.2.2.2.2.2.1, rfl⟩
theorem zd_3_3_31 : zz_D zy_makeLayer_3_3 31 (.getfield 48) 3 34 := ⟨zq_180 zg_3_3_21.2.2.2.2.2.2.2.2.2.2.1 zg_3_3_21.2.2.2.2.2.2.2.2.2.2.2.1 zg_3_3_21.2.2.2.2.2.2.2.2.2.2.2.2.1 rfl, rfl⟩
theorem zd_3_3_34 : zz_D zy_makeLayer_3_3 34 (.invokevirtual 33) 3 37 := ⟨zq_182 zg_3_3_21.2.2.2.2.2.2.2.2.2.2.2.2.2.1 zg_3_3_21.2.2.2.2.2.2.2.2.2.2.2.2.2.2.1 zg_3_3_21.2.2.2.2.2.2.2.2.2.2.2.2.2.2.2.1 rfl, rfl⟩
theorem zd_3_3_37 : zz_B zy_makeLayer_3_3 37 (Instr.ifCond .ne) 41 40 := ⟨4, zq_154 zg_3_3_21.2.2.2.2.2.2.2.2.2.2.2.2.2.2.2.2.1 zg_3_3_21.2.2.2.2.2.2.2.2.2.2.2.2.2.2.2.2.2.1 zg_3_3_21.2.2.2.2.2.2.2.2.2.2.2.2.2.2.2.2.2.2.1 (by decide), rfl, rfl⟩
theorem zd_3_3_41 : zz_D zy_makeLayer_3_3 41 (.aload_n 0) 1 42 := ⟨zq_42 zg_3_3_21.2.2.2.2.2.2.2.2.2.2.2.2.2.2.2.2.2.2.2.1, rfl⟩
theorem zd_3_3_42 : zz_D zy_makeLayer_3_3 42 (.aload_n 1) 1 43 := ⟨zq_43 zg_3_3_21.2.2.2.2.2.2.2.2.2.2.2.2.2.2.2.2.2.2.2.2.1, rfl⟩
theorem zd_3_3_43 : zz_D zy_makeLayer_3_3 43 (.getfield 39) 3 46 := ⟨zq_180 zg_3_3_21.2.2.2.2.2.2.2.2.2.2.2.2.2.2.2.2.2.2.2.2.2.1 zg_3_3_21.2.2.2.2.2.2.2.2.2.2.2.2.2.2.2.2.2.2.2.2.2.2.1 zg_3_3_21.2.2.2.2.2.2.2.2.2.2.2.2.2.2.2.2.2.2.2.2.2.2.2 rfl, rfl⟩
theorem zg_3_3_46 : zq_at zy_makeLayer_3_3.2.1 46 28 ∧ zq_at zy_makeLayer_3_3.2.1 47 50 ∧ zq_at zy_makeLayer_3_3.2.1 48 181 ∧ zq_at zy_makeLayer_3_3.2.1 49 0 ∧ zq_at zy_makeLayer_3_3.2.1 50 51 ∧ zq_at zy_makeLayer_3_3.2.1 51 42 ∧ zq_at zy_makeLayer_3_3.2.1 52 43 ∧ zq_at zy_makeLayer_3_3.2.1 53 180 ∧ zq_at zy_makeLayer_3_3.2.1 54 0 ∧ zq_at zy_makeLayer_3_3.2.1 55 39 ∧ zq_at zy_makeLayer_3_3.2.1 56 42 ∧ zq_at zy_makeLayer_3_3.2.1 57 180 ∧ zq_at zy_makeLayer_3_3.2.1 58 0 ∧ zq_at zy_makeLayer_3_3.2.1 59 51 ∧ zq_at zy_makeLayer_3_3.2.1 60 180 ∧ zq_at zy_makeLayer_3_3.2.1 61 0 ∧ zq_at zy_makeLayer_3_3.2.1 62 43 ∧ zq_at zy_makeLayer_3_3.2.1 63 50 ∧ zq_at zy_makeLayer_3_3.2.1 64 181 ∧ zq_at zy_makeLayer_3_3.2.1 65 0 ∧ zq_at zy_makeLayer_3_3.2.1 66 55 ∧ zq_at zy_makeLayer_3_3.2.1 67 42 ∧ zq_at zy_makeLayer_3_3.2.1 68 43 := by decide +kernel
theorem zd_3_3_46 : zz_D zy_makeLayer_3_3 46 (.iload_n 2) 1 47 := ⟨zq_28 zg_3_3_46.1, rfl⟩
theorem zd_3_3_47 : zz_D zy_makeLayer_3_3 47 (.aaload) 1 48 := ⟨zq_50 zg_3_3_46.2.1, rfl⟩
theorem zd_3_3_48 : zz_D zy_makeLayer_3_3 48 (.putfield 51) 3 51 := ⟨zq_181 zg_3_3_46.2.2.1 zg_3_3_46.2.2.2.1 zg_3_3_46.2.2.2.2.1 rfl, rfl⟩
theorem zd_3_3_51 : zz_D zy_makeLayer_3_3 51 (.aload_n 0) 1 52 := ⟨zq_42 zg_3_3_46.2.2.2.2.2.1, rfl⟩
theorem zd_3_3_52 : zz_D zy_makeLayer_3_3 52 (.aload_n 1) 1 53 := ⟨zq_43 zg_3_3_46.2.2.2.2.2.2.1, rfl⟩
theorem zd_3_3_53 : zz_D zy_makeLayer_3_3 53 (.getfield 39) 3 56 := ⟨zq_180 zg_3_3_46.2.2.2.2.2.2.2.1 zg_3_3_46.2.2.2.2.2.2.2.2.1 zg_3_3_46.2.2.2.2.2.2.2.2.2.1 rfl, rfl⟩
theorem zd_3_3_56 : zz_D zy_makeLayer_3_3 56 (.aload_n 0) 1 57 := ⟨zq_42 zg_3_3_46.2.2.2.2.2.2.2.2.2.2.1, rfl⟩
theorem zd_3_3_57 : zz_D zy_makeLayer_3_3 57 (.getfield 51) 3 60 := ⟨zq_180 zg_3_3_46.2.2.2.2.2.2.2.2.2.2.2.1 zg_3_3_46.2.2.2.2.2.2.2.2.2.2.2.2.1 zg_3_3_46.2.2.2.2.2.2.2.2.2.2.2.2.2.1 rfl, rfl⟩
theorem zd_3_3_60 : zz_D zy_makeLayer_3_3 60 (.getfield 43) 3 63 := ⟨zq_180 zg_3_3_46.2.2.2.2.2.2.2.2.2.2.2.2.2.2.1 zg_3_3_46.2.2.2.2.2.2.2.2.2.2.2.2.2.2.2.1 zg_3_3_46.2.2.2.2.2.2.2.2.2.2.2.2.2.2.2.2.1 rfl, rfl⟩
theorem zd_3_3_63 : zz_D zy_makeLayer_3_3 63 (.aaload) 1 64 := ⟨zq_50 zg_3_3_46.2.2.2.2.2.2.2.2.2.2.2.2.2.2.2.2.2.1, rfl⟩
theorem zd_3_3_64 : zz_D zy_makeLayer_3_3 64 (.putfield 55) 3 67 := ⟨zq_181 zg_3_3_46.2.2.2.2.2.2.2.2.2.2.2.2.2.2.2.2.2.2.1 zg_3_3_46.2.2.2.2.2.2.2.2.2.2.2.2.2.2.2.2.2.2.2.1 zg_3_3_46.2.2.2.2.2.2.2.2.2.2.2.2.2.2.2.2.2.2.2.2.1 rfl, rfl⟩
theorem zd_3_3_67 : zz_D zy_makeLayer_3_3 67 (.aload_n 0) 1 68 := ⟨zq_42 zg_3_3_46.2.2.2.2.2.2.2.2.2.2.2.2.2.2.2.2.2.2.2.2.2.1, rfl⟩
theorem zd_3_3_68 : zz_D zy_makeLayer_3_3 68 (.aload_n 1) 1 69 := ⟨zq_43 zg_3_3_46.2.2.2.2.2.2.2.2.2.2.2.2.2.2.2.2.2.2.2.2.2.2, rfl⟩
theorem zg_3_3_69 : zq_at zy_makeLayer_3_3.2.1 69 180 ∧ zq_at zy_makeLayer_3_3.2.1 70 0 ∧ zq_at zy_makeLayer_3_3.2.1 71 39 ∧ zq_at zy_makeLayer_3_3.2.1 72 42 ∧ zq_at zy_makeLayer_3_3.2.1 73 180 ∧ zq_at zy_makeLayer_3_3.2.1 74 0 ∧ zq_at zy_makeLayer_3_3.2.1 75 51 ∧ zq_at zy_makeLayer_3_3.2.1 76 180 ∧ zq_at zy_makeLayer_3_3.2.1 77 0 ∧ zq_at zy_makeLayer_3_3.2.1 78 48 ∧ zq_at zy_makeLayer_3_3.2.1 79 50 ∧ zq_at zy_makeLayer_3_3.2.1 80 181 ∧ zq_at zy_makeLayer_3_3.2.1 81 0 ∧ zq_at zy_makeLayer_3_3.2.1 82 58 ∧ zq_at zy_makeLayer_3_3.2.1 83 42 ∧ zq_at zy_makeLayer_3_3.2.1 84 180 ∧ zq_at zy_makeLayer_3_3.2.1 85 0 ∧ zq_at zy_makeLayer_3_3.2.1 86 51 ∧ zq_at zy_makeLayer_3_3.2.1 87 180 ∧ zq_at zy_makeLayer_3_3.2.1 88 0 ∧ zq_at zy_makeLayer_3_3.2.1 89 61 ∧ zq_at zy_makeLayer_3_3.2.1 90 6 := by decide +kernel
theorem zd_3_3_69 : zz_D zy_makeLayer_3_3 69 (.getfield 39) 3 72 := ⟨zq_180 zg_3_3_69.1 zg_3_3_69.2.1 zg_3_3_69.2.2.1 rfl, rfl⟩
theorem zd_3_3_72 : zz_D zy_makeLayer_3_3 72 (.aload_n 0) 1 73 := ⟨zq_42 zg_3_3_69.2.2.2.1, rfl⟩
theorem zd_3_3_73 : zz_D zy_makeLayer_3_3 73 (.getfield 51) 3 76 := ⟨zq_180 zg_3_3_69.2.2.2.2.1 zg_3_3_69.2.2.2.2.2.1 zg_3_3_69.2.2.2.2.2.2.1 rfl, rfl⟩
theorem zd_3_3_76 : zz_D zy_makeLayer_3_3 76 (.getfield 48) 3 79 := ⟨zq_180 zg_3_3_69.2.2.2.2.2.2.2.1 zg_3_3_69.2.2.2.2.2.2.2.2.1 zg_3_3_69.2.2.2.2.2.2.2.2.2.1 rfl, rfl⟩
theorem zd_3_3_79 : zz_D zy_makeLayer_3_3 79 (.aaload) 1 80 := ⟨zq_50 zg_3_3_69.2.2.2.2.2.2.2.2.2.2.1, rfl⟩
theorem zd_3_3_80 : zz_D zy_makeLayer_3_3 80 (.putfield 58) 3 83 := ⟨zq_181 zg_3_3_69.2.2.2.2.2.2.2.2.2.2.2.1 zg_3_3_69.2.2.2.2.2.2.2.2.2.2.2.2.1 zg_3_3_69.2.2.2.2.2.2.2.2.2.2.2.2.2.1 rfl, rfl⟩
theorem zd_3_3_83 : zz_D zy_makeLayer_3_3 83 (.aload_n 0) 1 84 := ⟨zq_42 zg_3_3_69.2.2.2.2.2.2.2.2.2.2.2.2.2.2.1, rfl⟩
theorem zd_3_3_84 : zz_D zy_makeLayer_3_3 84 (.getfield 51) 3 87 := ⟨zq_180 zg_3_3_69.2.2.2.2.2.2.2.2.2.2.2.2.2.2.2.1 zg_3_3_69.2.2.2.2.2.2.2.2.2.2.2.2.2.2.2.2.1 zg_3_3_69.2.2.2.2.2.2.2.2.2.2.2.2.2.2.2.2.2.1 rfl, rfl⟩
theorem zd_3_3_87 : zz_D zy_makeLayer_3_3 87 (.getfield 61) 3 90 := ⟨zq_180 zg_3_3_69.2.2.2.2.2.2.2.2.2.2.2.2.2.2.2.2.2.2.1 zg_3_3_69.2.2.2.2.2.2.2.2.2.2.2.2.2.2.2.2.2.2.2.1 zg_3_3_69.2.2.2.2.2.2.2.2.2.2.2.2.2.2.2.2.2.2.2.2.1 rfl, rfl⟩
theorem zd_3_3_90 : zz_D zy_makeLayer_3_3 90 (.iconst 3) 1 91 := ⟨zq_6 zg_3_3_69.2.2.2.2.2.2.2.2.2.2.2.2.2.2.2.2.2.2.2.2.2, rfl⟩
theorem zg_3_3_91 : zq_at zy_makeLayer_3_3.2.1 91 160 ∧ zq_at zy_makeLayer_3_3.2.1 92 0 ∧ zq_at zy_makeLayer_3_3.2.1 93 7 ∧ zq_at zy_makeLayer_3_3.2.1 98 3 ∧ zq_at zy_makeLayer_3_3.2.1 99 62 ∧ zq_at zy_makeLayer_3_3.2.1 100 29 ∧ zq_at zy_makeLayer_3_3.2.1 101 153 ∧ zq_at zy_makeLayer_3_3.2.1 102 0 ∧ zq_at zy_makeLayer_3_3.2.1 103 7 ∧ zq_at zy_makeLayer_3_3.2.1 108 42 ∧ zq_at zy_makeLayer_3_3.2.1 109 180 ∧ zq_at zy_makeLayer_3_3.2.1 110 0 ∧ zq_at zy_makeLayer_3_3.2.1 111 51 ∧ zq_at zy_makeLayer_3_3.2.1 112 180 ∧ zq_at zy_makeLayer_3_3.2.1 113 0 ∧ zq_at zy_makeLayer_3_3.2.1 114 64 ∧ zq_at zy_makeLayer_3_3.2.1 115 54 ∧ zq_at zy_makeLayer_3_3.2.1 116 4 ∧ zq_at zy_makeLayer_3_3.2.1 117 29 ∧ zq_at zy_makeLayer_3_3.2.1 118 153 ∧ zq_at zy_makeLayer_3_3.2.1 119 0 ∧ zq_at zy_makeLayer_3_3.2.1 120 21 ∧ zq_at zy_makeLayer_3_3.2.1 139 42 := by decide +kernel
theorem zd_3_3_91 : zz_B zy_makeLayer_3_3 91 (Instr.if_icmp .ne) 98 94 := ⟨7, zq_160 zg_3_3_91.1 zg_3_3_91.2.1 zg_3_3_91.2.2.1 (by decide), rfl, rfl⟩
theorem zd_3_3_98 : zz_D zy_makeLayer_3_3 98 (.iconst 0) 1 99 := ⟨zq_3 zg_3_3_91.2.2.2.1, rfl⟩
theorem zd_3_3_99 : zz_D zy_makeLayer_3_3 99 (.istore_n 3) 1 100 := ⟨zq_62 zg_3_3_91.2.2.2.2.1, rfl⟩
theorem zd_3_3_100 : zz_D zy_makeLayer_3_3 100 (.iload_n 3) 1 101 := ⟨zq_29 zg_3_3_91.2.2.2.2.2.1, rfl⟩
theorem zd_3_3_101 : zz_B zy_makeLayer_3_3 101 (Instr.ifCond .eq) 108 104 := ⟨7, zq_153 zg_3_3_91.2.2.2.2.2.2.1 zg_3_3_91.2.2.2.2.2.2.2.1 zg_3_3_91.2.2.2.2.2.2.2.2.1 (by decide), rfl, rfl⟩
theorem zd_3_3_108 : zz_D zy_makeLayer_3_3 108 (.aload_n 0) 1 109 := ⟨zq_42 zg_3_3_91.2.2.2.2.2.2.2.2.2.1, rfl⟩
theorem zd_3_3_109 : zz_D zy_makeLayer_3_3 109 (.getfield 51) 3 112 := ⟨zq_180 zg_3_3_91.2.2.2.2.2.2.2.2.2.2.1 zg_3_3_91.2.2.2.2.2.2.2.2.2.2.2.1 zg_3_3_91.2.2.2.2.2.2.2.2.2.2.2.2.1 rfl, rfl⟩
theorem zd_3_3_112 : zz_D zy_makeLayer_3_3 112 (.getfield 64) 3 115 := ⟨zq_180 zg_3_3_91.2.2.2.2.2.2.2.2.2.2.2.2.2.1 zg_3_3_91.2.2.2.2.2.2.2.2.2.2.2.2.2.2.1 zg_3_3_91.2.2.2.2.2.2.2.2.2.2.2.2.2.2.2.1 rfl, rfl⟩
theorem zd_3_3_115 : zz_D zy_makeLayer_3_3 115 (.istore 4) 2 117 := ⟨zq_54 zg_3_3_91.2.2.2.2.2.2.2.2.2.2.2.2.2.2.2.2.1 zg_3_3_91.2.2.2.2.2.2.2.2.2.2.2.2.2.2.2.2.2.1, rfl⟩
theorem zd_3_3_117 : zz_D zy_makeLayer_3_3 117 (.iload_n 3) 1 118 := ⟨zq_29 zg_3_3_91.2.2.2.2.2.2.2.2.2.2.2.2.2.2.2.2.2.2.1, rfl⟩
theorem zd_3_3_118 : zz_B zy_makeLayer_3_3 118 (Instr.ifCond .eq) 139 121 := ⟨21, zq_153 zg_3_3_91.2.2.2.2.2.2.2.2.2.2.2.2.2.2.2.2.2.2.2.1 zg_3_3_91.2.2.2.2.2.2.2.2.2.2.2.2.2.2.2.2.2.2.2.2.1 zg_3_3_91.2.2.2.2.2.2.2.2.2.2.2.2.2.2.2.2.2.2.2.2.2.1 (by decide), rfl, rfl⟩
theorem zd_3_3_139 : zz_D zy_makeLayer_3_3 139 (.aload_n 0) 1 140 := ⟨zq_42 zg_3_3_91.2.2.2.2.2.2.2.2.2.2.2.2.2.2.2.2.2.2.2.2.2.2, rfl⟩
theorem zg_3_3_140 : zq_at zy_makeLayer_3_3.2.1 140 180 ∧ zq_at zy_makeLayer_3_3.2.1 141 0 ∧ zq_at zy_makeLayer_3_3.2.1 142 51 ∧ zq_at zy_makeLayer_3_3.2.1 143 180 ∧ zq_at zy_makeLayer_3_3.2.1 144 0 ∧ zq_at zy_makeLayer_3_3.2.1 145 67 ∧ zq_at zy_makeLayer_3_3.2.1 146 54 ∧ zq_at zy_makeLayer_3_3.2.1 147 5 ∧ zq_at zy_makeLayer_3_3.2.1 148 17 ∧ zq_at zy_makeLayer_3_3.2.1 149 0 ∧ zq_at zy_makeLayer_3_3.2.1 150 128 ∧ zq_at zy_makeLayer_3_3.2.1 151 42 ∧ zq_at zy_makeLayer_3_3.2.1 152 180 ∧ zq_at zy_makeLayer_3_3.2.1 153 0 ∧ zq_at zy_makeLayer_3_3.2.1 154 21 ∧ zq_at zy_makeLayer_3_3.2.1 155 108 ∧ zq_at zy_makeLayer_3_3.2.1 156 16 ∧ zq_at zy_makeLayer_3_3.2.1 157 63 ∧ zq_at zy_makeLayer_3_3.2.1 158 184 ∧ zq_at zy_makeLayer_3_3.2.1 159 0 ∧ zq_at zy_makeLayer_3_3.2.1 160 24 ∧ zq_at zy_makeLayer_3_3.2.1 161 54 ∧ zq_at zy_makeLayer_3_3.2.1 162 6 ∧ zq_at zy_makeLayer_3_3.2.1 163 42 := by decide +kernel
theorem zd_3_3_140 : zz_D zy_makeLayer_3_3 140 (.getfield 51) 3 143 := ⟨zq_180 zg_3_3_140.1 zg_3_3_140.2.1 zg_3_3_140.2.2.1 rfl, rfl⟩
theorem zd_3_3_143 : zz_D zy_makeLayer_3_3 143 (.getfield 67) 3 146 := ⟨zq_180 zg_3_3_140.2.2.2.1 zg_3_3_140.2.2.2.2.1 zg_3_3_140.2.2.2.2.2.1 rfl, rfl⟩
theorem zd_3_3_146 : zz_D zy_makeLayer_3_3 146 (.istore 5) 2 148 := ⟨zq_54 zg_3_3_140.2.2.2.2.2.2.1 zg_3_3_140.2.2.2.2.2.2.2.1, rfl⟩
theorem zd_3_3_148 : zz_D zy_makeLayer_3_3 148 (.sipush 128) 3 151 := ⟨zq_17 zg_3_3_140.2.2.2.2.2.2.2.2.1 zg_3_3_140.2.2.2.2.2.2.2.2.2.1 zg_3_3_140.2.2.2.2.2.2.2.2.2.2.1 (by decide), rfl⟩
theorem zd_3_3_151 : zz_D zy_makeLayer_3_3 151 (.aload_n 0) 1 152 := ⟨zq_42 zg_3_3_140.2.2.2.2.2.2.2.2.2.2.2.1, rfl⟩
theorem zd_3_3_152 : zz_D zy_makeLayer_3_3 152 (.getfield 21) 3 155 := ⟨zq_180 zg_3_3_140.2.2.2.2.2.2.2.2.2.2.2.2.1 zg_3_3_140.2.2.2.2.2.2.2.2.2.2.2.2.2.1 zg_3_3_140.2.2.2.2.2.2.2.2.2.2.2.2.2.2.1 rfl, rfl⟩
theorem zd_3_3_155 : zz_D zy_makeLayer_3_3 155 (.idiv) 1 156 := ⟨zq_108 zg_3_3_140.2.2.2.2.2.2.2.2.2.2.2.2.2.2.2.1, rfl⟩
theorem zd_3_3_156 : zz_D zy_makeLayer_3_3 156 (.bipush 63) 2 158 := ⟨zq_16 zg_3_3_140.2.2.2.2.2.2.2.2.2.2.2.2.2.2.2.2.1 zg_3_3_140.2.2.2.2.2.2.2.2.2.2.2.2.2.2.2.2.2.1 (by decide), rfl⟩
theorem zd_3_3_158 : zz_D zy_makeLayer_3_3 158 (.invokestatic 24) 3 161 := ⟨zq_184 zg_3_3_140.2.2.2.2.2.2.2.2.2.2.2.2.2.2.2.2.2.2.1 zg_3_3_140.2.2.2.2.2.2.2.2.2.2.2.2.2.2.2.2.2.2.2.1 zg_3_3_140.2.2.2.2.2.2.2.2.2.2.2.2.2.2.2.2.2.2.2.2.1 rfl, rfl⟩
theorem zd_3_3_161 : zz_D zy_makeLayer_3_3 161 (.istore 6) 2 163 := ⟨zq_54 zg_3_3_140.2.2.2.2.2.2.2.2.2.2.2.2.2.2.2.2.2.2.2.2.2.1 zg_3_3_140.2.2.2.2.2.2.2.2.2.2.2.2.2.2.2.2.2.2.2.2.2.2.1, rfl⟩
theorem zd_3_3_163 : zz_D zy_makeLayer_3_3 163 (.aload_n 0) 1 164 := ⟨zq_42 zg_3_3_140.2.2.2.2.2.2.2.2.2.2.2.2.2.2.2.2.2.2.2.2.2.2.2, rfl⟩
theorem zg_3_3_164 : zq_at zy_makeLayer_3_3.2.1 164 3 ∧ zq_at zy_makeLayer_3_3.2.1 165 181 ∧ zq_at zy_makeLayer_3_3.2.1 166 0 ∧ zq_at zy_makeLayer_3_3.2.1 167 70 ∧ zq_at zy_makeLayer_3_3.2.1 168 42 ∧ zq_at zy_makeLayer_3_3.2.1 169 3 ∧ zq_at zy_makeLayer_3_3.2.1 170 181 ∧ zq_at zy_makeLayer_3_3.2.1 171 0 ∧ zq_at zy_makeLayer_3_3.2.1 172 73 ∧ zq_at zy_makeLayer_3_3.2.1 173 42 ∧ zq_at zy_makeLayer_3_3.2.1 174 3 ∧ zq_at zy_makeLayer_3_3.2.1 175 181 ∧ zq_at zy_makeLayer_3_3.2.1 176 0 ∧ zq_at zy_makeLayer_3_3.2.1 177 76 ∧ zq_at zy_makeLayer_3_3.2.1 94 4 ∧ zq_at zy_makeLayer_3_3.2.1 95 167 ∧ zq_at zy_makeLayer_3_3.2.1 96 0 ∧ zq_at zy_makeLayer_3_3.2.1 97 4 ∧ zq_at zy_makeLayer_3_3.2.1 104 4 ∧ zq_at zy_makeLayer_3_3.2.1 105 167 ∧ zq_at zy_makeLayer_3_3.2.1 106 0 ∧ zq_at zy_makeLayer_3_3.2.1 107 10 ∧ zq_at zy_makeLayer_3_3.2.1 121 42 := by decide +kernel
theorem zd_3_3_164 : zz_D zy_makeLayer_3_3 164 (.iconst 0) 1 165 := ⟨zq_3 zg_3_3_164.1, rfl⟩
theorem zd_3_3_165 : zz_D zy_makeLayer_3_3 165 (.putfield 70) 3 168 := ⟨zq_181 zg_3_3_164.2.1 zg_3_3_164.2.2.1 zg_3_3_164.2.2.2.1 rfl, rfl⟩
theorem zd_3_3_168 : zz_D zy_makeLayer_3_3 168 (.aload_n 0) 1 169 := ⟨zq_42 zg_3_3_164.2.2.2.2.1, rfl⟩
theorem zd_3_3_169 : zz_D zy_makeLayer_3_3 169 (.iconst 0) 1 170 := ⟨zq_3 zg_3_3_164.2.2.2.2.2.1, rfl⟩
theorem zd_3_3_170 : zz_D zy_makeLayer_3_3 170 (.putfield 73) 3 173 := ⟨zq_181 zg_3_3_164.2.2.2.2.2.2.1 zg_3_3_164.2.2.2.2.2.2.2.1 zg_3_3_164.2.2.2.2.2.2.2.2.1 rfl, rfl⟩
theorem zd_3_3_173 : zz_D zy_makeLayer_3_3 173 (.aload_n 0) 1 174 := ⟨zq_42 zg_3_3_164.2.2.2.2.2.2.2.2.2.1, rfl⟩
theorem zd_3_3_174 : zz_D zy_makeLayer_3_3 174 (.iconst 0) 1 175 := ⟨zq_3 zg_3_3_164.2.2.2.2.2.2.2.2.2.2.1, rfl⟩
theorem zd_3_3_175 : zz_D zy_makeLayer_3_3 175 (.putfield 76) 3 178 := ⟨zq_181 zg_3_3_164.2.2.2.2.2.2.2.2.2.2.2.1 zg_3_3_164.2.2.2.2.2.2.2.2.2.2.2.2.1 zg_3_3_164.2.2.2.2.2.2.2.2.2.2.2.2.2.1 rfl, rfl⟩
theorem zd_3_3_94 : zz_D zy_makeLayer_3_3 94 (.iconst 1) 1 95 := ⟨zq_4 zg_3_3_164.2.2.2.2.2.2.2.2.2.2.2.2.2.2.1, rfl⟩
theorem zd_3_3_95 : zz_B zy_makeLayer_3_3 95 Instr.goto 99 98 := ⟨4, zq_167 zg_3_3_164.2.2.2.2.2.2.2.2.2.2.2.2.2.2.2.1 zg_3_3_164.2.2.2.2.2.2.2.2.2.2.2.2.2.2.2.2.1 zg_3_3_164.2.2.2.2.2.2.2.2.2.2.2.2.2.2.2.2.2.1 (by decide), rfl, rfl⟩
theorem zd_3_3_104 : zz_D zy_makeLayer_3_3 104 (.iconst 1) 1 105 := ⟨zq_4 zg_3_3_164.2.2.2.2.2.2.2.2.2.2.2.2.2.2.2.2.2.2.1, rfl⟩
theorem zd_3_3_105 : zz_B zy_makeLayer_3_3 105 Instr.goto 115 108 := ⟨10, zq_167 zg_3_3_164.2.2.2.2.2.2.2.2.2.2.2.2.2.2.2.2.2.2.2.1 zg_3_3_164.2.2.2.2.2.2.2.2.2.2.2.2.2.2.2.2.2.2.2.2.1 zg_3_3_164.2.2.2.2.2.2.2.2.2.2.2.2.2.2.2.2.2.2.2.2.2.1 (by decide), rfl, rfl⟩
theorem zd_3_3_121 : zz_D zy_makeLayer_3_3 121 (.aload_n 0) 1 122 := ⟨zq_42 zg_3_3_164.2.2.2.2.2.2.2.2.2.2.2.2.2.2.2.2.2.2.2.2.2.2, rfl⟩
theorem zg_3_3_122 : zq_at zy_makeLayer_3_3.2.1 122 180 ∧ zq_at zy_makeLayer_3_3.2.1 123 0 ∧ zq_at zy_makeLayer_3_3.2.1 124 51 ∧ zq_at zy_makeLayer_3_3.2.1 125 180 ∧ zq_at zy_makeLayer_3_3.2.1 126 0 ∧ zq_at zy_makeLayer_3_3.2.1 127 64 ∧ zq_at zy_makeLayer_3_3.2.1 128 42 ∧ zq_at zy_makeLayer_3_3.2.1 129 180 ∧ zq_at zy_makeLayer_3_3.2.1 130 0 ∧ zq_at zy_makeLayer_3_3.2.1 131 51 ∧ zq_at zy_makeLayer_3_3.2.1 132 180 ∧ zq_at zy_makeLayer_3_3.2.1 133 0 ∧ zq_at zy_makeLayer_3_3.2.1 134 67 ∧ zq_at zy_makeLayer_3_3.2.1 135 104 ∧ zq_at zy_makeLayer_3_3.2.1 136 167 ∧ zq_at zy_makeLayer_3_3.2.1 137 0 ∧ zq_at zy_makeLayer_3_3.2.1 138 10 ∧ zq_at zy_makeLayer_3_3.2.1 178 42 ∧ zq_at zy_makeLayer_3_3.2.1 179 180 ∧ zq_at zy_makeLayer_3_3.2.1 180 0 ∧ zq_at zy_makeLayer_3_3.2.1 181 76 ∧ zq_at zy_makeLayer_3_3.2.1 182 42 := by decide +kernel
theorem zd_3_3_122 : zz_D zy_makeLayer_3_3 122 (.getfield 51) 3 125 := ⟨zq_180 zg_3_3_122.1 zg_3_3_122.2.1 zg_3_3_122.2.2.1 rfl, rfl⟩
theorem zd_3_3_125 : zz_D zy_makeLayer_3_3 125 (.getfield 64) 3 128 := ⟨zq_180 zg_3_3_122.2.2.2.1 zg_3_3_122.2.2.2.2.1 zg_3_3_122.2.2.2.2.2.1 rfl, rfl⟩
theorem zd_3_3_128 : zz_D zy_makeLayer_3_3 128 (.aload_n 0) 1 129 := ⟨zq_42 zg_3_3_122.2.2.2.2.2.2.1, rfl⟩
theorem zd_3_3_129 : zz_D zy_makeLayer_3_3 129 (.getfield 51) 3 132 := ⟨zq_180 zg_3_3_122.2.2.2.2.2.2.2.1 zg_3_3_122.2.2.2.2.2.2.2.2.1 zg_3_3_122.2.2.2.2.2.2.2.2.2.1 rfl, rfl⟩
theorem zd_3_3_132 : zz_D zy_makeLayer_3_3 132 (.getfield 67) 3 135 := ⟨zq_180 zg_3_3_122.2.2.2.2.2.2.2.2.2.2.1 zg_3_3_122.2.2.2.2.2.2.2.2.2.2.2.1 zg_3_3_122.2.2.2.2.2.2.2.2.2.2.2.2.1 rfl, rfl⟩
theorem zd_3_3_135 : zz_D zy_makeLayer_3_3 135 (.imul) 1 136 := ⟨zq_104 zg_3_3_122.2.2.2.2.2.2.2.2.2.2.2.2.2.1, rfl⟩
theorem zd_3_3_136 : zz_B zy_makeLayer_3_3 136 Instr.goto 146 139 := ⟨10, zq_167 zg_3_3_122.2.2.2.2.2.2.2.2.2.2.2.2.2.2.1 zg_3_3_122.2.2.2.2.2.2.2.2.2.2.2.2.2.2.2.1 zg_3_3_122.2.2.2.2.2.2.2.2.2.2.2.2.2.2.2.2.1 (by decide), rfl, rfl⟩
theorem zd_3_3_178 : zz_D zy_makeLayer_3_3 178 (.aload_n 0) 1 179 := ⟨zq_42 zg_3_3_122.2.2.2.2.2.2.2.2.2.2.2.2.2.2.2.2.2.1, rfl⟩
theorem zd_3_3_179 : zz_D zy_makeLayer_3_3 179 (.getfield 76) 3 182 := ⟨zq_180 zg_3_3_122.2.2.2.2.2.2.2.2.2.2.2.2.2.2.2.2.2.2.1 zg_3_3_122.2.2.2.2.2.2.2.2.2.2.2.2.2.2.2.2.2.2.2.1 zg_3_3_122.2.2.2.2.2.2.2.2.2.2.2.2.2.2.2.2.2.2.2.2.1 rfl, rfl⟩
theorem zd_3_3_182 : zz_D zy_makeLayer_3_3 182 (.aload_n 0) 1 183 := ⟨zq_42 zg_3_3_122.2.2.2.2.2.2.2.2.2.2.2.2.2.2.2.2.2.2.2.2.2, rfl⟩
theorem zg_3_3_183 : zq_at zy_makeLayer_3_3.2.1 183 180 ∧ zq_at zy_makeLayer_3_3.2.1 184 0 ∧ zq_at zy_makeLayer_3_3.2.1 185 51 ∧ zq_at zy_makeLayer_3_3.2.1 186 180 ∧ zq_at zy_makeLayer_3_3.2.1 187 0 ∧ zq_at zy_makeLayer_3_3.2.1 188 79 ∧ zq_at zy_makeLayer_3_3.2.1 189 162 ∧ zq_at zy_makeLayer_3_3.2.1 190 0 ∧ zq_at zy_makeLayer_3_3.2.1 191 128 ∧ zq_at zy_makeLayer_3_3.2.1 317 42 ∧ zq_at zy_makeLayer_3_3.2.1 318 182 ∧ zq_at zy_makeLayer_3_3.2.1 319 0 ∧ zq_at zy_makeLayer_3_3.2.1 320 97 := by decide +kernel
theorem zd_3_3_183 : zz_D zy_makeLayer_3_3 183 (.getfield 51) 3 186 := ⟨zq_180 zg_3_3_183.1 zg_3_3_183.2.1 zg_3_3_183.2.2.1 rfl, rfl⟩
theorem zd_3_3_186 : zz_D zy_makeLayer_3_3 186 (.getfield 79) 3 189 := ⟨zq_180 zg_3_3_183.2.2.2.1 zg_3_3_183.2.2.2.2.1 zg_3_3_183.2.2.2.2.2.1 rfl, rfl⟩
theorem zd_3_3_189 : zz_B zy_makeLayer_3_3 189 (Instr.if_icmp .ge) 317 192 := ⟨128, zq_162 zg_3_3_183.2.2.2.2.2.2.1 zg_3_3_183.2.2.2.2.2.2.2.1 zg_3_3_183.2.2.2.2.2.2.2.2.1 (by decide), rfl, rfl⟩
theorem zd_3_3_317 : zz_D zy_makeLayer_3_3 317 (.aload_n 0) 1 318 := ⟨zq_42 zg_3_3_183.2.2.2.2.2.2.2.2.2.1, rfl⟩
theorem zd_3_3_318 : zz_D zy_makeLayer_3_3 318 (.invokevirtual 97) 3 321 := ⟨zq_182 zg_3_3_183.2.2.2.2.2.2.2.2.2.2.1 zg_3_3_183.2.2.2.2.2.2.2.2.2.2.2.1 zg_3_3_183.2.2.2.2.2.2.2.2.2.2.2.2 rfl, rfl⟩
theorem zg_3_12_0 : zq_at zy_makeWaits_3_12.2.1 0 3 ∧ zq_at zy_makeWaits_3_12.2.1 1 16 ∧ zq_at zy_makeWaits_3_12.2.1 2 9 ∧ zq_at zy_makeWaits_3_12.2.1 3 184 ∧ zq_at zy_makeWaits_3_12.2.1 4 0 ∧ zq_at zy_makeWaits_3_12.2.1 5 132 ∧ zq_at zy_makeWaits_3_12.2.1 6 5 ∧ zq_at zy_makeWaits_3_12.2.1 7 184 ∧ zq_at zy_makeWaits_3_12.2.1 8 0 ∧ zq_at zy_makeWaits_3_12.2.1 9 139 := by decide +kernel
theorem zd_3_12_0 : zz_D zy_makeWaits_3_12 0 (.iconst 0) 1 1 := ⟨zq_3 zg_3_12_0.1, rfl⟩
theorem zd_3_12_1 : zz_D zy_makeWaits_3_12 1 (.bipush 9) 2 3 := ⟨zq_16 zg_3_12_0.2.1 zg_3_12_0.2.2.1 (by decide), rfl⟩
theorem zd_3_12_3 : zz_D zy_makeWaits_3_12 3 (.invokestatic 132) 3 6 := ⟨zq_184 zg_3_12_0.2.2.2.1 zg_3_12_0.2.2.2.2.1 zg_3_12_0.2.2.2.2.2.1 rfl, rfl⟩
theorem zd_3_12_6 : zz_D zy_makeWaits_3_12 6 (.iconst 2) 1 7 := ⟨zq_5 zg_3_12_0.2.2.2.2.2.2.1, rfl⟩
theorem zd_3_12_7 : zz_D zy_makeWaits_3_12 7 (.invokestatic 139) 3 10 := ⟨zq_184 zg_3_12_0.2.2.2.2.2.2.2.1 zg_3_12_0.2.2.2.2.2.2.2.2.1 zg_3_12_0.2.2.2.2.2.2.2.2.2 rfl, rfl⟩
theorem zg_12_5_0 : zq_at zy_flag_12_5.2.1 0 26 ∧ zq_at zy_flag_12_5.2.1 1 4 ∧ zq_at zy_flag_12_5.2.1 2 184 ∧ zq_at zy_flag_12_5.2.1 3 0 ∧ zq_at zy_flag_12_5.2.1 4 20 ∧ zq_at zy_flag_12_5.2.1 5 173 := by decide +kernel
theorem zd_12_5_0 : zz_D zy_flag_12_5 0 (.iload_n 0) 1 1 := ⟨zq_26 zg_12_5_0.1, rfl⟩
theorem zd_12_5_1 : zz_D zy_flag_12_5 1 (.iconst 1) 1 2 := ⟨zq_4 zg_12_5_0.2.1, rfl⟩
theorem zd_12_5_2 : zz_D zy_flag_12_5 2 (.invokestatic 20) 3 5 := ⟨zq_184 zg_12_5_0.2.2.1 zg_12_5_0.2.2.2.1 zg_12_5_0.2.2.2.2.1 rfl, rfl⟩
theorem zd_12_5_5 : zz_D zy_flag_12_5 5 (.lreturn) 1 6 := ⟨zq_173 zg_12_5_0.2.2.2.2.2, rfl⟩
-- TensorForge$Words flag (I)J
abbrev zr_flag_12_5 : Room := { frames := 1, cells := 0, slots := 0, locals := 13 }
def zp_flag_12_5 (p0 : Int) (S0 : zz_S) : Int → zz_S → Prop := fun r S => S0 = S ∧ ((-9223372036854775808) ≤ r ∧ r ≤ 9223372036854775807)
theorem zc_flag_12_5 {g : mm_G} {l : Launch} (p0 : Int) (S0 : zz_S) (n : Nat) (hn : zz_end ≤ n) (G_S0 : zz_G S0) (hp0 : (-2147483648) ≤ p0 ∧ p0 ≤ 2147483647) : mm_Met g l zy_flag_12_5 zr_flag_12_5 [zi p0] (zz_M S0 n) n (zz_QJ n (zp_flag_12_5 p0 S0)) := by
  refine zz_enter (by decide) (Nat.le_of_ble_eq_true rfl) (zz_less (ls1 := [some (zi p0)]) ⟨rfl, trivial⟩ ?_)
  refine zz_iload_n (x := p0) rfl zd_12_5_0 ?_
  refine zz_iconst zd_12_5_1 ?_
  refine zz_callSJ [zi p0, zi 1] zd_12_5_2 zk_Words_20 rfl rfl ⟨Nat.le_of_ble_eq_true rfl, Nat.le_of_ble_eq_true rfl⟩ ⟨rfl, rfl⟩ (Nat.zero_le _) (Nat.zero_le _) (zc_bits_12_4 p0 1 S0 n hn G_S0 (by omega) (by omega)) (fun v2 S1 hP => ?_)
  obtain ⟨rfl, o3⟩ := hP
  exact zz_lret zd_12_5_5 rfl (Nat.zero_le _) (Nat.zero_le _) ⟨_, _, rfl, rfl, by omega⟩
theorem zk_Compiler_139 : mm_Sl "TensorForge$Compiler" 139 1 zy_flag_12_5 := ⟨zyw_flag_12_5, mm_tb_1 1467 (by decide +kernel) rfl, mm_tb_1 1468 (by decide +kernel) rfl⟩
abbrev zy_emit_3_15 : mm_Y := (⟨"TensorForge$Compiler", "emit", "(J)V"⟩, prog_3_method_15_code, 3, none)
theorem zyw_emit_3_15 : mm_Yw zy_emit_3_15 1 := ⟨mm_tb_1 1440 (by decide +kernel) rfl, mm_tb_1 10 (by decide +kernel) rfl, ⟨by decide, by decide⟩, by decide +kernel⟩
theorem zg_3_12_10 : zq_at zy_makeWaits_3_12.2.1 10 129 ∧ zq_at zy_makeWaits_3_12.2.1 11 64 ∧ zq_at zy_makeWaits_3_12.2.1 12 42 ∧ zq_at zy_makeWaits_3_12.2.1 13 180 ∧ zq_at zy_makeWaits_3_12.2.1 14 0 ∧ zq_at zy_makeWaits_3_12.2.1 15 70 ∧ zq_at zy_makeWaits_3_12.2.1 16 4 ∧ zq_at zy_makeWaits_3_12.2.1 17 164 ∧ zq_at zy_makeWaits_3_12.2.1 18 0 ∧ zq_at zy_makeWaits_3_12.2.1 19 15 ∧ zq_at zy_makeWaits_3_12.2.1 32 42 ∧ zq_at zy_makeWaits_3_12.2.1 33 31 ∧ zq_at zy_makeWaits_3_12.2.1 34 16 ∧ zq_at zy_makeWaits_3_12.2.1 35 11 ∧ zq_at zy_makeWaits_3_12.2.1 36 4 ∧ zq_at zy_makeWaits_3_12.2.1 37 184 ∧ zq_at zy_makeWaits_3_12.2.1 38 0 ∧ zq_at zy_makeWaits_3_12.2.1 39 132 ∧ zq_at zy_makeWaits_3_12.2.1 40 129 ∧ zq_at zy_makeWaits_3_12.2.1 41 6 ∧ zq_at zy_makeWaits_3_12.2.1 42 184 ∧ zq_at zy_makeWaits_3_12.2.1 43 0 ∧ zq_at zy_makeWaits_3_12.2.1 44 139 ∧ zq_at zy_makeWaits_3_12.2.1 45 129 := by decide +kernel
theorem zd_3_12_10 : zz_D zy_makeWaits_3_12 10 (.lor) 1 11 := ⟨zq_129 zg_3_12_10.1, rfl⟩
theorem zd_3_12_11 : zz_D zy_makeWaits_3_12 11 (.lstore_n 1) 1 12 := ⟨zq_64 zg_3_12_10.2.1, rfl⟩
theorem zd_3_12_12 : zz_D zy_makeWaits_3_12 12 (.aload_n 0) 1 13 := ⟨zq_42 zg_3_12_10.2.2.1, rfl⟩
theorem zd_3_12_13 : zz_D zy_makeWaits_3_12 13 (.getfield 70) 3 16 := ⟨zq_180 zg_3_12_10.2.2.2.1 zg_3_12_10.2.2.2.2.1 zg_3_12_10.2.2.2.2.2.1 rfl, rfl⟩
theorem zd_3_12_16 : zz_D zy_makeWaits_3_12 16 (.iconst 1) 1 17 := ⟨zq_4 zg_3_12_10.2.2.2.2.2.2.1, rfl⟩
theorem zd_3_12_17 : zz_B zy_makeWaits_3_12 17 (Instr.if_icmp .le) 32 20 := ⟨15, zq_164 zg_3_12_10.2.2.2.2.2.2.2.1 zg_3_12_10.2.2.2.2.2.2.2.2.1 zg_3_12_10.2.2.2.2.2.2.2.2.2.1 (by decide), rfl, rfl⟩
theorem zd_3_12_32 : zz_D zy_makeWaits_3_12 32 (.aload_n 0) 1 33 := ⟨zq_42 zg_3_12_10.2.2.2.2.2.2.2.2.2.2.1, rfl⟩
theorem zd_3_12_33 : zz_D zy_makeWaits_3_12 33 (.lload_n 1) 1 34 := ⟨zq_31 zg_3_12_10.2.2.2.2.2.2.2.2.2.2.2.1, rfl⟩
theorem zd_3_12_34 : zz_D zy_makeWaits_3_12 34 (.bipush 11) 2 36 := ⟨zq_16 zg_3_12_10.2.2.2.2.2.2.2.2.2.2.2.2.1 zg_3_12_10.2.2.2.2.2.2.2.2.2.2.2.2.2.1 (by decide), rfl⟩
theorem zd_3_12_36 : zz_D zy_makeWaits_3_12 36 (.iconst 1) 1 37 := ⟨zq_4 zg_3_12_10.2.2.2.2.2.2.2.2.2.2.2.2.2.2.1, rfl⟩
theorem zd_3_12_37 : zz_D zy_makeWaits_3_12 37 (.invokestatic 132) 3 40 := ⟨zq_184 zg_3_12_10.2.2.2.2.2.2.2.2.2.2.2.2.2.2.2.1 zg_3_12_10.2.2.2.2.2.2.2.2.2.2.2.2.2.2.2.2.1 zg_3_12_10.2.2.2.2.2.2.2.2.2.2.2.2.2.2.2.2.2.1 rfl, rfl⟩
theorem zd_3_12_40 : zz_D zy_makeWaits_3_12 40 (.lor) 1 41 := ⟨zq_129 zg_3_12_10.2.2.2.2.2.2.2.2.2.2.2.2.2.2.2.2.2.2.1, rfl⟩
theorem zd_3_12_41 : zz_D zy_makeWaits_3_12 41 (.iconst 3) 1 42 := ⟨zq_6 zg_3_12_10.2.2.2.2.2.2.2.2.2.2.2.2.2.2.2.2.2.2.2.1, rfl⟩
theorem zd_3_12_42 : zz_D zy_makeWaits_3_12 42 (.invokestatic 139) 3 45 := ⟨zq_184 zg_3_12_10.2.2.2.2.2.2.2.2.2.2.2.2.2.2.2.2.2.2.2.2.1 zg_3_12_10.2.2.2.2.2.2.2.2.2.2.2.2.2.2.2.2.2.2.2.2.2.1 zg_3_12_10.2.2.2.2.2.2.2.2.2.2.2.2.2.2.2.2.2.2.2.2.2.2.1 rfl, rfl⟩
theorem zd_3_12_45 : zz_D zy_makeWaits_3_12 45 (.lor) 1 46 := ⟨zq_129 zg_3_12_10.2.2.2.2.2.2.2.2.2.2.2.2.2.2.2.2.2.2.2.2.2.2.2, rfl⟩
theorem zg_3_12_46 : zq_at zy_makeWaits_3_12.2.1 46 182 ∧ zq_at zy_makeWaits_3_12.2.1 47 0 ∧ zq_at zy_makeWaits_3_12.2.1 48 143 := by decide +kernel
theorem zd_3_12_46 : zz_D zy_makeWaits_3_12 46 (.invokevirtual 143) 3 49 := ⟨zq_182 zg_3_12_46.1 zg_3_12_46.2.1 zg_3_12_46.2.2 rfl, rfl⟩
theorem zg_3_15_0 : zq_at zy_emit_3_15.2.1 0 42 ∧ zq_at zy_emit_3_15.2.1 1 180 ∧ zq_at zy_emit_3_15.2.1 2 0 ∧ zq_at zy_emit_3_15.2.1 3 15 ∧ zq_at zy_emit_3_15.2.1 4 17 ∧ zq_at zy_emit_3_15.2.1 5 2 ∧ zq_at zy_emit_3_15.2.1 6 88 ∧ zq_at zy_emit_3_15.2.1 7 162 ∧ zq_at zy_emit_3_15.2.1 8 0 ∧ zq_at zy_emit_3_15.2.1 9 25 ∧ zq_at zy_emit_3_15.2.1 32 42 ∧ zq_at zy_emit_3_15.2.1 33 89 ∧ zq_at zy_emit_3_15.2.1 34 180 ∧ zq_at zy_emit_3_15.2.1 35 0 ∧ zq_at zy_emit_3_15.2.1 36 15 ∧ zq_at zy_emit_3_15.2.1 37 4 ∧ zq_at zy_emit_3_15.2.1 38 96 ∧ zq_at zy_emit_3_15.2.1 39 181 ∧ zq_at zy_emit_3_15.2.1 40 0 ∧ zq_at zy_emit_3_15.2.1 41 15 ∧ zq_at zy_emit_3_15.2.1 42 177 ∧ zq_at zy_emit_3_15.2.1 10 42 := by decide +kernel
theorem zd_3_15_0 : zz_D zy_emit_3_15 0 (.aload_n 0) 1 1 := ⟨zq_42 zg_3_15_0.1, rfl⟩
theorem zd_3_15_1 : zz_D zy_emit_3_15 1 (.getfield 15) 3 4 := ⟨zq_180 zg_3_15_0.2.1 zg_3_15_0.2.2.1 zg_3_15_0.2.2.2.1 rfl, rfl⟩
theorem zd_3_15_4 : zz_D zy_emit_3_15 4 (.sipush 600) 3 7 := ⟨zq_17 zg_3_15_0.2.2.2.2.1 zg_3_15_0.2.2.2.2.2.1 zg_3_15_0.2.2.2.2.2.2.1 (by decide), rfl⟩
theorem zd_3_15_7 : zz_B zy_emit_3_15 7 (Instr.if_icmp .ge) 32 10 := ⟨25, zq_162 zg_3_15_0.2.2.2.2.2.2.2.1 zg_3_15_0.2.2.2.2.2.2.2.2.1 zg_3_15_0.2.2.2.2.2.2.2.2.2.1 (by decide), rfl, rfl⟩
theorem zd_3_15_32 : zz_D zy_emit_3_15 32 (.aload_n 0) 1 33 := ⟨zq_42 zg_3_15_0.2.2.2.2.2.2.2.2.2.2.1, rfl⟩
theorem zd_3_15_33 : zz_D zy_emit_3_15 33 (.dup) 1 34 := ⟨zq_89 zg_3_15_0.2.2.2.2.2.2.2.2.2.2.2.1, rfl⟩
theorem zd_3_15_34 : zz_D zy_emit_3_15 34 (.getfield 15) 3 37 := ⟨zq_180 zg_3_15_0.2.2.2.2.2.2.2.2.2.2.2.2.1 zg_3_15_0.2.2.2.2.2.2.2.2.2.2.2.2.2.1 zg_3_15_0.2.2.2.2.2.2.2.2.2.2.2.2.2.2.1 rfl, rfl⟩
theorem zd_3_15_37 : zz_D zy_emit_3_15 37 (.iconst 1) 1 38 := ⟨zq_4 zg_3_15_0.2.2.2.2.2.2.2.2.2.2.2.2.2.2.2.1, rfl⟩
theorem zd_3_15_38 : zz_D zy_emit_3_15 38 (.iadd) 1 39 := ⟨zq_96 zg_3_15_0.2.2.2.2.2.2.2.2.2.2.2.2.2.2.2.2.1, rfl⟩
theorem zd_3_15_39 : zz_D zy_emit_3_15 39 (.putfield 15) 3 42 := ⟨zq_181 zg_3_15_0.2.2.2.2.2.2.2.2.2.2.2.2.2.2.2.2.2.1 zg_3_15_0.2.2.2.2.2.2.2.2.2.2.2.2.2.2.2.2.2.2.1 zg_3_15_0.2.2.2.2.2.2.2.2.2.2.2.2.2.2.2.2.2.2.2.1 rfl, rfl⟩
theorem zd_3_15_42 : zz_D zy_emit_3_15 42 (.return_) 1 43 := ⟨zq_177 zg_3_15_0.2.2.2.2.2.2.2.2.2.2.2.2.2.2.2.2.2.2.2.2.1, rfl⟩
theorem zd_3_15_10 : zz_D zy_emit_3_15 10 (.aload_n 0) 1 11 := ⟨zq_42 zg_3_15_0.2.2.2.2.2.2.2.2.2.2.2.2.2.2.2.2.2.2.2.2.2, rfl⟩
theorem zg_3_15_11 : zq_at zy_emit_3_15.2.1 11 180 ∧ zq_at zy_emit_3_15.2.1 12 0 ∧ zq_at zy_emit_3_15.2.1 13 15 ∧ zq_at zy_emit_3_15.2.1 14 42 ∧ zq_at zy_emit_3_15.2.1 15 180 ∧ zq_at zy_emit_3_15.2.1 16 0 ∧ zq_at zy_emit_3_15.2.1 17 9 ∧ zq_at zy_emit_3_15.2.1 18 190 ∧ zq_at zy_emit_3_15.2.1 19 162 ∧ zq_at zy_emit_3_15.2.1 20 0 ∧ zq_at zy_emit_3_15.2.1 21 13 ∧ zq_at zy_emit_3_15.2.1 22 42 ∧ zq_at zy_emit_3_15.2.1 23 180 ∧ zq_at zy_emit_3_15.2.1 24 0 ∧ zq_at zy_emit_3_15.2.1 25 9 ∧ zq_at zy_emit_3_15.2.1 26 42 ∧ zq_at zy_emit_3_15.2.1 27 180 ∧ zq_at zy_emit_3_15.2.1 28 0 ∧ zq_at zy_emit_3_15.2.1 29 15 ∧ zq_at zy_emit_3_15.2.1 30 31 ∧ zq_at zy_emit_3_15.2.1 31 80 := by decide +kernel
theorem zd_3_15_11 : zz_D zy_emit_3_15 11 (.getfield 15) 3 14 := ⟨zq_180 zg_3_15_11.1 zg_3_15_11.2.1 zg_3_15_11.2.2.1 rfl, rfl⟩
theorem zd_3_15_14 : zz_D zy_emit_3_15 14 (.aload_n 0) 1 15 := ⟨zq_42 zg_3_15_11.2.2.2.1, rfl⟩
theorem zd_3_15_15 : zz_D zy_emit_3_15 15 (.getfield 9) 3 18 := ⟨zq_180 zg_3_15_11.2.2.2.2.1 zg_3_15_11.2.2.2.2.2.1 zg_3_15_11.2.2.2.2.2.2.1 rfl, rfl⟩
theorem zd_3_15_18 : zz_D zy_emit_3_15 18 (.arraylength) 1 19 := ⟨zq_190 zg_3_15_11.2.2.2.2.2.2.2.1, rfl⟩
theorem zd_3_15_19 : zz_B zy_emit_3_15 19 (Instr.if_icmp .ge) 32 22 := ⟨13, zq_162 zg_3_15_11.2.2.2.2.2.2.2.2.1 zg_3_15_11.2.2.2.2.2.2.2.2.2.1 zg_3_15_11.2.2.2.2.2.2.2.2.2.2.1 (by decide), rfl, rfl⟩
theorem zd_3_15_22 : zz_D zy_emit_3_15 22 (.aload_n 0) 1 23 := ⟨zq_42 zg_3_15_11.2.2.2.2.2.2.2.2.2.2.2.1, rfl⟩
theorem zd_3_15_23 : zz_D zy_emit_3_15 23 (.getfield 9) 3 26 := ⟨zq_180 zg_3_15_11.2.2.2.2.2.2.2.2.2.2.2.2.1 zg_3_15_11.2.2.2.2.2.2.2.2.2.2.2.2.2.1 zg_3_15_11.2.2.2.2.2.2.2.2.2.2.2.2.2.2.1 rfl, rfl⟩
theorem zd_3_15_26 : zz_D zy_emit_3_15 26 (.aload_n 0) 1 27 := ⟨zq_42 zg_3_15_11.2.2.2.2.2.2.2.2.2.2.2.2.2.2.2.1, rfl⟩
theorem zd_3_15_27 : zz_D zy_emit_3_15 27 (.getfield 15) 3 30 := ⟨zq_180 zg_3_15_11.2.2.2.2.2.2.2.2.2.2.2.2.2.2.2.2.1 zg_3_15_11.2.2.2.2.2.2.2.2.2.2.2.2.2.2.2.2.2.1 zg_3_15_11.2.2.2.2.2.2.2.2.2.2.2.2.2.2.2.2.2.2.1 rfl, rfl⟩
theorem zd_3_15_30 : zz_D zy_emit_3_15 30 (.lload_n 1) 1 31 := ⟨zq_31 zg_3_15_11.2.2.2.2.2.2.2.2.2.2.2.2.2.2.2.2.2.2.2.1, rfl⟩
theorem zd_3_15_31 : zz_D zy_emit_3_15 31 (.lastore) 1 32 := ⟨zq_80 zg_3_15_11.2.2.2.2.2.2.2.2.2.2.2.2.2.2.2.2.2.2.2.2, rfl⟩
-- TensorForge$Compiler emit (J)V
abbrev zr_emit_3_15 : Room := { frames := 0, cells := 0, slots := 0, locals := 0 }
def zp_emit_3_15 (p0 : Int) (S0 : zz_S) : zz_S → Prop := fun S => zz_G S ∧ zz_fr [(1076, 1)] [] (fun a i => a = zz_rf 4 (S0 1076 0)) S0 S ∧ (S 1076 1 = S0 1076 1 + 1)
theorem zc_emit_3_15 {g : mm_G} {l : Launch} (p0 : Int) (S0 : zz_S) (n : Nat) (hn : zz_end ≤ n) (G_S0 : zz_G S0) (hp0 : (-9223372036854775808) ≤ p0 ∧ p0 ≤ 9223372036854775807) (hq : S0 1076 1 ≤ 990000) : mm_Met g l zy_emit_3_15 zr_emit_3_15 [.ref 1076, zl p0] (zz_M S0 n) n (zz_QV n (zp_emit_3_15 p0 S0)) := by
  refine zz_enter (by decide) (Nat.le_of_ble_eq_true rfl) (zz_less (ls1 := [some (.ref 1076), some (zl p0), none]) ⟨rfl, ⟨rfl, trivial⟩⟩ ?_)
  have F_S0 : zz_fr [(1076, 1)] [] (fun a i => a = zz_rf 4 (S0 1076 0)) S0 S0 := zz_fr.refl
  refine zz_aload_n (x := 1076) rfl zd_3_15_0 ?_
  have g1 := zz_G.r G_S0 1076 1 0 1000000 rfl rfl
  refine zz_geti (z := S0 1076 1) zd_3_15_1 zf_Compiler_15 zT_1076 rfl (zz_ltn hn rfl) rfl ?_
  refine zz_sipush (by decide) zd_3_15_4 ?_
  refine zz_icmp_ge (by omega) (by omega) zd_3_15_7 (fun c2 => ?_) (fun c2 => ?_)
  · refine zz_aload_n (x := 1076) rfl zd_3_15_32 ?_
    refine zz_dup rfl zd_3_15_33 ?_
    refine zz_geti (z := S0 1076 1) zd_3_15_34 zf_Compiler_15 zT_1076 rfl (zz_ltn hn rfl) rfl ?_
    refine zz_iconst zd_3_15_37 ?_
    refine zz_iadd zd_3_15_38 ?_
    refine zz_puti zd_3_15_39 zf_Compiler_15 zT_1076 rfl (zz_ltn hn rfl) (fun S3 qS3 => ?_)
    have G_S3 := zz_G.put G_S0 qS3 0 1000000 rfl (by omega)
    have F_S3 := zz_fr.puts F_S0 qS3 rfl
    have e4 : S3 1076 1 = (S0 1076 1) + 1 := (zz_rs qS3)
    exact zz_vret zd_3_15_42 rfl (Nat.zero_le _) (Nat.zero_le _) ⟨_, rfl, G_S3, F_S3, by omega⟩
  · refine zz_aload_n (x := 1076) rfl zd_3_15_10 ?_
    refine zz_geti (z := S0 1076 1) zd_3_15_11 zf_Compiler_15 zT_1076 rfl (zz_ltn hn rfl) rfl ?_
    refine zz_aload_n (x := 1076) rfl zd_3_15_14 ?_
    have g5 := zz_G.r G_S0 1076 0 0 1 rfl rfl
    refine zz_getr (kd := 2) (z := S0 1076 0) zd_3_15_15 zf_Compiler_9 zT_1076 rfl (zz_ltn hn rfl) rfl (by omega) (zz_rf 4 (S0 1076 0)) rfl ?_
    refine zz_alen zd_3_15_18 (zT_k4 (by omega)) rfl (zN_k4 hn (by omega)) ?_
    refine zz_icmp_ge (by omega) (by omega) zd_3_15_19 (fun c6 => ?_) (fun c6 => ?_)
    · exfalso; omega
    · refine zz_aload_n (x := 1076) rfl zd_3_15_22 ?_
      refine zz_getr (kd := 2) (z := S0 1076 0) zd_3_15_23 zf_Compiler_9 zT_1076 rfl (zz_ltn hn rfl) rfl (by omega) (zz_rf 4 (S0 1076 0)) rfl ?_
      refine zz_aload_n (x := 1076) rfl zd_3_15_26 ?_
      refine zz_geti (z := S0 1076 1) zd_3_15_27 zf_Compiler_15 zT_1076 rfl (zz_ltn hn rfl) rfl ?_
      refine zz_lload_n (x := p0) rfl zd_3_15_30 ?_
      refine zz_last zd_3_15_31 (zT_k4 (by omega)) rfl (zN_k4 hn (by omega)) (by decide) (by omega) (fun S7 qS7 => ?_)
      have G_S7 := zz_G.put G_S0 qS7 (-9223372036854775808) 9223372036854775807 (zR_k4 (by omega)) (by omega)
      have F_S7 := zz_fr.putv F_S0 qS7 (rfl)
      refine zz_aload_n (x := 1076) rfl zd_3_15_32 ?_
      refine zz_dup rfl zd_3_15_33 ?_
      refine zz_geti (z := S0 1076 1) zd_3_15_34 zf_Compiler_15 zT_1076 rfl (zz_ltn hn rfl) (zz_ro qS7 (fun h => absurd h.1 (by have := zz_rf4 (z := S0 1076 0) (by omega); omega)) rfl) ?_
      refine zz_iconst zd_3_15_37 ?_
      refine zz_iadd zd_3_15_38 ?_
      refine zz_puti zd_3_15_39 zf_Compiler_15 zT_1076 rfl (zz_ltn hn rfl) (fun S8 qS8 => ?_)
      have G_S8 := zz_G.put G_S7 qS8 0 1000000 rfl (by omega)
      have F_S8 := zz_fr.puts F_S7 qS8 rfl
      have e9 : S8 1076 1 = (S0 1076 1) + 1 := (zz_rs qS8)
      exact zz_vret zd_3_15_42 rfl (Nat.zero_le _) (Nat.zero_le _) ⟨_, rfl, G_S8, F_S8, by omega⟩
theorem zk_Compiler_143 : mm_Vl "TensorForge$Compiler" 143 9 1 zy_emit_3_15 := ⟨zyw_emit_3_15, (R_Compiler, F_Compiler, 17), rfl, mm_tb_1 1437 (by decide +kernel) rfl, mm_tb_1 1439 (by decide +kernel) rfl, mm_tb_s 67 (by decide +kernel) rfl⟩
theorem zg_3_12_49 : zq_at zy_makeWaits_3_12.2.1 49 42 ∧ zq_at zy_makeWaits_3_12.2.1 50 180 ∧ zq_at zy_makeWaits_3_12.2.1 51 0 ∧ zq_at zy_makeWaits_3_12.2.1 52 73 ∧ zq_at zy_makeWaits_3_12.2.1 53 4 ∧ zq_at zy_makeWaits_3_12.2.1 54 164 ∧ zq_at zy_makeWaits_3_12.2.1 55 0 ∧ zq_at zy_makeWaits_3_12.2.1 56 7 ∧ zq_at zy_makeWaits_3_12.2.1 61 5 ∧ zq_at zy_makeWaits_3_12.2.1 62 62 ∧ zq_at zy_makeWaits_3_12.2.1 63 3 ∧ zq_at zy_makeWaits_3_12.2.1 64 54 ∧ zq_at zy_makeWaits_3_12.2.1 65 4 ∧ zq_at zy_makeWaits_3_12.2.1 57 6 ∧ zq_at zy_makeWaits_3_12.2.1 58 167 ∧ zq_at zy_makeWaits_3_12.2.1 59 0 ∧ zq_at zy_makeWaits_3_12.2.1 60 4 ∧ zq_at zy_makeWaits_3_12.2.1 20 42 ∧ zq_at zy_makeWaits_3_12.2.1 21 31 ∧ zq_at zy_makeWaits_3_12.2.1 22 16 ∧ zq_at zy_makeWaits_3_12.2.1 23 11 ∧ zq_at zy_makeWaits_3_12.2.1 24 4 := by decide +kernel
theorem zd_3_12_49 : zz_D zy_makeWaits_3_12 49 (.aload_n 0) 1 50 := ⟨zq_42 zg_3_12_49.1, rfl⟩
theorem zd_3_12_50 : zz_D zy_makeWaits_3_12 50 (.getfield 73) 3 53 := ⟨zq_180 zg_3_12_49.2.1 zg_3_12_49.2.2.1 zg_3_12_49.2.2.2.1 rfl, rfl⟩
theorem zd_3_12_53 : zz_D zy_makeWaits_3_12 53 (.iconst 1) 1 54 := ⟨zq_4 zg_3_12_49.2.2.2.2.1, rfl⟩
theorem zd_3_12_54 : zz_B zy_makeWaits_3_12 54 (Instr.if_icmp .le) 61 57 := ⟨7, zq_164 zg_3_12_49.2.2.2.2.2.1 zg_3_12_49.2.2.2.2.2.2.1 zg_3_12_49.2.2.2.2.2.2.2.1 (by decide), rfl, rfl⟩
theorem zd_3_12_61 : zz_D zy_makeWaits_3_12 61 (.iconst 2) 1 62 := ⟨zq_5 zg_3_12_49.2.2.2.2.2.2.2.2.1, rfl⟩
theorem zd_3_12_62 : zz_D zy_makeWaits_3_12 62 (.istore_n 3) 1 63 := ⟨zq_62 zg_3_12_49.2.2.2.2.2.2.2.2.2.1, rfl⟩
theorem zd_3_12_63 : zz_D zy_makeWaits_3_12 63 (.iconst 0) 1 64 := ⟨zq_3 zg_3_12_49.2.2.2.2.2.2.2.2.2.2.1, rfl⟩
theorem zd_3_12_64 : zz_D zy_makeWaits_3_12 64 (.istore 4) 2 66 := ⟨zq_54 zg_3_12_49.2.2.2.2.2.2.2.2.2.2.2.1 zg_3_12_49.2.2.2.2.2.2.2.2.2.2.2.2.1, rfl⟩
theorem zd_3_12_57 : zz_D zy_makeWaits_3_12 57 (.iconst 3) 1 58 := ⟨zq_6 zg_3_12_49.2.2.2.2.2.2.2.2.2.2.2.2.2.1, rfl⟩
theorem zd_3_12_58 : zz_B zy_makeWaits_3_12 58 Instr.goto 62 61 := ⟨4, zq_167 zg_3_12_49.2.2.2.2.2.2.2.2.2.2.2.2.2.2.1 zg_3_12_49.2.2.2.2.2.2.2.2.2.2.2.2.2.2.2.1 zg_3_12_49.2.2.2.2.2.2.2.2.2.2.2.2.2.2.2.2.1 (by decide), rfl, rfl⟩
theorem zd_3_12_20 : zz_D zy_makeWaits_3_12 20 (.aload_n 0) 1 21 := ⟨zq_42 zg_3_12_49.2.2.2.2.2.2.2.2.2.2.2.2.2.2.2.2.2.1, rfl⟩
theorem zd_3_12_21 : zz_D zy_makeWaits_3_12 21 (.lload_n 1) 1 22 := ⟨zq_31 zg_3_12_49.2.2.2.2.2.2.2.2.2.2.2.2.2.2.2.2.2.2.1, rfl⟩
theorem zd_3_12_22 : zz_D zy_makeWaits_3_12 22 (.bipush 11) 2 24 := ⟨zq_16 zg_3_12_49.2.2.2.2.2.2.2.2.2.2.2.2.2.2.2.2.2.2.2.1 zg_3_12_49.2.2.2.2.2.2.2.2.2.2.2.2.2.2.2.2.2.2.2.2.1 (by decide), rfl⟩
theorem zd_3_12_24 : zz_D zy_makeWaits_3_12 24 (.iconst 1) 1 25 := ⟨zq_4 zg_3_12_49.2.2.2.2.2.2.2.2.2.2.2.2.2.2.2.2.2.2.2.2.2, rfl⟩
theorem zg_3_12_25 : zq_at zy_makeWaits_3_12.2.1 25 184 ∧ zq_at zy_makeWaits_3_12.2.1 26 0 ∧ zq_at zy_makeWaits_3_12.2.1 27 132 ∧ zq_at zy_makeWaits_3_12.2.1 28 129 ∧ zq_at zy_makeWaits_3_12.2.1 29 182 ∧ zq_at zy_makeWaits_3_12.2.1 30 0 ∧ zq_at zy_makeWaits_3_12.2.1 31 143 ∧ zq_at zy_makeWaits_3_12.2.1 66 21 ∧ zq_at zy_makeWaits_3_12.2.1 67 4 ∧ zq_at zy_makeWaits_3_12.2.1 68 29 ∧ zq_at zy_makeWaits_3_12.2.1 69 162 ∧ zq_at zy_makeWaits_3_12.2.1 70 0 ∧ zq_at zy_makeWaits_3_12.2.1 71 14 ∧ zq_at zy_makeWaits_3_12.2.1 72 42 ∧ zq_at zy_makeWaits_3_12.2.1 73 31 ∧ zq_at zy_makeWaits_3_12.2.1 74 182 ∧ zq_at zy_makeWaits_3_12.2.1 75 0 ∧ zq_at zy_makeWaits_3_12.2.1 76 143 ∧ zq_at zy_makeWaits_3_12.2.1 77 132 ∧ zq_at zy_makeWaits_3_12.2.1 78 4 ∧ zq_at zy_makeWaits_3_12.2.1 79 1 ∧ zq_at zy_makeWaits_3_12.2.1 80 167 ∧ zq_at zy_makeWaits_3_12.2.1 81 255 ∧ zq_at zy_makeWaits_3_12.2.1 82 242 := by decide +kernel
theorem zd_3_12_25 : zz_D zy_makeWaits_3_12 25 (.invokestatic 132) 3 28 := ⟨zq_184 zg_3_12_25.1 zg_3_12_25.2.1 zg_3_12_25.2.2.1 rfl, rfl⟩
theorem zd_3_12_28 : zz_D zy_makeWaits_3_12 28 (.lor) 1 29 := ⟨zq_129 zg_3_12_25.2.2.2.1, rfl⟩
theorem zd_3_12_29 : zz_D zy_makeWaits_3_12 29 (.invokevirtual 143) 3 32 := ⟨zq_182 zg_3_12_25.2.2.2.2.1 zg_3_12_25.2.2.2.2.2.1 zg_3_12_25.2.2.2.2.2.2.1 rfl, rfl⟩
theorem zd_3_12_66 : zz_D zy_makeWaits_3_12 66 (.iload 4) 2 68 := ⟨zq_21 zg_3_12_25.2.2.2.2.2.2.2.1 zg_3_12_25.2.2.2.2.2.2.2.2.1, rfl⟩
theorem zd_3_12_68 : zz_D zy_makeWaits_3_12 68 (.iload_n 3) 1 69 := ⟨zq_29 zg_3_12_25.2.2.2.2.2.2.2.2.2.1, rfl⟩
theorem zd_3_12_69 : zz_B zy_makeWaits_3_12 69 (Instr.if_icmp .ge) 83 72 := ⟨14, zq_162 zg_3_12_25.2.2.2.2.2.2.2.2.2.2.1 zg_3_12_25.2.2.2.2.2.2.2.2.2.2.2.1 zg_3_12_25.2.2.2.2.2.2.2.2.2.2.2.2.1 (by decide), rfl, rfl⟩
theorem zd_3_12_72 : zz_D zy_makeWaits_3_12 72 (.aload_n 0) 1 73 := ⟨zq_42 zg_3_12_25.2.2.2.2.2.2.2.2.2.2.2.2.2.1, rfl⟩
theorem zd_3_12_73 : zz_D zy_makeWaits_3_12 73 (.lload_n 1) 1 74 := ⟨zq_31 zg_3_12_25.2.2.2.2.2.2.2.2.2.2.2.2.2.2.1, rfl⟩
theorem zd_3_12_74 : zz_D zy_makeWaits_3_12 74 (.invokevirtual 143) 3 77 := ⟨zq_182 zg_3_12_25.2.2.2.2.2.2.2.2.2.2.2.2.2.2.2.1 zg_3_12_25.2.2.2.2.2.2.2.2.2.2.2.2.2.2.2.2.1 zg_3_12_25.2.2.2.2.2.2.2.2.2.2.2.2.2.2.2.2.2.1 rfl, rfl⟩
theorem zd_3_12_77 : zz_D zy_makeWaits_3_12 77 (.iinc 4 1) 3 80 := ⟨zq_132 zg_3_12_25.2.2.2.2.2.2.2.2.2.2.2.2.2.2.2.2.2.2.1 zg_3_12_25.2.2.2.2.2.2.2.2.2.2.2.2.2.2.2.2.2.2.2.1 zg_3_12_25.2.2.2.2.2.2.2.2.2.2.2.2.2.2.2.2.2.2.2.2.1 (by decide), rfl⟩
theorem zd_3_12_80 : zz_B zy_makeWaits_3_12 80 Instr.goto 66 83 := ⟨(-14), zq_167 zg_3_12_25.2.2.2.2.2.2.2.2.2.2.2.2.2.2.2.2.2.2.2.2.2.1 zg_3_12_25.2.2.2.2.2.2.2.2.2.2.2.2.2.2.2.2.2.2.2.2.2.2.1 zg_3_12_25.2.2.2.2.2.2.2.2.2.2.2.2.2.2.2.2.2.2.2.2.2.2.2 (by decide), rfl, rfl⟩
theorem zg_3_12_83 : zq_at zy_makeWaits_3_12.2.1 83 177 := by decide +kernel
theorem zd_3_12_83 : zz_D zy_makeWaits_3_12 83 (.return_) 1 84 := ⟨zq_177 zg_3_12_83, rfl⟩

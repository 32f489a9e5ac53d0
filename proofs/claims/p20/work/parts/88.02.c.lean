-- TensorForge$Layer takeForm (III)V
abbrev zr_takeForm_4_3 : Room := { frames := 0, cells := 0, slots := 0, locals := 0 }
def zp_takeForm_4_3 (t : Int) (p0 : Int) (p1 : Int) (p2 : Int) (S0 : zz_S) : zz_S → Prop := fun S => zz_G S ∧ zz_fr [] [] (fun a i => (a = zz_rf 6 t ∧ i = 10) ∨ (a = zz_rf 6 t ∧ i = 11) ∨ (a = zz_rf 6 t ∧ i = 12)) S0 S ∧ (S (zz_rf 6 t) 12 = p2) ∧ (S (zz_rf 6 t) 10 = p0 ∧ S (zz_rf 6 t) 11 = p1)
theorem zc_takeForm_4_3 {g : mm_G} {l : Launch} (t : Int) (p0 : Int) (p1 : Int) (p2 : Int) (S0 : zz_S) (n : Nat) (hn : zz_end ≤ n) (G_S0 : zz_G S0) (ht : 0 ≤ t ∧ t ≤ 23) (hp0 : (-2147483648) ≤ p0 ∧ p0 ≤ 2147483647) (hp1 : (-2147483648) ≤ p1 ∧ p1 ≤ 2147483647) (hp2 : (-2147483648) ≤ p2 ∧ p2 ≤ 2147483647) : mm_Met g l zy_takeForm_4_3 zr_takeForm_4_3 [.ref (zz_rf 6 t), zi p0, zi p1, zi p2] (zz_M S0 n) n (zz_QV n (zp_takeForm_4_3 t p0 p1 p2 S0)) := by
  refine zz_enter (by decide) (Nat.le_of_ble_eq_true rfl) (zz_less (ls1 := [some (.ref (zz_rf 6 t)), some (zi p0), some (zi p1), some (zi p2)]) ⟨rfl, ⟨rfl, ⟨rfl, ⟨rfl, trivial⟩⟩⟩⟩ ?_)
  have F_S0 : zz_fr [] [] (fun a i => (a = zz_rf 6 t ∧ i = 10) ∨ (a = zz_rf 6 t ∧ i = 11) ∨ (a = zz_rf 6 t ∧ i = 12)) S0 S0 := zz_fr.refl
  have b_t := zz_rf6 (z := t) (by omega)
  refine zz_aload_n (x := zz_rf 6 t) rfl zd_4_3_0 ?_
  refine zz_iload_n (x := p0) rfl zd_4_3_1 ?_
  refine zz_puti zd_4_3_2 zf_Layer_54 (zT_k6 (by omega)) rfl (zN_k6 hn (by omega)) (fun S1 qS1 => ?_)
  have G_S1 := zz_G.put G_S0 qS1 (-2147483648) 2147483647 (zR_k6_10 (by omega)) (by omega)
  have F_S1 := zz_fr.putv F_S0 qS1 (Or.inl ⟨rfl, rfl⟩)
  refine zz_aload_n (x := zz_rf 6 t) rfl zd_4_3_5 ?_
  refine zz_iload_n (x := p1) rfl zd_4_3_6 ?_
  refine zz_puti zd_4_3_7 zf_Layer_57 (zT_k6 (by omega)) rfl (zN_k6 hn (by omega)) (fun S2 qS2 => ?_)
  have G_S2 := zz_G.put G_S1 qS2 (-2147483648) 2147483647 (zR_k6_11 (by omega)) (by omega)
  have F_S2 := zz_fr.putv F_S1 qS2 (Or.inr (Or.inl ⟨rfl, rfl⟩))
  refine zz_aload_n (x := zz_rf 6 t) rfl zd_4_3_10 ?_
  refine zz_iload_n (x := p2) rfl zd_4_3_11 ?_
  refine zz_puti zd_4_3_12 zf_Layer_60 (zT_k6 (by omega)) rfl (zN_k6 hn (by omega)) (fun S3 qS3 => ?_)
  have G_S3 := zz_G.put G_S2 qS3 (-2147483648) 2147483647 (zR_k6_12 (by omega)) (by omega)
  have F_S3 := zz_fr.putv F_S2 qS3 (Or.inr (Or.inr (⟨rfl, rfl⟩)))
  have e4 : S3 (zz_rf 6 t) 12 = p2 := (zz_rs qS3)
  have e5 : S3 (zz_rf 6 t) 10 = p0 := (zz_ro qS3 (fun h => absurd h.2 (by decide)) (zz_ro qS2 (fun h => absurd h.2 (by decide)) (zz_rs qS1)))
  have e6 : S3 (zz_rf 6 t) 11 = p1 := (zz_ro qS3 (fun h => absurd h.2 (by decide)) (zz_rs qS2))
  exact zz_vret zd_4_3_15 rfl (Nat.zero_le _) (Nat.zero_le _) ⟨_, rfl, G_S3, F_S3, by omega, by omega⟩
-- TensorForge$Layer reset (III)V
abbrev zr_reset_4_2 : Room := { frames := 1, cells := 0, slots := 0, locals := 15 }
def zp_reset_4_2 (t : Int) (p0 : Int) (p1 : Int) (p2 : Int) (S0 : zz_S) : zz_S → Prop := fun S => zz_G S ∧ zz_fr [] [] (fun a i => (a = zz_rf 6 t ∧ i = 0) ∨ (a = zz_rf 6 t ∧ i = 1) ∨ (a = zz_rf 6 t ∧ i = 10) ∨ (a = zz_rf 6 t ∧ i = 11) ∨ (a = zz_rf 6 t ∧ i = 12) ∨ (a = zz_rf 6 t ∧ i = 13) ∨ (a = zz_rf 6 t ∧ i = 14) ∨ (a = zz_rf 6 t ∧ i = 2) ∨ (a = zz_rf 6 t ∧ i = 3) ∨ (a = zz_rf 6 t ∧ i = 4) ∨ (a = zz_rf 6 t ∧ i = 5) ∨ (a = zz_rf 6 t ∧ i = 6) ∨ (a = zz_rf 6 t ∧ i = 7) ∨ (a = zz_rf 6 t ∧ i = 8) ∨ (a = zz_rf 6 t ∧ i = 9)) S0 S ∧ (S (zz_rf 6 t) 0 = p0 ∧ S (zz_rf 6 t) 3 = 1 ∧ S (zz_rf 6 t) 4 = 1 ∧ S (zz_rf 6 t) 12 = 1) ∧ (S (zz_rf 6 t) 1 = p1 ∧ S (zz_rf 6 t) 2 = p2 ∧ S (zz_rf 6 t) 5 = 1 ∧ S (zz_rf 6 t) 6 = 0 ∧ S (zz_rf 6 t) 7 = 0 ∧ S (zz_rf 6 t) 8 = 0 ∧ S (zz_rf 6 t) 9 = 0 ∧ S (zz_rf 6 t) 10 = 1 ∧ S (zz_rf 6 t) 11 = 1 ∧ S (zz_rf 6 t) 13 = 0)
theorem zc_reset_4_2 {g : mm_G} {l : Launch} (t : Int) (p0 : Int) (p1 : Int) (p2 : Int) (S0 : zz_S) (n : Nat) (hn : zz_end ≤ n) (G_S0 : zz_G S0) (ht : 0 ≤ t ∧ t ≤ 23) (hp0 : (-2147483648) ≤ p0 ∧ p0 ≤ 2147483647) (hp1 : (-2147483648) ≤ p1 ∧ p1 ≤ 2147483647) (hp2 : (-2147483648) ≤ p2 ∧ p2 ≤ 2147483647) : mm_Met g l zy_reset_4_2 zr_reset_4_2 [.ref (zz_rf 6 t), zi p0, zi p1, zi p2] (zz_M S0 n) n (zz_QV n (zp_reset_4_2 t p0 p1 p2 S0)) := by
  refine zz_enter (by decide) (Nat.le_of_ble_eq_true rfl) (zz_less (ls1 := [some (.ref (zz_rf 6 t)), some (zi p0), some (zi p1), some (zi p2)]) ⟨rfl, ⟨rfl, ⟨rfl, ⟨rfl, trivial⟩⟩⟩⟩ ?_)
  have F_S0 : zz_fr [] [] (fun a i => (a = zz_rf 6 t ∧ i = 0) ∨ (a = zz_rf 6 t ∧ i = 1) ∨ (a = zz_rf 6 t ∧ i = 10) ∨ (a = zz_rf 6 t ∧ i = 11) ∨ (a = zz_rf 6 t ∧ i = 12) ∨ (a = zz_rf 6 t ∧ i = 13) ∨ (a = zz_rf 6 t ∧ i = 14) ∨ (a = zz_rf 6 t ∧ i = 2) ∨ (a = zz_rf 6 t ∧ i = 3) ∨ (a = zz_rf 6 t ∧ i = 4) ∨ (a = zz_rf 6 t ∧ i = 5) ∨ (a = zz_rf 6 t ∧ i = 6) ∨ (a = zz_rf 6 t ∧ i = 7) ∨ (a = zz_rf 6 t ∧ i = 8) ∨ (a = zz_rf 6 t ∧ i = 9)) S0 S0 := zz_fr.refl
  have b_t := zz_rf6 (z := t) (by omega)
  refine zz_aload_n (x := zz_rf 6 t) rfl zd_4_2_0 ?_
  refine zz_iload_n (x := p0) rfl zd_4_2_1 ?_
  refine zz_puti zd_4_2_2 zf_Layer_13 (zT_k6 (by omega)) rfl (zN_k6 hn (by omega)) (fun S1 qS1 => ?_)
  have G_S1 := zz_G.put G_S0 qS1 (-2147483648) 2147483647 (zR_k6_0 (by omega)) (by omega)
  have F_S1 := zz_fr.putv F_S0 qS1 (Or.inl ⟨rfl, rfl⟩)
  refine zz_aload_n (x := zz_rf 6 t) rfl zd_4_2_5 ?_
  refine zz_iload_n (x := p1) rfl zd_4_2_6 ?_
  refine zz_puti zd_4_2_7 zf_Layer_17 (zT_k6 (by omega)) rfl (zN_k6 hn (by omega)) (fun S2 qS2 => ?_)
  have G_S2 := zz_G.put G_S1 qS2 (-2147483648) 2147483647 (zR_k6_1 (by omega)) (by omega)
  have F_S2 := zz_fr.putv F_S1 qS2 (Or.inr (Or.inl ⟨rfl, rfl⟩))
  refine zz_aload_n (x := zz_rf 6 t) rfl zd_4_2_10 ?_
  refine zz_iload_n (x := p2) rfl zd_4_2_11 ?_
  refine zz_puti zd_4_2_12 zf_Layer_20 (zT_k6 (by omega)) rfl (zN_k6 hn (by omega)) (fun S3 qS3 => ?_)
  have G_S3 := zz_G.put G_S2 qS3 (-2147483648) 2147483647 (zR_k6_2 (by omega)) (by omega)
  have F_S3 := zz_fr.putv F_S2 qS3 (Or.inr (Or.inr (Or.inr (Or.inr (Or.inr (Or.inr (Or.inr (Or.inl ⟨rfl, rfl⟩))))))))
  refine zz_aload_n (x := zz_rf 6 t) rfl zd_4_2_15 ?_
  refine zz_iconst zd_4_2_16 ?_
  refine zz_puti zd_4_2_17 zf_Layer_23 (zT_k6 (by omega)) rfl (zN_k6 hn (by omega)) (fun S4 qS4 => ?_)
  have G_S4 := zz_G.put G_S3 qS4 (-2147483648) 2147483647 (zR_k6_3 (by omega)) (by omega)
  have F_S4 := zz_fr.putv F_S3 qS4 (Or.inr (Or.inr (Or.inr (Or.inr (Or.inr (Or.inr (Or.inr (Or.inr (Or.inl ⟨rfl, rfl⟩)))))))))
  refine zz_aload_n (x := zz_rf 6 t) rfl zd_4_2_20 ?_
  refine zz_iconst zd_4_2_21 ?_
  refine zz_puti zd_4_2_22 zf_Layer_26 (zT_k6 (by omega)) rfl (zN_k6 hn (by omega)) (fun S5 qS5 => ?_)
  have G_S5 := zz_G.put G_S4 qS5 (-2147483648) 2147483647 (zR_k6_4 (by omega)) (by omega)
  have F_S5 := zz_fr.putv F_S4 qS5 (Or.inr (Or.inr (Or.inr (Or.inr (Or.inr (Or.inr (Or.inr (Or.inr (Or.inr (Or.inl ⟨rfl, rfl⟩))))))))))
  refine zz_aload_n (x := zz_rf 6 t) rfl zd_4_2_25 ?_
  refine zz_iconst zd_4_2_26 ?_
  refine zz_puti zd_4_2_27 zf_Layer_29 (zT_k6 (by omega)) rfl (zN_k6 hn (by omega)) (fun S6 qS6 => ?_)
  have G_S6 := zz_G.put G_S5 qS6 (-2147483648) 2147483647 (zR_k6_5 (by omega)) (by omega)
  have F_S6 := zz_fr.putv F_S5 qS6 (Or.inr (Or.inr (Or.inr (Or.inr (Or.inr (Or.inr (Or.inr (Or.inr (Or.inr (Or.inr (Or.inl ⟨rfl, rfl⟩)))))))))))
  refine zz_aload_n (x := zz_rf 6 t) rfl zd_4_2_30 ?_
  refine zz_iconst zd_4_2_31 ?_
  refine zz_puti zd_4_2_32 zf_Layer_32 (zT_k6 (by omega)) rfl (zN_k6 hn (by omega)) (fun S7 qS7 => ?_)
  have G_S7 := zz_G.put G_S6 qS7 (-2147483648) 2147483647 (zR_k6_6 (by omega)) (by omega)
  have F_S7 := zz_fr.putv F_S6 qS7 (Or.inr (Or.inr (Or.inr (Or.inr (Or.inr (Or.inr (Or.inr (Or.inr (Or.inr (Or.inr (Or.inr (Or.inl ⟨rfl, rfl⟩))))))))))))
  refine zz_aload_n (x := zz_rf 6 t) rfl zd_4_2_35 ?_
  refine zz_iconst zd_4_2_36 ?_
  refine zz_puti zd_4_2_37 zf_Layer_35 (zT_k6 (by omega)) rfl (zN_k6 hn (by omega)) (fun S8 qS8 => ?_)
  have G_S8 := zz_G.put G_S7 qS8 (-2147483648) 2147483647 (zR_k6_7 (by omega)) (by omega)
  have F_S8 := zz_fr.putv F_S7 qS8 (Or.inr (Or.inr (Or.inr (Or.inr (Or.inr (Or.inr (Or.inr (Or.inr (Or.inr (Or.inr (Or.inr (Or.inr (Or.inl ⟨rfl, rfl⟩)))))))))))))
  refine zz_aload_n (x := zz_rf 6 t) rfl zd_4_2_40 ?_
  refine zz_iconst zd_4_2_41 ?_
  refine zz_putz zd_4_2_42 zf_Layer_38 (zT_k6 (by omega)) rfl (zN_k6 hn (by omega)) (by omega) (fun S9 qS9 => ?_)
  have G_S9 := zz_G.put G_S8 qS9 0 1 (zR_k6_8 (by omega)) (by omega)
  have F_S9 := zz_fr.putv F_S8 qS9 (Or.inr (Or.inr (Or.inr (Or.inr (Or.inr (Or.inr (Or.inr (Or.inr (Or.inr (Or.inr (Or.inr (Or.inr (Or.inr (Or.inl ⟨rfl, rfl⟩))))))))))))))
  refine zz_aload_n (x := zz_rf 6 t) rfl zd_4_2_45 ?_
  refine zz_iconst zd_4_2_46 ?_
  refine zz_puti zd_4_2_47 zf_Layer_42 (zT_k6 (by omega)) rfl (zN_k6 hn (by omega)) (fun S10 qS10 => ?_)
  have G_S10 := zz_G.put G_S9 qS10 (-2147483648) 2147483647 (zR_k6_9 (by omega)) (by omega)
  have F_S10 := zz_fr.putv F_S9 qS10 (Or.inr (Or.inr (Or.inr (Or.inr (Or.inr (Or.inr (Or.inr (Or.inr (Or.inr (Or.inr (Or.inr (Or.inr (Or.inr (Or.inr (⟨rfl, rfl⟩)))))))))))))))
  refine zz_aload_n (x := zz_rf 6 t) rfl zd_4_2_50 ?_
  refine zz_iconst zd_4_2_51 ?_
  refine zz_iconst zd_4_2_52 ?_
  refine zz_iconst zd_4_2_53 ?_
  refine zz_callVV [zi 1, zi 1, zi 1] zd_4_2_54 zk_Layer_45 (zT_k6 (by omega)) (zN_k6 hn (by omega)) rfl rfl ⟨Nat.le_of_ble_eq_true rfl, Nat.le_of_ble_eq_true rfl⟩ ⟨rfl, rfl⟩ (Nat.zero_le _) (Nat.zero_le _) (zc_takeForm_4_3 t 1 1 1 S10 n hn G_S10 (by omega) (by omega) (by omega) (by omega)) (fun S11 hP => ?_)
  obtain ⟨G_S11, fS11, o13, o14⟩ := hP
  have F_S11 := zz_fr.trans F_S10 fS11 rfl (fun a i h => by rcases h with h | h | h; exact Or.inr (Or.inr (Or.inr (Or.inr (Or.inl h)))); exact Or.inr (Or.inr (Or.inr (Or.inr (Or.inr (Or.inl h))))); exact Or.inr (Or.inr (Or.inr (Or.inr (Or.inr (Or.inr (Or.inl h)))))))
  have b15 := zz_rf6 (z := t) (by omega)
  refine zz_aload_n (x := zz_rf 6 t) rfl zd_4_2_57 ?_
  refine zz_iconst zd_4_2_58 ?_
  refine zz_puti zd_4_2_59 zf_Layer_48 (zT_k6 (by omega)) rfl (zN_k6 hn (by omega)) (fun S16 qS16 => ?_)
  have G_S16 := zz_G.put G_S11 qS16 (-2147483648) 2147483647 (zR_k6_13 (by omega)) (by omega)
  have F_S16 := zz_fr.putv F_S11 qS16 (Or.inr (Or.inr (Or.inr (Or.inr (Or.inr (Or.inl ⟨rfl, rfl⟩))))))
  refine zz_aload_n (x := zz_rf 6 t) rfl zd_4_2_62 ?_
  refine zz_iconst zd_4_2_63 ?_
  refine zz_puti zd_4_2_64 zf_Layer_51 (zT_k6 (by omega)) rfl (zN_k6 hn (by omega)) (fun S17 qS17 => ?_)
  have G_S17 := zz_G.put G_S16 qS17 (-2147483648) 2147483647 (zR_k6_14 (by omega)) (by omega)
  have F_S17 := zz_fr.putv F_S16 qS17 (Or.inr (Or.inr (Or.inr (Or.inr (Or.inr (Or.inr (Or.inl ⟨rfl, rfl⟩)))))))
  have e18 : S17 (zz_rf 6 t) 0 = p0 := (zz_ro qS17 (fun h => absurd h.2 (by decide)) (zz_ro qS16 (fun h => absurd h.2 (by decide)) (zz_rc fS11 (zP_k6 (by omega) rfl) (zQ_k6 (by omega) rfl) (by have hz_ := zz_rf6 (z := t) (by omega); omega) (zz_ro qS10 (fun h => absurd h.2 (by decide)) (zz_ro qS9 (fun h => absurd h.2 (by decide)) (zz_ro qS8 (fun h => absurd h.2 (by decide)) (zz_ro qS7 (fun h => absurd h.2 (by decide)) (zz_ro qS6 (fun h => absurd h.2 (by decide)) (zz_ro qS5 (fun h => absurd h.2 (by decide)) (zz_ro qS4 (fun h => absurd h.2 (by decide)) (zz_ro qS3 (fun h => absurd h.2 (by decide)) (zz_ro qS2 (fun h => absurd h.2 (by decide)) (zz_rs qS1)))))))))))))
  have e19 : S17 (zz_rf 6 t) 12 = S11 (zz_rf 6 t) 12 := (zz_ro qS17 (fun h => absurd h.2 (by decide)) (zz_ro qS16 (fun h => absurd h.2 (by decide)) rfl))
  have e20 : S17 (zz_rf 6 t) 3 = 1 := (zz_ro qS17 (fun h => absurd h.2 (by decide)) (zz_ro qS16 (fun h => absurd h.2 (by decide)) (zz_rc fS11 (zP_k6 (by omega) rfl) (zQ_k6 (by omega) rfl) (by have hz_ := zz_rf6 (z := t) (by omega); omega) (zz_ro qS10 (fun h => absurd h.2 (by decide)) (zz_ro qS9 (fun h => absurd h.2 (by decide)) (zz_ro qS8 (fun h => absurd h.2 (by decide)) (zz_ro qS7 (fun h => absurd h.2 (by decide)) (zz_ro qS6 (fun h => absurd h.2 (by decide)) (zz_ro qS5 (fun h => absurd h.2 (by decide)) (zz_rs qS4))))))))))
  have e21 : S17 (zz_rf 6 t) 4 = 1 := (zz_ro qS17 (fun h => absurd h.2 (by decide)) (zz_ro qS16 (fun h => absurd h.2 (by decide)) (zz_rc fS11 (zP_k6 (by omega) rfl) (zQ_k6 (by omega) rfl) (by have hz_ := zz_rf6 (z := t) (by omega); omega) (zz_ro qS10 (fun h => absurd h.2 (by decide)) (zz_ro qS9 (fun h => absurd h.2 (by decide)) (zz_ro qS8 (fun h => absurd h.2 (by decide)) (zz_ro qS7 (fun h => absurd h.2 (by decide)) (zz_ro qS6 (fun h => absurd h.2 (by decide)) (zz_rs qS5)))))))))
  have e22 : S17 (zz_rf 6 t) 1 = p1 := (zz_ro qS17 (fun h => absurd h.2 (by decide)) (zz_ro qS16 (fun h => absurd h.2 (by decide)) (zz_rc fS11 (zP_k6 (by omega) rfl) (zQ_k6 (by omega) rfl) (by have hz_ := zz_rf6 (z := t) (by omega); omega) (zz_ro qS10 (fun h => absurd h.2 (by decide)) (zz_ro qS9 (fun h => absurd h.2 (by decide)) (zz_ro qS8 (fun h => absurd h.2 (by decide)) (zz_ro qS7 (fun h => absurd h.2 (by decide)) (zz_ro qS6 (fun h => absurd h.2 (by decide)) (zz_ro qS5 (fun h => absurd h.2 (by decide)) (zz_ro qS4 (fun h => absurd h.2 (by decide)) (zz_ro qS3 (fun h => absurd h.2 (by decide)) (zz_rs qS2))))))))))))
  have e23 : S17 (zz_rf 6 t) 10 = S11 (zz_rf 6 t) 10 := (zz_ro qS17 (fun h => absurd h.2 (by decide)) (zz_ro qS16 (fun h => absurd h.2 (by decide)) rfl))
  have e24 : S17 (zz_rf 6 t) 11 = S11 (zz_rf 6 t) 11 := (zz_ro qS17 (fun h => absurd h.2 (by decide)) (zz_ro qS16 (fun h => absurd h.2 (by decide)) rfl))
  have e25 : S17 (zz_rf 6 t) 13 = 0 := (zz_ro qS17 (fun h => absurd h.2 (by decide)) (zz_rs qS16))
  have e26 : S17 (zz_rf 6 t) 2 = p2 := (zz_ro qS17 (fun h => absurd h.2 (by decide)) (zz_ro qS16 (fun h => absurd h.2 (by decide)) (zz_rc fS11 (zP_k6 (by omega) rfl) (zQ_k6 (by omega) rfl) (by have hz_ := zz_rf6 (z := t) (by omega); omega) (zz_ro qS10 (fun h => absurd h.2 (by decide)) (zz_ro qS9 (fun h => absurd h.2 (by decide)) (zz_ro qS8 (fun h => absurd h.2 (by decide)) (zz_ro qS7 (fun h => absurd h.2 (by decide)) (zz_ro qS6 (fun h => absurd h.2 (by decide)) (zz_ro qS5 (fun h => absurd h.2 (by decide)) (zz_ro qS4 (fun h => absurd h.2 (by decide)) (zz_rs qS3)))))))))))
  have e27 : S17 (zz_rf 6 t) 5 = 1 := (zz_ro qS17 (fun h => absurd h.2 (by decide)) (zz_ro qS16 (fun h => absurd h.2 (by decide)) (zz_rc fS11 (zP_k6 (by omega) rfl) (zQ_k6 (by omega) rfl) (by have hz_ := zz_rf6 (z := t) (by omega); omega) (zz_ro qS10 (fun h => absurd h.2 (by decide)) (zz_ro qS9 (fun h => absurd h.2 (by decide)) (zz_ro qS8 (fun h => absurd h.2 (by decide)) (zz_ro qS7 (fun h => absurd h.2 (by decide)) (zz_rs qS6))))))))
  have e28 : S17 (zz_rf 6 t) 6 = 0 := (zz_ro qS17 (fun h => absurd h.2 (by decide)) (zz_ro qS16 (fun h => absurd h.2 (by decide)) (zz_rc fS11 (zP_k6 (by omega) rfl) (zQ_k6 (by omega) rfl) (by have hz_ := zz_rf6 (z := t) (by omega); omega) (zz_ro qS10 (fun h => absurd h.2 (by decide)) (zz_ro qS9 (fun h => absurd h.2 (by decide)) (zz_ro qS8 (fun h => absurd h.2 (by decide)) (zz_rs qS7)))))))
  have e29 : S17 (zz_rf 6 t) 7 = 0 := (zz_ro qS17 (fun h => absurd h.2 (by decide)) (zz_ro qS16 (fun h => absurd h.2 (by decide)) (zz_rc fS11 (zP_k6 (by omega) rfl) (zQ_k6 (by omega) rfl) (by have hz_ := zz_rf6 (z := t) (by omega); omega) (zz_ro qS10 (fun h => absurd h.2 (by decide)) (zz_ro qS9 (fun h => absurd h.2 (by decide)) (zz_rs qS8))))))
  have e30 : S17 (zz_rf 6 t) 8 = 0 := (zz_ro qS17 (fun h => absurd h.2 (by decide)) (zz_ro qS16 (fun h => absurd h.2 (by decide)) (zz_rc fS11 (zP_k6 (by omega) rfl) (zQ_k6 (by omega) rfl) (by have hz_ := zz_rf6 (z := t) (by omega); omega) (zz_ro qS10 (fun h => absurd h.2 (by decide)) (zz_rs qS9)))))
  have e31 : S17 (zz_rf 6 t) 9 = 0 := (zz_ro qS17 (fun h => absurd h.2 (by decide)) (zz_ro qS16 (fun h => absurd h.2 (by decide)) (zz_rc fS11 (zP_k6 (by omega) rfl) (zQ_k6 (by omega) rfl) (by have hz_ := zz_rf6 (z := t) (by omega); omega) (zz_rs qS10))))
  exact zz_vret zd_4_2_67 rfl (Nat.zero_le _) (Nat.zero_le _) ⟨_, rfl, G_S17, F_S17, by omega, by omega⟩
theorem zk_Network_27 : mm_Vl "TensorForge$Network" 27 2 3 zy_reset_4_2 := ⟨zyw_reset_4_2, (R_Layer, F_Layer, 15), rfl, mm_tb_1 1034 (by decide +kernel) rfl, mm_tb_1 50 (by decide +kernel) rfl, mm_tb_1 51 (by decide +kernel) rfl⟩
theorem zk_Network_31 : mm_Vl "TensorForge$Network" 31 2 3 zy_takeForm_4_3 := ⟨zyw_takeForm_4_3, (R_Layer, F_Layer, 15), rfl, mm_tb_1 1035 (by decide +kernel) rfl, mm_tb_1 54 (by decide +kernel) rfl, mm_tb_1 55 (by decide +kernel) rfl⟩
theorem zg_7_3_16 : (decode zy_beginWith_7_3.2.1 16 = .ok ((.aload_n 0), 1)) ∧ (decode zy_beginWith_7_3.2.1 17 = .ok ((.getfield 11), 3)) ∧ (decode zy_beginWith_7_3.2.1 20 = .ok ((.iconst 0), 1)) ∧ (decode zy_beginWith_7_3.2.1 21 = .ok ((.aaload), 1)) ∧ (decode zy_beginWith_7_3.2.1 22 = .ok ((.iload_n 1), 1)) ∧ (decode zy_beginWith_7_3.2.1 23 = .ok ((.iload_n 2), 1)) ∧ (decode zy_beginWith_7_3.2.1 24 = .ok ((.iload_n 3), 1)) ∧ (decode zy_beginWith_7_3.2.1 25 = .ok ((.invokevirtual 31), 3)) ∧ (decode zy_beginWith_7_3.2.1 28 = .ok ((.return_), 1)) := by decide +kernel
theorem zd_7_3_16 : zz_D zy_beginWith_7_3 16 (.aload_n 0) 1 17 := ⟨zg_7_3_16.1, rfl⟩
theorem zd_7_3_17 : zz_D zy_beginWith_7_3 17 (.getfield 11) 3 20 := ⟨zg_7_3_16.2.1, rfl⟩
theorem zd_7_3_20 : zz_D zy_beginWith_7_3 20 (.iconst 0) 1 21 := ⟨zg_7_3_16.2.2.1, rfl⟩
theorem zd_7_3_21 : zz_D zy_beginWith_7_3 21 (.aaload) 1 22 := ⟨zg_7_3_16.2.2.2.1, rfl⟩
theorem zd_7_3_22 : zz_D zy_beginWith_7_3 22 (.iload_n 1) 1 23 := ⟨zg_7_3_16.2.2.2.2.1, rfl⟩
theorem zd_7_3_23 : zz_D zy_beginWith_7_3 23 (.iload_n 2) 1 24 := ⟨zg_7_3_16.2.2.2.2.2.1, rfl⟩
theorem zd_7_3_24 : zz_D zy_beginWith_7_3 24 (.iload_n 3) 1 25 := ⟨zg_7_3_16.2.2.2.2.2.2.1, rfl⟩
theorem zd_7_3_25 : zz_D zy_beginWith_7_3 25 (.invokevirtual 31) 3 28 := ⟨zg_7_3_16.2.2.2.2.2.2.2.1, rfl⟩
theorem zd_7_3_28 : zz_D zy_beginWith_7_3 28 (.return_) 1 29 := ⟨zg_7_3_16.2.2.2.2.2.2.2.2, rfl⟩
-- TensorForge$Network beginWith (III)V
abbrev zr_beginWith_7_3 : Room := { frames := 2, cells := 0, slots := 0, locals := 30 }
def zp_beginWith_7_3 (t : Int) (p0 : Int) (p1 : Int) (p2 : Int) (S0 : zz_S) : zz_S → Prop := fun S => zz_G S ∧ zz_fr [] [] (fun a i => (a = zz_rf 3 t ∧ i = 1) ∨ (a = zz_rf 6 (12 * t + 0) ∧ i = 0) ∨ (a = zz_rf 6 (12 * t + 0) ∧ i = 1) ∨ (a = zz_rf 6 (12 * t + 0) ∧ i = 10) ∨ (a = zz_rf 6 (12 * t + 0) ∧ i = 11) ∨ (a = zz_rf 6 (12 * t + 0) ∧ i = 12) ∨ (a = zz_rf 6 (12 * t + 0) ∧ i = 13) ∨ (a = zz_rf 6 (12 * t + 0) ∧ i = 14) ∨ (a = zz_rf 6 (12 * t + 0) ∧ i = 2) ∨ (a = zz_rf 6 (12 * t + 0) ∧ i = 3) ∨ (a = zz_rf 6 (12 * t + 0) ∧ i = 4) ∨ (a = zz_rf 6 (12 * t + 0) ∧ i = 5) ∨ (a = zz_rf 6 (12 * t + 0) ∧ i = 6) ∨ (a = zz_rf 6 (12 * t + 0) ∧ i = 7) ∨ (a = zz_rf 6 (12 * t + 0) ∧ i = 8) ∨ (a = zz_rf 6 (12 * t + 0) ∧ i = 9)) S0 S ∧ (S (zz_rf 3 t) 1 = 1) ∧ (0 ≤ S (zz_rf 6 (12 * t + 0)) 3 ∧ S (zz_rf 6 (12 * t + 0)) 0 = 0 ∧ S (zz_rf 6 (12 * t + 0)) 4 = 1 ∧ S (zz_rf 6 (12 * t + 0)) 12 ≤ 63 ∧ S (zz_rf 6 (12 * t + 0)) 3 = 1) ∧ (∀ nm : Int, zn_C S t (zn_ip p0 p1 p2 nm)) ∧ (zz_Hc S)
theorem zc_beginWith_7_3 {g : mm_G} {l : Launch} (t : Int) (p0 : Int) (p1 : Int) (p2 : Int) (S0 : zz_S) (n : Nat) (hn : zz_end ≤ n) (G_S0 : zz_G S0) (ht : 0 ≤ t ∧ t ≤ 1) (hp0 : (-2147483648) ≤ p0 ∧ p0 ≤ 2147483647) (hp1 : (-2147483648) ≤ p1 ∧ p1 ≤ 2147483647) (hp2 : 1 ≤ p2 ∧ p2 ≤ 63) (H_S0 : zz_Hc S0) : mm_Met g l zy_beginWith_7_3 zr_beginWith_7_3 [.ref (zz_rf 3 t), zi p0, zi p1, zi p2] (zz_M S0 n) n (zz_QV n (zp_beginWith_7_3 t p0 p1 p2 S0)) := by
  refine zz_enter (by decide) (Nat.le_of_ble_eq_true rfl) (zz_less (ls1 := [some (.ref (zz_rf 3 t)), some (zi p0), some (zi p1), some (zi p2)]) ⟨rfl, ⟨rfl, ⟨rfl, ⟨rfl, trivial⟩⟩⟩⟩ ?_)
  have F_S0 : zz_fr [] [] (fun a i => (a = zz_rf 3 t ∧ i = 1) ∨ (a = zz_rf 6 (12 * t + 0) ∧ i = 0) ∨ (a = zz_rf 6 (12 * t + 0) ∧ i = 1) ∨ (a = zz_rf 6 (12 * t + 0) ∧ i = 10) ∨ (a = zz_rf 6 (12 * t + 0) ∧ i = 11) ∨ (a = zz_rf 6 (12 * t + 0) ∧ i = 12) ∨ (a = zz_rf 6 (12 * t + 0) ∧ i = 13) ∨ (a = zz_rf 6 (12 * t + 0) ∧ i = 14) ∨ (a = zz_rf 6 (12 * t + 0) ∧ i = 2) ∨ (a = zz_rf 6 (12 * t + 0) ∧ i = 3) ∨ (a = zz_rf 6 (12 * t + 0) ∧ i = 4) ∨ (a = zz_rf 6 (12 * t + 0) ∧ i = 5) ∨ (a = zz_rf 6 (12 * t + 0) ∧ i = 6) ∨ (a = zz_rf 6 (12 * t + 0) ∧ i = 7) ∨ (a = zz_rf 6 (12 * t + 0) ∧ i = 8) ∨ (a = zz_rf 6 (12 * t + 0) ∧ i = 9)) S0 S0 := zz_fr.refl
  have b_t := zz_rf3 (z := t) (by omega)
  refine zz_aload_n (x := zz_rf 3 t) rfl zd_7_3_0 ?_
  refine zz_callVV [] zd_7_3_1 zk_Network_24 (zT_k3 (by omega)) (zN_k3 hn (by omega)) rfl rfl ⟨Nat.le_of_ble_eq_true rfl, Nat.le_of_ble_eq_true rfl⟩ ⟨rfl, rfl⟩ (Nat.zero_le _) (Nat.zero_le _) (zc_dropLayers_7_4 t S0 n hn G_S0 (by omega) H_S0) (fun S1 hP => ?_)
  obtain ⟨G_S1, fS1, o3, o4⟩ := hP
  have F_S1 := zz_fr.trans F_S0 fS1 rfl (fun a i h => Or.inr (Or.inr (Or.inl h)))
  have b5 := zz_rf3 (z := t) (by omega)
  refine zz_aload_n (x := zz_rf 3 t) rfl zd_7_3_4 ?_
  refine zz_getr (kd := 0) (z := ((zz_rf 3 t + 1 : Nat) : Int)) zd_7_3_5 zf_Network_11 (zT_k3 (by omega)) rfl (zN_k3 hn (by omega)) (zE_k3a G_S1 (by omega)) (Int.natCast_nonneg _) (zz_rf 3 t + 1) (Int.toNat_natCast _) ?_
  refine zz_iconst zd_7_3_8 ?_
  refine zz_aald (kd := 4) (z := 12 * t + 0) zd_7_3_9 (zT_k3a (by omega)) rfl (zN_k3a hn (by omega)) (by decide) (by omega) (zE_lay G_S1 (by omega) (by omega)) (by omega) (zz_rf 6 (12 * t + 0)) rfl ?_
  refine zz_iconst zd_7_3_10 ?_
  refine zz_iconst zd_7_3_11 ?_
  refine zz_iconst zd_7_3_12 ?_
  refine zz_callVV [zi 0, zi 0, zi 0] zd_7_3_13 zk_Network_27 (zT_k6 (by omega)) (zN_k6 hn (by omega)) rfl rfl ⟨Nat.le_of_ble_eq_true rfl, Nat.le_of_ble_eq_true rfl⟩ ⟨rfl, rfl⟩ (Nat.zero_le _) (Nat.zero_le _) (zc_reset_4_2 (12 * t + 0) 0 0 0 S1 n hn G_S1 (by omega) (by omega) (by omega) (by omega)) (fun S6 hP => ?_)
  obtain ⟨G_S6, fS6, o8, o9⟩ := hP
  have F_S6 := zz_fr.trans F_S1 fS6 rfl (fun a i h => by rcases h with h | h | h | h | h | h | h | h | h | h | h | h | h | h | h; exact Or.inr (Or.inr (Or.inr (Or.inl h))); exact Or.inr (Or.inr (Or.inr (Or.inr (Or.inl h)))); exact Or.inr (Or.inr (Or.inr (Or.inr (Or.inr (Or.inl h))))); exact Or.inr (Or.inr (Or.inr (Or.inr (Or.inr (Or.inr (Or.inl h)))))); exact Or.inr (Or.inr (Or.inr (Or.inr (Or.inr (Or.inr (Or.inr (Or.inl h))))))); exact Or.inr (Or.inr (Or.inr (Or.inr (Or.inr (Or.inr (Or.inr (Or.inr (Or.inl h)))))))); exact Or.inr (Or.inr (Or.inr (Or.inr (Or.inr (Or.inr (Or.inr (Or.inr (Or.inr (Or.inl h))))))))); exact Or.inr (Or.inr (Or.inr (Or.inr (Or.inr (Or.inr (Or.inr (Or.inr (Or.inr (Or.inr (Or.inl h)))))))))); exact Or.inr (Or.inr (Or.inr (Or.inr (Or.inr (Or.inr (Or.inr (Or.inr (Or.inr (Or.inr (Or.inr (Or.inl h))))))))))); exact Or.inr (Or.inr (Or.inr (Or.inr (Or.inr (Or.inr (Or.inr (Or.inr (Or.inr (Or.inr (Or.inr (Or.inr (Or.inl h)))))))))))); exact Or.inr (Or.inr (Or.inr (Or.inr (Or.inr (Or.inr (Or.inr (Or.inr (Or.inr (Or.inr (Or.inr (Or.inr (Or.inr (Or.inl h))))))))))))); exact Or.inr (Or.inr (Or.inr (Or.inr (Or.inr (Or.inr (Or.inr (Or.inr (Or.inr (Or.inr (Or.inr (Or.inr (Or.inr (Or.inr (Or.inl h)))))))))))))); exact Or.inr (Or.inr (Or.inr (Or.inr (Or.inr (Or.inr (Or.inr (Or.inr (Or.inr (Or.inr (Or.inr (Or.inr (Or.inr (Or.inr (Or.inr (Or.inl h))))))))))))))); exact Or.inr (Or.inr (Or.inr (Or.inr (Or.inr (Or.inr (Or.inr (Or.inr (Or.inr (Or.inr (Or.inr (Or.inr (Or.inr (Or.inr (Or.inr (Or.inr (Or.inl h)))))))))))))))); exact Or.inr (Or.inr (Or.inr (Or.inr (Or.inr (Or.inr (Or.inr (Or.inr (Or.inr (Or.inr (Or.inr (Or.inr (Or.inr (Or.inr (Or.inr (Or.inr (Or.inr (h))))))))))))))))))
  have b10 := zz_rf6 (z := (12 * t + 0)) (by omega)
  refine zz_aload_n (x := zz_rf 3 t) rfl zd_7_3_16 ?_
  refine zz_getr (kd := 0) (z := ((zz_rf 3 t + 1 : Nat) : Int)) zd_7_3_17 zf_Network_11 (zT_k3 (by omega)) rfl (zN_k3 hn (by omega)) (zE_k3a G_S6 (by omega)) (Int.natCast_nonneg _) (zz_rf 3 t + 1) (Int.toNat_natCast _) ?_
  refine zz_iconst zd_7_3_20 ?_
  refine zz_aald (kd := 4) (z := 12 * t + 0) zd_7_3_21 (zT_k3a (by omega)) rfl (zN_k3a hn (by omega)) (by decide) (by omega) (zE_lay G_S6 (by omega) (by omega)) (by omega) (zz_rf 6 (12 * t + 0)) rfl ?_
  refine zz_iload_n (x := p0) rfl zd_7_3_22 ?_
  refine zz_iload_n (x := p1) rfl zd_7_3_23 ?_
  refine zz_iload_n (x := p2) rfl zd_7_3_24 ?_
  refine zz_callVV [zi p0, zi p1, zi p2] zd_7_3_25 zk_Network_31 (zT_k6 (by omega)) (zN_k6 hn (by omega)) rfl rfl ⟨Nat.le_of_ble_eq_true rfl, Nat.le_of_ble_eq_true rfl⟩ ⟨rfl, rfl⟩ (Nat.zero_le _) (Nat.zero_le _) (zc_takeForm_4_3 (12 * t + 0) p0 p1 p2 S6 n hn G_S6 (by omega) (by omega) (by omega) (by omega)) (fun S11 hP => ?_)
  obtain ⟨G_S11, fS11, o13, o14⟩ := hP
  have F_S11 := zz_fr.trans F_S6 fS11 rfl (fun a i h => by rcases h with h | h | h; exact Or.inr (Or.inr (Or.inr (Or.inr (Or.inr (Or.inl h))))); exact Or.inr (Or.inr (Or.inr (Or.inr (Or.inr (Or.inr (Or.inl h)))))); exact Or.inr (Or.inr (Or.inr (Or.inr (Or.inr (Or.inr (Or.inr (Or.inl h))))))))
  have e15 : S11 (zz_rf 3 t) 1 = S1 (zz_rf 3 t) 1 := (zz_rc fS11 (zP_k3 (by omega) rfl) (zQ_k3 (by omega) rfl) (by have hz_ := zz_rf3 (z := t) (by omega); omega) (zz_rc fS6 (zP_k3 (by omega) rfl) (zQ_k3 (by omega) rfl) (by have hz_ := zz_rf3 (z := t) (by omega); omega) rfl))
  have e16 : S11 (zz_rf 6 (12 * t + 0)) 0 = S6 (zz_rf 6 (12 * t + 0)) 0 := (zz_rc fS11 (zP_k6 (by omega) rfl) (zQ_k6 (by omega) rfl) (by have hz_ := zz_rf6 (z := 12 * t + 0) (by omega); omega) rfl)
  have e17 : S11 (zz_rf 6 (12 * t + 0)) 3 = S6 (zz_rf 6 (12 * t + 0)) 3 := (zz_rc fS11 (zP_k6 (by omega) rfl) (zQ_k6 (by omega) rfl) (by have hz_ := zz_rf6 (z := 12 * t + 0) (by omega); omega) rfl)
  have e18 : S11 (zz_rf 6 (12 * t + 0)) 4 = S6 (zz_rf 6 (12 * t + 0)) 4 := (zz_rc fS11 (zP_k6 (by omega) rfl) (zQ_k6 (by omega) rfl) (by have hz_ := zz_rf6 (z := 12 * t + 0) (by omega); omega) rfl)
  have e19 : S11 (zz_rf 6 (12 * t + 0)) 1 = S6 (zz_rf 6 (12 * t + 0)) 1 := (zz_rc fS11 (zP_k6 (by omega) rfl) (zQ_k6 (by omega) rfl) (by have hz_ := zz_rf6 (z := 12 * t + 0) (by omega); omega) rfl)
  have e20 : S11 (zz_rf 6 (12 * t + 0)) 13 = S6 (zz_rf 6 (12 * t + 0)) 13 := (zz_rc fS11 (zP_k6 (by omega) rfl) (zQ_k6 (by omega) rfl) (by have hz_ := zz_rf6 (z := 12 * t + 0) (by omega); omega) rfl)
  have e21 : S11 (zz_rf 6 (12 * t + 0)) 2 = S6 (zz_rf 6 (12 * t + 0)) 2 := (zz_rc fS11 (zP_k6 (by omega) rfl) (zQ_k6 (by omega) rfl) (by have hz_ := zz_rf6 (z := 12 * t + 0) (by omega); omega) rfl)
  have e22 : S11 (zz_rf 6 (12 * t + 0)) 5 = S6 (zz_rf 6 (12 * t + 0)) 5 := (zz_rc fS11 (zP_k6 (by omega) rfl) (zQ_k6 (by omega) rfl) (by have hz_ := zz_rf6 (z := 12 * t + 0) (by omega); omega) rfl)
  have e23 : S11 (zz_rf 6 (12 * t + 0)) 6 = S6 (zz_rf 6 (12 * t + 0)) 6 := (zz_rc fS11 (zP_k6 (by omega) rfl) (zQ_k6 (by omega) rfl) (by have hz_ := zz_rf6 (z := 12 * t + 0) (by omega); omega) rfl)
  have e24 : S11 (zz_rf 6 (12 * t + 0)) 7 = S6 (zz_rf 6 (12 * t + 0)) 7 := (zz_rc fS11 (zP_k6 (by omega) rfl) (zQ_k6 (by omega) rfl) (by have hz_ := zz_rf6 (z := 12 * t + 0) (by omega); omega) rfl)
  have e25 : S11 (zz_rf 6 (12 * t + 0)) 8 = S6 (zz_rf 6 (12 * t + 0)) 8 := (zz_rc fS11 (zP_k6 (by omega) rfl) (zQ_k6 (by omega) rfl) (by have hz_ := zz_rf6 (z := 12 * t + 0) (by omega); omega) rfl)
  have e26 : S11 (zz_rf 6 (12 * t + 0)) 9 = S6 (zz_rf 6 (12 * t + 0)) 9 := (zz_rc fS11 (zP_k6 (by omega) rfl) (zQ_k6 (by omega) rfl) (by have hz_ := zz_rf6 (z := 12 * t + 0) (by omega); omega) rfl)
  exact zz_vret zd_7_3_28 rfl (Nat.zero_le _) (Nat.zero_le _) ⟨_, rfl, G_S11, F_S11, by omega, by omega, (fun nm => zn_C.ip (by omega) (by omega) (by omega) (by omega) (by omega) (by omega) (by omega) (by omega) (by omega) (by omega) (by omega) (by omega) (by omega) (by omega) (by omega)), (zz_Hc.one (q := t) (z := 12 * t + 0) F_S11 rfl rfl G_S0 (by omega) (by omega) (fun a i h => by omega) (by omega) (by unfold zz_ly; omega) H_S0)⟩
theorem zk_TF_216 : mm_Vl "TensorForge" 216 1 3 zy_beginWith_7_3 := ⟨zyw_beginWith_7_3, (R_Network, F_Network, 2), rfl, mm_tb_1 1352 (by decide +kernel) rfl, mm_tb_1 1027 (by decide +kernel) rfl, mm_tb_1 1028 (by decide +kernel) rfl⟩
theorem zd_1_18_29 : zz_D zy_input_1_18 29 (.return_) 1 30 := ⟨by decide +kernel, rfl⟩
-- TensorForge input (III)V
abbrev zr_input_1_18 : Room := { frames := 6, cells := 1, slots := 6, locals := 82 }
def zp_input_1_18 (p0 : Int) (p1 : Int) (p2 : Int) (S0 : zz_S) : zz_S → Prop := fun S => zz_G S ∧ zz_fr [] [] (fun a i => (a = zz_rf 3 (S0 1000 7) ∧ i = 1) ∨ (a = zz_rf 6 (12 * (S0 1000 7) + 0) ∧ i = 0) ∨ (a = zz_rf 6 (12 * (S0 1000 7) + 0) ∧ i = 1) ∨ (a = zz_rf 6 (12 * (S0 1000 7) + 0) ∧ i = 10) ∨ (a = zz_rf 6 (12 * (S0 1000 7) + 0) ∧ i = 11) ∨ (a = zz_rf 6 (12 * (S0 1000 7) + 0) ∧ i = 12) ∨ (a = zz_rf 6 (12 * (S0 1000 7) + 0) ∧ i = 13) ∨ (a = zz_rf 6 (12 * (S0 1000 7) + 0) ∧ i = 14) ∨ (a = zz_rf 6 (12 * (S0 1000 7) + 0) ∧ i = 2) ∨ (a = zz_rf 6 (12 * (S0 1000 7) + 0) ∧ i = 3) ∨ (a = zz_rf 6 (12 * (S0 1000 7) + 0) ∧ i = 4) ∨ (a = zz_rf 6 (12 * (S0 1000 7) + 0) ∧ i = 5) ∨ (a = zz_rf 6 (12 * (S0 1000 7) + 0) ∧ i = 6) ∨ (a = zz_rf 6 (12 * (S0 1000 7) + 0) ∧ i = 7) ∨ (a = zz_rf 6 (12 * (S0 1000 7) + 0) ∧ i = 8) ∨ (a = zz_rf 6 (12 * (S0 1000 7) + 0) ∧ i = 9)) S0 S ∧ (1 ≤ p0 ∧ p0 ≤ 63 ∧ 1 ≤ p1 ∧ p1 ≤ 63 ∧ 1 ≤ p2 ∧ p2 ≤ 63 ∧ (p0 * p1) * p2 ≤ 2048) ∧ (∀ nm : Int, zn_C S (S0 1000 7) (zn_ip p0 p1 p2 nm)) ∧ (zz_Hc S)
def zx_input_1_18 (p0 : Int) (p1 : Int) (p2 : Int) (S0 : zz_S) : Nat → zz_S → Prop := fun i S => zz_G S ∧ zz_fr [] [] (fun a i => (a = zz_rf 3 (S0 1000 7) ∧ i = 1) ∨ (a = zz_rf 6 (12 * (S0 1000 7) + 0) ∧ i = 0) ∨ (a = zz_rf 6 (12 * (S0 1000 7) + 0) ∧ i = 1) ∨ (a = zz_rf 6 (12 * (S0 1000 7) + 0) ∧ i = 10) ∨ (a = zz_rf 6 (12 * (S0 1000 7) + 0) ∧ i = 11) ∨ (a = zz_rf 6 (12 * (S0 1000 7) + 0) ∧ i = 12) ∨ (a = zz_rf 6 (12 * (S0 1000 7) + 0) ∧ i = 13) ∨ (a = zz_rf 6 (12 * (S0 1000 7) + 0) ∧ i = 14) ∨ (a = zz_rf 6 (12 * (S0 1000 7) + 0) ∧ i = 2) ∨ (a = zz_rf 6 (12 * (S0 1000 7) + 0) ∧ i = 3) ∨ (a = zz_rf 6 (12 * (S0 1000 7) + 0) ∧ i = 4) ∨ (a = zz_rf 6 (12 * (S0 1000 7) + 0) ∧ i = 5) ∨ (a = zz_rf 6 (12 * (S0 1000 7) + 0) ∧ i = 6) ∨ (a = zz_rf 6 (12 * (S0 1000 7) + 0) ∧ i = 7) ∨ (a = zz_rf 6 (12 * (S0 1000 7) + 0) ∧ i = 8) ∨ (a = zz_rf 6 (12 * (S0 1000 7) + 0) ∧ i = 9)) S0 S ∧ (i < 4) ∧ (i = 0 ∧ (p0 < 1 ∨ 63 < p0 ∨ p1 < 1 ∨ 63 < p1 ∨ p2 < 1 ∨ 63 < p2 ∨ 2048 < (p0 * p1) * p2)) ∧ (∀ v : zn_T, zn_C S0 (S0 1000 7) v → zn_C S (S0 1000 7) v) ∧ (zz_Hc S)
theorem zc_input_1_18 {g : mm_G} {l : Launch} (p0 : Int) (p1 : Int) (p2 : Int) (S0 : zz_S) (n : Nat) (hn : zz_end ≤ n) (hfl : l.flags = flags0) (G_S0 : zz_G S0) (hp0 : (-2147483648) ≤ p0 ∧ p0 ≤ 2147483647) (hp1 : (-2147483648) ≤ p1 ∧ p1 ≤ 2147483647) (hp2 : (-2147483648) ≤ p2 ∧ p2 ≤ 2147483647) (H_S0 : zz_Hc S0) : mm_Met g l zy_input_1_18 zr_input_1_18 [.ref 1000, zi p0, zi p1, zi p2] (zz_M S0 n) n (zz_XV n (zp_input_1_18 p0 p1 p2 S0) (zx_input_1_18 p0 p1 p2 S0)) := by
  refine zz_enter (by decide) (Nat.le_of_ble_eq_true rfl) (zz_less (ls1 := [some (.ref 1000), some (zi p0), some (zi p1), some (zi p2)]) ⟨rfl, ⟨rfl, ⟨rfl, ⟨rfl, trivial⟩⟩⟩⟩ ?_)
  have F_S0 : zz_fr [] [] (fun a i => (a = zz_rf 3 (S0 1000 7) ∧ i = 1) ∨ (a = zz_rf 6 (12 * (S0 1000 7) + 0) ∧ i = 0) ∨ (a = zz_rf 6 (12 * (S0 1000 7) + 0) ∧ i = 1) ∨ (a = zz_rf 6 (12 * (S0 1000 7) + 0) ∧ i = 10) ∨ (a = zz_rf 6 (12 * (S0 1000 7) + 0) ∧ i = 11) ∨ (a = zz_rf 6 (12 * (S0 1000 7) + 0) ∧ i = 12) ∨ (a = zz_rf 6 (12 * (S0 1000 7) + 0) ∧ i = 13) ∨ (a = zz_rf 6 (12 * (S0 1000 7) + 0) ∧ i = 14) ∨ (a = zz_rf 6 (12 * (S0 1000 7) + 0) ∧ i = 2) ∨ (a = zz_rf 6 (12 * (S0 1000 7) + 0) ∧ i = 3) ∨ (a = zz_rf 6 (12 * (S0 1000 7) + 0) ∧ i = 4) ∨ (a = zz_rf 6 (12 * (S0 1000 7) + 0) ∧ i = 5) ∨ (a = zz_rf 6 (12 * (S0 1000 7) + 0) ∧ i = 6) ∨ (a = zz_rf 6 (12 * (S0 1000 7) + 0) ∧ i = 7) ∨ (a = zz_rf 6 (12 * (S0 1000 7) + 0) ∧ i = 8) ∨ (a = zz_rf 6 (12 * (S0 1000 7) + 0) ∧ i = 9)) S0 S0 := zz_fr.refl
  refine zz_iload_n (x := p0) rfl zd_1_18_0 ?_
  refine zz_iload_n (x := p1) rfl zd_1_18_1 ?_
  refine zz_iload_n (x := p2) rfl zd_1_18_2 ?_
  refine zz_callSI [zi p0, zi p1, zi p2] zd_1_18_3 zk_TF_210 rfl rfl ⟨Nat.le_of_ble_eq_true rfl, Nat.le_of_ble_eq_true rfl⟩ ⟨rfl, rfl⟩ (Nat.zero_le _) (Nat.zero_le _) (zc_inputFits_7_2 p0 p1 p2 S0 n hn G_S0 (by omega) (by omega) (by omega)) (fun v2 S1 hP => ?_)
  obtain ⟨rfl, o3, o4⟩ := hP
  rcases (by omega : v2 = 0 ∨ v2 = 1) with rfl | rfl
  · refine zz_if_ne (by omega) zd_1_18_6 (fun c5 => ?_) (fun c5 => ?_)
    · exfalso; omega
    · exact zz_throw (i := 0) hfl hn zt_1_18_9 zyw_input_1_18 zxl_TF_87_214_91 (Nat.le_of_ble_eq_true rfl) (Nat.le_of_ble_eq_true rfl) ⟨Nat.le_of_ble_eq_true rfl, Nat.le_of_ble_eq_true rfl⟩ (Or.inr ⟨_, _, rfl, G_S0, F_S0, by omega, by omega, fun v h => h, H_S0⟩)
  · refine zz_if_ne (by omega) zd_1_18_6 (fun c6 => ?_) (fun c6 => ?_)
    · refine zz_aload_n (x := 1000) rfl zd_1_18_19 ?_
      have g7 := zz_G.r G_S0 1000 7 0 1 rfl rfl
      refine zz_getr (kd := 1) (z := S0 1000 7) zd_1_18_20 zf_TF_10 zT_1000 rfl (zz_ltn hn rfl) rfl (by omega) (zz_rf 3 (S0 1000 7)) rfl ?_
      refine zz_iload_n (x := p0) rfl zd_1_18_23 ?_
      refine zz_iload_n (x := p1) rfl zd_1_18_24 ?_
      refine zz_iload_n (x := p2) rfl zd_1_18_25 ?_
      refine zz_callVV [zi p0, zi p1, zi p2] zd_1_18_26 zk_TF_216 (zT_k3 (by omega)) (zN_k3 hn (by omega)) rfl rfl ⟨Nat.le_of_ble_eq_true rfl, Nat.le_of_ble_eq_true rfl⟩ ⟨rfl, rfl⟩ (Nat.zero_le _) (Nat.zero_le _) (zc_beginWith_7_3 (S0 1000 7) p0 p1 p2 S0 n hn G_S0 (by omega) (by omega) (by omega) (by omega) H_S0) (fun S8 hP => ?_)
      obtain ⟨G_S8, fS8, o10, o11, o12, o13⟩ := hP
      have g14 := zz_G.r G_S0 1000 7 0 1 rfl rfl
      have F_S8 := zz_fr.trans F_S0 fS8 rfl (fun a i h => by rcases h with h | h | h | h | h | h | h | h | h | h | h | h | h | h | h | h; exact Or.inr (Or.inr (Or.inl h)); exact Or.inr (Or.inr (Or.inr (Or.inl h))); exact Or.inr (Or.inr (Or.inr (Or.inr (Or.inl h)))); exact Or.inr (Or.inr (Or.inr (Or.inr (Or.inr (Or.inl h))))); exact Or.inr (Or.inr (Or.inr (Or.inr (Or.inr (Or.inr (Or.inl h)))))); exact Or.inr (Or.inr (Or.inr (Or.inr (Or.inr (Or.inr (Or.inr (Or.inl h))))))); exact Or.inr (Or.inr (Or.inr (Or.inr (Or.inr (Or.inr (Or.inr (Or.inr (Or.inl h)))))))); exact Or.inr (Or.inr (Or.inr (Or.inr (Or.inr (Or.inr (Or.inr (Or.inr (Or.inr (Or.inl h))))))))); exact Or.inr (Or.inr (Or.inr (Or.inr (Or.inr (Or.inr (Or.inr (Or.inr (Or.inr (Or.inr (Or.inl h)))))))))); exact Or.inr (Or.inr (Or.inr (Or.inr (Or.inr (Or.inr (Or.inr (Or.inr (Or.inr (Or.inr (Or.inr (Or.inl h))))))))))); exact Or.inr (Or.inr (Or.inr (Or.inr (Or.inr (Or.inr (Or.inr (Or.inr (Or.inr (Or.inr (Or.inr (Or.inr (Or.inl h)))))))))))); exact Or.inr (Or.inr (Or.inr (Or.inr (Or.inr (Or.inr (Or.inr (Or.inr (Or.inr (Or.inr (Or.inr (Or.inr (Or.inr (Or.inl h))))))))))))); exact Or.inr (Or.inr (Or.inr (Or.inr (Or.inr (Or.inr (Or.inr (Or.inr (Or.inr (Or.inr (Or.inr (Or.inr (Or.inr (Or.inr (Or.inl h)))))))))))))); exact Or.inr (Or.inr (Or.inr (Or.inr (Or.inr (Or.inr (Or.inr (Or.inr (Or.inr (Or.inr (Or.inr (Or.inr (Or.inr (Or.inr (Or.inr (Or.inl h))))))))))))))); exact Or.inr (Or.inr (Or.inr (Or.inr (Or.inr (Or.inr (Or.inr (Or.inr (Or.inr (Or.inr (Or.inr (Or.inr (Or.inr (Or.inr (Or.inr (Or.inr (Or.inl h)))))))))))))))); exact Or.inr (Or.inr (Or.inr (Or.inr (Or.inr (Or.inr (Or.inr (Or.inr (Or.inr (Or.inr (Or.inr (Or.inr (Or.inr (Or.inr (Or.inr (Or.inr (Or.inr (h))))))))))))))))))
      have b15 := zz_rf3 (z := (S0 1000 7)) (by omega)
      have b16 := zz_rf6 (z := (12 * (S0 1000 7) + 0)) (by omega)
      have H_S8 : zz_Hc S8 := o13
      exact zz_vret zd_1_18_29 rfl (Nat.le_of_ble_eq_true rfl) (Nat.le_of_ble_eq_true rfl) (Or.inl ⟨_, rfl, G_S8, F_S8, by omega, o12, H_S8⟩)
    · exfalso; omega
abbrev zy_convolution_1_19 : mm_Y := (⟨"TensorForge", "convolution", "(IIIIII)I"⟩, prog_1_method_19_code, 8, (some .int))
theorem zyw_convolution_1_19 : mm_Yw zy_convolution_1_19 6 := ⟨mm_tb_1 1359 (by decide +kernel) rfl, mm_tb_1 1 (by decide +kernel) rfl, ⟨by decide, by decide⟩, by decide +kernel⟩
abbrev zy_draft_7_6 : mm_Y := (⟨"TensorForge$Network", "draft", "()LTensorForge$Layer;"⟩, prog_7_method_6_code, 1, (some (.object "TensorForge$Layer")))
theorem zyw_draft_7_6 : mm_Yw zy_draft_7_6 0 := ⟨mm_tb_1 943 (by decide +kernel) rfl, mm_tb_1 2 (by decide +kernel) rfl, ⟨by decide, by decide⟩, by decide +kernel⟩
theorem zg_1_19_0 : (decode zy_convolution_1_19.2.1 0 = .ok ((.aload_n 0), 1)) ∧ (decode zy_convolution_1_19.2.1 1 = .ok ((.getfield 10), 3)) ∧ (decode zy_convolution_1_19.2.1 4 = .ok ((.invokevirtual 220), 3)) := by decide +kernel
theorem zd_1_19_0 : zz_D zy_convolution_1_19 0 (.aload_n 0) 1 1 := ⟨zg_1_19_0.1, rfl⟩
theorem zd_1_19_1 : zz_D zy_convolution_1_19 1 (.getfield 10) 3 4 := ⟨zg_1_19_0.2.1, rfl⟩
theorem zd_1_19_4 : zz_D zy_convolution_1_19 4 (.invokevirtual 220) 3 7 := ⟨zg_1_19_0.2.2, rfl⟩
theorem zg_7_6_0 : (decode zy_draft_7_6.2.1 0 = .ok ((.aload_n 0), 1)) ∧ (decode zy_draft_7_6.2.1 1 = .ok ((.getfield 11), 3)) ∧ (decode zy_draft_7_6.2.1 4 = .ok ((.aload_n 0), 1)) ∧ (decode zy_draft_7_6.2.1 5 = .ok ((.getfield 16), 3)) ∧ (decode zy_draft_7_6.2.1 8 = .ok ((.aaload), 1)) ∧ (decode zy_draft_7_6.2.1 9 = .ok ((.areturn), 1)) := by decide +kernel
theorem zd_7_6_0 : zz_D zy_draft_7_6 0 (.aload_n 0) 1 1 := ⟨zg_7_6_0.1, rfl⟩
theorem zd_7_6_1 : zz_D zy_draft_7_6 1 (.getfield 11) 3 4 := ⟨zg_7_6_0.2.1, rfl⟩
theorem zd_7_6_4 : zz_D zy_draft_7_6 4 (.aload_n 0) 1 5 := ⟨zg_7_6_0.2.2.1, rfl⟩
theorem zd_7_6_5 : zz_D zy_draft_7_6 5 (.getfield 16) 3 8 := ⟨zg_7_6_0.2.2.2.1, rfl⟩
theorem zd_7_6_8 : zz_D zy_draft_7_6 8 (.aaload) 1 9 := ⟨zg_7_6_0.2.2.2.2.1, rfl⟩
theorem zd_7_6_9 : zz_D zy_draft_7_6 9 (.areturn) 1 10 := ⟨zg_7_6_0.2.2.2.2.2, rfl⟩
-- TensorForge$Network draft ()LTensorForge$Layer;
abbrev zr_draft_7_6 : Room := { frames := 0, cells := 0, slots := 0, locals := 0 }
def zp_draft_7_6 (t : Int) (S0 : zz_S) : Nat → zz_S → Prop := fun r S => S0 = S ∧ (r = zz_rf 6 (12 * t + S0 (zz_rf 3 t) 1)) ∧ (1 ≤ S0 (zz_rf 3 t) 1 ∧ S0 (zz_rf 3 t) 1 ≤ 11)
theorem zc_draft_7_6 {g : mm_G} {l : Launch} (t : Int) (S0 : zz_S) (n : Nat) (hn : zz_end ≤ n) (G_S0 : zz_G S0) (ht : 0 ≤ t ∧ t ≤ 1) : mm_Met g l zy_draft_7_6 zr_draft_7_6 [.ref (zz_rf 3 t)] (zz_M S0 n) n (zz_QA n (zp_draft_7_6 t S0)) := by
  refine zz_enter (by decide) (Nat.le_of_ble_eq_true rfl) (zz_less (ls1 := [some (.ref (zz_rf 3 t))]) ⟨rfl, trivial⟩ ?_)
  have b_t := zz_rf3 (z := t) (by omega)
  refine zz_aload_n (x := zz_rf 3 t) rfl zd_7_6_0 ?_
  refine zz_getr (kd := 0) (z := ((zz_rf 3 t + 1 : Nat) : Int)) zd_7_6_1 zf_Network_11 (zT_k3 (by omega)) rfl (zN_k3 hn (by omega)) (zE_k3a G_S0 (by omega)) (Int.natCast_nonneg _) (zz_rf 3 t + 1) (Int.toNat_natCast _) ?_
  refine zz_aload_n (x := zz_rf 3 t) rfl zd_7_6_4 ?_
  have g1 := zz_G.r G_S0 (zz_rf 3 t) 1 1 11 (zR_k3_1 (by omega)) (zB_k3 (by omega))
  refine zz_geti (z := S0 (zz_rf 3 t) 1) zd_7_6_5 zf_Network_16 (zT_k3 (by omega)) rfl (zN_k3 hn (by omega)) rfl ?_
  refine zz_aald (kd := 4) (z := 12 * t + (S0 (zz_rf 3 t) 1)) zd_7_6_8 (zT_k3a (by omega)) rfl (zN_k3a hn (by omega)) (by decide) (by omega) (zE_lay G_S0 (by omega) (by omega)) (by omega) (zz_rf 6 (12 * t + (S0 (zz_rf 3 t) 1))) rfl ?_
  exact zz_aret zd_7_6_9 rfl (Nat.zero_le _) (Nat.zero_le _) ⟨_, _, rfl, rfl, rfl, by omega⟩
theorem zk_TF_220 : mm_Vl "TensorForge" 220 1 0 zy_draft_7_6 := ⟨zyw_draft_7_6, (R_Network, F_Network, 2), rfl, mm_tb_1 1360 (by decide +kernel) rfl, mm_tb_1 941 (by decide +kernel) rfl, mm_tb_1 942 (by decide +kernel) rfl⟩
theorem zk_TF_226 : mm_Vl "TensorForge" 226 2 3 zy_reset_4_2 := ⟨zyw_reset_4_2, (R_Layer, F_Layer, 15), rfl, mm_tb_1 1361 (by decide +kernel) rfl, mm_tb_1 50 (by decide +kernel) rfl, mm_tb_1 51 (by decide +kernel) rfl⟩
abbrev zy_takeKernel_4_4 : mm_Y := (⟨"TensorForge$Layer", "takeKernel", "(II)V"⟩, prog_4_method_4_code, 3, none)
theorem zyw_takeKernel_4_4 : mm_Yw zy_takeKernel_4_4 2 := ⟨mm_tb_1 988 (by decide +kernel) rfl, mm_tb_1 3 (by decide +kernel) rfl, ⟨by decide, by decide⟩, by decide +kernel⟩
theorem zg_1_19_7 : (decode zy_convolution_1_19.2.1 7 = .ok ((.astore 7), 2)) ∧ (decode zy_convolution_1_19.2.1 9 = .ok ((.aload 7), 2)) ∧ (decode zy_convolution_1_19.2.1 11 = .ok ((.iconst 1), 1)) ∧ (decode zy_convolution_1_19.2.1 12 = .ok ((.iload_n 1), 1)) ∧ (decode zy_convolution_1_19.2.1 13 = .ok ((.iload_n 1), 1)) ∧ (decode zy_convolution_1_19.2.1 14 = .ok ((.invokevirtual 226), 3)) ∧ (decode zy_convolution_1_19.2.1 17 = .ok ((.aload 7), 2)) ∧ (decode zy_convolution_1_19.2.1 19 = .ok ((.iload_n 2), 1)) ∧ (decode zy_convolution_1_19.2.1 20 = .ok ((.bipush 10), 2)) ∧ (decode zy_convolution_1_19.2.1 22 = .ok ((.idiv), 1)) := by decide +kernel
theorem zd_1_19_7 : zz_D zy_convolution_1_19 7 (.astore 7) 2 9 := ⟨zg_1_19_7.1, rfl⟩
theorem zd_1_19_9 : zz_D zy_convolution_1_19 9 (.aload 7) 2 11 := ⟨zg_1_19_7.2.1, rfl⟩
theorem zd_1_19_11 : zz_D zy_convolution_1_19 11 (.iconst 1) 1 12 := ⟨zg_1_19_7.2.2.1, rfl⟩
theorem zd_1_19_12 : zz_D zy_convolution_1_19 12 (.iload_n 1) 1 13 := ⟨zg_1_19_7.2.2.2.1, rfl⟩
theorem zd_1_19_13 : zz_D zy_convolution_1_19 13 (.iload_n 1) 1 14 := ⟨zg_1_19_7.2.2.2.2.1, rfl⟩
theorem zd_1_19_14 : zz_D zy_convolution_1_19 14 (.invokevirtual 226) 3 17 := ⟨zg_1_19_7.2.2.2.2.2.1, rfl⟩
theorem zd_1_19_17 : zz_D zy_convolution_1_19 17 (.aload 7) 2 19 := ⟨zg_1_19_7.2.2.2.2.2.2.1, rfl⟩
theorem zd_1_19_19 : zz_D zy_convolution_1_19 19 (.iload_n 2) 1 20 := ⟨zg_1_19_7.2.2.2.2.2.2.2.1, rfl⟩
theorem zd_1_19_20 : zz_D zy_convolution_1_19 20 (.bipush 10) 2 22 := ⟨zg_1_19_7.2.2.2.2.2.2.2.2.1, rfl⟩
theorem zd_1_19_22 : zz_D zy_convolution_1_19 22 (.idiv) 1 23 := ⟨zg_1_19_7.2.2.2.2.2.2.2.2.2, rfl⟩
theorem zg_1_19_23 : (decode zy_convolution_1_19.2.1 23 = .ok ((.iload_n 2), 1)) ∧ (decode zy_convolution_1_19.2.1 24 = .ok ((.bipush 10), 2)) ∧ (decode zy_convolution_1_19.2.1 26 = .ok ((.irem), 1)) ∧ (decode zy_convolution_1_19.2.1 27 = .ok ((.invokevirtual 229), 3)) := by decide +kernel
theorem zd_1_19_23 : zz_D zy_convolution_1_19 23 (.iload_n 2) 1 24 := ⟨zg_1_19_23.1, rfl⟩
theorem zd_1_19_24 : zz_D zy_convolution_1_19 24 (.bipush 10) 2 26 := ⟨zg_1_19_23.2.1, rfl⟩
theorem zd_1_19_26 : zz_D zy_convolution_1_19 26 (.irem) 1 27 := ⟨zg_1_19_23.2.2.1, rfl⟩
theorem zd_1_19_27 : zz_D zy_convolution_1_19 27 (.invokevirtual 229) 3 30 := ⟨zg_1_19_23.2.2.2, rfl⟩
theorem zg_4_4_0 : (decode zy_takeKernel_4_4.2.1 0 = .ok ((.aload_n 0), 1)) ∧ (decode zy_takeKernel_4_4.2.1 1 = .ok ((.iload_n 1), 1)) ∧ (decode zy_takeKernel_4_4.2.1 2 = .ok ((.putfield 23), 3)) ∧ (decode zy_takeKernel_4_4.2.1 5 = .ok ((.aload_n 0), 1)) ∧ (decode zy_takeKernel_4_4.2.1 6 = .ok ((.iload_n 2), 1)) ∧ (decode zy_takeKernel_4_4.2.1 7 = .ok ((.putfield 26), 3)) ∧ (decode zy_takeKernel_4_4.2.1 10 = .ok ((.return_), 1)) := by decide +kernel
theorem zd_4_4_0 : zz_D zy_takeKernel_4_4 0 (.aload_n 0) 1 1 := ⟨zg_4_4_0.1, rfl⟩
theorem zd_4_4_1 : zz_D zy_takeKernel_4_4 1 (.iload_n 1) 1 2 := ⟨zg_4_4_0.2.1, rfl⟩
theorem zd_4_4_2 : zz_D zy_takeKernel_4_4 2 (.putfield 23) 3 5 := ⟨zg_4_4_0.2.2.1, rfl⟩
theorem zd_4_4_5 : zz_D zy_takeKernel_4_4 5 (.aload_n 0) 1 6 := ⟨zg_4_4_0.2.2.2.1, rfl⟩
theorem zd_4_4_6 : zz_D zy_takeKernel_4_4 6 (.iload_n 2) 1 7 := ⟨zg_4_4_0.2.2.2.2.1, rfl⟩
theorem zd_4_4_7 : zz_D zy_takeKernel_4_4 7 (.putfield 26) 3 10 := ⟨zg_4_4_0.2.2.2.2.2.1, rfl⟩
theorem zd_4_4_10 : zz_D zy_takeKernel_4_4 10 (.return_) 1 11 := ⟨zg_4_4_0.2.2.2.2.2.2, rfl⟩
-- TensorForge$Layer takeKernel (II)V
abbrev zr_takeKernel_4_4 : Room := { frames := 0, cells := 0, slots := 0, locals := 0 }
def zp_takeKernel_4_4 (t : Int) (p0 : Int) (p1 : Int) (S0 : zz_S) : zz_S → Prop := fun S => zz_G S ∧ zz_fr [] [] (fun a i => (a = zz_rf 6 t ∧ i = 3) ∨ (a = zz_rf 6 t ∧ i = 4)) S0 S ∧ (S (zz_rf 6 t) 3 = p0 ∧ S (zz_rf 6 t) 4 = p1)
theorem zc_takeKernel_4_4 {g : mm_G} {l : Launch} (t : Int) (p0 : Int) (p1 : Int) (S0 : zz_S) (n : Nat) (hn : zz_end ≤ n) (G_S0 : zz_G S0) (ht : 0 ≤ t ∧ t ≤ 23) (hp0 : (-2147483648) ≤ p0 ∧ p0 ≤ 2147483647) (hp1 : (-2147483648) ≤ p1 ∧ p1 ≤ 2147483647) : mm_Met g l zy_takeKernel_4_4 zr_takeKernel_4_4 [.ref (zz_rf 6 t), zi p0, zi p1] (zz_M S0 n) n (zz_QV n (zp_takeKernel_4_4 t p0 p1 S0)) := by
  refine zz_enter (by decide) (Nat.le_of_ble_eq_true rfl) (zz_less (ls1 := [some (.ref (zz_rf 6 t)), some (zi p0), some (zi p1)]) ⟨rfl, ⟨rfl, ⟨rfl, trivial⟩⟩⟩ ?_)
  have F_S0 : zz_fr [] [] (fun a i => (a = zz_rf 6 t ∧ i = 3) ∨ (a = zz_rf 6 t ∧ i = 4)) S0 S0 := zz_fr.refl
  have b_t := zz_rf6 (z := t) (by omega)
  refine zz_aload_n (x := zz_rf 6 t) rfl zd_4_4_0 ?_
  refine zz_iload_n (x := p0) rfl zd_4_4_1 ?_
  refine zz_puti zd_4_4_2 zf_Layer_23 (zT_k6 (by omega)) rfl (zN_k6 hn (by omega)) (fun S1 qS1 => ?_)
  have G_S1 := zz_G.put G_S0 qS1 (-2147483648) 2147483647 (zR_k6_3 (by omega)) (by omega)
  have F_S1 := zz_fr.putv F_S0 qS1 (Or.inl ⟨rfl, rfl⟩)
  refine zz_aload_n (x := zz_rf 6 t) rfl zd_4_4_5 ?_
  refine zz_iload_n (x := p1) rfl zd_4_4_6 ?_
  refine zz_puti zd_4_4_7 zf_Layer_26 (zT_k6 (by omega)) rfl (zN_k6 hn (by omega)) (fun S2 qS2 => ?_)
  have G_S2 := zz_G.put G_S1 qS2 (-2147483648) 2147483647 (zR_k6_4 (by omega)) (by omega)
  have F_S2 := zz_fr.putv F_S1 qS2 (Or.inr (⟨rfl, rfl⟩))
  have e3 : S2 (zz_rf 6 t) 3 = p0 := (zz_ro qS2 (fun h => absurd h.2 (by decide)) (zz_rs qS1))
  have e4 : S2 (zz_rf 6 t) 4 = p1 := (zz_rs qS2)
  exact zz_vret zd_4_4_10 rfl (Nat.zero_le _) (Nat.zero_le _) ⟨_, rfl, G_S2, F_S2, by omega⟩
theorem zk_TF_229 : mm_Vl "TensorForge" 229 2 2 zy_takeKernel_4_4 := ⟨zyw_takeKernel_4_4, (R_Layer, F_Layer, 15), rfl, mm_tb_1 1362 (by decide +kernel) rfl, mm_tb_1 986 (by decide +kernel) rfl, mm_tb_1 987 (by decide +kernel) rfl⟩
theorem zf_TF_232 : mm_Fl "TensorForge" 232 2 5 .int false := ⟨R_Layer, F_Layer, 15, t_Layer, rfl, i_Layer, by decide, mm_tb_1 78 (by decide +kernel) rfl, rfl, t_Layer_ok, n_Layer, rfl, by decide +kernel⟩
theorem zf_TF_235 : mm_Fl "TensorForge" 235 2 6 .int false := ⟨R_Layer, F_Layer, 15, t_Layer, rfl, i_Layer, by decide, mm_tb_1 83 (by decide +kernel) rfl, rfl, t_Layer_ok, n_Layer, rfl, by decide +kernel⟩
abbrev zy_takeNarrowing_4_5 : mm_Y := (⟨"TensorForge$Layer", "takeNarrowing", "(I)V"⟩, prog_4_method_5_code, 2, none)
theorem zyw_takeNarrowing_4_5 : mm_Yw zy_takeNarrowing_4_5 1 := ⟨mm_tb_1 1366 (by decide +kernel) rfl, mm_tb_1 3 (by decide +kernel) rfl, ⟨by decide, by decide⟩, by decide +kernel⟩
theorem zg_1_19_30 : (decode zy_convolution_1_19.2.1 30 = .ok ((.aload 7), 2)) ∧ (decode zy_convolution_1_19.2.1 32 = .ok ((.iload 4), 2)) ∧ (decode zy_convolution_1_19.2.1 34 = .ok ((.bipush 10), 2)) ∧ (decode zy_convolution_1_19.2.1 36 = .ok ((.idiv), 1)) ∧ (decode zy_convolution_1_19.2.1 37 = .ok ((.putfield 232), 3)) ∧ (decode zy_convolution_1_19.2.1 40 = .ok ((.aload 7), 2)) ∧ (decode zy_convolution_1_19.2.1 42 = .ok ((.iload 4), 2)) ∧ (decode zy_convolution_1_19.2.1 44 = .ok ((.bipush 10), 2)) ∧ (decode zy_convolution_1_19.2.1 46 = .ok ((.irem), 1)) ∧ (decode zy_convolution_1_19.2.1 47 = .ok ((.putfield 235), 3)) := by decide +kernel
theorem zd_1_19_30 : zz_D zy_convolution_1_19 30 (.aload 7) 2 32 := ⟨zg_1_19_30.1, rfl⟩
theorem zd_1_19_32 : zz_D zy_convolution_1_19 32 (.iload 4) 2 34 := ⟨zg_1_19_30.2.1, rfl⟩
theorem zd_1_19_34 : zz_D zy_convolution_1_19 34 (.bipush 10) 2 36 := ⟨zg_1_19_30.2.2.1, rfl⟩
theorem zd_1_19_36 : zz_D zy_convolution_1_19 36 (.idiv) 1 37 := ⟨zg_1_19_30.2.2.2.1, rfl⟩
theorem zd_1_19_37 : zz_D zy_convolution_1_19 37 (.putfield 232) 3 40 := ⟨zg_1_19_30.2.2.2.2.1, rfl⟩
theorem zd_1_19_40 : zz_D zy_convolution_1_19 40 (.aload 7) 2 42 := ⟨zg_1_19_30.2.2.2.2.2.1, rfl⟩
theorem zd_1_19_42 : zz_D zy_convolution_1_19 42 (.iload 4) 2 44 := ⟨zg_1_19_30.2.2.2.2.2.2.1, rfl⟩
theorem zd_1_19_44 : zz_D zy_convolution_1_19 44 (.bipush 10) 2 46 := ⟨zg_1_19_30.2.2.2.2.2.2.2.1, rfl⟩
theorem zd_1_19_46 : zz_D zy_convolution_1_19 46 (.irem) 1 47 := ⟨zg_1_19_30.2.2.2.2.2.2.2.2.1, rfl⟩
theorem zd_1_19_47 : zz_D zy_convolution_1_19 47 (.putfield 235) 3 50 := ⟨zg_1_19_30.2.2.2.2.2.2.2.2.2, rfl⟩
theorem zg_1_19_50 : (decode zy_convolution_1_19.2.1 50 = .ok ((.aload 7), 2)) ∧ (decode zy_convolution_1_19.2.1 52 = .ok ((.iload 5), 2)) ∧ (decode zy_convolution_1_19.2.1 54 = .ok ((.invokevirtual 238), 3)) := by decide +kernel
theorem zd_1_19_50 : zz_D zy_convolution_1_19 50 (.aload 7) 2 52 := ⟨zg_1_19_50.1, rfl⟩
theorem zd_1_19_52 : zz_D zy_convolution_1_19 52 (.iload 5) 2 54 := ⟨zg_1_19_50.2.1, rfl⟩
theorem zd_1_19_54 : zz_D zy_convolution_1_19 54 (.invokevirtual 238) 3 57 := ⟨zg_1_19_50.2.2, rfl⟩
theorem zg_4_5_0 : (decode zy_takeNarrowing_4_5.2.1 0 = .ok ((.aload_n 0), 1)) ∧ (decode zy_takeNarrowing_4_5.2.1 1 = .ok ((.iload_n 1), 1)) ∧ (decode zy_takeNarrowing_4_5.2.1 2 = .ok ((.bipush 16), 2)) ∧ (decode zy_takeNarrowing_4_5.2.1 4 = .ok ((Instr.if_icmp .lt) 7, 3)) ∧ (decode zy_takeNarrowing_4_5.2.1 11 = .ok ((.iconst 0), 1)) ∧ (decode zy_takeNarrowing_4_5.2.1 12 = .ok ((.putfield 38), 3)) ∧ (decode zy_takeNarrowing_4_5.2.1 15 = .ok ((.aload_n 0), 1)) ∧ (decode zy_takeNarrowing_4_5.2.1 16 = .ok ((.aload_n 0), 1)) ∧ (decode zy_takeNarrowing_4_5.2.1 17 = .ok ((.getfield 38), 3)) ∧ (decode zy_takeNarrowing_4_5.2.1 20 = .ok ((Instr.ifCond .eq) 10, 3)) := by decide +kernel
theorem zd_4_5_0 : zz_D zy_takeNarrowing_4_5 0 (.aload_n 0) 1 1 := ⟨zg_4_5_0.1, rfl⟩
theorem zd_4_5_1 : zz_D zy_takeNarrowing_4_5 1 (.iload_n 1) 1 2 := ⟨zg_4_5_0.2.1, rfl⟩
theorem zd_4_5_2 : zz_D zy_takeNarrowing_4_5 2 (.bipush 16) 2 4 := ⟨zg_4_5_0.2.2.1, rfl⟩
theorem zd_4_5_4 : zz_B zy_takeNarrowing_4_5 4 (Instr.if_icmp .lt) 11 7 := ⟨7, zg_4_5_0.2.2.2.1, rfl, rfl⟩
theorem zd_4_5_11 : zz_D zy_takeNarrowing_4_5 11 (.iconst 0) 1 12 := ⟨zg_4_5_0.2.2.2.2.1, rfl⟩
theorem zd_4_5_12 : zz_D zy_takeNarrowing_4_5 12 (.putfield 38) 3 15 := ⟨zg_4_5_0.2.2.2.2.2.1, rfl⟩
theorem zd_4_5_15 : zz_D zy_takeNarrowing_4_5 15 (.aload_n 0) 1 16 := ⟨zg_4_5_0.2.2.2.2.2.2.1, rfl⟩
theorem zd_4_5_16 : zz_D zy_takeNarrowing_4_5 16 (.aload_n 0) 1 17 := ⟨zg_4_5_0.2.2.2.2.2.2.2.1, rfl⟩
theorem zd_4_5_17 : zz_D zy_takeNarrowing_4_5 17 (.getfield 38) 3 20 := ⟨zg_4_5_0.2.2.2.2.2.2.2.2.1, rfl⟩
theorem zd_4_5_20 : zz_B zy_takeNarrowing_4_5 20 (Instr.ifCond .eq) 30 23 := ⟨10, zg_4_5_0.2.2.2.2.2.2.2.2.2, rfl, rfl⟩
theorem zg_4_5_30 : (decode zy_takeNarrowing_4_5.2.1 30 = .ok ((.iload_n 1), 1)) ∧ (decode zy_takeNarrowing_4_5.2.1 31 = .ok ((.putfield 35), 3)) ∧ (decode zy_takeNarrowing_4_5.2.1 34 = .ok ((.return_), 1)) ∧ (decode zy_takeNarrowing_4_5.2.1 7 = .ok ((.iconst 1), 1)) ∧ (decode zy_takeNarrowing_4_5.2.1 8 = .ok (Instr.goto 4, 3)) ∧ (decode zy_takeNarrowing_4_5.2.1 23 = .ok ((.iload_n 1), 1)) ∧ (decode zy_takeNarrowing_4_5.2.1 24 = .ok ((.bipush 16), 2)) ∧ (decode zy_takeNarrowing_4_5.2.1 26 = .ok ((.isub), 1)) ∧ (decode zy_takeNarrowing_4_5.2.1 27 = .ok (Instr.goto 4, 3)) := by decide +kernel
theorem zd_4_5_30 : zz_D zy_takeNarrowing_4_5 30 (.iload_n 1) 1 31 := ⟨zg_4_5_30.1, rfl⟩
theorem zd_4_5_31 : zz_D zy_takeNarrowing_4_5 31 (.putfield 35) 3 34 := ⟨zg_4_5_30.2.1, rfl⟩
theorem zd_4_5_34 : zz_D zy_takeNarrowing_4_5 34 (.return_) 1 35 := ⟨zg_4_5_30.2.2.1, rfl⟩
theorem zd_4_5_7 : zz_D zy_takeNarrowing_4_5 7 (.iconst 1) 1 8 := ⟨zg_4_5_30.2.2.2.1, rfl⟩
theorem zd_4_5_8 : zz_B zy_takeNarrowing_4_5 8 Instr.goto 12 11 := ⟨4, zg_4_5_30.2.2.2.2.1, rfl, rfl⟩
theorem zd_4_5_23 : zz_D zy_takeNarrowing_4_5 23 (.iload_n 1) 1 24 := ⟨zg_4_5_30.2.2.2.2.2.1, rfl⟩
theorem zd_4_5_24 : zz_D zy_takeNarrowing_4_5 24 (.bipush 16) 2 26 := ⟨zg_4_5_30.2.2.2.2.2.2.1, rfl⟩
theorem zd_4_5_26 : zz_D zy_takeNarrowing_4_5 26 (.isub) 1 27 := ⟨zg_4_5_30.2.2.2.2.2.2.2.1, rfl⟩
theorem zd_4_5_27 : zz_B zy_takeNarrowing_4_5 27 Instr.goto 31 30 := ⟨4, zg_4_5_30.2.2.2.2.2.2.2.2, rfl, rfl⟩
-- TensorForge$Layer takeNarrowing (I)V
abbrev zr_takeNarrowing_4_5 : Room := { frames := 0, cells := 0, slots := 0, locals := 0 }
def zp_takeNarrowing_4_5 (t : Int) (p0 : Int) (S0 : zz_S) : zz_S → Prop := fun S => zz_G S ∧ zz_fr [] [] (fun a i => (a = zz_rf 6 t ∧ i = 7) ∨ (a = zz_rf 6 t ∧ i = 8)) S0 S ∧ ((16 ≤ p0 ∧ S (zz_rf 6 t) 8 = 1 ∧ S (zz_rf 6 t) 7 = p0 - 16) ∨ (p0 < 16 ∧ S (zz_rf 6 t) 8 = 0 ∧ S (zz_rf 6 t) 7 = p0))
theorem zc_takeNarrowing_4_5 {g : mm_G} {l : Launch} (t : Int) (p0 : Int) (S0 : zz_S) (n : Nat) (hn : zz_end ≤ n) (G_S0 : zz_G S0) (ht : 0 ≤ t ∧ t ≤ 23) (hp0 : (-2147483648) ≤ p0 ∧ p0 ≤ 2147483647) : mm_Met g l zy_takeNarrowing_4_5 zr_takeNarrowing_4_5 [.ref (zz_rf 6 t), zi p0] (zz_M S0 n) n (zz_QV n (zp_takeNarrowing_4_5 t p0 S0)) := by
  refine zz_enter (by decide) (Nat.le_of_ble_eq_true rfl) (zz_less (ls1 := [some (.ref (zz_rf 6 t)), some (zi p0)]) ⟨rfl, ⟨rfl, trivial⟩⟩ ?_)
  have F_S0 : zz_fr [] [] (fun a i => (a = zz_rf 6 t ∧ i = 7) ∨ (a = zz_rf 6 t ∧ i = 8)) S0 S0 := zz_fr.refl
  have b_t := zz_rf6 (z := t) (by omega)
  refine zz_aload_n (x := zz_rf 6 t) rfl zd_4_5_0 ?_
  refine zz_iload_n (x := p0) rfl zd_4_5_1 ?_
  refine zz_bipush (by decide) zd_4_5_2 ?_
  refine zz_icmp_lt (by omega) (by omega) zd_4_5_4 (fun c1 => ?_) (fun c1 => ?_)
  · refine zz_iconst zd_4_5_11 ?_
    refine zz_putz zd_4_5_12 zf_Layer_38 (zT_k6 (by omega)) rfl (zN_k6 hn (by omega)) (by omega) (fun S2 qS2 => ?_)
    have G_S2 := zz_G.put G_S0 qS2 0 1 (zR_k6_8 (by omega)) (by omega)
    have F_S2 := zz_fr.putv F_S0 qS2 (Or.inr (⟨rfl, rfl⟩))
    refine zz_aload_n (x := zz_rf 6 t) rfl zd_4_5_15 ?_
    refine zz_aload_n (x := zz_rf 6 t) rfl zd_4_5_16 ?_
    refine zz_geti (z := 0) zd_4_5_17 zf_Layer_38 (zT_k6 (by omega)) rfl (zN_k6 hn (by omega)) (zz_rs qS2) ?_
    refine zz_if_eq (by omega) zd_4_5_20 (fun c3 => ?_) (fun c3 => ?_)
    · refine zz_iload_n (x := p0) rfl zd_4_5_30 ?_
      refine zz_puti zd_4_5_31 zf_Layer_35 (zT_k6 (by omega)) rfl (zN_k6 hn (by omega)) (fun S4 qS4 => ?_)
      have G_S4 := zz_G.put G_S2 qS4 (-2147483648) 2147483647 (zR_k6_7 (by omega)) (by omega)
      have F_S4 := zz_fr.putv F_S2 qS4 (Or.inl ⟨rfl, rfl⟩)
      have e5 : S4 (zz_rf 6 t) 7 = p0 := (zz_rs qS4)
      have e6 : S4 (zz_rf 6 t) 8 = 0 := (zz_ro qS4 (fun h => absurd h.2 (by decide)) (zz_rs qS2))
      exact zz_vret zd_4_5_34 rfl (Nat.zero_le _) (Nat.zero_le _) ⟨_, rfl, G_S4, F_S4, by omega⟩
    · exfalso; omega
  · refine zz_iconst zd_4_5_7 ?_
    refine zz_goto zd_4_5_8 ?_
    refine zz_putz zd_4_5_12 zf_Layer_38 (zT_k6 (by omega)) rfl (zN_k6 hn (by omega)) (by omega) (fun S7 qS7 => ?_)
    have G_S7 := zz_G.put G_S0 qS7 0 1 (zR_k6_8 (by omega)) (by omega)
    have F_S7 := zz_fr.putv F_S0 qS7 (Or.inr (⟨rfl, rfl⟩))
    refine zz_aload_n (x := zz_rf 6 t) rfl zd_4_5_15 ?_
    refine zz_aload_n (x := zz_rf 6 t) rfl zd_4_5_16 ?_
    refine zz_geti (z := 1) zd_4_5_17 zf_Layer_38 (zT_k6 (by omega)) rfl (zN_k6 hn (by omega)) (zz_rs qS7) ?_
    refine zz_if_eq (by omega) zd_4_5_20 (fun c8 => ?_) (fun c8 => ?_)
    · exfalso; omega
    · refine zz_iload_n (x := p0) rfl zd_4_5_23 ?_
      refine zz_bipush (by decide) zd_4_5_24 ?_
      refine zz_isub zd_4_5_26 ?_
      refine zz_goto zd_4_5_27 ?_
      refine zz_puti zd_4_5_31 zf_Layer_35 (zT_k6 (by omega)) rfl (zN_k6 hn (by omega)) (fun S9 qS9 => ?_)
      have G_S9 := zz_G.put G_S7 qS9 (-2147483648) 2147483647 (zR_k6_7 (by omega)) (by omega)
      have F_S9 := zz_fr.putv F_S7 qS9 (Or.inl ⟨rfl, rfl⟩)
      have e10 : S9 (zz_rf 6 t) 7 = p0 - 16 := (zz_rs qS9)
      have e11 : S9 (zz_rf 6 t) 8 = 1 := (zz_ro qS9 (fun h => absurd h.2 (by decide)) (zz_rs qS7))
      exact zz_vret zd_4_5_34 rfl (Nat.zero_le _) (Nat.zero_le _) ⟨_, rfl, G_S9, F_S9, by omega⟩
theorem zk_TF_238 : mm_Vl "TensorForge" 238 2 1 zy_takeNarrowing_4_5 := ⟨zyw_takeNarrowing_4_5, (R_Layer, F_Layer, 15), rfl, mm_tb_1 1363 (by decide +kernel) rfl, mm_tb_1 1364 (by decide +kernel) rfl, mm_tb_1 1365 (by decide +kernel) rfl⟩
theorem zf_TF_241 : mm_Fl "TensorForge" 241 2 12 .int false := ⟨R_Layer, F_Layer, 15, t_Layer, rfl, i_Layer, by decide, mm_tb_1 106 (by decide +kernel) rfl, rfl, t_Layer_ok, n_Layer, rfl, by decide +kernel⟩
theorem zf_TF_244 : mm_Fl "TensorForge" 244 2 9 .int false := ⟨R_Layer, F_Layer, 15, t_Layer, rfl, i_Layer, by decide, mm_tb_1 93 (by decide +kernel) rfl, rfl, t_Layer_ok, n_Layer, rfl, by decide +kernel⟩
abbrev zy_added_1_31 : mm_Y := (⟨"TensorForge", "added", "()I"⟩, prog_1_method_31_code, 2, (some .int))
theorem zyw_added_1_31 : mm_Yw zy_added_1_31 0 := ⟨mm_tb_1 1370 (by decide +kernel) rfl, mm_tb_1 1 (by decide +kernel) rfl, ⟨by decide, by decide⟩, by decide +kernel⟩
abbrev zy_offer_7_7 : mm_Y := (⟨"TensorForge$Network", "offer", "()I"⟩, prog_7_method_7_code, 3, (some .int))
theorem zyw_offer_7_7 : mm_Yw zy_offer_7_7 0 := ⟨mm_tb_1 992 (by decide +kernel) rfl, mm_tb_1 2 (by decide +kernel) rfl, ⟨by decide, by decide⟩, by decide +kernel⟩
theorem zk_Network_34 : mm_Vl "TensorForge$Network" 34 1 0 zy_draft_7_6 := ⟨zyw_draft_7_6, (R_Network, F_Network, 2), rfl, mm_tb_1 993 (by decide +kernel) rfl, mm_tb_1 941 (by decide +kernel) rfl, mm_tb_1 942 (by decide +kernel) rfl⟩
theorem zf_Network_38 : mm_Fl "TensorForge$Network" 38 2 1 .int false := ⟨R_Layer, F_Layer, 15, t_Layer, rfl, i_Layer, by decide, mm_tb_1 63 (by decide +kernel) rfl, rfl, t_Layer_ok, n_Layer, rfl, by decide +kernel⟩
abbrev zy_has_7_5 : mm_Y := (⟨"TensorForge$Network", "has", "(I)Z"⟩, prog_7_method_5_code, 2, (some .boolean))
theorem zyw_has_7_5 : mm_Yw zy_has_7_5 1 := ⟨mm_tb_1 861 (by decide +kernel) rfl, mm_tb_1 2 (by decide +kernel) rfl, ⟨by decide, by decide⟩, by decide +kernel⟩
theorem zg_1_19_57 : (decode zy_convolution_1_19.2.1 57 = .ok ((.aload 7), 2)) ∧ (decode zy_convolution_1_19.2.1 59 = .ok ((.iload_n 3), 1)) ∧ (decode zy_convolution_1_19.2.1 60 = .ok ((.putfield 241), 3)) ∧ (decode zy_convolution_1_19.2.1 63 = .ok ((.aload 7), 2)) ∧ (decode zy_convolution_1_19.2.1 65 = .ok ((.iload 6), 2)) ∧ (decode zy_convolution_1_19.2.1 67 = .ok ((.putfield 244), 3)) ∧ (decode zy_convolution_1_19.2.1 70 = .ok ((.aload_n 0), 1)) ∧ (decode zy_convolution_1_19.2.1 71 = .ok ((.invokevirtual 247), 3)) := by decide +kernel
theorem zd_1_19_57 : zz_D zy_convolution_1_19 57 (.aload 7) 2 59 := ⟨zg_1_19_57.1, rfl⟩
theorem zd_1_19_59 : zz_D zy_convolution_1_19 59 (.iload_n 3) 1 60 := ⟨zg_1_19_57.2.1, rfl⟩
theorem zd_1_19_60 : zz_D zy_convolution_1_19 60 (.putfield 241) 3 63 := ⟨zg_1_19_57.2.2.1, rfl⟩
theorem zd_1_19_63 : zz_D zy_convolution_1_19 63 (.aload 7) 2 65 := ⟨zg_1_19_57.2.2.2.1, rfl⟩
theorem zd_1_19_65 : zz_D zy_convolution_1_19 65 (.iload 6) 2 67 := ⟨zg_1_19_57.2.2.2.2.1, rfl⟩
theorem zd_1_19_67 : zz_D zy_convolution_1_19 67 (.putfield 244) 3 70 := ⟨zg_1_19_57.2.2.2.2.2.1, rfl⟩
theorem zd_1_19_70 : zz_D zy_convolution_1_19 70 (.aload_n 0) 1 71 := ⟨zg_1_19_57.2.2.2.2.2.2.1, rfl⟩
theorem zd_1_19_71 : zz_D zy_convolution_1_19 71 (.invokevirtual 247) 3 74 := ⟨zg_1_19_57.2.2.2.2.2.2.2, rfl⟩
theorem zg_1_31_0 : (decode zy_added_1_31.2.1 0 = .ok ((.aload_n 0), 1)) ∧ (decode zy_added_1_31.2.1 1 = .ok ((.getfield 10), 3)) ∧ (decode zy_added_1_31.2.1 4 = .ok ((.invokevirtual 326), 3)) := by decide +kernel
theorem zd_1_31_0 : zz_D zy_added_1_31 0 (.aload_n 0) 1 1 := ⟨zg_1_31_0.1, rfl⟩
theorem zd_1_31_1 : zz_D zy_added_1_31 1 (.getfield 10) 3 4 := ⟨zg_1_31_0.2.1, rfl⟩
theorem zd_1_31_4 : zz_D zy_added_1_31 4 (.invokevirtual 326) 3 7 := ⟨zg_1_31_0.2.2, rfl⟩
theorem zg_7_7_0 : (decode zy_offer_7_7.2.1 0 = .ok ((.aload_n 0), 1)) ∧ (decode zy_offer_7_7.2.1 1 = .ok ((.invokevirtual 34), 3)) ∧ (decode zy_offer_7_7.2.1 4 = .ok ((.astore_n 1), 1)) ∧ (decode zy_offer_7_7.2.1 5 = .ok ((.aload_n 0), 1)) ∧ (decode zy_offer_7_7.2.1 6 = .ok ((.aload_n 1), 1)) ∧ (decode zy_offer_7_7.2.1 7 = .ok ((.getfield 38), 3)) ∧ (decode zy_offer_7_7.2.1 10 = .ok ((.invokevirtual 41), 3)) := by decide +kernel
theorem zd_7_7_0 : zz_D zy_offer_7_7 0 (.aload_n 0) 1 1 := ⟨zg_7_7_0.1, rfl⟩
theorem zd_7_7_1 : zz_D zy_offer_7_7 1 (.invokevirtual 34) 3 4 := ⟨zg_7_7_0.2.1, rfl⟩
theorem zd_7_7_4 : zz_D zy_offer_7_7 4 (.astore_n 1) 1 5 := ⟨zg_7_7_0.2.2.1, rfl⟩
theorem zd_7_7_5 : zz_D zy_offer_7_7 5 (.aload_n 0) 1 6 := ⟨zg_7_7_0.2.2.2.1, rfl⟩
theorem zd_7_7_6 : zz_D zy_offer_7_7 6 (.aload_n 1) 1 7 := ⟨zg_7_7_0.2.2.2.2.1, rfl⟩
theorem zd_7_7_7 : zz_D zy_offer_7_7 7 (.getfield 38) 3 10 := ⟨zg_7_7_0.2.2.2.2.2.1, rfl⟩
theorem zd_7_7_10 : zz_D zy_offer_7_7 10 (.invokevirtual 41) 3 13 := ⟨zg_7_7_0.2.2.2.2.2.2, rfl⟩
theorem zg_7_5_0 : (decode zy_has_7_5.2.1 0 = .ok ((.iload_n 1), 1)) ∧ (decode zy_has_7_5.2.1 1 = .ok ((Instr.ifCond .lt) 15, 3)) ∧ (decode zy_has_7_5.2.1 16 = .ok ((.iconst 0), 1)) ∧ (decode zy_has_7_5.2.1 17 = .ok ((.ireturn), 1)) ∧ (decode zy_has_7_5.2.1 4 = .ok ((.iload_n 1), 1)) ∧ (decode zy_has_7_5.2.1 5 = .ok ((.aload_n 0), 1)) ∧ (decode zy_has_7_5.2.1 6 = .ok ((.getfield 16), 3)) ∧ (decode zy_has_7_5.2.1 9 = .ok ((Instr.if_icmp .ge) 7, 3)) ∧ (decode zy_has_7_5.2.1 12 = .ok ((.iconst 1), 1)) ∧ (decode zy_has_7_5.2.1 13 = .ok (Instr.goto 4, 3)) := by decide +kernel
theorem zd_7_5_0 : zz_D zy_has_7_5 0 (.iload_n 1) 1 1 := ⟨zg_7_5_0.1, rfl⟩
theorem zd_7_5_1 : zz_B zy_has_7_5 1 (Instr.ifCond .lt) 16 4 := ⟨15, zg_7_5_0.2.1, rfl, rfl⟩
theorem zd_7_5_16 : zz_D zy_has_7_5 16 (.iconst 0) 1 17 := ⟨zg_7_5_0.2.2.1, rfl⟩
theorem zd_7_5_17 : zz_D zy_has_7_5 17 (.ireturn) 1 18 := ⟨zg_7_5_0.2.2.2.1, rfl⟩
theorem zd_7_5_4 : zz_D zy_has_7_5 4 (.iload_n 1) 1 5 := ⟨zg_7_5_0.2.2.2.2.1, rfl⟩
theorem zd_7_5_5 : zz_D zy_has_7_5 5 (.aload_n 0) 1 6 := ⟨zg_7_5_0.2.2.2.2.2.1, rfl⟩
theorem zd_7_5_6 : zz_D zy_has_7_5 6 (.getfield 16) 3 9 := ⟨zg_7_5_0.2.2.2.2.2.2.1, rfl⟩
theorem zd_7_5_9 : zz_B zy_has_7_5 9 (Instr.if_icmp .ge) 16 12 := ⟨7, zg_7_5_0.2.2.2.2.2.2.2.1, rfl, rfl⟩
theorem zd_7_5_12 : zz_D zy_has_7_5 12 (.iconst 1) 1 13 := ⟨zg_7_5_0.2.2.2.2.2.2.2.2.1, rfl⟩
theorem zd_7_5_13 : zz_B zy_has_7_5 13 Instr.goto 17 16 := ⟨4, zg_7_5_0.2.2.2.2.2.2.2.2.2, rfl, rfl⟩
-- TensorForge$Network has (I)Z
abbrev zr_has_7_5 : Room := { frames := 0, cells := 0, slots := 0, locals := 0 }
def zp_has_7_5 (t : Int) (p0 : Int) (S0 : zz_S) : Int → zz_S → Prop := fun r S => S0 = S ∧ (0 ≤ r ∧ r ≤ 1) ∧ ((r = 1 ∧ 0 ≤ p0 ∧ p0 < S0 (zz_rf 3 t) 1) ∨ (r = 0 ∧ (p0 < 0 ∨ p0 ≥ S0 (zz_rf 3 t) 1)))
theorem zc_has_7_5 {g : mm_G} {l : Launch} (t : Int) (p0 : Int) (S0 : zz_S) (n : Nat) (hn : zz_end ≤ n) (G_S0 : zz_G S0) (ht : 0 ≤ t ∧ t ≤ 1) (hp0 : (-2147483648) ≤ p0 ∧ p0 ≤ 2147483647) : mm_Met g l zy_has_7_5 zr_has_7_5 [.ref (zz_rf 3 t), zi p0] (zz_M S0 n) n (zz_QI n (zp_has_7_5 t p0 S0)) := by
  refine zz_enter (by decide) (Nat.le_of_ble_eq_true rfl) (zz_less (ls1 := [some (.ref (zz_rf 3 t)), some (zi p0)]) ⟨rfl, ⟨rfl, trivial⟩⟩ ?_)
  have b_t := zz_rf3 (z := t) (by omega)
  refine zz_iload_n (x := p0) rfl zd_7_5_0 ?_
  refine zz_if_lt (by omega) zd_7_5_1 (fun c1 => ?_) (fun c1 => ?_)
  · refine zz_iconst zd_7_5_16 ?_
    exact zz_zret zd_7_5_17 rfl (by omega) (Nat.zero_le _) (Nat.zero_le _) ⟨_, _, rfl, rfl, by omega, by omega⟩
  · refine zz_iload_n (x := p0) rfl zd_7_5_4 ?_
    refine zz_aload_n (x := zz_rf 3 t) rfl zd_7_5_5 ?_
    have g2 := zz_G.r G_S0 (zz_rf 3 t) 1 1 11 (zR_k3_1 (by omega)) (zB_k3 (by omega))
    refine zz_geti (z := S0 (zz_rf 3 t) 1) zd_7_5_6 zf_Network_16 (zT_k3 (by omega)) rfl (zN_k3 hn (by omega)) rfl ?_
    refine zz_icmp_ge (by omega) (by omega) zd_7_5_9 (fun c3 => ?_) (fun c3 => ?_)
    · refine zz_iconst zd_7_5_16 ?_
      exact zz_zret zd_7_5_17 rfl (by omega) (Nat.zero_le _) (Nat.zero_le _) ⟨_, _, rfl, rfl, by omega, by omega⟩
    · refine zz_iconst zd_7_5_12 ?_
      refine zz_goto zd_7_5_13 ?_
      exact zz_zret zd_7_5_17 rfl (by omega) (Nat.zero_le _) (Nat.zero_le _) ⟨_, _, rfl, rfl, by omega, by omega⟩
theorem zk_Network_41 : mm_Vl "TensorForge$Network" 41 1 1 zy_has_7_5 := ⟨zyw_has_7_5, (R_Network, F_Network, 2), rfl, mm_tb_1 858 (by decide +kernel) rfl, mm_tb_1 859 (by decide +kernel) rfl, mm_tb_1 860 (by decide +kernel) rfl⟩
theorem zf_Network_45 : mm_Fl "TensorForge$Network" 45 2 2 .int false := ⟨R_Layer, F_Layer, 15, t_Layer, rfl, i_Layer, by decide, mm_tb_1 67 (by decide +kernel) rfl, rfl, t_Layer_ok, n_Layer, rfl, by decide +kernel⟩
abbrev zy_numbersFit_4_10 : mm_Y := (⟨"TensorForge$Layer", "numbersFit", "()Z"⟩, prog_4_method_10_code, 1, (some .boolean))
theorem zyw_numbersFit_4_10 : mm_Yw zy_numbersFit_4_10 0 := ⟨mm_tb_1 997 (by decide +kernel) rfl, mm_tb_1 3 (by decide +kernel) rfl, ⟨by decide, by decide⟩, by decide +kernel⟩
theorem zk_Layer_63 : mm_Sl "TensorForge$Layer" 63 3 zy_isWithin_4_9 := ⟨zyw_isWithin_4_9, mm_tb_1 998 (by decide +kernel) rfl, mm_tb_1 999 (by decide +kernel) rfl⟩
theorem zg_7_7_13 : (decode zy_offer_7_7.2.1 13 = .ok ((Instr.ifCond .eq) 14, 3)) ∧ (decode zy_offer_7_7.2.1 27 = .ok ((.iconst 1), 1)) ∧ (decode zy_offer_7_7.2.1 28 = .ok ((.ireturn), 1)) ∧ (decode zy_offer_7_7.2.1 16 = .ok ((.aload_n 0), 1)) ∧ (decode zy_offer_7_7.2.1 17 = .ok ((.aload_n 1), 1)) ∧ (decode zy_offer_7_7.2.1 18 = .ok ((.getfield 45), 3)) ∧ (decode zy_offer_7_7.2.1 21 = .ok ((.invokevirtual 41), 3)) ∧ (decode zy_offer_7_7.2.1 24 = .ok ((Instr.ifCond .ne) 5, 3)) ∧ (decode zy_offer_7_7.2.1 29 = .ok ((.aload_n 1), 1)) ∧ (decode zy_offer_7_7.2.1 30 = .ok ((.invokevirtual 48), 3)) := by decide +kernel
theorem zd_7_7_13 : zz_B zy_offer_7_7 13 (Instr.ifCond .eq) 27 16 := ⟨14, zg_7_7_13.1, rfl, rfl⟩
theorem zd_7_7_27 : zz_D zy_offer_7_7 27 (.iconst 1) 1 28 := ⟨zg_7_7_13.2.1, rfl⟩
theorem zd_7_7_28 : zz_D zy_offer_7_7 28 (.ireturn) 1 29 := ⟨zg_7_7_13.2.2.1, rfl⟩
theorem zd_7_7_16 : zz_D zy_offer_7_7 16 (.aload_n 0) 1 17 := ⟨zg_7_7_13.2.2.2.1, rfl⟩
theorem zd_7_7_17 : zz_D zy_offer_7_7 17 (.aload_n 1) 1 18 := ⟨zg_7_7_13.2.2.2.2.1, rfl⟩
theorem zd_7_7_18 : zz_D zy_offer_7_7 18 (.getfield 45) 3 21 := ⟨zg_7_7_13.2.2.2.2.2.1, rfl⟩
theorem zd_7_7_21 : zz_D zy_offer_7_7 21 (.invokevirtual 41) 3 24 := ⟨zg_7_7_13.2.2.2.2.2.2.1, rfl⟩
theorem zd_7_7_24 : zz_B zy_offer_7_7 24 (Instr.ifCond .ne) 29 27 := ⟨5, zg_7_7_13.2.2.2.2.2.2.2.1, rfl, rfl⟩
theorem zd_7_7_29 : zz_D zy_offer_7_7 29 (.aload_n 1) 1 30 := ⟨zg_7_7_13.2.2.2.2.2.2.2.2.1, rfl⟩
theorem zd_7_7_30 : zz_D zy_offer_7_7 30 (.invokevirtual 48) 3 33 := ⟨zg_7_7_13.2.2.2.2.2.2.2.2.2, rfl⟩
theorem zg_4_10_0 : (decode zy_numbersFit_4_10.2.1 0 = .ok ((.aload_n 0), 1)) ∧ (decode zy_numbersFit_4_10.2.1 1 = .ok ((.getfield 13), 3)) ∧ (decode zy_numbersFit_4_10.2.1 4 = .ok ((.iconst 3), 1)) ∧ (decode zy_numbersFit_4_10.2.1 5 = .ok ((Instr.if_icmp .ne) 14, 3)) ∧ (decode zy_numbersFit_4_10.2.1 19 = .ok ((.aload_n 0), 1)) ∧ (decode zy_numbersFit_4_10.2.1 20 = .ok ((.getfield 23), 3)) ∧ (decode zy_numbersFit_4_10.2.1 23 = .ok ((.iconst 1), 1)) ∧ (decode zy_numbersFit_4_10.2.1 24 = .ok ((.iconst 3), 1)) ∧ (decode zy_numbersFit_4_10.2.1 25 = .ok ((.invokestatic 63), 3)) ∧ (decode zy_numbersFit_4_10.2.1 28 = .ok ((Instr.ifCond .eq) 15, 3)) := by decide +kernel
theorem zd_4_10_0 : zz_D zy_numbersFit_4_10 0 (.aload_n 0) 1 1 := ⟨zg_4_10_0.1, rfl⟩
theorem zd_4_10_1 : zz_D zy_numbersFit_4_10 1 (.getfield 13) 3 4 := ⟨zg_4_10_0.2.1, rfl⟩
theorem zd_4_10_4 : zz_D zy_numbersFit_4_10 4 (.iconst 3) 1 5 := ⟨zg_4_10_0.2.2.1, rfl⟩
theorem zd_4_10_5 : zz_B zy_numbersFit_4_10 5 (Instr.if_icmp .ne) 19 8 := ⟨14, zg_4_10_0.2.2.2.1, rfl, rfl⟩
theorem zd_4_10_19 : zz_D zy_numbersFit_4_10 19 (.aload_n 0) 1 20 := ⟨zg_4_10_0.2.2.2.2.1, rfl⟩
theorem zd_4_10_20 : zz_D zy_numbersFit_4_10 20 (.getfield 23) 3 23 := ⟨zg_4_10_0.2.2.2.2.2.1, rfl⟩
theorem zd_4_10_23 : zz_D zy_numbersFit_4_10 23 (.iconst 1) 1 24 := ⟨zg_4_10_0.2.2.2.2.2.2.1, rfl⟩
theorem zd_4_10_24 : zz_D zy_numbersFit_4_10 24 (.iconst 3) 1 25 := ⟨zg_4_10_0.2.2.2.2.2.2.2.1, rfl⟩
theorem zd_4_10_25 : zz_D zy_numbersFit_4_10 25 (.invokestatic 63) 3 28 := ⟨zg_4_10_0.2.2.2.2.2.2.2.2.1, rfl⟩
theorem zd_4_10_28 : zz_B zy_numbersFit_4_10 28 (Instr.ifCond .eq) 43 31 := ⟨15, zg_4_10_0.2.2.2.2.2.2.2.2.2, rfl, rfl⟩
theorem zg_4_10_43 : (decode zy_numbersFit_4_10.2.1 43 = .ok ((.iconst 0), 1)) ∧ (decode zy_numbersFit_4_10.2.1 44 = .ok ((.ireturn), 1)) ∧ (decode zy_numbersFit_4_10.2.1 31 = .ok ((.aload_n 0), 1)) ∧ (decode zy_numbersFit_4_10.2.1 32 = .ok ((.getfield 26), 3)) ∧ (decode zy_numbersFit_4_10.2.1 35 = .ok ((.iconst 1), 1)) ∧ (decode zy_numbersFit_4_10.2.1 36 = .ok ((.iconst 3), 1)) ∧ (decode zy_numbersFit_4_10.2.1 37 = .ok ((.invokestatic 63), 3)) ∧ (decode zy_numbersFit_4_10.2.1 40 = .ok ((Instr.ifCond .ne) 5, 3)) ∧ (decode zy_numbersFit_4_10.2.1 45 = .ok ((.aload_n 0), 1)) ∧ (decode zy_numbersFit_4_10.2.1 46 = .ok ((.getfield 13), 3)) := by decide +kernel
theorem zd_4_10_43 : zz_D zy_numbersFit_4_10 43 (.iconst 0) 1 44 := ⟨zg_4_10_43.1, rfl⟩
theorem zd_4_10_44 : zz_D zy_numbersFit_4_10 44 (.ireturn) 1 45 := ⟨zg_4_10_43.2.1, rfl⟩
theorem zd_4_10_31 : zz_D zy_numbersFit_4_10 31 (.aload_n 0) 1 32 := ⟨zg_4_10_43.2.2.1, rfl⟩
theorem zd_4_10_32 : zz_D zy_numbersFit_4_10 32 (.getfield 26) 3 35 := ⟨zg_4_10_43.2.2.2.1, rfl⟩
theorem zd_4_10_35 : zz_D zy_numbersFit_4_10 35 (.iconst 1) 1 36 := ⟨zg_4_10_43.2.2.2.2.1, rfl⟩
theorem zd_4_10_36 : zz_D zy_numbersFit_4_10 36 (.iconst 3) 1 37 := ⟨zg_4_10_43.2.2.2.2.2.1, rfl⟩
theorem zd_4_10_37 : zz_D zy_numbersFit_4_10 37 (.invokestatic 63) 3 40 := ⟨zg_4_10_43.2.2.2.2.2.2.1, rfl⟩
theorem zd_4_10_40 : zz_B zy_numbersFit_4_10 40 (Instr.ifCond .ne) 45 43 := ⟨5, zg_4_10_43.2.2.2.2.2.2.2.1, rfl, rfl⟩
theorem zd_4_10_45 : zz_D zy_numbersFit_4_10 45 (.aload_n 0) 1 46 := ⟨zg_4_10_43.2.2.2.2.2.2.2.2.1, rfl⟩
theorem zd_4_10_46 : zz_D zy_numbersFit_4_10 46 (.getfield 13) 3 49 := ⟨zg_4_10_43.2.2.2.2.2.2.2.2.2, rfl⟩
theorem zg_4_10_49 : (decode zy_numbersFit_4_10.2.1 49 = .ok ((.iconst 2), 1)) ∧ (decode zy_numbersFit_4_10.2.1 50 = .ok ((Instr.if_icmp .ne) 13, 3)) ∧ (decode zy_numbersFit_4_10.2.1 63 = .ok ((.aload_n 0), 1)) ∧ (decode zy_numbersFit_4_10.2.1 64 = .ok ((.getfield 29), 3)) ∧ (decode zy_numbersFit_4_10.2.1 67 = .ok ((.iconst 1), 1)) ∧ (decode zy_numbersFit_4_10.2.1 68 = .ok ((.iconst 2), 1)) ∧ (decode zy_numbersFit_4_10.2.1 69 = .ok ((.invokestatic 63), 3)) ∧ (decode zy_numbersFit_4_10.2.1 72 = .ok ((Instr.ifCond .eq) 45, 3)) ∧ (decode zy_numbersFit_4_10.2.1 117 = .ok ((.iconst 0), 1)) ∧ (decode zy_numbersFit_4_10.2.1 118 = .ok ((.ireturn), 1)) := by decide +kernel
theorem zd_4_10_49 : zz_D zy_numbersFit_4_10 49 (.iconst 2) 1 50 := ⟨zg_4_10_49.1, rfl⟩
theorem zd_4_10_50 : zz_B zy_numbersFit_4_10 50 (Instr.if_icmp .ne) 63 53 := ⟨13, zg_4_10_49.2.1, rfl, rfl⟩
theorem zd_4_10_63 : zz_D zy_numbersFit_4_10 63 (.aload_n 0) 1 64 := ⟨zg_4_10_49.2.2.1, rfl⟩
theorem zd_4_10_64 : zz_D zy_numbersFit_4_10 64 (.getfield 29) 3 67 := ⟨zg_4_10_49.2.2.2.1, rfl⟩
theorem zd_4_10_67 : zz_D zy_numbersFit_4_10 67 (.iconst 1) 1 68 := ⟨zg_4_10_49.2.2.2.2.1, rfl⟩
theorem zd_4_10_68 : zz_D zy_numbersFit_4_10 68 (.iconst 2) 1 69 := ⟨zg_4_10_49.2.2.2.2.2.1, rfl⟩
theorem zd_4_10_69 : zz_D zy_numbersFit_4_10 69 (.invokestatic 63) 3 72 := ⟨zg_4_10_49.2.2.2.2.2.2.1, rfl⟩
theorem zd_4_10_72 : zz_B zy_numbersFit_4_10 72 (Instr.ifCond .eq) 117 75 := ⟨45, zg_4_10_49.2.2.2.2.2.2.2.1, rfl, rfl⟩
theorem zd_4_10_117 : zz_D zy_numbersFit_4_10 117 (.iconst 0) 1 118 := ⟨zg_4_10_49.2.2.2.2.2.2.2.2.1, rfl⟩
theorem zd_4_10_118 : zz_D zy_numbersFit_4_10 118 (.ireturn) 1 119 := ⟨zg_4_10_49.2.2.2.2.2.2.2.2.2, rfl⟩
theorem zg_4_10_75 : (decode zy_numbersFit_4_10.2.1 75 = .ok ((.aload_n 0), 1)) ∧ (decode zy_numbersFit_4_10.2.1 76 = .ok ((.getfield 32), 3)) ∧ (decode zy_numbersFit_4_10.2.1 79 = .ok ((.iconst 0), 1)) ∧ (decode zy_numbersFit_4_10.2.1 80 = .ok ((.iconst 1), 1)) ∧ (decode zy_numbersFit_4_10.2.1 81 = .ok ((.invokestatic 63), 3)) ∧ (decode zy_numbersFit_4_10.2.1 84 = .ok ((Instr.ifCond .eq) 33, 3)) ∧ (decode zy_numbersFit_4_10.2.1 87 = .ok ((.aload_n 0), 1)) ∧ (decode zy_numbersFit_4_10.2.1 88 = .ok ((.getfield 35), 3)) ∧ (decode zy_numbersFit_4_10.2.1 91 = .ok ((.iconst 0), 1)) ∧ (decode zy_numbersFit_4_10.2.1 92 = .ok ((.bipush 15), 2)) := by decide +kernel
theorem zd_4_10_75 : zz_D zy_numbersFit_4_10 75 (.aload_n 0) 1 76 := ⟨zg_4_10_75.1, rfl⟩
theorem zd_4_10_76 : zz_D zy_numbersFit_4_10 76 (.getfield 32) 3 79 := ⟨zg_4_10_75.2.1, rfl⟩
theorem zd_4_10_79 : zz_D zy_numbersFit_4_10 79 (.iconst 0) 1 80 := ⟨zg_4_10_75.2.2.1, rfl⟩
theorem zd_4_10_80 : zz_D zy_numbersFit_4_10 80 (.iconst 1) 1 81 := ⟨zg_4_10_75.2.2.2.1, rfl⟩
theorem zd_4_10_81 : zz_D zy_numbersFit_4_10 81 (.invokestatic 63) 3 84 := ⟨zg_4_10_75.2.2.2.2.1, rfl⟩
theorem zd_4_10_84 : zz_B zy_numbersFit_4_10 84 (Instr.ifCond .eq) 117 87 := ⟨33, zg_4_10_75.2.2.2.2.2.1, rfl, rfl⟩
theorem zd_4_10_87 : zz_D zy_numbersFit_4_10 87 (.aload_n 0) 1 88 := ⟨zg_4_10_75.2.2.2.2.2.2.1, rfl⟩
theorem zd_4_10_88 : zz_D zy_numbersFit_4_10 88 (.getfield 35) 3 91 := ⟨zg_4_10_75.2.2.2.2.2.2.2.1, rfl⟩
theorem zd_4_10_91 : zz_D zy_numbersFit_4_10 91 (.iconst 0) 1 92 := ⟨zg_4_10_75.2.2.2.2.2.2.2.2.1, rfl⟩
theorem zd_4_10_92 : zz_D zy_numbersFit_4_10 92 (.bipush 15) 2 94 := ⟨zg_4_10_75.2.2.2.2.2.2.2.2.2, rfl⟩
theorem zg_4_10_94 : (decode zy_numbersFit_4_10.2.1 94 = .ok ((.invokestatic 63), 3)) ∧ (decode zy_numbersFit_4_10.2.1 97 = .ok ((Instr.ifCond .eq) 20, 3)) ∧ (decode zy_numbersFit_4_10.2.1 100 = .ok ((.aload_n 0), 1)) ∧ (decode zy_numbersFit_4_10.2.1 101 = .ok ((.getfield 60), 3)) ∧ (decode zy_numbersFit_4_10.2.1 104 = .ok ((.iconst 1), 1)) ∧ (decode zy_numbersFit_4_10.2.1 105 = .ok ((.bipush 16), 2)) ∧ (decode zy_numbersFit_4_10.2.1 107 = .ok ((.invokestatic 63), 3)) ∧ (decode zy_numbersFit_4_10.2.1 110 = .ok ((Instr.ifCond .eq) 7, 3)) ∧ (decode zy_numbersFit_4_10.2.1 113 = .ok ((.iconst 1), 1)) ∧ (decode zy_numbersFit_4_10.2.1 114 = .ok (Instr.goto 4, 3)) := by decide +kernel
theorem zd_4_10_94 : zz_D zy_numbersFit_4_10 94 (.invokestatic 63) 3 97 := ⟨zg_4_10_94.1, rfl⟩
theorem zd_4_10_97 : zz_B zy_numbersFit_4_10 97 (Instr.ifCond .eq) 117 100 := ⟨20, zg_4_10_94.2.1, rfl, rfl⟩
theorem zd_4_10_100 : zz_D zy_numbersFit_4_10 100 (.aload_n 0) 1 101 := ⟨zg_4_10_94.2.2.1, rfl⟩
theorem zd_4_10_101 : zz_D zy_numbersFit_4_10 101 (.getfield 60) 3 104 := ⟨zg_4_10_94.2.2.2.1, rfl⟩
theorem zd_4_10_104 : zz_D zy_numbersFit_4_10 104 (.iconst 1) 1 105 := ⟨zg_4_10_94.2.2.2.2.1, rfl⟩
theorem zd_4_10_105 : zz_D zy_numbersFit_4_10 105 (.bipush 16) 2 107 := ⟨zg_4_10_94.2.2.2.2.2.1, rfl⟩
theorem zd_4_10_107 : zz_D zy_numbersFit_4_10 107 (.invokestatic 63) 3 110 := ⟨zg_4_10_94.2.2.2.2.2.2.1, rfl⟩
theorem zd_4_10_110 : zz_B zy_numbersFit_4_10 110 (Instr.ifCond .eq) 117 113 := ⟨7, zg_4_10_94.2.2.2.2.2.2.2.1, rfl, rfl⟩
theorem zd_4_10_113 : zz_D zy_numbersFit_4_10 113 (.iconst 1) 1 114 := ⟨zg_4_10_94.2.2.2.2.2.2.2.2.1, rfl⟩
theorem zd_4_10_114 : zz_B zy_numbersFit_4_10 114 Instr.goto 118 117 := ⟨4, zg_4_10_94.2.2.2.2.2.2.2.2.2, rfl, rfl⟩
theorem zg_4_10_53 : (decode zy_numbersFit_4_10.2.1 53 = .ok ((.aload_n 0), 1)) ∧ (decode zy_numbersFit_4_10.2.1 54 = .ok ((.getfield 29), 3)) ∧ (decode zy_numbersFit_4_10.2.1 57 = .ok ((.iconst 1), 1)) ∧ (decode zy_numbersFit_4_10.2.1 58 = .ok ((.iconst 3), 1)) ∧ (decode zy_numbersFit_4_10.2.1 59 = .ok ((.invokestatic 63), 3)) ∧ (decode zy_numbersFit_4_10.2.1 62 = .ok ((.ireturn), 1)) ∧ (decode zy_numbersFit_4_10.2.1 8 = .ok ((.aload_n 0), 1)) ∧ (decode zy_numbersFit_4_10.2.1 9 = .ok ((.getfield 35), 3)) ∧ (decode zy_numbersFit_4_10.2.1 12 = .ok ((.iconst 0), 1)) ∧ (decode zy_numbersFit_4_10.2.1 13 = .ok ((.bipush 15), 2)) := by decide +kernel
theorem zd_4_10_53 : zz_D zy_numbersFit_4_10 53 (.aload_n 0) 1 54 := ⟨zg_4_10_53.1, rfl⟩
theorem zd_4_10_54 : zz_D zy_numbersFit_4_10 54 (.getfield 29) 3 57 := ⟨zg_4_10_53.2.1, rfl⟩
theorem zd_4_10_57 : zz_D zy_numbersFit_4_10 57 (.iconst 1) 1 58 := ⟨zg_4_10_53.2.2.1, rfl⟩
theorem zd_4_10_58 : zz_D zy_numbersFit_4_10 58 (.iconst 3) 1 59 := ⟨zg_4_10_53.2.2.2.1, rfl⟩
theorem zd_4_10_59 : zz_D zy_numbersFit_4_10 59 (.invokestatic 63) 3 62 := ⟨zg_4_10_53.2.2.2.2.1, rfl⟩
theorem zd_4_10_62 : zz_D zy_numbersFit_4_10 62 (.ireturn) 1 63 := ⟨zg_4_10_53.2.2.2.2.2.1, rfl⟩
theorem zd_4_10_8 : zz_D zy_numbersFit_4_10 8 (.aload_n 0) 1 9 := ⟨zg_4_10_53.2.2.2.2.2.2.1, rfl⟩
theorem zd_4_10_9 : zz_D zy_numbersFit_4_10 9 (.getfield 35) 3 12 := ⟨zg_4_10_53.2.2.2.2.2.2.2.1, rfl⟩
theorem zd_4_10_12 : zz_D zy_numbersFit_4_10 12 (.iconst 0) 1 13 := ⟨zg_4_10_53.2.2.2.2.2.2.2.2.1, rfl⟩
theorem zd_4_10_13 : zz_D zy_numbersFit_4_10 13 (.bipush 15) 2 15 := ⟨zg_4_10_53.2.2.2.2.2.2.2.2.2, rfl⟩
theorem zg_4_10_15 : (decode zy_numbersFit_4_10.2.1 15 = .ok ((.invokestatic 63), 3)) ∧ (decode zy_numbersFit_4_10.2.1 18 = .ok ((.ireturn), 1)) := by decide +kernel
theorem zd_4_10_15 : zz_D zy_numbersFit_4_10 15 (.invokestatic 63) 3 18 := ⟨zg_4_10_15.1, rfl⟩
theorem zd_4_10_18 : zz_D zy_numbersFit_4_10 18 (.ireturn) 1 19 := ⟨zg_4_10_15.2, rfl⟩
-- TensorForge$Layer numbersFit ()Z
abbrev zr_numbersFit_4_10 : Room := { frames := 1, cells := 0, slots := 0, locals := 14 }
def zp_numbersFit_4_10 (t : Int) (S0 : zz_S) : Int → zz_S → Prop := fun r S => S0 = S ∧ (0 ≤ r ∧ r ≤ 1) ∧ (r = 1 → (S0 (zz_rf 6 t) 0 = 3 ∨ (S0 (zz_rf 6 t) 3 ≤ 3 ∧ S0 (zz_rf 6 t) 4 ≤ 3)) ∧ (S0 (zz_rf 6 t) 0 = 3 ∨ S0 (zz_rf 6 t) 0 = 2 ∨ S0 (zz_rf 6 t) 12 ≤ 16)) ∧ ((r = 1 ∧ zn_fit (S0 (zz_rf 6 t) 0) (S0 (zz_rf 6 t) 3) (S0 (zz_rf 6 t) 4) (S0 (zz_rf 6 t) 5) (S0 (zz_rf 6 t) 6) (S0 (zz_rf 6 t) 7) (S0 (zz_rf 6 t) 12)) ∨ (r = 0 ∧ ¬ zn_fit (S0 (zz_rf 6 t) 0) (S0 (zz_rf 6 t) 3) (S0 (zz_rf 6 t) 4) (S0 (zz_rf 6 t) 5) (S0 (zz_rf 6 t) 6) (S0 (zz_rf 6 t) 7) (S0 (zz_rf 6 t) 12)))
theorem zc_numbersFit_4_10 {g : mm_G} {l : Launch} (t : Int) (S0 : zz_S) (n : Nat) (hn : zz_end ≤ n) (G_S0 : zz_G S0) (ht : 0 ≤ t ∧ t ≤ 23) : mm_Met g l zy_numbersFit_4_10 zr_numbersFit_4_10 [.ref (zz_rf 6 t)] (zz_M S0 n) n (zz_QI n (zp_numbersFit_4_10 t S0)) := by
  refine zz_enter (by decide) (Nat.le_of_ble_eq_true rfl) (zz_less (ls1 := [some (.ref (zz_rf 6 t))]) ⟨rfl, trivial⟩ ?_)
  have b_t := zz_rf6 (z := t) (by omega)
  refine zz_aload_n (x := zz_rf 6 t) rfl zd_4_10_0 ?_
  have g1 := zz_G.r G_S0 (zz_rf 6 t) 0 (-2147483648) 2147483647 (zR_k6_0 (by omega)) (zB_k6 (by omega))
  refine zz_geti (z := S0 (zz_rf 6 t) 0) zd_4_10_1 zf_Layer_13 (zT_k6 (by omega)) rfl (zN_k6 hn (by omega)) rfl ?_
  refine zz_iconst zd_4_10_4 ?_
  refine zz_icmp_ne (by omega) (by omega) zd_4_10_5 (fun c2 => ?_) (fun c2 => ?_)
  · refine zz_aload_n (x := zz_rf 6 t) rfl zd_4_10_19 ?_
    have g3 := zz_G.r G_S0 (zz_rf 6 t) 3 (-2147483648) 2147483647 (zR_k6_3 (by omega)) (zB_k6 (by omega))
    refine zz_geti (z := S0 (zz_rf 6 t) 3) zd_4_10_20 zf_Layer_23 (zT_k6 (by omega)) rfl (zN_k6 hn (by omega)) rfl ?_
    refine zz_iconst zd_4_10_23 ?_
    refine zz_iconst zd_4_10_24 ?_
    refine zz_callSI [zi (S0 (zz_rf 6 t) 3), zi 1, zi 3] zd_4_10_25 zk_Layer_63 rfl rfl ⟨Nat.le_of_ble_eq_true rfl, Nat.le_of_ble_eq_true rfl⟩ ⟨rfl, rfl⟩ (Nat.zero_le _) (Nat.zero_le _) (zc_isWithin_4_9 (S0 (zz_rf 6 t) 3) 1 3 S0 n hn G_S0 (by omega) (by omega) (by omega)) (fun v5 S4 hP => ?_)
    obtain ⟨rfl, o6, o7⟩ := hP
    rcases (by omega : v5 = 0 ∨ v5 = 1) with rfl | rfl
    · refine zz_if_eq (by omega) zd_4_10_28 (fun c8 => ?_) (fun c8 => ?_)
      · refine zz_iconst zd_4_10_43 ?_
        exact zz_zret zd_4_10_44 rfl (by omega) (Nat.zero_le _) (Nat.zero_le _) ⟨_, _, rfl, rfl, by omega, by omega, (Or.inr ⟨rfl, by unfold zn_fit; omega⟩)⟩
      · exfalso; omega
    · refine zz_if_eq (by omega) zd_4_10_28 (fun c9 => ?_) (fun c9 => ?_)
      · exfalso; omega
      · refine zz_aload_n (x := zz_rf 6 t) rfl zd_4_10_31 ?_
        have g10 := zz_G.r G_S0 (zz_rf 6 t) 4 (-2147483648) 2147483647 (zR_k6_4 (by omega)) (zB_k6 (by omega))
        refine zz_geti (z := S0 (zz_rf 6 t) 4) zd_4_10_32 zf_Layer_26 (zT_k6 (by omega)) rfl (zN_k6 hn (by omega)) rfl ?_
        refine zz_iconst zd_4_10_35 ?_
        refine zz_iconst zd_4_10_36 ?_
        refine zz_callSI [zi (S0 (zz_rf 6 t) 4), zi 1, zi 3] zd_4_10_37 zk_Layer_63 rfl rfl ⟨Nat.le_of_ble_eq_true rfl, Nat.le_of_ble_eq_true rfl⟩ ⟨rfl, rfl⟩ (Nat.zero_le _) (Nat.zero_le _) (zc_isWithin_4_9 (S0 (zz_rf 6 t) 4) 1 3 S0 n hn G_S0 (by omega) (by omega) (by omega)) (fun v12 S11 hP => ?_)
        obtain ⟨rfl, o13, o14⟩ := hP
        rcases (by omega : v12 = 0 ∨ v12 = 1) with rfl | rfl
        · refine zz_if_ne (by omega) zd_4_10_40 (fun c15 => ?_) (fun c15 => ?_)
          · exfalso; omega
          · refine zz_iconst zd_4_10_43 ?_
            exact zz_zret zd_4_10_44 rfl (by omega) (Nat.zero_le _) (Nat.zero_le _) ⟨_, _, rfl, rfl, by omega, by omega, (Or.inr ⟨rfl, by unfold zn_fit; omega⟩)⟩
        · refine zz_if_ne (by omega) zd_4_10_40 (fun c16 => ?_) (fun c16 => ?_)
          · refine zz_aload_n (x := zz_rf 6 t) rfl zd_4_10_45 ?_
            refine zz_geti (z := S0 (zz_rf 6 t) 0) zd_4_10_46 zf_Layer_13 (zT_k6 (by omega)) rfl (zN_k6 hn (by omega)) rfl ?_
            refine zz_iconst zd_4_10_49 ?_
            refine zz_icmp_ne (by omega) (by omega) zd_4_10_50 (fun c17 => ?_) (fun c17 => ?_)
            · refine zz_aload_n (x := zz_rf 6 t) rfl zd_4_10_63 ?_
              have g18 := zz_G.r G_S0 (zz_rf 6 t) 5 (-2147483648) 2147483647 (zR_k6_5 (by omega)) (zB_k6 (by omega))
              refine zz_geti (z := S0 (zz_rf 6 t) 5) zd_4_10_64 zf_Layer_29 (zT_k6 (by omega)) rfl (zN_k6 hn (by omega)) rfl ?_
              refine zz_iconst zd_4_10_67 ?_
              refine zz_iconst zd_4_10_68 ?_
              refine zz_callSI [zi (S0 (zz_rf 6 t) 5), zi 1, zi 2] zd_4_10_69 zk_Layer_63 rfl rfl ⟨Nat.le_of_ble_eq_true rfl, Nat.le_of_ble_eq_true rfl⟩ ⟨rfl, rfl⟩ (Nat.zero_le _) (Nat.zero_le _) (zc_isWithin_4_9 (S0 (zz_rf 6 t) 5) 1 2 S0 n hn G_S0 (by omega) (by omega) (by omega)) (fun v20 S19 hP => ?_)
              obtain ⟨rfl, o21, o22⟩ := hP
              rcases (by omega : v20 = 0 ∨ v20 = 1) with rfl | rfl
              · refine zz_if_eq (by omega) zd_4_10_72 (fun c23 => ?_) (fun c23 => ?_)
                · refine zz_iconst zd_4_10_117 ?_
                  exact zz_zret zd_4_10_118 rfl (by omega) (Nat.zero_le _) (Nat.zero_le _) ⟨_, _, rfl, rfl, by omega, by omega, (Or.inr ⟨rfl, by unfold zn_fit; omega⟩)⟩
                · exfalso; omega
              · refine zz_if_eq (by omega) zd_4_10_72 (fun c24 => ?_) (fun c24 => ?_)
                · exfalso; omega
                · refine zz_aload_n (x := zz_rf 6 t) rfl zd_4_10_75 ?_
                  have g25 := zz_G.r G_S0 (zz_rf 6 t) 6 (-2147483648) 2147483647 (zR_k6_6 (by omega)) (zB_k6 (by omega))
                  refine zz_geti (z := S0 (zz_rf 6 t) 6) zd_4_10_76 zf_Layer_32 (zT_k6 (by omega)) rfl (zN_k6 hn (by omega)) rfl ?_
                  refine zz_iconst zd_4_10_79 ?_
                  refine zz_iconst zd_4_10_80 ?_
                  refine zz_callSI [zi (S0 (zz_rf 6 t) 6), zi 0, zi 1] zd_4_10_81 zk_Layer_63 rfl rfl ⟨Nat.le_of_ble_eq_true rfl, Nat.le_of_ble_eq_true rfl⟩ ⟨rfl, rfl⟩ (Nat.zero_le _) (Nat.zero_le _) (zc_isWithin_4_9 (S0 (zz_rf 6 t) 6) 0 1 S0 n hn G_S0 (by omega) (by omega) (by omega)) (fun v27 S26 hP => ?_)
                  obtain ⟨rfl, o28, o29⟩ := hP
                  rcases (by omega : v27 = 0 ∨ v27 = 1) with rfl | rfl
                  · refine zz_if_eq (by omega) zd_4_10_84 (fun c30 => ?_) (fun c30 => ?_)
                    · refine zz_iconst zd_4_10_117 ?_
                      exact zz_zret zd_4_10_118 rfl (by omega) (Nat.zero_le _) (Nat.zero_le _) ⟨_, _, rfl, rfl, by omega, by omega, (Or.inr ⟨rfl, by unfold zn_fit; omega⟩)⟩
                    · exfalso; omega
                  · refine zz_if_eq (by omega) zd_4_10_84 (fun c31 => ?_) (fun c31 => ?_)
                    · exfalso; omega
                    · refine zz_aload_n (x := zz_rf 6 t) rfl zd_4_10_87 ?_
                      have g32 := zz_G.r G_S0 (zz_rf 6 t) 7 (-2147483648) 2147483647 (zR_k6_7 (by omega)) (zB_k6 (by omega))
                      refine zz_geti (z := S0 (zz_rf 6 t) 7) zd_4_10_88 zf_Layer_35 (zT_k6 (by omega)) rfl (zN_k6 hn (by omega)) rfl ?_
                      refine zz_iconst zd_4_10_91 ?_
                      refine zz_bipush (by decide) zd_4_10_92 ?_
                      refine zz_callSI [zi (S0 (zz_rf 6 t) 7), zi 0, zi 15] zd_4_10_94 zk_Layer_63 rfl rfl ⟨Nat.le_of_ble_eq_true rfl, Nat.le_of_ble_eq_true rfl⟩ ⟨rfl, rfl⟩ (Nat.zero_le _) (Nat.zero_le _) (zc_isWithin_4_9 (S0 (zz_rf 6 t) 7) 0 15 S0 n hn G_S0 (by omega) (by omega) (by omega)) (fun v34 S33 hP => ?_)
                      obtain ⟨rfl, o35, o36⟩ := hP
                      rcases (by omega : v34 = 0 ∨ v34 = 1) with rfl | rfl
                      · refine zz_if_eq (by omega) zd_4_10_97 (fun c37 => ?_) (fun c37 => ?_)
                        · refine zz_iconst zd_4_10_117 ?_
                          exact zz_zret zd_4_10_118 rfl (by omega) (Nat.zero_le _) (Nat.zero_le _) ⟨_, _, rfl, rfl, by omega, by omega, (Or.inr ⟨rfl, by unfold zn_fit; omega⟩)⟩
                        · exfalso; omega
                      · refine zz_if_eq (by omega) zd_4_10_97 (fun c38 => ?_) (fun c38 => ?_)
                        · exfalso; omega
                        · refine zz_aload_n (x := zz_rf 6 t) rfl zd_4_10_100 ?_
                          have g39 := zz_G.r G_S0 (zz_rf 6 t) 12 (-2147483648) 2147483647 (zR_k6_12 (by omega)) (zB_k6 (by omega))
                          refine zz_geti (z := S0 (zz_rf 6 t) 12) zd_4_10_101 zf_Layer_60 (zT_k6 (by omega)) rfl (zN_k6 hn (by omega)) rfl ?_
                          refine zz_iconst zd_4_10_104 ?_
                          refine zz_bipush (by decide) zd_4_10_105 ?_
                          refine zz_callSI [zi (S0 (zz_rf 6 t) 12), zi 1, zi 16] zd_4_10_107 zk_Layer_63 rfl rfl ⟨Nat.le_of_ble_eq_true rfl, Nat.le_of_ble_eq_true rfl⟩ ⟨rfl, rfl⟩ (Nat.zero_le _) (Nat.zero_le _) (zc_isWithin_4_9 (S0 (zz_rf 6 t) 12) 1 16 S0 n hn G_S0 (by omega) (by omega) (by omega)) (fun v41 S40 hP => ?_)
                          obtain ⟨rfl, o42, o43⟩ := hP
                          rcases (by omega : v41 = 0 ∨ v41 = 1) with rfl | rfl
                          · refine zz_if_eq (by omega) zd_4_10_110 (fun c44 => ?_) (fun c44 => ?_)
                            · refine zz_iconst zd_4_10_117 ?_
                              exact zz_zret zd_4_10_118 rfl (by omega) (Nat.zero_le _) (Nat.zero_le _) ⟨_, _, rfl, rfl, by omega, by omega, (Or.inr ⟨rfl, by unfold zn_fit; omega⟩)⟩
                            · exfalso; omega
                          · refine zz_if_eq (by omega) zd_4_10_110 (fun c45 => ?_) (fun c45 => ?_)
                            · exfalso; omega
                            · refine zz_iconst zd_4_10_113 ?_
                              refine zz_goto zd_4_10_114 ?_
                              exact zz_zret zd_4_10_118 rfl (by omega) (Nat.zero_le _) (Nat.zero_le _) ⟨_, _, rfl, rfl, by omega, by omega, (Or.inl ⟨rfl, by unfold zn_fit; omega⟩)⟩
            · refine zz_aload_n (x := zz_rf 6 t) rfl zd_4_10_53 ?_
              have g46 := zz_G.r G_S0 (zz_rf 6 t) 5 (-2147483648) 2147483647 (zR_k6_5 (by omega)) (zB_k6 (by omega))
              refine zz_geti (z := S0 (zz_rf 6 t) 5) zd_4_10_54 zf_Layer_29 (zT_k6 (by omega)) rfl (zN_k6 hn (by omega)) rfl ?_
              refine zz_iconst zd_4_10_57 ?_
              refine zz_iconst zd_4_10_58 ?_
              refine zz_callSI [zi (S0 (zz_rf 6 t) 5), zi 1, zi 3] zd_4_10_59 zk_Layer_63 rfl rfl ⟨Nat.le_of_ble_eq_true rfl, Nat.le_of_ble_eq_true rfl⟩ ⟨rfl, rfl⟩ (Nat.zero_le _) (Nat.zero_le _) (zc_isWithin_4_9 (S0 (zz_rf 6 t) 5) 1 3 S0 n hn G_S0 (by omega) (by omega) (by omega)) (fun v48 S47 hP => ?_)
              obtain ⟨rfl, o49, o50⟩ := hP
              rcases (by omega : v48 = 0 ∨ v48 = 1) with rfl | rfl
              · exact zz_zret zd_4_10_62 rfl (by omega) (Nat.zero_le _) (Nat.zero_le _) ⟨_, _, rfl, rfl, by omega, by omega, (Or.inr ⟨rfl, by unfold zn_fit; omega⟩)⟩
              · exact zz_zret zd_4_10_62 rfl (by omega) (Nat.zero_le _) (Nat.zero_le _) ⟨_, _, rfl, rfl, by omega, by omega, (Or.inl ⟨rfl, by unfold zn_fit; omega⟩)⟩
          · exfalso; omega
  · refine zz_aload_n (x := zz_rf 6 t) rfl zd_4_10_8 ?_
    have g51 := zz_G.r G_S0 (zz_rf 6 t) 7 (-2147483648) 2147483647 (zR_k6_7 (by omega)) (zB_k6 (by omega))
    refine zz_geti (z := S0 (zz_rf 6 t) 7) zd_4_10_9 zf_Layer_35 (zT_k6 (by omega)) rfl (zN_k6 hn (by omega)) rfl ?_
    refine zz_iconst zd_4_10_12 ?_
    refine zz_bipush (by decide) zd_4_10_13 ?_
    refine zz_callSI [zi (S0 (zz_rf 6 t) 7), zi 0, zi 15] zd_4_10_15 zk_Layer_63 rfl rfl ⟨Nat.le_of_ble_eq_true rfl, Nat.le_of_ble_eq_true rfl⟩ ⟨rfl, rfl⟩ (Nat.zero_le _) (Nat.zero_le _) (zc_isWithin_4_9 (S0 (zz_rf 6 t) 7) 0 15 S0 n hn G_S0 (by omega) (by omega) (by omega)) (fun v53 S52 hP => ?_)
    obtain ⟨rfl, o54, o55⟩ := hP
    rcases (by omega : v53 = 0 ∨ v53 = 1) with rfl | rfl
    · exact zz_zret zd_4_10_18 rfl (by omega) (Nat.zero_le _) (Nat.zero_le _) ⟨_, _, rfl, rfl, by omega, by omega, (Or.inr ⟨rfl, by unfold zn_fit; omega⟩)⟩
    · exact zz_zret zd_4_10_18 rfl (by omega) (Nat.zero_le _) (Nat.zero_le _) ⟨_, _, rfl, rfl, by omega, by omega, (Or.inl ⟨rfl, by unfold zn_fit; omega⟩)⟩
theorem zk_Network_48 : mm_Vl "TensorForge$Network" 48 2 0 zy_numbersFit_4_10 := ⟨zyw_numbersFit_4_10, (R_Layer, F_Layer, 15), rfl, mm_tb_1 994 (by decide +kernel) rfl, mm_tb_1 995 (by decide +kernel) rfl, mm_tb_1 996 (by decide +kernel) rfl⟩
abbrev zy_takeResult_4_11 : mm_Y := (⟨"TensorForge$Layer", "takeResult", "(LTensorForge$Layer;LTensorForge$Layer;)Z"⟩, prog_4_method_11_code, 5, (some .boolean))
theorem zyw_takeResult_4_11 : mm_Yw zy_takeResult_4_11 2 := ⟨mm_tb_1 1004 (by decide +kernel) rfl, mm_tb_1 3 (by decide +kernel) rfl, ⟨by decide, by decide⟩, by decide +kernel⟩
abbrev zy_parametersSize_4_12 : mm_Y := (⟨"TensorForge$Layer", "parametersSize", "(LTensorForge$Layer;)I"⟩, prog_4_method_12_code, 2, (some .int))
theorem zyw_parametersSize_4_12 : mm_Yw zy_parametersSize_4_12 1 := ⟨mm_tb_1 1008 (by decide +kernel) rfl, mm_tb_1 3 (by decide +kernel) rfl, ⟨by decide, by decide⟩, by decide +kernel⟩
theorem zg_7_7_33 : (decode zy_offer_7_7.2.1 33 = .ok ((Instr.ifCond .eq) 28, 3)) ∧ (decode zy_offer_7_7.2.1 61 = .ok ((.iconst 2), 1)) ∧ (decode zy_offer_7_7.2.1 62 = .ok ((.ireturn), 1)) ∧ (decode zy_offer_7_7.2.1 36 = .ok ((.aload_n 1), 1)) ∧ (decode zy_offer_7_7.2.1 37 = .ok ((.aload_n 0), 1)) ∧ (decode zy_offer_7_7.2.1 38 = .ok ((.getfield 11), 3)) ∧ (decode zy_offer_7_7.2.1 41 = .ok ((.aload_n 1), 1)) ∧ (decode zy_offer_7_7.2.1 42 = .ok ((.getfield 38), 3)) ∧ (decode zy_offer_7_7.2.1 45 = .ok ((.aaload), 1)) ∧ (decode zy_offer_7_7.2.1 46 = .ok ((.aload_n 0), 1)) := by decide +kernel
theorem zd_7_7_33 : zz_B zy_offer_7_7 33 (Instr.ifCond .eq) 61 36 := ⟨28, zg_7_7_33.1, rfl, rfl⟩
theorem zd_7_7_61 : zz_D zy_offer_7_7 61 (.iconst 2) 1 62 := ⟨zg_7_7_33.2.1, rfl⟩
theorem zd_7_7_62 : zz_D zy_offer_7_7 62 (.ireturn) 1 63 := ⟨zg_7_7_33.2.2.1, rfl⟩
theorem zd_7_7_36 : zz_D zy_offer_7_7 36 (.aload_n 1) 1 37 := ⟨zg_7_7_33.2.2.2.1, rfl⟩
theorem zd_7_7_37 : zz_D zy_offer_7_7 37 (.aload_n 0) 1 38 := ⟨zg_7_7_33.2.2.2.2.1, rfl⟩
theorem zd_7_7_38 : zz_D zy_offer_7_7 38 (.getfield 11) 3 41 := ⟨zg_7_7_33.2.2.2.2.2.1, rfl⟩
theorem zd_7_7_41 : zz_D zy_offer_7_7 41 (.aload_n 1) 1 42 := ⟨zg_7_7_33.2.2.2.2.2.2.1, rfl⟩
theorem zd_7_7_42 : zz_D zy_offer_7_7 42 (.getfield 38) 3 45 := ⟨zg_7_7_33.2.2.2.2.2.2.2.1, rfl⟩
theorem zd_7_7_45 : zz_D zy_offer_7_7 45 (.aaload) 1 46 := ⟨zg_7_7_33.2.2.2.2.2.2.2.2.1, rfl⟩
theorem zd_7_7_46 : zz_D zy_offer_7_7 46 (.aload_n 0) 1 47 := ⟨zg_7_7_33.2.2.2.2.2.2.2.2.2, rfl⟩
theorem zg_7_7_47 : (decode zy_offer_7_7.2.1 47 = .ok ((.getfield 11), 3)) ∧ (decode zy_offer_7_7.2.1 50 = .ok ((.aload_n 1), 1)) ∧ (decode zy_offer_7_7.2.1 51 = .ok ((.getfield 45), 3)) ∧ (decode zy_offer_7_7.2.1 54 = .ok ((.aaload), 1)) ∧ (decode zy_offer_7_7.2.1 55 = .ok ((.invokevirtual 52), 3)) := by decide +kernel
theorem zd_7_7_47 : zz_D zy_offer_7_7 47 (.getfield 11) 3 50 := ⟨zg_7_7_47.1, rfl⟩
theorem zd_7_7_50 : zz_D zy_offer_7_7 50 (.aload_n 1) 1 51 := ⟨zg_7_7_47.2.1, rfl⟩
theorem zd_7_7_51 : zz_D zy_offer_7_7 51 (.getfield 45) 3 54 := ⟨zg_7_7_47.2.2.1, rfl⟩
theorem zd_7_7_54 : zz_D zy_offer_7_7 54 (.aaload) 1 55 := ⟨zg_7_7_47.2.2.2.1, rfl⟩
theorem zd_7_7_55 : zz_D zy_offer_7_7 55 (.invokevirtual 52) 3 58 := ⟨zg_7_7_47.2.2.2.2, rfl⟩
theorem zg_4_11_0 : (decode zy_takeResult_4_11.2.1 0 = .ok ((.aload_n 0), 1)) ∧ (decode zy_takeResult_4_11.2.1 1 = .ok ((.getfield 13), 3)) ∧ (decode zy_takeResult_4_11.2.1 4 = .ok ((.iconst 3), 1)) ∧ (decode zy_takeResult_4_11.2.1 5 = .ok ((Instr.if_icmp .ne) 58, 3)) ∧ (decode zy_takeResult_4_11.2.1 63 = .ok ((.aload_n 1), 1)) ∧ (decode zy_takeResult_4_11.2.1 64 = .ok ((.getfield 54), 3)) ∧ (decode zy_takeResult_4_11.2.1 67 = .ok ((.iconst 2), 1)) ∧ (decode zy_takeResult_4_11.2.1 68 = .ok ((.aload_n 0), 1)) ∧ (decode zy_takeResult_4_11.2.1 69 = .ok ((.getfield 32), 3)) ∧ (decode zy_takeResult_4_11.2.1 72 = .ok ((.imul), 1)) := by decide +kernel
theorem zd_4_11_0 : zz_D zy_takeResult_4_11 0 (.aload_n 0) 1 1 := ⟨zg_4_11_0.1, rfl⟩
theorem zd_4_11_1 : zz_D zy_takeResult_4_11 1 (.getfield 13) 3 4 := ⟨zg_4_11_0.2.1, rfl⟩
theorem zd_4_11_4 : zz_D zy_takeResult_4_11 4 (.iconst 3) 1 5 := ⟨zg_4_11_0.2.2.1, rfl⟩
theorem zd_4_11_5 : zz_B zy_takeResult_4_11 5 (Instr.if_icmp .ne) 63 8 := ⟨58, zg_4_11_0.2.2.2.1, rfl, rfl⟩
theorem zd_4_11_63 : zz_D zy_takeResult_4_11 63 (.aload_n 1) 1 64 := ⟨zg_4_11_0.2.2.2.2.1, rfl⟩
theorem zd_4_11_64 : zz_D zy_takeResult_4_11 64 (.getfield 54) 3 67 := ⟨zg_4_11_0.2.2.2.2.2.1, rfl⟩
theorem zd_4_11_67 : zz_D zy_takeResult_4_11 67 (.iconst 2) 1 68 := ⟨zg_4_11_0.2.2.2.2.2.2.1, rfl⟩
theorem zd_4_11_68 : zz_D zy_takeResult_4_11 68 (.aload_n 0) 1 69 := ⟨zg_4_11_0.2.2.2.2.2.2.2.1, rfl⟩
theorem zd_4_11_69 : zz_D zy_takeResult_4_11 69 (.getfield 32) 3 72 := ⟨zg_4_11_0.2.2.2.2.2.2.2.2.1, rfl⟩
theorem zd_4_11_72 : zz_D zy_takeResult_4_11 72 (.imul) 1 73 := ⟨zg_4_11_0.2.2.2.2.2.2.2.2.2, rfl⟩
theorem zg_4_11_73 : (decode zy_takeResult_4_11.2.1 73 = .ok ((.iadd), 1)) ∧ (decode zy_takeResult_4_11.2.1 74 = .ok ((.aload_n 0), 1)) ∧ (decode zy_takeResult_4_11.2.1 75 = .ok ((.getfield 23), 3)) ∧ (decode zy_takeResult_4_11.2.1 78 = .ok ((.isub), 1)) ∧ (decode zy_takeResult_4_11.2.1 79 = .ok ((.istore_n 3), 1)) ∧ (decode zy_takeResult_4_11.2.1 80 = .ok ((.aload_n 1), 1)) ∧ (decode zy_takeResult_4_11.2.1 81 = .ok ((.getfield 57), 3)) ∧ (decode zy_takeResult_4_11.2.1 84 = .ok ((.iconst 2), 1)) ∧ (decode zy_takeResult_4_11.2.1 85 = .ok ((.aload_n 0), 1)) ∧ (decode zy_takeResult_4_11.2.1 86 = .ok ((.getfield 32), 3)) := by decide +kernel
theorem zd_4_11_73 : zz_D zy_takeResult_4_11 73 (.iadd) 1 74 := ⟨zg_4_11_73.1, rfl⟩
theorem zd_4_11_74 : zz_D zy_takeResult_4_11 74 (.aload_n 0) 1 75 := ⟨zg_4_11_73.2.1, rfl⟩
theorem zd_4_11_75 : zz_D zy_takeResult_4_11 75 (.getfield 23) 3 78 := ⟨zg_4_11_73.2.2.1, rfl⟩
theorem zd_4_11_78 : zz_D zy_takeResult_4_11 78 (.isub) 1 79 := ⟨zg_4_11_73.2.2.2.1, rfl⟩
theorem zd_4_11_79 : zz_D zy_takeResult_4_11 79 (.istore_n 3) 1 80 := ⟨zg_4_11_73.2.2.2.2.1, rfl⟩
theorem zd_4_11_80 : zz_D zy_takeResult_4_11 80 (.aload_n 1) 1 81 := ⟨zg_4_11_73.2.2.2.2.2.1, rfl⟩
theorem zd_4_11_81 : zz_D zy_takeResult_4_11 81 (.getfield 57) 3 84 := ⟨zg_4_11_73.2.2.2.2.2.2.1, rfl⟩
theorem zd_4_11_84 : zz_D zy_takeResult_4_11 84 (.iconst 2) 1 85 := ⟨zg_4_11_73.2.2.2.2.2.2.2.1, rfl⟩
theorem zd_4_11_85 : zz_D zy_takeResult_4_11 85 (.aload_n 0) 1 86 := ⟨zg_4_11_73.2.2.2.2.2.2.2.2.1, rfl⟩
theorem zd_4_11_86 : zz_D zy_takeResult_4_11 86 (.getfield 32) 3 89 := ⟨zg_4_11_73.2.2.2.2.2.2.2.2.2, rfl⟩
theorem zg_4_11_89 : (decode zy_takeResult_4_11.2.1 89 = .ok ((.imul), 1)) ∧ (decode zy_takeResult_4_11.2.1 90 = .ok ((.iadd), 1)) ∧ (decode zy_takeResult_4_11.2.1 91 = .ok ((.aload_n 0), 1)) ∧ (decode zy_takeResult_4_11.2.1 92 = .ok ((.getfield 26), 3)) ∧ (decode zy_takeResult_4_11.2.1 95 = .ok ((.isub), 1)) ∧ (decode zy_takeResult_4_11.2.1 96 = .ok ((.istore 4), 2)) ∧ (decode zy_takeResult_4_11.2.1 98 = .ok ((.iload_n 3), 1)) ∧ (decode zy_takeResult_4_11.2.1 99 = .ok ((Instr.ifCond .lt) 16, 3)) ∧ (decode zy_takeResult_4_11.2.1 115 = .ok ((.iconst 0), 1)) ∧ (decode zy_takeResult_4_11.2.1 116 = .ok ((.ireturn), 1)) := by decide +kernel
theorem zd_4_11_89 : zz_D zy_takeResult_4_11 89 (.imul) 1 90 := ⟨zg_4_11_89.1, rfl⟩
theorem zd_4_11_90 : zz_D zy_takeResult_4_11 90 (.iadd) 1 91 := ⟨zg_4_11_89.2.1, rfl⟩
theorem zd_4_11_91 : zz_D zy_takeResult_4_11 91 (.aload_n 0) 1 92 := ⟨zg_4_11_89.2.2.1, rfl⟩
theorem zd_4_11_92 : zz_D zy_takeResult_4_11 92 (.getfield 26) 3 95 := ⟨zg_4_11_89.2.2.2.1, rfl⟩
theorem zd_4_11_95 : zz_D zy_takeResult_4_11 95 (.isub) 1 96 := ⟨zg_4_11_89.2.2.2.2.1, rfl⟩
theorem zd_4_11_96 : zz_D zy_takeResult_4_11 96 (.istore 4) 2 98 := ⟨zg_4_11_89.2.2.2.2.2.1, rfl⟩
theorem zd_4_11_98 : zz_D zy_takeResult_4_11 98 (.iload_n 3) 1 99 := ⟨zg_4_11_89.2.2.2.2.2.2.1, rfl⟩
theorem zd_4_11_99 : zz_B zy_takeResult_4_11 99 (Instr.ifCond .lt) 115 102 := ⟨16, zg_4_11_89.2.2.2.2.2.2.2.1, rfl, rfl⟩
theorem zd_4_11_115 : zz_D zy_takeResult_4_11 115 (.iconst 0) 1 116 := ⟨zg_4_11_89.2.2.2.2.2.2.2.2.1, rfl⟩
theorem zd_4_11_116 : zz_D zy_takeResult_4_11 116 (.ireturn) 1 117 := ⟨zg_4_11_89.2.2.2.2.2.2.2.2.2, rfl⟩
theorem zg_4_11_102 : (decode zy_takeResult_4_11.2.1 102 = .ok ((.iload 4), 2)) ∧ (decode zy_takeResult_4_11.2.1 104 = .ok ((Instr.ifCond .lt) 11, 3)) ∧ (decode zy_takeResult_4_11.2.1 107 = .ok ((.aload_n 0), 1)) ∧ (decode zy_takeResult_4_11.2.1 108 = .ok ((.getfield 29), 3)) ∧ (decode zy_takeResult_4_11.2.1 111 = .ok ((.iconst 1), 1)) ∧ (decode zy_takeResult_4_11.2.1 112 = .ok ((Instr.if_icmp .ge) 5, 3)) ∧ (decode zy_takeResult_4_11.2.1 117 = .ok ((.aload_n 0), 1)) ∧ (decode zy_takeResult_4_11.2.1 118 = .ok ((.iload_n 3), 1)) ∧ (decode zy_takeResult_4_11.2.1 119 = .ok ((.aload_n 0), 1)) ∧ (decode zy_takeResult_4_11.2.1 120 = .ok ((.getfield 29), 3)) := by decide +kernel
theorem zd_4_11_102 : zz_D zy_takeResult_4_11 102 (.iload 4) 2 104 := ⟨zg_4_11_102.1, rfl⟩
theorem zd_4_11_104 : zz_B zy_takeResult_4_11 104 (Instr.ifCond .lt) 115 107 := ⟨11, zg_4_11_102.2.1, rfl, rfl⟩
theorem zd_4_11_107 : zz_D zy_takeResult_4_11 107 (.aload_n 0) 1 108 := ⟨zg_4_11_102.2.2.1, rfl⟩
theorem zd_4_11_108 : zz_D zy_takeResult_4_11 108 (.getfield 29) 3 111 := ⟨zg_4_11_102.2.2.2.1, rfl⟩
theorem zd_4_11_111 : zz_D zy_takeResult_4_11 111 (.iconst 1) 1 112 := ⟨zg_4_11_102.2.2.2.2.1, rfl⟩
theorem zd_4_11_112 : zz_B zy_takeResult_4_11 112 (Instr.if_icmp .ge) 117 115 := ⟨5, zg_4_11_102.2.2.2.2.2.1, rfl, rfl⟩
theorem zd_4_11_117 : zz_D zy_takeResult_4_11 117 (.aload_n 0) 1 118 := ⟨zg_4_11_102.2.2.2.2.2.2.1, rfl⟩
theorem zd_4_11_118 : zz_D zy_takeResult_4_11 118 (.iload_n 3) 1 119 := ⟨zg_4_11_102.2.2.2.2.2.2.2.1, rfl⟩
theorem zd_4_11_119 : zz_D zy_takeResult_4_11 119 (.aload_n 0) 1 120 := ⟨zg_4_11_102.2.2.2.2.2.2.2.2.1, rfl⟩
theorem zd_4_11_120 : zz_D zy_takeResult_4_11 120 (.getfield 29) 3 123 := ⟨zg_4_11_102.2.2.2.2.2.2.2.2.2, rfl⟩
theorem zg_4_11_123 : (decode zy_takeResult_4_11.2.1 123 = .ok ((.idiv), 1)) ∧ (decode zy_takeResult_4_11.2.1 124 = .ok ((.iconst 1), 1)) ∧ (decode zy_takeResult_4_11.2.1 125 = .ok ((.iadd), 1)) ∧ (decode zy_takeResult_4_11.2.1 126 = .ok ((.putfield 54), 3)) ∧ (decode zy_takeResult_4_11.2.1 129 = .ok ((.aload_n 0), 1)) ∧ (decode zy_takeResult_4_11.2.1 130 = .ok ((.iload 4), 2)) ∧ (decode zy_takeResult_4_11.2.1 132 = .ok ((.aload_n 0), 1)) ∧ (decode zy_takeResult_4_11.2.1 133 = .ok ((.getfield 29), 3)) ∧ (decode zy_takeResult_4_11.2.1 136 = .ok ((.idiv), 1)) ∧ (decode zy_takeResult_4_11.2.1 137 = .ok ((.iconst 1), 1)) := by decide +kernel
theorem zd_4_11_123 : zz_D zy_takeResult_4_11 123 (.idiv) 1 124 := ⟨zg_4_11_123.1, rfl⟩
theorem zd_4_11_124 : zz_D zy_takeResult_4_11 124 (.iconst 1) 1 125 := ⟨zg_4_11_123.2.1, rfl⟩
theorem zd_4_11_125 : zz_D zy_takeResult_4_11 125 (.iadd) 1 126 := ⟨zg_4_11_123.2.2.1, rfl⟩
theorem zd_4_11_126 : zz_D zy_takeResult_4_11 126 (.putfield 54) 3 129 := ⟨zg_4_11_123.2.2.2.1, rfl⟩
theorem zd_4_11_129 : zz_D zy_takeResult_4_11 129 (.aload_n 0) 1 130 := ⟨zg_4_11_123.2.2.2.2.1, rfl⟩
theorem zd_4_11_130 : zz_D zy_takeResult_4_11 130 (.iload 4) 2 132 := ⟨zg_4_11_123.2.2.2.2.2.1, rfl⟩
theorem zd_4_11_132 : zz_D zy_takeResult_4_11 132 (.aload_n 0) 1 133 := ⟨zg_4_11_123.2.2.2.2.2.2.1, rfl⟩
theorem zd_4_11_133 : zz_D zy_takeResult_4_11 133 (.getfield 29) 3 136 := ⟨zg_4_11_123.2.2.2.2.2.2.2.1, rfl⟩
theorem zd_4_11_136 : zz_D zy_takeResult_4_11 136 (.idiv) 1 137 := ⟨zg_4_11_123.2.2.2.2.2.2.2.2.1, rfl⟩
theorem zd_4_11_137 : zz_D zy_takeResult_4_11 137 (.iconst 1) 1 138 := ⟨zg_4_11_123.2.2.2.2.2.2.2.2.2, rfl⟩
theorem zg_4_11_138 : (decode zy_takeResult_4_11.2.1 138 = .ok ((.iadd), 1)) ∧ (decode zy_takeResult_4_11.2.1 139 = .ok ((.putfield 57), 3)) ∧ (decode zy_takeResult_4_11.2.1 142 = .ok ((.aload_n 0), 1)) ∧ (decode zy_takeResult_4_11.2.1 143 = .ok ((.getfield 13), 3)) ∧ (decode zy_takeResult_4_11.2.1 146 = .ok ((.iconst 2), 1)) ∧ (decode zy_takeResult_4_11.2.1 147 = .ok ((Instr.if_icmp .ne) 14, 3)) ∧ (decode zy_takeResult_4_11.2.1 161 = .ok ((.aload_n 0), 1)) ∧ (decode zy_takeResult_4_11.2.1 162 = .ok ((.getfield 42), 3)) ∧ (decode zy_takeResult_4_11.2.1 165 = .ok ((Instr.ifCond .lt) 19, 3)) ∧ (decode zy_takeResult_4_11.2.1 184 = .ok ((.iconst 0), 1)) := by decide +kernel
theorem zd_4_11_138 : zz_D zy_takeResult_4_11 138 (.iadd) 1 139 := ⟨zg_4_11_138.1, rfl⟩
theorem zd_4_11_139 : zz_D zy_takeResult_4_11 139 (.putfield 57) 3 142 := ⟨zg_4_11_138.2.1, rfl⟩
theorem zd_4_11_142 : zz_D zy_takeResult_4_11 142 (.aload_n 0) 1 143 := ⟨zg_4_11_138.2.2.1, rfl⟩
theorem zd_4_11_143 : zz_D zy_takeResult_4_11 143 (.getfield 13) 3 146 := ⟨zg_4_11_138.2.2.2.1, rfl⟩
theorem zd_4_11_146 : zz_D zy_takeResult_4_11 146 (.iconst 2) 1 147 := ⟨zg_4_11_138.2.2.2.2.1, rfl⟩
theorem zd_4_11_147 : zz_B zy_takeResult_4_11 147 (Instr.if_icmp .ne) 161 150 := ⟨14, zg_4_11_138.2.2.2.2.2.1, rfl, rfl⟩
theorem zd_4_11_161 : zz_D zy_takeResult_4_11 161 (.aload_n 0) 1 162 := ⟨zg_4_11_138.2.2.2.2.2.2.1, rfl⟩
theorem zd_4_11_162 : zz_D zy_takeResult_4_11 162 (.getfield 42) 3 165 := ⟨zg_4_11_138.2.2.2.2.2.2.2.1, rfl⟩
theorem zd_4_11_165 : zz_B zy_takeResult_4_11 165 (Instr.ifCond .lt) 184 168 := ⟨19, zg_4_11_138.2.2.2.2.2.2.2.2.1, rfl, rfl⟩
theorem zd_4_11_184 : zz_D zy_takeResult_4_11 184 (.iconst 0) 1 185 := ⟨zg_4_11_138.2.2.2.2.2.2.2.2.2, rfl⟩
theorem zg_4_11_185 : (decode zy_takeResult_4_11.2.1 185 = .ok ((.ireturn), 1)) ∧ (decode zy_takeResult_4_11.2.1 168 = .ok ((.aload_n 0), 1)) ∧ (decode zy_takeResult_4_11.2.1 169 = .ok ((.getfield 42), 3)) ∧ (decode zy_takeResult_4_11.2.1 172 = .ok ((.sipush 4096), 3)) ∧ (decode zy_takeResult_4_11.2.1 175 = .ok ((.aload_n 0), 1)) ∧ (decode zy_takeResult_4_11.2.1 176 = .ok ((.aload_n 1), 1)) ∧ (decode zy_takeResult_4_11.2.1 177 = .ok ((.invokevirtual 69), 3)) := by decide +kernel
theorem zd_4_11_185 : zz_D zy_takeResult_4_11 185 (.ireturn) 1 186 := ⟨zg_4_11_185.1, rfl⟩
theorem zd_4_11_168 : zz_D zy_takeResult_4_11 168 (.aload_n 0) 1 169 := ⟨zg_4_11_185.2.1, rfl⟩
theorem zd_4_11_169 : zz_D zy_takeResult_4_11 169 (.getfield 42) 3 172 := ⟨zg_4_11_185.2.2.1, rfl⟩
theorem zd_4_11_172 : zz_D zy_takeResult_4_11 172 (.sipush 4096) 3 175 := ⟨zg_4_11_185.2.2.2.1, rfl⟩
theorem zd_4_11_175 : zz_D zy_takeResult_4_11 175 (.aload_n 0) 1 176 := ⟨zg_4_11_185.2.2.2.2.1, rfl⟩
theorem zd_4_11_176 : zz_D zy_takeResult_4_11 176 (.aload_n 1) 1 177 := ⟨zg_4_11_185.2.2.2.2.2.1, rfl⟩
theorem zd_4_11_177 : zz_D zy_takeResult_4_11 177 (.invokevirtual 69) 3 180 := ⟨zg_4_11_185.2.2.2.2.2.2, rfl⟩
theorem zg_4_12_0 : (decode zy_parametersSize_4_12.2.1 0 = .ok ((.aload_n 0), 1)) ∧ (decode zy_parametersSize_4_12.2.1 1 = .ok ((.getfield 60), 3)) ∧ (decode zy_parametersSize_4_12.2.1 4 = .ok ((.iconst 4), 1)) ∧ (decode zy_parametersSize_4_12.2.1 5 = .ok ((.aload_n 0), 1)) ∧ (decode zy_parametersSize_4_12.2.1 6 = .ok ((.getfield 23), 3)) ∧ (decode zy_parametersSize_4_12.2.1 9 = .ok ((.aload_n 0), 1)) ∧ (decode zy_parametersSize_4_12.2.1 10 = .ok ((.getfield 26), 3)) ∧ (decode zy_parametersSize_4_12.2.1 13 = .ok ((.imul), 1)) ∧ (decode zy_parametersSize_4_12.2.1 14 = .ok ((.aload_n 1), 1)) ∧ (decode zy_parametersSize_4_12.2.1 15 = .ok ((.getfield 60), 3)) := by decide +kernel
theorem zd_4_12_0 : zz_D zy_parametersSize_4_12 0 (.aload_n 0) 1 1 := ⟨zg_4_12_0.1, rfl⟩
theorem zd_4_12_1 : zz_D zy_parametersSize_4_12 1 (.getfield 60) 3 4 := ⟨zg_4_12_0.2.1, rfl⟩
theorem zd_4_12_4 : zz_D zy_parametersSize_4_12 4 (.iconst 4) 1 5 := ⟨zg_4_12_0.2.2.1, rfl⟩
theorem zd_4_12_5 : zz_D zy_parametersSize_4_12 5 (.aload_n 0) 1 6 := ⟨zg_4_12_0.2.2.2.1, rfl⟩
theorem zd_4_12_6 : zz_D zy_parametersSize_4_12 6 (.getfield 23) 3 9 := ⟨zg_4_12_0.2.2.2.2.1, rfl⟩
theorem zd_4_12_9 : zz_D zy_parametersSize_4_12 9 (.aload_n 0) 1 10 := ⟨zg_4_12_0.2.2.2.2.2.1, rfl⟩
theorem zd_4_12_10 : zz_D zy_parametersSize_4_12 10 (.getfield 26) 3 13 := ⟨zg_4_12_0.2.2.2.2.2.2.1, rfl⟩
theorem zd_4_12_13 : zz_D zy_parametersSize_4_12 13 (.imul) 1 14 := ⟨zg_4_12_0.2.2.2.2.2.2.2.1, rfl⟩
theorem zd_4_12_14 : zz_D zy_parametersSize_4_12 14 (.aload_n 1) 1 15 := ⟨zg_4_12_0.2.2.2.2.2.2.2.2.1, rfl⟩
theorem zd_4_12_15 : zz_D zy_parametersSize_4_12 15 (.getfield 60) 3 18 := ⟨zg_4_12_0.2.2.2.2.2.2.2.2.2, rfl⟩
theorem zg_4_12_18 : (decode zy_parametersSize_4_12.2.1 18 = .ok ((.imul), 1)) ∧ (decode zy_parametersSize_4_12.2.1 19 = .ok ((.iadd), 1)) ∧ (decode zy_parametersSize_4_12.2.1 20 = .ok ((.imul), 1)) ∧ (decode zy_parametersSize_4_12.2.1 21 = .ok ((.ireturn), 1)) := by decide +kernel
theorem zd_4_12_18 : zz_D zy_parametersSize_4_12 18 (.imul) 1 19 := ⟨zg_4_12_18.1, rfl⟩
theorem zd_4_12_19 : zz_D zy_parametersSize_4_12 19 (.iadd) 1 20 := ⟨zg_4_12_18.2.1, rfl⟩
theorem zd_4_12_20 : zz_D zy_parametersSize_4_12 20 (.imul) 1 21 := ⟨zg_4_12_18.2.2.1, rfl⟩
theorem zd_4_12_21 : zz_D zy_parametersSize_4_12 21 (.ireturn) 1 22 := ⟨zg_4_12_18.2.2.2, rfl⟩
